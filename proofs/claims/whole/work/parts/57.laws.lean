/-! The law that was read: in the class's rows and in the model's. -/
theorem mrl_of {b : Nat} {σ : RS} {q0 : Nat} : ∀ {l : List YR} {c0 : Nat}, mlr b σ q0 c0 l → (∀ j c, (mq_rels l)[j]? = some c → σ 20 (500 * b + (c0 + j)) = cv c.1 ∧ σ 21 (500 * b + (c0 + j)) = c.2) → c0 + (mq_rels l).length ≤ 400 → mrl b σ q0 c0 l := by
  intro l
  induction l with
  | nil => intro c0 _ _ _; trivial
  | cons r rs ih =>
    intro c0 h hc hl
    rw [mq_rels, List.append_assoc] at hc hl
    rw [List.length_append] at hl
    refine ⟨ih h.1 (fun j c hj => hc j c (app_get_l hj)) (by omega), h.2, fun j c hj => ?_, by omega⟩
    have := hc _ c (app_get_r hj)
    rw [show c0 + ((mq_rels rs).length + j) = c0 + (mq_rels rs).length + j by omega, ← Nat.add_assoc (500 * b)] at this
    exact this
theorem mrls_of {b : Nat} {σ : RS} : ∀ {l : List YL} {r q a : Nat}, mll b σ r q a l → (∀ j c, (mq l)[j]? = some c → σ 20 (500 * b + (a + j)) = cv c.1 ∧ σ 21 (500 * b + (a + j)) = c.2) → a + (mq l).length ≤ 400 → q + mnr l ≤ 200 → mrls b σ r q a l := by
  intro l
  induction l with
  | nil => intro r q a _ _ _ _; trivial
  | cons R rest ih =>
    intro r q a h hc hl hq
    rw [mq] at hc hl
    rw [mnr] at hq
    rw [List.length_append] at hl
    have e1 : (mq1 R).length = R.2.1.length + (mq_rels R.2.2).length := List.length_append
    refine ⟨⟨h.1.1, fun j c hj => ?_, by omega, mrl_of h.1.2 (fun j c hj => ?_) (by omega), by omega⟩, ih h.2 (fun j c hj => ?_) (by omega) (by omega)⟩
    · have := hc j c (app_get_l (app_get_l hj))
      rw [← Nat.add_assoc] at this
      exact this
    · have := hc _ c (app_get_l (app_get_r hj))
      rw [show a + (R.2.1.length + j) = a + R.2.1.length + j by omega] at this
      exact this
    · have := hc _ c (app_get_r hj)
      rw [show a + ((mq1 R).length + j) = a + (mq1 R).length + j by omega] at this
      exact this
theorem mq_flat : ∀ {rels : List YR}, (mq_rels rels).length ≤ (ym_A rels).length := by
  intro rels
  induction rels with
  | nil => exact Nat.le_refl _
  | cons r rs ih =>
    have hp : (ym_A rs).length ≤ (ym_pre r.1 rs).length := by
      unfold ym_pre ym_O
      split
      · rw [List.length_append]; omega
      · exact Nat.le_refl _
    rw [mq_rels, ym_A_cons]
    simp only [List.length_append]
    omega
theorem mq_flat_l : ∀ {l : List YL}, (mq l).length ≤ (ym_flat l).length := by
  intro l
  induction l with
  | nil => exact Nat.le_refl _
  | cons R l ih =>
    have := mq_flat (rels := R.2.2)
    rw [mq, ym_flat, List.length_append, List.length_append]
    unfold mq1 ym_flat1 ym_O
    simp only [List.length_append]
    omega
/-- a text that has been read to its end -/
theorem ym_ok_done {S : YS} (h : ym_ok S) (h0 : S.1.1 = 0) : S.2.2.1.1.length ≤ 16 ∧ (∀ R ∈ S.2.2.1.1, ym_okL R) ∧ (ym_flat S.2.2.1.1).length ≤ 400 := by
  obtain ⟨⟨aw, sd, tk, gr⟩, ⟨wt, out⟩, ⟨done, E, rels⟩, orf, L, op⟩ := S
  have h0 : aw = 0 := h0
  subst h0
  obtain ⟨a1, a2, a3, a4, a5, a6, a7, a8, -, a10⟩ := h
  refine ⟨a6, a8, ?_⟩
  have : (ym_flat done ++ []).length + 0 ≤ tk := a10
  rw [List.append_nil] at this
  show (ym_flat done).length ≤ 400
  omega
theorem mlaw_of {b : Nat} {σ : RS} {A : List YL} (hb : b ≤ 1) (h18 : σ 0 18 = nI b) (h : msR b A σ) (hl : A.length ≤ 16) (hok : ∀ R ∈ A, ym_okL R) (hf : (ym_flat A).length ≤ 400) : mlaw b σ A := by
  obtain ⟨m1, m2, m3, m4⟩ := h
  have h1 := mq_flat_l (l := A)
  have h2 := ym_flat_len hok
  refine ⟨hb, h18, m1, hl, mrls_of m4 (fun j c hj => ?_) (by omega) (by omega), hok⟩
  rw [Nat.zero_add]
  exact m3.2 j c hj
/-- the class's law holds A (the law's own world) -/
def claw (σ : RS) (A : List YL) : Prop := σ 0 8 = nI A.length ∧ A.length ≤ 16 ∧ lzl σ 0 0 A ∧ ∀ R ∈ A, ym_okL R
theorem claw_ok {σ : RS} {A : List YL} (h : claw σ A) : lz_ok σ A.length := by
  obtain ⟨h1, h2, h3, -⟩ := h
  refine ⟨h1, h2, fun r hr => ?_⟩
  obtain ⟨a, ⟨-, e4, e5, e6⟩, -, hl⟩ := lzl_get h3 (List.getElem?_eq_getElem hr)
  rw [Nat.zero_add] at e4 e5 e6
  have e1 : (ym_flat1 A[r]).length = A[r].2.1.length + (ym_O A[r].2.2).length := List.length_append
  exact ⟨a, a + A[r].2.1.length, a + (ym_flat1 A[r]).length, by omega, by omega, hl, e4, e5, e6⟩
theorem lzl_of {σ : RS} : ∀ {l : List YL} {r a : Nat}, zl σ r a l → (∀ j c, (ym_flat l)[j]? = some c → σ 5 (a + j) = c.1 ∧ σ 6 (a + j) = c.2) → a + (ym_flat l).length ≤ 400 → lzl (fun k => σ (4 + k)) r a l := by
  intro l
  induction l with
  | nil => intro r a _ _ _; trivial
  | cons R rest ih =>
    intro r a h hc hl
    rw [ym_flat] at hc hl
    rw [List.length_append] at hl
    refine ⟨⟨h.1, fun j c hj => hc j c (app_get_l hj), by omega⟩, ih h.2 (fun j c hj => ?_) (by omega)⟩
    have := hc _ c (app_get_r hj)
    rw [← Nat.add_assoc] at this
    exact this
theorem claw_of {S : YS} {σ : RS} (h : zr S σ) (ho : ym_ok S) (h0 : S.1.1 = 0) : claw (fun k => σ (4 + k)) S.2.2.1.1 := by
  obtain ⟨b1, b2, b3⟩ := ym_ok_done ho h0
  obtain ⟨⟨aw, sd, tk, gr⟩, ⟨wt, out⟩, ⟨done, E, rels⟩, orf, L, op⟩ := S
  have h0 : aw = 0 := h0
  subst h0
  obtain ⟨-, hv, h48, hzl, -⟩ := h
  have hv4 : ∀ i c, (ym_flat done ++ [])[i]? = some c → σ 5 i = c.1 ∧ σ 6 i = c.2 := hv.2.2.2
  rw [List.append_nil] at hv4
  exact ⟨h48, b1, lzl_of hzl (fun j c hj => by rw [Nat.zero_add]; exact hv4 j c hj) (by rw [Nat.zero_add]; exact b3), b2⟩
theorem lzE_same {σ τ : RS} (h : ∀ k, 1 ≤ k → k ≤ 6 → τ k = σ k) {r a : Nat} {R : YL} (g : lzE σ r a R) : lzE τ r a R := by
  unfold lzE at g ⊢
  rw [h 1 (by omega) (by omega), h 2 (by omega) (by omega), h 3 (by omega) (by omega), h 4 (by omega) (by omega), h 5 (by omega) (by omega), h 6 (by omega) (by omega)]
  exact g
theorem lzl_same {σ τ : RS} (h : ∀ k, 1 ≤ k → k ≤ 6 → τ k = σ k) : ∀ {l : List YL} {r a : Nat}, lzl σ r a l → lzl τ r a l := by
  intro l
  induction l with
  | nil => intro r a _; trivial
  | cons R l ih => intro r a g; exact ⟨lzE_same h g.1, ih g.2⟩
theorem claw_same {σ τ : RS} (h : ∀ k, 1 ≤ k → k ≤ 6 → τ k = σ k) (h0 : τ 0 8 = σ 0 8) {A : List YL} (g : claw σ A) : claw τ A := ⟨h0.trans g.1, g.2.1, lzl_same h g.2.2.1, g.2.2.2⟩
/-- the first rule, by the class -/
theorem claw_first {σ : RS} {A : List YL} (h : claw σ A) (gr : Bool) (g : Nat → Int32) : (lz_first σ (bI gr) A.length 0 g).1 = frule (σ 8) gr 0 A := lz_first_eq gr A 0 0 g h.2.2.1 h.2.2.2
/-- the first rule, by the model -/
theorem mlaw_first {b : Nat} {σ : RS} {A : List YL} (h : mlaw b σ A) (gr : Bool) : (u_of b (bI gr) A.length 0 σ).1 = frule (σ 39) gr 0 A := u_of_eq h.1 gr (σ 39) A 0 0 0 σ h.2.2.2.2.1 h.2.2.2.2.2 rfl
theorem claw_grow {σ : RS} {A : List YL} {k : Nat} {R : YL} (h : claw σ A) (hk : A[k]? = some R) (hg : R.1 = true) (g : Nat → Int32) : (lz_grow σ k g).1 = growv (σ 8) A (nI k) := by
  obtain ⟨a, ha⟩ := lzl_get h.2.2.1 hk
  rw [Nat.zero_add] at ha
  have hlt := (List.getElem?_eq_some_iff.mp hk).1
  have h16 := h.2.1
  rw [lz_grow_eq ha (ym_okE_ev (h.2.2.2 R (List.mem_of_getElem? hk)).1 hg) g, growv_at hk (by omega)]
theorem mlaw_grow {b : Nat} {σ : RS} {A : List YL} {k f : Nat} {R : YL} (h : mlaw b σ A) (hk : A[k]? = some R) (hg : R.1 = true) (h36 : σ 36 f = nI k) : p_clamp (p_grown b σ f).1 = growv (σ 39) A (nI k) := by
  obtain ⟨q, a, ha⟩ := mrls_get h.2.2.2.2.1 hk
  rw [Nat.zero_add] at ha
  have hlt := (List.getElem?_eq_some_iff.mp hk).1
  have h16 := h.2.2.2.1
  have hb := h.1
  have e : p_rule b σ f = 16 * b + k := by unfold p_rule; rw [h36, nt_nI (by omega)]
  unfold p_grown
  rw [e, ha.1.2.1, ha.1.2.2.1]
  have hal := ha.2.2.1
  rw [nt_nI (by omega), nt_nI (by omega), (h_val_le ha.2.1 (ym_okE_ev (h.2.2.2.2.2 R (List.mem_of_getElem? hk)).1 hg) (by omega)).1, growv_at hk (by omega)]
  rfl
