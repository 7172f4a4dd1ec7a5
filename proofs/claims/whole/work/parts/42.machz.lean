/-! The class's reader is the text's machine. -/
def stk (f : Nat → Int32) : List Int32 → Prop
  | [] => True
  | x :: r => f r.length = x ∧ stk f r
theorem stk_upd (f : Nat → Int32) (n : Nat) (x : Int32) : ∀ {l : List Int32}, l.length ≤ n → stk f l → stk (upd f n x) l := by
  intro l
  induction l with
  | nil => intro _ _; trivial
  | cons y r ih =>
    intro h1 h2
    rw [List.length_cons] at h1
    exact ⟨by rw [upd_ne _ _ (by omega)]; exact h2.1, ih (by omega) h2.2⟩
def zv (σ : RS) (ops : List Int32) (cds : List YC) : Prop := σ 0 3 = nI ops.length ∧ stk (σ 1) ops ∧ σ 4 7 = nI cds.length ∧ ∀ i c, cds[i]? = some c → σ 5 i = c.1 ∧ σ 6 i = c.2
/-- what the pile's and the codes' writing keeps -/
def zk (σ σ' : RS) : Prop := (∀ c, c = 2 ∨ c = 3 ∨ 7 ≤ c → σ' c = σ c) ∧ (∀ j, j ≠ 3 → σ' 0 j = σ 0 j) ∧ ∀ j, j ≠ 7 → σ' 4 j = σ 4 j
theorem zk.refl (σ : RS) : zk σ σ := ⟨fun _ _ => rfl, fun _ _ => rfl, fun _ _ => rfl⟩
theorem zk.trans {a b c : RS} (h : zk a b) (g : zk b c) : zk a c := ⟨fun k hk => (g.1 k hk).trans (h.1 k hk), fun k hk => (g.2.1 k hk).trans (h.2.1 k hk), fun k hk => (g.2.2 k hk).trans (h.2.2 k hk)⟩
theorem zv_push {σ : RS} {ops : List Int32} {cds : List YC} (h : zv σ ops cds) (hl : ops.length < 400) (k : Int32) : zv (z_push σ k) (k :: ops) cds ∧ zk σ (z_push σ k) := by
  obtain ⟨h1, h2, h3, h4⟩ := h
  have e : (z_push σ k) 1 = upd (σ 1) ops.length k := by
    show putF 400 (σ 1) (σ 0 3) k = _
    rw [h1]
    exact putF_nI _ _ hl (by omega)
  refine ⟨⟨?_, ?_, h3, h4⟩, ⟨fun c hc => ?_, fun j hj => ?_, fun j hj => rfl⟩⟩
  · show σ 0 3 + 1 = _
    rw [h1, nI_1]; rfl
  · rw [e]
    exact ⟨upd_same _ _ _, stk_upd _ _ _ (Nat.le_refl _) h2⟩
  · show (s2 (s1 σ 1 _) 0 3 _) c = σ c
    rw [show (s2 (s1 σ 1 (putF 400 (σ 1) (σ 0 3) k)) 0 3 (σ 0 3 + 1)) c = (s1 σ 1 (putF 400 (σ 1) (σ 0 3) k)) c from s1_ne _ _ (by omega)]
    exact s1_ne _ _ (by omega)
  · exact upd_ne _ _ hj
theorem zv_add {σ : RS} {ops : List Int32} {cds : List YC} (h : zv σ ops cds) (hl : cds.length < 400) (k v : Int32) : zv (z_add σ k v) ops (cds ++ [(k, v)]) ∧ zk σ (z_add σ k v) := by
  obtain ⟨h1, h2, h3, h4⟩ := h
  have e5 : (z_add σ k v) 5 = upd (σ 5) cds.length k := by
    show putF 400 (σ 5) (σ 4 7) k = _
    rw [h3]
    exact putF_nI _ _ hl (by omega)
  have e6 : (z_add σ k v) 6 = upd (σ 6) cds.length v := by
    show putF 400 (σ 6) (σ 4 7) v = _
    rw [h3]
    exact putF_nI _ _ hl (by omega)
  refine ⟨⟨h1, h2, ?_, fun i c hc => ?_⟩, ⟨fun c hc => ?_, fun j hj => rfl, fun j hj => ?_⟩⟩
  · show σ 4 7 + 1 = _
    rw [h3, nI_1, List.length_append]; rfl
  · rw [e5, e6]
    by_cases hi : i < cds.length
    · rw [List.getElem?_append_left hi] at hc
      rw [upd_ne _ _ (by omega), upd_ne _ _ (by omega)]
      exact h4 i c hc
    · have hi2 : i = cds.length := by
        have := (List.getElem?_eq_some_iff.mp hc).1
        rw [List.length_append, List.length_cons, List.length_nil] at this
        omega
      subst hi2
      rw [List.getElem?_append_right (Nat.le_refl _), Nat.sub_self] at hc
      cases hc
      exact ⟨upd_same _ _ _, upd_same _ _ _⟩
  · show (s2 (s1 (s1 σ 5 _) 6 _) 4 7 _) c = σ c
    rw [show (s2 (s1 (s1 σ 5 (putF 400 (σ 5) (σ 4 7) k)) 6 (putF 400 (σ 6) (σ 4 7) v)) 4 7 (σ 4 7 + 1)) c = (s1 (s1 σ 5 (putF 400 (σ 5) (σ 4 7) k)) 6 (putF 400 (σ 6) (σ 4 7) v)) c from s1_ne _ _ (by omega)]
    rw [s1_ne _ _ (by omega), s1_ne _ _ (by omega)]
  · exact upd_ne _ _ hj
theorem zv_settle (least : Int32) : ∀ (ops : List Int32) (cds : List YC) (σ : RS), zv σ ops cds → ops.length + cds.length ≤ 400 → zv (z_settle least ops.length σ) (ym_set least ops cds).1 (ym_set least ops cds).2 ∧ zk σ (z_settle least ops.length σ) := by
  intro ops
  induction ops with
  | nil => intro cds σ h _; exact ⟨h, zk.refl σ⟩
  | cons x r ih =>
    intro cds σ h hl
    have hx : σ 1 r.length = x := h.2.1.1
    rw [List.length_cons] at hl
    rw [List.length_cons, z_settle, ym_set, hx]
    by_cases hr : least ≤ z_rank x
    · rw [if_pos hr, if_pos hr]
      have h0 : zv (s2 σ 0 3 (nI r.length)) r cds := ⟨rfl, h.2.1.2, h.2.2.1, h.2.2.2⟩
      have k0 : zk σ (s2 σ 0 3 (nI r.length)) := ⟨fun c hc => s1_ne _ _ (by omega), fun j hj => upd_ne _ _ hj, fun j hj => rfl⟩
      have h1 := zv_add h0 (by omega) x 0
      have h2 := ih _ _ h1.1 (by rw [List.length_append, List.length_cons, List.length_nil]; omega)
      exact ⟨h2.1, (k0.trans h1.2).trans h2.2⟩
    · rw [if_neg hr, if_neg hr]
      exact ⟨h, zk.refl σ⟩
/-- the rules that are done, in the class's rows -/
def zl (σ : RS) : Nat → Nat → List YL → Prop
  | _, _, [] => True
  | r, a, R :: rest => (σ 7 r = bI R.1 ∧ σ 8 r = nI a ∧ σ 9 r = nI (a + R.2.1.length) ∧ σ 10 r = nI (a + (ym_flat1 R).length)) ∧ zl σ (r + 1) (a + (ym_flat1 R).length) rest
theorem zl_same {σ τ : RS} : ∀ (l : List YL) (r a : Nat), (∀ k, k < r + l.length → τ 7 k = σ 7 k ∧ τ 8 k = σ 8 k ∧ τ 9 k = σ 9 k ∧ τ 10 k = σ 10 k) → zl σ r a l → zl τ r a l := by
  intro l
  induction l with
  | nil => intro r a _ _; trivial
  | cons R rest ih =>
    intro r a h1 h2
    rw [List.length_cons] at h1
    obtain ⟨e7, e8, e9, e10⟩ := h1 r (by omega)
    exact ⟨⟨e7.trans h2.1.1, e8.trans h2.1.2.1, e9.trans h2.1.2.2.1, e10.trans h2.1.2.2.2⟩, ih (r + 1) _ (fun k hk => h1 k (by omega)) h2.2⟩
theorem zl_keep {σ τ : RS} {l : List YL} {r a : Nat} (h : ∀ c, 7 ≤ c → c ≤ 10 → τ c = σ c) (h2 : zl σ r a l) : zl τ r a l := zl_same l r a (fun k _ => ⟨by rw [h 7 (by omega) (by omega)], by rw [h 8 (by omega) (by omega)], by rw [h 9 (by omega) (by omega)], by rw [h 10 (by omega) (by omega)]⟩) h2
theorem zl_snoc {σ : RS} (R : YL) : ∀ (l : List YL) (r a : Nat), zl σ r a l → (σ 7 (r + l.length) = bI R.1 ∧ σ 8 (r + l.length) = nI (a + (ym_flat l).length) ∧ σ 9 (r + l.length) = nI (a + (ym_flat l).length + R.2.1.length) ∧ σ 10 (r + l.length) = nI (a + (ym_flat l).length + (ym_flat1 R).length)) → zl σ r a (l ++ [R]) := by
  intro l
  induction l with
  | nil => intro r a _ h; exact ⟨h, trivial⟩
  | cons x l ih =>
    intro r a h h2
    rw [List.length_cons, ym_flat, List.length_append] at h2
    rw [List.cons_append]
    refine ⟨h.1, ih (r + 1) _ h.2 ?_⟩
    rw [show r + 1 + l.length = r + (l.length + 1) by omega, show a + (ym_flat1 x).length + (ym_flat l).length = a + ((ym_flat1 x).length + (ym_flat l).length) by omega]
    exact h2
def zr : YS → RS → Prop
  | ((aw, sd, tk, gr), (wt, out), (done, E, rels), (orf, L, op)), σ =>
    (σ 0 4 = nI aw ∧ (2 ≤ aw → σ 0 5 = nI sd) ∧ σ 0 6 = nI (ym_dp wt) ∧ σ 0 7 = nI tk ∧ σ 0 8 = 0) ∧ zv σ (ym_ops ((aw, sd, tk, gr), (wt, out), (done, E, rels), (orf, L, op))) (ym_all ((aw, sd, tk, gr), (wt, out), (done, E, rels), (orf, L, op))) ∧ σ 4 8 = nI (done.length + if aw = 0 then 0 else 1) ∧ zl σ 0 0 done ∧ (0 < aw → σ 7 done.length = bI gr ∧ σ 8 done.length = nI (ym_flat done).length) ∧ (2 ≤ aw → ¬ sd = 0 → σ 9 done.length = nI ((ym_flat done).length + E.length))
theorem nI_is {a : Nat} (b : Nat) (ha : a < 2 ^ 31) (hb : b < 2 ^ 31) {x : Int32} (h : x = nI b) : (nI a = x) = (a = b) := by
  rw [h]; exact propext (nI_eq ha hb)
theorem nI_01 : (0 : Int32) = nI 0 ∧ (1 : Int32) = nI 1 ∧ (2 : Int32) = nI 2 := by decide
theorem nI_b {a b : Nat} (ha : a < 2 ^ 31) (hb : b < 2 ^ 31) : (nI a = nI b) = (a = b) := propext (nI_eq ha hb)
theorem zr_fits {S : YS} {σ : RS} (h : zr S σ) (ho : ym_ok S) : z_fits σ = ym_fits S (σ 2 1) := by
  obtain ⟨⟨aw, sd, tk, gr⟩, ⟨wt, out⟩, ⟨done, E, rels⟩, orf, L, op⟩ := S
  obtain ⟨⟨h4, h5, h6, h7, h8⟩, -⟩ := h
  obtain ⟨a1, a2, a3, a4, a5, -⟩ := ho
  unfold z_fits ym_fits
  dsimp only
  have e0 : (σ 0 4 = 0) = (aw = 0) := by rw [h4, nI_01.1]; exact nI_b (by omega) (by omega)
  have e1 : (σ 0 4 = 1) = (aw = 1) := by rw [h4, nI_01.2.1]; exact nI_b (by omega) (by omega)
  have e2 : (σ 0 4 = 2) = (aw = 2) := by rw [h4, nI_01.2.2]; exact nI_b (by omega) (by omega)
  by_cases c0 : aw = 0
  · rw [if_pos (e0.mpr c0), if_pos c0]
  rw [if_neg (fun z => c0 (e0.mp z)), if_neg c0]
  by_cases c1 : aw = 1
  · rw [if_pos (e1.mpr c1), if_pos c1]
  rw [if_neg (fun z => c1 (e1.mp z)), if_neg c1]
  by_cases c2 : aw = 2
  · rw [if_pos (e2.mpr c2), if_pos c2]
  rw [if_neg (fun z => c2 (e2.mp z)), if_neg c2]
  have h5 := h5 (by omega)
  have f0 : (σ 0 5 = 0) = (sd = 0) := by rw [h5, nI_01.1]; exact nI_b (by omega) (by omega)
  have f1 : (σ 0 5 = 1) = (sd = 1) := by rw [h5, nI_01.2.1]; exact nI_b (by omega) (by omega)
  have f6 : ((0 : Int32) < σ 0 6) = (0 < ym_dp wt) := by rw [h6, nI_01.1]; exact propext (nI_ltI (by omega) (by omega))
  unfold z_fitsB
  simp only [f0, f1, f6]
theorem zr_room {S : YS} {σ : RS} (h : zr S σ) (ho : ym_ok S) : z_room σ = ym_room S (σ 2 1) := by
  obtain ⟨⟨aw, sd, tk, gr⟩, ⟨wt, out⟩, ⟨done, E, rels⟩, orf, L, op⟩ := S
  obtain ⟨⟨h4, h5, h6, h7, h8⟩, -, h9, -⟩ := h
  obtain ⟨a1, a2, a3, a4, a5, a6, -⟩ := ho
  unfold z_room ym_room
  dsimp only
  have e0 : (σ 0 4 = 0) = (aw = 0) := by rw [h4, nI_01.1]; exact nI_b (by omega) (by omega)
  have e1 : (σ 0 4 = 0 ∧ 16 ≤ σ 4 8) = (aw = 0 ∧ 16 ≤ done.length) := by
    rw [e0]
    refine propext ⟨fun z => ⟨z.1, ?_⟩, fun z => ⟨z.1, ?_⟩⟩
    · have := z.2
      rw [h9, if_pos z.1, Nat.add_zero, show (16 : Int32) = nI 16 from rfl, nI_leI (by omega) (by omega)] at this
      exact this
    · rw [h9, if_pos z.1, Nat.add_zero, show (16 : Int32) = nI 16 from rfl, nI_leI (by omega) (by omega)]
      exact z.2
  have e6 : ((6 : Int32) ≤ σ 0 6) = (6 ≤ ym_dp wt) := by rw [h6, show (6 : Int32) = nI 6 from rfl]; exact propext (nI_leI (by omega) (by omega))
  have e7 : (σ 0 7 < 400) = (tk < 400) := by rw [h7, show (400 : Int32) = nI 400 from rfl]; exact propext (nI_ltI (by omega) (by omega))
  simp only [e1, e6, e7]
