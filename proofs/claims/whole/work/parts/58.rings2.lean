/-! Rings: one search for the class's and the model's. The best so far: how many, what is met, the least sum, the persons. -/
abbrev BS : Type := Nat × Nat × Nat × (Nat → Nat)
def bo (m L : Nat) (r : Nat → Nat) (b : BS) : BS := if b.2.1 < L * m ∨ (L * m = b.2.1 ∧ m < b.1) then (m, L * m, L, r) else b
def bfor (g : Nat → BS → BS) : Nat → Nat → BS → BS
  | 0, _, b => b
  | c + 1, k, b => bfor g c (k + 1) (g k b)
def sp_try (o : Nat → Int32) (W : Nat → Nat → Nat → (Nat → Nat) → BS → BS) (n u a : Nat) (r : Nat → Nat) (x : Nat) (b : BS) : BS :=
  if u.testBit x = false ∧ ¬ o (8 * r n + x) = 0 then W (n + 1) (u ||| 2 ^ x) (min a (nt (o (8 * r n + x)))) (updN r (n + 1) x) b else b
def sp_close (o : Nat → Int32) (s n a : Nat) (r : Nat → Nat) (b : BS) : BS := if 0 < n ∧ 0 < o (8 * r n + s) then bo (n + 1) (min a (nt (o (8 * r n + s)))) r b else b
def sp_node (o : Nat → Int32) (P s : Nat) : Nat → Nat → Nat → Nat → (Nat → Nat) → BS → BS
  | 0, n, u, a, r, b => bfor (sp_try o (fun _ _ _ _ b => b) n u a r) (P - 1 - s) (s + 1) (sp_close o s n a r b)
  | f + 1, n, u, a, r, b => bfor (sp_try o (sp_node o P s f) n u a r) (P - 1 - s) (s + 1) (sp_close o s n a r b)
def sp_start (o : Nat → Int32) (P s : Nat) (b : BS) : BS := sp_node o P s 7 0 (2 ^ s) 2147483647 (fun _ => s) b
def sp_find (o : Nat → Int32) (P : Nat) : BS := bfor (sp_start o P) P 0 (0, 0, 0, fun _ => 0)
/-- the least sum on a way -/
def pm (o : Nat → Int32) (n : Nat) (r : Nat → Nat) (a : Nat) : Prop := (∀ i, i < n → a ≤ nt (o (8 * r i + r (i + 1)))) ∧ (n = 0 ∨ ∃ i, i < n ∧ a = nt (o (8 * r i + r (i + 1)))) ∧ (n = 0 → a = 2147483647)
theorem pm.start (o : Nat → Int32) (r : Nat → Nat) : pm o 0 r 2147483647 := ⟨fun i hi => by omega, Or.inl rfl, fun _ => rfl⟩
theorem pm.le {o : Nat → Int32} {B n a : Nat} {r : Nat → Nat} (h : pm o n r a) (hb : ob B o) (hB : B ≤ 5000000) (hr : ∀ i, i ≤ n → r i < 8) : a ≤ 2147483647 ∧ (0 < n → a ≤ B) := by
  rcases h.2.1 with h0 | ⟨i, hi, e⟩
  · have := h.2.2 h0
    exact ⟨by omega, fun z => by omega⟩
  · have h1 := hr i (by omega)
    have h2 := hr (i + 1) (by omega)
    have := (hb.at hB (i := 8 * r i + r (i + 1)) (by omega)).2
    exact ⟨by omega, fun _ => by omega⟩
theorem pm.step {o : Nat → Int32} {B n a : Nat} {r : Nat → Nat} {x : Nat} (h : pm o n r a) (hb : ob B o) (hB : B ≤ 5000000) (hr : r n < 8) (hx : x < 8) : pm o (n + 1) (updN r (n + 1) x) (min a (nt (o (8 * r n + x)))) := by
  have hle := (hb.at hB (i := 8 * r n + x) (by omega)).2
  have old : ∀ i, i < n → (updN r (n + 1) x) i = r i ∧ (updN r (n + 1) x) (i + 1) = r (i + 1) := fun i hi => ⟨updN_ne _ _ (by omega), updN_ne _ _ (by omega)⟩
  have new : (updN r (n + 1) x) n = r n ∧ (updN r (n + 1) x) (n + 1) = x := ⟨updN_ne _ _ (by omega), updN_same _ _ _⟩
  refine ⟨fun i hi => ?_, Or.inr ?_, fun z => by omega⟩
  · by_cases e : i = n
    · subst e; rw [new.1, new.2]; omega
    · rw [(old i (by omega)).1, (old i (by omega)).2]
      have := h.1 i (by omega)
      omega
  · by_cases hc : nt (o (8 * r n + x)) ≤ a
    · exact ⟨n, by omega, by rw [new.1, new.2]; omega⟩
    · rcases h.2.1 with h0 | ⟨i, hi, e⟩
      · have := h.2.2 h0; omega
      · exact ⟨i, by omega, by rw [(old i hi).1, (old i hi).2]; omega⟩
/-- a ring's least sum -/
theorem pm.ring {o : Nat → Int32} {B P s n u a : Nat} {r : Nat → Nat} (h : pm o n r a) (hp : pth o P s n u r) (hP : P ≤ 8) (hs : s ≤ 8) (hb : ob B o) (hB : B ≤ 5000000) (h0 : 0 < n) : gl o r (n + 1) (n + 1) = nI (min a (nt (o (8 * r n + s)))) ∧ min a (nt (o (8 * r n + s))) ≤ B := by
  have hf := hp.few hs
  have hr : ∀ i, i < n + 1 → r i < 8 := fun i hi => by have := (hp.2.1 i (by omega)).2.1; omega
  obtain ⟨L, h1, h2, h3, j, h4, h5⟩ := gl_min hb hB hr (n + 1) (by omega) (Nat.le_refl _)
  have lkj : ∀ j, j < n → lk r (n + 1) j = 8 * r j + r (j + 1) := fun j hj => by unfold lk; rw [Nat.mod_eq_of_lt (by omega)]
  have lkn : lk r (n + 1) n = 8 * r n + s := by unfold lk; rw [Nat.mod_self, hp.1]
  have e : L = min a (nt (o (8 * r n + s))) := by
    apply Nat.le_antisymm
    · refine Nat.le_min.mpr ⟨?_, ?_⟩
      · rcases h.2.1 with z | ⟨i, hi, e⟩
        · omega
        · rw [e, ← lkj i hi]; exact h3 i (by omega)
      · rw [← lkn]; exact h3 n (by omega)
    · by_cases hj : j < n
      · rw [h5, lkj j hj]
        have := h.1 j hj
        omega
      · have : j = n := by omega
        rw [h5, this, lkn]
        omega
  rw [← e]
  exact ⟨h1, h2⟩
theorem ob_pos {B : Nat} {o : Nat → Int32} (hb : ob B o) (hB : B ≤ 5000000) {i : Nat} (hi : i < 64) : (0 < o i ↔ ¬ o i = 0) ∧ (¬ o i = 0 ↔ 0 < nt (o i)) := by
  obtain ⟨h1, h2⟩ := hb.at hB hi
  generalize nt (o i) = v at *
  rw [h1]
  have e0 : (0 : Int32) = nI 0 := rfl
  rw [e0, nI_ltI (by omega) (by omega), nI_eq (by omega) (by omega)]
  omega
/-- the model's best is the best -/
def mb (B : Nat) (σ : RS) (b : BS) : Prop := σ 0 59 = nI b.1 ∧ b.1 ≤ 8 ∧ (b.1 = 0 → b.2.1 = 0) ∧ (0 < b.1 → σ 0 60 = nI b.2.1 ∧ σ 0 61 = nI b.2.2.1 ∧ ∀ i, i < b.1 → σ 41 i = nI (b.2.2.2 i) ∧ b.2.2.2 i < 8) ∧ b.2.1 ≤ 8 * B
theorem mb_kp {B m : Nat} {σ σ' : RS} {b : BS} (h : mb B σ b) (h0 : σ' 0 59 = σ 0 59 ∧ σ' 0 60 = σ 0 60 ∧ σ' 0 61 = σ 0 61) (h41 : σ' 41 = σ 41) (_ : m = m) : mb B σ' b := by
  unfold mb
  rw [h0.1, h0.2.1, h0.2.2, h41]
  exact h
theorem mb_ring {B P s n u a : Nat} {o : Nat → Int32} {r : Nat → Nat} {σ : RS} {b : BS} (hb : ob B o) (hB : B ≤ 5000000) (hP : P ≤ 8) (hs : s < P) (hp : pth o P s n u r) (hpm : pm o n r a) (hr : f_rows P σ r (n + 1)) (h33 : σ 33 = o) (h0 : 0 < n) (hc : 0 < o (8 * r n + s)) (h : mb B σ b) : mb B (g_isRing σ r (n + 1)) (bo (n + 1) (min a (nt (o (8 * r n + s)))) r b) := by
  have hf := hp.few (by omega)
  obtain ⟨hL, hLB⟩ := hpm.ring hp hP (by omega) hb hB h0
  have hrn : r n < 8 := by have := (hp.2.1 n (Nat.le_refl _)).2.1; omega
  have hcl := (ob_pos hb hB (i := 8 * r n + s) (by omega))
  have hapos : 0 < a := by
    rcases hpm.2.1 with z | ⟨i, hi, e⟩
    · omega
    · have h1 := (hp.2.1 i (by omega)).2.1
      have h2 := (hp.2.1 (i + 1) (by omega)).2.1
      have := (ob_pos hb hB (i := 8 * r i + r (i + 1)) (by omega)).2.mp (hp.2.2.2.1 i hi)
      omega
  have hLpos : 0 < min a (nt (o (8 * r n + s))) := by
    have := hcl.2.mp (hcl.1.mp hc)
    omega
  obtain ⟨h59, hb8, hb0, hbr, hbw⟩ := h
  have e1 : g_least σ r (n + 1) (n + 1) = nI (min a (nt (o (8 * r n + s)))) := by rw [g_least_gl, h33]; exact hL
  generalize min a (nt (o (8 * r n + s))) = L at *
  have hLm : L * (n + 1) ≤ 8 * B := by
    calc L * (n + 1) ≤ B * 8 := Nat.mul_le_mul hLB (by omega)
      _ = 8 * B := Nat.mul_comm _ _
  have e2 : nI L * nI (n + 1) = nI (L * (n + 1)) := nI_mul _ _
  unfold g_isRing bo
  rw [e1, e2, h59]
  have key : (0 < nI b.1 ∧ (nI (L * (n + 1)) < σ 0 60 ∨ nI (L * (n + 1)) = σ 0 60 ∧ nI b.1 ≤ nI (n + 1))) ↔ ¬ (b.2.1 < L * (n + 1) ∨ (L * (n + 1) = b.2.1 ∧ n + 1 < b.1)) := by
    rw [show (0 : Int32) = nI 0 from rfl, nI_ltI (by omega) (by omega), nI_leI (by omega) (by omega)]
    by_cases z : 0 < b.1
    · obtain ⟨q1, -, -⟩ := hbr z
      rw [q1, nI_ltI (by omega) (by omega), nI_eq (by omega) (by omega)]
      omega
    · have z0 : b.1 = 0 := by omega
      have := hb0 z0
      have : 0 < L * (n + 1) := Nat.mul_pos hLpos (by omega)
      omega
  by_cases hk : b.2.1 < L * (n + 1) ∨ (L * (n + 1) = b.2.1 ∧ n + 1 < b.1)
  · rw [if_pos hk, if_neg (fun z => key.mp z hk)]
    exact ⟨rfl, by show n + 1 ≤ 8; omega, (fun z => by cases z), fun _ => ⟨rfl, rfl, fun i hi => ⟨(if_pos hi).trans (hr i hi).1, by have := (hr i hi).2; show r i < 8; omega⟩⟩, hLm⟩
  · rw [if_neg hk, if_pos (key.mpr hk)]
    exact ⟨h59, hb8, hb0, hbr, hbw⟩
theorem sp_model {B P s : Nat} {o : Nat → Int32} (hb : ob B o) (hB : B ≤ 5000000) (hP : P ≤ 8) (hs : s < P) : ∀ (f n u a : Nat) (r : Nat → Nat) (σ : RS) (b : BS), n + f = 7 → pth o P s n u r → pm o n r a → f_rows P σ r (n + 1) → σ 33 = o → mb B σ b → mb B (f_node P s f n u r σ) (sp_node o P s f n u a r b) := by
  have keep43 : ∀ (σ : RS) (i : Nat) (v : Int32) (b : BS), mb B σ b → mb B (s2 σ 43 i v) b := fun σ i v b h => mb_kp (m := 0) h ⟨rfl, rfl, rfl⟩ rfl rfl
  have loop : ∀ (n u a : Nat) (r : Nat → Nat) (W : Nat → Nat → (Nat → Nat) → RS → RS) (V : Nat → Nat → Nat → (Nat → Nat) → BS → BS), pth o P s n u r → pm o n r a → (∀ u r σ, f_kp (n + 2) σ (W (n + 1) u r σ)) → (∀ u a r σ b, pth o P s (n + 1) u r → pm o (n + 1) r a → f_rows P σ r (n + 2) → σ 33 = o → mb B σ b → mb B (W (n + 1) u r σ) (V (n + 1) u a r b)) → ∀ (c x : Nat) (σ : RS) (b : BS), s < x → x + c ≤ P → f_rows P σ r (n + 1) → σ 33 = o → mb B σ b → mb B (r_for (f_try s W n u r) c x σ) (bfor (sp_try o V n u a r) c x b) := by
    intro n u a r W V hp hpm hk hW c
    induction c with
    | zero => intro x σ b hsx hx hr h33 hI; exact hI
    | succ c ih =>
      intro x σ b hsx hx hr h33 hI
      have k1 := f_kp_try (s := s) hk u r x σ
      refine ih (x + 1) _ _ (by omega) (by omega) (fun i hi => by rw [k1.2.2.1 i hi]; exact hr i hi) ((k1.1 33 (by decide) (by decide) (by decide) (by decide)).trans h33) ?_
      have hrn : r n < 8 := by have := (hp.2.1 n (Nat.le_refl _)).2.1; omega
      unfold f_try sp_try
      rw [h33]
      by_cases hc : u.testBit x = false ∧ ¬ o (8 * r n + x) = 0
      · rw [if_pos hc, if_pos hc]
        refine hW _ _ _ _ _ (hp.step hP hsx (by omega) hc.1 hc.2) (hpm.step hb hB hrn (by omega)) ?_ h33 (mb_kp (m := 0) hI ⟨rfl, rfl, rfl⟩ rfl rfl)
        intro i hi
        show upd (σ 42) (n + 1) (nI x) i = _ ∧ _
        by_cases h : i = n + 1
        · rw [h, upd_same, updN_same]; exact ⟨rfl, by omega⟩
        · rw [upd_ne _ _ h, updN_ne _ _ h]; exact hr i (by omega)
      · rw [if_neg hc, if_neg hc]
        exact keep43 _ _ _ _ hI
  have close : ∀ (n u a : Nat) (r : Nat → Nat) (σ : RS) (b : BS), n < 8 → pth o P s n u r → pm o n r a → f_rows P σ r (n + 1) → σ 33 = o → mb B σ b → mb B (f_close s n r σ) (sp_close o s n a r b) := by
    intro n u a r σ b hn hp hpm hr h33 hI
    unfold f_close sp_close
    rw [h33]
    by_cases hc : 0 < n ∧ 0 < o (8 * r n + s)
    · rw [if_pos hc, if_pos hc]
      exact mb_ring hb hB hP hs hp hpm hr h33 hc.1 hc.2 hI
    · rw [if_neg hc, if_neg hc]
      exact hI
  intro f
  induction f with
  | zero =>
    intro n u a r σ b hn hp hpm hr h33 hI
    have hkc := f_kp_close s n (n + 1) r σ
    exact keep43 _ _ _ _ (loop n u a r (fun _ _ _ σ => σ) (fun _ _ _ _ b => b) hp hpm (fun u r σ => f_kp.refl _ σ) (fun _ _ _ _ _ _ _ _ _ h => h) _ _ _ _ (by omega) (by omega) (fun i hi => by rw [hkc.2.2.1 i hi]; exact hr i hi) ((hkc.1 33 (by decide) (by decide) (by decide) (by decide)).trans h33) (close n u a r σ b (by omega) hp hpm hr h33 hI))
  | succ f ih =>
    intro n u a r σ b hn hp hpm hr h33 hI
    have hkc := f_kp_close s n (n + 1) r σ
    exact keep43 _ _ _ _ (loop n u a r (f_node P s f) (sp_node o P s f) hp hpm (fun u r σ => f_kp_node f (n + 1) u r σ) (fun u a r σ b h1 h2 h3 h4 h5 => ih (n + 1) u a r σ b (by omega) h1 h2 h3 h4 h5) _ _ _ _ (by omega) (by omega) (fun i hi => by rw [hkc.2.2.1 i hi]; exact hr i hi) ((hkc.1 33 (by decide) (by decide) (by decide) (by decide)).trans h33) (close n u a r σ b (by omega) hp hpm hr h33 hI))
theorem sp_find_model {B P : Nat} (hB : B ≤ 5000000) (hP : P ≤ 8) (σ : RS) (hb : ob B (σ 33)) : mb B (f_find P σ) (sp_find (σ 33) P) := by
  have h : ∀ (c s : Nat) (τ : RS) (b : BS), s + c = P → τ 33 = σ 33 → mb B τ b → mb B (r_for (f_start P) c s τ) (bfor (sp_start (σ 33) P) c s b) := by
    intro c
    induction c with
    | zero => intro s τ b _ _ h; exact h
    | succ c ih =>
      intro s τ b hc h33 h
      refine ih (s + 1) _ _ (by omega) ?_ ?_
      · rw [← h33]
        exact (f_kp_start P s τ).1 33 (by decide) (by decide) (by decide) (by decide)
      · exact sp_model hb hB hP (by omega) 7 0 _ _ _ _ b (by omega) (pth.start _ hP (by omega)) (pm.start _ _) (f_rows_0 P s (by omega) τ) h33 (mb_kp (m := 0) h ⟨rfl, rfl, rfl⟩ rfl rfl)
  refine h P 0 _ _ (by omega) rfl ?_
  exact ⟨rfl, Nat.zero_le _, fun _ => rfl, fun z => absurd z (Nat.lt_irrefl 0), Nat.zero_le _⟩
