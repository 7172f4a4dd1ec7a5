/-! Gifts one behind the other: holders, times given, leaves counted. -/
def lvR (hold given : Nat → Int32) (gf vf tf : Nat → Int32) (i : Nat) : Prop :=
  (∀ p y, p < 8 → y < 400 → kn_hold gf tf (nI (p * 400 + y)) (nI p) i = hold (400 * p + y) ∧ kn_given gf (nI (p * 400 + y)) i = given (400 * p + y)) ∧ ∀ p y, p < 8 → y < 400 → nI (cout hold (nI p) y 8) = nI y + 1 + kn_gain gf vf tf (nI p) 0 (nI y) i ∧ nI (caw hold (nI p) y 8) = 1 + kn_gain gf vf tf (nI p) (nI y) (nI y) i
theorem lvR_0 (gf vf tf : Nat → Int32) : lvR ss0.1 ss0.2.1 gf vf tf 0 := by
  refine ⟨fun p y hp hy => ⟨?_, rfl⟩, fun p y hp hy => ⟨?_, ?_⟩⟩
  · show nI p = nI ((400 * p + y) / 400)
    congr 1
    omega
  · rw [cout_start p y hp hy 8 (Nat.le_refl 8), if_pos hp, kn_gain, Int32.add_zero, nI_1]
  · rw [caw_start p y hp hy 8 (Nat.le_refl 8), if_pos hp, kn_gain]
    rfl
theorem lvR_none {hold given gf vf tf gf' vf' tf' : Nat → Int32} {i : Nat} (h : lvR hold given gf vf tf i) (hc : ∀ j, j < i → gf' j = gf j ∧ vf' j = vf j ∧ tf' j = tf j) (hx : gf' i = -1) : lvR hold given gf' vf' tf' (i + 1) := by
  have hg : ∀ (p : Int32) (a b : Int32), kn_gain gf' vf' tf' p a b (i + 1) = kn_gain gf vf tf p a b i := fun p a b => by
    rw [kn_gain, if_neg (fun z => z.1 hx)]
    exact kn_gain_cong i hc
  refine ⟨fun p y hp hy => ?_, fun p y hp hy => ?_⟩
  · obtain ⟨h1, h2⟩ := h.1 p y hp hy
    have hn : ¬ gf' i = nI (p * 400 + y) := by rw [hx]; exact fun z => leaf_m1 hp hy z.symm
    refine ⟨?_, ?_⟩
    · rw [kn_hold, if_neg hn, kn_hold_cong i (fun j hj => ⟨(hc j hj).1, (hc j hj).2.2⟩)]
      exact h1
    · rw [kn_given, if_neg hn, kn_given_cong i (fun j hj => (hc j hj).1), Int32.add_zero]
      exact h2
  · rw [hg, hg]
    exact h.2 p y hp hy
theorem i32_move {c c' v t : Nat} {G : Int32} {y1 : Int32} (h : c' + v = c + t) (hG : nI c = y1 + G) : nI c' = y1 + (G + nI t - nI v) := by
  have h1 : nI c' + nI v = nI c + nI t := by rw [nI_add, nI_add, h]
  have h2 : nI c' = nI c + nI t - nI v := by rw [← h1, Int32.add_sub_cancel]
  rw [h2, hG]
  simp only [Int32.sub_eq_add_neg, Int32.add_assoc]
theorem lvR_gift {hold given gf vf tf gf' vf' tf' : Nat → Int32} {i q y0 a b : Nat} (h : lvR hold given gf vf tf i) (hc : ∀ j, j < i → gf' j = gf j ∧ vf' j = vf j ∧ tf' j = tf j) (hq : q < 8) (hy0 : y0 < 400) (ha : a < 8) (hb : b < 8) (hx : gf' i = nI (q * 400 + y0)) (hv : vf' i = nI a) (ht : tf' i = nI b) (hold0 : hold (400 * q + y0) = nI a) : lvR (upd hold (400 * q + y0) (nI b)) (upd given (400 * q + y0) (given (400 * q + y0) + 1)) gf' vf' tf' (i + 1) := by
  have hday : kn_day (gf' i) = nI y0 := by rw [hx]; exact kn_day_leaf hq hy0
  have hne : ¬ gf' i = -1 := by rw [hx]; exact leaf_m1 hq hy0
  have e01 : ∀ u p : Nat, u < 8 → p < 8 → (if nI u = nI p then (1 : Int32) else 0) = nI (if nI u = nI p then 1 else 0) := fun u p _ _ => by split <;> rfl
  refine ⟨fun p y hp hy => ?_, fun p y hp hy => ?_⟩
  · obtain ⟨h1, h2⟩ := h.1 p y hp hy
    rw [kn_hold, kn_given, hx, ht, kn_hold_cong i (fun j hj => ⟨(hc j hj).1, (hc j hj).2.2⟩), kn_given_cong i (fun j hj => (hc j hj).1)]
    have hid := leaf_id (p := q) (q := p) (y := y0) (z := y) hq hp hy0 hy
    by_cases e : q = p ∧ y0 = y
    · rw [if_pos (hid.mpr e), if_pos (hid.mpr e)]
      obtain ⟨rfl, rfl⟩ := e
      rw [upd_same, upd_same, h2]
      exact ⟨rfl, rfl⟩
    · rw [if_neg (fun z => e (hid.mp z)), if_neg (fun z => e (hid.mp z)), upd_ne _ _ (by omega), upd_ne _ _ (by omega), Int32.add_zero]
      exact ⟨h1, h2⟩
  · obtain ⟨h1, h2⟩ := h.2 p y hp hy
    have m1 := cout_move (hf := hold) (p := nI p) (x := nI b) (q := q) (y0 := y0) hy0 hy 8
    have m2 := caw_move (hf := hold) (p := nI p) (x := nI b) (q := q) (y0 := y0) hy0 hy 8
    rw [hold0] at m1 m2
    rw [kn_gain, kn_gain, hday, hv, ht, kn_gain_cong i hc, kn_gain_cong i hc]
    have l0 : (0 : Int32) ≤ nI y0 := nI_pos' (by omega)
    constructor
    · by_cases hle : y0 ≤ y
      · rw [if_pos ⟨hne, l0, nI_le hle (by omega)⟩, e01 b p hb hp, e01 a p ha hp]
        have c1 : ∀ v : Int32, (if q < 8 ∧ y0 ≤ y ∧ v = nI p then (1 : Nat) else 0) = (if v = nI p then 1 else 0) := fun v => by
          by_cases z : v = nI p
          · rw [if_pos z, if_pos ⟨hq, hle, z⟩]
          · rw [if_neg z, if_neg (fun w => z w.2.2)]
        rw [c1, c1] at m1
        exact i32_move m1 h1
      · rw [if_neg (fun z => hle ((nI_leI (by omega) (by omega)).mp z.2.2))]
        rw [if_neg (fun z => hle z.2.1), if_neg (fun z => hle z.2.1)] at m1
        rw [show cout (upd hold (400 * q + y0) (nI b)) (nI p) y 8 = cout hold (nI p) y 8 by omega]
        exact h1
    · by_cases hle : y0 = y
      · rw [if_pos ⟨hne, by rw [hle]; exact Int32.le_refl _, by rw [hle]; exact Int32.le_refl _⟩, e01 b p hb hp, e01 a p ha hp]
        have c1 : ∀ v : Int32, (if q < 8 ∧ y0 = y ∧ v = nI p then (1 : Nat) else 0) = (if v = nI p then 1 else 0) := fun v => by
          by_cases z : v = nI p
          · rw [if_pos z, if_pos ⟨hq, hle, z⟩]
          · rw [if_neg z, if_neg (fun w => z w.2.2)]
        rw [c1, c1] at m2
        exact i32_move m2 h2
      · rw [if_neg (fun z => hle (Nat.le_antisymm ((nI_leI (by omega) (by omega)).mp z.2.2) ((nI_leI (by omega) (by omega)).mp z.2.1)))]
        rw [if_neg (fun z => hle z.2.1), if_neg (fun z => hle z.2.1)] at m2
        rw [show caw (upd hold (400 * q + y0) (nI b)) (nI p) y 8 = caw hold (nI p) y 8 by omega]
        exact h2
/-- facts in the class's book, as the papers' world has it -/
def cFacts (N : Nat) (F : FF) (σ : RS) : Prop := ∀ k, k < N → σ 12 k = nI (F 0 k) ∧ (F 0 k ≤ 2 → σ 13 k = nI (F 1 k)) ∧ (F 0 k ≤ 1 → σ 14 k = nI (F 2 k) ∧ σ 15 k = nI (F 4 k) ∧ σ 16 k = nI (F 5 k) ∧ σ 17 k = nI (F 3 k)) ∧ (F 0 k = 3 → σ 15 k = nI (F 6 k)) ∧ (F 0 k = 4 → σ 15 k = nI (F 6 k) ∧ σ 16 k = nI (F 1 k)) ∧ (F 0 k = 5 → σ 14 k = nI (F 2 k) ∧ σ 15 k = nI (F 6 k) ∧ σ 16 k = nI (F 1 k) ∧ σ 17 k = nI (F 3 k))
theorem c_kind {N k : Nat} {F : FF} {σ : RS} (h : cFacts N F σ) (h8 : σ 10 8 = nI N) (hN : N ≤ 120) (hk : k < N) : b_kind (bk σ) (nI k) = nI (F 0 k) := by
  unfold b_kind
  rw [show (bk σ) 0 8 = σ 10 8 from rfl, h8, if_pos ⟨nI_pos' (by omega), nI_lt hk (by omega)⟩, atF_nI _ (by omega) (by omega)]
  exact (h k hk).1
theorem c_feast {N P : Nat} {F : FF} {σ : RS} (h : cFacts N F σ) (hok : ∀ k, k < N → okF P F k) (h8 : σ 10 8 = nI N) (hN : N ≤ 120) {y : Nat} (hy : y < 400) : ∀ n, n ≤ N → b_feast (bk σ) (nI y) n = sfeast F y n := by
  intro n
  induction n with
  | zero => intro _; rfl
  | succ n ih =>
    intro hn
    have hk := c_kind h h8 hN (show n < N by omega)
    obtain ⟨⟨b0, b1, b2, b3, b4, b5, b6⟩, -⟩ := hok n (by omega)
    obtain ⟨-, -, -, -, f4, -⟩ := h n (by omega)
    rw [b_feast, sfeast, hk, ih (by omega)]
    have e15 : atF 120 ((bk σ) 5) (nI n) = σ 15 n := atF_nI _ (by omega) (by omega)
    have e16 : atF 120 ((bk σ) 6) (nI n) = σ 16 n := atF_nI _ (by omega) (by omega)
    rw [e15, e16]
    by_cases h4 : F 0 n = 4
    · obtain ⟨g1, g2⟩ := f4 h4
      rw [g1, g2]
      have c1 : (nI (F 0 n) = 4 ∧ nI (F 1 n) = nI y) ↔ (F 0 n = 4 ∧ F 1 n = y) := by
        rw [show (4 : Int32) = nI 4 from rfl, nI_eq (by omega) (by omega), nI_eq (by omega) (by omega)]
      have c2 : (nI (F 6 n) = 1) ↔ F 6 n = 1 := nI_eq (a := F 6 n) (b := 1) (by omega) (by omega)
      by_cases z : F 0 n = 4 ∧ F 1 n = y
      · rw [if_pos (c1.mpr z), if_pos z]
        exact decide_eq_decide.mpr c2
      · rw [if_neg (fun w => z (c1.mp w)), if_neg z]
    · have n4 : ¬ nI (F 0 n) = 4 := fun z => h4 ((nI_eq (a := F 0 n) (b := 4) (by omega) (by omega)).mp z)
      rw [if_neg (fun w => n4 w.1), if_neg (fun w => h4 w.1)]
