/-! Leaves counted: by holders, and by gifts. -/
def cin (hf : Nat → Int32) (p : Int32) (o : Nat) : Nat → Nat
  | 0 => 0
  | k + 1 => cin hf p o k + (if hf (400 * o + k) = p then 1 else 0)
def cout (hf : Nat → Int32) (p : Int32) (y : Nat) : Nat → Nat
  | 0 => 0
  | o + 1 => cout hf p y o + cin hf p o (y + 1)
def caw (hf : Nat → Int32) (p : Int32) (y : Nat) : Nat → Nat
  | 0 => 0
  | o + 1 => caw hf p y o + (if hf (400 * o + y) = p then 1 else 0)
theorem ageIn_cin (hf : Nat → Int32) (p : Int32) (o : Nat) (a : Int32) : ∀ k, m_ageIn hf p o a k = a + nI (cin hf p o k) := by
  intro k
  induction k with
  | zero => exact (Int32.add_zero a).symm
  | succ k ih =>
    rw [m_ageIn, cin]
    split
    · rw [ih, Int32.add_assoc, nI_1]
    · rw [ih]; rfl
theorem ageOut_cout (hf : Nat → Int32) (p : Int32) (y : Nat) (a : Int32) : ∀ o, m_ageOut hf p y a o = a + nI (cout hf p y o) := by
  intro o
  induction o with
  | zero => exact (Int32.add_zero a).symm
  | succ o ih => rw [m_ageOut, cout, ageIn_cin, ih, Int32.add_assoc, nI_add]
theorem awk_caw (hf : Nat → Int32) (p : Int32) (y : Nat) : ∀ o, m_awk hf p y o = nI (caw hf p y o) := by
  intro o
  induction o with
  | zero => rfl
  | succ o ih =>
    rw [m_awk, caw]
    split
    · rw [ih, nI_1]
    · rw [ih]; rfl
theorem cin_start (p o : Nat) (ho : o < 8) (hp : p < 8) : ∀ k, k ≤ 400 → cin ss0.1 (nI p) o k = if o = p then k else 0 := by
  intro k
  induction k with
  | zero => intro _; split <;> rfl
  | succ k ih =>
    intro hk
    have e : ss0.1 (400 * o + k) = nI o := by show nI ((400 * o + k) / 400) = nI o; congr 1; omega
    rw [cin, ih (by omega), e]
    by_cases h : o = p
    · rw [if_pos h, if_pos h, if_pos (by rw [h])]
    · rw [if_neg h, if_neg h, if_neg (fun z => h ((nI_eq (by omega) (by omega)).mp z))]
theorem cout_start (p y : Nat) (hp : p < 8) (hy : y < 400) : ∀ o, o ≤ 8 → cout ss0.1 (nI p) y o = if p < o then y + 1 else 0 := by
  intro o
  induction o with
  | zero => intro _; rfl
  | succ o ih =>
    intro ho
    rw [cout, ih (by omega), cin_start p o (by omega) hp _ (by omega)]
    by_cases h : o = p
    · rw [if_pos h, if_neg (by omega), if_pos (by omega)]; omega
    · rw [if_neg h]
      by_cases h2 : p < o
      · rw [if_pos h2, if_pos (by omega)]
      · rw [if_neg h2, if_neg (by omega)]
theorem caw_start (p y : Nat) (hp : p < 8) (hy : y < 400) : ∀ o, o ≤ 8 → caw ss0.1 (nI p) y o = if p < o then 1 else 0 := by
  intro o
  induction o with
  | zero => intro _; rfl
  | succ o ih =>
    intro ho
    have e : ss0.1 (400 * o + y) = nI o := by show nI ((400 * o + y) / 400) = nI o; congr 1; omega
    rw [caw, ih (by omega), e]
    by_cases h : o = p
    · have e1 : nI o = nI p := by rw [h]
      rw [if_neg (show ¬ p < o by omega), if_pos e1, if_pos (show p < o + 1 by omega)]
    · have e1 : ¬ nI o = nI p := fun z => h ((nI_eq (by omega) (by omega)).mp z)
      rw [if_neg e1]
      by_cases h2 : p < o
      · rw [if_pos h2, if_pos (by omega)]
      · rw [if_neg h2, if_neg (by omega)]
/-- a leaf changes its holder -/
theorem cin_move {hf : Nat → Int32} {p x : Int32} {q y0 : Nat} (hy0 : y0 < 400) : ∀ k o, k ≤ 400 → cin (upd hf (400 * q + y0) x) p o k + (if o = q ∧ y0 < k ∧ hf (400 * q + y0) = p then 1 else 0) = cin hf p o k + (if o = q ∧ y0 < k ∧ x = p then 1 else 0) := by
  intro k
  induction k with
  | zero =>
    intro o _
    rw [if_neg (fun z => Nat.not_lt_zero _ z.2.1), if_neg (fun z => Nat.not_lt_zero _ z.2.1)]
    rfl
  | succ k ih =>
    intro o hk
    have ih := ih o (by omega)
    rw [cin, cin]
    by_cases e : o = q ∧ k = y0
    · obtain ⟨e1, e2⟩ := e
      subst e1
      subst e2
      rw [upd_same]
      rw [if_neg (fun z => absurd z.2.1 (Nat.lt_irrefl k)), if_neg (fun z => absurd z.2.1 (Nat.lt_irrefl k))] at ih
      have c1 : (o = o ∧ k < k + 1 ∧ hf (400 * o + k) = p) ↔ hf (400 * o + k) = p := ⟨fun z => z.2.2, fun z => ⟨rfl, Nat.lt_succ_self k, z⟩⟩
      have c2 : (o = o ∧ k < k + 1 ∧ x = p) ↔ x = p := ⟨fun z => z.2.2, fun z => ⟨rfl, Nat.lt_succ_self k, z⟩⟩
      by_cases h1 : hf (400 * o + k) = p
      · by_cases h2 : x = p
        · rw [if_pos h2, if_pos (c1.mpr h1), if_pos h1, if_pos (c2.mpr h2)]; omega
        · rw [if_neg h2, if_pos (c1.mpr h1), if_pos h1, if_neg (fun z => h2 (c2.mp z))]; omega
      · by_cases h2 : x = p
        · rw [if_pos h2, if_neg (fun z => h1 (c1.mp z)), if_neg h1, if_pos (c2.mpr h2)]; omega
        · rw [if_neg h2, if_neg (fun z => h1 (c1.mp z)), if_neg h1, if_neg (fun z => h2 (c2.mp z))]; omega
    · rw [upd_ne _ _ (by omega)]
      have c1 : (o = q ∧ y0 < k + 1 ∧ hf (400 * q + y0) = p) ↔ (o = q ∧ y0 < k ∧ hf (400 * q + y0) = p) := ⟨fun z => ⟨z.1, by have := z.1; have := z.2.1; omega, z.2.2⟩, fun z => ⟨z.1, by have := z.2.1; omega, z.2.2⟩⟩
      have c2 : (o = q ∧ y0 < k + 1 ∧ x = p) ↔ (o = q ∧ y0 < k ∧ x = p) := ⟨fun z => ⟨z.1, by have := z.1; have := z.2.1; omega, z.2.2⟩, fun z => ⟨z.1, by have := z.2.1; omega, z.2.2⟩⟩
      simp only [c1, c2]
      omega
theorem cout_move {hf : Nat → Int32} {p x : Int32} {q y0 y : Nat} (hy0 : y0 < 400) (hy : y < 400) : ∀ o, cout (upd hf (400 * q + y0) x) p y o + (if q < o ∧ y0 ≤ y ∧ hf (400 * q + y0) = p then 1 else 0) = cout hf p y o + (if q < o ∧ y0 ≤ y ∧ x = p then 1 else 0) := by
  intro o
  induction o with
  | zero =>
    rw [if_neg (fun z => Nat.not_lt_zero _ z.1), if_neg (fun z => Nat.not_lt_zero _ z.1)]
    rfl
  | succ o ih =>
    have h := cin_move (hf := hf) (p := p) (x := x) (q := q) hy0 (y + 1) o (by omega)
    rw [cout, cout]
    by_cases e : o = q
    · subst e
      rw [if_neg (fun z => absurd z.1 (Nat.lt_irrefl o)), if_neg (fun z => absurd z.1 (Nat.lt_irrefl o))] at ih
      have c1 : ∀ v : Int32, (o = o ∧ y0 < y + 1 ∧ v = p) ↔ (o < o + 1 ∧ y0 ≤ y ∧ v = p) := fun v => ⟨fun z => ⟨Nat.lt_succ_self o, by have := z.2.1; omega, z.2.2⟩, fun z => ⟨rfl, by have := z.2.1; omega, z.2.2⟩⟩
      have c2 : ∀ v : Int32, (if o = o ∧ y0 < y + 1 ∧ v = p then (1 : Nat) else 0) = (if o < o + 1 ∧ y0 ≤ y ∧ v = p then 1 else 0) := fun v => by
        by_cases z : (o < o + 1 ∧ y0 ≤ y ∧ v = p)
        · rw [if_pos z, if_pos ((c1 v).mpr z)]
        · rw [if_neg z, if_neg (fun w => z ((c1 v).mp w))]
      rw [c2, c2] at h
      omega
    · rw [if_neg (fun z => e z.1), if_neg (fun z => e z.1)] at h
      have c1 : ∀ v : Int32, (q < o + 1 ∧ y0 ≤ y ∧ v = p) ↔ (q < o ∧ y0 ≤ y ∧ v = p) := fun v => ⟨fun z => ⟨by have := z.1; omega, z.2⟩, fun z => ⟨by have := z.1; omega, z.2⟩⟩
      simp only [c1]
      omega
theorem caw_move {hf : Nat → Int32} {p x : Int32} {q y0 y : Nat} (hy0 : y0 < 400) (hy : y < 400) : ∀ o, caw (upd hf (400 * q + y0) x) p y o + (if q < o ∧ y0 = y ∧ hf (400 * q + y0) = p then 1 else 0) = caw hf p y o + (if q < o ∧ y0 = y ∧ x = p then 1 else 0) := by
  intro o
  induction o with
  | zero =>
    rw [if_neg (fun z => Nat.not_lt_zero _ z.1), if_neg (fun z => Nat.not_lt_zero _ z.1)]
    rfl
  | succ o ih =>
    rw [caw, caw]
    by_cases e : o = q ∧ y = y0
    · obtain ⟨e1, e2⟩ := e
      subst e1
      subst e2
      rw [upd_same]
      rw [if_neg (fun z => absurd z.1 (Nat.lt_irrefl o)), if_neg (fun z => absurd z.1 (Nat.lt_irrefl o))] at ih
      have c1 : ∀ v : Int32, (o < o + 1 ∧ y = y ∧ v = p) ↔ v = p := fun v => ⟨fun z => z.2.2, fun z => ⟨Nat.lt_succ_self o, rfl, z⟩⟩
      have c2 : ∀ v : Int32, (if o < o + 1 ∧ y = y ∧ v = p then (1 : Nat) else 0) = (if v = p then 1 else 0) := fun v => by
        by_cases z : v = p
        · rw [if_pos z, if_pos ((c1 v).mpr z)]
        · rw [if_neg z, if_neg (fun w => z ((c1 v).mp w))]
      rw [c2, c2]
      omega
    · rw [upd_ne _ _ (by omega)]
      have c1 : ∀ v : Int32, (q < o + 1 ∧ y0 = y ∧ v = p) ↔ (q < o ∧ y0 = y ∧ v = p) := fun v => ⟨fun z => ⟨by have := z.1; have := z.2.1; omega, z.2⟩, fun z => ⟨by have := z.1; omega, z.2⟩⟩
      simp only [c1]
      omega
theorem kn_day_leaf : ∀ {q y : Nat}, q < 8 → y < 400 → kn_day (nI (q * 400 + y)) = nI y := by
  intro q y hq hy
  unfold kn_day
  have e : nI (q * 400 + y) / 400 = nI q := by
    apply Int32.toInt_inj.mp
    rw [Int32.toInt_div_of_ne_left _ _ (fun z => absurd (nI_pos (n := q * 400 + y) (by omega)) (by rw [z]; decide)), nI_toInt (by omega), nI_toInt (by omega)]
    show Int.tdiv ((q * 400 + y : Nat) : Int) 400 = _
    rw [show (400 : Int) = ((400 : Nat) : Int) from rfl, ← Int.ofNat_tdiv]
    congr 1
    omega
  rw [e, show nI q * (400 : Int32) = nI (q * 400) from nI_mul q 400, nI_sub (by omega)]
  congr 1
  omega
theorem kn_hold_cong {gf gf' tf tf' : Nat → Int32} {leaf p : Int32} : ∀ k, (∀ j, j < k → gf j = gf' j ∧ tf j = tf' j) → kn_hold gf tf leaf p k = kn_hold gf' tf' leaf p k := by
  intro k
  induction k with
  | zero => intro _; rfl
  | succ k ih =>
    intro h
    obtain ⟨h1, h2⟩ := h k (by omega)
    rw [kn_hold, kn_hold, h1, h2, ih (fun j hj => h j (by omega))]
theorem kn_given_cong {gf gf' : Nat → Int32} {leaf : Int32} : ∀ k, (∀ j, j < k → gf j = gf' j) → kn_given gf leaf k = kn_given gf' leaf k := by
  intro k
  induction k with
  | zero => intro _; rfl
  | succ k ih =>
    intro h
    rw [kn_given, kn_given, h k (by omega), ih (fun j hj => h j (by omega))]
theorem kn_gain_cong {gf gf' vf vf' tf tf' : Nat → Int32} {p a b : Int32} : ∀ k, (∀ j, j < k → gf j = gf' j ∧ vf j = vf' j ∧ tf j = tf' j) → kn_gain gf vf tf p a b k = kn_gain gf' vf' tf' p a b k := by
  intro k
  induction k with
  | zero => intro _; rfl
  | succ k ih =>
    intro h
    obtain ⟨h1, h2, h3⟩ := h k (by omega)
    rw [kn_gain, kn_gain, h1, h2, h3, ih (fun j hj => h j (by omega))]
theorem leaf_id {p q y z : Nat} (hp : p < 8) (hq : q < 8) (hy : y < 400) (hz : z < 400) : (nI (p * 400 + y) = nI (q * 400 + z)) ↔ (p = q ∧ y = z) := by
  rw [nI_eq (by omega) (by omega)]
  omega
theorem leaf_m1 {p y : Nat} (hp : p < 8) (hy : y < 400) : ¬ nI (p * 400 + y) = -1 := fun z => absurd (nI_pos (n := p * 400 + y) (by omega)) (by rw [z]; decide)
