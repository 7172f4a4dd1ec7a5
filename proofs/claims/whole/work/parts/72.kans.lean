/-! What a Known that has learned answers, in the papers' own terms. -/
def dU (F : FF) (lv : Nat → Int32) (A : List YL) (n y : Nat) : SS := sp_run F lv A n (mlist F n y) ss0
def dS (F : FF) (lv : Nat → Int32) (A : List YL) (n : Nat) : SS := dU F lv A n 399
abbrev ml (F : FF) (n : Nat) : Nat := (mlist F n 399).length
/-- a Known and its book, for the first n of N facts -/
def KB (F : FF) (lv : Nat → Int32) (A : List YL) (P N n : Nat) (τ : RS) : Prop := (P ≤ 8 ∧ N ≤ 120 ∧ n ≤ N ∧ ∀ k, k < N → okF P F k) ∧ kGood F lv A n τ ∧ cFacts N F τ ∧ τ 10 8 = nI N ∧ ∀ p, p < P → τ 11 p = lv p
theorem cS_full (F : FF) (lv : Nat → Int32) (A : List YL) (n : Nat) : cS F lv A n (ml F n) = dS F lv A n := by
  unfold cS dS dU
  rw [List.take_length]
theorem KB.len {F : FF} {lv : Nat → Int32} {A : List YL} {P N n : Nat} {τ : RS} (h : KB F lv A P N n τ) : ml F n ≤ n ∧ n ≤ 120 ∧ τ 0 11 = nI n ∧ τ 0 13 = nI (ml F n) := by
  obtain ⟨⟨hP, hN, hn, hok⟩, ⟨g1, g2, g3⟩, -⟩ := h
  exact ⟨mlist_len (fun k hk => (hok k (by omega)).1.2.1), by omega, g1, g2.1⟩
theorem KB.lvR {F : FF} {lv : Nat → Int32} {A : List YL} {P N n : Nat} {τ : RS} (h : KB F lv A P N n τ) : lvR (dS F lv A n).1 (dS F lv A n).2.1 (τ 4) (τ 5) (τ 6) (ml F n) := by
  obtain ⟨-, ⟨g1, g2, g3⟩, -⟩ := h
  rw [← cS_full]
  exact g3.2.1
theorem KB.sInv {F : FF} {lv : Nat → Int32} {A : List YL} {P N n : Nat} {τ : RS} (h : KB F lv A P N n τ) (y : Nat) (hy : y < 400) : sInv P (mlist F n y).length (dU F lv A n y) := by
  obtain ⟨⟨hP, hN, hn, hok⟩, -⟩ := h
  obtain ⟨rest, r1, -⟩ := mlist_day (F := F) (n := n) hy
  have := cS_inv (lv := lv) (A := A) hP hn hN hok (mlist F n y).length (by rw [r1, List.length_append]; omega)
  unfold cS at this
  rw [r1, List.take_left] at this
  exact this
theorem a_hold {F : FF} {lv : Nat → Int32} {A : List YL} {P N n : Nat} {τ : RS} (h : KB F lv A P N n τ) {p y : Nat} (hp : p < 8) (hy : y < 400) : kn_hold (τ 4) (τ 6) (nI p * 400 + nI y) (nI p) (ml F n) = (dS F lv A n).1 (400 * p + y) := by
  rw [show nI p * (400 : Int32) = nI (p * 400) from nI_mul p 400, nI_add]
  exact (h.lvR.1 p y hp hy).1
theorem a_awake {F : FF} {lv : Nat → Int32} {A : List YL} {P N n : Nat} {τ : RS} (h : KB F lv A P N n τ) {p y : Nat} (hp : p < 8) (hy : y < 400) : kn_awake τ (nI p) (nI y) (ml F n) = nI (caw (dS F lv A n).1 (nI p) y 8) := (h.lvR.2 p y hp hy).2.symm
theorem a_age {F : FF} {lv : Nat → Int32} {A : List YL} {P N n : Nat} {τ : RS} (h : KB F lv A P N n τ) {p y : Nat} (hp : p < P) (hy : y < 400) : kn_age τ (nI p) (nI y) (ml F n) = lv p + nI (cout (dS F lv A n).1 (nI p) y 8) := by
  have hP := h.1.1
  unfold kn_age
  rw [atF_nI _ (by omega) (by omega), h.2.2.2.2 p hp, (h.lvR.2 p y (by omega) hy).1]
  simp only [Int32.add_assoc]
theorem a_why {F : FF} {lv : Nat → Int32} {A : List YL} {P N n : Nat} {τ : RS} (h : KB F lv A P N n τ) {k : Nat} (hk : k < n) (hs : F 0 k ≤ 2) : τ 1 k = (dS F lv A n).2.2.2.1 k ∧ (F 0 k = 0 → (dS F lv A n).2.2.2.1 k = 4 ∨ (dS F lv A n).2.2.2.1 k = 0 → τ 2 k = (dS F lv A n).2.2.2.2 k) := by
  obtain ⟨⟨hP, hN, hn, hok⟩, ⟨g1, g2, g3⟩, -⟩ := h
  rw [← cS_full]
  refine g3.2.2.1 k ?_
  rw [List.take_length]
  exact (mlist_mem k).mpr ⟨hk, hs, (hok k (by omega)).1.2.1⟩
theorem up_len {df of : Nat → Int32} {F : FF} {y : Nat} (hy : y < 400) : ∀ (l : List Nat) (k : Nat), (∀ i z, l[i]? = some z → atF 120 df (of (k + i)) = nI (F 1 z) ∧ F 1 z < 400) → ∀ (a b : List Nat), l = a ++ b → (∀ z, z ∈ a → F 1 z ≤ y) → (∀ z, z ∈ b → y < F 1 z) → kn_upTo df of (nI y) l.length k = k + a.length := by
  intro l
  induction l with
  | nil =>
    intro k _ a b e _ _
    have : a = [] := (List.append_eq_nil_iff.mp e.symm).1
    rw [this]
    rfl
  | cons x l ih =>
    intro k hl a b e ha hb
    obtain ⟨q1, q2⟩ := hl 0 x rfl
    rw [Nat.add_zero] at q1
    rw [List.length_cons, kn_upTo, q1]
    cases a with
    | nil =>
      have hx : x ∈ b := by
        rw [List.nil_append] at e
        rw [← e]; exact List.mem_cons_self
      have := hb x hx
      rw [if_neg (fun z => by have := (nI_leI (by omega) (by omega)).mp z; omega)]
      rfl
    | cons x' a =>
      injection e with e1 e2
      subst e1
      have := ha x List.mem_cons_self
      rw [if_pos ((nI_leI (by omega) (by omega)).mpr this), ih (k + 1) (fun i z hz => by
        have := hl (i + 1) z hz
        rwa [show k + (i + 1) = k + 1 + i by omega] at this) a b e2 (fun z hz => ha z (List.mem_cons_of_mem _ hz)) hb, List.length_cons]
      omega
theorem a_upTo {F : FF} {lv : Nat → Int32} {A : List YL} {P N n : Nat} {τ : RS} (h : KB F lv A P N n τ) {y : Nat} (hy : y < 400) : kn_upTo (τ 13) (τ 3) (nI y) (ml F n) 0 = (mlist F n y).length := by
  obtain ⟨⟨hP, hN, hn, hok⟩, ⟨g1, g2, g3⟩, hF, -⟩ := h
  obtain ⟨rest, r1, r2⟩ := mlist_day (F := F) (n := n) hy
  rw [up_len hy (mlist F n 399) 0 (fun i z hz => ?_) (mlist F n y) rest r1 (fun z hz => ?_) r2, Nat.zero_add]
  · have hm := (mlist_mem (F := F) (n := n) z).mp (List.mem_of_getElem? hz)
    rw [Nat.zero_add, g2.2 i z hz, atF_nI _ (by omega) (by omega)]
    exact ⟨(hF z (by omega)).2.1 hm.2.1, hm.2.2⟩
  · have := (mall_mem F n _ _ z).mp hz
    omega
theorem a_row {F : FF} {lv : Nat → Int32} {A : List YL} {P N n : Nat} {τ : RS} (h : KB F lv A P N n τ) {y : Nat} (hy : y < 400) {j : Nat} (hj : j < 64) : τ 7 ((mlist F n y).length * 64 + j) = (dU F lv A n y).2.2.1 j := by
  obtain ⟨-, ⟨g1, g2, g3⟩, -⟩ := h
  obtain ⟨rest, r1, -⟩ := mlist_day (F := F) (n := n) hy
  have hle : (mlist F n y).length ≤ ml F n := by unfold ml; rw [r1, List.length_append]; omega
  have := g3.1 _ hle j hj
  unfold cS at this
  rw [r1, List.take_left] at this
  exact this
theorem a_debt {F : FF} {lv : Nat → Int32} {A : List YL} {P N n : Nat} {τ : RS} (h : KB F lv A P N n τ) {y a b : Nat} (hy : y < 400) (ha : a < 8) (hb : b < 8) : kn_debt τ (nI (mlist F n y).length) (nI a) (nI b) = (dU F lv A n y).2.2.1 (8 * a + b) := by
  have hl := h.len
  obtain ⟨rest, r1, -⟩ := mlist_day (F := F) (n := n) hy
  have hle : (mlist F n y).length ≤ 120 := by
    have : (mlist F n y).length ≤ ml F n := by unfold ml; rw [r1, List.length_append]; omega
    omega
  unfold kn_debt
  rw [show nI (mlist F n y).length * (64 : Int32) = nI ((mlist F n y).length * 64) from nI_mul _ 64, show nI a * (8 : Int32) = nI (a * 8) from nI_mul a 8, nI_add, nI_add, atF_nI _ (by omega) (by omega), show (mlist F n y).length * 64 + a * 8 + b = (mlist F n y).length * 64 + (8 * a + b) by omega]
  exact a_row h hy (by omega)
/-- the row of a day, in the rings' sums -/
theorem a_loaded {F : FF} {lv : Nat → Int32} {A : List YL} {P N n : Nat} {τ : RS} (h : KB F lv A P N n τ) {y : Nat} (hy : y < 400) : like64 ((rg (kn_loaded τ (mlist F n y).length)) 1) (dU F lv A n y).2.2.1 := by
  intro j hj
  rw [← a_row h hy hj]
  show va_cpy (τ 7) (τ 19) ((mlist F n y).length * 64) 0 64 j = _
  unfold va_cpy
  rw [if_pos (by omega)]
  congr 1
/-- a ring's i-th person -/
def sp_ring (o : Nat → Int32) (i : Int32) : Int32 := if 0 ≤ i ∧ i < nI (sp_find o 8).1 then nI ((sp_find o 8).2.2.2 (nt i)) else -1
theorem ring_class {B P : Nat} (hB : B ≤ 5000000) {σc : RS} {o : Nat → Int32} (h : like64 (σc 1) o) (ho : obd B P o) (i : Int32) : (if 0 ≤ i ∧ i < (r_find σc) 0 4 then atF 8 ((r_find σc) 3) i else -1) = sp_ring o i := by
  have ho1 := obd_like h.symm ho
  have hc := sp_find_class hB σc ho1.1 ho1.2.1
  rw [sp_find_like h] at hc
  obtain ⟨h4, hb8, -, -, -, h3, -⟩ := hc
  unfold sp_ring
  rw [h4]
  by_cases hi : 0 ≤ i ∧ i < nI (sp_find o 8).1
  · rw [if_pos hi, if_pos hi]
    obtain ⟨j, j1, j2⟩ := nI_of (Int32.not_lt.mpr hi.1)
    have hj : j < (sp_find o 8).1 := (nI_ltI (by omega) (by omega)).mp (by rw [← j2]; exact hi.2)
    rw [j2, atF_nI _ (by omega) (by omega), nt_nI j1, h3 j hj]
  · rw [if_neg hi, if_neg hi]
theorem ring_model {B P : Nat} (hB : B ≤ 5000000) (hP : P ≤ 8) {σm : RS} {o : Nat → Int32} (h : like64 (σm 33) o) (ho : obd B P o) {i : Int32} (hi : 0 ≤ i) : (if i < (f_find P σm) 0 59 then (f_find P σm) 41 (nt i) else -1) = sp_ring o i := by
  have ho1 := obd_like h.symm ho
  have hm := sp_find_model hB hP σm ho1.1
  rw [← sp_find_few hP ho1.2.2, sp_find_like h] at hm
  obtain ⟨h59, hb8, -, h41, -⟩ := hm
  unfold sp_ring
  rw [h59]
  by_cases hj : i < nI (sp_find o 8).1
  · rw [if_pos hj, if_pos ⟨hi, hj⟩]
    obtain ⟨j, j1, j2⟩ := nI_of (Int32.not_lt.mpr hi)
    have hj2 : j < (sp_find o 8).1 := (nI_ltI (by omega) (by omega)).mp (by rw [← j2]; exact hj)
    rw [j2, nt_nI j1]
    exact ((h41 (by omega)).2.2 j hj2).1
  · rw [if_neg hj, if_neg (fun z => hj z.2)]
theorem KB.obd {F : FF} {lv : Nat → Int32} {A : List YL} {P N n : Nat} {τ : RS} (h : KB F lv A P N n τ) {y : Nat} (hy : y < 400) : obd 12000 P (dU F lv A n y).2.2.1 := by
  have hl := h.len
  obtain ⟨rest, r1, -⟩ := mlist_day (F := F) (n := n) hy
  have hle : (mlist F n y).length ≤ 120 := by
    have : (mlist F n y).length ≤ ml F n := by unfold ml; rw [r1, List.length_append]; omega
    omega
  exact (h.sInv y hy).1.mono (by omega)
theorem a_ring {F : FF} {lv : Nat → Int32} {A : List YL} {P N n : Nat} {τ : RS} (h : KB F lv A P N n τ) {y : Nat} (hy : y < 400) (i : Int32) : (if 0 ≤ i ∧ i < (r_find (rg (kn_loaded τ (mlist F n y).length))) 0 4 then atF 8 ((r_find (rg (kn_loaded τ (mlist F n y).length))) 3) i else -1) = sp_ring (dU F lv A n y).2.2.1 i := ring_class (by omega) (a_loaded h hy) (h.obd hy) i
theorem a_left {F : FF} {lv : Nat → Int32} {A : List YL} {P N n : Nat} {τ : RS} (h : KB F lv A P N n τ) {y : Nat} (hy : y < 400) : sumTo (kn_met τ (mlist F n y).length 19) 64 = sumTo (mtS 64 (dU F lv A n y).2.2.1) 64 := by
  have h1 := a_loaded h hy
  have h2 := meetc_mtS (show 12000 ≤ 5000000 by omega) h.1.1 64 (rg (kn_loaded τ (mlist F n y).length)) (obd_like h1.symm (h.obd hy))
  have e : kn_met τ (mlist F n y).length 19 = (r_meet 64 (rg (kn_loaded τ (mlist F n y).length))) 1 := by
    unfold kn_met
    generalize r_meet 64 (rg (kn_loaded τ (mlist F n y).length)) = T
    rfl
  rw [e, h2.1]
  exact sum_like 64 (fun i hi => mtS_like 64 _ _ h1 i hi)
