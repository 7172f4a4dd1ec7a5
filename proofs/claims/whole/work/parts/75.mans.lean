/-! What the model answers, in the papers' own terms. -/
theorem dU_inv {F : FF} {lv : Nat → Int32} {A : List YL} {P N n : Nat} (hP : P ≤ 8) (hN : N ≤ 120) (hn : n ≤ N) (hok : ∀ k, k < N → okF P F k) {y : Nat} (hy : y < 400) : sInv P 120 (dU F lv A n y) := by
  obtain ⟨rest, r1, -⟩ := mlist_day (F := F) (n := n) hy
  have hl := mlist_len (F := F) (n := n) (fun k hk => (hok k (by omega)).1.2.1)
  have hle : (mlist F n y).length ≤ (mlist F n 399).length := by rw [r1, List.length_append]; omega
  have := cS_inv (lv := lv) (A := A) hP hn hN hok (mlist F n y).length hle
  unfold cS at this
  rw [r1, List.take_left] at this
  exact ⟨this.1.mono (by omega), this.2⟩
/-- the model, having gone over n facts till a day -/
def MB (F : FF) (lv : Nat → Int32) (A : List YL) (P N n y b : Nat) (G : RS) : Prop := mBase F lv A P N b G ∧ n ≤ N ∧ y < 400 ∧ mGone F lv A n y G
theorem MB.inv {F : FF} {lv : Nat → Int32} {A : List YL} {P N n y b : Nat} {G : RS} (h : MB F lv A P N n y b G) : sInv P 120 (dU F lv A n y) := dU_inv h.1.1.1 h.1.1.2.1 h.2.1 h.1.1.2.2 h.2.2.1
theorem MB.of {F : FF} {lv : Nat → Int32} {A : List YL} {P N n y b : Nat} {σ : RS} (h : mBase F lv A P N b σ) (hc : mCache F lv A N σ) (hn : n ≤ N) (hy : y < 400) : MB F lv A P N n y b (g_gone P b A.length n y σ) := ⟨h.gk (g_gone_gk P b A.length n y σ), hn, hy, (m_gone h hc hn hy).1⟩
theorem MB.why {F : FF} {lv : Nat → Int32} {A : List YL} {P N n b : Nat} {G : RS} (h : MB F lv A P N n 399 b G) {k : Nat} (hk : k < n) (hs : F 0 k ≤ 2) : G 34 k = (dS F lv A n).2.2.2.1 k ∧ (F 0 k = 0 → ((dS F lv A n).2.2.2.1 k = 4 → G 35 k = (dS F lv A n).2.2.2.2 k) ∧ ((dS F lv A n).2.2.2.1 k = 0 → G 36 k = (dS F lv A n).2.2.2.2 k)) := by
  obtain ⟨hB, hn, -, pr, p1, p2⟩ := h
  exact p2.2.2 k (p1 k ((mlist_mem k).mpr ⟨hk, hs, (hB.1.2.2 k (by omega)).1.2.1⟩))
theorem MB.hold {F : FF} {lv : Nat → Int32} {A : List YL} {P N n y b : Nat} {G : RS} (h : MB F lv A P N n y b G) {j : Nat} (hj : j < 3200) : G 31 j = (dU F lv A n y).1 j := by
  obtain ⟨-, -, -, pr, -, p2⟩ := h
  exact (p2.1 j hj).1
theorem MB.owes {F : FF} {lv : Nat → Int32} {A : List YL} {P N n y b : Nat} {G : RS} (h : MB F lv A P N n y b G) : like64 (G 33) (dU F lv A n y).2.2.1 := by
  obtain ⟨-, -, -, pr, -, p2⟩ := h
  exact p2.2.1
theorem caw_few {hf : Nat → Int32} {p y P : Nat} (hp : p < P) (hP : P ≤ 8) (hy : y < 400) (h : ∀ o d, P ≤ o → o < 8 → d < 400 → hf (400 * o + d) = nI o) : caw hf (nI p) y 8 = caw hf (nI p) y P := by
  have : ∀ c, P + c ≤ 8 → caw hf (nI p) y (P + c) = caw hf (nI p) y P := by
    intro c
    induction c with
    | zero => intro _; rfl
    | succ c ih =>
      intro hc
      rw [show P + (c + 1) = (P + c) + 1 by omega, caw, ih (by omega), h (P + c) y (by omega) (by omega) hy, if_neg (fun z => by have := (nI_eq (by omega) (by omega)).mp z; omega), Nat.add_zero]
  have h8 := this (8 - P) (by omega)
  rwa [show P + (8 - P) = 8 by omega] at h8
theorem caw_like {hf hg : Nat → Int32} {p : Int32} {y : Nat} (hy : y < 400) (h : ∀ j, j < 3200 → hf j = hg j) : ∀ o, o ≤ 8 → caw hf p y o = caw hg p y o := by
  intro o
  induction o with
  | zero => intro _; rfl
  | succ o ih => intro ho; rw [caw, caw, ih (by omega), h _ (by omega)]
theorem MB.few {F : FF} {lv : Nat → Int32} {A : List YL} {P N n y b : Nat} {G : RS} (h : MB F lv A P N n y b G) : ∀ o d, P ≤ o → o < 8 → d < 400 → (dU F lv A n y).1 (400 * o + d) = nI o := fun o d h1 h2 h3 => by
  obtain ⟨q, q1, q2, q3⟩ := h.inv.2 o d h2 h3
  rw [q2, q3 h1]
theorem MB.awake {F : FF} {lv : Nat → Int32} {A : List YL} {P N n z b : Nat} {G : RS} (h : MB F lv A P N n z b G) {p y : Nat} (hp : p < P) (hy : y < 400) : m_awk (G 31) (nI p) y P = nI (caw (dU F lv A n z).1 (nI p) y 8) := by
  have hP := h.1.1.1
  rw [awk_caw, caw_few hp hP hy h.few, caw_like hy (fun j hj => h.hold hj) P hP]
theorem MB.age {F : FF} {lv : Nat → Int32} {A : List YL} {P N n z b : Nat} {G : RS} (h : MB F lv A P N n z b G) {p y : Nat} (hp : p < P) (hy : y < 400) : m_ageOut (G 31) (nI p) y (G 23 p) P = lv p + nI (cout (dU F lv A n z).1 (nI p) y 8) := by
  have hP := h.1.1.1
  rw [age_like hy _ (fun j hj => h.hold hj) P hP, ← age_few hy hP hp _ h.few, ageOut_cout, h.1.2.2.2.2.2 p hp]
theorem MB.net {F : FF} {lv : Nat → Int32} {A : List YL} {P N n y b : Nat} {G : RS} (h : MB F lv A P N n y b G) {p : Nat} (hp : p < 8) : m_less (G 33) p (sumTo (fun o => G 33 (8 * p + o)) 8) 8 = sp_net (dU F lv A n y).2.2.1 p := by
  rw [m_less_eq]
  unfold sp_net
  rw [sum_like (g := fun q => (dU F lv A n y).2.2.1 (8 * p + q)) 8 (fun i hi => h.owes _ (by omega)), sum_like (g := fun q => (dU F lv A n y).2.2.1 (8 * q + p)) 8 (fun i hi => h.owes _ (by omega))]
theorem MB.obd {F : FF} {lv : Nat → Int32} {A : List YL} {P N n y b : Nat} {G : RS} (h : MB F lv A P N n y b G) : obd 12000 P (dU F lv A n y).2.2.1 := h.inv.1.mono (by omega)
theorem MB.ring {F : FF} {lv : Nat → Int32} {A : List YL} {P N n y b : Nat} {G : RS} (h : MB F lv A P N n y b G) {i : Int32} (hi : 0 ≤ i) : (if i < (f_find P G) 0 59 then (f_find P G) 41 (nt i) else -1) = sp_ring (dU F lv A n y).2.2.1 i := ring_model (by omega) h.1.1.1 h.owes h.obd hi
theorem MB.obs {F : FF} {lv : Nat → Int32} {A : List YL} {P N n y b : Nat} {G : RS} (h : MB F lv A P N n y b G) : obs G := ob_like h.owes.symm (h.obd.1.mono (by omega))
theorem MB.left {F : FF} {lv : Nat → Int32} {A : List YL} {P N n y b : Nat} {G : RS} (h : MB F lv A P N n y b G) : sumTo ((g_meets P 64 (f_find P G)) 33) 64 = sumTo (mtS 64 (dU F lv A n y).2.2.1) 64 := by
  rw [meets_mtS (show 12000 ≤ 5000000 by omega) h.1.1.1 64 G (obd_like h.owes.symm h.obd)]
  exact sum_like 64 (fun i hi => mtS_like 64 _ _ h.owes i hi)
theorem MB.grows {F : FF} {lv : Nat → Int32} {A : List YL} {P N n b : Nat} {G : RS} (h : MB F lv A P N n 399 b G) {k : Nat} (hk : k < n) (h0 : F 0 k = 0) : q_grows G k = sp_grows (dS F lv A n) k := by
  obtain ⟨w1, w2⟩ := h.why hk (by omega)
  unfold q_grows sp_grows
  rw [w1]
  have hp := (wok_dS F lv A n k).pos
  by_cases e : (dS F lv A n).2.2.2.1 k = 0
  · rw [if_neg (fun z => hp.mp z e), if_neg (show ¬ ¬ (dS F lv A n).2.2.2.1 k = 0 from fun z => z e), (w2 h0).2 e]
  · rw [if_pos (hp.mpr e), if_pos e]
theorem MB.ban {F : FF} {lv : Nat → Int32} {A : List YL} {P N n b : Nat} {G : RS} (h : MB F lv A P N n 399 b G) {k : Nat} (hk : k < n) (h0 : F 0 k = 0) : q_ban G k = sp_ban (dS F lv A n) k := by
  obtain ⟨w1, w2⟩ := h.why hk (by omega)
  unfold q_ban sp_ban
  rw [w1]
  by_cases e : (dS F lv A n).2.2.2.1 k = 4
  · rw [if_pos e, if_pos e, (w2 h0).1 e]
  · rw [if_neg e, if_neg e]
