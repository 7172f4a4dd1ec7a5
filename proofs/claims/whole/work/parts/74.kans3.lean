/-! What a Known answers, third part: witnesses and doers; sums; rules. -/
def sp_last (F : FF) (w δ y : Nat) : Nat → Int32
  | 0 => -1
  | k + 1 => if F 0 k = 5 ∧ F 2 k = w ∧ F 6 k = δ ∧ F 1 k = y then nI k else sp_last F w δ y k
theorem sp_last_res (F : FF) (w δ y : Nat) : ∀ n, sp_last F w δ y n = -1 ∨ ∃ k, k < n ∧ sp_last F w δ y n = nI k ∧ F 0 k = 5 ∧ F 2 k = w ∧ F 6 k = δ ∧ F 1 k = y := by
  intro n
  induction n with
  | zero => exact Or.inl rfl
  | succ n ih =>
    rw [sp_last]
    split
    · rename_i h
      exact Or.inr ⟨n, by omega, rfl, h⟩
    · rcases ih with h | ⟨k, h1, h2⟩
      · exact Or.inl h
      · exact Or.inr ⟨k, by omega, h2⟩
theorem said_eq {F : FF} {P N : Nat} {τ : RS} (hok : ∀ k, k < N → okF P F k) (hF : cFacts N F τ) (h8 : τ 10 8 = nI N) (hN : N ≤ 120) {w δ y : Nat} (hw : w < 8) (hδ : δ < 10) (hy : y < 400) : ∀ k, k ≤ N → kn_said τ (nI w) (nI δ) (nI y) k = sp_last F w δ y k := by
  intro k
  induction k with
  | zero => intro _; rfl
  | succ k ih =>
    intro hk
    obtain ⟨⟨b0, b1, b2, b3, b4, b5, b6⟩, -⟩ := hok k (by omega)
    have hkd := c_kind hF h8 hN (show k < N by omega)
    rw [kn_said, sp_last, hkd, ih (by omega), atF_nI _ (by omega) (by omega), atF_nI _ (by omega) (by omega), atF_nI _ (by omega) (by omega)]
    have c5 : (nI (F 0 k) = 5) ↔ F 0 k = 5 := nI_eq (b := 5) (by omega) (by omega)
    by_cases h5 : F 0 k = 5
    · obtain ⟨f14, f15, f16, f17⟩ := (hF k (by omega)).2.2.2.2.2 h5
      rw [f14, f15, f16]
      have c : (nI (F 0 k) = 5 ∧ nI (F 2 k) = nI w ∧ nI (F 6 k) = nI δ ∧ nI (F 1 k) = nI y) ↔ (F 0 k = 5 ∧ F 2 k = w ∧ F 6 k = δ ∧ F 1 k = y) := by
        rw [c5, nI_eq (by omega) (by omega), nI_eq (by omega) (by omega), nI_eq (by omega) (by omega)]
      by_cases h : F 0 k = 5 ∧ F 2 k = w ∧ F 6 k = δ ∧ F 1 k = y
      · rw [if_pos h, if_pos (c.mpr h)]
      · rw [if_neg h, if_neg (fun z => h (c.mp z))]
    · rw [if_neg (fun z => h5 (c5.mp z.1)), if_neg (fun z => h5 z.1)]
/-- what is said counts -/
def sp_cnt (F : FF) (hf : Nat → Int32) (k : Nat) : Bool := decide (¬ F 2 k = F 3 k ∧ 0 < caw hf (nI (F 2 k)) (F 1 k) 8)
theorem caw_le (hf : Nat → Int32) (p : Int32) (y : Nat) : ∀ o, caw hf p y o ≤ o := by
  intro o
  induction o with
  | zero => exact Nat.le_refl 0
  | succ o ih =>
    rw [caw]
    split <;> omega
theorem caw_pos (hf : Nat → Int32) (p : Int32) (y o : Nat) (ho : o ≤ 8) : (0 < nI (caw hf p y o)) ↔ 0 < caw hf p y o := by
  have := caw_le hf p y o
  rw [show (0 : Int32) = nI 0 from rfl]
  exact nI_ltI (by omega) (by omega)
theorem counts_eq {F : FF} {lv : Nat → Int32} {A : List YL} {P N n : Nat} {τ : RS} (h : KB F lv A P N n τ) {k : Nat} (hk : k < n) (h5 : F 0 k = 5) : kn_counts τ (nI k) (ml F n) = sp_cnt F (dS F lv A n).1 k := by
  obtain ⟨hP, hN, hn, hok⟩ := h.1
  obtain ⟨⟨b0, b1, b2, b3, b4, b5, b6⟩, -⟩ := hok k (by omega)
  obtain ⟨f14, f15, f16, f17⟩ := (h.2.2.1 k (by omega)).2.2.2.2.2 h5
  unfold kn_counts sp_cnt
  rw [atF_nI _ (by omega) (by omega), atF_nI _ (by omega) (by omega), atF_nI _ (by omega) (by omega), f14, f16, f17, a_awake h b2 b1]
  refine decide_eq_decide.mpr ?_
  rw [nI_eq (by omega) (by omega), caw_pos _ _ _ _ (Nat.le_refl 8)]
def sp_vote1 (F : FF) (hf : Nat → Int32) (δ y n w : Nat) (f : Nat → Int32) : Nat → Int32 :=
  if ¬ sp_last F w δ y n = -1 ∧ sp_cnt F hf (nt (sp_last F w δ y n)) = true then upd f (F 3 (nt (sp_last F w δ y n))) (f (F 3 (nt (sp_last F w δ y n))) + 1) else f
def sp_votes (F : FF) (hf : Nat → Int32) (δ y n : Nat) : Nat → Nat → (Nat → Int32) → (Nat → Int32)
  | 0, _, f => f
  | c + 1, w, f => sp_votes F hf δ y n c (w + 1) (sp_vote1 F hf δ y n w f)
theorem vote1_eq {F : FF} {lv : Nat → Int32} {A : List YL} {P N n : Nat} {τ : RS} (h : KB F lv A P N n τ) {δ y w : Nat} (hw : w < 8) (hδ : δ < 10) (hy : y < 400) (f : Nat → Int32) : kn_vote1 τ (nI δ) (nI y) n (ml F n) w f = sp_vote1 F (dS F lv A n).1 δ y n w f := by
  obtain ⟨hP, hN, hn, hok⟩ := h.1
  have hs := said_eq hok h.2.2.1 h.2.2.2.1 hN hw hδ hy n hn
  unfold kn_vote1 sp_vote1
  dsimp only
  rw [hs]
  rcases sp_last_res F w δ y n with e | ⟨k, k1, k2, k3, k4, k5, k6⟩
  · rw [e, if_neg (fun z => z.1 rfl), if_neg (fun z => z.1 rfl)]
  · obtain ⟨⟨b0, b1, b2, b3, b4, b5, b6⟩, -⟩ := hok k (by omega)
    have f17 := ((h.2.2.1 k (by omega)).2.2.2.2.2 k3).2.2.2
    rw [k2, nt_nI (by omega), counts_eq h k1 k3, atF_nI _ (by omega) (by omega), f17, atF_nI _ (by omega) (by omega), putF_nI _ _ (by omega) (by omega)]
theorem votes_eq {F : FF} {lv : Nat → Int32} {A : List YL} {P N n : Nat} {τ : RS} (h : KB F lv A P N n τ) {δ y : Nat} (hδ : δ < 10) (hy : y < 400) : ∀ (c w : Nat) (f : Nat → Int32), w + c ≤ 8 → kn_votes τ (nI δ) (nI y) n (ml F n) c w f = sp_votes F (dS F lv A n).1 δ y n c w f := by
  intro c
  induction c with
  | zero => intro w f _; rfl
  | succ c ih =>
    intro w f hc
    rw [kn_votes, sp_votes, vote1_eq h (by omega) hδ hy, ih (w + 1) _ (by omega)]
theorem votes_like (F : FF) (hf : Nat → Int32) (δ y n : Nat) (hn : n ≤ 120) : ∀ (c w : Nat) (f f' : Nat → Int32), (∀ j, j < 8 → f j = f' j) → (∀ k, k < n → F 3 k < 8) → ∀ j, j < 8 → sp_votes F hf δ y n c w f j = sp_votes F hf δ y n c w f' j := by
  intro c
  induction c with
  | zero => intro w f f' h _; exact h
  | succ c ih =>
    intro w f f' h hk
    rw [sp_votes, sp_votes]
    refine ih (w + 1) _ _ (fun j hj => ?_) hk
    unfold sp_vote1
    split
    · rename_i hc
      rcases sp_last_res F w δ y n with e | ⟨k, k1, k2, -⟩
      · exact absurd e hc.1
      · have hb := hk k k1
        rw [k2, nt_nI (by omega)]
        by_cases e : j = F 3 k
        · rw [e, upd_same, upd_same, h _ hb]
        · rw [upd_ne _ _ e, upd_ne _ _ e]
          exact h j hj
    · exact h j hj
def sp_best1 (hf f : Nat → Int32) (y p : Nat) (b : Int32 × Int32) : Int32 × Int32 :=
  if 0 < f p ∧ b.1 ≤ f p ∧ 0 < caw hf (nI p) y 8 then (f p, if f p = b.1 then -1 else nI p) else b
def sp_best (hf f : Nat → Int32) (y : Nat) : Nat → Nat → Int32 × Int32 → Int32 × Int32
  | 0, _, b => b
  | c + 1, p, b => sp_best hf f y c (p + 1) (sp_best1 hf f y p b)
def sp_doer (F : FF) (hf : Nat → Int32) (δ y n : Nat) : Int32 := (sp_best hf (sp_votes F hf δ y n 8 0 (fun _ => 0)) y 8 0 (0, -1)).2
theorem KB.set1 {F : FF} {lv : Nat → Int32} {A : List YL} {P N n : Nat} {τ : RS} (h : KB F lv A P N n τ) {c : Nat} (hc : c = 8 ∨ c = 9 ∨ 18 ≤ c) (f : Nat → Int32) : KB F lv A P N n (s1 τ c f) := by
  have e : ∀ k, k ≠ c → (s1 τ c f) k = τ k := fun k hk => s1_ne _ _ hk
  unfold KB kGood cO cL cFacts
  rw [e 0 (by omega), e 1 (by omega), e 2 (by omega), e 3 (by omega), e 4 (by omega), e 5 (by omega), e 6 (by omega), e 7 (by omega), e 10 (by omega), e 11 (by omega), e 12 (by omega), e 13 (by omega), e 14 (by omega), e 15 (by omega), e 16 (by omega), e 17 (by omega)]
  exact h
theorem best_eq {F : FF} {lv : Nat → Int32} {A : List YL} {P N n : Nat} {τ : RS} (h : KB F lv A P N n τ) {y : Nat} (hy : y < 400) {f f' : Nat → Int32} (hf : ∀ j, j < 8 → f j = f' j) : ∀ (c p : Nat) (b : Int32 × Int32), p + c ≤ 8 → kn_doer τ f (nI y) (ml F n) c p b = sp_best (dS F lv A n).1 f' y c p b := by
  intro c
  induction c with
  | zero => intro p b _; rfl
  | succ c ih =>
    intro p b hp
    have e : kn_best τ f (nI y) (ml F n) p b = sp_best1 (dS F lv A n).1 f' y p b := by
      unfold kn_best sp_best1
      rw [atF_nI _ (by omega) (by omega), hf p (by omega), a_awake h (by omega) hy]
      have hc := caw_pos (dS F lv A n).1 (nI p) y 8 (Nat.le_refl 8)
      by_cases q : 0 < f' p ∧ b.1 ≤ f' p ∧ 0 < caw (dS F lv A n).1 (nI p) y 8
      · have q' : 0 < f' p ∧ b.1 ≤ f' p ∧ 0 < nI (caw (dS F lv A n).1 (nI p) y 8) := ⟨q.1, q.2.1, hc.mpr q.2.2⟩
        rw [if_pos q, if_pos q']
      · rw [if_neg q, if_neg (fun z => q ⟨z.1, z.2.1, hc.mp z.2.2⟩)]
    rw [kn_doer, sp_best, e, ih (p + 1) _ (by omega)]
theorem a_doer {F : FF} {lv : Nat → Int32} {A : List YL} {P N n : Nat} {τ : RS} (h : KB F lv A P N n τ) {δ y : Nat} (hδ : δ < 10) (hy : y < 400) : (kn_doer (kn_voted τ (nI δ) (nI y) n (ml F n)) (kn_voted τ (nI δ) (nI y) n (ml F n) 9) (nI y) (ml F n) 8 0 (0, -1)).2 = sp_doer F (dS F lv A n).1 δ y n := by
  obtain ⟨hP, hN, hn, hok⟩ := h.1
  have h2 : KB F lv A P N n (kn_voted τ (nI δ) (nI y) n (ml F n)) := h.set1 (by omega) _
  unfold sp_doer
  rw [best_eq h2 hy (f' := sp_votes F (dS F lv A n).1 δ y n 8 0 (fun _ => 0)) (fun j hj => ?_) 8 0 _ (by omega)]
  show kn_votes τ (nI δ) (nI y) n (ml F n) 8 0 (fillTo (τ 9) 0 8) j = _
  rw [votes_eq h hδ hy 8 0 _ (by omega)]
  refine votes_like F _ δ y n (by omega) 8 0 _ _ (fun j hj => if_pos hj) (fun k hk => ?_) j hj
  exact (hok k (by omega)).1.2.2.2.1
/-! sums and rules -/
theorem m_less_eq (o : Nat → Int32) (p : Nat) (a : Int32) : ∀ k, m_less o p a k = a - sumTo (fun q => o (8 * q + p)) k := by
  intro k
  induction k with
  | zero => exact (Int32.sub_zero a).symm
  | succ k ih =>
    rw [m_less, sumTo, ih]
    simp only [Int32.sub_eq_add_neg, Int32.neg_add, Int32.add_assoc]
def sp_net (o : Nat → Int32) (p : Nat) : Int32 := sumTo (fun q => o (8 * p + q)) 8 - sumTo (fun q => o (8 * q + p)) 8
theorem a_net {F : FF} {lv : Nat → Int32} {A : List YL} {P N n : Nat} {τ : RS} (h : KB F lv A P N n τ) {p y : Nat} (hp : p < 8) (hy : y < 400) : sumTo (fun o => kn_debt τ (nI (mlist F n y).length) (nI p) (nI o)) 8 - sumTo (fun o => kn_debt τ (nI (mlist F n y).length) (nI o) (nI p)) 8 = sp_net (dU F lv A n y).2.2.1 p := by
  unfold sp_net
  rw [sum_like (g := fun q => (dU F lv A n y).2.2.1 (8 * p + q)) 8 (fun i hi => a_debt h hy hp hi), sum_like (g := fun q => (dU F lv A n y).2.2.1 (8 * q + p)) 8 (fun i hi => a_debt h hy hi hp)]
def sp_grows (S : SS) (k : Nat) : Int32 := if ¬ S.2.2.2.1 k = 0 then -1 else if S.2.2.2.2 k = -1 then -2 else S.2.2.2.2 k
def sp_ban (S : SS) (k : Nat) : Int32 := if S.2.2.2.1 k = 4 then S.2.2.2.2 k else -1
theorem a_grows {F : FF} {lv : Nat → Int32} {A : List YL} {P N n : Nat} {τ : RS} (h : KB F lv A P N n τ) {k : Nat} (hk : k < n) (h0 : F 0 k = 0) : kn_grows τ (nI k) = sp_grows (dS F lv A n) k := by
  obtain ⟨hP, hN, hn, hok⟩ := h.1
  obtain ⟨w1, w2⟩ := a_why h hk (by omega)
  unfold kn_grows sp_grows
  rw [atF_nI _ (by omega) (by omega), atF_nI _ (by omega) (by omega), w1]
  by_cases e : (dS F lv A n).2.2.2.1 k = 0
  · have ne : ¬ ¬ (dS F lv A n).2.2.2.1 k = 0 := fun z => z e
    rw [if_neg ne, if_neg ne, w2 h0 (Or.inr e)]
  · rw [if_pos e, if_pos e]
theorem a_banned {F : FF} {lv : Nat → Int32} {A : List YL} {P N n : Nat} {τ : RS} (h : KB F lv A P N n τ) {k : Nat} (hk : k < n) (h0 : F 0 k = 0) : kn_ban τ (nI k) = sp_ban (dS F lv A n) k := by
  obtain ⟨hP, hN, hn, hok⟩ := h.1
  obtain ⟨w1, w2⟩ := a_why h hk (by omega)
  unfold kn_ban sp_ban
  rw [atF_nI _ (by omega) (by omega), atF_nI _ (by omega) (by omega), w1]
  by_cases e : (dS F lv A n).2.2.2.1 k = 4
  · rw [if_pos e, if_pos e, w2 h0 (Or.inl e)]
  · rw [if_neg e, if_neg e]
