/-! What the model answers, second part: chains, witnesses, doers, what turned. -/
def chp (F : FF) (wy : Nat → Int32) (p y : Nat) : List Nat → Nat → Nat × Option Int32
  | [], left => (left, none)
  | f :: fs, left => if wy f = 0 ∧ F 0 f ≤ 1 ∧ F 4 f = p ∧ F 5 f = y then (if left = 1 then (left, some (nI (F 3 f))) else chp F wy p y fs (left - 1)) else chp F wy p y fs left
theorem chn_chp (F : FF) (wy : Nat → Int32) (p y : Nat) : ∀ (l : List Nat) (left : Nat), chn F wy p y l left = (chp F wy p y l left).2.getD (-1) := by
  intro l
  induction l with
  | nil => intro left; rfl
  | cons f l ih =>
    intro left
    rw [chn, chp]
    split
    · split
      · rfl
      · exact ih _
    · exact ih _
theorem chp_app (F : FF) (wy : Nat → Int32) (p y : Nat) (b : List Nat) : ∀ (a : List Nat) (left : Nat), (∀ v, (chp F wy p y a left).2 = some v → (chp F wy p y (a ++ b) left).2 = some v) ∧ ((chp F wy p y a left).2 = none → chp F wy p y (a ++ b) left = chp F wy p y b (chp F wy p y a left).1) := by
  intro a
  induction a with
  | nil => intro left; exact ⟨(fun v hv => by cases hv), fun _ => rfl⟩
  | cons f a ih =>
    intro left
    rw [List.cons_append, chp, chp]
    split
    · split
      · exact ⟨fun v hv => hv, fun hv => by cases hv⟩
      · exact ih _
    · exact ih _
theorem day_chp {F : FF} {P N n p y d : Nat} {G : RS} {wy : Nat → Int32} (hok : ∀ k, k < N → okF P F k) (hF : mF N F G) (hn : n ≤ N) (hp : p < 8) (hy : y < 400) (hd : d < 400) (hw : ∀ k, k < n → F 0 k ≤ 2 → G 34 k = wy k ∧ wok (wy k)) : ∀ (c k left : Nat), k + c = n → 1 ≤ left → left < 2 ^ 31 → (c_day G p y d c k (nI left)).2 = (chp F wy p y (mday F d c k) left).2 ∧ ((chp F wy p y (mday F d c k) left).2 = none → (c_day G p y d c k (nI left)).1 = nI (chp F wy p y (mday F d c k) left).1 ∧ 1 ≤ (chp F wy p y (mday F d c k) left).1 ∧ (chp F wy p y (mday F d c k) left).1 ≤ left) := by
  intro c
  induction c with
  | zero => intro k left _ h1 _; exact ⟨rfl, fun _ => ⟨rfl, h1, Nat.le_refl _⟩⟩
  | succ c ih =>
    intro k left hk h1 h2
    have hkN : k < N := by omega
    obtain ⟨⟨b0, b1, b2, b3, b4, b5, b6⟩, -⟩ := hok k hkN
    obtain ⟨q24, q25, q26, q27, q28, q29, q30⟩ := hF k hkN
    have e24 : (G 24 k ≤ 1) ↔ F 0 k ≤ 1 := by rw [q24]; exact nI_leI (b := 1) (by omega) (by omega)
    have e25 : (G 25 k = nI d) ↔ F 1 k = d := by rw [q25]; exact nI_eq (by omega) (by omega)
    have e28 : (G 28 k = nI p) ↔ F 4 k = p := by rw [q28]; exact nI_eq (by omega) (by omega)
    have e29 : (G 29 k = nI y) ↔ F 5 k = y := by rw [q29]; exact nI_eq (by omega) (by omega)
    have e34 : F 0 k ≤ 1 → ((G 34 k ≤ 0) ↔ wy k = 0) := fun z => by
      obtain ⟨w1, w2⟩ := hw k (by omega) (by omega)
      rw [w1]
      constructor
      · intro q
        by_cases e : wy k = 0
        · exact e
        · exact absurd q (Int32.not_le.mpr (w2.pos.mpr e))
      · intro q; rw [q]; exact Int32.le_refl 0
    have ihs := ih (k + 1)
    rw [c_day, mday]
    by_cases hin : F 0 k ≤ 2 ∧ F 1 k = d
    · rw [if_pos hin, chp]
      by_cases hc : wy k = 0 ∧ F 0 k ≤ 1 ∧ F 4 k = p ∧ F 5 k = y
      · obtain ⟨c1, c2, c3, c4⟩ := hc
        have hc' : wy k = 0 ∧ F 0 k ≤ 1 ∧ F 4 k = p ∧ F 5 k = y := ⟨c1, c2, c3, c4⟩
        have hg : G 24 k ≤ 1 ∧ G 25 k = nI d ∧ G 28 k = nI p ∧ G 29 k = nI y ∧ G 34 k ≤ 0 := ⟨e24.mpr c2, e25.mpr hin.2, e28.mpr c3, e29.mpr c4, (e34 c2).mpr c1⟩
        have e1 : nI left - 1 = nI (left - 1) := by rw [show (1 : Int32) = nI 1 from rfl, nI_sub h1]
        rw [if_pos hg, if_pos hc', e1, q27]
        by_cases e : left = 1
        · have z0 : nI (left - 1) = 0 := by rw [e]; rfl
          rw [if_pos z0, if_pos e]
          exact ⟨rfl, fun z => by cases z⟩
        · have z0 : ¬ nI (left - 1) = 0 := fun z => by have := (nI_eq (b := 0) (by omega) (by omega)).mp z; omega
          rw [if_neg z0, if_neg e]
          obtain ⟨r1, r2⟩ := ihs (left - 1) (by omega) (by omega) (by omega)
          exact ⟨r1, fun z => ⟨(r2 z).1, (r2 z).2.1, by have := (r2 z).2.2; omega⟩⟩
      · have hg : ¬ (G 24 k ≤ 1 ∧ G 25 k = nI d ∧ G 28 k = nI p ∧ G 29 k = nI y ∧ G 34 k ≤ 0) := fun z => hc ⟨(e34 (e24.mp z.1)).mp z.2.2.2.2, e24.mp z.1, e28.mp z.2.2.1, e29.mp z.2.2.2.1⟩
        rw [if_neg hg, if_neg hc]
        exact ihs left (by omega) h1 h2
    · have hg : ¬ (G 24 k ≤ 1 ∧ G 25 k = nI d ∧ G 28 k = nI p ∧ G 29 k = nI y ∧ G 34 k ≤ 0) := fun z => hin ⟨by have := e24.mp z.1; omega, e25.mp z.2.1⟩
      rw [if_neg hin, if_neg hg]
      exact ihs left (by omega) h1 h2
theorem all_chn {F : FF} {P N n p y : Nat} {G : RS} {wy : Nat → Int32} (hok : ∀ k, k < N → okF P F k) (hF : mF N F G) (hn : n ≤ N) (hp : p < 8) (hy : y < 400) (hw : ∀ k, k < n → F 0 k ≤ 2 → G 34 k = wy k ∧ wok (wy k)) : ∀ (c d left : Nat), d + c ≤ 400 → 1 ≤ left → left < 2 ^ 31 → c_all G p y n c d (nI left) = chn F wy p y (mall F n c d) left := by
  intro c
  induction c with
  | zero => intro d left _ _ _; rfl
  | succ c ih =>
    intro d left hd h1 h2
    obtain ⟨r1, r2⟩ := day_chp hok hF hn hp hy (show d < 400 by omega) hw n 0 left (by omega) h1 h2
    obtain ⟨s1, s2⟩ := chp_app F wy p y (mall F n c (d + 1)) (mday F d n 0) left
    rw [c_all, mall, chn_chp]
    cases hr : (chp F wy p y (mday F d n 0) left).2 with
    | some v =>
      rw [r1, hr, s1 v hr]
      rfl
    | none =>
      obtain ⟨t1, t2, t3⟩ := r2 hr
      rw [r1, hr, s2 hr, t1]
      show c_all G p y n c (d + 1) _ = _
      rw [ih (d + 1) _ (by omega) t2 (by omega), chn_chp]
theorem MB.chain {F : FF} {lv : Nat → Int32} {A : List YL} {P N n b : Nat} {G : RS} (h : MB F lv A P N n 399 b G) {p y : Nat} (hp : p < 8) (hy : y < 400) {i : Int32} (hi : 0 ≤ i) : (if i = 0 then nI p else c_all G p y n 400 0 i) = if i = 0 then nI p else chn F (dS F lv A n).2.2.2.1 p y (mlist F n 399) (nt i) := by
  obtain ⟨j, j1, j2⟩ := nI_of (Int32.not_lt.mpr hi)
  subst j2
  by_cases e : nI j = 0
  · rw [if_pos e, if_pos e]
  · have hj : ¬ j = 0 := fun z => e (by rw [z]; rfl)
    rw [if_neg e, if_neg e, nt_nI j1]
    exact all_chn h.1.1.2.2 h.1.2.2.2.1 h.2.1 hp hy (fun k hk hs => ⟨(h.why hk hs).1, wok_dS F lv A n k⟩) 400 0 j (by omega) (by omega) j1
theorem MB.last {F : FF} {lv : Nat → Int32} {A : List YL} {P N n z b : Nat} {G : RS} (h : MB F lv A P N n z b G) {w δ y : Nat} (hw : w < 8) (hδ : δ < 10) (hy : y < 400) : ∀ k, k ≤ N → n_last G (nI w) (nI δ) (nI y) k = sp_last F w δ y k := by
  intro k
  induction k with
  | zero => intro _; rfl
  | succ k ih =>
    intro hk
    have hN := h.1.1.2.1
    obtain ⟨⟨b0, b1, b2, b3, b4, b5, b6⟩, -⟩ := h.1.1.2.2 k (by omega)
    obtain ⟨q24, q25, q26, q27, q28, q29, q30⟩ := h.1.2.2.2.1 k (by omega)
    rw [n_last, sp_last, q24, q25, q26, q30, ih (by omega)]
    have c : (nI (F 0 k) = 5 ∧ nI (F 2 k) = nI w ∧ nI (F 6 k) = nI δ ∧ nI (F 1 k) = nI y) ↔ (F 0 k = 5 ∧ F 2 k = w ∧ F 6 k = δ ∧ F 1 k = y) := by
      rw [show (5 : Int32) = nI 5 from rfl, nI_eq (by omega) (by omega), nI_eq (by omega) (by omega), nI_eq (by omega) (by omega), nI_eq (by omega) (by omega)]
    by_cases e : F 0 k = 5 ∧ F 2 k = w ∧ F 6 k = δ ∧ F 1 k = y
    · rw [if_pos e, if_pos (c.mpr e)]
    · rw [if_neg e, if_neg (fun z => e (c.mp z))]
theorem MB.cnt {F : FF} {lv : Nat → Int32} {A : List YL} {P N n b : Nat} {G : RS} (h : MB F lv A P N n 399 b G) {k : Nat} (hk : k < N) (h5 : F 0 k = 5) : q_cnt G P k = sp_cnt F (dS F lv A n).1 k := by
  obtain ⟨⟨b0, b1, b2, b3, b4, b5, b6⟩, -, -, -, c5⟩ := h.1.1.2.2 k hk
  obtain ⟨q24, q25, q26, q27, q28, q29, q30⟩ := h.1.2.2.2.1 k hk
  unfold q_cnt sp_cnt
  rw [q25, q26, q27, nt_nI (by omega), h.awake (c5 h5).1 b1, ← Bool.decide_and]
  refine decide_eq_decide.mpr ?_
  rw [nI_eq (by omega) (by omega)]
  exact and_congr Iff.rfl (caw_pos _ _ _ _ (Nat.le_refl 8))
