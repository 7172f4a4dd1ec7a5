/-! The model is told, and reads (class 7). -/
theorem pW_16 {c : Nat} (h1 : 9 ≤ c) (h2 : c ≤ 13) : pW c = 16 := by
  unfold pW
  rw [if_neg (by omega), if_pos h2]
theorem pW_200 {c : Nat} (h1 : 15 ≤ c) (h2 : c ≤ 19) : pW c = 200 := by
  unfold pW
  rw [if_neg (by omega), if_neg (by omega), if_pos h2]
theorem pW_500 {c : Nat} (h1 : 20 ≤ c) : pW c = 500 := by
  unfold pW
  rw [if_neg (by omega), if_neg (by omega), if_neg (by omega)]
/-- a side's rows alike -/
def sside (b : Nat) (σ σ' : RS) : Prop := ∀ c i, 8 ≤ c → c ≤ 21 → pW c * b ≤ i → i < pW c * b + pW c → σ' c i = σ c i
theorem rdK_side {b : Nat} {σ σ' : RS} (hb : b ≤ 1) (h : rdK (1 - b) σ σ') : sside b σ σ' := fun c i c1 c2 i1 i2 => by
  refine h.2.2.2 c i c1 c2 ?_
  have hb : b = 0 ∨ b = 1 := by omega
  rcases hb with rfl | rfl
  · left
    simp only [Nat.mul_zero, Nat.zero_add, Nat.sub_zero, Nat.mul_one] at *
    exact i2
  · right
    simp only [Nat.mul_one, Nat.sub_self, Nat.mul_zero, Nat.zero_add] at *
    exact i1
theorem mcd_side {b a : Nat} {σ σ' : RS} {l : List YC} (h : sside b σ σ') (hl : a + l.length ≤ 400) (g : mcd σ (500 * b + a) l) : mcd σ' (500 * b + a) l := fun j c hj => by
  have := (List.getElem?_eq_some_iff.mp hj).1
  have e20 := h 20 (500 * b + a + j) (by omega) (by omega)
  have e21 := h 21 (500 * b + a + j) (by omega) (by omega)
  rw [pW_500 (by omega)] at e20 e21
  rw [e20 (by omega) (by omega), e21 (by omega) (by omega)]
  exact g j c hj
theorem mrE_side {b i a : Nat} {σ σ' : RS} {r : YR} (h : sside b σ σ') (h1 : 200 * b ≤ i) (h2 : i < 200 * b + 200) (g : mrE b σ i r a) : mrE b σ' i r a := ⟨rlE_same (fun c c1 c2 => by
  have e := h c i (by omega) (by omega)
  rw [pW_200 c1 c2] at e
  exact e h1 h2) g.1, mcd_side h g.2.2 g.2.1, g.2.2⟩
theorem mrl_side {b q0 c0 : Nat} {σ σ' : RS} (h : sside b σ σ') : ∀ {l : List YR}, q0 + l.length ≤ 200 → mrl b σ q0 c0 l → mrl b σ' q0 c0 l := by
  intro l
  induction l with
  | nil => intro _ _; trivial
  | cons r l ih =>
    intro hl g
    rw [List.length_cons] at hl
    exact ⟨ih (by omega) g.1, mrE_side h (by omega) (by omega) g.2⟩
theorem mrR_side {b r q a : Nat} {σ σ' : RS} {R : YL} (h : sside b σ σ') (hr : r < 16) (g : mrR b σ r q a R) : mrR b σ' r q a R := by
  obtain ⟨⟨g9, g10, g11, g12, g13⟩, hc, ha, hm, hq⟩ := g
  have e : ∀ c, 9 ≤ c → c ≤ 13 → σ' c (16 * b + r) = σ c (16 * b + r) := fun c c1 c2 => by
    have e := h c (16 * b + r) (by omega) (by omega)
    rw [pW_16 c1 c2] at e
    exact e (by omega) (by omega)
  exact ⟨⟨by rw [e 9 (by omega) (by omega)]; exact g9, by rw [e 10 (by omega) (by omega)]; exact g10, by rw [e 11 (by omega) (by omega)]; exact g11, by rw [e 12 (by omega) (by omega)]; exact g12, by rw [e 13 (by omega) (by omega)]; exact g13⟩, mcd_side h ha hc, ha, mrl_side h hq hm, hq⟩
theorem mrls_side {b : Nat} {σ σ' : RS} (h : sside b σ σ') : ∀ {l : List YL} {r q a : Nat}, r + l.length ≤ 16 → mrls b σ r q a l → mrls b σ' r q a l := by
  intro l
  induction l with
  | nil => intro r q a _ _; trivial
  | cons R l ih =>
    intro r q a hl g
    rw [List.length_cons] at hl
    exact ⟨mrR_side h (by omega) g.1, ih (by omega) g.2⟩
theorem mlaw_side {b : Nat} {σ σ' : RS} {A : List YL} (h : sside b σ σ') (e18 : σ' 0 18 = σ 0 18) (g : mlaw b σ A) : mlaw b σ' A := by
  obtain ⟨g1, g2, g3, g4, g5, g6⟩ := g
  have e8 := h 8 b (by omega) (by omega)
  rw [show pW 8 = 1 from rfl] at e8
  exact ⟨g1, e18.trans g2, by rw [e8 (by omega) (by omega)]; exact g3, g4, mrls_side h (by omega) g5, g6⟩
theorem nI_nt {x : Int32} (h : 0 ≤ x) : x = nI (nt x) := by
  obtain ⟨k, k1, rfl⟩ := nI_of (Int32.not_lt.mpr h)
  rw [nt_nI k1]
theorem isP_0 {P : Int32} {x : Int32} (h : b_isPerson P x = true) : x = nI (nt x) := nI_nt (of_decide_eq_true h).1
theorem isD_0 {x : Int32} (h : m_day x = true) : x = nI (nt x) := nI_nt (of_decide_eq_true h).1
theorem mB_told {F : FF} {lv : Nat → Int32} {A : List YL} {P N b : Nat} {σ : RS} (h : mBase F lv A P N b σ) (hc : mCache F lv A N σ) (hn : ¬ N = 120) {q : Nat → Nat} (ho : okF P (fnew N q F) N) {x0 x1 x2 x3 x4 x5 x6 : Int32} (e : x0 = nI (q 0) ∧ x1 = nI (q 1) ∧ x2 = nI (q 2) ∧ x3 = nI (q 3) ∧ x4 = nI (q 4) ∧ x5 = nI (q 5) ∧ x6 = nI (q 6)) : mBase (fnew N q F) lv A P (N + 1) b (m_told σ N x0 x1 x2 x3 x4 x5 x6) ∧ mCache (fnew N q F) lv A (N + 1) (m_told σ N x0 x1 x2 x3 x4 x5 x6) ∧ mK σ (m_told σ N x0 x1 x2 x3 x4 x5 x6) := by
  obtain ⟨⟨hP, hN, hok⟩, h37, h39, hF, hl, hlv⟩ := h
  obtain ⟨T, hT⟩ : ∃ T, T = m_told σ N x0 x1 x2 x3 x4 x5 x6 := ⟨_, rfl⟩
  have t24 : T 24 = upd (σ 24) N x0 := by rw [hT]; rfl
  have t25 : T 25 = upd (σ 25) N x1 := by rw [hT]; rfl
  have t26 : T 26 = upd (σ 26) N x2 := by rw [hT]; rfl
  have t27 : T 27 = upd (σ 27) N x3 := by rw [hT]; rfl
  have t28 : T 28 = upd (σ 28) N x4 := by rw [hT]; rfl
  have t29 : T 29 = upd (σ 29) N x5 := by rw [hT]; rfl
  have t30 : T 30 = upd (σ 30) N x6 := by rw [hT]; rfl
  have t0 : T 0 = upd (σ 0) 39 (nI (N + 1)) := by rw [hT]; rfl
  have to : ∀ c, c ≠ 0 → c < 24 ∨ 30 < c → T c = σ c := fun c c0 c1 => by
    rw [hT]
    unfold m_told s2
    rw [s1_ne _ _ c0, s1_ne _ _ (by omega), s1_ne _ _ (by omega), s1_ne _ _ (by omega), s1_ne _ _ (by omega), s1_ne _ _ (by omega), s1_ne _ _ (by omega), s1_ne _ _ (by omega)]
  have ts : ∀ j, j ≠ 39 → T 0 j = σ 0 j := fun j hj => by rw [t0, upd_ne _ _ hj]
  rw [← hT]
  have hag := fnew_ag N q F
  refine ⟨⟨⟨hP, by omega, fun k hk => ?_⟩, by rw [ts 37 (by omega)]; exact h37, by rw [t0, upd_same], fun k hk => ?_, mlaw_same ⟨fun c c1 c2 => to c (by omega) (by omega), ts 18 (by omega)⟩ hl, by rw [to 23 (by omega) (by omega)]; exact hlv⟩, mCache_ag (Nat.le_succ N) hag (fun _ _ _ => rfl) hc ⟨ts 47 (by omega), ts 48 (by omega)⟩ (fun c c1 c2 => to c (by omega) (by omega)), to 1 (by omega) (by omega), ts 2 (by omega), ts 17 (by omega)⟩
  · by_cases z : k = N
    · rw [z]; exact ho
    · exact okF_ag hag (by omega) (hok k (by omega))
  · rw [t24, t25, t26, t27, t28, t29, t30]
    by_cases z : k = N
    · subst z
      simp only [upd_same, fnew_at]
      exact e
    · simp only [upd_ne _ _ z, fnew_ne q F _ z]
      exact hF k (by omega)
/-- what a fact told leaves -/
def tmQ (F : FF) (lv : Nat → Int32) (A : List YL) (P N b : Nat) (σ : RS) (τ : TS) : Option (Nat → Nat) → Option Value → MW → Prop
  | none => fun v w => v = some (.int (-1)) ∧ w = WM σ τ
  | some q => fun v w => v = some (.int (nI N)) ∧ ∃ σ', w = WM σ' τ ∧ mBase (fnew N q F) lv A P (N + 1) b σ' ∧ mCache (fnew N q F) lv A (N + 1) σ' ∧ mK σ σ'
theorem tm_of {d : Nat} {z : MI} {args : List Value} {F : FF} {lv : Nat → Int32} {A : List YL} {P N b : Nat} {σ σ' : RS} {τ : TS} {g : Bool} {q : Nat → Nat} {R : Option (Nat → Nat)} (hM : Ok d z args (WM σ τ) (if g = true then rt (some (.int (nI N))) (WM σ' τ) else rt (some (.int (-1))) (WM σ τ))) (hR : R = if g = true then some q else none) (hB : g = true → mBase (fnew N q F) lv A P (N + 1) b σ' ∧ mCache (fnew N q F) lv A (N + 1) σ' ∧ mK σ σ') : Ok d z args (WM σ τ) (tmQ F lv A P N b σ τ R) := by
  by_cases hg : g = true
  · rw [if_pos hg] at hM hR
    rw [hR]
    exact hM.mono (fun v w hq _ => ⟨hq.1, σ', hq.2, hB hg⟩)
  · rw [if_neg hg] at hM hR
    rw [hR]
    exact hM.mono (fun v w hq _ => hq)
theorem d120 {N : Nat} (hN : N ≤ 120) : decide (¬ nI N = 120) = decide (¬ N = 120) := decide_eq_decide.mpr (not_congr (nI_eq (a := N) (b := 120) (by omega) (by omega)))
theorem m_loan' {d : Nat} {F : FF} {lv : Nat → Int32} {A : List YL} {P N b : Nat} {σ : RS} (τ : TS) (h : mBase F lv A P N b σ) (hc : mCache F lv A N σ) (m a p y o : Int32) : Ok (d + 6) M7_loan [.ref 0, .int m, .int a, .int p, .int y, .int o] (WM σ τ) (tmQ F lv A P N b σ τ (R_gift P N 0 m a p y o)) := by
  have hP := h.1.1
  have hN := h.1.2.1
  have k := m_loan (d := d + 4) σ τ N hN h.2.2.1 m a p y o
  unfold m_okGift at k
  rw [h.2.2.1, h.2.1, d120 hN] at k
  unfold R_gift
  refine tm_of k rfl (fun hg => ?_)
  have ho := (gift_ok (k := 0) (by omega) hP F hg).1
  simp only [Bool.and_eq_true, decide_eq_true_eq] at hg
  obtain ⟨⟨⟨⟨⟨⟨hn, g1⟩, g2⟩, g3⟩, g4⟩, g5⟩, g6⟩ := hg
  exact mB_told h hc hn ho ⟨rfl, isD_0 g1, isP_0 g2, isP_0 g5, isP_0 g3, isD_0 g4, rfl⟩
theorem m_pays' {d : Nat} {F : FF} {lv : Nat → Int32} {A : List YL} {P N b : Nat} {σ : RS} (τ : TS) (h : mBase F lv A P N b σ) (hc : mCache F lv A N σ) (m a p y o : Int32) : Ok (d + 6) M7_pays [.ref 0, .int m, .int a, .int p, .int y, .int o] (WM σ τ) (tmQ F lv A P N b σ τ (R_gift P N 1 m a p y o)) := by
  have hP := h.1.1
  have hN := h.1.2.1
  have k := m_pays (d := d + 4) σ τ N hN h.2.2.1 m a p y o
  unfold m_okGift at k
  rw [h.2.2.1, h.2.1, d120 hN] at k
  unfold R_gift
  refine tm_of k rfl (fun hg => ?_)
  have ho := (gift_ok (k := 1) (by omega) hP F hg).1
  simp only [Bool.and_eq_true, decide_eq_true_eq] at hg
  obtain ⟨⟨⟨⟨⟨⟨hn, g1⟩, g2⟩, g3⟩, g4⟩, g5⟩, g6⟩ := hg
  exact mB_told h hc hn ho ⟨rfl, isD_0 g1, isP_0 g2, isP_0 g5, isP_0 g3, isD_0 g4, rfl⟩
theorem m_meeting' {d : Nat} {F : FF} {lv : Nat → Int32} {A : List YL} {P N b : Nat} {σ : RS} (τ : TS) (h : mBase F lv A P N b σ) (hc : mCache F lv A N σ) (m : Int32) : Ok (d + 6) M7_meeting [.ref 0, .int m] (WM σ τ) (tmQ F lv A P N b σ τ (R_meet N m)) := by
  have hP := h.1.1
  have hN := h.1.2.1
  have k := m_meeting (d := d + 5) σ τ N hN h.2.2.1 m
  unfold m_okDay at k
  rw [h.2.2.1, d120 hN] at k
  unfold R_meet
  refine tm_of k rfl (fun hg => ?_)
  have ho := (meet_ok (P := P) F hg).1
  simp only [Bool.and_eq_true, decide_eq_true_eq] at hg
  obtain ⟨hn, g1⟩ := hg
  exact mB_told h hc hn ho ⟨rfl, isD_0 g1, rfl, rfl, rfl, rfl, rfl⟩
theorem m_feast' {d : Nat} {F : FF} {lv : Nat → Int32} {A : List YL} {P N b : Nat} {σ : RS} (τ : TS) (h : mBase F lv A P N b σ) (hc : mCache F lv A N σ) (y : Int32) (o : Bool) : Ok (d + 6) M7_feast [.ref 0, .int y, .int (bI o)] (WM σ τ) (tmQ F lv A P N b σ τ (R_feast N y o)) := by
  have hP := h.1.1
  have hN := h.1.2.1
  have k := m_feast (d := d + 5) σ τ N hN h.2.2.1 y o
  unfold m_okDay at k
  rw [h.2.2.1, d120 hN] at k
  unfold R_feast
  refine tm_of k rfl (fun hg => ?_)
  have ho := (feast_ok (P := P) F o hg).1
  simp only [Bool.and_eq_true, decide_eq_true_eq] at hg
  obtain ⟨hn, g1⟩ := hg
  exact mB_told h hc hn ho ⟨rfl, isD_0 g1, rfl, rfl, rfl, rfl, by cases o <;> rfl⟩
theorem m_seen' {d : Nat} {F : FF} {lv : Nat → Int32} {A : List YL} {P N b : Nat} {σ : RS} (τ : TS) (h : mBase F lv A P N b σ) (hc : mCache F lv A N σ) (x p k1 y : Int32) : Ok (d + 6) M7_seen [.ref 0, .int x, .int p, .int k1, .int y] (WM σ τ) (tmQ F lv A P N b σ τ (R_seen P N x p k1 y)) := by
  have hP := h.1.1
  have hN := h.1.2.1
  have k := m_seen (d := d + 5) σ τ N hN h.2.2.1 x p k1 y
  unfold m_okSeen at k
  rw [h.2.2.1, h.2.1, d120 hN] at k
  unfold R_seen
  refine tm_of k rfl (fun hg => ?_)
  have ho := (seen_ok hP F hg).1
  simp only [Bool.and_eq_true, decide_eq_true_eq] at hg
  obtain ⟨⟨⟨⟨hn, g1⟩, g2⟩, g3⟩, g4⟩ := hg
  exact mB_told h hc hn ho ⟨rfl, isD_0 g4, isP_0 g1, isP_0 g2, rfl, rfl, nI_nt g3.1⟩
theorem forg_eq {F : FF} {lv : Nat → Int32} {A : List YL} {P N b : Nat} {σ : RS} (h : mBase F lv A P N b σ) (f : Int32) : q_forged σ f = (decide (¬ N = 120) && decide (0 ≤ f ∧ f < nI N ∧ F 0 (nt f) ≤ 2)) := by
  have hN := h.1.2.1
  unfold q_forged
  rw [h.2.2.1, d120 hN]
  congr 1
  by_cases z : 0 ≤ f ∧ f < nI N
  · obtain ⟨z1, z2⟩ := z
    obtain ⟨k, k1, rfl⟩ := nI_of (Int32.not_lt.mpr z1)
    have hk : k < N := (nI_ltI k1 (by omega)).mp z2
    have b0 := (h.1.2.2 k hk).1.1
    rw [nt_nI k1, (h.2.2.2.1 k hk).1]
    have e2 : nI (F 0 k) ≤ 2 ↔ F 0 k ≤ 2 := nI_leI (a := F 0 k) (b := 2) (by omega) (by omega)
    exact decide_eq_decide.mpr ⟨fun w => ⟨z1, z2, e2.mp w.2.2⟩, fun w => ⟨z1, z2, e2.mpr w.2.2⟩⟩
  · exact decide_eq_decide.mpr ⟨fun w => absurd ⟨w.1, w.2.1⟩ z, fun w => absurd ⟨w.1, w.2.1⟩ z⟩
theorem m_forged' {d : Nat} {F : FF} {lv : Nat → Int32} {A : List YL} {P N b : Nat} {σ : RS} (τ : TS) (h : mBase F lv A P N b σ) (hc : mCache F lv A N σ) (f : Int32) : Ok (d + 6) M7_forged [.ref 0, .int f] (WM σ τ) (tmQ F lv A P N b σ τ (R_forg F N f)) := by
  have hN := h.1.2.1
  have k := m_forged (d := d) σ τ N hN h.2.2.1 f
  rw [forg_eq h] at k
  unfold R_forg
  refine tm_of k rfl (fun hg => ?_)
  have ho := (forg_ok (P := P) hN F hg).1
  simp only [Bool.and_eq_true, decide_eq_true_eq] at hg
  obtain ⟨hn, g0, g1⟩ := hg
  exact mB_told h hc hn ho ⟨rfl, rfl, rfl, rfl, rfl, rfl, nI_nt g0⟩
/-- what a person told leaves -/
def pmQ (F : FF) (lv : Nat → Int32) (A : List YL) (P N b : Nat) (σ : RS) (τ : TS) (x : Int32) : Option Value → MW → Prop := if P = 8 ∨ x < 0 ∨ 40000 < x then (fun v w => v = some (.int (-1)) ∧ w = WM σ τ) else fun v w => v = some (.int (nI P)) ∧ ∃ σ', w = WM σ' τ ∧ mBase F (upd lv P x) A (P + 1) N b σ' ∧ mCache F (upd lv P x) A N σ' ∧ mK σ σ'
theorem m_person' {d : Nat} {F : FF} {lv : Nat → Int32} {A : List YL} {P N b : Nat} {σ : RS} (τ : TS) (h : mBase F lv A P N b σ) (hc : mCache F lv A N σ) (x : Int32) : Ok (d + 6) M7_person [.ref 0, .int x] (WM σ τ) (pmQ F lv A P N b σ τ x) := by
  have k := m_person (d := d + 6) σ τ P h.1.1 h.2.1 x
  unfold pmQ
  by_cases g : P = 8 ∨ x < 0 ∨ 40000 < x
  · rw [if_pos g] at k ⊢
    exact k.mono (fun v w hq _ => hq)
  · rw [if_neg g] at k ⊢
    refine k.mono (fun v w hq _ => ⟨hq.1, _, hq.2, ?_, Or.inl rfl, ?_⟩)
    · obtain ⟨⟨hP, hN, hok⟩, h37, h39, hF, hl, hlv⟩ := h
      have hn : ¬ P = 8 := fun z => g (Or.inl z)
      have to : ∀ c, c ≠ 0 → c ≠ 23 → (m_came σ P x) c = σ c := fun c c0 c1 => by
        unfold m_came s2
        rw [s1_ne _ _ c0, s1_ne _ _ c0, s1_ne _ _ c1]
      refine ⟨⟨by omega, hN, fun k hk => okF_more (hok k hk)⟩, rfl, h39, mF_keep hF (fun c c1 c2 => to c (by omega) (by omega)), mlaw_same ⟨fun c c1 c2 => to c (by omega) (by omega), rfl⟩ hl, fun p hp => ?_⟩
      show upd (σ 23) P x p = _
      by_cases e : p = P
      · rw [e, upd_same, upd_same]
      · rw [upd_ne _ _ e, upd_ne _ _ e]; exact hlv p (by omega)
    · exact ⟨rfl, rfl, rfl⟩
/-- what reading leaves -/
def mrQ (F : FF) (lv : Nat → Int32) (A : List YL) (P N b : Nat) (R : Int32 × Nat × YS) (σ : RS) (τ : TS) : Option Value → MW → Prop := fun v w => v = some (.int R.1) ∧ ∃ σ' τ', w = WM σ' τ' ∧ τ' 7 = τ 7 ∧ σ' 0 2 = 0 ∧ σ' 1 = σ 1 ∧ ((¬ R.1 = 0 ∧ σ' 0 17 = nI R.2.1 ∧ mBase F lv A P N b σ' ∧ mCache F lv A N σ') ∨ (R.1 = 0 ∧ σ' 0 17 = -1 ∧ mBase F lv R.2.2.2.2.1.1 P N (1 - b) σ' ∧ mCache F lv R.2.2.2.2.1.1 N σ'))
theorem m_read' {d : Nat} {F : FF} {lv : Nat → Int32} {A : List YL} {P N b : Nat} {σ : RS} (τ : TS) (h : mBase F lv A P N b σ) (hc : mCache F lv A N σ) (hks : keysok τ) (T f : Nat) (R : Int32 × Nat × YS) (hT : T ≤ 2000) (h2 : σ 0 2 = nI T) (hrun : ym_run T (fun i => σ 1 i &&& 255) f 0 ym_0 = some R) : Ok (d + 7) M7_read [.ref 0] (WM σ τ) (mrQ F lv A P N b R σ τ) := by
  obtain ⟨hb, h18, -⟩ := h.2.2.2.2.1
  refine (m_read τ σ T b f R hT h2 hb h18 hks hrun).mono (fun v w hq _ => ?_)
  obtain ⟨σ', τ', rfl, h7, hK, j2, hd⟩ := hq
  obtain ⟨⟨hP, hN, hok⟩, h37, h39, hF, hl, hlv⟩ := h
  have k37 : σ' 0 37 = nI P := (hK.2.2.1 37 (by omega)).trans h37
  have k39 : σ' 0 39 = nI N := (hK.2.2.1 39 (by omega)).trans h39
  have kF : mF N F σ' := mF_keep hF (fun c c1 c2 => hK.2.1 c (by omega))
  have kl : ∀ p, p < P → σ' 23 p = lv p := fun p hp => by rw [hK.2.1 23 (by omega)]; exact hlv p hp
  rcases hd with ⟨a1, a2, a3, a4, a5⟩ | ⟨a1, a2, a3, a4, a5, a6, a7, a8⟩
  · have hn0 : ¬ R.1 = 0 := by
      rcases a1 with a1 | a1
      · rw [a1]; decide
      · rw [a1]; decide
    exact ⟨a2, σ', τ', rfl, h7, j2, hK.1, Or.inl ⟨hn0, a3, ⟨⟨hP, hN, hok⟩, k37, k39, kF, mlaw_side (rdK_side hb hK) a4 hl, kl⟩, mCache_ag (Nat.le_refl N) (fun _ _ _ => rfl) (fun _ _ _ => rfl) hc ⟨a5, hK.2.2.1 48 (by omega)⟩ (fun c c1 c2 => hK.2.1 c (by omega))⟩⟩
  · obtain ⟨b1, b2, b3⟩ := ym_ok_done a7 a8
    refine ⟨by rw [a1]; exact a2, σ', τ', rfl, h7, j2, hK.1, Or.inr ⟨a1, a3, ⟨⟨hP, hN, hok⟩, k37, k39, kF, mlaw_of (by omega) a4 a6 ?_ ?_ ?_, kl⟩, Or.inl a5⟩⟩
    · exact b1
    · exact b2
    · exact b3
