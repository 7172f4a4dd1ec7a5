/-! The model's answers (class 7), for whatever is asked. -/
def mK (σ σ' : RS) : Prop := σ' 1 = σ 1 ∧ σ' 0 2 = σ 0 2 ∧ σ' 0 17 = σ 0 17
theorem mK.refl (σ : RS) : mK σ σ := ⟨rfl, rfl, rfl⟩
theorem gk.mK {σ σ' : RS} (h : gk σ σ') : mK σ σ' := ⟨h.1 1 (by omega) (by omega), h.2 2 (by omega) (by omega) (by omega), h.2 17 (by omega) (by omega) (by omega)⟩
/-- a question's end -/
def qm (F : FF) (lv : Nat → Int32) (A : List YL) (P N b : Nat) (σ : RS) (τ : TS) (ans : Int32) : Option Value → MW → Prop := fun v w => v = some (.int ans) ∧ ∃ σ', w = WM σ' τ ∧ mBase F lv A P N b σ' ∧ mCache F lv A N σ' ∧ mK σ σ'
theorem qm_st {d : Nat} {z : MI} {args : List Value} {F : FF} {lv : Nat → Int32} {A : List YL} {P N b : Nat} {σ σ' : RS} {τ : TS} {x y : Int32} (hM : Ok d z args (WM σ τ) (rt (some (.int x)) (WM σ' τ))) (h : mBase F lv A P N b σ') (hc : mCache F lv A N σ') (hk : mK σ σ') (e : y = x) : Ok d z args (WM σ τ) (qm F lv A P N b σ τ y) := hM.mono (fun v w hq _ => ⟨by rw [hq.1, e], σ', hq.2, h, hc, hk⟩)
theorem qm_no {d : Nat} {z : MI} {args : List Value} {F : FF} {lv : Nat → Int32} {A : List YL} {P N b : Nat} {σ : RS} {τ : TS} {x y : Int32} (hM : Ok d z args (WM σ τ) (rt (some (.int x)) (WM σ τ))) (h : mBase F lv A P N b σ) (hc : mCache F lv A N σ) (e : y = x) : Ok d z args (WM σ τ) (qm F lv A P N b σ τ y) := qm_st hM h hc (mK.refl σ) e
theorem gone_keep {F : FF} {lv : Nat → Int32} {A : List YL} {P N b n y : Nat} {σ : RS} (h : mBase F lv A P N b σ) (hc : mCache F lv A N σ) (hn : n ≤ N) (hy : y < 400) : mBase F lv A P N b (g_gone P b A.length n y σ) ∧ mCache F lv A N (g_gone P b A.length n y σ) ∧ mK σ (g_gone P b A.length n y σ) := by
  have g := g_gone_gk P b A.length n y σ
  obtain ⟨m1, m2, m3⟩ := m_gone h hc hn hy
  exact ⟨h.gk g, Or.inr ⟨n, y, hn, hy, m2, m3, m1⟩, g.mK⟩
theorem qm_gn {d : Nat} {z : MI} {args : List Value} {F : FF} {lv : Nat → Int32} {A : List YL} {P N b n day : Nat} {σ : RS} {τ : TS} {x y : Int32} (hM : Ok d z args (WM σ τ) (rt (some (.int x)) (WM (g_gone P b A.length n day σ) τ))) (h : mBase F lv A P N b σ) (hc : mCache F lv A N σ) (hn : n ≤ N) (hd : day < 400) (e : y = x) : Ok d z args (WM σ τ) (qm F lv A P N b σ τ y) := by
  obtain ⟨g1, g2, g3⟩ := gone_keep h hc hn hd
  exact qm_st hM g1 g2 g3 e
theorem q_leaf_eq {F : FF} {lv : Nat → Int32} {A : List YL} {P N b : Nat} {σ : RS} (h : mBase F lv A P N b σ) (p y x : Int32) : q_leaf σ p y x = gLeaf P N p y x := by
  unfold q_leaf gLeaf
  rw [h.2.1, h.2.2.1]
theorem q_ring_eq {F : FF} {lv : Nat → Int32} {A : List YL} {P N b : Nat} {σ : RS} (h : mBase F lv A P N b σ) (y x : Int32) : q_ring σ y x = gDay N y x := by
  unfold q_ring gDay
  rw [h.2.2.1]
theorem m_kind {F : FF} {lv : Nat → Int32} {A : List YL} {P N b : Nat} {σ : RS} (h : mBase F lv A P N b σ) {f x : Int32} (hg : gFact N f x = true) : σ 24 (nt f) = nI (F 0 (nt f)) ∧ F 0 (nt f) ≤ 5 := by
  obtain ⟨k, n, k1, n1, rfl, rfl⟩ := gFact_of h.1.2.1 hg
  have hN := h.1.2.1
  rw [nt_nI (by omega)]
  exact ⟨(h.2.2.2.1 k (by omega)).1, (h.1.2.2 k (by omega)).1.1⟩
theorem m_fact_iff {F : FF} {lv : Nat → Int32} {A : List YL} {P N b : Nat} {σ : RS} (h : mBase F lv A P N b σ) (f x : Int32) {p : Int32 → Prop} [DecidablePred p] {q : Nat → Prop} (hpq : ∀ s : Nat, s ≤ 5 → (p (nI s) ↔ q s)) : (b_isFirst (σ 0 39) x && decide (0 ≤ f ∧ f < x ∧ p (σ 24 (nt f)))) = true ↔ (gFact N f x = true ∧ q (F 0 (nt f))) := by
  rw [h.2.2.1]
  constructor
  · intro w
    rw [Bool.and_eq_true] at w
    obtain ⟨w1, w2⟩ := w
    obtain ⟨a1, a2, a3⟩ := of_decide_eq_true w2
    have hg : gFact N f x = true := by
      unfold gFact
      rw [w1, decide_eq_true ⟨a1, a2⟩]
      rfl
    have hk := m_kind h hg
    rw [hk.1] at a3
    exact ⟨hg, (hpq _ hk.2).mp a3⟩
  · rintro ⟨hg, w⟩
    have hk := m_kind h hg
    unfold gFact at hg
    rw [Bool.and_eq_true] at hg
    obtain ⟨a1, a2⟩ := of_decide_eq_true hg.2
    have a3 : p (σ 24 (nt f)) := by rw [hk.1]; exact (hpq _ hk.2).mpr w
    rw [hg.1, decide_eq_true ⟨a1, a2, a3⟩]
    rfl
theorem q_paper_iff {F : FF} {lv : Nat → Int32} {A : List YL} {P N b : Nat} {σ : RS} (h : mBase F lv A P N b σ) (f x : Int32) : q_paper σ f x = true ↔ (gFact N f x = true ∧ F 0 (nt f) ≤ 2) := m_fact_iff h f x (p := fun s => s ≤ 2) (q := fun s => s ≤ 2) (fun s hs => nI_leI (a := s) (b := 2) (by omega) (by omega))
theorem q_said_iff {F : FF} {lv : Nat → Int32} {A : List YL} {P N b : Nat} {σ : RS} (h : mBase F lv A P N b σ) (f x : Int32) : q_said σ f x = true ↔ (gFact N f x = true ∧ F 0 (nt f) = 5) := m_fact_iff h f x (p := fun s => s = 5) (q := fun s => s = 5) (fun s hs => nI_eq (a := s) (b := 5) (by omega) (by omega))
theorem q_loan_iff {F : FF} {lv : Nat → Int32} {A : List YL} {P N b : Nat} {σ : RS} (h : mBase F lv A P N b σ) (f x : Int32) : q_loan σ f x = true ↔ (gFact N f x = true ∧ F 0 (nt f) = 0) := by
  unfold q_loan
  rw [Bool.and_eq_true, q_paper_iff h]
  constructor
  · rintro ⟨⟨w1, w2⟩, w3⟩
    have hk := m_kind h w1
    have w3 := of_decide_eq_true w3
    rw [hk.1] at w3
    exact ⟨w1, (nI_eq (a := F 0 (nt f)) (b := 0) (by omega) (by omega)).mp w3⟩
  · rintro ⟨w1, w2⟩
    have hk := m_kind h w1
    exact ⟨⟨w1, by omega⟩, decide_eq_true (by rw [hk.1, w2]; rfl)⟩
theorem m_holder' {d : Nat} {F : FF} {lv : Nat → Int32} {A : List YL} {P N b : Nat} {σ : RS} (τ : TS) (h : mBase F lv A P N b σ) (hc : mCache F lv A N σ) (p y x : Int32) : Ok (d + 6) M7_holder [.ref 0, .int p, .int y, .int x] (WM σ τ) (qm F lv A P N b σ τ (S_holder F lv A P N p y x)) := by
  have hP := h.1.1
  have hN := h.1.2.1
  by_cases hg : gLeaf P N p y x = true
  · obtain ⟨a, c, n, a1, c1, n1, rfl, rfl, rfl⟩ := gLeaf_of hP hN hg
    have e : S_holder F lv A P N (nI a) (nI c) (nI n) = (dS F lv A n).1 (400 * a + c) := by
      unfold S_holder
      rw [if_pos hg]
      simp only [nt_nI (show a < 2 ^ 31 by omega), nt_nI (show c < 2 ^ 31 by omega), nt_nI (show n < 2 ^ 31 by omega)]
    have hv := ((MB.of (y := 399) h hc n1 (by omega)).hold (show 400 * a + c < 3200 by omega)).symm
    exact qm_gn (m_holder σ τ P N b A.length a c n h.mS a1 c1 n1) h hc n1 (by omega) (e.trans hv)
  · exact qm_no (m_holder_no σ τ p y x (by rw [q_leaf_eq h]; exact hg)) h hc (if_neg hg)
theorem m_awake' {d : Nat} {F : FF} {lv : Nat → Int32} {A : List YL} {P N b : Nat} {σ : RS} (τ : TS) (h : mBase F lv A P N b σ) (hc : mCache F lv A N σ) (p y x : Int32) : Ok (d + 6) M7_awake [.ref 0, .int p, .int y, .int x] (WM σ τ) (qm F lv A P N b σ τ (S_awake F lv A P N p y x)) := by
  have hP := h.1.1
  have hN := h.1.2.1
  by_cases hg : gLeaf P N p y x = true
  · obtain ⟨a, c, n, a1, c1, n1, rfl, rfl, rfl⟩ := gLeaf_of hP hN hg
    have e : S_awake F lv A P N (nI a) (nI c) (nI n) = nI (caw (dS F lv A n).1 (nI a) c 8) := by
      unfold S_awake
      rw [if_pos hg]
      simp only [nt_nI (show a < 2 ^ 31 by omega), nt_nI (show c < 2 ^ 31 by omega), nt_nI (show n < 2 ^ 31 by omega)]
    have hv := ((MB.of (y := 399) h hc n1 (by omega)).awake a1 c1).symm
    exact qm_gn (m_awake σ τ P N b A.length a c n h.mS a1 c1 n1) h hc n1 (by omega) (e.trans hv)
  · exact qm_no (m_awake_no σ τ p y x (by rw [q_leaf_eq h]; exact hg)) h hc (if_neg hg)
theorem m_age' {d : Nat} {F : FF} {lv : Nat → Int32} {A : List YL} {P N b : Nat} {σ : RS} (τ : TS) (h : mBase F lv A P N b σ) (hc : mCache F lv A N σ) (p y x : Int32) : Ok (d + 6) M7_age [.ref 0, .int p, .int y, .int x] (WM σ τ) (qm F lv A P N b σ τ (S_age F lv A P N p y x)) := by
  have hP := h.1.1
  have hN := h.1.2.1
  by_cases hg : gLeaf P N p y x = true
  · obtain ⟨a, c, n, a1, c1, n1, rfl, rfl, rfl⟩ := gLeaf_of hP hN hg
    have e : S_age F lv A P N (nI a) (nI c) (nI n) = lv a + nI (cout (dS F lv A n).1 (nI a) c 8) := by
      unfold S_age
      rw [if_pos hg]
      simp only [nt_nI (show a < 2 ^ 31 by omega), nt_nI (show c < 2 ^ 31 by omega), nt_nI (show n < 2 ^ 31 by omega)]
    have hv := ((MB.of (y := 399) h hc n1 (by omega)).age a1 c1).symm
    exact qm_gn (m_age σ τ P N b A.length a c n h.mS a1 c1 n1) h hc n1 (by omega) (e.trans hv)
  · exact qm_no (m_age_no σ τ p y x (by rw [q_leaf_eq h]; exact hg)) h hc (if_neg hg)
theorem m_net' {d : Nat} {F : FF} {lv : Nat → Int32} {A : List YL} {P N b : Nat} {σ : RS} (τ : TS) (h : mBase F lv A P N b σ) (hc : mCache F lv A N σ) (p y x : Int32) : Ok (d + 6) M7_net [.ref 0, .int p, .int y, .int x] (WM σ τ) (qm F lv A P N b σ τ (S_net F lv A P N p y x)) := by
  have hP := h.1.1
  have hN := h.1.2.1
  by_cases hg : gLeaf P N p y x = true
  · obtain ⟨a, c, n, a1, c1, n1, rfl, rfl, rfl⟩ := gLeaf_of hP hN hg
    have e : S_net F lv A P N (nI a) (nI c) (nI n) = sp_net (dU F lv A n c).2.2.1 a := by
      unfold S_net
      rw [if_pos hg]
      simp only [nt_nI (show a < 2 ^ 31 by omega), nt_nI (show c < 2 ^ 31 by omega), nt_nI (show n < 2 ^ 31 by omega)]
    have hv := ((MB.of (y := c) h hc n1 c1).net (show a < 8 by omega)).symm
    exact qm_gn (m_net σ τ P N b A.length a c n h.mS a1 c1 n1) h hc n1 (by omega) (e.trans hv)
  · exact qm_no (m_net_no σ τ p y x (by rw [q_leaf_eq h]; exact hg)) h hc (if_neg hg)
theorem m_owes' {d : Nat} {F : FF} {lv : Nat → Int32} {A : List YL} {P N b : Nat} {σ : RS} (τ : TS) (h : mBase F lv A P N b σ) (hc : mCache F lv A N σ) (p o y x : Int32) : Ok (d + 6) M7_owes [.ref 0, .int p, .int o, .int y, .int x] (WM σ τ) (qm F lv A P N b σ τ (S_owes F lv A P N p o y x)) := by
  have hP := h.1.1
  have hN := h.1.2.1
  by_cases hg : gLeaf P N p y x = true ∧ b_isPerson (nI P) o = true
  · obtain ⟨a, c, n, a1, c1, n1, rfl, rfl, rfl⟩ := gLeaf_of hP hN hg.1
    obtain ⟨o', o1, rfl⟩ := isP_of hP hg.2
    have e : S_owes F lv A P N (nI a) (nI o') (nI c) (nI n) = (dU F lv A n c).2.2.1 (8 * a + o') := by
      unfold S_owes
      rw [if_pos hg]
      simp only [nt_nI (show a < 2 ^ 31 by omega), nt_nI (show o' < 2 ^ 31 by omega), nt_nI (show c < 2 ^ 31 by omega), nt_nI (show n < 2 ^ 31 by omega)]
    have hv := ((MB.of (y := c) h hc n1 c1).owes (8 * a + o') (by omega)).symm
    exact qm_gn (m_owes σ τ P N b A.length a o' c n h.mS a1 o1 c1 n1) h hc n1 (by omega) (e.trans hv)
  · refine qm_no (m_owes_no σ τ p o y x (fun z => hg ?_)) h hc (if_neg hg)
    unfold q_owes at z
    rw [h.2.1, h.2.2.1] at z
    simp only [Bool.and_eq_true] at z
    exact ⟨by unfold gLeaf; rw [z.1.1.1, z.1.2, z.2]; rfl, z.1.1.2⟩
theorem m_chain' {d : Nat} {F : FF} {lv : Nat → Int32} {A : List YL} {P N b : Nat} {σ : RS} (τ : TS) (h : mBase F lv A P N b σ) (hc : mCache F lv A N σ) (p y i x : Int32) : Ok (d + 6) M7_chain [.ref 0, .int p, .int y, .int i, .int x] (WM σ τ) (qm F lv A P N b σ τ (S_chain F lv A P N p y i x)) := by
  have hP := h.1.1
  have hN := h.1.2.1
  by_cases hg : gLeaf P N p y x = true ∧ 0 ≤ i
  · obtain ⟨a, c, n, a1, c1, n1, rfl, rfl, rfl⟩ := gLeaf_of hP hN hg.1
    have e : S_chain F lv A P N (nI a) (nI c) i (nI n) = (if i = 0 then nI a else chn F (dS F lv A n).2.2.2.1 a c (mlist F n 399) (nt i)) := by
      unfold S_chain
      rw [if_pos hg]
      simp only [nt_nI (show a < 2 ^ 31 by omega), nt_nI (show c < 2 ^ 31 by omega), nt_nI (show n < 2 ^ 31 by omega)]
    have hv := ((MB.of (y := 399) h hc n1 (by omega)).chain (show a < 8 by omega) c1 hg.2).symm
    exact qm_gn (m_chain σ τ P N b A.length a c n i h.mS a1 c1 n1 hg.2) h hc n1 (by omega) (e.trans hv)
  · exact qm_no (m_chain_no σ τ p y i x (by rw [q_leaf_eq h]; exact hg)) h hc (if_neg hg)
theorem find_keep {F : FF} {lv : Nat → Int32} {A : List YL} {P N b : Nat} {σ : RS} (h : mBase F lv A P N b σ) (hc : mCache F lv A N σ) : mBase F lv A P N b (f_find P σ) ∧ mCache F lv A N (f_find P σ) ∧ mK σ (f_find P σ) := by
  have g := (f_kp_find P σ).kc.gk
  exact ⟨h.gk g, mCache_ag (Nat.le_refl N) (fun _ _ _ => rfl) (fun _ _ _ => rfl) hc ⟨(f_kp_find P σ).2.1 47 (by decide) (by decide) (by decide), (f_kp_find P σ).2.1 48 (by decide) (by decide) (by decide)⟩ (fun c c1 c2 => (f_kp_find P σ).1 c (by omega) (by omega) (by omega) (by omega)), g.mK⟩
theorem mK.trans {a b c : RS} (h : mK a b) (g : mK b c) : mK a c := ⟨g.1.trans h.1, g.2.1.trans h.2.1, g.2.2.trans h.2.2⟩
theorem m_ring' {d : Nat} {F : FF} {lv : Nat → Int32} {A : List YL} {P N b : Nat} {σ : RS} (τ : TS) (h : mBase F lv A P N b σ) (hc : mCache F lv A N σ) (y x i : Int32) : Ok (d + 6) M7_ring [.ref 0, .int y, .int x, .int i] (WM σ τ) (qm F lv A P N b σ τ (S_ring F lv A N y x i)) := by
  have hP := h.1.1
  have hN := h.1.2.1
  by_cases hg : gDay N y x = true
  · obtain ⟨c, n, c1, n1, rfl, rfl⟩ := gDay_of hN hg
    have e : S_ring F lv A N (nI c) (nI n) i = sp_ring (dU F lv A n c).2.2.1 i := by
      unfold S_ring
      rw [if_pos hg]
      simp only [nt_nI (show c < 2 ^ 31 by omega), nt_nI (show n < 2 ^ 31 by omega)]
    by_cases hi : 0 ≤ i
    · have hv := ((MB.of (y := c) h hc n1 c1).ring hi).symm
      obtain ⟨g1, g2, g3⟩ := gone_keep h hc n1 c1
      obtain ⟨k1, k2, k3⟩ := find_keep g1 g2
      exact qm_st (m_ring σ τ P N b A.length c n i h.mS c1 n1 hi) k1 k2 (g3.trans k3) (e.trans hv)
    · exact qm_no (m_ring_no σ τ _ _ i (fun z => hi z.2)) h hc (e.trans (if_neg (fun z => hi z.1)))
  · exact qm_no (m_ring_no σ τ y x i (fun z => hg (by rw [← q_ring_eq h]; exact z.1))) h hc (if_neg hg)
theorem m_leaves' {d : Nat} {F : FF} {lv : Nat → Int32} {A : List YL} {P N b : Nat} {σ : RS} (τ : TS) (h : mBase F lv A P N b σ) (hc : mCache F lv A N σ) (y x : Int32) : Ok (d + 6) M7_leaves [.ref 0, .int y, .int x] (WM σ τ) (qm F lv A P N b σ τ (S_leaves F lv A N y x)) := by
  have hP := h.1.1
  have hN := h.1.2.1
  by_cases hg : gDay N y x = true
  · obtain ⟨c, n, c1, n1, rfl, rfl⟩ := gDay_of hN hg
    have e : S_leaves F lv A N (nI c) (nI n) = sumTo (mtS 64 (dU F lv A n c).2.2.1) 64 := by
      unfold S_leaves
      rw [if_pos hg]
      simp only [nt_nI (show c < 2 ^ 31 by omega), nt_nI (show n < 2 ^ 31 by omega)]
    have hB := MB.of (y := c) h hc n1 c1
    obtain ⟨g1, g2, g3⟩ := gone_keep h hc n1 c1
    have hM := m_leaves (d := d) σ τ P N b A.length c n h.mS c1 n1 hB.obs
    have hv := hB.left.symm
    generalize g_gone P b A.length n c σ = G at *
    have k1 : gk G (g_meets P 64 (f_find P G)) := ((f_kp_find P G).kc.trans (g_meets_kc P 64 _)).gk
    have k2 : gk G (s2 (g_meets P 64 (f_find P G)) 0 47 (-1)) := ⟨fun k h1 h2 => (s1_ne _ _ (show k ≠ 0 by omega)).trans (k1.1 k h1 h2), fun j h1 h2 h3 => (upd_ne _ _ h2).trans (k1.2 j h1 h2 h3)⟩
    exact qm_st hM (g1.gk k2) (Or.inl rfl) (g3.trans k2.mK) (e.trans hv)
  · exact qm_no (m_leaves_no σ τ y x (by rw [q_ring_eq h]; exact hg)) h hc (if_neg hg)
theorem m_isVoid' {d : Nat} {F : FF} {lv : Nat → Int32} {A : List YL} {P N b : Nat} {σ : RS} (τ : TS) (h : mBase F lv A P N b σ) (hc : mCache F lv A N σ) (f x : Int32) : Ok (d + 6) M7_isVoid [.ref 0, .int f, .int x] (WM σ τ) (qm F lv A P N b σ τ (S_isVoid F lv A N f x)) := by
  have hN := h.1.2.1
  by_cases hg : gFact N f x = true ∧ F 0 (nt f) ≤ 2
  · obtain ⟨k, n, k1, n1, rfl, rfl⟩ := gFact_of hN hg.1
    have hs := hg.2
    rw [nt_nI (show k < 2 ^ 31 by omega)] at hs
    have e : S_isVoid F lv A N (nI k) (nI n) = (dS F lv A n).2.2.2.1 k := by
      unfold S_isVoid
      rw [if_pos hg]
      simp only [nt_nI (show k < 2 ^ 31 by omega), nt_nI (show n < 2 ^ 31 by omega)]
    have e24 := (h.2.2.2.1 k (by omega)).1
    have hM := MB.of (y := 399) h hc n1 (by omega)
    exact qm_gn (m_isVoid σ τ P N b A.length k n h.mS k1 n1 (by rw [e24]; exact nI_le (b := 2) hs (by omega))) h hc n1 (by omega) (e.trans (hM.why k1 hs).1.symm)
  · exact qm_no (m_isVoid_no σ τ P N b A.length h.mS f x (fun z => hg ((q_paper_iff h f x).mp z))) h hc (if_neg hg)
theorem m_grows' {d : Nat} {F : FF} {lv : Nat → Int32} {A : List YL} {P N b : Nat} {σ : RS} (τ : TS) (h : mBase F lv A P N b σ) (hc : mCache F lv A N σ) (f x : Int32) : Ok (d + 6) M7_grows [.ref 0, .int f, .int x] (WM σ τ) (qm F lv A P N b σ τ (S_grows F lv A N f x)) := by
  have hN := h.1.2.1
  by_cases hg : gFact N f x = true ∧ F 0 (nt f) = 0
  · obtain ⟨k, n, k1, n1, rfl, rfl⟩ := gFact_of hN hg.1
    have hs := hg.2
    rw [nt_nI (show k < 2 ^ 31 by omega)] at hs
    have e : S_grows F lv A N (nI k) (nI n) = sp_grows (dS F lv A n) k := by
      unfold S_grows
      rw [if_pos hg]
      simp only [nt_nI (show k < 2 ^ 31 by omega), nt_nI (show n < 2 ^ 31 by omega)]
    have e24 := (h.2.2.2.1 k (by omega)).1
    have hM := MB.of (y := 399) h hc n1 (by omega)
    exact qm_gn (m_grows σ τ P N b A.length k n h.mS k1 n1 (by rw [e24, hs]; rfl)) h hc n1 (by omega) (e.trans (hM.grows k1 hs).symm)
  · exact qm_no (m_grows_no σ τ P N b A.length h.mS f x (fun z => hg ((q_loan_iff h f x).mp z))) h hc (if_neg hg)
theorem m_ban' {d : Nat} {F : FF} {lv : Nat → Int32} {A : List YL} {P N b : Nat} {σ : RS} (τ : TS) (h : mBase F lv A P N b σ) (hc : mCache F lv A N σ) (f x : Int32) : Ok (d + 6) M7_ban [.ref 0, .int f, .int x] (WM σ τ) (qm F lv A P N b σ τ (S_ban F lv A N f x)) := by
  have hN := h.1.2.1
  by_cases hg : gFact N f x = true ∧ F 0 (nt f) = 0
  · obtain ⟨k, n, k1, n1, rfl, rfl⟩ := gFact_of hN hg.1
    have hs := hg.2
    rw [nt_nI (show k < 2 ^ 31 by omega)] at hs
    have e : S_ban F lv A N (nI k) (nI n) = sp_ban (dS F lv A n) k := by
      unfold S_ban
      rw [if_pos hg]
      simp only [nt_nI (show k < 2 ^ 31 by omega), nt_nI (show n < 2 ^ 31 by omega)]
    have e24 := (h.2.2.2.1 k (by omega)).1
    have hM := MB.of (y := 399) h hc n1 (by omega)
    exact qm_gn (m_ban σ τ P N b A.length k n h.mS k1 n1 (by rw [e24, hs]; rfl)) h hc n1 (by omega) (e.trans (hM.ban k1 hs).symm)
  · exact qm_no (m_ban_no σ τ P N b A.length h.mS f x (fun z => hg ((q_loan_iff h f x).mp z))) h hc (if_neg hg)
theorem m_counts' {d : Nat} {F : FF} {lv : Nat → Int32} {A : List YL} {P N b : Nat} {σ : RS} (τ : TS) (h : mBase F lv A P N b σ) (hc : mCache F lv A N σ) (f x : Int32) : Ok (d + 6) M7_counts [.ref 0, .int f, .int x] (WM σ τ) (qm F lv A P N b σ τ (S_counts F lv A N f x)) := by
  have hN := h.1.2.1
  by_cases hg : gFact N f x = true ∧ F 0 (nt f) = 5
  · obtain ⟨k, n, k1, n1, rfl, rfl⟩ := gFact_of hN hg.1
    have hs := hg.2
    rw [nt_nI (show k < 2 ^ 31 by omega)] at hs
    have e : S_counts F lv A N (nI k) (nI n) = bI (sp_cnt F (dS F lv A n).1 k) := by
      unfold S_counts
      rw [if_pos hg]
      simp only [nt_nI (show k < 2 ^ 31 by omega), nt_nI (show n < 2 ^ 31 by omega)]
    have e24 := (h.2.2.2.1 k (by omega)).1
    have hM := MB.of (y := 399) h hc n1 (by omega)
    exact qm_gn (m_counts σ τ P N b A.length k n h.mS k1 n1 (by rw [e24, hs]; rfl)) h hc n1 (by omega) (e.trans (congrArg bI (hM.cnt (show k < N by omega) hs)).symm)
  · exact qm_no (m_counts_no σ τ P N b A.length h.mS f x (fun z => hg ((q_said_iff h f x).mp z))) h hc (if_neg hg)
theorem m_doer' {d : Nat} {F : FF} {lv : Nat → Int32} {A : List YL} {P N b : Nat} {σ : RS} (τ : TS) (h : mBase F lv A P N b σ) (hc : mCache F lv A N σ) (k y x : Int32) : Ok (d + 6) M7_doer [.ref 0, .int k, .int y, .int x] (WM σ τ) (qm F lv A P N b σ τ (S_doer F lv A N k y x)) := by
  have hP := h.1.1
  have hN := h.1.2.1
  by_cases hg : (0 ≤ k ∧ k ≤ 9) ∧ gDay N y x = true
  · obtain ⟨c, n, c1, n1, rfl, rfl⟩ := gDay_of hN hg.2
    obtain ⟨δ, δ1, rfl⟩ := nI_of (Int32.not_lt.mpr hg.1.1)
    have hδ : δ < 10 := by have := (nI_leI (b := 9) δ1 (by omega)).mp hg.1.2; omega
    have e : S_doer F lv A N (nI δ) (nI c) (nI n) = sp_doer F (dS F lv A n).1 δ c n := by
      unfold S_doer
      rw [if_pos hg]
      simp only [nt_nI (show δ < 2 ^ 31 by omega), nt_nI (show c < 2 ^ 31 by omega), nt_nI (show n < 2 ^ 31 by omega)]
    have hB := MB.of (y := 399) h hc n1 (by omega)
    obtain ⟨g1, g2, g3⟩ := gone_keep (y := 399) h hc n1 (by omega)
    have hM := m_doer (d := d) σ τ P N b A.length c n (nI δ) h.mS hg.1 c1 n1
    have hv := (hB.doer hδ c1).symm
    generalize g_gone P b A.length n 399 σ = G at *
    have k2 := n_votes_gk P n (nI δ) c G
    have eN : n_votes P n (nI δ) c G = s1 G 44 (sp_votes F (dS F lv A n).1 δ c n P 0 (cpyTo (fun _ => 0) (G 44) 8)) := by
      unfold n_votes
      exact hB.votes hδ c1 P 0 _ (by omega)
    refine qm_st hM (g1.gk k2) ?_ (g3.trans k2.mK) (e.trans hv)
    rw [eN]
    exact mCache_ag (Nat.le_refl N) (fun _ _ _ => rfl) (fun _ _ _ => rfl) g2 ⟨rfl, rfl⟩ (fun c c1 c2 => s1_ne _ _ (by omega))
  · refine qm_no (m_doer_no σ τ k y x (fun z => hg ?_)) h hc (if_neg hg)
    unfold q_doer at z
    rw [h.2.2.1] at z
    simp only [Bool.and_eq_true] at z
    exact ⟨of_decide_eq_true z.1.1, by unfold gDay; rw [z.1.2, z.2]; rfl⟩
theorem m_turned' {d : Nat} {F : FF} {lv : Nat → Int32} {A : List YL} {P N b : Nat} {σ : RS} (τ : TS) (h : mBase F lv A P N b σ) (hc : mCache F lv A N σ) (x z : Int32) : Ok (d + 6) M7_turned [.ref 0, .int x, .int z] (WM σ τ) (qm F lv A P N b σ τ (S_turned F lv A N x z)) := by
  have hN := h.1.2.1
  by_cases hg : b_isFirst (nI N) x = true ∧ b_isFirst (nI N) z = true
  · obtain ⟨n, n1, rfl⟩ := isN_of hN hg.1
    obtain ⟨q, q1, rfl⟩ := isN_of hN hg.2
    have e : S_turned F lv A N (nI n) (nI q) = sp_turn F (dS F lv A n).2.2.2.1 (dS F lv A q).2.2.2.1 (min n q) 0 := by
      unfold S_turned
      rw [if_pos hg]
      simp only [nt_nI (show n < 2 ^ 31 by omega), nt_nI (show q < 2 ^ 31 by omega)]
    obtain ⟨t1, t2, t3, t4⟩ := m_turn h hc n1 q1
    have hK : mK σ (g_gone P b A.length q 399 (t_one P b A.length n σ (min n q))) := ((g_gone_gk P b A.length n 399 σ).trans ((gk_45 _ _).trans (g_gone_gk P b A.length q 399 _))).mK
    exact qm_st (m_turned σ τ P N b A.length n q h.mS n1 q1) t2.1 (Or.inr ⟨q, 399, q1, by omega, t3, t4, t2.2.2.2⟩) hK (e.trans t1.symm)
  · refine qm_no (m_turned_no σ τ x z (fun w => hg ?_)) h hc (if_neg hg)
    unfold q_turned at w
    rw [h.2.2.1, Bool.and_eq_true] at w
    exact w
theorem q_papers_eq {F : FF} {P N : Nat} {σ : RS} (hok : ∀ k, k < N → okF P F k) (hF : mF N F σ) : ∀ k, k ≤ N → q_papers σ k = sp_papers F k := by
  intro k
  induction k with
  | zero => intro _; rfl
  | succ k ih =>
    intro hk
    have b0 := (hok k (by omega)).1.1
    rw [q_papers, sp_papers, ih (by omega), (hF k (by omega)).1]
    have e2 : nI (F 0 k) ≤ 2 ↔ F 0 k ≤ 2 := nI_leI (a := F 0 k) (b := 2) (by omega) (by omega)
    by_cases z : F 0 k ≤ 2
    · rw [if_pos z, if_pos (e2.mpr z)]
    · rw [if_neg z, if_neg (fun y => z (e2.mp y))]
theorem m_count' {d : Nat} {F : FF} {lv : Nat → Int32} {A : List YL} {P N b : Nat} {σ : RS} (τ : TS) (h : mBase F lv A P N b σ) (hc : mCache F lv A N σ) (x : Int32) : Ok (d + 6) M7_count [.ref 0, .int x] (WM σ τ) (qm F lv A P N b σ τ (S_count F A P N (σ 0 2) x)) := by
  have e : S_count F A P N (σ 0 2) x = q_count σ N b x := by
    unfold S_count q_count
    rw [h.2.1, h.2.2.1, q_papers_eq h.1.2.2 h.2.2.2.1 N (Nat.le_refl N), h.2.2.2.2.1.2.2.1]
  exact qm_no (m_count σ τ P N b A.length h.mS x) h hc e
