/-! The class answers (class 6): of facts, of deeds, of two n; how many. -/
theorem cI.kind {F : FF} {lv : Nat → Int32} {A : List YL} {P N r la : Nat} {σ : RS} (h : cI F lv A P N r la σ) {k : Nat} (hk : k < N) : b_kind (bd σ) (nI k) = nI (F 0 k) := by
  have := c_kind h.2.2.2.2.1 (show (dk 30 10 σ) 10 8 = nI N from h.2.2.2.1) h.2.1.2.1 hk
  exact this
theorem gFact_of {N : Nat} {f x : Int32} (hN : N ≤ 120) (h : gFact N f x = true) : ∃ k n, k < n ∧ n ≤ N ∧ f = nI k ∧ x = nI n := by
  unfold gFact at h
  rw [Bool.and_eq_true] at h
  obtain ⟨n, n1, rfl⟩ := isN_of hN h.1
  obtain ⟨f1, f2⟩ := of_decide_eq_true h.2
  obtain ⟨k, k1, rfl⟩ := nI_of (Int32.not_lt.mpr f1)
  exact ⟨k, n, (nI_ltI k1 (by omega)).mp f2, n1, rfl, rfl⟩
theorem kind_iff {F : FF} {lv : Nat → Int32} {A : List YL} {P N r la : Nat} {σ : RS} (h : cI F lv A P N r la σ) (s : Nat) (hs : s ≤ 5) (f x : Int32) : (b_isFirst (σ 2 8) x = true ∧ f < x ∧ b_kind (bd σ) f = nI s) ↔ (gFact N f x = true ∧ F 0 (nt f) = s) := by
  have hN := h.2.1.2.1
  have h8 : σ 2 8 = nI N := h.2.2.2.1
  rw [h8]
  constructor
  · rintro ⟨h1, h2, h3⟩
    have h0 : 0 ≤ f := by
      by_cases z : 0 ≤ f
      · exact z
      · exfalso
        unfold b_kind at h3
        rw [if_neg (fun q => z q.1)] at h3
        exact absurd (nI_pos (n := s) (by omega)) (by rw [← h3]; decide)
    have hg : gFact N f x = true := by unfold gFact; rw [h1, decide_eq_true ⟨h0, h2⟩]; rfl
    obtain ⟨k, n, k1, n1, rfl, rfl⟩ := gFact_of hN hg
    have hk := h.kind (show k < N by omega)
    have b0 := (h.2.1.2.2 k (by omega)).1.1
    rw [hk] at h3
    refine ⟨hg, ?_⟩
    rw [nt_nI (by omega)]
    exact (nI_eq (by omega) (by omega)).mp h3
  · rintro ⟨hg, h3⟩
    have hg' := hg
    obtain ⟨k, n, k1, n1, rfl, rfl⟩ := gFact_of hN hg
    have hk := h.kind (show k < N by omega)
    rw [nt_nI (by omega)] at h3
    unfold gFact at hg'
    rw [Bool.and_eq_true] at hg'
    exact ⟨hg'.1, nI_lt k1 (by omega), by rw [hk, h3]⟩
theorem paper_iff {F : FF} {lv : Nat → Int32} {A : List YL} {P N r la : Nat} {σ : RS} (h : cI F lv A P N r la σ) (f x : Int32) : (b_isFirst (σ 2 8) x = true ∧ f < x ∧ b_isPaper (bd σ) f = true) ↔ (gFact N f x = true ∧ F 0 (nt f) ≤ 2) := by
  have hN := h.2.1.2.1
  constructor
  · rintro ⟨h1, h2, h3⟩
    obtain ⟨p1, p2⟩ := of_decide_eq_true h3
    obtain ⟨s, s1, s2⟩ := nI_of (Int32.not_lt.mpr p1)
    have s3 : s ≤ 2 := by
      rw [s2] at p2
      exact (nI_leI (b := 2) s1 (by omega)).mp p2
    obtain ⟨g1, g2⟩ := (kind_iff h s (by omega) f x).mp ⟨h1, h2, s2⟩
    exact ⟨g1, by omega⟩
  · rintro ⟨g1, g2⟩
    obtain ⟨h1, h2, h3⟩ := (kind_iff h _ (show F 0 (nt f) ≤ 5 by omega) f x).mpr ⟨g1, rfl⟩
    refine ⟨h1, h2, decide_eq_true ?_⟩
    rw [h3]
    exact ⟨nI_pos' (by omega), nI_le (b := 2) g2 (by omega)⟩
theorem d_isVoid {d : Nat} {F : FF} {lv : Nat → Int32} {A : List YL} {P N r la : Nat} {σ : RS} (sp rl tx : Nat) (h : cI F lv A P N r la σ) (f x : Int32) : Ok (d + 21) M6_isVoid [.ref 0, .int f, .int x] (WD σ la sp rl tx) (qd F lv A P N r la σ sp rl tx (S_isVoid F lv A N f x)) := by
  have hP := h.2.1.1
  have hN := h.2.1.2.1
  have h7 : σ 2 7 = nI P := h.2.2.1
  have h8 : σ 2 8 = nI N := h.2.2.2.1
  have hgi : (b_isFirst (σ 2 8) x = true ∧ f < x ∧ b_isPaper (bd σ) f = true) ↔ (gFact N f x = true ∧ F 0 (nt f) ≤ 2) := paper_iff h f x
  by_cases hg : gFact N f x = true ∧ F 0 (nt f) ≤ 2
  · have hgc := hgi.mpr hg
    have hgd : decide (b_isFirst (σ 2 8) x = true ∧ f < x ∧ b_isPaper (bd σ) f = true) = true := decide_eq_true hgc
    obtain ⟨hg1, hg2⟩ := hg
    obtain ⟨a, c, a1, c1, rfl, rfl⟩ := gFact_of hN hg1
    have e : S_isVoid F lv A N (nI a) (nI c) = (dS F lv A c).2.2.2.1 a := by
      unfold S_isVoid
      rw [if_pos ⟨hg1, hg2⟩]
      simp only [nt_nI (show a < 2 ^ 31 by omega), nt_nI (show c < 2 ^ 31 by omega)]
    rw [e]
    rw [nt_nI (by omega)] at hg2
    have kk : ∀ kb σ', kb_ok kb → cI F lv A P N r la σ' → dK la σ σ' → kGood F lv A c (dk kb 10 σ') → Ev (d + 21) M6_isVoid (qd F lv A P N r la σ sp rl tx ((dS F lv A c).2.2.2.1 a)) 14 [some (.ref 0), some (.int (nI a)), some (.int (nI c))] [.ref kb] (WD σ' la sp rl tx) := by
      intro kb σ' hk hI hK hG
      have hB := hI.KB c1 hG
      obtain ⟨z1, z2, z3, z4⟩ := hB.len
      have hz : ml F c ≤ 120 := by omega
      have hv := (atF_nI ((dk kb 10 σ') 1) (show a < 120 by omega) (by omega)).trans (a_why hB a1 hg2).1
      rcases hk with rfl | rfl
      · skip
        refine ev_iload_n (pc' := 15) dX6_isVoid_14 rfl rfl ?_
        refine ev_cVi1 (pc' := 18) cl_6_112 (kD_reasonOf _ _ _ _ _ 30 (Or.inl rfl) _) dX6_isVoid_15 rfl rfl rfl rfl ?_
        refine ev_goto (tgt := 22) dX6_isVoid_18 (by decide) ?_
        refine ev_ireturn rfl dX6_isVoid_22 ?_
        exact ⟨congrArg (fun t => some (Value.int t)) hv, σ', rfl, hI, hK⟩
      · skip
        refine ev_iload_n (pc' := 15) dX6_isVoid_14 rfl rfl ?_
        refine ev_cVi1 (pc' := 18) cl_6_112 (kD_reasonOf _ _ _ _ _ 40 (Or.inr rfl) _) dX6_isVoid_15 rfl rfl rfl rfl ?_
        refine ev_goto (tgt := 22) dX6_isVoid_18 (by decide) ?_
        refine ev_ireturn rfl dX6_isVoid_22 ?_
        exact ⟨congrArg (fun t => some (Value.int t)) hv, σ', rfl, hI, hK⟩
    refine Ok.of (ls := [some _, some _, some _]) (by decide +kernel) (Nat.le_of_ble_eq_true rfl) rfl ?_
    refine ev_aload_n (pc' := 1) dX6_isVoid_0 rfl rfl ?_
    refine ev_iload_n (pc' := 2) dX6_isVoid_1 rfl rfl ?_
    refine ev_iload_n (pc' := 3) dX6_isVoid_2 rfl rfl ?_
    refine ev_cVi2 (pc' := 6) cl_6_104 (kD_isKnownPaper _ _ _ _ _ _ _) dX6_isVoid_3 rfl rfl rfl rfl ?_
    refine ev_if_eq (tgt := 21) (pc' := 9) dX6_isVoid_6 (by decide) rfl (fun h_6 => ?_) (fun h_6 => ?_)
    · exact absurd h_6 (by rw [hgd]; decide) --
    · refine ev_aload_n (pc' := 10) dX6_isVoid_9 rfl rfl ?_
      refine ev_iload_n (pc' := 11) dX6_isVoid_10 rfl rfl ?_
      refine ev_cVr1 (pc' := 14) cl_6_108 (kD_knownBy sp rl tx h c1) dX6_isVoid_11 rfl rfl rfl rfl ?_
      rintro v w1 ⟨kb, σ', hk, rfl, rfl, hI, hK, hG, -⟩ -
      exact kk kb σ' hk hI hK hG
  · have e : S_isVoid F lv A N f x = -1 := if_neg hg
    rw [e]
    have hgc : ¬ (b_isFirst (σ 2 8) x = true ∧ f < x ∧ b_isPaper (bd σ) f = true) := fun z => hg (hgi.mp z)
    have hgd : decide (b_isFirst (σ 2 8) x = true ∧ f < x ∧ b_isPaper (bd σ) f = true) = false := decide_eq_false hgc
    refine Ok.of (ls := [some _, some _, some _]) (by decide +kernel) (Nat.le_of_ble_eq_true rfl) rfl ?_
    refine ev_aload_n (pc' := 1) dX6_isVoid_0 rfl rfl ?_
    refine ev_iload_n (pc' := 2) dX6_isVoid_1 rfl rfl ?_
    refine ev_iload_n (pc' := 3) dX6_isVoid_2 rfl rfl ?_
    refine ev_cVi2 (pc' := 6) cl_6_104 (kD_isKnownPaper _ _ _ _ _ _ _) dX6_isVoid_3 rfl rfl rfl rfl ?_
    refine ev_if_eq (tgt := 21) (pc' := 9) dX6_isVoid_6 (by decide) rfl (fun h_6 => ?_) (fun h_6 => ?_)
    · refine ev_iconst (pc' := 22) (v := -1) dX6_isVoid_21 rfl (by decide) ?_
      refine ev_ireturn rfl dX6_isVoid_22 ?_
      exact ⟨rfl, σ, rfl, h, dK.refl la σ⟩
    · exact absurd h_6 (by rw [hgd]; decide) --
theorem d_grows {d : Nat} {F : FF} {lv : Nat → Int32} {A : List YL} {P N r la : Nat} {σ : RS} (sp rl tx : Nat) (h : cI F lv A P N r la σ) (f x : Int32) : Ok (d + 21) M6_grows [.ref 0, .int f, .int x] (WD σ la sp rl tx) (qd F lv A P N r la σ sp rl tx (S_grows F lv A N f x)) := by
  have hP := h.2.1.1
  have hN := h.2.1.2.1
  have h7 : σ 2 7 = nI P := h.2.2.1
  have h8 : σ 2 8 = nI N := h.2.2.2.1
  have hgi : (b_isFirst (σ 2 8) x = true ∧ f < x ∧ b_kind (bd σ) f = 0) ↔ (gFact N f x = true ∧ F 0 (nt f) = 0) := kind_iff h 0 (by omega) f x
  by_cases hg : gFact N f x = true ∧ F 0 (nt f) = 0
  · have hgc := hgi.mpr hg
    have hgd : decide (b_isFirst (σ 2 8) x = true ∧ f < x ∧ b_kind (bd σ) f = 0) = true := decide_eq_true hgc
    obtain ⟨hg1, hg2⟩ := hg
    obtain ⟨a, c, a1, c1, rfl, rfl⟩ := gFact_of hN hg1
    have e : S_grows F lv A N (nI a) (nI c) = sp_grows (dS F lv A c) a := by
      unfold S_grows
      rw [if_pos ⟨hg1, hg2⟩]
      simp only [nt_nI (show a < 2 ^ 31 by omega), nt_nI (show c < 2 ^ 31 by omega)]
    rw [e]
    rw [nt_nI (by omega)] at hg2
    have kk : ∀ kb σ', kb_ok kb → cI F lv A P N r la σ' → dK la σ σ' → kGood F lv A c (dk kb 10 σ') → Ev (d + 21) M6_grows (qd F lv A P N r la σ sp rl tx (sp_grows (dS F lv A c) a)) 15 [some (.ref 0), some (.int (nI a)), some (.int (nI c))] [.ref kb] (WD σ' la sp rl tx) := by
      intro kb σ' hk hI hK hG
      have hB := hI.KB c1 hG
      obtain ⟨z1, z2, z3, z4⟩ := hB.len
      have hz : ml F c ≤ 120 := by omega
      have hv := a_grows hB a1 hg2
      rcases hk with rfl | rfl
      · skip
        refine ev_iload_n (pc' := 16) dX6_grows_15 rfl rfl ?_
        refine ev_cVi1 (pc' := 19) cl_6_161 (kD_growsRule _ _ _ _ _ 30 (Or.inl rfl) _) dX6_grows_16 rfl rfl rfl rfl ?_
        refine ev_goto (tgt := 23) dX6_grows_19 (by decide) ?_
        refine ev_ireturn rfl dX6_grows_23 ?_
        exact ⟨congrArg (fun t => some (Value.int t)) hv, σ', rfl, hI, hK⟩
      · skip
        refine ev_iload_n (pc' := 16) dX6_grows_15 rfl rfl ?_
        refine ev_cVi1 (pc' := 19) cl_6_161 (kD_growsRule _ _ _ _ _ 40 (Or.inr rfl) _) dX6_grows_16 rfl rfl rfl rfl ?_
        refine ev_goto (tgt := 23) dX6_grows_19 (by decide) ?_
        refine ev_ireturn rfl dX6_grows_23 ?_
        exact ⟨congrArg (fun t => some (Value.int t)) hv, σ', rfl, hI, hK⟩
    refine Ok.of (ls := [some _, some _, some _]) (by decide +kernel) (Nat.le_of_ble_eq_true rfl) rfl ?_
    refine ev_aload_n (pc' := 1) dX6_grows_0 rfl rfl ?_
    refine ev_iconst (pc' := 2) (v := 0) dX6_grows_1 rfl (by decide) ?_
    refine ev_iload_n (pc' := 3) dX6_grows_2 rfl rfl ?_
    refine ev_iload_n (pc' := 4) dX6_grows_3 rfl rfl ?_
    refine ev_cVi3 (pc' := 7) cl_6_157 (kD_isKnownOf _ _ _ _ _ _ _ _) dX6_grows_4 rfl rfl rfl rfl ?_
    refine ev_if_eq (tgt := 22) (pc' := 10) dX6_grows_7 (by decide) rfl (fun h_7 => ?_) (fun h_7 => ?_)
    · exact absurd h_7 (by rw [hgd]; decide) --
    · refine ev_aload_n (pc' := 11) dX6_grows_10 rfl rfl ?_
      refine ev_iload_n (pc' := 12) dX6_grows_11 rfl rfl ?_
      refine ev_cVr1 (pc' := 15) cl_6_108 (kD_knownBy sp rl tx h c1) dX6_grows_12 rfl rfl rfl rfl ?_
      rintro v w1 ⟨kb, σ', hk, rfl, rfl, hI, hK, hG, -⟩ -
      exact kk kb σ' hk hI hK hG
  · have e : S_grows F lv A N f x = -1 := if_neg hg
    rw [e]
    have hgc : ¬ (b_isFirst (σ 2 8) x = true ∧ f < x ∧ b_kind (bd σ) f = 0) := fun z => hg (hgi.mp z)
    have hgd : decide (b_isFirst (σ 2 8) x = true ∧ f < x ∧ b_kind (bd σ) f = 0) = false := decide_eq_false hgc
    refine Ok.of (ls := [some _, some _, some _]) (by decide +kernel) (Nat.le_of_ble_eq_true rfl) rfl ?_
    refine ev_aload_n (pc' := 1) dX6_grows_0 rfl rfl ?_
    refine ev_iconst (pc' := 2) (v := 0) dX6_grows_1 rfl (by decide) ?_
    refine ev_iload_n (pc' := 3) dX6_grows_2 rfl rfl ?_
    refine ev_iload_n (pc' := 4) dX6_grows_3 rfl rfl ?_
    refine ev_cVi3 (pc' := 7) cl_6_157 (kD_isKnownOf _ _ _ _ _ _ _ _) dX6_grows_4 rfl rfl rfl rfl ?_
    refine ev_if_eq (tgt := 22) (pc' := 10) dX6_grows_7 (by decide) rfl (fun h_7 => ?_) (fun h_7 => ?_)
    · refine ev_iconst (pc' := 23) (v := -1) dX6_grows_22 rfl (by decide) ?_
      refine ev_ireturn rfl dX6_grows_23 ?_
      exact ⟨rfl, σ, rfl, h, dK.refl la σ⟩
    · exact absurd h_7 (by rw [hgd]; decide) --
theorem d_ban {d : Nat} {F : FF} {lv : Nat → Int32} {A : List YL} {P N r la : Nat} {σ : RS} (sp rl tx : Nat) (h : cI F lv A P N r la σ) (f x : Int32) : Ok (d + 21) M6_ban [.ref 0, .int f, .int x] (WD σ la sp rl tx) (qd F lv A P N r la σ sp rl tx (S_ban F lv A N f x)) := by
  have hP := h.2.1.1
  have hN := h.2.1.2.1
  have h7 : σ 2 7 = nI P := h.2.2.1
  have h8 : σ 2 8 = nI N := h.2.2.2.1
  have hgi : (b_isFirst (σ 2 8) x = true ∧ f < x ∧ b_kind (bd σ) f = 0) ↔ (gFact N f x = true ∧ F 0 (nt f) = 0) := kind_iff h 0 (by omega) f x
  by_cases hg : gFact N f x = true ∧ F 0 (nt f) = 0
  · have hgc := hgi.mpr hg
    have hgd : decide (b_isFirst (σ 2 8) x = true ∧ f < x ∧ b_kind (bd σ) f = 0) = true := decide_eq_true hgc
    obtain ⟨hg1, hg2⟩ := hg
    obtain ⟨a, c, a1, c1, rfl, rfl⟩ := gFact_of hN hg1
    have e : S_ban F lv A N (nI a) (nI c) = sp_ban (dS F lv A c) a := by
      unfold S_ban
      rw [if_pos ⟨hg1, hg2⟩]
      simp only [nt_nI (show a < 2 ^ 31 by omega), nt_nI (show c < 2 ^ 31 by omega)]
    rw [e]
    rw [nt_nI (by omega)] at hg2
    have kk : ∀ kb σ', kb_ok kb → cI F lv A P N r la σ' → dK la σ σ' → kGood F lv A c (dk kb 10 σ') → Ev (d + 21) M6_ban (qd F lv A P N r la σ sp rl tx (sp_ban (dS F lv A c) a)) 15 [some (.ref 0), some (.int (nI a)), some (.int (nI c))] [.ref kb] (WD σ' la sp rl tx) := by
      intro kb σ' hk hI hK hG
      have hB := hI.KB c1 hG
      obtain ⟨z1, z2, z3, z4⟩ := hB.len
      have hz : ml F c ≤ 120 := by omega
      have hv := a_banned hB a1 hg2
      rcases hk with rfl | rfl
      · skip
        refine ev_iload_n (pc' := 16) dX6_ban_15 rfl rfl ?_
        refine ev_cVi1 (pc' := 19) cl_6_164 (kD_banRule _ _ _ _ _ 30 (Or.inl rfl) _) dX6_ban_16 rfl rfl rfl rfl ?_
        refine ev_goto (tgt := 23) dX6_ban_19 (by decide) ?_
        refine ev_ireturn rfl dX6_ban_23 ?_
        exact ⟨congrArg (fun t => some (Value.int t)) hv, σ', rfl, hI, hK⟩
      · skip
        refine ev_iload_n (pc' := 16) dX6_ban_15 rfl rfl ?_
        refine ev_cVi1 (pc' := 19) cl_6_164 (kD_banRule _ _ _ _ _ 40 (Or.inr rfl) _) dX6_ban_16 rfl rfl rfl rfl ?_
        refine ev_goto (tgt := 23) dX6_ban_19 (by decide) ?_
        refine ev_ireturn rfl dX6_ban_23 ?_
        exact ⟨congrArg (fun t => some (Value.int t)) hv, σ', rfl, hI, hK⟩
    refine Ok.of (ls := [some _, some _, some _]) (by decide +kernel) (Nat.le_of_ble_eq_true rfl) rfl ?_
    refine ev_aload_n (pc' := 1) dX6_ban_0 rfl rfl ?_
    refine ev_iconst (pc' := 2) (v := 0) dX6_ban_1 rfl (by decide) ?_
    refine ev_iload_n (pc' := 3) dX6_ban_2 rfl rfl ?_
    refine ev_iload_n (pc' := 4) dX6_ban_3 rfl rfl ?_
    refine ev_cVi3 (pc' := 7) cl_6_157 (kD_isKnownOf _ _ _ _ _ _ _ _) dX6_ban_4 rfl rfl rfl rfl ?_
    refine ev_if_eq (tgt := 22) (pc' := 10) dX6_ban_7 (by decide) rfl (fun h_7 => ?_) (fun h_7 => ?_)
    · exact absurd h_7 (by rw [hgd]; decide) --
    · refine ev_aload_n (pc' := 11) dX6_ban_10 rfl rfl ?_
      refine ev_iload_n (pc' := 12) dX6_ban_11 rfl rfl ?_
      refine ev_cVr1 (pc' := 15) cl_6_108 (kD_knownBy sp rl tx h c1) dX6_ban_12 rfl rfl rfl rfl ?_
      rintro v w1 ⟨kb, σ', hk, rfl, rfl, hI, hK, hG, -⟩ -
      exact kk kb σ' hk hI hK hG
  · have e : S_ban F lv A N f x = -1 := if_neg hg
    rw [e]
    have hgc : ¬ (b_isFirst (σ 2 8) x = true ∧ f < x ∧ b_kind (bd σ) f = 0) := fun z => hg (hgi.mp z)
    have hgd : decide (b_isFirst (σ 2 8) x = true ∧ f < x ∧ b_kind (bd σ) f = 0) = false := decide_eq_false hgc
    refine Ok.of (ls := [some _, some _, some _]) (by decide +kernel) (Nat.le_of_ble_eq_true rfl) rfl ?_
    refine ev_aload_n (pc' := 1) dX6_ban_0 rfl rfl ?_
    refine ev_iconst (pc' := 2) (v := 0) dX6_ban_1 rfl (by decide) ?_
    refine ev_iload_n (pc' := 3) dX6_ban_2 rfl rfl ?_
    refine ev_iload_n (pc' := 4) dX6_ban_3 rfl rfl ?_
    refine ev_cVi3 (pc' := 7) cl_6_157 (kD_isKnownOf _ _ _ _ _ _ _ _) dX6_ban_4 rfl rfl rfl rfl ?_
    refine ev_if_eq (tgt := 22) (pc' := 10) dX6_ban_7 (by decide) rfl (fun h_7 => ?_) (fun h_7 => ?_)
    · refine ev_iconst (pc' := 23) (v := -1) dX6_ban_22 rfl (by decide) ?_
      refine ev_ireturn rfl dX6_ban_23 ?_
      exact ⟨rfl, σ, rfl, h, dK.refl la σ⟩
    · exact absurd h_7 (by rw [hgd]; decide) --
theorem d_counts {d : Nat} {F : FF} {lv : Nat → Int32} {A : List YL} {P N r la : Nat} {σ : RS} (sp rl tx : Nat) (h : cI F lv A P N r la σ) (f x : Int32) : Ok (d + 21) M6_counts [.ref 0, .int f, .int x] (WD σ la sp rl tx) (qd F lv A P N r la σ sp rl tx (S_counts F lv A N f x)) := by
  have hP := h.2.1.1
  have hN := h.2.1.2.1
  have h7 : σ 2 7 = nI P := h.2.2.1
  have h8 : σ 2 8 = nI N := h.2.2.2.1
  have hgi : (b_isFirst (σ 2 8) x = true ∧ f < x ∧ b_kind (bd σ) f = 5) ↔ (gFact N f x = true ∧ F 0 (nt f) = 5) := kind_iff h 5 (by omega) f x
  by_cases hg : gFact N f x = true ∧ F 0 (nt f) = 5
  · have hgc := hgi.mpr hg
    have hgd : decide (b_isFirst (σ 2 8) x = true ∧ f < x ∧ b_kind (bd σ) f = 5) = true := decide_eq_true hgc
    obtain ⟨hg1, hg2⟩ := hg
    obtain ⟨a, c, a1, c1, rfl, rfl⟩ := gFact_of hN hg1
    have e : S_counts F lv A N (nI a) (nI c) = bI (sp_cnt F (dS F lv A c).1 a) := by
      unfold S_counts
      rw [if_pos ⟨hg1, hg2⟩]
      simp only [nt_nI (show a < 2 ^ 31 by omega), nt_nI (show c < 2 ^ 31 by omega)]
    rw [e]
    rw [nt_nI (by omega)] at hg2
    have kk : ∀ kb σ', kb_ok kb → cI F lv A P N r la σ' → dK la σ σ' → kGood F lv A c (dk kb 10 σ') → Ev (d + 21) M6_counts (qd F lv A P N r la σ sp rl tx (bI (sp_cnt F (dS F lv A c).1 a))) 17 [some (.ref 0), some (.int (nI a)), some (.int (nI c))] [.ref kb] (WD σ' la sp rl tx) := by
      intro kb σ' hk hI hK hG
      have hB := hI.KB c1 hG
      obtain ⟨z1, z2, z3, z4⟩ := hB.len
      have hz : ml F c ≤ 120 := by omega
      have hv := counts_eq hB a1 hg2
      rcases hk with rfl | rfl
      · skip
        refine ev_iload_n (pc' := 18) dX6_counts_17 rfl rfl ?_
        refine ev_cVi1 (pc' := 21) cl_6_167 (kD_seenCounts _ _ _ _ _ 30 (Or.inl rfl) (ml F c) hz z4 _) dX6_counts_18 rfl rfl rfl rfl ?_
        refine ev_if_eq (tgt := 28) (pc' := 24) dX6_counts_21 (by decide) rfl (fun h_21 => ?_) (fun h_21 => ?_)
        · have q := (bI_0' h_21)
          refine ev_iconst (pc' := 29) (v := 0) dX6_counts_28 rfl (by decide) ?_
          refine ev_ireturn rfl dX6_counts_29 ?_
          exact ⟨congrArg (fun t => some (Value.int t)) (show _ = bI (sp_cnt F (dS F lv A c).1 a) by rw [← hv]; exact (congrArg bI q).symm), σ', rfl, hI, hK⟩
        · have q := (bI_1' h_21)
          refine ev_iconst (pc' := 25) (v := 1) dX6_counts_24 rfl (by decide) ?_
          refine ev_goto (tgt := 29) dX6_counts_25 (by decide) ?_
          refine ev_ireturn rfl dX6_counts_29 ?_
          exact ⟨congrArg (fun t => some (Value.int t)) (show _ = bI (sp_cnt F (dS F lv A c).1 a) by rw [← hv]; exact (congrArg bI q).symm), σ', rfl, hI, hK⟩
      · skip
        refine ev_iload_n (pc' := 18) dX6_counts_17 rfl rfl ?_
        refine ev_cVi1 (pc' := 21) cl_6_167 (kD_seenCounts _ _ _ _ _ 40 (Or.inr rfl) (ml F c) hz z4 _) dX6_counts_18 rfl rfl rfl rfl ?_
        refine ev_if_eq (tgt := 28) (pc' := 24) dX6_counts_21 (by decide) rfl (fun h_21 => ?_) (fun h_21 => ?_)
        · have q := (bI_0' h_21)
          refine ev_iconst (pc' := 29) (v := 0) dX6_counts_28 rfl (by decide) ?_
          refine ev_ireturn rfl dX6_counts_29 ?_
          exact ⟨congrArg (fun t => some (Value.int t)) (show _ = bI (sp_cnt F (dS F lv A c).1 a) by rw [← hv]; exact (congrArg bI q).symm), σ', rfl, hI, hK⟩
        · have q := (bI_1' h_21)
          refine ev_iconst (pc' := 25) (v := 1) dX6_counts_24 rfl (by decide) ?_
          refine ev_goto (tgt := 29) dX6_counts_25 (by decide) ?_
          refine ev_ireturn rfl dX6_counts_29 ?_
          exact ⟨congrArg (fun t => some (Value.int t)) (show _ = bI (sp_cnt F (dS F lv A c).1 a) by rw [← hv]; exact (congrArg bI q).symm), σ', rfl, hI, hK⟩
    refine Ok.of (ls := [some _, some _, some _]) (by decide +kernel) (Nat.le_of_ble_eq_true rfl) rfl ?_
    refine ev_aload_n (pc' := 1) dX6_counts_0 rfl rfl ?_
    refine ev_iconst (pc' := 2) (v := 5) dX6_counts_1 rfl (by decide) ?_
    refine ev_iload_n (pc' := 3) dX6_counts_2 rfl rfl ?_
    refine ev_iload_n (pc' := 4) dX6_counts_3 rfl rfl ?_
    refine ev_cVi3 (pc' := 7) cl_6_157 (kD_isKnownOf _ _ _ _ _ _ _ _) dX6_counts_4 rfl rfl rfl rfl ?_
    refine ev_if_ne (tgt := 12) (pc' := 10) dX6_counts_7 (by decide) rfl (fun h_7 => ?_) (fun h_7 => ?_)
    · refine ev_aload_n (pc' := 13) dX6_counts_12 rfl rfl ?_
      refine ev_iload_n (pc' := 14) dX6_counts_13 rfl rfl ?_
      refine ev_cVr1 (pc' := 17) cl_6_108 (kD_knownBy sp rl tx h c1) dX6_counts_14 rfl rfl rfl rfl ?_
      rintro v w1 ⟨kb, σ', hk, rfl, rfl, hI, hK, hG, -⟩ -
      exact kk kb σ' hk hI hK hG
    · exact absurd h_7 (by rw [hgd]; decide) --
  · have e : S_counts F lv A N f x = -1 := if_neg hg
    rw [e]
    have hgc : ¬ (b_isFirst (σ 2 8) x = true ∧ f < x ∧ b_kind (bd σ) f = 5) := fun z => hg (hgi.mp z)
    have hgd : decide (b_isFirst (σ 2 8) x = true ∧ f < x ∧ b_kind (bd σ) f = 5) = false := decide_eq_false hgc
    refine Ok.of (ls := [some _, some _, some _]) (by decide +kernel) (Nat.le_of_ble_eq_true rfl) rfl ?_
    refine ev_aload_n (pc' := 1) dX6_counts_0 rfl rfl ?_
    refine ev_iconst (pc' := 2) (v := 5) dX6_counts_1 rfl (by decide) ?_
    refine ev_iload_n (pc' := 3) dX6_counts_2 rfl rfl ?_
    refine ev_iload_n (pc' := 4) dX6_counts_3 rfl rfl ?_
    refine ev_cVi3 (pc' := 7) cl_6_157 (kD_isKnownOf _ _ _ _ _ _ _ _) dX6_counts_4 rfl rfl rfl rfl ?_
    refine ev_if_ne (tgt := 12) (pc' := 10) dX6_counts_7 (by decide) rfl (fun h_7 => ?_) (fun h_7 => ?_)
    · exact absurd h_7 (by rw [hgd]; decide) --
    · refine ev_iconst (pc' := 11) (v := -1) dX6_counts_10 rfl (by decide) ?_
      refine ev_ireturn rfl dX6_counts_11 ?_
      exact ⟨rfl, σ, rfl, h, dK.refl la σ⟩
