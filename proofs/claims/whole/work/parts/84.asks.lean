/-! The class answers (class 6): the questions. -/
theorem d_holder {d : Nat} {F : FF} {lv : Nat → Int32} {A : List YL} {P N r la : Nat} {σ : RS} (sp rl tx : Nat) (h : cI F lv A P N r la σ) (p y x : Int32) : Ok (d + 21) M6_holder [.ref 0, .int p, .int y, .int x] (WD σ la sp rl tx) (qd F lv A P N r la σ sp rl tx (S_holder F lv A P N p y x)) := by
  have hP := h.2.1.1
  have hN := h.2.1.2.1
  have h7 : σ 2 7 = nI P := h.2.2.1
  have h8 : σ 2 8 = nI N := h.2.2.2.1
  by_cases hg : gLeaf P N p y x = true
  · obtain ⟨a, b, c, a1, b1, c1, rfl, rfl, rfl⟩ := gLeaf_of hP hN hg
    have e : S_holder F lv A P N (nI a) (nI b) (nI c) = (dS F lv A c).1 (400 * a + b) := by
      unfold S_holder
      rw [if_pos hg]
      simp only [nt_nI (show a < 2 ^ 31 by omega), nt_nI (show b < 2 ^ 31 by omega), nt_nI (show c < 2 ^ 31 by omega)]
    rw [e]
    have g1 : (b_isPerson (σ 2 7) (nI a) && m_day (nI b)) = true := by rw [h7, isP_t hP a1, isD_t b1]; rfl
    have g2 : b_isFirst (σ 2 8) (nI c) = true := by rw [h8, isN_t hN c1]
    have kk : ∀ kb σ', kb_ok kb → cI F lv A P N r la σ' → dK la σ σ' → kGood F lv A c (dk kb 10 σ') → Ev (d + 21) M6_holder (qd F lv A P N r la σ sp rl tx ((dS F lv A c).1 (400 * a + b))) 25 [some (.ref 0), some (.int (nI a)), some (.int (nI b)), some (.int (nI c))] [.ref kb] (WD σ' la sp rl tx) := by
      intro kb σ' hk hI hK hG
      have hB := hI.KB c1 hG
      obtain ⟨z1, z2, z3, z4⟩ := hB.len
      have hz : ml F c ≤ 120 := by omega
      have hv := a_hold hB (show a < 8 by omega) b1
      rcases hk with rfl | rfl
      · skip
        refine ev_iload_n (pc' := 26) dX6_holder_25 rfl rfl ?_
        refine ev_iload_n (pc' := 27) dX6_holder_26 rfl rfl ?_
        refine ev_cVi2 (pc' := 30) cl_6_121 (kD_holderOf _ _ _ _ _ 30 (Or.inl rfl) (ml F c) hz z4 _ _) dX6_holder_27 rfl rfl rfl rfl ?_
        refine ev_goto (tgt := 34) dX6_holder_30 (by decide) ?_
        refine ev_ireturn rfl dX6_holder_34 ?_
        exact ⟨congrArg (fun t => some (Value.int t)) hv, σ', rfl, hI, hK⟩
      · skip
        refine ev_iload_n (pc' := 26) dX6_holder_25 rfl rfl ?_
        refine ev_iload_n (pc' := 27) dX6_holder_26 rfl rfl ?_
        refine ev_cVi2 (pc' := 30) cl_6_121 (kD_holderOf _ _ _ _ _ 40 (Or.inr rfl) (ml F c) hz z4 _ _) dX6_holder_27 rfl rfl rfl rfl ?_
        refine ev_goto (tgt := 34) dX6_holder_30 (by decide) ?_
        refine ev_ireturn rfl dX6_holder_34 ?_
        exact ⟨congrArg (fun t => some (Value.int t)) hv, σ', rfl, hI, hK⟩
    refine Ok.of (ls := [some _, some _, some _, some _]) (by decide +kernel) (Nat.le_of_ble_eq_true rfl) rfl ?_
    refine ev_aload_n (pc' := 1) dX6_holder_0 rfl rfl ?_
    refine ev_iload_n (pc' := 2) dX6_holder_1 rfl rfl ?_
    refine ev_iload_n (pc' := 3) dX6_holder_2 rfl rfl ?_
    refine ev_cVi2 (pc' := 6) cl_6_115 (kD_isLeaf _ _ _ _ _ _ _) dX6_holder_3 rfl rfl rfl rfl ?_
    refine ev_if_eq (tgt := 33) (pc' := 9) dX6_holder_6 (by decide) rfl (fun h_6 => ?_) (fun h_6 => ?_)
    · exact absurd h_6 (by rw [g1]; decide) --
    · refine ev_aload_n (pc' := 10) dX6_holder_9 rfl rfl ?_
      refine ev_getf (pc' := 13) fl_6_12 dX6_holder_10 rfl rfl rfl ?_
      refine ev_iload_n (pc' := 14) dX6_holder_13 rfl rfl ?_
      refine ev_cVi1 (pc' := 17) cl_6_118 (kD_hasFirst _ _ _ _ _ _) dX6_holder_14 rfl rfl rfl rfl ?_
      refine ev_if_eq (tgt := 33) (pc' := 20) dX6_holder_17 (by decide) rfl (fun h_17 => ?_) (fun h_17 => ?_)
      · exact absurd h_17 (by rw [g2]; decide) --
      · refine ev_aload_n (pc' := 21) dX6_holder_20 rfl rfl ?_
        refine ev_iload_n (pc' := 22) dX6_holder_21 rfl rfl ?_
        refine ev_cVr1 (pc' := 25) cl_6_108 (kD_knownBy sp rl tx h c1) dX6_holder_22 rfl rfl rfl rfl ?_
        rintro v w1 ⟨kb, σ', hk, rfl, rfl, hI, hK, hG, -⟩ -
        exact kk kb σ' hk hI hK hG
  · have e : S_holder F lv A P N p y x = -1 := if_neg hg
    rw [e]
    refine Ok.of (ls := [some _, some _, some _, some _]) (by decide +kernel) (Nat.le_of_ble_eq_true rfl) rfl ?_
    refine ev_aload_n (pc' := 1) dX6_holder_0 rfl rfl ?_
    refine ev_iload_n (pc' := 2) dX6_holder_1 rfl rfl ?_
    refine ev_iload_n (pc' := 3) dX6_holder_2 rfl rfl ?_
    refine ev_cVi2 (pc' := 6) cl_6_115 (kD_isLeaf _ _ _ _ _ _ _) dX6_holder_3 rfl rfl rfl rfl ?_
    refine ev_if_eq (tgt := 33) (pc' := 9) dX6_holder_6 (by decide) rfl (fun h_6 => ?_) (fun h_6 => ?_)
    · refine ev_iconst (pc' := 34) (v := -1) dX6_holder_33 rfl (by decide) ?_
      refine ev_ireturn rfl dX6_holder_34 ?_
      exact ⟨rfl, σ, rfl, h, dK.refl la σ⟩
    · have q1 := bI_1' h_6
      refine ev_aload_n (pc' := 10) dX6_holder_9 rfl rfl ?_
      refine ev_getf (pc' := 13) fl_6_12 dX6_holder_10 rfl rfl rfl ?_
      refine ev_iload_n (pc' := 14) dX6_holder_13 rfl rfl ?_
      refine ev_cVi1 (pc' := 17) cl_6_118 (kD_hasFirst _ _ _ _ _ _) dX6_holder_14 rfl rfl rfl rfl ?_
      refine ev_if_eq (tgt := 33) (pc' := 20) dX6_holder_17 (by decide) rfl (fun h_17 => ?_) (fun h_17 => ?_)
      · refine ev_iconst (pc' := 34) (v := -1) dX6_holder_33 rfl (by decide) ?_
        refine ev_ireturn rfl dX6_holder_34 ?_
        exact ⟨rfl, σ, rfl, h, dK.refl la σ⟩
      · exact absurd (by unfold gLeaf; rw [← h7, ← h8, q1, bI_1' h_17]; rfl) hg --
theorem d_awake {d : Nat} {F : FF} {lv : Nat → Int32} {A : List YL} {P N r la : Nat} {σ : RS} (sp rl tx : Nat) (h : cI F lv A P N r la σ) (p y x : Int32) : Ok (d + 21) M6_awake [.ref 0, .int p, .int y, .int x] (WD σ la sp rl tx) (qd F lv A P N r la σ sp rl tx (S_awake F lv A P N p y x)) := by
  have hP := h.2.1.1
  have hN := h.2.1.2.1
  have h7 : σ 2 7 = nI P := h.2.2.1
  have h8 : σ 2 8 = nI N := h.2.2.2.1
  by_cases hg : gLeaf P N p y x = true
  · obtain ⟨a, b, c, a1, b1, c1, rfl, rfl, rfl⟩ := gLeaf_of hP hN hg
    have e : S_awake F lv A P N (nI a) (nI b) (nI c) = nI (caw (dS F lv A c).1 (nI a) b 8) := by
      unfold S_awake
      rw [if_pos hg]
      simp only [nt_nI (show a < 2 ^ 31 by omega), nt_nI (show b < 2 ^ 31 by omega), nt_nI (show c < 2 ^ 31 by omega)]
    rw [e]
    have g1 : (b_isPerson (σ 2 7) (nI a) && m_day (nI b)) = true := by rw [h7, isP_t hP a1, isD_t b1]; rfl
    have g2 : b_isFirst (σ 2 8) (nI c) = true := by rw [h8, isN_t hN c1]
    have kk : ∀ kb σ', kb_ok kb → cI F lv A P N r la σ' → dK la σ σ' → kGood F lv A c (dk kb 10 σ') → Ev (d + 21) M6_awake (qd F lv A P N r la σ sp rl tx (nI (caw (dS F lv A c).1 (nI a) b 8))) 25 [some (.ref 0), some (.int (nI a)), some (.int (nI b)), some (.int (nI c))] [.ref kb] (WD σ' la sp rl tx) := by
      intro kb σ' hk hI hK hG
      have hB := hI.KB c1 hG
      obtain ⟨z1, z2, z3, z4⟩ := hB.len
      have hz : ml F c ≤ 120 := by omega
      have hv := a_awake hB (show a < 8 by omega) b1
      rcases hk with rfl | rfl
      · skip
        refine ev_iload_n (pc' := 26) dX6_awake_25 rfl rfl ?_
        refine ev_iload_n (pc' := 27) dX6_awake_26 rfl rfl ?_
        refine ev_cVi2 (pc' := 30) cl_6_129 (kD_timesAwake _ _ _ _ _ 30 (Or.inl rfl) (ml F c) hz z4 _ _) dX6_awake_27 rfl rfl rfl rfl ?_
        refine ev_goto (tgt := 34) dX6_awake_30 (by decide) ?_
        refine ev_ireturn rfl dX6_awake_34 ?_
        exact ⟨congrArg (fun t => some (Value.int t)) hv, σ', rfl, hI, hK⟩
      · skip
        refine ev_iload_n (pc' := 26) dX6_awake_25 rfl rfl ?_
        refine ev_iload_n (pc' := 27) dX6_awake_26 rfl rfl ?_
        refine ev_cVi2 (pc' := 30) cl_6_129 (kD_timesAwake _ _ _ _ _ 40 (Or.inr rfl) (ml F c) hz z4 _ _) dX6_awake_27 rfl rfl rfl rfl ?_
        refine ev_goto (tgt := 34) dX6_awake_30 (by decide) ?_
        refine ev_ireturn rfl dX6_awake_34 ?_
        exact ⟨congrArg (fun t => some (Value.int t)) hv, σ', rfl, hI, hK⟩
    refine Ok.of (ls := [some _, some _, some _, some _]) (by decide +kernel) (Nat.le_of_ble_eq_true rfl) rfl ?_
    refine ev_aload_n (pc' := 1) dX6_awake_0 rfl rfl ?_
    refine ev_iload_n (pc' := 2) dX6_awake_1 rfl rfl ?_
    refine ev_iload_n (pc' := 3) dX6_awake_2 rfl rfl ?_
    refine ev_cVi2 (pc' := 6) cl_6_115 (kD_isLeaf _ _ _ _ _ _ _) dX6_awake_3 rfl rfl rfl rfl ?_
    refine ev_if_eq (tgt := 33) (pc' := 9) dX6_awake_6 (by decide) rfl (fun h_6 => ?_) (fun h_6 => ?_)
    · exact absurd h_6 (by rw [g1]; decide) --
    · refine ev_aload_n (pc' := 10) dX6_awake_9 rfl rfl ?_
      refine ev_getf (pc' := 13) fl_6_12 dX6_awake_10 rfl rfl rfl ?_
      refine ev_iload_n (pc' := 14) dX6_awake_13 rfl rfl ?_
      refine ev_cVi1 (pc' := 17) cl_6_118 (kD_hasFirst _ _ _ _ _ _) dX6_awake_14 rfl rfl rfl rfl ?_
      refine ev_if_eq (tgt := 33) (pc' := 20) dX6_awake_17 (by decide) rfl (fun h_17 => ?_) (fun h_17 => ?_)
      · exact absurd h_17 (by rw [g2]; decide) --
      · refine ev_aload_n (pc' := 21) dX6_awake_20 rfl rfl ?_
        refine ev_iload_n (pc' := 22) dX6_awake_21 rfl rfl ?_
        refine ev_cVr1 (pc' := 25) cl_6_108 (kD_knownBy sp rl tx h c1) dX6_awake_22 rfl rfl rfl rfl ?_
        rintro v w1 ⟨kb, σ', hk, rfl, rfl, hI, hK, hG, -⟩ -
        exact kk kb σ' hk hI hK hG
  · have e : S_awake F lv A P N p y x = -1 := if_neg hg
    rw [e]
    refine Ok.of (ls := [some _, some _, some _, some _]) (by decide +kernel) (Nat.le_of_ble_eq_true rfl) rfl ?_
    refine ev_aload_n (pc' := 1) dX6_awake_0 rfl rfl ?_
    refine ev_iload_n (pc' := 2) dX6_awake_1 rfl rfl ?_
    refine ev_iload_n (pc' := 3) dX6_awake_2 rfl rfl ?_
    refine ev_cVi2 (pc' := 6) cl_6_115 (kD_isLeaf _ _ _ _ _ _ _) dX6_awake_3 rfl rfl rfl rfl ?_
    refine ev_if_eq (tgt := 33) (pc' := 9) dX6_awake_6 (by decide) rfl (fun h_6 => ?_) (fun h_6 => ?_)
    · refine ev_iconst (pc' := 34) (v := -1) dX6_awake_33 rfl (by decide) ?_
      refine ev_ireturn rfl dX6_awake_34 ?_
      exact ⟨rfl, σ, rfl, h, dK.refl la σ⟩
    · have q1 := bI_1' h_6
      refine ev_aload_n (pc' := 10) dX6_awake_9 rfl rfl ?_
      refine ev_getf (pc' := 13) fl_6_12 dX6_awake_10 rfl rfl rfl ?_
      refine ev_iload_n (pc' := 14) dX6_awake_13 rfl rfl ?_
      refine ev_cVi1 (pc' := 17) cl_6_118 (kD_hasFirst _ _ _ _ _ _) dX6_awake_14 rfl rfl rfl rfl ?_
      refine ev_if_eq (tgt := 33) (pc' := 20) dX6_awake_17 (by decide) rfl (fun h_17 => ?_) (fun h_17 => ?_)
      · refine ev_iconst (pc' := 34) (v := -1) dX6_awake_33 rfl (by decide) ?_
        refine ev_ireturn rfl dX6_awake_34 ?_
        exact ⟨rfl, σ, rfl, h, dK.refl la σ⟩
      · exact absurd (by unfold gLeaf; rw [← h7, ← h8, q1, bI_1' h_17]; rfl) hg --
theorem d_age {d : Nat} {F : FF} {lv : Nat → Int32} {A : List YL} {P N r la : Nat} {σ : RS} (sp rl tx : Nat) (h : cI F lv A P N r la σ) (p y x : Int32) : Ok (d + 21) M6_age [.ref 0, .int p, .int y, .int x] (WD σ la sp rl tx) (qd F lv A P N r la σ sp rl tx (S_age F lv A P N p y x)) := by
  have hP := h.2.1.1
  have hN := h.2.1.2.1
  have h7 : σ 2 7 = nI P := h.2.2.1
  have h8 : σ 2 8 = nI N := h.2.2.2.1
  by_cases hg : gLeaf P N p y x = true
  · obtain ⟨a, b, c, a1, b1, c1, rfl, rfl, rfl⟩ := gLeaf_of hP hN hg
    have e : S_age F lv A P N (nI a) (nI b) (nI c) = lv a + nI (cout (dS F lv A c).1 (nI a) b 8) := by
      unfold S_age
      rw [if_pos hg]
      simp only [nt_nI (show a < 2 ^ 31 by omega), nt_nI (show b < 2 ^ 31 by omega), nt_nI (show c < 2 ^ 31 by omega)]
    rw [e]
    have g1 : (b_isPerson (σ 2 7) (nI a) && m_day (nI b)) = true := by rw [h7, isP_t hP a1, isD_t b1]; rfl
    have g2 : b_isFirst (σ 2 8) (nI c) = true := by rw [h8, isN_t hN c1]
    have kk : ∀ kb σ', kb_ok kb → cI F lv A P N r la σ' → dK la σ σ' → kGood F lv A c (dk kb 10 σ') → Ev (d + 21) M6_age (qd F lv A P N r la σ sp rl tx (lv a + nI (cout (dS F lv A c).1 (nI a) b 8))) 25 [some (.ref 0), some (.int (nI a)), some (.int (nI b)), some (.int (nI c))] [.ref kb] (WD σ' la sp rl tx) := by
      intro kb σ' hk hI hK hG
      have hB := hI.KB c1 hG
      obtain ⟨z1, z2, z3, z4⟩ := hB.len
      have hz : ml F c ≤ 120 := by omega
      have hv := a_age hB a1 b1
      rcases hk with rfl | rfl
      · skip
        refine ev_iload_n (pc' := 26) dX6_age_25 rfl rfl ?_
        refine ev_iload_n (pc' := 27) dX6_age_26 rfl rfl ?_
        refine ev_cVi2 (pc' := 30) cl_6_132 (kD_ageOf _ _ _ _ _ 30 (Or.inl rfl) (ml F c) hz z4 _ _) dX6_age_27 rfl rfl rfl rfl ?_
        refine ev_goto (tgt := 34) dX6_age_30 (by decide) ?_
        refine ev_ireturn rfl dX6_age_34 ?_
        exact ⟨congrArg (fun t => some (Value.int t)) hv, σ', rfl, hI, hK⟩
      · skip
        refine ev_iload_n (pc' := 26) dX6_age_25 rfl rfl ?_
        refine ev_iload_n (pc' := 27) dX6_age_26 rfl rfl ?_
        refine ev_cVi2 (pc' := 30) cl_6_132 (kD_ageOf _ _ _ _ _ 40 (Or.inr rfl) (ml F c) hz z4 _ _) dX6_age_27 rfl rfl rfl rfl ?_
        refine ev_goto (tgt := 34) dX6_age_30 (by decide) ?_
        refine ev_ireturn rfl dX6_age_34 ?_
        exact ⟨congrArg (fun t => some (Value.int t)) hv, σ', rfl, hI, hK⟩
    refine Ok.of (ls := [some _, some _, some _, some _]) (by decide +kernel) (Nat.le_of_ble_eq_true rfl) rfl ?_
    refine ev_aload_n (pc' := 1) dX6_age_0 rfl rfl ?_
    refine ev_iload_n (pc' := 2) dX6_age_1 rfl rfl ?_
    refine ev_iload_n (pc' := 3) dX6_age_2 rfl rfl ?_
    refine ev_cVi2 (pc' := 6) cl_6_115 (kD_isLeaf _ _ _ _ _ _ _) dX6_age_3 rfl rfl rfl rfl ?_
    refine ev_if_eq (tgt := 33) (pc' := 9) dX6_age_6 (by decide) rfl (fun h_6 => ?_) (fun h_6 => ?_)
    · exact absurd h_6 (by rw [g1]; decide) --
    · refine ev_aload_n (pc' := 10) dX6_age_9 rfl rfl ?_
      refine ev_getf (pc' := 13) fl_6_12 dX6_age_10 rfl rfl rfl ?_
      refine ev_iload_n (pc' := 14) dX6_age_13 rfl rfl ?_
      refine ev_cVi1 (pc' := 17) cl_6_118 (kD_hasFirst _ _ _ _ _ _) dX6_age_14 rfl rfl rfl rfl ?_
      refine ev_if_eq (tgt := 33) (pc' := 20) dX6_age_17 (by decide) rfl (fun h_17 => ?_) (fun h_17 => ?_)
      · exact absurd h_17 (by rw [g2]; decide) --
      · refine ev_aload_n (pc' := 21) dX6_age_20 rfl rfl ?_
        refine ev_iload_n (pc' := 22) dX6_age_21 rfl rfl ?_
        refine ev_cVr1 (pc' := 25) cl_6_108 (kD_knownBy sp rl tx h c1) dX6_age_22 rfl rfl rfl rfl ?_
        rintro v w1 ⟨kb, σ', hk, rfl, rfl, hI, hK, hG, -⟩ -
        exact kk kb σ' hk hI hK hG
  · have e : S_age F lv A P N p y x = -1 := if_neg hg
    rw [e]
    refine Ok.of (ls := [some _, some _, some _, some _]) (by decide +kernel) (Nat.le_of_ble_eq_true rfl) rfl ?_
    refine ev_aload_n (pc' := 1) dX6_age_0 rfl rfl ?_
    refine ev_iload_n (pc' := 2) dX6_age_1 rfl rfl ?_
    refine ev_iload_n (pc' := 3) dX6_age_2 rfl rfl ?_
    refine ev_cVi2 (pc' := 6) cl_6_115 (kD_isLeaf _ _ _ _ _ _ _) dX6_age_3 rfl rfl rfl rfl ?_
    refine ev_if_eq (tgt := 33) (pc' := 9) dX6_age_6 (by decide) rfl (fun h_6 => ?_) (fun h_6 => ?_)
    · refine ev_iconst (pc' := 34) (v := -1) dX6_age_33 rfl (by decide) ?_
      refine ev_ireturn rfl dX6_age_34 ?_
      exact ⟨rfl, σ, rfl, h, dK.refl la σ⟩
    · have q1 := bI_1' h_6
      refine ev_aload_n (pc' := 10) dX6_age_9 rfl rfl ?_
      refine ev_getf (pc' := 13) fl_6_12 dX6_age_10 rfl rfl rfl ?_
      refine ev_iload_n (pc' := 14) dX6_age_13 rfl rfl ?_
      refine ev_cVi1 (pc' := 17) cl_6_118 (kD_hasFirst _ _ _ _ _ _) dX6_age_14 rfl rfl rfl rfl ?_
      refine ev_if_eq (tgt := 33) (pc' := 20) dX6_age_17 (by decide) rfl (fun h_17 => ?_) (fun h_17 => ?_)
      · refine ev_iconst (pc' := 34) (v := -1) dX6_age_33 rfl (by decide) ?_
        refine ev_ireturn rfl dX6_age_34 ?_
        exact ⟨rfl, σ, rfl, h, dK.refl la σ⟩
      · exact absurd (by unfold gLeaf; rw [← h7, ← h8, q1, bI_1' h_17]; rfl) hg --
