/-! The class answers (class 6): more questions. -/
theorem d_chain {d : Nat} {F : FF} {lv : Nat → Int32} {A : List YL} {P N r la : Nat} {σ : RS} (sp rl tx : Nat) (h : cI F lv A P N r la σ) (p y i x : Int32) : Ok (d + 21) M6_chain [.ref 0, .int p, .int y, .int i, .int x] (WD σ la sp rl tx) (qd F lv A P N r la σ sp rl tx (S_chain F lv A P N p y i x)) := by
  have hP := h.2.1.1
  have hN := h.2.1.2.1
  have h7 : σ 2 7 = nI P := h.2.2.1
  have h8 : σ 2 8 = nI N := h.2.2.2.1
  by_cases hg : gLeaf P N p y x = true ∧ 0 ≤ i
  · obtain ⟨hg1, hi⟩ := hg
    obtain ⟨a, b, c, a1, b1, c1, rfl, rfl, rfl⟩ := gLeaf_of hP hN hg1
    have e : S_chain F lv A P N (nI a) (nI b) i (nI c) = if i = 0 then nI a else chn F (dS F lv A c).2.2.2.1 a b (mlist F c 399) (nt i) := by
      unfold S_chain
      rw [if_pos ⟨hg1, hi⟩]
      simp only [nt_nI (show a < 2 ^ 31 by omega), nt_nI (show b < 2 ^ 31 by omega), nt_nI (show c < 2 ^ 31 by omega)]
    rw [e]
    have g1 : (b_isPerson (σ 2 7) (nI a) && m_day (nI b)) = true := by rw [h7, isP_t hP a1, isD_t b1]; rfl
    have g2 : b_isFirst (σ 2 8) (nI c) = true := by rw [h8, isN_t hN c1]
    have kk : ∀ kb σ', kb_ok kb → cI F lv A P N r la σ' → dK la σ σ' → kGood F lv A c (dk kb 10 σ') → Ev (d + 21) M6_chain (qd F lv A P N r la σ sp rl tx (if i = 0 then nI a else chn F (dS F lv A c).2.2.2.1 a b (mlist F c 399) (nt i))) 33 [some (.ref 0), some (.int (nI a)), some (.int (nI b)), some (.int i), some (.int (nI c))] [.ref kb] (WD σ' la sp rl tx) := by
      intro kb σ' hk hI hK hG
      have hB := hI.KB c1 hG
      obtain ⟨z1, z2, z3, z4⟩ := hB.len
      have hz : ml F c ≤ 120 := by omega
      have hv := a_chain hB (show a < 8 by omega) b1 hi
      rcases hk with rfl | rfl
      · skip
        refine ev_iload_n (pc' := 34) dX6_chain_33 rfl rfl ?_
        refine ev_iload_n (pc' := 35) dX6_chain_34 rfl rfl ?_
        refine ev_iload_n (pc' := 36) dX6_chain_35 rfl rfl ?_
        refine ev_cVi3 (pc' := 39) cl_6_125 (kD_linkOf _ _ _ _ _ 30 (Or.inl rfl) (ml F c) hz z4 _ _ _) dX6_chain_36 rfl rfl rfl rfl ?_
        refine ev_ireturn rfl dX6_chain_39 ?_
        exact ⟨congrArg (fun t => some (Value.int t)) hv, σ', rfl, hI, hK⟩
      · skip
        refine ev_iload_n (pc' := 34) dX6_chain_33 rfl rfl ?_
        refine ev_iload_n (pc' := 35) dX6_chain_34 rfl rfl ?_
        refine ev_iload_n (pc' := 36) dX6_chain_35 rfl rfl ?_
        refine ev_cVi3 (pc' := 39) cl_6_125 (kD_linkOf _ _ _ _ _ 40 (Or.inr rfl) (ml F c) hz z4 _ _ _) dX6_chain_36 rfl rfl rfl rfl ?_
        refine ev_ireturn rfl dX6_chain_39 ?_
        exact ⟨congrArg (fun t => some (Value.int t)) hv, σ', rfl, hI, hK⟩
    refine Ok.of (ls := [some _, some _, some _, some _, some _]) (by decide +kernel) (Nat.le_of_ble_eq_true rfl) rfl ?_
    refine ev_aload_n (pc' := 1) dX6_chain_0 rfl rfl ?_
    refine ev_iload_n (pc' := 2) dX6_chain_1 rfl rfl ?_
    refine ev_iload_n (pc' := 3) dX6_chain_2 rfl rfl ?_
    refine ev_cVi2 (pc' := 6) cl_6_115 (kD_isLeaf _ _ _ _ _ _ _) dX6_chain_3 rfl rfl rfl rfl ?_
    refine ev_if_eq (tgt := 25) (pc' := 9) dX6_chain_6 (by decide) rfl (fun h_6 => ?_) (fun h_6 => ?_)
    · exact absurd h_6 (by rw [g1]; decide) --
    · refine ev_aload_n (pc' := 10) dX6_chain_9 rfl rfl ?_
      refine ev_getf (pc' := 13) fl_6_12 dX6_chain_10 rfl rfl rfl ?_
      refine ev_iload (pc' := 15) dX6_chain_13 rfl rfl ?_
      refine ev_cVi1 (pc' := 18) cl_6_118 (kD_hasFirst _ _ _ _ _ _) dX6_chain_15 rfl rfl rfl rfl ?_
      refine ev_if_eq (tgt := 25) (pc' := 21) dX6_chain_18 (by decide) rfl (fun h_18 => ?_) (fun h_18 => ?_)
      · exact absurd h_18 (by rw [g2]; decide) --
      · refine ev_iload_n (pc' := 22) dX6_chain_21 rfl rfl ?_
        refine ev_if_ge (tgt := 27) (pc' := 25) dX6_chain_22 (by decide) rfl (fun h_22 => ?_) (fun h_22 => ?_)
        · refine ev_aload_n (pc' := 28) dX6_chain_27 rfl rfl ?_
          refine ev_iload (pc' := 30) dX6_chain_28 rfl rfl ?_
          refine ev_cVr1 (pc' := 33) cl_6_108 (kD_knownBy sp rl tx h c1) dX6_chain_30 rfl rfl rfl rfl ?_
          rintro v w1 ⟨kb, σ', hk, rfl, rfl, hI, hK, hG, -⟩ -
          exact kk kb σ' hk hI hK hG
        · exact absurd hi h_22 --
  · have e : S_chain F lv A P N p y i x = -1 := if_neg hg
    rw [e]
    refine Ok.of (ls := [some _, some _, some _, some _, some _]) (by decide +kernel) (Nat.le_of_ble_eq_true rfl) rfl ?_
    refine ev_aload_n (pc' := 1) dX6_chain_0 rfl rfl ?_
    refine ev_iload_n (pc' := 2) dX6_chain_1 rfl rfl ?_
    refine ev_iload_n (pc' := 3) dX6_chain_2 rfl rfl ?_
    refine ev_cVi2 (pc' := 6) cl_6_115 (kD_isLeaf _ _ _ _ _ _ _) dX6_chain_3 rfl rfl rfl rfl ?_
    refine ev_if_eq (tgt := 25) (pc' := 9) dX6_chain_6 (by decide) rfl (fun h_6 => ?_) (fun h_6 => ?_)
    · refine ev_iconst (pc' := 26) (v := -1) dX6_chain_25 rfl (by decide) ?_
      refine ev_ireturn rfl dX6_chain_26 ?_
      exact ⟨rfl, σ, rfl, h, dK.refl la σ⟩
    · have q1 := bI_1' h_6
      refine ev_aload_n (pc' := 10) dX6_chain_9 rfl rfl ?_
      refine ev_getf (pc' := 13) fl_6_12 dX6_chain_10 rfl rfl rfl ?_
      refine ev_iload (pc' := 15) dX6_chain_13 rfl rfl ?_
      refine ev_cVi1 (pc' := 18) cl_6_118 (kD_hasFirst _ _ _ _ _ _) dX6_chain_15 rfl rfl rfl rfl ?_
      refine ev_if_eq (tgt := 25) (pc' := 21) dX6_chain_18 (by decide) rfl (fun h_18 => ?_) (fun h_18 => ?_)
      · refine ev_iconst (pc' := 26) (v := -1) dX6_chain_25 rfl (by decide) ?_
        refine ev_ireturn rfl dX6_chain_26 ?_
        exact ⟨rfl, σ, rfl, h, dK.refl la σ⟩
      · have q2 := bI_1' h_18
        refine ev_iload_n (pc' := 22) dX6_chain_21 rfl rfl ?_
        refine ev_if_ge (tgt := 27) (pc' := 25) dX6_chain_22 (by decide) rfl (fun h_22 => ?_) (fun h_22 => ?_)
        · exact absurd ⟨by unfold gLeaf; rw [← h7, ← h8, q1, q2]; rfl, by first | exact h_22 | exact Int32.not_lt.mp h_22⟩ hg --
        · refine ev_iconst (pc' := 26) (v := -1) dX6_chain_25 rfl (by decide) ?_
          refine ev_ireturn rfl dX6_chain_26 ?_
          exact ⟨rfl, σ, rfl, h, dK.refl la σ⟩
theorem d_owes {d : Nat} {F : FF} {lv : Nat → Int32} {A : List YL} {P N r la : Nat} {σ : RS} (sp rl tx : Nat) (h : cI F lv A P N r la σ) (p o y x : Int32) : Ok (d + 21) M6_owes [.ref 0, .int p, .int o, .int y, .int x] (WD σ la sp rl tx) (qd F lv A P N r la σ sp rl tx (S_owes F lv A P N p o y x)) := by
  have hP := h.2.1.1
  have hN := h.2.1.2.1
  have h7 : σ 2 7 = nI P := h.2.2.1
  have h8 : σ 2 8 = nI N := h.2.2.2.1
  by_cases hg : gLeaf P N p y x = true ∧ b_isPerson (nI P) o = true
  · obtain ⟨hg1, hi⟩ := hg
    obtain ⟨a, b, c, a1, b1, c1, rfl, rfl, rfl⟩ := gLeaf_of hP hN hg1
    obtain ⟨q, q1, rfl⟩ := isP_of hP hi
    have e : S_owes F lv A P N (nI a) (nI q) (nI b) (nI c) = (dU F lv A c b).2.2.1 (8 * a + q) := by
      unfold S_owes
      rw [if_pos ⟨hg1, hi⟩]
      simp only [nt_nI (show a < 2 ^ 31 by omega), nt_nI (show b < 2 ^ 31 by omega), nt_nI (show c < 2 ^ 31 by omega), nt_nI (show q < 2 ^ 31 by omega)]
    rw [e]
    have g1 : (b_isPerson (σ 2 7) (nI a) && m_day (nI b)) = true := by rw [h7, isP_t hP a1, isD_t b1]; rfl
    have g2 : b_isFirst (σ 2 8) (nI c) = true := by rw [h8, isN_t hN c1]
    have g3 : b_isPerson (σ 2 7) (nI q) = true := by rw [h7]; exact hi
    have kk : ∀ kb σ', kb_ok kb → cI F lv A P N r la σ' → dK la σ σ' → kGood F lv A c (dk kb 10 σ') → Ev (d + 21) M6_owes (qd F lv A P N r la σ sp rl tx ((dU F lv A c b).2.2.1 (8 * a + q))) 40 [some (.ref 0), some (.int (nI a)), some (.int (nI q)), some (.int (nI b)), some (.int (nI c)), none] [.ref kb] (WD σ' la sp rl tx) := by
      intro kb σ' hk hI hK hG
      have hB := hI.KB c1 hG
      obtain ⟨z1, z2, z3, z4⟩ := hB.len
      have hz : ml F c ≤ 120 := by omega
      have hu := a_upTo hB b1
      have hv := a_debt hB b1 (show a < 8 by omega) (show q < 8 by omega)
      rcases hk with rfl | rfl
      · have oU := kD_papersUpTo (d := d + 18) σ' la sp rl tx 30 (Or.inl rfl) (ml F c) hz z4 (nI b)
        rw [show kn_upTo (σ' 5) (σ' (30 + 3)) (nI b) (ml F c) 0 = (mlist F c b).length from hu] at oU
        refine ev_astore (pc' := 42) (ls' := [_, _, _, _, _, _]) dX6_owes_40 rfl rfl rfl ?_
        refine ev_aload (pc' := 44) dX6_owes_42 rfl rfl ?_
        refine ev_aload (pc' := 46) dX6_owes_44 rfl rfl ?_
        refine ev_iload_n (pc' := 47) dX6_owes_46 rfl rfl ?_
        refine ev_cVi1 (pc' := 50) cl_6_135 (oU) dX6_owes_47 rfl rfl rfl rfl ?_
        refine ev_iload_n (pc' := 51) dX6_owes_50 rfl rfl ?_
        refine ev_iload_n (pc' := 52) dX6_owes_51 rfl rfl ?_
        refine ev_cVi3 (pc' := 55) cl_6_138 (kD_debt _ _ _ _ _ 30 (Or.inl rfl) _ _ _) dX6_owes_52 rfl rfl rfl rfl ?_
        refine ev_ireturn rfl dX6_owes_55 ?_
        exact ⟨congrArg (fun t => some (Value.int t)) hv, σ', rfl, hI, hK⟩
      · have oU := kD_papersUpTo (d := d + 18) σ' la sp rl tx 40 (Or.inr rfl) (ml F c) hz z4 (nI b)
        rw [show kn_upTo (σ' 5) (σ' (40 + 3)) (nI b) (ml F c) 0 = (mlist F c b).length from hu] at oU
        refine ev_astore (pc' := 42) (ls' := [_, _, _, _, _, _]) dX6_owes_40 rfl rfl rfl ?_
        refine ev_aload (pc' := 44) dX6_owes_42 rfl rfl ?_
        refine ev_aload (pc' := 46) dX6_owes_44 rfl rfl ?_
        refine ev_iload_n (pc' := 47) dX6_owes_46 rfl rfl ?_
        refine ev_cVi1 (pc' := 50) cl_6_135 (oU) dX6_owes_47 rfl rfl rfl rfl ?_
        refine ev_iload_n (pc' := 51) dX6_owes_50 rfl rfl ?_
        refine ev_iload_n (pc' := 52) dX6_owes_51 rfl rfl ?_
        refine ev_cVi3 (pc' := 55) cl_6_138 (kD_debt _ _ _ _ _ 40 (Or.inr rfl) _ _ _) dX6_owes_52 rfl rfl rfl rfl ?_
        refine ev_ireturn rfl dX6_owes_55 ?_
        exact ⟨congrArg (fun t => some (Value.int t)) hv, σ', rfl, hI, hK⟩
    refine Ok.of (ls := [some _, some _, some _, some _, some _, none]) (by decide +kernel) (Nat.le_of_ble_eq_true rfl) rfl ?_
    refine ev_aload_n (pc' := 1) dX6_owes_0 rfl rfl ?_
    refine ev_iload_n (pc' := 2) dX6_owes_1 rfl rfl ?_
    refine ev_iload_n (pc' := 3) dX6_owes_2 rfl rfl ?_
    refine ev_cVi2 (pc' := 6) cl_6_115 (kD_isLeaf _ _ _ _ _ _ _) dX6_owes_3 rfl rfl rfl rfl ?_
    refine ev_if_eq (tgt := 32) (pc' := 9) dX6_owes_6 (by decide) rfl (fun h_6 => ?_) (fun h_6 => ?_)
    · exact absurd h_6 (by rw [g1]; decide) --
    · refine ev_aload_n (pc' := 10) dX6_owes_9 rfl rfl ?_
      refine ev_getf (pc' := 13) fl_6_12 dX6_owes_10 rfl rfl rfl ?_
      refine ev_iload_n (pc' := 14) dX6_owes_13 rfl rfl ?_
      refine ev_cVi1 (pc' := 17) cl_6_98 (kD_hasPerson _ _ _ _ _ _) dX6_owes_14 rfl rfl rfl rfl ?_
      refine ev_if_eq (tgt := 32) (pc' := 20) dX6_owes_17 (by decide) rfl (fun h_17 => ?_) (fun h_17 => ?_)
      · exact absurd h_17 (by rw [g3]; decide) --
      · refine ev_aload_n (pc' := 21) dX6_owes_20 rfl rfl ?_
        refine ev_getf (pc' := 24) fl_6_12 dX6_owes_21 rfl rfl rfl ?_
        refine ev_iload (pc' := 26) dX6_owes_24 rfl rfl ?_
        refine ev_cVi1 (pc' := 29) cl_6_118 (kD_hasFirst _ _ _ _ _ _) dX6_owes_26 rfl rfl rfl rfl ?_
        refine ev_if_ne (tgt := 34) (pc' := 32) dX6_owes_29 (by decide) rfl (fun h_29 => ?_) (fun h_29 => ?_)
        · refine ev_aload_n (pc' := 35) dX6_owes_34 rfl rfl ?_
          refine ev_iload (pc' := 37) dX6_owes_35 rfl rfl ?_
          refine ev_cVr1 (pc' := 40) cl_6_108 (kD_knownBy sp rl tx h c1) dX6_owes_37 rfl rfl rfl rfl ?_
          rintro v w1 ⟨kb, σ', hk, rfl, rfl, hI, hK, hG, -⟩ -
          exact kk kb σ' hk hI hK hG
        · exact absurd h_29 (by rw [g2]; decide) --
  · have e : S_owes F lv A P N p o y x = -1 := if_neg hg
    rw [e]
    refine Ok.of (ls := [some _, some _, some _, some _, some _, none]) (by decide +kernel) (Nat.le_of_ble_eq_true rfl) rfl ?_
    refine ev_aload_n (pc' := 1) dX6_owes_0 rfl rfl ?_
    refine ev_iload_n (pc' := 2) dX6_owes_1 rfl rfl ?_
    refine ev_iload_n (pc' := 3) dX6_owes_2 rfl rfl ?_
    refine ev_cVi2 (pc' := 6) cl_6_115 (kD_isLeaf _ _ _ _ _ _ _) dX6_owes_3 rfl rfl rfl rfl ?_
    refine ev_if_eq (tgt := 32) (pc' := 9) dX6_owes_6 (by decide) rfl (fun h_6 => ?_) (fun h_6 => ?_)
    · refine ev_iconst (pc' := 33) (v := -1) dX6_owes_32 rfl (by decide) ?_
      refine ev_ireturn rfl dX6_owes_33 ?_
      exact ⟨rfl, σ, rfl, h, dK.refl la σ⟩
    · have q1 := bI_1' h_6
      refine ev_aload_n (pc' := 10) dX6_owes_9 rfl rfl ?_
      refine ev_getf (pc' := 13) fl_6_12 dX6_owes_10 rfl rfl rfl ?_
      refine ev_iload_n (pc' := 14) dX6_owes_13 rfl rfl ?_
      refine ev_cVi1 (pc' := 17) cl_6_98 (kD_hasPerson _ _ _ _ _ _) dX6_owes_14 rfl rfl rfl rfl ?_
      refine ev_if_eq (tgt := 32) (pc' := 20) dX6_owes_17 (by decide) rfl (fun h_17 => ?_) (fun h_17 => ?_)
      · refine ev_iconst (pc' := 33) (v := -1) dX6_owes_32 rfl (by decide) ?_
        refine ev_ireturn rfl dX6_owes_33 ?_
        exact ⟨rfl, σ, rfl, h, dK.refl la σ⟩
      · have q2 := bI_1' h_17
        refine ev_aload_n (pc' := 21) dX6_owes_20 rfl rfl ?_
        refine ev_getf (pc' := 24) fl_6_12 dX6_owes_21 rfl rfl rfl ?_
        refine ev_iload (pc' := 26) dX6_owes_24 rfl rfl ?_
        refine ev_cVi1 (pc' := 29) cl_6_118 (kD_hasFirst _ _ _ _ _ _) dX6_owes_26 rfl rfl rfl rfl ?_
        refine ev_if_ne (tgt := 34) (pc' := 32) dX6_owes_29 (by decide) rfl (fun h_29 => ?_) (fun h_29 => ?_)
        · exact absurd ⟨by unfold gLeaf; rw [← h7, ← h8, q1, bI_1' h_29]; rfl, by rw [← h7]; exact q2⟩ hg --
        · refine ev_iconst (pc' := 33) (v := -1) dX6_owes_32 rfl (by decide) ?_
          refine ev_ireturn rfl dX6_owes_33 ?_
          exact ⟨rfl, σ, rfl, h, dK.refl la σ⟩
theorem d_net {d : Nat} {F : FF} {lv : Nat → Int32} {A : List YL} {P N r la : Nat} {σ : RS} (sp rl tx : Nat) (h : cI F lv A P N r la σ) (p y x : Int32) : Ok (d + 21) M6_net [.ref 0, .int p, .int y, .int x] (WD σ la sp rl tx) (qd F lv A P N r la σ sp rl tx (S_net F lv A P N p y x)) := by
  have hP := h.2.1.1
  have hN := h.2.1.2.1
  have h7 : σ 2 7 = nI P := h.2.2.1
  have h8 : σ 2 8 = nI N := h.2.2.2.1
  by_cases hg : gLeaf P N p y x = true
  · obtain ⟨a, b, c, a1, b1, c1, rfl, rfl, rfl⟩ := gLeaf_of hP hN hg
    have e : S_net F lv A P N (nI a) (nI b) (nI c) = sp_net (dU F lv A c b).2.2.1 a := by
      unfold S_net
      rw [if_pos hg]
      simp only [nt_nI (show a < 2 ^ 31 by omega), nt_nI (show b < 2 ^ 31 by omega), nt_nI (show c < 2 ^ 31 by omega)]
    rw [e]
    have g1 : (b_isPerson (σ 2 7) (nI a) && m_day (nI b)) = true := by rw [h7, isP_t hP a1, isD_t b1]; rfl
    have g2 : b_isFirst (σ 2 8) (nI c) = true := by rw [h8, isN_t hN c1]
    have kk : ∀ kb σ', kb_ok kb → cI F lv A P N r la σ' → dK la σ σ' → kGood F lv A c (dk kb 10 σ') → Ev (d + 21) M6_net (qd F lv A P N r la σ sp rl tx (sp_net (dU F lv A c b).2.2.1 a)) 27 [some (.ref 0), some (.int (nI a)), some (.int (nI b)), some (.int (nI c)), none, none] [.ref kb] (WD σ' la sp rl tx) := by
      intro kb σ' hk hI hK hG
      have hB := hI.KB c1 hG
      obtain ⟨z1, z2, z3, z4⟩ := hB.len
      have hz : ml F c ≤ 120 := by omega
      have hu := a_upTo hB b1
      have hv := a_net hB (show a < 8 by omega) b1
      rcases hk with rfl | rfl
      · have oU := kD_papersUpTo (d := d + 18) σ' la sp rl tx 30 (Or.inl rfl) (ml F c) hz z4 (nI b)
        rw [show kn_upTo (σ' 5) (σ' (30 + 3)) (nI b) (ml F c) 0 = (mlist F c b).length from hu] at oU
        refine ev_astore (pc' := 29) (ls' := [_, _, _, _, _, _]) dX6_net_27 rfl rfl rfl ?_
        refine ev_aload (pc' := 31) dX6_net_29 rfl rfl ?_
        refine ev_iload_n (pc' := 32) dX6_net_31 rfl rfl ?_
        refine ev_cVi1 (pc' := 35) cl_6_135 (oU) dX6_net_32 rfl rfl rfl rfl ?_
        refine ev_istore (pc' := 37) (ls' := [_, _, _, _, _, _]) dX6_net_35 rfl rfl rfl ?_
        refine ev_aload (pc' := 39) dX6_net_37 rfl rfl ?_
        refine ev_iload (pc' := 41) dX6_net_39 rfl rfl ?_
        refine ev_iload_n (pc' := 42) dX6_net_41 rfl rfl ?_
        refine ev_cVi2 (pc' := 45) cl_6_141 (kD_owedBy _ _ _ _ _ 30 (Or.inl rfl) _ _) dX6_net_42 rfl rfl rfl rfl ?_
        refine ev_aload (pc' := 47) dX6_net_45 rfl rfl ?_
        refine ev_iload (pc' := 49) dX6_net_47 rfl rfl ?_
        refine ev_iload_n (pc' := 50) dX6_net_49 rfl rfl ?_
        refine ev_cVi2 (pc' := 53) cl_6_144 (kD_owedTo _ _ _ _ _ 30 (Or.inl rfl) _ _) dX6_net_50 rfl rfl rfl rfl ?_
        refine ev_isub (pc' := 54) dX6_net_53 rfl ?_
        refine ev_ireturn rfl dX6_net_54 ?_
        exact ⟨congrArg (fun t => some (Value.int t)) hv, σ', rfl, hI, hK⟩
      · have oU := kD_papersUpTo (d := d + 18) σ' la sp rl tx 40 (Or.inr rfl) (ml F c) hz z4 (nI b)
        rw [show kn_upTo (σ' 5) (σ' (40 + 3)) (nI b) (ml F c) 0 = (mlist F c b).length from hu] at oU
        refine ev_astore (pc' := 29) (ls' := [_, _, _, _, _, _]) dX6_net_27 rfl rfl rfl ?_
        refine ev_aload (pc' := 31) dX6_net_29 rfl rfl ?_
        refine ev_iload_n (pc' := 32) dX6_net_31 rfl rfl ?_
        refine ev_cVi1 (pc' := 35) cl_6_135 (oU) dX6_net_32 rfl rfl rfl rfl ?_
        refine ev_istore (pc' := 37) (ls' := [_, _, _, _, _, _]) dX6_net_35 rfl rfl rfl ?_
        refine ev_aload (pc' := 39) dX6_net_37 rfl rfl ?_
        refine ev_iload (pc' := 41) dX6_net_39 rfl rfl ?_
        refine ev_iload_n (pc' := 42) dX6_net_41 rfl rfl ?_
        refine ev_cVi2 (pc' := 45) cl_6_141 (kD_owedBy _ _ _ _ _ 40 (Or.inr rfl) _ _) dX6_net_42 rfl rfl rfl rfl ?_
        refine ev_aload (pc' := 47) dX6_net_45 rfl rfl ?_
        refine ev_iload (pc' := 49) dX6_net_47 rfl rfl ?_
        refine ev_iload_n (pc' := 50) dX6_net_49 rfl rfl ?_
        refine ev_cVi2 (pc' := 53) cl_6_144 (kD_owedTo _ _ _ _ _ 40 (Or.inr rfl) _ _) dX6_net_50 rfl rfl rfl rfl ?_
        refine ev_isub (pc' := 54) dX6_net_53 rfl ?_
        refine ev_ireturn rfl dX6_net_54 ?_
        exact ⟨congrArg (fun t => some (Value.int t)) hv, σ', rfl, hI, hK⟩
    refine Ok.of (ls := [some _, some _, some _, some _, none, none]) (by decide +kernel) (Nat.le_of_ble_eq_true rfl) rfl ?_
    refine ev_aload_n (pc' := 1) dX6_net_0 rfl rfl ?_
    refine ev_iload_n (pc' := 2) dX6_net_1 rfl rfl ?_
    refine ev_iload_n (pc' := 3) dX6_net_2 rfl rfl ?_
    refine ev_cVi2 (pc' := 6) cl_6_115 (kD_isLeaf _ _ _ _ _ _ _) dX6_net_3 rfl rfl rfl rfl ?_
    refine ev_if_eq (tgt := 20) (pc' := 9) dX6_net_6 (by decide) rfl (fun h_6 => ?_) (fun h_6 => ?_)
    · exact absurd h_6 (by rw [g1]; decide) --
    · refine ev_aload_n (pc' := 10) dX6_net_9 rfl rfl ?_
      refine ev_getf (pc' := 13) fl_6_12 dX6_net_10 rfl rfl rfl ?_
      refine ev_iload_n (pc' := 14) dX6_net_13 rfl rfl ?_
      refine ev_cVi1 (pc' := 17) cl_6_118 (kD_hasFirst _ _ _ _ _ _) dX6_net_14 rfl rfl rfl rfl ?_
      refine ev_if_ne (tgt := 22) (pc' := 20) dX6_net_17 (by decide) rfl (fun h_17 => ?_) (fun h_17 => ?_)
      · refine ev_aload_n (pc' := 23) dX6_net_22 rfl rfl ?_
        refine ev_iload_n (pc' := 24) dX6_net_23 rfl rfl ?_
        refine ev_cVr1 (pc' := 27) cl_6_108 (kD_knownBy sp rl tx h c1) dX6_net_24 rfl rfl rfl rfl ?_
        rintro v w1 ⟨kb, σ', hk, rfl, rfl, hI, hK, hG, -⟩ -
        exact kk kb σ' hk hI hK hG
      · exact absurd h_17 (by rw [g2]; decide) --
  · have e : S_net F lv A P N p y x = 0 := if_neg hg
    rw [e]
    refine Ok.of (ls := [some _, some _, some _, some _, none, none]) (by decide +kernel) (Nat.le_of_ble_eq_true rfl) rfl ?_
    refine ev_aload_n (pc' := 1) dX6_net_0 rfl rfl ?_
    refine ev_iload_n (pc' := 2) dX6_net_1 rfl rfl ?_
    refine ev_iload_n (pc' := 3) dX6_net_2 rfl rfl ?_
    refine ev_cVi2 (pc' := 6) cl_6_115 (kD_isLeaf _ _ _ _ _ _ _) dX6_net_3 rfl rfl rfl rfl ?_
    refine ev_if_eq (tgt := 20) (pc' := 9) dX6_net_6 (by decide) rfl (fun h_6 => ?_) (fun h_6 => ?_)
    · refine ev_iconst (pc' := 21) (v := 0) dX6_net_20 rfl (by decide) ?_
      refine ev_ireturn rfl dX6_net_21 ?_
      exact ⟨rfl, σ, rfl, h, dK.refl la σ⟩
    · have q1 := bI_1' h_6
      refine ev_aload_n (pc' := 10) dX6_net_9 rfl rfl ?_
      refine ev_getf (pc' := 13) fl_6_12 dX6_net_10 rfl rfl rfl ?_
      refine ev_iload_n (pc' := 14) dX6_net_13 rfl rfl ?_
      refine ev_cVi1 (pc' := 17) cl_6_118 (kD_hasFirst _ _ _ _ _ _) dX6_net_14 rfl rfl rfl rfl ?_
      refine ev_if_ne (tgt := 22) (pc' := 20) dX6_net_17 (by decide) rfl (fun h_17 => ?_) (fun h_17 => ?_)
      · exact absurd (by unfold gLeaf; rw [← h7, ← h8, q1, bI_1' h_17]; rfl) hg --
      · refine ev_iconst (pc' := 21) (v := 0) dX6_net_20 rfl (by decide) ?_
        refine ev_ireturn rfl dX6_net_21 ?_
        exact ⟨rfl, σ, rfl, h, dK.refl la σ⟩
theorem d_ring {d : Nat} {F : FF} {lv : Nat → Int32} {A : List YL} {P N r la : Nat} {σ : RS} (sp rl tx : Nat) (h : cI F lv A P N r la σ) (y x i : Int32) : Ok (d + 21) M6_ring [.ref 0, .int y, .int x, .int i] (WD σ la sp rl tx) (qd F lv A P N r la σ sp rl tx (S_ring F lv A N y x i)) := by
  have hP := h.2.1.1
  have hN := h.2.1.2.1
  have h7 : σ 2 7 = nI P := h.2.2.1
  have h8 : σ 2 8 = nI N := h.2.2.2.1
  by_cases hg : gDay N y x = true
  · obtain ⟨b, c, b1, c1, rfl, rfl⟩ := gDay_of hN hg
    have e : S_ring F lv A N (nI b) (nI c) i = sp_ring (dU F lv A c b).2.2.1 i := by
      unfold S_ring
      rw [if_pos hg]
      simp only [nt_nI (show b < 2 ^ 31 by omega), nt_nI (show c < 2 ^ 31 by omega)]
    rw [e]
    have g1 : m_day (nI b) = true := isD_t b1
    have g2 : b_isFirst (σ 2 8) (nI c) = true := by rw [h8, isN_t hN c1]
    have kk : ∀ kb σ', kb_ok kb → cI F lv A P N r la σ' → dK la σ σ' → kGood F lv A c (dk kb 10 σ') → Ev (d + 21) M6_ring (qd F lv A P N r la σ sp rl tx (sp_ring (dU F lv A c b).2.2.1 i)) 23 [some (.ref 0), some (.int (nI b)), some (.int (nI c)), some (.int i)] [.ref kb] (WD σ' la sp rl tx) := by
      intro kb σ' hk hI hK hG
      have hB := hI.KB c1 hG
      obtain ⟨z1, z2, z3, z4⟩ := hB.len
      have hz : ml F c ≤ 120 := by omega
      have hu := a_upTo hB b1
      have hv := a_ring hB b1 i
      obtain ⟨r1, r2⟩ := cI_ring hI hk (mlist F c b).length
      obtain ⟨k1, k2⟩ := dRing_link (u := (mlist F c b).length) hk σ'
      rw [← k1, ← k2] at hv
      rcases hk with rfl | rfl
      · have oU := kD_firstRing (d := d + 3) σ' la sp rl tx 30 (Or.inl rfl) (ml F c) hz z4 (nI b)
        rw [show kn_upTo (σ' 5) (σ' (30 + 3)) (nI b) (ml F c) 0 = (mlist F c b).length from hu] at oU
        generalize dRing 30 (mlist F c b).length σ' = σ2 at *
        refine ev_iload_n (pc' := 24) dX6_ring_23 rfl rfl ?_
        refine ev_cVr1 (pc' := 27) cl_6_147 (oU) dX6_ring_24 rfl rfl rfl rfl ?_
        rintro v w1 ⟨rfl, rfl⟩ -
        refine ev_iload_n (pc' := 28) dX6_ring_27 rfl rfl ?_
        refine ev_cVi1 (pc' := 31) cl_6_151 (kD_link _ _ _ _ _ _) dX6_ring_28 rfl rfl rfl rfl ?_
        refine ev_goto (tgt := 35) dX6_ring_31 (by decide) ?_
        refine ev_ireturn rfl dX6_ring_35 ?_
        exact ⟨congrArg (fun t => some (Value.int t)) hv, σ2, rfl, r1, hK.trans r2⟩
      · have oU := kD_firstRing (d := d + 3) σ' la sp rl tx 40 (Or.inr rfl) (ml F c) hz z4 (nI b)
        rw [show kn_upTo (σ' 5) (σ' (40 + 3)) (nI b) (ml F c) 0 = (mlist F c b).length from hu] at oU
        generalize dRing 40 (mlist F c b).length σ' = σ2 at *
        refine ev_iload_n (pc' := 24) dX6_ring_23 rfl rfl ?_
        refine ev_cVr1 (pc' := 27) cl_6_147 (oU) dX6_ring_24 rfl rfl rfl rfl ?_
        rintro v w1 ⟨rfl, rfl⟩ -
        refine ev_iload_n (pc' := 28) dX6_ring_27 rfl rfl ?_
        refine ev_cVi1 (pc' := 31) cl_6_151 (kD_link _ _ _ _ _ _) dX6_ring_28 rfl rfl rfl rfl ?_
        refine ev_goto (tgt := 35) dX6_ring_31 (by decide) ?_
        refine ev_ireturn rfl dX6_ring_35 ?_
        exact ⟨congrArg (fun t => some (Value.int t)) hv, σ2, rfl, r1, hK.trans r2⟩
    refine Ok.of (ls := [some _, some _, some _, some _]) (by decide +kernel) (Nat.le_of_ble_eq_true rfl) rfl ?_
    refine ev_iload_n (pc' := 1) dX6_ring_0 rfl rfl ?_
    refine ev_cSi1 (pc' := 4) cl_6_88 (kD_isDay _ _) dX6_ring_1 rfl rfl ?_
    refine ev_if_eq (tgt := 34) (pc' := 7) dX6_ring_4 (by decide) rfl (fun h_4 => ?_) (fun h_4 => ?_)
    · exact absurd h_4 (by rw [g1]; decide) --
    · refine ev_aload_n (pc' := 8) dX6_ring_7 rfl rfl ?_
      refine ev_getf (pc' := 11) fl_6_12 dX6_ring_8 rfl rfl rfl ?_
      refine ev_iload_n (pc' := 12) dX6_ring_11 rfl rfl ?_
      refine ev_cVi1 (pc' := 15) cl_6_118 (kD_hasFirst _ _ _ _ _ _) dX6_ring_12 rfl rfl rfl rfl ?_
      refine ev_if_eq (tgt := 34) (pc' := 18) dX6_ring_15 (by decide) rfl (fun h_15 => ?_) (fun h_15 => ?_)
      · exact absurd h_15 (by rw [g2]; decide) --
      · refine ev_aload_n (pc' := 19) dX6_ring_18 rfl rfl ?_
        refine ev_iload_n (pc' := 20) dX6_ring_19 rfl rfl ?_
        refine ev_cVr1 (pc' := 23) cl_6_108 (kD_knownBy sp rl tx h c1) dX6_ring_20 rfl rfl rfl rfl ?_
        rintro v w1 ⟨kb, σ', hk, rfl, rfl, hI, hK, hG, -⟩ -
        exact kk kb σ' hk hI hK hG
  · have e : S_ring F lv A N y x i = -1 := if_neg hg
    rw [e]
    refine Ok.of (ls := [some _, some _, some _, some _]) (by decide +kernel) (Nat.le_of_ble_eq_true rfl) rfl ?_
    refine ev_iload_n (pc' := 1) dX6_ring_0 rfl rfl ?_
    refine ev_cSi1 (pc' := 4) cl_6_88 (kD_isDay _ _) dX6_ring_1 rfl rfl ?_
    refine ev_if_eq (tgt := 34) (pc' := 7) dX6_ring_4 (by decide) rfl (fun h_4 => ?_) (fun h_4 => ?_)
    · refine ev_iconst (pc' := 35) (v := -1) dX6_ring_34 rfl (by decide) ?_
      refine ev_ireturn rfl dX6_ring_35 ?_
      exact ⟨rfl, σ, rfl, h, dK.refl la σ⟩
    · have q1 := bI_1' h_4
      refine ev_aload_n (pc' := 8) dX6_ring_7 rfl rfl ?_
      refine ev_getf (pc' := 11) fl_6_12 dX6_ring_8 rfl rfl rfl ?_
      refine ev_iload_n (pc' := 12) dX6_ring_11 rfl rfl ?_
      refine ev_cVi1 (pc' := 15) cl_6_118 (kD_hasFirst _ _ _ _ _ _) dX6_ring_12 rfl rfl rfl rfl ?_
      refine ev_if_eq (tgt := 34) (pc' := 18) dX6_ring_15 (by decide) rfl (fun h_15 => ?_) (fun h_15 => ?_)
      · refine ev_iconst (pc' := 35) (v := -1) dX6_ring_34 rfl (by decide) ?_
        refine ev_ireturn rfl dX6_ring_35 ?_
        exact ⟨rfl, σ, rfl, h, dK.refl la σ⟩
      · exact absurd (by unfold gDay; rw [← h8, q1, bI_1' h_15]; rfl) hg --
theorem d_leaves {d : Nat} {F : FF} {lv : Nat → Int32} {A : List YL} {P N r la : Nat} {σ : RS} (sp rl tx : Nat) (h : cI F lv A P N r la σ) (y x : Int32) : Ok (d + 21) M6_leaves [.ref 0, .int y, .int x] (WD σ la sp rl tx) (qd F lv A P N r la σ sp rl tx (S_leaves F lv A N y x)) := by
  have hP := h.2.1.1
  have hN := h.2.1.2.1
  have h7 : σ 2 7 = nI P := h.2.2.1
  have h8 : σ 2 8 = nI N := h.2.2.2.1
  by_cases hg : gDay N y x = true
  · obtain ⟨b, c, b1, c1, rfl, rfl⟩ := gDay_of hN hg
    have e : S_leaves F lv A N (nI b) (nI c) = sumTo (mtS 64 (dU F lv A c b).2.2.1) 64 := by
      unfold S_leaves
      rw [if_pos hg]
      simp only [nt_nI (show b < 2 ^ 31 by omega), nt_nI (show c < 2 ^ 31 by omega)]
    rw [e]
    have g1 : m_day (nI b) = true := isD_t b1
    have g2 : b_isFirst (σ 2 8) (nI c) = true := by rw [h8, isN_t hN c1]
    have kk : ∀ kb σ', kb_ok kb → cI F lv A P N r la σ' → dK la σ σ' → kGood F lv A c (dk kb 10 σ') → Ev (d + 21) M6_leaves (qd F lv A P N r la σ sp rl tx (sumTo (mtS 64 (dU F lv A c b).2.2.1) 64)) 23 [some (.ref 0), some (.int (nI b)), some (.int (nI c))] [.ref kb] (WD σ' la sp rl tx) := by
      intro kb σ' hk hI hK hG
      have hB := hI.KB c1 hG
      obtain ⟨z1, z2, z3, z4⟩ := hB.len
      have hz : ml F c ≤ 120 := by omega
      have hu := a_upTo hB b1
      have hv := a_left hB b1
      obtain ⟨r1, r2⟩ := cI_met hI hk (mlist F c b).length
      rcases hk with rfl | rfl
      · have oU := kD_leftByMeeting (d := d + 2) σ' la sp rl tx 30 (Or.inl rfl) (ml F c) hz z4 (nI b)
        rw [show kn_upTo (σ' 5) (σ' (30 + 3)) (nI b) (ml F c) 0 = (mlist F c b).length from hu, hv] at oU
        generalize dMet 30 (mlist F c b).length σ' = σ2 at *
        refine ev_iload_n (pc' := 24) dX6_leaves_23 rfl rfl ?_
        refine ev_cVi1 (pc' := 27) cl_6_154 (oU) dX6_leaves_24 rfl rfl rfl rfl ?_
        refine ev_goto (tgt := 31) dX6_leaves_27 (by decide) ?_
        refine ev_ireturn rfl dX6_leaves_31 ?_
        exact ⟨rfl, σ2, rfl, r1, hK.trans r2⟩
      · have oU := kD_leftByMeeting (d := d + 2) σ' la sp rl tx 40 (Or.inr rfl) (ml F c) hz z4 (nI b)
        rw [show kn_upTo (σ' 5) (σ' (40 + 3)) (nI b) (ml F c) 0 = (mlist F c b).length from hu, hv] at oU
        generalize dMet 40 (mlist F c b).length σ' = σ2 at *
        refine ev_iload_n (pc' := 24) dX6_leaves_23 rfl rfl ?_
        refine ev_cVi1 (pc' := 27) cl_6_154 (oU) dX6_leaves_24 rfl rfl rfl rfl ?_
        refine ev_goto (tgt := 31) dX6_leaves_27 (by decide) ?_
        refine ev_ireturn rfl dX6_leaves_31 ?_
        exact ⟨rfl, σ2, rfl, r1, hK.trans r2⟩
    refine Ok.of (ls := [some _, some _, some _]) (by decide +kernel) (Nat.le_of_ble_eq_true rfl) rfl ?_
    refine ev_iload_n (pc' := 1) dX6_leaves_0 rfl rfl ?_
    refine ev_cSi1 (pc' := 4) cl_6_88 (kD_isDay _ _) dX6_leaves_1 rfl rfl ?_
    refine ev_if_eq (tgt := 30) (pc' := 7) dX6_leaves_4 (by decide) rfl (fun h_4 => ?_) (fun h_4 => ?_)
    · exact absurd h_4 (by rw [g1]; decide) --
    · refine ev_aload_n (pc' := 8) dX6_leaves_7 rfl rfl ?_
      refine ev_getf (pc' := 11) fl_6_12 dX6_leaves_8 rfl rfl rfl ?_
      refine ev_iload_n (pc' := 12) dX6_leaves_11 rfl rfl ?_
      refine ev_cVi1 (pc' := 15) cl_6_118 (kD_hasFirst _ _ _ _ _ _) dX6_leaves_12 rfl rfl rfl rfl ?_
      refine ev_if_eq (tgt := 30) (pc' := 18) dX6_leaves_15 (by decide) rfl (fun h_15 => ?_) (fun h_15 => ?_)
      · exact absurd h_15 (by rw [g2]; decide) --
      · refine ev_aload_n (pc' := 19) dX6_leaves_18 rfl rfl ?_
        refine ev_iload_n (pc' := 20) dX6_leaves_19 rfl rfl ?_
        refine ev_cVr1 (pc' := 23) cl_6_108 (kD_knownBy sp rl tx h c1) dX6_leaves_20 rfl rfl rfl rfl ?_
        rintro v w1 ⟨kb, σ', hk, rfl, rfl, hI, hK, hG, -⟩ -
        exact kk kb σ' hk hI hK hG
  · have e : S_leaves F lv A N y x = -1 := if_neg hg
    rw [e]
    refine Ok.of (ls := [some _, some _, some _]) (by decide +kernel) (Nat.le_of_ble_eq_true rfl) rfl ?_
    refine ev_iload_n (pc' := 1) dX6_leaves_0 rfl rfl ?_
    refine ev_cSi1 (pc' := 4) cl_6_88 (kD_isDay _ _) dX6_leaves_1 rfl rfl ?_
    refine ev_if_eq (tgt := 30) (pc' := 7) dX6_leaves_4 (by decide) rfl (fun h_4 => ?_) (fun h_4 => ?_)
    · refine ev_iconst (pc' := 31) (v := -1) dX6_leaves_30 rfl (by decide) ?_
      refine ev_ireturn rfl dX6_leaves_31 ?_
      exact ⟨rfl, σ, rfl, h, dK.refl la σ⟩
    · have q1 := bI_1' h_4
      refine ev_aload_n (pc' := 8) dX6_leaves_7 rfl rfl ?_
      refine ev_getf (pc' := 11) fl_6_12 dX6_leaves_8 rfl rfl rfl ?_
      refine ev_iload_n (pc' := 12) dX6_leaves_11 rfl rfl ?_
      refine ev_cVi1 (pc' := 15) cl_6_118 (kD_hasFirst _ _ _ _ _ _) dX6_leaves_12 rfl rfl rfl rfl ?_
      refine ev_if_eq (tgt := 30) (pc' := 18) dX6_leaves_15 (by decide) rfl (fun h_15 => ?_) (fun h_15 => ?_)
      · refine ev_iconst (pc' := 31) (v := -1) dX6_leaves_30 rfl (by decide) ?_
        refine ev_ireturn rfl dX6_leaves_31 ?_
        exact ⟨rfl, σ, rfl, h, dK.refl la σ⟩
      · exact absurd (by unfold gDay; rw [← h8, q1, bI_1' h_15]; rfl) hg --
