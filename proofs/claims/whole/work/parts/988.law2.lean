/-! The law's loop. -/
theorem law_step {X : GX} {a0 : Nat → Nat} {bb L : Nat} {xs : Nat → Int32} {kc ks i : Nat} {F : FF} {lv : Nat → Int32} {A : List YL} {P N r la sp b T : Nat} {σ σm : RS} {τ : TS} (E : lawE X a0 bb L xs) (hi : i + 5 < L) (hc : kc ≤ 600000 ∧ ks ≤ 7302250) (rl tx : Nat) (I : LInv i F lv A P N r la sp b T σ σm τ) (K : NXT i (fun w => GEv X MLaw 0 a0 kc ks 1146 (lsL i) [] w)) : GEv X MLaw 0 a0 kc ks 27 (lsL i) [] (LW σ la sp rl tx σm τ) := by
  have hL := E.2.2.2.2.2.2
  obtain ⟨n, hn, e⟩ := pk_andE (xs i) (m := 31) 5 (by decide)
  refine g_aload_n (pc' := 28) E.1 dL_law_27 rfl rfl ?_
  refine g_iload_n (pc' := 29) E.1 dL_law_28 rfl rfl ?_
  refine g_sld (pc' := 30) E (vp_in_nI (by omega) (by omega)) dL_law_29 rfl ?_
  rw [nI_clamp (by omega)]
  refine g_bipush (pc' := 32) (v := 31) E.1 dL_law_30 rfl (by decide) ?_
  refine g_iand (pc' := 33) E.1 dL_law_32 rfl ?_
  rw [e]
  obtain ⟨hI, h2L, hp, ⟨⟨t1, t2, t3⟩, hT⟩, hpl, ⟨hB, hC⟩, hk, hr⟩ := id I
  obtain ⟨f, R, hR⟩ := ym_run_ex T (σ 1) T 0 ym_0 (Nat.zero_le T) (Nat.sub_le T 0)
  have hRm : ym_run T (fun j => σm 1 j &&& 255) f 0 ym_0 = some R := (ym_run_congr t3 f 0 ym_0).symm.trans hR
  have htp : ∀ j, j < T → ¬ σ 1 j = -1 := fun j hj h => by
    rw [t3 j hj] at h
    obtain ⟨q, q1, q2⟩ := pk_andE (σm 1 j) (m := 255) 8 (by decide)
    rw [q2] at h
    exact absurd (nI_pos (n := q) (by omega)) (by rw [h]; decide)
  have hcm := m_count' (d := 15) τ hB hC (xs (i + 1))
  rw [show σm 0 2 = σ 0 2 from t2.trans t1.symm] at hcm
  by_cases h26 : n < 26
  · rcases (show n = 0 ∨ n = 1 ∨ n = 2 ∨ n = 3 ∨ n = 4 ∨ n = 5 ∨ n = 6 ∨ n = 7 ∨ n = 8 ∨ n = 9 ∨ n = 10 ∨ n = 11 ∨ n = 12 ∨ n = 13 ∨ n = 14 ∨ n = 15 ∨ n = 16 ∨ n = 17 ∨ n = 18 ∨ n = 19 ∨ n = 20 ∨ n = 21 ∨ n = 22 ∨ n = 23 ∨ n = 24 ∨ n = 25 by omega) with rfl | rfl | rfl | rfl | rfl | rfl | rfl | rfl | rfl | rfl | rfl | rfl | rfl | rfl | rfl | rfl | rfl | rfl | rfl | rfl | rfl | rfl | rfl | rfl | rfl | rfl
    · refine g_tableIn (off := 119) (tgt := 152) E.1 dL_law_33 (by decide) (by decide) rfl (by decide) ?_
      exact lc_0 E hi hc rfl rfl (d_feed (d := 19) σ la sp rl tx T hT t1 _ _ _ _ _) (m_feed (d := 20) σm τ T hT t2 _ _ _ _ _) (fin_feed rl tx I K _ _ _ _ _)
    · refine g_tableIn (off := 182) (tgt := 215) E.1 dL_law_33 (by decide) (by decide) rfl (by decide) ?_
      exact lc_1 E hi hc rfl rfl (d_back (d := 21) σ la sp rl tx _) (m_back (d := 21) σm τ _) (fin_back rl tx I K _)
    · refine g_tableIn (off := 205) (tgt := 238) E.1 dL_law_33 (by decide) (by decide) rfl (by decide) ?_
      exact lc_2 E hi hc rfl rfl (d_read (d := 13) rl tx hI h2L (by omega) T f R hT t1 htp hR) (m_read' (d := 14) τ hB hC hk T f R hT t2 hRm) (fin_r rl tx I K R)
    · refine g_tableIn (off := 218) (tgt := 251) E.1 dL_law_33 (by decide) (by decide) rfl (by decide) ?_
      exact lc_3 E hi hc rfl rfl (d_place (d := 21) σ la sp rl tx) (m_place (d := 21) σm τ) (fin_place rl tx I K)
    · refine g_tableIn (off := 231) (tgt := 264) E.1 dL_law_33 (by decide) (by decide) rfl (by decide) ?_
      exact lc_4 E hi hc rfl rfl (d_person (d := 18) sp rl tx hI _) (m_person' (d := 15) τ hB hC _) (fin_p rl tx I K _)
    · refine g_tableIn (off := 254) (tgt := 287) E.1 dL_law_33 (by decide) (by decide) rfl (by decide) ?_
      exact lc_5 E hi hc rfl rfl (d_loan (d := 18) sp rl tx hI hp _ _ _ _ _) (m_loan' (d := 15) τ hB hC _ _ _ _ _) (fin_t rl tx I K _)
    · refine g_tableIn (off := 317) (tgt := 350) E.1 dL_law_33 (by decide) (by decide) rfl (by decide) ?_
      exact lc_6 E hi hc rfl rfl (d_pays (d := 18) sp rl tx hI hp _ _ _ _ _) (m_pays' (d := 15) τ hB hC _ _ _ _ _) (fin_t rl tx I K _)
    · refine g_tableIn (off := 380) (tgt := 413) E.1 dL_law_33 (by decide) (by decide) rfl (by decide) ?_
      exact lc_7 E hi hc rfl rfl (d_meeting (d := 18) sp rl tx hI hp _) (m_meeting' (d := 15) τ hB hC _) (fin_t rl tx I K _)
    · refine g_tableIn (off := 403) (tgt := 436) E.1 dL_law_33 (by decide) (by decide) rfl (by decide) ?_
      exact lc_8 E hi hc rfl rfl (d_forged (d := 18) sp rl tx hI hp _) (m_forged' (d := 15) τ hB hC _) (fin_t rl tx I K _)
    · refine g_tableIn (off := 426) (tgt := 459) E.1 dL_law_33 (by decide) (by decide) rfl (by decide) ?_
      exact lc_9 E hi hc rfl rfl (d_feast (d := 18) sp rl tx hI hp _ _) (m_feast' (d := 15) τ hB hC _ _) (fin_t rl tx I K _)
    · refine g_tableIn (off := 475) (tgt := 508) E.1 dL_law_33 (by decide) (by decide) rfl (by decide) ?_
      exact lc_10 E hi hc rfl rfl (d_seen (d := 18) sp rl tx hI hp _ _ _ _) (m_seen' (d := 15) τ hB hC _ _ _ _) (fin_t rl tx I K _)
    · refine g_tableIn (off := 528) (tgt := 561) E.1 dL_law_33 (by decide) (by decide) rfl (by decide) ?_
      exact lc_11 E hi hc rfl rfl (d_isVoid (d := 0) sp rl tx hI _ _) (m_isVoid' (d := 15) τ hB hC _ _) (fin_q rl tx I K _)
    · refine g_tableIn (off := 561) (tgt := 594) E.1 dL_law_33 (by decide) (by decide) rfl (by decide) ?_
      exact lc_12 E hi hc rfl rfl (d_holder (d := 0) sp rl tx hI _ _ _) (m_holder' (d := 15) τ hB hC _ _ _) (fin_q rl tx I K _)
    · refine g_tableIn (off := 604) (tgt := 637) E.1 dL_law_33 (by decide) (by decide) rfl (by decide) ?_
      exact lc_13 E hi hc rfl rfl (d_chain (d := 0) sp rl tx hI _ _ _ _) (m_chain' (d := 15) τ hB hC _ _ _ _) (fin_q rl tx I K _)
    · refine g_tableIn (off := 657) (tgt := 690) E.1 dL_law_33 (by decide) (by decide) rfl (by decide) ?_
      exact lc_14 E hi hc rfl rfl (d_awake (d := 0) sp rl tx hI _ _ _) (m_awake' (d := 15) τ hB hC _ _ _) (fin_q rl tx I K _)
    · refine g_tableIn (off := 700) (tgt := 733) E.1 dL_law_33 (by decide) (by decide) rfl (by decide) ?_
      exact lc_15 E hi hc rfl rfl (d_age (d := 0) sp rl tx hI _ _ _) (m_age' (d := 15) τ hB hC _ _ _) (fin_q rl tx I K _)
    · refine g_tableIn (off := 743) (tgt := 776) E.1 dL_law_33 (by decide) (by decide) rfl (by decide) ?_
      exact lc_16 E hi hc rfl rfl (d_owes (d := 0) sp rl tx hI _ _ _ _) (m_owes' (d := 15) τ hB hC _ _ _ _) (fin_q rl tx I K _)
    · refine g_tableIn (off := 796) (tgt := 829) E.1 dL_law_33 (by decide) (by decide) rfl (by decide) ?_
      exact lc_17 E hi hc rfl rfl (d_net (d := 0) sp rl tx hI _ _ _) (m_net' (d := 15) τ hB hC _ _ _) (fin_q rl tx I K _)
    · refine g_tableIn (off := 839) (tgt := 872) E.1 dL_law_33 (by decide) (by decide) rfl (by decide) ?_
      exact lc_18 E hi hc rfl rfl (d_ring (d := 0) sp rl tx hI _ _ _) (m_ring' (d := 15) τ hB hC _ _ _) (fin_q rl tx I K _)
    · refine g_tableIn (off := 882) (tgt := 915) E.1 dL_law_33 (by decide) (by decide) rfl (by decide) ?_
      exact lc_19 E hi hc rfl rfl (d_leaves (d := 0) sp rl tx hI _ _) (m_leaves' (d := 15) τ hB hC _ _) (fin_q rl tx I K _)
    · refine g_tableIn (off := 915) (tgt := 948) E.1 dL_law_33 (by decide) (by decide) rfl (by decide) ?_
      exact lc_20 E hi hc rfl rfl (d_grows (d := 0) sp rl tx hI _ _) (m_grows' (d := 15) τ hB hC _ _) (fin_q rl tx I K _)
    · refine g_tableIn (off := 948) (tgt := 981) E.1 dL_law_33 (by decide) (by decide) rfl (by decide) ?_
      exact lc_21 E hi hc rfl rfl (d_ban (d := 0) sp rl tx hI _ _) (m_ban' (d := 15) τ hB hC _ _) (fin_q rl tx I K _)
    · refine g_tableIn (off := 981) (tgt := 1014) E.1 dL_law_33 (by decide) (by decide) rfl (by decide) ?_
      exact lc_22 E hi hc rfl rfl (d_counts (d := 0) sp rl tx hI _ _) (m_counts' (d := 15) τ hB hC _ _) (fin_q rl tx I K _)
    · refine g_tableIn (off := 1014) (tgt := 1047) E.1 dL_law_33 (by decide) (by decide) rfl (by decide) ?_
      exact lc_23 E hi hc rfl rfl (d_doer (d := 0) sp rl tx hI _ _ _) (m_doer' (d := 15) τ hB hC _ _ _) (fin_q rl tx I K _)
    · refine g_tableIn (off := 1057) (tgt := 1090) E.1 dL_law_33 (by decide) (by decide) rfl (by decide) ?_
      exact lc_24 E hi hc rfl rfl (d_turned (d := 0) sp rl tx hI _ _) (m_turned' (d := 15) τ hB hC _ _) (fin_q rl tx I K _)
    · refine g_tableIn (off := 1090) (tgt := 1123) E.1 dL_law_33 (by decide) (by decide) rfl (by decide) ?_
      exact lc_25 E hi hc rfl rfl (d_count (d := 0) sp rl tx hI hp _) (hcm) (fin_q rl tx I K _)
  · refine g_tableOut (tgt := 1146) E.1 dL_law_33 (Or.inr ?_) (by decide) (K F lv A P N r la sp rl tx b T σ σm τ I.next)
    have := (nI_ltI (a := 25) (b := n) (by omega) (by omega)).mpr (by omega)
    exact (fa_lt _ _).mp this
theorem law_gt {L i : Nat} (hL : L ≤ 3072) (hi : i ≤ 4000) : (nI L - 6 < nI i) ↔ L < i + 6 := by
  by_cases h : L < 6
  · have h0 : nI L - 6 < 0 := by
      rcases (show L = 0 ∨ L = 1 ∨ L = 2 ∨ L = 3 ∨ L = 4 ∨ L = 5 by omega) with rfl | rfl | rfl | rfl | rfl | rfl <;> decide
    have h1 := nI_pos' (n := i) (by omega)
    have h2 : nI L - 6 < nI i := by
      simp only [fa_lt, fa_le] at *
      omega
    exact ⟨fun _ => by omega, fun _ => h2⟩
  · have e : nI L - 6 = nI (L - 6) := nI_sub (a := L) (b := 6) (by omega)
    rw [e, nI_ltI (by omega) (by omega)]
    omega
theorem law_loop {X : GX} {a0 : Nat → Nat} {bb L : Nat} {xs : Nat → Int32} {kc ks : Nat} (E : lawE X a0 bb L xs) (hc : kc ≤ 600000 ∧ ks ≤ 7302250) (hex : ∀ i w, GEv X MLaw 0 a0 kc ks 1152 (lsL i) [] w) : ∀ (c i : Nat) (F : FF) (lv : Nat → Int32) (A : List YL) (P N r la sp rl tx b T : Nat) (σ σm : RS) (τ : TS), L + 1 ≤ i + c → i ≤ L + 6 → LInv i F lv A P N r la sp b T σ σm τ → GEv X MLaw 0 a0 kc ks 18 (lsL i) [] (LW σ la sp rl tx σm τ) := by
  have hL := E.2.2.2.2.2.2
  intro c
  induction c with
  | zero =>
    intro i F lv A P N r la sp rl tx b T σ σm τ h1 h2 I
    refine g_iload_n (pc' := 19) E.1 dL_law_18 rfl rfl ?_
    refine g_aload_n (pc' := 20) E.1 dL_law_19 rfl rfl ?_
    refine g_slen (pc' := 21) E dL_law_20 rfl ?_
    refine g_bipush (pc' := 23) (v := 6) E.1 dL_law_21 rfl (by decide) ?_
    refine g_isub (pc' := 24) E.1 dL_law_23 rfl ?_
    exact g_icmp_gt (pc' := 27) (tgt := 1152) E.1 dL_law_24 (by decide) rfl (fun _ => hex i _) (fun h => absurd ((law_gt hL (by omega)).mpr (by omega)) h)
  | succ c ih =>
    intro i F lv A P N r la sp rl tx b T σ σm τ h1 h2 I
    refine g_iload_n (pc' := 19) E.1 dL_law_18 rfl rfl ?_
    refine g_aload_n (pc' := 20) E.1 dL_law_19 rfl rfl ?_
    refine g_slen (pc' := 21) E dL_law_20 rfl ?_
    refine g_bipush (pc' := 23) (v := 6) E.1 dL_law_21 rfl (by decide) ?_
    refine g_isub (pc' := 24) E.1 dL_law_23 rfl ?_
    refine g_icmp_gt (pc' := 27) (tgt := 1152) E.1 dL_law_24 (by decide) rfl (fun _ => hex i _) (fun h => ?_)
    have hlt : i + 6 ≤ L := by
      rcases Nat.lt_or_ge L (i + 6) with q | q
      · exact absurd ((law_gt hL (by omega)).mpr q) h
      · exact q
    refine law_step E (by omega) hc rl tx I (fun F' lv' A' P' N' r' la' sp' rl' tx' b' T' σ' σm' τ' I' => ?_)
    refine g_iinc (pc' := 1149) (x := nI i) (v := nI (i + 6)) (ls' := lsL (i + 6)) E.1 dL_law_1146 rfl rfl rfl (nI_add i 6) rfl ?_
    refine g_goto (tgt := 18) E.1 dL_law_1149 (by decide) ?_
    exact ih (i + 6) F' lv' A' P' N' r' la' sp' rl' tx' b' T' σ' σm' τ' (by omega) (by omega) I'
