/-! The class answers (class 6): the doer, what turned, how many. -/
theorem deed_of {k : Int32} (h : 0 ≤ k ∧ k ≤ 9) : ∃ δ : Nat, δ < 10 ∧ k = nI δ := by
  obtain ⟨j, j1, j2⟩ := nI_of (Int32.not_lt.mpr h.1)
  refine ⟨j, ?_, j2⟩
  have := h.2
  rw [j2] at this
  have := (nI_leI (b := 9) j1 (by omega)).mp this
  omega
theorem d_doer {d : Nat} {F : FF} {lv : Nat → Int32} {A : List YL} {P N r la : Nat} {σ : RS} (sp rl tx : Nat) (h : cI F lv A P N r la σ) (k y x : Int32) : Ok (d + 21) M6_doer [.ref 0, .int k, .int y, .int x] (WD σ la sp rl tx) (qd F lv A P N r la σ sp rl tx (S_doer F lv A N k y x)) := by
  have hP := h.2.1.1
  have hN := h.2.1.2.1
  have h7 : σ 2 7 = nI P := h.2.2.1
  have h8 : σ 2 8 = nI N := h.2.2.2.1
  by_cases hg : (0 ≤ k ∧ k ≤ 9) ∧ gDay N y x = true
  · obtain ⟨hg0, hg1⟩ := hg
    obtain ⟨b, c, b1, c1, rfl, rfl⟩ := gDay_of hN hg1
    obtain ⟨δ, δ1, rfl⟩ := deed_of hg0
    have e : S_doer F lv A N (nI δ) (nI b) (nI c) = sp_doer F (dS F lv A c).1 δ b c := by
      unfold S_doer
      rw [if_pos ⟨hg0, hg1⟩]
      simp only [nt_nI (show δ < 2 ^ 31 by omega), nt_nI (show b < 2 ^ 31 by omega), nt_nI (show c < 2 ^ 31 by omega)]
    rw [e]
    have g0 : decide (0 ≤ nI δ ∧ nI δ ≤ 9) = true := decide_eq_true hg0
    have g1 : m_day (nI b) = true := isD_t b1
    have g2 : b_isFirst (σ 2 8) (nI c) = true := by rw [h8, isN_t hN c1]
    have kk : ∀ kb σ', kb_ok kb → cI F lv A P N r la σ' → dK la σ σ' → kGood F lv A c (dk kb 10 σ') → Ev (d + 21) M6_doer (qd F lv A P N r la σ sp rl tx (sp_doer F (dS F lv A c).1 δ b c)) 30 [some (.ref 0), some (.int (nI δ)), some (.int (nI b)), some (.int (nI c))] [.ref kb] (WD σ' la sp rl tx) := by
      intro kb σ' hk hI hK hG
      have hB := hI.KB c1 hG
      obtain ⟨z1, z2, z3, z4⟩ := hB.len
      have hz : ml F c ≤ 120 := by omega
      have hv := a_doer hB δ1 b1
      obtain ⟨r1, r2⟩ := cI_voted hI hk c (ml F c) (nI δ) (nI b)
      rcases hk with rfl | rfl
      · have oU := kD_doerOf (d := d + 15) σ' la sp rl tx 30 (Or.inl rfl) c (ml F c) (by omega) hz z3 z4 (nI δ) (nI b)
        rw [hv] at oU
        generalize dVoted 30 c (ml F c) (nI δ) (nI b) σ' = σ2 at *
        refine ev_iload_n (pc' := 31) dX6_doer_30 rfl rfl ?_
        refine ev_iload_n (pc' := 32) dX6_doer_31 rfl rfl ?_
        refine ev_cVi2 (pc' := 35) cl_6_170 (oU) dX6_doer_32 rfl rfl rfl rfl ?_
        refine ev_goto (tgt := 39) dX6_doer_35 (by decide) ?_
        refine ev_ireturn rfl dX6_doer_39 ?_
        exact ⟨rfl, σ2, rfl, r1, hK.trans r2⟩
      · have oU := kD_doerOf (d := d + 15) σ' la sp rl tx 40 (Or.inr rfl) c (ml F c) (by omega) hz z3 z4 (nI δ) (nI b)
        rw [hv] at oU
        generalize dVoted 40 c (ml F c) (nI δ) (nI b) σ' = σ2 at *
        refine ev_iload_n (pc' := 31) dX6_doer_30 rfl rfl ?_
        refine ev_iload_n (pc' := 32) dX6_doer_31 rfl rfl ?_
        refine ev_cVi2 (pc' := 35) cl_6_170 (oU) dX6_doer_32 rfl rfl rfl rfl ?_
        refine ev_goto (tgt := 39) dX6_doer_35 (by decide) ?_
        refine ev_ireturn rfl dX6_doer_39 ?_
        exact ⟨rfl, σ2, rfl, r1, hK.trans r2⟩
    refine Ok.of (ls := [some _, some _, some _, some _]) (by decide +kernel) (Nat.le_of_ble_eq_true rfl) rfl ?_
    refine ev_iload_n (pc' := 1) dX6_doer_0 rfl rfl ?_
    refine ev_cSi1 (pc' := 4) cl_6_101 (kD_isDeed _ _) dX6_doer_1 rfl rfl ?_
    refine ev_if_eq (tgt := 38) (pc' := 7) dX6_doer_4 (by decide) rfl (fun h_4 => ?_) (fun h_4 => ?_)
    · exact absurd h_4 (by rw [g0]; decide) --
    · refine ev_iload_n (pc' := 8) dX6_doer_7 rfl rfl ?_
      refine ev_cSi1 (pc' := 11) cl_6_88 (kD_isDay _ _) dX6_doer_8 rfl rfl ?_
      refine ev_if_eq (tgt := 38) (pc' := 14) dX6_doer_11 (by decide) rfl (fun h_11 => ?_) (fun h_11 => ?_)
      · exact absurd h_11 (by rw [g1]; decide) --
      · refine ev_aload_n (pc' := 15) dX6_doer_14 rfl rfl ?_
        refine ev_getf (pc' := 18) fl_6_12 dX6_doer_15 rfl rfl rfl ?_
        refine ev_iload_n (pc' := 19) dX6_doer_18 rfl rfl ?_
        refine ev_cVi1 (pc' := 22) cl_6_118 (kD_hasFirst _ _ _ _ _ _) dX6_doer_19 rfl rfl rfl rfl ?_
        refine ev_if_eq (tgt := 38) (pc' := 25) dX6_doer_22 (by decide) rfl (fun h_22 => ?_) (fun h_22 => ?_)
        · exact absurd h_22 (by rw [g2]; decide) --
        · refine ev_aload_n (pc' := 26) dX6_doer_25 rfl rfl ?_
          refine ev_iload_n (pc' := 27) dX6_doer_26 rfl rfl ?_
          refine ev_cVr1 (pc' := 30) cl_6_108 (kD_knownBy sp rl tx h c1) dX6_doer_27 rfl rfl rfl rfl ?_
          rintro v w1 ⟨kb, σ', hk, rfl, rfl, hI, hK, hG, -⟩ -
          exact kk kb σ' hk hI hK hG
  · have e : S_doer F lv A N k y x = -1 := if_neg hg
    rw [e]
    refine Ok.of (ls := [some _, some _, some _, some _]) (by decide +kernel) (Nat.le_of_ble_eq_true rfl) rfl ?_
    refine ev_iload_n (pc' := 1) dX6_doer_0 rfl rfl ?_
    refine ev_cSi1 (pc' := 4) cl_6_101 (kD_isDeed _ _) dX6_doer_1 rfl rfl ?_
    refine ev_if_eq (tgt := 38) (pc' := 7) dX6_doer_4 (by decide) rfl (fun h_4 => ?_) (fun h_4 => ?_)
    · refine ev_iconst (pc' := 39) (v := -1) dX6_doer_38 rfl (by decide) ?_
      refine ev_ireturn rfl dX6_doer_39 ?_
      exact ⟨rfl, σ, rfl, h, dK.refl la σ⟩
    · have q0 := of_decide_eq_true (bI_1' h_4)
      refine ev_iload_n (pc' := 8) dX6_doer_7 rfl rfl ?_
      refine ev_cSi1 (pc' := 11) cl_6_88 (kD_isDay _ _) dX6_doer_8 rfl rfl ?_
      refine ev_if_eq (tgt := 38) (pc' := 14) dX6_doer_11 (by decide) rfl (fun h_11 => ?_) (fun h_11 => ?_)
      · refine ev_iconst (pc' := 39) (v := -1) dX6_doer_38 rfl (by decide) ?_
        refine ev_ireturn rfl dX6_doer_39 ?_
        exact ⟨rfl, σ, rfl, h, dK.refl la σ⟩
      · have q1 := bI_1' h_11
        refine ev_aload_n (pc' := 15) dX6_doer_14 rfl rfl ?_
        refine ev_getf (pc' := 18) fl_6_12 dX6_doer_15 rfl rfl rfl ?_
        refine ev_iload_n (pc' := 19) dX6_doer_18 rfl rfl ?_
        refine ev_cVi1 (pc' := 22) cl_6_118 (kD_hasFirst _ _ _ _ _ _) dX6_doer_19 rfl rfl rfl rfl ?_
        refine ev_if_eq (tgt := 38) (pc' := 25) dX6_doer_22 (by decide) rfl (fun h_22 => ?_) (fun h_22 => ?_)
        · refine ev_iconst (pc' := 39) (v := -1) dX6_doer_38 rfl (by decide) ?_
          refine ev_ireturn rfl dX6_doer_39 ?_
          exact ⟨rfl, σ, rfl, h, dK.refl la σ⟩
        · exact absurd ⟨q0, by unfold gDay; rw [← h8, q1, bI_1' h_22]; rfl⟩ hg --
theorem cI.paper {F : FF} {lv : Nat → Int32} {A : List YL} {P N r la : Nat} {σ : RS} (h : cI F lv A P N r la σ) {k : Nat} (hk : k < N) : b_isPaper (bd σ) (nI k) = decide (F 0 k ≤ 2) := by
  have b0 := (h.2.1.2.2 k hk).1.1
  unfold b_isPaper
  rw [h.kind hk]
  refine decide_eq_decide.mpr ⟨fun z => (nI_leI (b := 2) (by omega) (by omega)).mp z.2, fun z => ⟨nI_pos' (by omega), nI_le (b := 2) z (by omega)⟩⟩
theorem d_turned_30_30 {d : Nat} {F : FF} {lv : Nat → Int32} {A : List YL} {P N r la : Nat} {σ σ0 : RS} (sp rl tx : Nat) (h : cI F lv A P N r la σ) (hK : dK la σ0 σ) (n m L : Nat) (hn : n ≤ N) (hm : m ≤ N) (hL : L ≤ n ∧ L ≤ m) (g1 : kGood F lv A n (dk 30 10 σ)) (g2 : kGood F lv A m (dk 30 10 σ)) (x1 x2 : Int32) : ∀ (c k : Nat), k + c = L → Ev (d + 4) M6_turned (qd F lv A P N r la σ0 sp rl tx (sp_turn F (dS F lv A n).2.2.2.1 (dS F lv A m).2.2.2.1 c k)) 47 [some (.ref 0), some (.int x1), some (.int x2), some (.ref 30), some (.ref 30), some (.int (nI L)), some (.int (nI k))] [] (WD σ la sp rl tx) := by
  intro c
  have hN := h.2.1.2.1
  have hB1 := h.KB hn g1
  have hB2 := h.KB hm g2
  induction c with
  | zero =>
    intro k hk
    have hk : k = L := by omega
    subst hk
    refine ev_iload (pc' := 49) dX6_turned_47 rfl rfl ?_
    refine ev_iload (pc' := 51) dX6_turned_49 rfl rfl ?_
    refine ev_icmp_ge (tgt := 107) (pc' := 54) dX6_turned_51 (by decide) rfl (fun h_51 => ?_) (fun h_51 => ?_)
    · refine ev_iconst (pc' := 108) (v := -1) dX6_turned_107 rfl (by decide) ?_
      refine ev_ireturn rfl dX6_turned_108 ?_
      exact ⟨rfl, σ, rfl, h, hK⟩
    · exact absurd (nI_le (Nat.le_refl _) (by omega)) h_51 --
  | succ c ih =>
    intro k hk
    have ihk := ih (k + 1) (by omega)
    have hp := h.paper (show k < N by omega)
    have oP := kD_isPaper (d := d + 1) σ la sp rl tx (nI k)
    rw [hp] at oP
    have o1 := kD_reasonOf (d := d + 2) σ la sp rl tx 30 (Or.inl rfl) (nI k)
    have o2 := kD_reasonOf (d := d + 2) σ la sp rl tx 30 (Or.inl rfl) (nI k)
    rw [atF_nI _ (by omega) (by omega)] at o1 o2
    have e1 : F 0 k ≤ 2 → σ (30 + 1) k = (dS F lv A n).2.2.2.1 k := fun z => (a_why hB1 (show k < n by omega) z).1
    have e2 : F 0 k ≤ 2 → σ (30 + 1) k = (dS F lv A m).2.2.2.1 k := fun z => (a_why hB2 (show k < m by omega) z).1
    obtain ⟨T, hT⟩ : ∃ T, T = sp_turn F (dS F lv A n).2.2.2.1 (dS F lv A m).2.2.2.1 (c + 1) k := ⟨_, rfl⟩
    rw [← hT]
    rw [sp_turn] at hT
    generalize σ (30 + 1) k = V1 at *
    generalize σ (30 + 1) k = V2 at *
    refine ev_iload (pc' := 49) dX6_turned_47 rfl rfl ?_
    refine ev_iload (pc' := 51) dX6_turned_49 rfl rfl ?_
    refine ev_icmp_ge (tgt := 107) (pc' := 54) dX6_turned_51 (by decide) rfl (fun h_51 => ?_) (fun h_51 => ?_)
    · exact absurd h_51 (nI_ge (by omega) (by omega)) --
    · refine ev_aload_n (pc' := 55) dX6_turned_54 rfl rfl ?_
      refine ev_getf (pc' := 58) fl_6_12 dX6_turned_55 rfl rfl rfl ?_
      refine ev_iload (pc' := 60) dX6_turned_58 rfl rfl ?_
      refine ev_cVi1 (pc' := 63) cl_6_95 (oP) dX6_turned_60 rfl rfl rfl rfl ?_
      refine ev_if_eq (tgt := 101) (pc' := 66) dX6_turned_63 (by decide) rfl (fun h_63 => ?_) (fun h_63 => ?_)
      · rw [if_neg (fun z => of_decide_eq_false (bI_0' h_63) z.1)] at hT
        refine ev_iinc (pc' := 104) (ls' := [_, _, _, _, _, _, _]) dX6_turned_101 rfl rfl rfl rfl rfl ?_
        refine ev_goto (tgt := 47) dX6_turned_104 (by decide) ?_
        rw [nI_p1, hT]
        exact ihk
      · have q := of_decide_eq_true (bI_1' h_63)
        have q1 := e1 q
        have q2 := e2 q
        refine ev_aload_n (pc' := 67) dX6_turned_66 rfl rfl ?_
        refine ev_iload (pc' := 69) dX6_turned_67 rfl rfl ?_
        refine ev_cVi1 (pc' := 72) cl_6_112 (o1) dX6_turned_69 rfl rfl rfl rfl ?_
        refine ev_if_ne (tgt := 79) (pc' := 75) dX6_turned_72 (by decide) rfl (fun h_72 => ?_) (fun h_72 => ?_)
        · rw [q1] at h_72
          refine ev_iconst (pc' := 80) (v := 0) dX6_turned_79 rfl (by decide) ?_
          refine ev_aload (pc' := 82) dX6_turned_80 rfl rfl ?_
          refine ev_iload (pc' := 84) dX6_turned_82 rfl rfl ?_
          refine ev_cVi1 (pc' := 87) cl_6_112 (o2) dX6_turned_84 rfl rfl rfl rfl ?_
          refine ev_if_ne (tgt := 94) (pc' := 90) dX6_turned_87 (by decide) rfl (fun h_87 => ?_) (fun h_87 => ?_)
          · rw [q2] at h_87
            refine ev_iconst (pc' := 95) (v := 0) dX6_turned_94 rfl (by decide) ?_
            refine ev_icmp_eq (tgt := 101) (pc' := 98) dX6_turned_95 (by decide) rfl (fun h_95 => ?_) (fun h_95 => ?_)
            · rw [if_neg (fun z => z.2 ⟨fun w => absurd w h_72, fun w => absurd w h_87⟩)] at hT
              refine ev_iinc (pc' := 104) (ls' := [_, _, _, _, _, _, _]) dX6_turned_101 rfl rfl rfl rfl rfl ?_
              refine ev_goto (tgt := 47) dX6_turned_104 (by decide) ?_
              rw [nI_p1, hT]
              exact ihk
            · exact absurd rfl h_95 --
          · rw [q2] at h_87
            refine ev_iconst (pc' := 91) (v := 1) dX6_turned_90 rfl (by decide) ?_
            refine ev_goto (tgt := 95) dX6_turned_91 (by decide) ?_
            refine ev_icmp_eq (tgt := 101) (pc' := 98) dX6_turned_95 (by decide) rfl (fun h_95 => ?_) (fun h_95 => ?_)
            · exact absurd h_95 (by decide) --
            · rw [if_pos ⟨q, fun w => h_72 (w.mpr h_87)⟩] at hT
              refine ev_iload (pc' := 100) dX6_turned_98 rfl rfl ?_
              refine ev_ireturn rfl dX6_turned_100 ?_
              exact ⟨by rw [hT], σ, rfl, h, hK⟩
        · rw [q1] at h_72
          refine ev_iconst (pc' := 76) (v := 1) dX6_turned_75 rfl (by decide) ?_
          refine ev_goto (tgt := 80) dX6_turned_76 (by decide) ?_
          refine ev_aload (pc' := 82) dX6_turned_80 rfl rfl ?_
          refine ev_iload (pc' := 84) dX6_turned_82 rfl rfl ?_
          refine ev_cVi1 (pc' := 87) cl_6_112 (o2) dX6_turned_84 rfl rfl rfl rfl ?_
          refine ev_if_ne (tgt := 94) (pc' := 90) dX6_turned_87 (by decide) rfl (fun h_87 => ?_) (fun h_87 => ?_)
          · rw [q2] at h_87
            refine ev_iconst (pc' := 95) (v := 0) dX6_turned_94 rfl (by decide) ?_
            refine ev_icmp_eq (tgt := 101) (pc' := 98) dX6_turned_95 (by decide) rfl (fun h_95 => ?_) (fun h_95 => ?_)
            · exact absurd h_95 (by decide) --
            · rw [if_pos ⟨q, fun w => h_87 (w.mp h_72)⟩] at hT
              refine ev_iload (pc' := 100) dX6_turned_98 rfl rfl ?_
              refine ev_ireturn rfl dX6_turned_100 ?_
              exact ⟨by rw [hT], σ, rfl, h, hK⟩
          · rw [q2] at h_87
            refine ev_iconst (pc' := 91) (v := 1) dX6_turned_90 rfl (by decide) ?_
            refine ev_goto (tgt := 95) dX6_turned_91 (by decide) ?_
            refine ev_icmp_eq (tgt := 101) (pc' := 98) dX6_turned_95 (by decide) rfl (fun h_95 => ?_) (fun h_95 => ?_)
            · rw [if_neg (fun z => z.2 ⟨fun _ => h_87, fun _ => h_72⟩)] at hT
              refine ev_iinc (pc' := 104) (ls' := [_, _, _, _, _, _, _]) dX6_turned_101 rfl rfl rfl rfl rfl ?_
              refine ev_goto (tgt := 47) dX6_turned_104 (by decide) ?_
              rw [nI_p1, hT]
              exact ihk
            · exact absurd rfl h_95 --
theorem d_turned_30_40 {d : Nat} {F : FF} {lv : Nat → Int32} {A : List YL} {P N r la : Nat} {σ σ0 : RS} (sp rl tx : Nat) (h : cI F lv A P N r la σ) (hK : dK la σ0 σ) (n m L : Nat) (hn : n ≤ N) (hm : m ≤ N) (hL : L ≤ n ∧ L ≤ m) (g1 : kGood F lv A n (dk 30 10 σ)) (g2 : kGood F lv A m (dk 40 10 σ)) (x1 x2 : Int32) : ∀ (c k : Nat), k + c = L → Ev (d + 4) M6_turned (qd F lv A P N r la σ0 sp rl tx (sp_turn F (dS F lv A n).2.2.2.1 (dS F lv A m).2.2.2.1 c k)) 47 [some (.ref 0), some (.int x1), some (.int x2), some (.ref 30), some (.ref 40), some (.int (nI L)), some (.int (nI k))] [] (WD σ la sp rl tx) := by
  intro c
  have hN := h.2.1.2.1
  have hB1 := h.KB hn g1
  have hB2 := h.KB hm g2
  induction c with
  | zero =>
    intro k hk
    have hk : k = L := by omega
    subst hk
    refine ev_iload (pc' := 49) dX6_turned_47 rfl rfl ?_
    refine ev_iload (pc' := 51) dX6_turned_49 rfl rfl ?_
    refine ev_icmp_ge (tgt := 107) (pc' := 54) dX6_turned_51 (by decide) rfl (fun h_51 => ?_) (fun h_51 => ?_)
    · refine ev_iconst (pc' := 108) (v := -1) dX6_turned_107 rfl (by decide) ?_
      refine ev_ireturn rfl dX6_turned_108 ?_
      exact ⟨rfl, σ, rfl, h, hK⟩
    · exact absurd (nI_le (Nat.le_refl _) (by omega)) h_51 --
  | succ c ih =>
    intro k hk
    have ihk := ih (k + 1) (by omega)
    have hp := h.paper (show k < N by omega)
    have oP := kD_isPaper (d := d + 1) σ la sp rl tx (nI k)
    rw [hp] at oP
    have o1 := kD_reasonOf (d := d + 2) σ la sp rl tx 30 (Or.inl rfl) (nI k)
    have o2 := kD_reasonOf (d := d + 2) σ la sp rl tx 40 (Or.inr rfl) (nI k)
    rw [atF_nI _ (by omega) (by omega)] at o1 o2
    have e1 : F 0 k ≤ 2 → σ (30 + 1) k = (dS F lv A n).2.2.2.1 k := fun z => (a_why hB1 (show k < n by omega) z).1
    have e2 : F 0 k ≤ 2 → σ (40 + 1) k = (dS F lv A m).2.2.2.1 k := fun z => (a_why hB2 (show k < m by omega) z).1
    obtain ⟨T, hT⟩ : ∃ T, T = sp_turn F (dS F lv A n).2.2.2.1 (dS F lv A m).2.2.2.1 (c + 1) k := ⟨_, rfl⟩
    rw [← hT]
    rw [sp_turn] at hT
    generalize σ (30 + 1) k = V1 at *
    generalize σ (40 + 1) k = V2 at *
    refine ev_iload (pc' := 49) dX6_turned_47 rfl rfl ?_
    refine ev_iload (pc' := 51) dX6_turned_49 rfl rfl ?_
    refine ev_icmp_ge (tgt := 107) (pc' := 54) dX6_turned_51 (by decide) rfl (fun h_51 => ?_) (fun h_51 => ?_)
    · exact absurd h_51 (nI_ge (by omega) (by omega)) --
    · refine ev_aload_n (pc' := 55) dX6_turned_54 rfl rfl ?_
      refine ev_getf (pc' := 58) fl_6_12 dX6_turned_55 rfl rfl rfl ?_
      refine ev_iload (pc' := 60) dX6_turned_58 rfl rfl ?_
      refine ev_cVi1 (pc' := 63) cl_6_95 (oP) dX6_turned_60 rfl rfl rfl rfl ?_
      refine ev_if_eq (tgt := 101) (pc' := 66) dX6_turned_63 (by decide) rfl (fun h_63 => ?_) (fun h_63 => ?_)
      · rw [if_neg (fun z => of_decide_eq_false (bI_0' h_63) z.1)] at hT
        refine ev_iinc (pc' := 104) (ls' := [_, _, _, _, _, _, _]) dX6_turned_101 rfl rfl rfl rfl rfl ?_
        refine ev_goto (tgt := 47) dX6_turned_104 (by decide) ?_
        rw [nI_p1, hT]
        exact ihk
      · have q := of_decide_eq_true (bI_1' h_63)
        have q1 := e1 q
        have q2 := e2 q
        refine ev_aload_n (pc' := 67) dX6_turned_66 rfl rfl ?_
        refine ev_iload (pc' := 69) dX6_turned_67 rfl rfl ?_
        refine ev_cVi1 (pc' := 72) cl_6_112 (o1) dX6_turned_69 rfl rfl rfl rfl ?_
        refine ev_if_ne (tgt := 79) (pc' := 75) dX6_turned_72 (by decide) rfl (fun h_72 => ?_) (fun h_72 => ?_)
        · rw [q1] at h_72
          refine ev_iconst (pc' := 80) (v := 0) dX6_turned_79 rfl (by decide) ?_
          refine ev_aload (pc' := 82) dX6_turned_80 rfl rfl ?_
          refine ev_iload (pc' := 84) dX6_turned_82 rfl rfl ?_
          refine ev_cVi1 (pc' := 87) cl_6_112 (o2) dX6_turned_84 rfl rfl rfl rfl ?_
          refine ev_if_ne (tgt := 94) (pc' := 90) dX6_turned_87 (by decide) rfl (fun h_87 => ?_) (fun h_87 => ?_)
          · rw [q2] at h_87
            refine ev_iconst (pc' := 95) (v := 0) dX6_turned_94 rfl (by decide) ?_
            refine ev_icmp_eq (tgt := 101) (pc' := 98) dX6_turned_95 (by decide) rfl (fun h_95 => ?_) (fun h_95 => ?_)
            · rw [if_neg (fun z => z.2 ⟨fun w => absurd w h_72, fun w => absurd w h_87⟩)] at hT
              refine ev_iinc (pc' := 104) (ls' := [_, _, _, _, _, _, _]) dX6_turned_101 rfl rfl rfl rfl rfl ?_
              refine ev_goto (tgt := 47) dX6_turned_104 (by decide) ?_
              rw [nI_p1, hT]
              exact ihk
            · exact absurd rfl h_95 --
          · rw [q2] at h_87
            refine ev_iconst (pc' := 91) (v := 1) dX6_turned_90 rfl (by decide) ?_
            refine ev_goto (tgt := 95) dX6_turned_91 (by decide) ?_
            refine ev_icmp_eq (tgt := 101) (pc' := 98) dX6_turned_95 (by decide) rfl (fun h_95 => ?_) (fun h_95 => ?_)
            · exact absurd h_95 (by decide) --
            · rw [if_pos ⟨q, fun w => h_72 (w.mpr h_87)⟩] at hT
              refine ev_iload (pc' := 100) dX6_turned_98 rfl rfl ?_
              refine ev_ireturn rfl dX6_turned_100 ?_
              exact ⟨by rw [hT], σ, rfl, h, hK⟩
        · rw [q1] at h_72
          refine ev_iconst (pc' := 76) (v := 1) dX6_turned_75 rfl (by decide) ?_
          refine ev_goto (tgt := 80) dX6_turned_76 (by decide) ?_
          refine ev_aload (pc' := 82) dX6_turned_80 rfl rfl ?_
          refine ev_iload (pc' := 84) dX6_turned_82 rfl rfl ?_
          refine ev_cVi1 (pc' := 87) cl_6_112 (o2) dX6_turned_84 rfl rfl rfl rfl ?_
          refine ev_if_ne (tgt := 94) (pc' := 90) dX6_turned_87 (by decide) rfl (fun h_87 => ?_) (fun h_87 => ?_)
          · rw [q2] at h_87
            refine ev_iconst (pc' := 95) (v := 0) dX6_turned_94 rfl (by decide) ?_
            refine ev_icmp_eq (tgt := 101) (pc' := 98) dX6_turned_95 (by decide) rfl (fun h_95 => ?_) (fun h_95 => ?_)
            · exact absurd h_95 (by decide) --
            · rw [if_pos ⟨q, fun w => h_87 (w.mp h_72)⟩] at hT
              refine ev_iload (pc' := 100) dX6_turned_98 rfl rfl ?_
              refine ev_ireturn rfl dX6_turned_100 ?_
              exact ⟨by rw [hT], σ, rfl, h, hK⟩
          · rw [q2] at h_87
            refine ev_iconst (pc' := 91) (v := 1) dX6_turned_90 rfl (by decide) ?_
            refine ev_goto (tgt := 95) dX6_turned_91 (by decide) ?_
            refine ev_icmp_eq (tgt := 101) (pc' := 98) dX6_turned_95 (by decide) rfl (fun h_95 => ?_) (fun h_95 => ?_)
            · rw [if_neg (fun z => z.2 ⟨fun _ => h_87, fun _ => h_72⟩)] at hT
              refine ev_iinc (pc' := 104) (ls' := [_, _, _, _, _, _, _]) dX6_turned_101 rfl rfl rfl rfl rfl ?_
              refine ev_goto (tgt := 47) dX6_turned_104 (by decide) ?_
              rw [nI_p1, hT]
              exact ihk
            · exact absurd rfl h_95 --
theorem d_turned_40_30 {d : Nat} {F : FF} {lv : Nat → Int32} {A : List YL} {P N r la : Nat} {σ σ0 : RS} (sp rl tx : Nat) (h : cI F lv A P N r la σ) (hK : dK la σ0 σ) (n m L : Nat) (hn : n ≤ N) (hm : m ≤ N) (hL : L ≤ n ∧ L ≤ m) (g1 : kGood F lv A n (dk 40 10 σ)) (g2 : kGood F lv A m (dk 30 10 σ)) (x1 x2 : Int32) : ∀ (c k : Nat), k + c = L → Ev (d + 4) M6_turned (qd F lv A P N r la σ0 sp rl tx (sp_turn F (dS F lv A n).2.2.2.1 (dS F lv A m).2.2.2.1 c k)) 47 [some (.ref 0), some (.int x1), some (.int x2), some (.ref 40), some (.ref 30), some (.int (nI L)), some (.int (nI k))] [] (WD σ la sp rl tx) := by
  intro c
  have hN := h.2.1.2.1
  have hB1 := h.KB hn g1
  have hB2 := h.KB hm g2
  induction c with
  | zero =>
    intro k hk
    have hk : k = L := by omega
    subst hk
    refine ev_iload (pc' := 49) dX6_turned_47 rfl rfl ?_
    refine ev_iload (pc' := 51) dX6_turned_49 rfl rfl ?_
    refine ev_icmp_ge (tgt := 107) (pc' := 54) dX6_turned_51 (by decide) rfl (fun h_51 => ?_) (fun h_51 => ?_)
    · refine ev_iconst (pc' := 108) (v := -1) dX6_turned_107 rfl (by decide) ?_
      refine ev_ireturn rfl dX6_turned_108 ?_
      exact ⟨rfl, σ, rfl, h, hK⟩
    · exact absurd (nI_le (Nat.le_refl _) (by omega)) h_51 --
  | succ c ih =>
    intro k hk
    have ihk := ih (k + 1) (by omega)
    have hp := h.paper (show k < N by omega)
    have oP := kD_isPaper (d := d + 1) σ la sp rl tx (nI k)
    rw [hp] at oP
    have o1 := kD_reasonOf (d := d + 2) σ la sp rl tx 40 (Or.inr rfl) (nI k)
    have o2 := kD_reasonOf (d := d + 2) σ la sp rl tx 30 (Or.inl rfl) (nI k)
    rw [atF_nI _ (by omega) (by omega)] at o1 o2
    have e1 : F 0 k ≤ 2 → σ (40 + 1) k = (dS F lv A n).2.2.2.1 k := fun z => (a_why hB1 (show k < n by omega) z).1
    have e2 : F 0 k ≤ 2 → σ (30 + 1) k = (dS F lv A m).2.2.2.1 k := fun z => (a_why hB2 (show k < m by omega) z).1
    obtain ⟨T, hT⟩ : ∃ T, T = sp_turn F (dS F lv A n).2.2.2.1 (dS F lv A m).2.2.2.1 (c + 1) k := ⟨_, rfl⟩
    rw [← hT]
    rw [sp_turn] at hT
    generalize σ (40 + 1) k = V1 at *
    generalize σ (30 + 1) k = V2 at *
    refine ev_iload (pc' := 49) dX6_turned_47 rfl rfl ?_
    refine ev_iload (pc' := 51) dX6_turned_49 rfl rfl ?_
    refine ev_icmp_ge (tgt := 107) (pc' := 54) dX6_turned_51 (by decide) rfl (fun h_51 => ?_) (fun h_51 => ?_)
    · exact absurd h_51 (nI_ge (by omega) (by omega)) --
    · refine ev_aload_n (pc' := 55) dX6_turned_54 rfl rfl ?_
      refine ev_getf (pc' := 58) fl_6_12 dX6_turned_55 rfl rfl rfl ?_
      refine ev_iload (pc' := 60) dX6_turned_58 rfl rfl ?_
      refine ev_cVi1 (pc' := 63) cl_6_95 (oP) dX6_turned_60 rfl rfl rfl rfl ?_
      refine ev_if_eq (tgt := 101) (pc' := 66) dX6_turned_63 (by decide) rfl (fun h_63 => ?_) (fun h_63 => ?_)
      · rw [if_neg (fun z => of_decide_eq_false (bI_0' h_63) z.1)] at hT
        refine ev_iinc (pc' := 104) (ls' := [_, _, _, _, _, _, _]) dX6_turned_101 rfl rfl rfl rfl rfl ?_
        refine ev_goto (tgt := 47) dX6_turned_104 (by decide) ?_
        rw [nI_p1, hT]
        exact ihk
      · have q := of_decide_eq_true (bI_1' h_63)
        have q1 := e1 q
        have q2 := e2 q
        refine ev_aload_n (pc' := 67) dX6_turned_66 rfl rfl ?_
        refine ev_iload (pc' := 69) dX6_turned_67 rfl rfl ?_
        refine ev_cVi1 (pc' := 72) cl_6_112 (o1) dX6_turned_69 rfl rfl rfl rfl ?_
        refine ev_if_ne (tgt := 79) (pc' := 75) dX6_turned_72 (by decide) rfl (fun h_72 => ?_) (fun h_72 => ?_)
        · rw [q1] at h_72
          refine ev_iconst (pc' := 80) (v := 0) dX6_turned_79 rfl (by decide) ?_
          refine ev_aload (pc' := 82) dX6_turned_80 rfl rfl ?_
          refine ev_iload (pc' := 84) dX6_turned_82 rfl rfl ?_
          refine ev_cVi1 (pc' := 87) cl_6_112 (o2) dX6_turned_84 rfl rfl rfl rfl ?_
          refine ev_if_ne (tgt := 94) (pc' := 90) dX6_turned_87 (by decide) rfl (fun h_87 => ?_) (fun h_87 => ?_)
          · rw [q2] at h_87
            refine ev_iconst (pc' := 95) (v := 0) dX6_turned_94 rfl (by decide) ?_
            refine ev_icmp_eq (tgt := 101) (pc' := 98) dX6_turned_95 (by decide) rfl (fun h_95 => ?_) (fun h_95 => ?_)
            · rw [if_neg (fun z => z.2 ⟨fun w => absurd w h_72, fun w => absurd w h_87⟩)] at hT
              refine ev_iinc (pc' := 104) (ls' := [_, _, _, _, _, _, _]) dX6_turned_101 rfl rfl rfl rfl rfl ?_
              refine ev_goto (tgt := 47) dX6_turned_104 (by decide) ?_
              rw [nI_p1, hT]
              exact ihk
            · exact absurd rfl h_95 --
          · rw [q2] at h_87
            refine ev_iconst (pc' := 91) (v := 1) dX6_turned_90 rfl (by decide) ?_
            refine ev_goto (tgt := 95) dX6_turned_91 (by decide) ?_
            refine ev_icmp_eq (tgt := 101) (pc' := 98) dX6_turned_95 (by decide) rfl (fun h_95 => ?_) (fun h_95 => ?_)
            · exact absurd h_95 (by decide) --
            · rw [if_pos ⟨q, fun w => h_72 (w.mpr h_87)⟩] at hT
              refine ev_iload (pc' := 100) dX6_turned_98 rfl rfl ?_
              refine ev_ireturn rfl dX6_turned_100 ?_
              exact ⟨by rw [hT], σ, rfl, h, hK⟩
        · rw [q1] at h_72
          refine ev_iconst (pc' := 76) (v := 1) dX6_turned_75 rfl (by decide) ?_
          refine ev_goto (tgt := 80) dX6_turned_76 (by decide) ?_
          refine ev_aload (pc' := 82) dX6_turned_80 rfl rfl ?_
          refine ev_iload (pc' := 84) dX6_turned_82 rfl rfl ?_
          refine ev_cVi1 (pc' := 87) cl_6_112 (o2) dX6_turned_84 rfl rfl rfl rfl ?_
          refine ev_if_ne (tgt := 94) (pc' := 90) dX6_turned_87 (by decide) rfl (fun h_87 => ?_) (fun h_87 => ?_)
          · rw [q2] at h_87
            refine ev_iconst (pc' := 95) (v := 0) dX6_turned_94 rfl (by decide) ?_
            refine ev_icmp_eq (tgt := 101) (pc' := 98) dX6_turned_95 (by decide) rfl (fun h_95 => ?_) (fun h_95 => ?_)
            · exact absurd h_95 (by decide) --
            · rw [if_pos ⟨q, fun w => h_87 (w.mp h_72)⟩] at hT
              refine ev_iload (pc' := 100) dX6_turned_98 rfl rfl ?_
              refine ev_ireturn rfl dX6_turned_100 ?_
              exact ⟨by rw [hT], σ, rfl, h, hK⟩
          · rw [q2] at h_87
            refine ev_iconst (pc' := 91) (v := 1) dX6_turned_90 rfl (by decide) ?_
            refine ev_goto (tgt := 95) dX6_turned_91 (by decide) ?_
            refine ev_icmp_eq (tgt := 101) (pc' := 98) dX6_turned_95 (by decide) rfl (fun h_95 => ?_) (fun h_95 => ?_)
            · rw [if_neg (fun z => z.2 ⟨fun _ => h_87, fun _ => h_72⟩)] at hT
              refine ev_iinc (pc' := 104) (ls' := [_, _, _, _, _, _, _]) dX6_turned_101 rfl rfl rfl rfl rfl ?_
              refine ev_goto (tgt := 47) dX6_turned_104 (by decide) ?_
              rw [nI_p1, hT]
              exact ihk
            · exact absurd rfl h_95 --
theorem d_turned_40_40 {d : Nat} {F : FF} {lv : Nat → Int32} {A : List YL} {P N r la : Nat} {σ σ0 : RS} (sp rl tx : Nat) (h : cI F lv A P N r la σ) (hK : dK la σ0 σ) (n m L : Nat) (hn : n ≤ N) (hm : m ≤ N) (hL : L ≤ n ∧ L ≤ m) (g1 : kGood F lv A n (dk 40 10 σ)) (g2 : kGood F lv A m (dk 40 10 σ)) (x1 x2 : Int32) : ∀ (c k : Nat), k + c = L → Ev (d + 4) M6_turned (qd F lv A P N r la σ0 sp rl tx (sp_turn F (dS F lv A n).2.2.2.1 (dS F lv A m).2.2.2.1 c k)) 47 [some (.ref 0), some (.int x1), some (.int x2), some (.ref 40), some (.ref 40), some (.int (nI L)), some (.int (nI k))] [] (WD σ la sp rl tx) := by
  intro c
  have hN := h.2.1.2.1
  have hB1 := h.KB hn g1
  have hB2 := h.KB hm g2
  induction c with
  | zero =>
    intro k hk
    have hk : k = L := by omega
    subst hk
    refine ev_iload (pc' := 49) dX6_turned_47 rfl rfl ?_
    refine ev_iload (pc' := 51) dX6_turned_49 rfl rfl ?_
    refine ev_icmp_ge (tgt := 107) (pc' := 54) dX6_turned_51 (by decide) rfl (fun h_51 => ?_) (fun h_51 => ?_)
    · refine ev_iconst (pc' := 108) (v := -1) dX6_turned_107 rfl (by decide) ?_
      refine ev_ireturn rfl dX6_turned_108 ?_
      exact ⟨rfl, σ, rfl, h, hK⟩
    · exact absurd (nI_le (Nat.le_refl _) (by omega)) h_51 --
  | succ c ih =>
    intro k hk
    have ihk := ih (k + 1) (by omega)
    have hp := h.paper (show k < N by omega)
    have oP := kD_isPaper (d := d + 1) σ la sp rl tx (nI k)
    rw [hp] at oP
    have o1 := kD_reasonOf (d := d + 2) σ la sp rl tx 40 (Or.inr rfl) (nI k)
    have o2 := kD_reasonOf (d := d + 2) σ la sp rl tx 40 (Or.inr rfl) (nI k)
    rw [atF_nI _ (by omega) (by omega)] at o1 o2
    have e1 : F 0 k ≤ 2 → σ (40 + 1) k = (dS F lv A n).2.2.2.1 k := fun z => (a_why hB1 (show k < n by omega) z).1
    have e2 : F 0 k ≤ 2 → σ (40 + 1) k = (dS F lv A m).2.2.2.1 k := fun z => (a_why hB2 (show k < m by omega) z).1
    obtain ⟨T, hT⟩ : ∃ T, T = sp_turn F (dS F lv A n).2.2.2.1 (dS F lv A m).2.2.2.1 (c + 1) k := ⟨_, rfl⟩
    rw [← hT]
    rw [sp_turn] at hT
    generalize σ (40 + 1) k = V1 at *
    generalize σ (40 + 1) k = V2 at *
    refine ev_iload (pc' := 49) dX6_turned_47 rfl rfl ?_
    refine ev_iload (pc' := 51) dX6_turned_49 rfl rfl ?_
    refine ev_icmp_ge (tgt := 107) (pc' := 54) dX6_turned_51 (by decide) rfl (fun h_51 => ?_) (fun h_51 => ?_)
    · exact absurd h_51 (nI_ge (by omega) (by omega)) --
    · refine ev_aload_n (pc' := 55) dX6_turned_54 rfl rfl ?_
      refine ev_getf (pc' := 58) fl_6_12 dX6_turned_55 rfl rfl rfl ?_
      refine ev_iload (pc' := 60) dX6_turned_58 rfl rfl ?_
      refine ev_cVi1 (pc' := 63) cl_6_95 (oP) dX6_turned_60 rfl rfl rfl rfl ?_
      refine ev_if_eq (tgt := 101) (pc' := 66) dX6_turned_63 (by decide) rfl (fun h_63 => ?_) (fun h_63 => ?_)
      · rw [if_neg (fun z => of_decide_eq_false (bI_0' h_63) z.1)] at hT
        refine ev_iinc (pc' := 104) (ls' := [_, _, _, _, _, _, _]) dX6_turned_101 rfl rfl rfl rfl rfl ?_
        refine ev_goto (tgt := 47) dX6_turned_104 (by decide) ?_
        rw [nI_p1, hT]
        exact ihk
      · have q := of_decide_eq_true (bI_1' h_63)
        have q1 := e1 q
        have q2 := e2 q
        refine ev_aload_n (pc' := 67) dX6_turned_66 rfl rfl ?_
        refine ev_iload (pc' := 69) dX6_turned_67 rfl rfl ?_
        refine ev_cVi1 (pc' := 72) cl_6_112 (o1) dX6_turned_69 rfl rfl rfl rfl ?_
        refine ev_if_ne (tgt := 79) (pc' := 75) dX6_turned_72 (by decide) rfl (fun h_72 => ?_) (fun h_72 => ?_)
        · rw [q1] at h_72
          refine ev_iconst (pc' := 80) (v := 0) dX6_turned_79 rfl (by decide) ?_
          refine ev_aload (pc' := 82) dX6_turned_80 rfl rfl ?_
          refine ev_iload (pc' := 84) dX6_turned_82 rfl rfl ?_
          refine ev_cVi1 (pc' := 87) cl_6_112 (o2) dX6_turned_84 rfl rfl rfl rfl ?_
          refine ev_if_ne (tgt := 94) (pc' := 90) dX6_turned_87 (by decide) rfl (fun h_87 => ?_) (fun h_87 => ?_)
          · rw [q2] at h_87
            refine ev_iconst (pc' := 95) (v := 0) dX6_turned_94 rfl (by decide) ?_
            refine ev_icmp_eq (tgt := 101) (pc' := 98) dX6_turned_95 (by decide) rfl (fun h_95 => ?_) (fun h_95 => ?_)
            · rw [if_neg (fun z => z.2 ⟨fun w => absurd w h_72, fun w => absurd w h_87⟩)] at hT
              refine ev_iinc (pc' := 104) (ls' := [_, _, _, _, _, _, _]) dX6_turned_101 rfl rfl rfl rfl rfl ?_
              refine ev_goto (tgt := 47) dX6_turned_104 (by decide) ?_
              rw [nI_p1, hT]
              exact ihk
            · exact absurd rfl h_95 --
          · rw [q2] at h_87
            refine ev_iconst (pc' := 91) (v := 1) dX6_turned_90 rfl (by decide) ?_
            refine ev_goto (tgt := 95) dX6_turned_91 (by decide) ?_
            refine ev_icmp_eq (tgt := 101) (pc' := 98) dX6_turned_95 (by decide) rfl (fun h_95 => ?_) (fun h_95 => ?_)
            · exact absurd h_95 (by decide) --
            · rw [if_pos ⟨q, fun w => h_72 (w.mpr h_87)⟩] at hT
              refine ev_iload (pc' := 100) dX6_turned_98 rfl rfl ?_
              refine ev_ireturn rfl dX6_turned_100 ?_
              exact ⟨by rw [hT], σ, rfl, h, hK⟩
        · rw [q1] at h_72
          refine ev_iconst (pc' := 76) (v := 1) dX6_turned_75 rfl (by decide) ?_
          refine ev_goto (tgt := 80) dX6_turned_76 (by decide) ?_
          refine ev_aload (pc' := 82) dX6_turned_80 rfl rfl ?_
          refine ev_iload (pc' := 84) dX6_turned_82 rfl rfl ?_
          refine ev_cVi1 (pc' := 87) cl_6_112 (o2) dX6_turned_84 rfl rfl rfl rfl ?_
          refine ev_if_ne (tgt := 94) (pc' := 90) dX6_turned_87 (by decide) rfl (fun h_87 => ?_) (fun h_87 => ?_)
          · rw [q2] at h_87
            refine ev_iconst (pc' := 95) (v := 0) dX6_turned_94 rfl (by decide) ?_
            refine ev_icmp_eq (tgt := 101) (pc' := 98) dX6_turned_95 (by decide) rfl (fun h_95 => ?_) (fun h_95 => ?_)
            · exact absurd h_95 (by decide) --
            · rw [if_pos ⟨q, fun w => h_87 (w.mp h_72)⟩] at hT
              refine ev_iload (pc' := 100) dX6_turned_98 rfl rfl ?_
              refine ev_ireturn rfl dX6_turned_100 ?_
              exact ⟨by rw [hT], σ, rfl, h, hK⟩
          · rw [q2] at h_87
            refine ev_iconst (pc' := 91) (v := 1) dX6_turned_90 rfl (by decide) ?_
            refine ev_goto (tgt := 95) dX6_turned_91 (by decide) ?_
            refine ev_icmp_eq (tgt := 101) (pc' := 98) dX6_turned_95 (by decide) rfl (fun h_95 => ?_) (fun h_95 => ?_)
            · rw [if_neg (fun z => z.2 ⟨fun _ => h_87, fun _ => h_72⟩)] at hT
              refine ev_iinc (pc' := 104) (ls' := [_, _, _, _, _, _, _]) dX6_turned_101 rfl rfl rfl rfl rfl ?_
              refine ev_goto (tgt := 47) dX6_turned_104 (by decide) ?_
              rw [nI_p1, hT]
              exact ihk
            · exact absurd rfl h_95 --
theorem nI_min (a b : Nat) (ha : a ≤ 120) (hb : b ≤ 120) : mn (nI a) (nI b) = nI (min a b) := by
  unfold mn
  by_cases h : b < a
  · rw [if_pos (nI_lt h (by omega)), Nat.min_eq_right (by omega)]
  · rw [if_neg (nI_nlt (by omega) (by omega)), Nat.min_eq_left (by omega)]
