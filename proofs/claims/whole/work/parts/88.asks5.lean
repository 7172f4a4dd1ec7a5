/-! The class answers (class 6): what turned; how many. -/
theorem d_turned {d : Nat} {F : FF} {lv : Nat → Int32} {A : List YL} {P N r la : Nat} {σ : RS} (sp rl tx : Nat) (h : cI F lv A P N r la σ) (x z : Int32) : Ok (d + 21) M6_turned [.ref 0, .int x, .int z] (WD σ la sp rl tx) (qd F lv A P N r la σ sp rl tx (S_turned F lv A N x z)) := by
  have hP := h.2.1.1
  have hN := h.2.1.2.1
  have h7 : σ 2 7 = nI P := h.2.2.1
  have h8 : σ 2 8 = nI N := h.2.2.2.1
  by_cases hg : b_isFirst (nI N) x = true ∧ b_isFirst (nI N) z = true
  · obtain ⟨g1, g2⟩ := hg
    obtain ⟨n, n1, rfl⟩ := isN_of hN g1
    obtain ⟨m, m1, rfl⟩ := isN_of hN g2
    have e : S_turned F lv A N (nI n) (nI m) = sp_turn F (dS F lv A n).2.2.2.1 (dS F lv A m).2.2.2.1 (min n m) 0 := by
      unfold S_turned
      rw [if_pos ⟨g1, g2⟩]
      simp only [nt_nI (show n < 2 ^ 31 by omega), nt_nI (show m < 2 ^ 31 by omega)]
    rw [e]
    rw [← h8] at g1 g2
    have kk : ∀ kb1 kb2 σ2 z4 z5 z6, kb_ok kb1 → kb_ok kb2 → cI F lv A P N r la σ2 → dK la σ σ2 → kGood F lv A n (dk kb1 10 σ2) → kGood F lv A m (dk kb2 10 σ2) → Ev (d + 21) M6_turned (qd F lv A P N r la σ sp rl tx (sp_turn F (dS F lv A n).2.2.2.1 (dS F lv A m).2.2.2.1 (min n m) 0)) 35 [some (.ref 0), some (.int (nI n)), some (.int (nI m)), some (.ref kb1), z4, z5, z6] [.ref kb2] (WD σ2 la sp rl tx) := by
      intro kb1 kb2 σ2 z4 z5 z6 hk1 hk2 hI hK hG1 hG2
      have hmin : (if nI m < nI n then nI m else nI n) = nI (min n m) := nI_min n m (by omega) (by omega)
      rcases hk1 with rfl | rfl <;> rcases hk2 with rfl | rfl
      · skip
        refine ev_astore (pc' := 37) (ls' := [_, _, _, _, _, _, _]) dX6_turned_35 rfl rfl rfl ?_
        refine ev_iload_n (pc' := 38) dX6_turned_37 rfl rfl ?_
        refine ev_iload_n (pc' := 39) dX6_turned_38 rfl rfl ?_
        refine ev_mmin (pc' := 42) pw_6_173 dX6_turned_39 rfl rfl ?_
        rw [hmin]
        refine ev_istore (pc' := 44) (ls' := [_, _, _, _, _, _, _]) dX6_turned_42 rfl rfl rfl ?_
        refine ev_iconst (pc' := 45) (v := 0) dX6_turned_44 rfl (by decide) ?_
        refine ev_istore (pc' := 47) (ls' := [_, _, _, _, _, _, _]) dX6_turned_45 rfl rfl rfl ?_
        exact d_turned_30_30 (d := d + 17) sp rl tx hI hK n m (min n m) n1 m1 ⟨Nat.min_le_left _ _, Nat.min_le_right _ _⟩ hG1 hG2 _ _ (min n m) 0 (by omega)
      · skip
        refine ev_astore (pc' := 37) (ls' := [_, _, _, _, _, _, _]) dX6_turned_35 rfl rfl rfl ?_
        refine ev_iload_n (pc' := 38) dX6_turned_37 rfl rfl ?_
        refine ev_iload_n (pc' := 39) dX6_turned_38 rfl rfl ?_
        refine ev_mmin (pc' := 42) pw_6_173 dX6_turned_39 rfl rfl ?_
        rw [hmin]
        refine ev_istore (pc' := 44) (ls' := [_, _, _, _, _, _, _]) dX6_turned_42 rfl rfl rfl ?_
        refine ev_iconst (pc' := 45) (v := 0) dX6_turned_44 rfl (by decide) ?_
        refine ev_istore (pc' := 47) (ls' := [_, _, _, _, _, _, _]) dX6_turned_45 rfl rfl rfl ?_
        exact d_turned_30_40 (d := d + 17) sp rl tx hI hK n m (min n m) n1 m1 ⟨Nat.min_le_left _ _, Nat.min_le_right _ _⟩ hG1 hG2 _ _ (min n m) 0 (by omega)
      · skip
        refine ev_astore (pc' := 37) (ls' := [_, _, _, _, _, _, _]) dX6_turned_35 rfl rfl rfl ?_
        refine ev_iload_n (pc' := 38) dX6_turned_37 rfl rfl ?_
        refine ev_iload_n (pc' := 39) dX6_turned_38 rfl rfl ?_
        refine ev_mmin (pc' := 42) pw_6_173 dX6_turned_39 rfl rfl ?_
        rw [hmin]
        refine ev_istore (pc' := 44) (ls' := [_, _, _, _, _, _, _]) dX6_turned_42 rfl rfl rfl ?_
        refine ev_iconst (pc' := 45) (v := 0) dX6_turned_44 rfl (by decide) ?_
        refine ev_istore (pc' := 47) (ls' := [_, _, _, _, _, _, _]) dX6_turned_45 rfl rfl rfl ?_
        exact d_turned_40_30 (d := d + 17) sp rl tx hI hK n m (min n m) n1 m1 ⟨Nat.min_le_left _ _, Nat.min_le_right _ _⟩ hG1 hG2 _ _ (min n m) 0 (by omega)
      · skip
        refine ev_astore (pc' := 37) (ls' := [_, _, _, _, _, _, _]) dX6_turned_35 rfl rfl rfl ?_
        refine ev_iload_n (pc' := 38) dX6_turned_37 rfl rfl ?_
        refine ev_iload_n (pc' := 39) dX6_turned_38 rfl rfl ?_
        refine ev_mmin (pc' := 42) pw_6_173 dX6_turned_39 rfl rfl ?_
        rw [hmin]
        refine ev_istore (pc' := 44) (ls' := [_, _, _, _, _, _, _]) dX6_turned_42 rfl rfl rfl ?_
        refine ev_iconst (pc' := 45) (v := 0) dX6_turned_44 rfl (by decide) ?_
        refine ev_istore (pc' := 47) (ls' := [_, _, _, _, _, _, _]) dX6_turned_45 rfl rfl rfl ?_
        exact d_turned_40_40 (d := d + 17) sp rl tx hI hK n m (min n m) n1 m1 ⟨Nat.min_le_left _ _, Nat.min_le_right _ _⟩ hG1 hG2 _ _ (min n m) 0 (by omega)
    refine Ok.of (ls := [some _, some _, some _, none, none, none, none]) (by decide +kernel) (Nat.le_of_ble_eq_true rfl) rfl ?_
    refine ev_aload_n (pc' := 1) dX6_turned_0 rfl rfl ?_
    refine ev_getf (pc' := 4) fl_6_12 dX6_turned_1 rfl rfl rfl ?_
    refine ev_iload_n (pc' := 5) dX6_turned_4 rfl rfl ?_
    refine ev_cVi1 (pc' := 8) cl_6_118 (kD_hasFirst _ _ _ _ _ _) dX6_turned_5 rfl rfl rfl rfl ?_
    refine ev_if_eq (tgt := 22) (pc' := 11) dX6_turned_8 (by decide) rfl (fun h_8 => ?_) (fun h_8 => ?_)
    · exact absurd h_8 (by rw [g1]; decide) --
    · refine ev_aload_n (pc' := 12) dX6_turned_11 rfl rfl ?_
      refine ev_getf (pc' := 15) fl_6_12 dX6_turned_12 rfl rfl rfl ?_
      refine ev_iload_n (pc' := 16) dX6_turned_15 rfl rfl ?_
      refine ev_cVi1 (pc' := 19) cl_6_118 (kD_hasFirst _ _ _ _ _ _) dX6_turned_16 rfl rfl rfl rfl ?_
      refine ev_if_ne (tgt := 24) (pc' := 22) dX6_turned_19 (by decide) rfl (fun h_19 => ?_) (fun h_19 => ?_)
      · refine ev_aload_n (pc' := 25) dX6_turned_24 rfl rfl ?_
        refine ev_iload_n (pc' := 26) dX6_turned_25 rfl rfl ?_
        refine ev_cVr1 (pc' := 29) cl_6_108 (kD_knownBy sp rl tx h n1) dX6_turned_26 rfl rfl rfl rfl ?_
        rintro v w1 ⟨kb1, σ1, hk1, rfl, rfl, hI1, hK1, hG1, hp1, -⟩ -
        refine ev_astore_n (pc' := 30) (ls' := [_, _, _, _, _, _, _]) dX6_turned_29 rfl rfl rfl ?_
        refine ev_aload_n (pc' := 31) dX6_turned_30 rfl rfl ?_
        refine ev_iload_n (pc' := 32) dX6_turned_31 rfl rfl ?_
        refine ev_cVr1 (pc' := 35) cl_6_108 (kD_knownBy sp rl tx hI1 m1) dX6_turned_32 rfl rfl rfl rfl ?_
        rintro v w1 ⟨kb2, σ2, hk2, rfl, rfl, hI2, hK2, hG2, -, hpr⟩ -
        exact kk kb1 kb2 σ2 _ _ _ hk1 hk2 hI2 (hK1.trans hK2) (by have := hpr n (by rw [hp1]; exact hG1); rwa [hp1] at this) hG2
      · exact absurd h_19 (by rw [g2]; decide) --
  · have e : S_turned F lv A N x z = -1 := if_neg hg
    rw [e]
    refine Ok.of (ls := [some _, some _, some _, none, none, none, none]) (by decide +kernel) (Nat.le_of_ble_eq_true rfl) rfl ?_
    refine ev_aload_n (pc' := 1) dX6_turned_0 rfl rfl ?_
    refine ev_getf (pc' := 4) fl_6_12 dX6_turned_1 rfl rfl rfl ?_
    refine ev_iload_n (pc' := 5) dX6_turned_4 rfl rfl ?_
    refine ev_cVi1 (pc' := 8) cl_6_118 (kD_hasFirst _ _ _ _ _ _) dX6_turned_5 rfl rfl rfl rfl ?_
    refine ev_if_eq (tgt := 22) (pc' := 11) dX6_turned_8 (by decide) rfl (fun h_8 => ?_) (fun h_8 => ?_)
    · refine ev_iconst (pc' := 23) (v := -1) dX6_turned_22 rfl (by decide) ?_
      refine ev_ireturn rfl dX6_turned_23 ?_
      exact ⟨rfl, σ, rfl, h, dK.refl la σ⟩
    · have q1 := bI_1' h_8
      refine ev_aload_n (pc' := 12) dX6_turned_11 rfl rfl ?_
      refine ev_getf (pc' := 15) fl_6_12 dX6_turned_12 rfl rfl rfl ?_
      refine ev_iload_n (pc' := 16) dX6_turned_15 rfl rfl ?_
      refine ev_cVi1 (pc' := 19) cl_6_118 (kD_hasFirst _ _ _ _ _ _) dX6_turned_16 rfl rfl rfl rfl ?_
      refine ev_if_ne (tgt := 24) (pc' := 22) dX6_turned_19 (by decide) rfl (fun h_19 => ?_) (fun h_19 => ?_)
      · exact absurd ⟨by rw [← h8]; exact q1, by rw [← h8]; exact bI_1' h_19⟩ hg --
      · refine ev_iconst (pc' := 23) (v := -1) dX6_turned_22 rfl (by decide) ?_
        refine ev_ireturn rfl dX6_turned_23 ?_
        exact ⟨rfl, σ, rfl, h, dK.refl la σ⟩
/-- how many papers -/
def sp_papers (F : FF) : Nat → Int32
  | 0 => 0
  | k + 1 => sp_papers F k + (if F 0 k ≤ 2 then 1 else 0)
def S_count (F : FF) (A : List YL) (P N : Nat) (len x : Int32) : Int32 := if x = 0 then nI P else if x = 1 then nI N else if x = 2 then sp_papers F N else if x = 3 then nI A.length else if x = 4 then len else -1
theorem PD_lawa (σ : RS) (la sp rl tx : Nat) : Part (WD σ la sp rl tx) [10, 11, 12, 13, 14, 15, 16, 17] (ρo [10, 11, 12, 13, 14, 15, 16, 17]) (WL (fun k => σ (10 + k)) (σ 17)) := Part.of _ rfl rfl rfl
theorem PD_lawb (σ : RS) (la sp rl tx : Nat) : Part (WD σ la sp rl tx) [18, 19, 20, 21, 22, 23, 24, 25] (ρo [18, 19, 20, 21, 22, 23, 24, 25]) (WL (fun k => σ (18 + k)) (σ 25)) := Part.of _ rfl rfl rfl
theorem d_count {d : Nat} {F : FF} {lv : Nat → Int32} {A : List YL} {P N r la : Nat} {σ : RS} (sp rl tx : Nat) (h : cI F lv A P N r la σ) (hb : σ 2 9 = sp_papers F N) (x : Int32) : Ok (d + 21) M6_count [.ref 0, .int x] (WD σ la sp rl tx) (qd F lv A P N r la σ sp rl tx (S_count F A P N (σ 0 2) x)) := by
  have hP := h.2.1.1
  have hN := h.2.1.2.1
  have h7 : σ 2 7 = nI P := h.2.2.1
  have h8 : σ 2 8 = nI N := h.2.2.2.1
  have hA : (lw (dk 30 la σ)) 0 8 = nI A.length := h.2.2.2.2.2.2.1.1
  have oP : Ok (d + 20) M0_personCount [.ref 2] (WD σ la sp rl tx) (rt (some (.int (σ 2 7))) (WD σ la sp rl tx)) := Ok.roP (k_personCount (bd σ)) (PD_book σ la sp rl tx) rfl
  have oN : Ok (d + 20) M0_factCount [.ref 2] (WD σ la sp rl tx) (rt (some (.int (σ 2 8))) (WD σ la sp rl tx)) := Ok.roP (k_factCount (bd σ)) (PD_book σ la sp rl tx) rfl
  have oQ : Ok (d + 20) M0_paperCount [.ref 2] (WD σ la sp rl tx) (rt (some (.int (σ 2 9))) (WD σ la sp rl tx)) := Ok.roP (k_paperCount (bd σ)) (PD_book σ la sp rl tx) rfl
  rw [h7] at oP
  rw [h8] at oN
  rw [hb] at oQ
  have hla := h.1
  obtain ⟨T, hT⟩ : ∃ T, T = S_count F A P N (σ 0 2) x := ⟨_, rfl⟩
  rw [← hT]
  unfold S_count at hT
  rcases hla with rfl | rfl
  · have oR : Ok (d + 20) M2_ruleCount [.ref 10] (WD σ 10 sp rl tx) (rt (some (.int (σ 10 8))) (WD σ 10 sp rl tx)) := Ok.roP (k_ruleCount (fun k => σ (10 + k)) (σ 17)) (PD_lawa σ 10 sp rl tx) rfl
    rw [show σ 10 8 = nI A.length from hA] at oR
    refine Ok.of (ls := [some _, some _]) (by decide +kernel) (Nat.le_of_ble_eq_true rfl) rfl ?_
    refine ev_iload_n (pc' := 1) dX6_count_0 rfl rfl ?_
    refine ev_case (c := 0) (fun h_1_0 => ?_) (fun h_1_0 => ?_)
    · refine ev_tableIn (off := 35) (tgt := 36) dX6_count_1 (by decide) (by decide) (by decide) (by decide) ?_
      refine ev_aload_n (pc' := 37) dX6_count_36 rfl rfl ?_
      refine ev_getf (pc' := 40) fl_6_12 dX6_count_37 rfl rfl rfl ?_
      refine ev_cVi0 (pc' := 43) cl_6_178 (oP) dX6_count_40 rfl rfl rfl rfl ?_
      refine ev_ireturn rfl dX6_count_43 ?_
      rw [if_pos h_1_0] at hT
      rw [hT]
      exact ⟨rfl, σ, rfl, h, dK.refl _ σ⟩
    refine ev_case (c := 1) (fun h_1_1 => ?_) (fun h_1_1 => ?_)
    · refine ev_tableIn (off := 43) (tgt := 44) dX6_count_1 (by decide) (by decide) (by decide) (by decide) ?_
      refine ev_aload_n (pc' := 45) dX6_count_44 rfl rfl ?_
      refine ev_getf (pc' := 48) fl_6_12 dX6_count_45 rfl rfl rfl ?_
      refine ev_cVi0 (pc' := 51) cl_6_181 (oN) dX6_count_48 rfl rfl rfl rfl ?_
      refine ev_ireturn rfl dX6_count_51 ?_
      rw [if_neg h_1_0, if_pos h_1_1] at hT
      rw [hT]
      exact ⟨rfl, σ, rfl, h, dK.refl _ σ⟩
    refine ev_case (c := 2) (fun h_1_2 => ?_) (fun h_1_2 => ?_)
    · refine ev_tableIn (off := 51) (tgt := 52) dX6_count_1 (by decide) (by decide) (by decide) (by decide) ?_
      refine ev_aload_n (pc' := 53) dX6_count_52 rfl rfl ?_
      refine ev_getf (pc' := 56) fl_6_12 dX6_count_53 rfl rfl rfl ?_
      refine ev_cVi0 (pc' := 59) cl_6_184 (oQ) dX6_count_56 rfl rfl rfl rfl ?_
      refine ev_ireturn rfl dX6_count_59 ?_
      rw [if_neg h_1_0, if_neg h_1_1, if_pos h_1_2] at hT
      rw [hT]
      exact ⟨rfl, σ, rfl, h, dK.refl _ σ⟩
    refine ev_case (c := 3) (fun h_1_3 => ?_) (fun h_1_3 => ?_)
    · refine ev_tableIn (off := 59) (tgt := 60) dX6_count_1 (by decide) (by decide) (by decide) (by decide) ?_
      refine ev_aload_n (pc' := 61) dX6_count_60 rfl rfl ?_
      refine ev_getf (pc' := 64) fl_6_27 dX6_count_61 rfl rfl rfl ?_
      refine ev_cVi0 (pc' := 67) cl_6_187 (oR) dX6_count_64 rfl rfl rfl rfl ?_
      refine ev_ireturn rfl dX6_count_67 ?_
      rw [if_neg h_1_0, if_neg h_1_1, if_neg h_1_2, if_pos h_1_3] at hT
      rw [hT]
      exact ⟨rfl, σ, rfl, h, dK.refl _ σ⟩
    refine ev_case (c := 4) (fun h_1_4 => ?_) (fun h_1_4 => ?_)
    · refine ev_tableIn (off := 67) (tgt := 68) dX6_count_1 (by decide) (by decide) (by decide) (by decide) ?_
      refine ev_aload_n (pc' := 69) dX6_count_68 rfl rfl ?_
      refine ev_getf (pc' := 72) fl_6_20 dX6_count_69 rfl rfl rfl ?_
      refine ev_ireturn rfl dX6_count_72 ?_
      rw [if_neg h_1_0, if_neg h_1_1, if_neg h_1_2, if_neg h_1_3, if_pos h_1_4] at hT
      rw [hT]
      exact ⟨rfl, σ, rfl, h, dK.refl _ σ⟩
    refine ev_tableOut (tgt := 73) dX6_count_1 (by simp only [fa_eq, Int32.reduceToInt] at h_1_0 h_1_1 h_1_2 h_1_3 h_1_4; omega) (by decide) ?_
    refine ev_iconst (pc' := 74) (v := -1) dX6_count_73 rfl (by decide) ?_
    refine ev_ireturn rfl dX6_count_74 ?_
    rw [if_neg h_1_0, if_neg h_1_1, if_neg h_1_2, if_neg h_1_3, if_neg h_1_4] at hT
    rw [hT]
    exact ⟨rfl, σ, rfl, h, dK.refl _ σ⟩
  · have oR : Ok (d + 20) M2_ruleCount [.ref 18] (WD σ 18 sp rl tx) (rt (some (.int (σ 18 8))) (WD σ 18 sp rl tx)) := Ok.roP (k_ruleCount (fun k => σ (18 + k)) (σ 25)) (PD_lawb σ 18 sp rl tx) rfl
    rw [show σ 18 8 = nI A.length from hA] at oR
    refine Ok.of (ls := [some _, some _]) (by decide +kernel) (Nat.le_of_ble_eq_true rfl) rfl ?_
    refine ev_iload_n (pc' := 1) dX6_count_0 rfl rfl ?_
    refine ev_case (c := 0) (fun h_1_0 => ?_) (fun h_1_0 => ?_)
    · refine ev_tableIn (off := 35) (tgt := 36) dX6_count_1 (by decide) (by decide) (by decide) (by decide) ?_
      refine ev_aload_n (pc' := 37) dX6_count_36 rfl rfl ?_
      refine ev_getf (pc' := 40) fl_6_12 dX6_count_37 rfl rfl rfl ?_
      refine ev_cVi0 (pc' := 43) cl_6_178 (oP) dX6_count_40 rfl rfl rfl rfl ?_
      refine ev_ireturn rfl dX6_count_43 ?_
      rw [if_pos h_1_0] at hT
      rw [hT]
      exact ⟨rfl, σ, rfl, h, dK.refl _ σ⟩
    refine ev_case (c := 1) (fun h_1_1 => ?_) (fun h_1_1 => ?_)
    · refine ev_tableIn (off := 43) (tgt := 44) dX6_count_1 (by decide) (by decide) (by decide) (by decide) ?_
      refine ev_aload_n (pc' := 45) dX6_count_44 rfl rfl ?_
      refine ev_getf (pc' := 48) fl_6_12 dX6_count_45 rfl rfl rfl ?_
      refine ev_cVi0 (pc' := 51) cl_6_181 (oN) dX6_count_48 rfl rfl rfl rfl ?_
      refine ev_ireturn rfl dX6_count_51 ?_
      rw [if_neg h_1_0, if_pos h_1_1] at hT
      rw [hT]
      exact ⟨rfl, σ, rfl, h, dK.refl _ σ⟩
    refine ev_case (c := 2) (fun h_1_2 => ?_) (fun h_1_2 => ?_)
    · refine ev_tableIn (off := 51) (tgt := 52) dX6_count_1 (by decide) (by decide) (by decide) (by decide) ?_
      refine ev_aload_n (pc' := 53) dX6_count_52 rfl rfl ?_
      refine ev_getf (pc' := 56) fl_6_12 dX6_count_53 rfl rfl rfl ?_
      refine ev_cVi0 (pc' := 59) cl_6_184 (oQ) dX6_count_56 rfl rfl rfl rfl ?_
      refine ev_ireturn rfl dX6_count_59 ?_
      rw [if_neg h_1_0, if_neg h_1_1, if_pos h_1_2] at hT
      rw [hT]
      exact ⟨rfl, σ, rfl, h, dK.refl _ σ⟩
    refine ev_case (c := 3) (fun h_1_3 => ?_) (fun h_1_3 => ?_)
    · refine ev_tableIn (off := 59) (tgt := 60) dX6_count_1 (by decide) (by decide) (by decide) (by decide) ?_
      refine ev_aload_n (pc' := 61) dX6_count_60 rfl rfl ?_
      refine ev_getf (pc' := 64) fl_6_27 dX6_count_61 rfl rfl rfl ?_
      refine ev_cVi0 (pc' := 67) cl_6_187 (oR) dX6_count_64 rfl rfl rfl rfl ?_
      refine ev_ireturn rfl dX6_count_67 ?_
      rw [if_neg h_1_0, if_neg h_1_1, if_neg h_1_2, if_pos h_1_3] at hT
      rw [hT]
      exact ⟨rfl, σ, rfl, h, dK.refl _ σ⟩
    refine ev_case (c := 4) (fun h_1_4 => ?_) (fun h_1_4 => ?_)
    · refine ev_tableIn (off := 67) (tgt := 68) dX6_count_1 (by decide) (by decide) (by decide) (by decide) ?_
      refine ev_aload_n (pc' := 69) dX6_count_68 rfl rfl ?_
      refine ev_getf (pc' := 72) fl_6_20 dX6_count_69 rfl rfl rfl ?_
      refine ev_ireturn rfl dX6_count_72 ?_
      rw [if_neg h_1_0, if_neg h_1_1, if_neg h_1_2, if_neg h_1_3, if_pos h_1_4] at hT
      rw [hT]
      exact ⟨rfl, σ, rfl, h, dK.refl _ σ⟩
    refine ev_tableOut (tgt := 73) dX6_count_1 (by simp only [fa_eq, Int32.reduceToInt] at h_1_0 h_1_1 h_1_2 h_1_3 h_1_4; omega) (by decide) ?_
    refine ev_iconst (pc' := 74) (v := -1) dX6_count_73 rfl (by decide) ?_
    refine ev_ireturn rfl dX6_count_74 ?_
    rw [if_neg h_1_0, if_neg h_1_1, if_neg h_1_2, if_neg h_1_3, if_neg h_1_4] at hT
    rw [hT]
    exact ⟨rfl, σ, rfl, h, dK.refl _ σ⟩
