/-! THE READER (class 4). Its world: the object (height 3, awaited 4, side 5, depth 6, tokens 7, fault 8), operators, the lexer (2: start, kind, value, length, next) and its text, the law (4: size 7, rules 8), its rows (5 to 11). -/
def WZ (σ : Nat → Nat → Int32) (g : Nat → Int32) : MW := [.inr (4, [.ref 2, .ref 1, .ref 4, .int (σ 0 3), .int (σ 0 4), .int (σ 0 5), .int (σ 0 6), .int (σ 0 7), .int (σ 0 8)]), .inl (.int, 400, .inl (σ 1)), .inr (3, [.int (σ 2 0), .int (σ 2 1), .int (σ 2 2), .ref 3, .int (σ 2 4), .int (σ 2 5)]), .inl (.int, 2000, .inl (σ 3)), .inr (2, [.ref 5, .ref 6, .ref 7, .ref 8, .ref 9, .ref 10, .ref 11, .int (σ 4 7), .int (σ 4 8)]), .inl (.int, 400, .inl (σ 5)), .inl (.int, 400, .inl (σ 6)), .inl (.boolean, 16, .inl (σ 7)), .inl (.int, 16, .inl (σ 8)), .inl (.int, 16, .inl (σ 9)), .inl (.int, 16, .inl (σ 10)), .inl (.int, 400, .inl g)]
theorem WZ_p4_3 (σ : Nat → Nat → Int32) (g : Nat → Int32) (v : Int32) : (WZ σ g).set 0 (.inr (4, [.ref 2, .ref 1, .ref 4, .int (σ 0 3), .int (σ 0 4), .int (σ 0 5), .int (σ 0 6), .int (σ 0 7), .int (σ 0 8)].set 3 (.int v))) = WZ (s2 σ 0 3 v) g := rfl
theorem WZ_p4_4 (σ : Nat → Nat → Int32) (g : Nat → Int32) (v : Int32) : (WZ σ g).set 0 (.inr (4, [.ref 2, .ref 1, .ref 4, .int (σ 0 3), .int (σ 0 4), .int (σ 0 5), .int (σ 0 6), .int (σ 0 7), .int (σ 0 8)].set 4 (.int v))) = WZ (s2 σ 0 4 v) g := rfl
theorem WZ_p4_5 (σ : Nat → Nat → Int32) (g : Nat → Int32) (v : Int32) : (WZ σ g).set 0 (.inr (4, [.ref 2, .ref 1, .ref 4, .int (σ 0 3), .int (σ 0 4), .int (σ 0 5), .int (σ 0 6), .int (σ 0 7), .int (σ 0 8)].set 5 (.int v))) = WZ (s2 σ 0 5 v) g := rfl
theorem WZ_p4_6 (σ : Nat → Nat → Int32) (g : Nat → Int32) (v : Int32) : (WZ σ g).set 0 (.inr (4, [.ref 2, .ref 1, .ref 4, .int (σ 0 3), .int (σ 0 4), .int (σ 0 5), .int (σ 0 6), .int (σ 0 7), .int (σ 0 8)].set 6 (.int v))) = WZ (s2 σ 0 6 v) g := rfl
theorem WZ_p4_7 (σ : Nat → Nat → Int32) (g : Nat → Int32) (v : Int32) : (WZ σ g).set 0 (.inr (4, [.ref 2, .ref 1, .ref 4, .int (σ 0 3), .int (σ 0 4), .int (σ 0 5), .int (σ 0 6), .int (σ 0 7), .int (σ 0 8)].set 7 (.int v))) = WZ (s2 σ 0 7 v) g := rfl
theorem WZ_p4_8 (σ : Nat → Nat → Int32) (g : Nat → Int32) (v : Int32) : (WZ σ g).set 0 (.inr (4, [.ref 2, .ref 1, .ref 4, .int (σ 0 3), .int (σ 0 4), .int (σ 0 5), .int (σ 0 6), .int (σ 0 7), .int (σ 0 8)].set 8 (.int v))) = WZ (s2 σ 0 8 v) g := rfl
theorem WZ_a1 (σ : Nat → Nat → Int32) (g : Nat → Int32) (g_ : Nat → Int32) : (WZ σ g).set 1 (.inl (.int, 400, .inl g_)) = WZ (s1 σ 1 g_) g := rfl
theorem WZ_p3_0 (σ : Nat → Nat → Int32) (g : Nat → Int32) (v : Int32) : (WZ σ g).set 2 (.inr (3, [.int (σ 2 0), .int (σ 2 1), .int (σ 2 2), .ref 3, .int (σ 2 4), .int (σ 2 5)].set 0 (.int v))) = WZ (s2 σ 2 0 v) g := rfl
theorem WZ_p3_1 (σ : Nat → Nat → Int32) (g : Nat → Int32) (v : Int32) : (WZ σ g).set 2 (.inr (3, [.int (σ 2 0), .int (σ 2 1), .int (σ 2 2), .ref 3, .int (σ 2 4), .int (σ 2 5)].set 1 (.int v))) = WZ (s2 σ 2 1 v) g := rfl
theorem WZ_p3_2 (σ : Nat → Nat → Int32) (g : Nat → Int32) (v : Int32) : (WZ σ g).set 2 (.inr (3, [.int (σ 2 0), .int (σ 2 1), .int (σ 2 2), .ref 3, .int (σ 2 4), .int (σ 2 5)].set 2 (.int v))) = WZ (s2 σ 2 2 v) g := rfl
theorem WZ_p3_4 (σ : Nat → Nat → Int32) (g : Nat → Int32) (v : Int32) : (WZ σ g).set 2 (.inr (3, [.int (σ 2 0), .int (σ 2 1), .int (σ 2 2), .ref 3, .int (σ 2 4), .int (σ 2 5)].set 4 (.int v))) = WZ (s2 σ 2 4 v) g := rfl
theorem WZ_p3_5 (σ : Nat → Nat → Int32) (g : Nat → Int32) (v : Int32) : (WZ σ g).set 2 (.inr (3, [.int (σ 2 0), .int (σ 2 1), .int (σ 2 2), .ref 3, .int (σ 2 4), .int (σ 2 5)].set 5 (.int v))) = WZ (s2 σ 2 5 v) g := rfl
theorem WZ_a3 (σ : Nat → Nat → Int32) (g : Nat → Int32) (g_ : Nat → Int32) : (WZ σ g).set 3 (.inl (.int, 2000, .inl g_)) = WZ (s1 σ 3 g_) g := rfl
theorem WZ_p2_7 (σ : Nat → Nat → Int32) (g : Nat → Int32) (v : Int32) : (WZ σ g).set 4 (.inr (2, [.ref 5, .ref 6, .ref 7, .ref 8, .ref 9, .ref 10, .ref 11, .int (σ 4 7), .int (σ 4 8)].set 7 (.int v))) = WZ (s2 σ 4 7 v) g := rfl
theorem WZ_p2_8 (σ : Nat → Nat → Int32) (g : Nat → Int32) (v : Int32) : (WZ σ g).set 4 (.inr (2, [.ref 5, .ref 6, .ref 7, .ref 8, .ref 9, .ref 10, .ref 11, .int (σ 4 7), .int (σ 4 8)].set 8 (.int v))) = WZ (s2 σ 4 8 v) g := rfl
theorem WZ_a5 (σ : Nat → Nat → Int32) (g : Nat → Int32) (g_ : Nat → Int32) : (WZ σ g).set 5 (.inl (.int, 400, .inl g_)) = WZ (s1 σ 5 g_) g := rfl
theorem WZ_a6 (σ : Nat → Nat → Int32) (g : Nat → Int32) (g_ : Nat → Int32) : (WZ σ g).set 6 (.inl (.int, 400, .inl g_)) = WZ (s1 σ 6 g_) g := rfl
theorem WZ_a7 (σ : Nat → Nat → Int32) (g : Nat → Int32) (g_ : Nat → Int32) : (WZ σ g).set 7 (.inl (.boolean, 16, .inl g_)) = WZ (s1 σ 7 g_) g := rfl
theorem WZ_a8 (σ : Nat → Nat → Int32) (g : Nat → Int32) (g_ : Nat → Int32) : (WZ σ g).set 8 (.inl (.int, 16, .inl g_)) = WZ (s1 σ 8 g_) g := rfl
theorem WZ_a9 (σ : Nat → Nat → Int32) (g : Nat → Int32) (g_ : Nat → Int32) : (WZ σ g).set 9 (.inl (.int, 16, .inl g_)) = WZ (s1 σ 9 g_) g := rfl
theorem WZ_a10 (σ : Nat → Nat → Int32) (g : Nat → Int32) (g_ : Nat → Int32) : (WZ σ g).set 10 (.inl (.int, 16, .inl g_)) = WZ (s1 σ 10 g_) g := rfl
theorem WZ_a11 (σ : Nat → Nat → Int32) (g : Nat → Int32) (g_ : Nat → Int32) : (WZ σ g).set 11 (.inl (.int, 400, .inl g_)) = WZ σ g_ := rfl
def z_isRel (k : Int32) : Bool := decide (k = 11 ∨ k = 12 ∨ k = 13 ∨ k = 14)
theorem k_isRelation {d : Nat} (w : MW) (c : Int32) : Ok d M4_isRelation [.int c] w (rt (some (.int (bI (z_isRel c)))) w) := by
  refine Ok.of (ls := [some _]) (by decide +kernel) (Nat.le_of_ble_eq_true rfl) rfl ?_
  refine ev_iload_n (pc' := 1) dX4_isRelation_0 rfl rfl ?_
  refine ev_bipush (pc' := 3) (v := 11) dX4_isRelation_1 rfl (by decide) ?_
  refine ev_icmp_eq (tgt := 24) (pc' := 6) dX4_isRelation_3 (by decide) rfl (fun h_3 => ?_) (fun h_3 => ?_)
  · refine ev_iconst (pc' := 25) (v := 1) dX4_isRelation_24 rfl (by decide) ?_
    refine ev_goto (tgt := 29) dX4_isRelation_25 (by decide) ?_
    refine ev_zreturn rfl rfl dX4_isRelation_29 ?_
    refine rt_i ?_ rfl
    unfold z_isRel
    simp_all [bI]
  · refine ev_iload_n (pc' := 7) dX4_isRelation_6 rfl rfl ?_
    refine ev_bipush (pc' := 9) (v := 12) dX4_isRelation_7 rfl (by decide) ?_
    refine ev_icmp_eq (tgt := 24) (pc' := 12) dX4_isRelation_9 (by decide) rfl (fun h_9 => ?_) (fun h_9 => ?_)
    · refine ev_iconst (pc' := 25) (v := 1) dX4_isRelation_24 rfl (by decide) ?_
      refine ev_goto (tgt := 29) dX4_isRelation_25 (by decide) ?_
      refine ev_zreturn rfl rfl dX4_isRelation_29 ?_
      refine rt_i ?_ rfl
      unfold z_isRel
      simp_all [bI]
    · refine ev_iload_n (pc' := 13) dX4_isRelation_12 rfl rfl ?_
      refine ev_bipush (pc' := 15) (v := 13) dX4_isRelation_13 rfl (by decide) ?_
      refine ev_icmp_eq (tgt := 24) (pc' := 18) dX4_isRelation_15 (by decide) rfl (fun h_15 => ?_) (fun h_15 => ?_)
      · refine ev_iconst (pc' := 25) (v := 1) dX4_isRelation_24 rfl (by decide) ?_
        refine ev_goto (tgt := 29) dX4_isRelation_25 (by decide) ?_
        refine ev_zreturn rfl rfl dX4_isRelation_29 ?_
        refine rt_i ?_ rfl
        unfold z_isRel
        simp_all [bI]
      · refine ev_iload_n (pc' := 19) dX4_isRelation_18 rfl rfl ?_
        refine ev_bipush (pc' := 21) (v := 14) dX4_isRelation_19 rfl (by decide) ?_
        refine ev_icmp_ne (tgt := 28) (pc' := 24) dX4_isRelation_21 (by decide) rfl (fun h_21 => ?_) (fun h_21 => ?_)
        · refine ev_iconst (pc' := 29) (v := 0) dX4_isRelation_28 rfl (by decide) ?_
          refine ev_zreturn rfl rfl dX4_isRelation_29 ?_
          refine rt_i ?_ rfl
          unfold z_isRel
          simp_all [bI]
        · refine ev_iconst (pc' := 25) (v := 1) dX4_isRelation_24 rfl (by decide) ?_
          refine ev_goto (tgt := 29) dX4_isRelation_25 (by decide) ?_
          refine ev_zreturn rfl rfl dX4_isRelation_29 ?_
          refine rt_i ?_ rfl
          unfold z_isRel
          simp_all [bI]
def z_rank (k : Int32) : Int32 := if k = 3 then 1 else if k = 4 then 2 else if k = 8 ∨ k = 9 then 4 else if k = 10 then 5 else if z_isRel k = true then 3 else 0
theorem k_rank {d : Nat} (w : MW) (c : Int32) : Ok (d + 1) M4_rank [.int c] w (rt (some (.int (z_rank c))) w) := by
  refine Ok.of (ls := [some _]) (by decide +kernel) (Nat.le_of_ble_eq_true rfl) rfl ?_
  refine ev_iload_n (pc' := 1) dX4_rank_0 rfl rfl ?_
  refine ev_case (c := 3) (fun h_1_3 => ?_) (fun h_1_3 => ?_)
  · refine ev_tableIn (off := 47) (tgt := 48) dX4_rank_1 (by decide) (by decide) (by decide) (by decide) ?_
    refine ev_iconst (pc' := 49) (v := 1) dX4_rank_48 rfl (by decide) ?_
    refine ev_ireturn rfl dX4_rank_49 ?_
    refine rt_i ?_ rfl
    unfold z_rank
    simp_all
  refine ev_case (c := 4) (fun h_1_4 => ?_) (fun h_1_4 => ?_)
  · refine ev_tableIn (off := 49) (tgt := 50) dX4_rank_1 (by decide) (by decide) (by decide) (by decide) ?_
    refine ev_iconst (pc' := 51) (v := 2) dX4_rank_50 rfl (by decide) ?_
    refine ev_ireturn rfl dX4_rank_51 ?_
    refine rt_i ?_ rfl
    unfold z_rank
    simp_all
  refine ev_case (c := 5) (fun h_1_5 => ?_) (fun h_1_5 => ?_)
  · refine ev_tableIn (off := 55) (tgt := 56) dX4_rank_1 (by decide) (by decide) (by decide) (by decide) ?_
    refine ev_iload_n (pc' := 57) dX4_rank_56 rfl rfl ?_
    refine ev_cSi1 (pc' := 60) cl_4_81 (k_isRelation _ _) dX4_rank_57 rfl rfl ?_
    refine ev_if_eq (tgt := 67) (pc' := 63) dX4_rank_60 (by decide) rfl (fun h_60 => ?_) (fun h_60 => ?_)
    · rw [bI_0] at h_60
      refine ev_iconst (pc' := 68) (v := 0) dX4_rank_67 rfl (by decide) ?_
      refine ev_ireturn rfl dX4_rank_68 ?_
      refine rt_i ?_ rfl
      unfold z_rank
      simp_all
    · rw [bI_0, Bool.not_eq_false] at h_60
      refine ev_iconst (pc' := 64) (v := 3) dX4_rank_63 rfl (by decide) ?_
      refine ev_goto (tgt := 68) dX4_rank_64 (by decide) ?_
      refine ev_ireturn rfl dX4_rank_68 ?_
      refine rt_i ?_ rfl
      unfold z_rank
      simp_all
  refine ev_case (c := 6) (fun h_1_6 => ?_) (fun h_1_6 => ?_)
  · refine ev_tableIn (off := 55) (tgt := 56) dX4_rank_1 (by decide) (by decide) (by decide) (by decide) ?_
    refine ev_iload_n (pc' := 57) dX4_rank_56 rfl rfl ?_
    refine ev_cSi1 (pc' := 60) cl_4_81 (k_isRelation _ _) dX4_rank_57 rfl rfl ?_
    refine ev_if_eq (tgt := 67) (pc' := 63) dX4_rank_60 (by decide) rfl (fun h_60 => ?_) (fun h_60 => ?_)
    · rw [bI_0] at h_60
      refine ev_iconst (pc' := 68) (v := 0) dX4_rank_67 rfl (by decide) ?_
      refine ev_ireturn rfl dX4_rank_68 ?_
      refine rt_i ?_ rfl
      unfold z_rank
      simp_all
    · rw [bI_0, Bool.not_eq_false] at h_60
      refine ev_iconst (pc' := 64) (v := 3) dX4_rank_63 rfl (by decide) ?_
      refine ev_goto (tgt := 68) dX4_rank_64 (by decide) ?_
      refine ev_ireturn rfl dX4_rank_68 ?_
      refine rt_i ?_ rfl
      unfold z_rank
      simp_all
  refine ev_case (c := 7) (fun h_1_7 => ?_) (fun h_1_7 => ?_)
  · refine ev_tableIn (off := 55) (tgt := 56) dX4_rank_1 (by decide) (by decide) (by decide) (by decide) ?_
    refine ev_iload_n (pc' := 57) dX4_rank_56 rfl rfl ?_
    refine ev_cSi1 (pc' := 60) cl_4_81 (k_isRelation _ _) dX4_rank_57 rfl rfl ?_
    refine ev_if_eq (tgt := 67) (pc' := 63) dX4_rank_60 (by decide) rfl (fun h_60 => ?_) (fun h_60 => ?_)
    · rw [bI_0] at h_60
      refine ev_iconst (pc' := 68) (v := 0) dX4_rank_67 rfl (by decide) ?_
      refine ev_ireturn rfl dX4_rank_68 ?_
      refine rt_i ?_ rfl
      unfold z_rank
      simp_all
    · rw [bI_0, Bool.not_eq_false] at h_60
      refine ev_iconst (pc' := 64) (v := 3) dX4_rank_63 rfl (by decide) ?_
      refine ev_goto (tgt := 68) dX4_rank_64 (by decide) ?_
      refine ev_ireturn rfl dX4_rank_68 ?_
      refine rt_i ?_ rfl
      unfold z_rank
      simp_all
  refine ev_case (c := 8) (fun h_1_8 => ?_) (fun h_1_8 => ?_)
  · refine ev_tableIn (off := 51) (tgt := 52) dX4_rank_1 (by decide) (by decide) (by decide) (by decide) ?_
    refine ev_iconst (pc' := 53) (v := 4) dX4_rank_52 rfl (by decide) ?_
    refine ev_ireturn rfl dX4_rank_53 ?_
    refine rt_i ?_ rfl
    unfold z_rank
    simp_all
  refine ev_case (c := 9) (fun h_1_9 => ?_) (fun h_1_9 => ?_)
  · refine ev_tableIn (off := 51) (tgt := 52) dX4_rank_1 (by decide) (by decide) (by decide) (by decide) ?_
    refine ev_iconst (pc' := 53) (v := 4) dX4_rank_52 rfl (by decide) ?_
    refine ev_ireturn rfl dX4_rank_53 ?_
    refine rt_i ?_ rfl
    unfold z_rank
    simp_all
  refine ev_case (c := 10) (fun h_1_10 => ?_) (fun h_1_10 => ?_)
  · refine ev_tableIn (off := 53) (tgt := 54) dX4_rank_1 (by decide) (by decide) (by decide) (by decide) ?_
    refine ev_iconst (pc' := 55) (v := 5) dX4_rank_54 rfl (by decide) ?_
    refine ev_ireturn rfl dX4_rank_55 ?_
    refine rt_i ?_ rfl
    unfold z_rank
    simp_all
  refine ev_tableOut (tgt := 56) dX4_rank_1 (by simp only [fa_eq, Int32.reduceToInt] at h_1_3 h_1_4 h_1_5 h_1_6 h_1_7 h_1_8 h_1_9 h_1_10; omega) (by decide) ?_
  refine ev_iload_n (pc' := 57) dX4_rank_56 rfl rfl ?_
  refine ev_cSi1 (pc' := 60) cl_4_81 (k_isRelation _ _) dX4_rank_57 rfl rfl ?_
  refine ev_if_eq (tgt := 67) (pc' := 63) dX4_rank_60 (by decide) rfl (fun h_60 => ?_) (fun h_60 => ?_)
  · rw [bI_0] at h_60
    refine ev_iconst (pc' := 68) (v := 0) dX4_rank_67 rfl (by decide) ?_
    refine ev_ireturn rfl dX4_rank_68 ?_
    refine rt_i ?_ rfl
    unfold z_rank
    simp_all
  · rw [bI_0, Bool.not_eq_false] at h_60
    refine ev_iconst (pc' := 64) (v := 3) dX4_rank_63 rfl (by decide) ?_
    refine ev_goto (tgt := 68) dX4_rank_64 (by decide) ?_
    refine ev_ireturn rfl dX4_rank_68 ?_
    refine rt_i ?_ rfl
    unfold z_rank
    simp_all
def z_push (σ : RS) (op : Int32) : RS := s2 (s1 σ 1 (putF 400 (σ 1) (σ 0 3) op)) 0 3 (σ 0 3 + 1)
theorem k_push {d : Nat} (σ : RS) (g : Nat → Int32) (op : Int32) : Ok (d + 1) M4_push [.ref 0, .int op] (WZ σ g) (rt none (WZ (z_push σ op) g)) := by
  refine Ok.of (ls := [some _, some _]) (by decide +kernel) (Nat.le_of_ble_eq_true rfl) rfl ?_
  refine ev_aload_n (pc' := 1) dX4_push_0 rfl rfl ?_
  refine ev_getf (pc' := 4) fl_4_18 dX4_push_1 rfl rfl rfl ?_
  refine ev_aload_n (pc' := 5) dX4_push_4 rfl rfl ?_
  refine ev_getf (pc' := 8) fl_4_22 dX4_push_5 rfl rfl rfl ?_
  refine ev_iload_n (pc' := 9) dX4_push_8 rfl rfl ?_
  refine ev_cNv3 (pc' := 12) cl_4_121 (k_put rfl (by decide) (WZ_a1 _ _ _)) dX4_push_9 rfl rfl ?_
  refine ev_aload_n (pc' := 13) dX4_push_12 rfl rfl ?_
  refine ev_dup (pc' := 14) dX4_push_13 rfl rfl ?_
  refine ev_getf (pc' := 17) fl_4_22 dX4_push_14 rfl rfl rfl ?_
  refine ev_iconst (pc' := 18) (v := 1) dX4_push_17 rfl (by decide) ?_
  refine ev_iadd (pc' := 19) dX4_push_18 rfl ?_
  refine ev_putf (pc' := 22) fs_4_22 dX4_push_19 rfl rfl (Nat.le_of_ble_eq_true rfl) (fun _ => rfl) (fun _ => rfl) (WZ_p4_3 _ _ _) ?_
  refine ev_return rfl dX4_push_22 ?_
  exact ⟨rfl, rfl⟩
def z_add (σ : RS) (c v : Int32) : RS := s2 (s1 (s1 σ 5 (putF 400 (σ 5) (σ 4 7) c)) 6 (putF 400 (σ 6) (σ 4 7) v)) 4 7 (σ 4 7 + 1)
theorem kz_add {d : Nat} (σ : RS) (g : Nat → Int32) (c v : Int32) : Ok (d + 1) M2_add [.ref 4, .int c, .int v] (WZ σ g) (rt none (WZ (z_add σ c v) g)) := by
  refine Ok.of (ls := [some _, some _, some _]) (by decide +kernel) (Nat.le_of_ble_eq_true rfl) rfl ?_
  refine ev_aload_n (pc' := 1) dX2_add_0 rfl rfl ?_
  refine ev_getf (pc' := 4) fl_2_9 dX2_add_1 rfl rfl rfl ?_
  refine ev_aload_n (pc' := 5) dX2_add_4 rfl rfl ?_
  refine ev_getf (pc' := 8) fl_2_34 dX2_add_5 rfl rfl rfl ?_
  refine ev_iload_n (pc' := 9) dX2_add_8 rfl rfl ?_
  refine ev_cNv3 (pc' := 12) cl_2_41 (k_put rfl (by decide) (WZ_a5 _ _ _)) dX2_add_9 rfl rfl ?_
  refine ev_aload_n (pc' := 13) dX2_add_12 rfl rfl ?_
  refine ev_getf (pc' := 16) fl_2_15 dX2_add_13 rfl rfl rfl ?_
  refine ev_aload_n (pc' := 17) dX2_add_16 rfl rfl ?_
  refine ev_getf (pc' := 20) fl_2_34 dX2_add_17 rfl rfl rfl ?_
  refine ev_iload_n (pc' := 21) dX2_add_20 rfl rfl ?_
  refine ev_cNv3 (pc' := 24) cl_2_41 (k_put rfl (by decide) (WZ_a6 _ _ _)) dX2_add_21 rfl rfl ?_
  refine ev_aload_n (pc' := 25) dX2_add_24 rfl rfl ?_
  refine ev_dup (pc' := 26) dX2_add_25 rfl rfl ?_
  refine ev_getf (pc' := 29) fl_2_34 dX2_add_26 rfl rfl rfl ?_
  refine ev_iconst (pc' := 30) (v := 1) dX2_add_29 rfl (by decide) ?_
  refine ev_iadd (pc' := 31) dX2_add_30 rfl ?_
  refine ev_putf (pc' := 34) fs_2_34 dX2_add_31 rfl rfl (Nat.le_of_ble_eq_true rfl) (fun _ => rfl) (fun _ => rfl) (WZ_p2_7 _ _ _) ?_
  refine ev_return rfl dX2_add_34 ?_
  exact ⟨rfl, rfl⟩
theorem kz_clear {d : Nat} (σ : RS) (g : Nat → Int32) : Ok d M2_clear [.ref 4] (WZ σ g) (rt none (WZ (s2 (s2 σ 4 7 0) 4 8 0) g)) := by
  refine Ok.of (ls := [some _]) (by decide +kernel) (Nat.le_of_ble_eq_true rfl) rfl ?_
  refine ev_aload_n (pc' := 1) dX2_clear_0 rfl rfl ?_
  refine ev_iconst (pc' := 2) (v := 0) dX2_clear_1 rfl (by decide) ?_
  refine ev_putf (pc' := 5) fs_2_34 dX2_clear_2 rfl rfl (Nat.le_of_ble_eq_true rfl) (fun _ => rfl) (fun _ => rfl) (WZ_p2_7 _ _ _) ?_
  refine ev_aload_n (pc' := 6) dX2_clear_5 rfl rfl ?_
  refine ev_iconst (pc' := 7) (v := 0) dX2_clear_6 rfl (by decide) ?_
  refine ev_putf (pc' := 10) fs_2_38 dX2_clear_7 rfl rfl (Nat.le_of_ble_eq_true rfl) (fun _ => rfl) (fun _ => rfl) (WZ_p2_8 _ _ _) ?_
  refine ev_return rfl dX2_clear_10 ?_
  exact ⟨rfl, rfl⟩
theorem kz_ruleCount {d : Nat} (σ : RS) (g : Nat → Int32) : Ok d M2_ruleCount [.ref 4] (WZ σ g) (rt (some (.int (σ 4 8))) (WZ σ g)) := by
  refine Ok.of (ls := [some _]) (by decide +kernel) (Nat.le_of_ble_eq_true rfl) rfl ?_
  refine ev_aload_n (pc' := 1) dX2_ruleCount_0 rfl rfl ?_
  refine ev_getf (pc' := 4) fl_2_38 dX2_ruleCount_1 rfl rfl rfl ?_
  refine ev_ireturn rfl dX2_ruleCount_4 ?_
  exact ⟨rfl, rfl⟩
def z_begin (σ : RS) (n : Nat) (gr : Int32) : RS := s2 (s1 (s1 σ 7 (upd (σ 7) n gr)) 8 (upd (σ 8) n (σ 4 7))) 4 8 (nI n + 1)
theorem kz_begin {d : Nat} (σ : RS) (g : Nat → Int32) (n : Nat) (b : Int32) (hb : b = 0 ∨ b = 1) (hn : n < 16) (h8 : σ 4 8 = nI n) : Ok d M2_begin [.ref 4, .int b] (WZ σ g) (rt none (WZ (z_begin σ n b) g)) := by
  have hi : vp_in (σ 4 8) 16 := by rw [h8]; exact vp_in_nI (by omega) (by omega)
  have e1 : (σ 4 8).toNatClampNeg = n := by rw [h8]; exact nI_clamp (by omega)
  have e2 : vp_nar .boolean b = b := by rcases hb with rfl | rfl <;> rfl
  refine Ok.of (ls := [some _, some _]) (by decide +kernel) (Nat.le_of_ble_eq_true rfl) rfl ?_
  refine ev_aload_n (pc' := 1) dX2_begin_0 rfl rfl ?_
  refine ev_getf (pc' := 4) fl_2_38 dX2_begin_1 rfl rfl rfl ?_
  refine ev_bipush (pc' := 6) (v := 16) dX2_begin_4 rfl (by decide) ?_
  refine ev_icmp_ge (tgt := 42) (pc' := 9) dX2_begin_6 (by decide) rfl (fun h_6 => ?_) (fun h_6 => ?_)
  · exact absurd h_6 (by rw [h8]; exact nI_ge (b := 16) (by omega) (by omega)) --
  · refine ev_aload_n (pc' := 10) dX2_begin_9 rfl rfl ?_
    refine ev_getf (pc' := 13) fl_2_18 dX2_begin_10 rfl rfl rfl ?_
    refine ev_aload_n (pc' := 14) dX2_begin_13 rfl rfl ?_
    refine ev_getf (pc' := 17) fl_2_38 dX2_begin_14 rfl rfl rfl ?_
    refine ev_iload_n (pc' := 18) dX2_begin_17 rfl rfl ?_
    refine ev_zast (pc' := 19) dX2_begin_18 rfl rfl ?_ (WZ_a7 _ _ _) ?_
    · exact hi
    refine ev_aload_n (pc' := 20) dX2_begin_19 rfl rfl ?_
    refine ev_getf (pc' := 23) fl_2_22 dX2_begin_20 rfl rfl rfl ?_
    refine ev_aload_n (pc' := 24) dX2_begin_23 rfl rfl ?_
    refine ev_getf (pc' := 27) fl_2_38 dX2_begin_24 rfl rfl rfl ?_
    refine ev_aload_n (pc' := 28) dX2_begin_27 rfl rfl ?_
    refine ev_getf (pc' := 31) fl_2_34 dX2_begin_28 rfl rfl rfl ?_
    refine ev_iast (pc' := 32) dX2_begin_31 rfl rfl ?_ (WZ_a8 _ _ _) ?_
    · exact hi
    refine ev_aload_n (pc' := 33) dX2_begin_32 rfl rfl ?_
    refine ev_dup (pc' := 34) dX2_begin_33 rfl rfl ?_
    refine ev_getf (pc' := 37) fl_2_38 dX2_begin_34 rfl rfl rfl ?_
    refine ev_iconst (pc' := 38) (v := 1) dX2_begin_37 rfl (by decide) ?_
    refine ev_iadd (pc' := 39) dX2_begin_38 rfl ?_
    refine ev_putf (pc' := 42) fs_2_38 dX2_begin_39 rfl rfl (Nat.le_of_ble_eq_true rfl) (fun _ => rfl) (fun _ => rfl) (WZ_p2_8 _ _ _) ?_
    refine ev_return rfl dX2_begin_42 ?_
    refine rt_of rfl ?_
    unfold z_begin
    rw [← h8]
    rw [e1, e2]
    show WZ (s2 (s1 (s1 σ 7 (upd (σ 7) n b)) 8 (upd (σ 8) (σ 4 8).toNatClampNeg (σ 4 7))) 4 8 (σ 4 8 + 1)) g = _
    rw [e1]
def z_cond (σ : RS) : RS := s1 σ 9 (putF 16 (σ 9) (σ 4 8 - 1) (σ 4 7))
def z_end (σ : RS) : RS := s1 σ 10 (putF 16 (σ 10) (σ 4 8 - 1) (σ 4 7))
theorem kz_beginCondition {d : Nat} (σ : RS) (g : Nat → Int32) : Ok (d + 1) M2_beginCondition [.ref 4] (WZ σ g) (rt none (WZ (z_cond σ) g)) := by
  refine Ok.of (ls := [some _]) (by decide +kernel) (Nat.le_of_ble_eq_true rfl) rfl ?_
  refine ev_aload_n (pc' := 1) dX2_beginCondition_0 rfl rfl ?_
  refine ev_getf (pc' := 4) fl_2_25 dX2_beginCondition_1 rfl rfl rfl ?_
  refine ev_aload_n (pc' := 5) dX2_beginCondition_4 rfl rfl ?_
  refine ev_getf (pc' := 8) fl_2_38 dX2_beginCondition_5 rfl rfl rfl ?_
  refine ev_iconst (pc' := 9) (v := 1) dX2_beginCondition_8 rfl (by decide) ?_
  refine ev_isub (pc' := 10) dX2_beginCondition_9 rfl ?_
  refine ev_aload_n (pc' := 11) dX2_beginCondition_10 rfl rfl ?_
  refine ev_getf (pc' := 14) fl_2_34 dX2_beginCondition_11 rfl rfl rfl ?_
  refine ev_cNv3 (pc' := 17) cl_2_41 (k_put rfl (by decide) (WZ_a9 _ _ _)) dX2_beginCondition_14 rfl rfl ?_
  refine ev_return rfl dX2_beginCondition_17 ?_
  exact ⟨rfl, rfl⟩
theorem kz_end {d : Nat} (σ : RS) (g : Nat → Int32) : Ok (d + 1) M2_end [.ref 4] (WZ σ g) (rt none (WZ (z_end σ) g)) := by
  refine Ok.of (ls := [some _]) (by decide +kernel) (Nat.le_of_ble_eq_true rfl) rfl ?_
  refine ev_aload_n (pc' := 1) dX2_end_0 rfl rfl ?_
  refine ev_getf (pc' := 4) fl_2_28 dX2_end_1 rfl rfl rfl ?_
  refine ev_aload_n (pc' := 5) dX2_end_4 rfl rfl ?_
  refine ev_getf (pc' := 8) fl_2_38 dX2_end_5 rfl rfl rfl ?_
  refine ev_iconst (pc' := 9) (v := 1) dX2_end_8 rfl (by decide) ?_
  refine ev_isub (pc' := 10) dX2_end_9 rfl ?_
  refine ev_aload_n (pc' := 11) dX2_end_10 rfl rfl ?_
  refine ev_getf (pc' := 14) fl_2_34 dX2_end_11 rfl rfl rfl ?_
  refine ev_cNv3 (pc' := 17) cl_2_41 (k_put rfl (by decide) (WZ_a10 _ _ _)) dX2_end_14 rfl rfl ?_
  refine ev_return rfl dX2_end_17 ?_
  exact ⟨rfl, rfl⟩
/-- operators that bind no less go into the law -/
def z_settle (least : Int32) : Nat → RS → RS
  | 0, σ => σ
  | h + 1, σ => if least ≤ z_rank (σ 1 h) then z_settle least h (z_add (s2 σ 0 3 (nI h)) (σ 1 h) 0) else σ
theorem k_settle_loop {d : Nat} {g : Nat → Int32} (least : Int32) : ∀ (h : Nat) (σ : RS), h ≤ 400 → σ 0 3 = nI h → Ev (d + 2) M4_settle (rt none (WZ (z_settle least h σ) g)) 0 [some (.ref 0), some (.int least)] [] (WZ σ g) := by
  intro h
  induction h with
  | zero =>
    intro σ hh h3
    refine ev_aload_n (pc' := 1) dX4_settle_0 rfl rfl ?_
    refine ev_getf (pc' := 4) fl_4_22 dX4_settle_1 rfl rfl rfl ?_
    refine ev_if_le (tgt := 59) (pc' := 7) dX4_settle_4 (by decide) rfl (fun h_4 => ?_) (fun h_4 => ?_)
    · refine ev_return rfl dX4_settle_59 ?_
      exact ⟨rfl, rfl⟩
    · exact absurd (show σ 0 3 ≤ 0 by rw [h3]; decide) h_4 --
  | succ h ih =>
    intro σ hh h3
    have e1 : σ 0 3 - 1 = nI h := by rw [h3, nI_pred]
    have e2 : atF 400 (σ 1) (nI h) = σ 1 h := atF_nI _ (by omega) (by omega)
    rw [z_settle]
    refine ev_aload_n (pc' := 1) dX4_settle_0 rfl rfl ?_
    refine ev_getf (pc' := 4) fl_4_22 dX4_settle_1 rfl rfl rfl ?_
    refine ev_if_le (tgt := 59) (pc' := 7) dX4_settle_4 (by decide) rfl (fun h_4 => ?_) (fun h_4 => ?_)
    · exact absurd h_4 (by rw [h3]; exact nI_nle (by omega) (by omega)) --
    · refine ev_aload_n (pc' := 8) dX4_settle_7 rfl rfl ?_
      refine ev_getf (pc' := 11) fl_4_18 dX4_settle_8 rfl rfl rfl ?_
      refine ev_aload_n (pc' := 12) dX4_settle_11 rfl rfl ?_
      refine ev_getf (pc' := 15) fl_4_22 dX4_settle_12 rfl rfl rfl ?_
      refine ev_iconst (pc' := 16) (v := 1) dX4_settle_15 rfl (by decide) ?_
      refine ev_isub (pc' := 17) dX4_settle_16 rfl ?_
      rw [e1]
      refine ev_cNi2 (pc' := 20) cl_4_125 (k_at rfl (by decide)) dX4_settle_17 rfl rfl ?_
      rw [e2]
      refine ev_cSi1 (pc' := 23) cl_4_117 (k_rank _ _) dX4_settle_20 rfl rfl ?_
      refine ev_iload_n (pc' := 24) dX4_settle_23 rfl rfl ?_
      refine ev_icmp_lt (tgt := 59) (pc' := 27) dX4_settle_24 (by decide) rfl (fun h_24 => ?_) (fun h_24 => ?_)
      · rw [if_neg (Int32.not_le.mpr h_24)]
        refine ev_return rfl dX4_settle_59 ?_
        exact ⟨rfl, rfl⟩
      · rw [if_pos (Int32.not_lt.mp h_24)]
        refine ev_aload_n (pc' := 28) dX4_settle_27 rfl rfl ?_
        refine ev_dup (pc' := 29) dX4_settle_28 rfl rfl ?_
        refine ev_getf (pc' := 32) fl_4_22 dX4_settle_29 rfl rfl rfl ?_
        refine ev_iconst (pc' := 33) (v := 1) dX4_settle_32 rfl (by decide) ?_
        refine ev_isub (pc' := 34) dX4_settle_33 rfl ?_
        rw [e1]
        refine ev_putf (pc' := 37) fs_4_22 dX4_settle_34 rfl rfl (Nat.le_of_ble_eq_true rfl) (fun _ => rfl) (fun _ => rfl) (WZ_p4_3 _ _ _) ?_
        refine ev_aload_n (pc' := 38) dX4_settle_37 rfl rfl ?_
        refine ev_getf (pc' := 41) fl_4_41 dX4_settle_38 rfl rfl rfl ?_
        refine ev_aload_n (pc' := 42) dX4_settle_41 rfl rfl ?_
        refine ev_getf (pc' := 45) fl_4_18 dX4_settle_42 rfl rfl rfl ?_
        refine ev_aload_n (pc' := 46) dX4_settle_45 rfl rfl ?_
        refine ev_getf (pc' := 49) fl_4_22 dX4_settle_46 rfl rfl rfl ?_
        refine ev_cNi2 (pc' := 52) cl_4_125 (k_at rfl (by decide)) dX4_settle_49 rfl rfl ?_
        refine ev_iconst (pc' := 53) (v := 0) dX4_settle_52 rfl (by decide) ?_
        show Ev _ _ _ _ _ [.int 0, .int (atF 400 (σ 1) (nI h)), .ref 4] _
        rw [e2]
        refine ev_cVv2 (pc' := 56) cl_4_107 (kz_add _ _ _ _) dX4_settle_53 rfl rfl rfl rfl ?_
        refine ev_goto (tgt := 0) dX4_settle_56 (by decide) ?_
        exact ih _ (by omega) rfl
theorem k_settle {d : Nat} (σ : RS) (g : Nat → Int32) (least : Int32) (h : Nat) (hh : h ≤ 400) (h3 : σ 0 3 = nI h) : Ok (d + 2) M4_settle [.ref 0, .int least] (WZ σ g) (rt none (WZ (z_settle least h σ) g)) := by
  refine Ok.of (ls := [some _, some _]) (by decide +kernel) (Nat.le_of_ble_eq_true rfl) rfl ?_
  exact k_settle_loop least h σ hh h3
def z_endRule (h : Nat) (σ : RS) : RS :=
  let σ1 := z_settle 1 h σ
  s2 (z_end (if σ1 0 5 = 0 then z_cond σ1 else σ1)) 0 4 0
theorem k_endRule {d : Nat} (σ : RS) (g : Nat → Int32) (h : Nat) (hh : h ≤ 400) (h3 : σ 0 3 = nI h) : Ok (d + 3) M4_endRule [.ref 0] (WZ σ g) (rt none (WZ (z_endRule h σ) g)) := by
  refine Ok.of (ls := [some _]) (by decide +kernel) (Nat.le_of_ble_eq_true rfl) rfl ?_
  refine ev_aload_n (pc' := 1) dX4_endRule_0 rfl rfl ?_
  refine ev_iconst (pc' := 2) (v := 1) dX4_endRule_1 rfl (by decide) ?_
  refine ev_cVv1 (pc' := 5) cl_4_91 (k_settle _ _ _ h hh h3) dX4_endRule_2 rfl rfl rfl rfl ?_
  refine ev_aload_n (pc' := 6) dX4_endRule_5 rfl rfl ?_
  refine ev_getf (pc' := 9) fl_4_29 dX4_endRule_6 rfl rfl rfl ?_
  refine ev_if_ne (tgt := 19) (pc' := 12) dX4_endRule_9 (by decide) rfl (fun h_9 => ?_) (fun h_9 => ?_)
  · refine ev_aload_n (pc' := 20) dX4_endRule_19 rfl rfl ?_
    refine ev_getf (pc' := 23) fl_4_41 dX4_endRule_20 rfl rfl rfl ?_
    refine ev_cVv0 (pc' := 26) cl_4_114 (kz_end _ _) dX4_endRule_23 rfl rfl rfl rfl ?_
    refine ev_aload_n (pc' := 27) dX4_endRule_26 rfl rfl ?_
    refine ev_iconst (pc' := 28) (v := 0) dX4_endRule_27 rfl (by decide) ?_
    refine ev_putf (pc' := 31) fs_4_26 dX4_endRule_28 rfl rfl (Nat.le_of_ble_eq_true rfl) (fun _ => rfl) (fun _ => rfl) (WZ_p4_4 _ _ _) ?_
    refine ev_return rfl dX4_endRule_31 ?_
    refine rt_of rfl ?_
    unfold z_endRule
    first | (dsimp only; rw [if_pos (by assumption)]) | (dsimp only; rw [if_neg (by assumption)])
  · refine ev_aload_n (pc' := 13) dX4_endRule_12 rfl rfl ?_
    refine ev_getf (pc' := 16) fl_4_41 dX4_endRule_13 rfl rfl rfl ?_
    refine ev_cVv0 (pc' := 19) cl_4_95 (kz_beginCondition _ _) dX4_endRule_16 rfl rfl rfl rfl ?_
    refine ev_aload_n (pc' := 20) dX4_endRule_19 rfl rfl ?_
    refine ev_getf (pc' := 23) fl_4_41 dX4_endRule_20 rfl rfl rfl ?_
    refine ev_cVv0 (pc' := 26) cl_4_114 (kz_end _ _) dX4_endRule_23 rfl rfl rfl rfl ?_
    refine ev_aload_n (pc' := 27) dX4_endRule_26 rfl rfl ?_
    refine ev_iconst (pc' := 28) (v := 0) dX4_endRule_27 rfl (by decide) ?_
    refine ev_putf (pc' := 31) fs_4_26 dX4_endRule_28 rfl rfl (Nat.le_of_ble_eq_true rfl) (fun _ => rfl) (fun _ => rfl) (WZ_p4_4 _ _ _) ?_
    refine ev_return rfl dX4_endRule_31 ?_
    refine rt_of rfl ?_
    unfold z_endRule
    first | (dsimp only; rw [if_pos (by assumption)]) | (dsimp only; rw [if_neg (by assumption)])
def z_takeOp (h : Nat) (σ : RS) (k : Int32) : RS :=
  let σ1 := s2 (z_push (z_settle (z_rank k) h σ) k) 0 4 2
  if z_isRel k = true then s2 σ1 0 5 2 else if k = 4 ∨ k = 3 then s2 σ1 0 5 1 else σ1
theorem k_takeOperator {d : Nat} (σ : RS) (g : Nat → Int32) (k : Int32) (h : Nat) (hh : h ≤ 400) (h3 : σ 0 3 = nI h) : Ok (d + 3) M4_takeOperator [.ref 0, .int k] (WZ σ g) (rt none (WZ (z_takeOp h σ k) g)) := by
  refine Ok.of (ls := [some _, some _]) (by decide +kernel) (Nat.le_of_ble_eq_true rfl) rfl ?_
  refine ev_aload_n (pc' := 1) dX4_takeOperator_0 rfl rfl ?_
  refine ev_iload_n (pc' := 2) dX4_takeOperator_1 rfl rfl ?_
  refine ev_cSi1 (pc' := 5) cl_4_117 (k_rank _ _) dX4_takeOperator_2 rfl rfl ?_
  refine ev_cVv1 (pc' := 8) cl_4_91 (k_settle _ _ _ h hh h3) dX4_takeOperator_5 rfl rfl rfl rfl ?_
  refine ev_aload_n (pc' := 9) dX4_takeOperator_8 rfl rfl ?_
  refine ev_iload_n (pc' := 10) dX4_takeOperator_9 rfl rfl ?_
  refine ev_cVv1 (pc' := 13) cl_4_101 (k_push _ _ _) dX4_takeOperator_10 rfl rfl rfl rfl ?_
  refine ev_aload_n (pc' := 14) dX4_takeOperator_13 rfl rfl ?_
  refine ev_iconst (pc' := 15) (v := 2) dX4_takeOperator_14 rfl (by decide) ?_
  refine ev_putf (pc' := 18) fs_4_26 dX4_takeOperator_15 rfl rfl (Nat.le_of_ble_eq_true rfl) (fun _ => rfl) (fun _ => rfl) (WZ_p4_4 _ _ _) ?_
  refine ev_iload_n (pc' := 19) dX4_takeOperator_18 rfl rfl ?_
  refine ev_cSi1 (pc' := 22) cl_4_81 (k_isRelation _ _) dX4_takeOperator_19 rfl rfl ?_
  refine ev_if_eq (tgt := 33) (pc' := 25) dX4_takeOperator_22 (by decide) rfl (fun h_22 => ?_) (fun h_22 => ?_)
  · rw [bI_0] at h_22
    refine ev_iload_n (pc' := 34) dX4_takeOperator_33 rfl rfl ?_
    refine ev_iconst (pc' := 35) (v := 4) dX4_takeOperator_34 rfl (by decide) ?_
    refine ev_icmp_eq (tgt := 43) (pc' := 38) dX4_takeOperator_35 (by decide) rfl (fun h_35 => ?_) (fun h_35 => ?_)
    · refine ev_aload_n (pc' := 44) dX4_takeOperator_43 rfl rfl ?_
      refine ev_iconst (pc' := 45) (v := 1) dX4_takeOperator_44 rfl (by decide) ?_
      refine ev_putf (pc' := 48) fs_4_29 dX4_takeOperator_45 rfl rfl (Nat.le_of_ble_eq_true rfl) (fun _ => rfl) (fun _ => rfl) (WZ_p4_5 _ _ _) ?_
      refine ev_return rfl dX4_takeOperator_48 ?_
      refine rt_of rfl ?_
      unfold z_takeOp
      dsimp only
      first | (rw [if_pos h_22]; done) | (rw [if_neg (by rw [h_22]; decide), if_pos (by first | exact Or.inl h_35 | exact Or.inr h_40)]; done) | (rw [if_neg (by rw [h_22]; decide), if_neg (fun z => z.elim h_35 h_40)]; done)
    · refine ev_iload_n (pc' := 39) dX4_takeOperator_38 rfl rfl ?_
      refine ev_iconst (pc' := 40) (v := 3) dX4_takeOperator_39 rfl (by decide) ?_
      refine ev_icmp_ne (tgt := 48) (pc' := 43) dX4_takeOperator_40 (by decide) rfl (fun h_40 => ?_) (fun h_40 => ?_)
      · refine ev_return rfl dX4_takeOperator_48 ?_
        refine rt_of rfl ?_
        unfold z_takeOp
        dsimp only
        first | (rw [if_pos h_22]; done) | (rw [if_neg (by rw [h_22]; decide), if_pos (by first | exact Or.inl h_35 | exact Or.inr h_40)]; done) | (rw [if_neg (by rw [h_22]; decide), if_neg (fun z => z.elim h_35 h_40)]; done)
      · refine ev_aload_n (pc' := 44) dX4_takeOperator_43 rfl rfl ?_
        refine ev_iconst (pc' := 45) (v := 1) dX4_takeOperator_44 rfl (by decide) ?_
        refine ev_putf (pc' := 48) fs_4_29 dX4_takeOperator_45 rfl rfl (Nat.le_of_ble_eq_true rfl) (fun _ => rfl) (fun _ => rfl) (WZ_p4_5 _ _ _) ?_
        refine ev_return rfl dX4_takeOperator_48 ?_
        refine rt_of rfl ?_
        unfold z_takeOp
        dsimp only
        first | (rw [if_pos h_22]; done) | (rw [if_neg (by rw [h_22]; decide), if_pos (by first | exact Or.inl h_35 | exact Or.inr h_40)]; done) | (rw [if_neg (by rw [h_22]; decide), if_neg (fun z => z.elim h_35 h_40)]; done)
  · rw [bI_0, Bool.not_eq_false] at h_22
    refine ev_aload_n (pc' := 26) dX4_takeOperator_25 rfl rfl ?_
    refine ev_iconst (pc' := 27) (v := 2) dX4_takeOperator_26 rfl (by decide) ?_
    refine ev_putf (pc' := 30) fs_4_29 dX4_takeOperator_27 rfl rfl (Nat.le_of_ble_eq_true rfl) (fun _ => rfl) (fun _ => rfl) (WZ_p4_5 _ _ _) ?_
    refine ev_goto (tgt := 48) dX4_takeOperator_30 (by decide) ?_
    refine ev_return rfl dX4_takeOperator_48 ?_
    refine rt_of rfl ?_
    unfold z_takeOp
    dsimp only
    first | (rw [if_pos h_22]; done) | (rw [if_neg (by rw [h_22]; decide), if_pos (by first | exact Or.inl h_35 | exact Or.inr h_40)]; done) | (rw [if_neg (by rw [h_22]; decide), if_neg (fun z => z.elim h_35 h_40)]; done)
def z_fitsB (σ : RS) (k : Int32) : Bool :=
  if k = 8 ∨ k = 9 ∨ k = 10 then true
  else if 0 < σ 0 6 then decide (k = 16)
  else if σ 0 5 = 0 then decide (k = 1 ∨ k = 7)
  else if σ 0 5 = 1 then z_isRel k
  else decide (k = 4 ∨ k = 3 ∨ k = 7)
theorem lk_out {df : Int} {x : Int} : ∀ {ps : List (Int × Int)}, (∀ q ∈ ps, q.1 ≠ x) → Op.lookupswitch.offset ps df x = df
  | [], _ => rfl
  | (a, o) :: r, h => by
    rw [Op.lookupswitch.offset_cons, if_neg (h (a, o) List.mem_cons_self)]
    exact lk_out (fun q hq => h q (List.mem_cons_of_mem _ hq))
theorem k_fitsBehindUnit {d : Nat} (σ : RS) (g : Nat → Int32) (k : Int32) : Ok (d + 1) M4_fitsBehindUnit [.ref 0, .int k] (WZ σ g) (rt (some (.int (bI (z_fitsB σ k)))) (WZ σ g)) := by
  refine Ok.of (ls := [some _, some _]) (by decide +kernel) (Nat.le_of_ble_eq_true rfl) rfl ?_
  refine ev_iload_n (pc' := 1) dX4_fitsBehindUnit_0 rfl rfl ?_
  refine ev_bipush (pc' := 3) (v := 8) dX4_fitsBehindUnit_1 rfl (by decide) ?_
  refine ev_icmp_eq (tgt := 18) (pc' := 6) dX4_fitsBehindUnit_3 (by decide) rfl (fun h_3 => ?_) (fun h_3 => ?_)
  · refine ev_iconst (pc' := 19) (v := 1) dX4_fitsBehindUnit_18 rfl (by decide) ?_
    refine ev_zreturn rfl rfl dX4_fitsBehindUnit_19 ?_
    refine rt_i ?_ rfl
    unfold z_fitsB
    try simp only [h24]
    try clear h24
    simp_all [bI]
  · refine ev_iload_n (pc' := 7) dX4_fitsBehindUnit_6 rfl rfl ?_
    refine ev_bipush (pc' := 9) (v := 9) dX4_fitsBehindUnit_7 rfl (by decide) ?_
    refine ev_icmp_eq (tgt := 18) (pc' := 12) dX4_fitsBehindUnit_9 (by decide) rfl (fun h_9 => ?_) (fun h_9 => ?_)
    · refine ev_iconst (pc' := 19) (v := 1) dX4_fitsBehindUnit_18 rfl (by decide) ?_
      refine ev_zreturn rfl rfl dX4_fitsBehindUnit_19 ?_
      refine rt_i ?_ rfl
      unfold z_fitsB
      try simp only [h24]
      try clear h24
      simp_all [bI]
    · refine ev_iload_n (pc' := 13) dX4_fitsBehindUnit_12 rfl rfl ?_
      refine ev_bipush (pc' := 15) (v := 10) dX4_fitsBehindUnit_13 rfl (by decide) ?_
      refine ev_icmp_ne (tgt := 20) (pc' := 18) dX4_fitsBehindUnit_15 (by decide) rfl (fun h_15 => ?_) (fun h_15 => ?_)
      · refine ev_aload_n (pc' := 21) dX4_fitsBehindUnit_20 rfl rfl ?_
        refine ev_getf (pc' := 24) fl_4_32 dX4_fitsBehindUnit_21 rfl rfl rfl ?_
        refine ev_if_le (tgt := 39) (pc' := 27) dX4_fitsBehindUnit_24 (by decide) rfl (fun h_24 => ?_) (fun h_24 => ?_)
        · have h24 : ((0 : Int32) < σ 0 6) = False := eq_false (Int32.not_lt.mpr h_24)
          refine ev_aload_n (pc' := 40) dX4_fitsBehindUnit_39 rfl rfl ?_
          refine ev_getf (pc' := 43) fl_4_29 dX4_fitsBehindUnit_40 rfl rfl rfl ?_
          refine ev_case (c := 0) (fun h_43_0 => ?_) (fun h_43_0 => ?_)
          · refine ev_lookup (off := 25) (tgt := 68) dX4_fitsBehindUnit_43 (by decide) (by decide) (by decide) ?_
            refine ev_iload_n (pc' := 69) dX4_fitsBehindUnit_68 rfl rfl ?_
            refine ev_iconst (pc' := 70) (v := 1) dX4_fitsBehindUnit_69 rfl (by decide) ?_
            refine ev_icmp_eq (tgt := 79) (pc' := 73) dX4_fitsBehindUnit_70 (by decide) rfl (fun h_70 => ?_) (fun h_70 => ?_)
            · refine ev_iconst (pc' := 80) (v := 1) dX4_fitsBehindUnit_79 rfl (by decide) ?_
              refine ev_goto (tgt := 84) dX4_fitsBehindUnit_80 (by decide) ?_
              refine ev_zreturn rfl rfl dX4_fitsBehindUnit_84 ?_
              refine rt_i ?_ rfl
              unfold z_fitsB
              try simp only [h24]
              try clear h24
              simp_all [bI]
            · refine ev_iload_n (pc' := 74) dX4_fitsBehindUnit_73 rfl rfl ?_
              refine ev_bipush (pc' := 76) (v := 7) dX4_fitsBehindUnit_74 rfl (by decide) ?_
              refine ev_icmp_ne (tgt := 83) (pc' := 79) dX4_fitsBehindUnit_76 (by decide) rfl (fun h_76 => ?_) (fun h_76 => ?_)
              · refine ev_iconst (pc' := 84) (v := 0) dX4_fitsBehindUnit_83 rfl (by decide) ?_
                refine ev_zreturn rfl rfl dX4_fitsBehindUnit_84 ?_
                refine rt_i ?_ rfl
                unfold z_fitsB
                try simp only [h24]
                try clear h24
                simp_all [bI]
              · refine ev_iconst (pc' := 80) (v := 1) dX4_fitsBehindUnit_79 rfl (by decide) ?_
                refine ev_goto (tgt := 84) dX4_fitsBehindUnit_80 (by decide) ?_
                refine ev_zreturn rfl rfl dX4_fitsBehindUnit_84 ?_
                refine rt_i ?_ rfl
                unfold z_fitsB
                try simp only [h24]
                try clear h24
                simp_all [bI]
          refine ev_case (c := 1) (fun h_43_1 => ?_) (fun h_43_1 => ?_)
          · refine ev_lookup (off := 42) (tgt := 85) dX4_fitsBehindUnit_43 (by decide) (by decide) (by decide) ?_
            refine ev_iload_n (pc' := 86) dX4_fitsBehindUnit_85 rfl rfl ?_
            refine ev_cSi1 (pc' := 89) cl_4_81 (k_isRelation _ _) dX4_fitsBehindUnit_86 rfl rfl ?_
            refine ev_zreturn rfl (nar_bI _) dX4_fitsBehindUnit_89 ?_
            refine rt_i ?_ rfl
            unfold z_fitsB
            try simp only [h24]
            try clear h24
            simp_all [bI]
          refine ev_lookup (off := 47) (tgt := 90) dX4_fitsBehindUnit_43 (by decide) (by simp only [fa_eq, Int32.reduceToInt] at h_43_0 h_43_1; exact lk_out (by simp <;> omega)) (by decide) ?_
          refine ev_iload_n (pc' := 91) dX4_fitsBehindUnit_90 rfl rfl ?_
          refine ev_iconst (pc' := 92) (v := 4) dX4_fitsBehindUnit_91 rfl (by decide) ?_
          refine ev_icmp_eq (tgt := 106) (pc' := 95) dX4_fitsBehindUnit_92 (by decide) rfl (fun h_92 => ?_) (fun h_92 => ?_)
          · refine ev_iconst (pc' := 107) (v := 1) dX4_fitsBehindUnit_106 rfl (by decide) ?_
            refine ev_goto (tgt := 111) dX4_fitsBehindUnit_107 (by decide) ?_
            refine ev_zreturn rfl rfl dX4_fitsBehindUnit_111 ?_
            refine rt_i ?_ rfl
            unfold z_fitsB
            try simp only [h24]
            try clear h24
            simp_all [bI]
          · refine ev_iload_n (pc' := 96) dX4_fitsBehindUnit_95 rfl rfl ?_
            refine ev_iconst (pc' := 97) (v := 3) dX4_fitsBehindUnit_96 rfl (by decide) ?_
            refine ev_icmp_eq (tgt := 106) (pc' := 100) dX4_fitsBehindUnit_97 (by decide) rfl (fun h_97 => ?_) (fun h_97 => ?_)
            · refine ev_iconst (pc' := 107) (v := 1) dX4_fitsBehindUnit_106 rfl (by decide) ?_
              refine ev_goto (tgt := 111) dX4_fitsBehindUnit_107 (by decide) ?_
              refine ev_zreturn rfl rfl dX4_fitsBehindUnit_111 ?_
              refine rt_i ?_ rfl
              unfold z_fitsB
              try simp only [h24]
              try clear h24
              simp_all [bI]
            · refine ev_iload_n (pc' := 101) dX4_fitsBehindUnit_100 rfl rfl ?_
              refine ev_bipush (pc' := 103) (v := 7) dX4_fitsBehindUnit_101 rfl (by decide) ?_
              refine ev_icmp_ne (tgt := 110) (pc' := 106) dX4_fitsBehindUnit_103 (by decide) rfl (fun h_103 => ?_) (fun h_103 => ?_)
              · refine ev_iconst (pc' := 111) (v := 0) dX4_fitsBehindUnit_110 rfl (by decide) ?_
                refine ev_zreturn rfl rfl dX4_fitsBehindUnit_111 ?_
                refine rt_i ?_ rfl
                unfold z_fitsB
                try simp only [h24]
                try clear h24
                simp_all [bI]
              · refine ev_iconst (pc' := 107) (v := 1) dX4_fitsBehindUnit_106 rfl (by decide) ?_
                refine ev_goto (tgt := 111) dX4_fitsBehindUnit_107 (by decide) ?_
                refine ev_zreturn rfl rfl dX4_fitsBehindUnit_111 ?_
                refine rt_i ?_ rfl
                unfold z_fitsB
                try simp only [h24]
                try clear h24
                simp_all [bI]
        · have h24 : ((0 : Int32) < σ 0 6) = True := eq_true (Int32.not_le.mp h_24)
          refine ev_iload_n (pc' := 28) dX4_fitsBehindUnit_27 rfl rfl ?_
          refine ev_bipush (pc' := 30) (v := 16) dX4_fitsBehindUnit_28 rfl (by decide) ?_
          refine ev_icmp_ne (tgt := 37) (pc' := 33) dX4_fitsBehindUnit_30 (by decide) rfl (fun h_30 => ?_) (fun h_30 => ?_)
          · refine ev_iconst (pc' := 38) (v := 0) dX4_fitsBehindUnit_37 rfl (by decide) ?_
            refine ev_zreturn rfl rfl dX4_fitsBehindUnit_38 ?_
            refine rt_i ?_ rfl
            unfold z_fitsB
            try simp only [h24]
            try clear h24
            simp_all [bI]
          · refine ev_iconst (pc' := 34) (v := 1) dX4_fitsBehindUnit_33 rfl (by decide) ?_
            refine ev_goto (tgt := 38) dX4_fitsBehindUnit_34 (by decide) ?_
            refine ev_zreturn rfl rfl dX4_fitsBehindUnit_38 ?_
            refine rt_i ?_ rfl
            unfold z_fitsB
            try simp only [h24]
            try clear h24
            simp_all [bI]
      · refine ev_iconst (pc' := 19) (v := 1) dX4_fitsBehindUnit_18 rfl (by decide) ?_
        refine ev_zreturn rfl rfl dX4_fitsBehindUnit_19 ?_
        refine rt_i ?_ rfl
        unfold z_fitsB
        try simp only [h24]
        try clear h24
        simp_all [bI]
def z_fits (σ : RS) : Bool :=
  if σ 0 4 = 0 then decide (σ 2 1 = 0 ∨ σ 2 1 = 2 ∨ σ 2 1 = 17)
  else if σ 0 4 = 1 then decide (σ 2 1 = 1)
  else if σ 0 4 = 2 then decide (σ 2 1 = 6 ∨ σ 2 1 = 5 ∨ σ 2 1 = 15)
  else z_fitsB σ (σ 2 1)
theorem k_fits {d : Nat} (σ : RS) (g : Nat → Int32) : Ok (d + 2) M4_fits [.ref 0] (WZ σ g) (rt (some (.int (bI (z_fits σ)))) (WZ σ g)) := by
  refine Ok.of (ls := [some _, none]) (by decide +kernel) (Nat.le_of_ble_eq_true rfl) rfl ?_
  refine ev_aload_n (pc' := 1) dX4_fits_0 rfl rfl ?_
  refine ev_getf (pc' := 4) fl_4_12 dX4_fits_1 rfl rfl rfl ?_
  refine ev_getf (pc' := 7) fl_4_57 dX4_fits_4 rfl rfl rfl ?_
  refine ev_istore_n (pc' := 8) (ls' := [_, _]) dX4_fits_7 rfl rfl rfl ?_
  refine ev_aload_n (pc' := 9) dX4_fits_8 rfl rfl ?_
  refine ev_getf (pc' := 12) fl_4_26 dX4_fits_9 rfl rfl rfl ?_
  refine ev_case (c := 0) (fun h_12_0 => ?_) (fun h_12_0 => ?_)
  · refine ev_tableIn (off := 28) (tgt := 40) dX4_fits_12 (by decide) (by decide) (by decide) (by decide) ?_
    refine ev_iload_n (pc' := 41) dX4_fits_40 rfl rfl ?_
    refine ev_if_eq (tgt := 55) (pc' := 44) dX4_fits_41 (by decide) rfl (fun h_41 => ?_) (fun h_41 => ?_)
    · refine ev_iconst (pc' := 56) (v := 1) dX4_fits_55 rfl (by decide) ?_
      refine ev_goto (tgt := 60) dX4_fits_56 (by decide) ?_
      refine ev_zreturn rfl rfl dX4_fits_60 ?_
      refine rt_i ?_ rfl
      unfold z_fits
      simp_all [bI]
    · refine ev_iload_n (pc' := 45) dX4_fits_44 rfl rfl ?_
      refine ev_iconst (pc' := 46) (v := 2) dX4_fits_45 rfl (by decide) ?_
      refine ev_icmp_eq (tgt := 55) (pc' := 49) dX4_fits_46 (by decide) rfl (fun h_46 => ?_) (fun h_46 => ?_)
      · refine ev_iconst (pc' := 56) (v := 1) dX4_fits_55 rfl (by decide) ?_
        refine ev_goto (tgt := 60) dX4_fits_56 (by decide) ?_
        refine ev_zreturn rfl rfl dX4_fits_60 ?_
        refine rt_i ?_ rfl
        unfold z_fits
        simp_all [bI]
      · refine ev_iload_n (pc' := 50) dX4_fits_49 rfl rfl ?_
        refine ev_bipush (pc' := 52) (v := 17) dX4_fits_50 rfl (by decide) ?_
        refine ev_icmp_ne (tgt := 59) (pc' := 55) dX4_fits_52 (by decide) rfl (fun h_52 => ?_) (fun h_52 => ?_)
        · refine ev_iconst (pc' := 60) (v := 0) dX4_fits_59 rfl (by decide) ?_
          refine ev_zreturn rfl rfl dX4_fits_60 ?_
          refine rt_i ?_ rfl
          unfold z_fits
          simp_all [bI]
        · refine ev_iconst (pc' := 56) (v := 1) dX4_fits_55 rfl (by decide) ?_
          refine ev_goto (tgt := 60) dX4_fits_56 (by decide) ?_
          refine ev_zreturn rfl rfl dX4_fits_60 ?_
          refine rt_i ?_ rfl
          unfold z_fits
          simp_all [bI]
  refine ev_case (c := 1) (fun h_12_1 => ?_) (fun h_12_1 => ?_)
  · refine ev_tableIn (off := 49) (tgt := 61) dX4_fits_12 (by decide) (by decide) (by decide) (by decide) ?_
    refine ev_iload_n (pc' := 62) dX4_fits_61 rfl rfl ?_
    refine ev_iconst (pc' := 63) (v := 1) dX4_fits_62 rfl (by decide) ?_
    refine ev_icmp_ne (tgt := 70) (pc' := 66) dX4_fits_63 (by decide) rfl (fun h_63 => ?_) (fun h_63 => ?_)
    · refine ev_iconst (pc' := 71) (v := 0) dX4_fits_70 rfl (by decide) ?_
      refine ev_zreturn rfl rfl dX4_fits_71 ?_
      refine rt_i ?_ rfl
      unfold z_fits
      simp_all [bI]
    · refine ev_iconst (pc' := 67) (v := 1) dX4_fits_66 rfl (by decide) ?_
      refine ev_goto (tgt := 71) dX4_fits_67 (by decide) ?_
      refine ev_zreturn rfl rfl dX4_fits_71 ?_
      refine rt_i ?_ rfl
      unfold z_fits
      simp_all [bI]
  refine ev_case (c := 2) (fun h_12_2 => ?_) (fun h_12_2 => ?_)
  · refine ev_tableIn (off := 60) (tgt := 72) dX4_fits_12 (by decide) (by decide) (by decide) (by decide) ?_
    refine ev_iload_n (pc' := 73) dX4_fits_72 rfl rfl ?_
    refine ev_bipush (pc' := 75) (v := 6) dX4_fits_73 rfl (by decide) ?_
    refine ev_icmp_eq (tgt := 89) (pc' := 78) dX4_fits_75 (by decide) rfl (fun h_75 => ?_) (fun h_75 => ?_)
    · refine ev_iconst (pc' := 90) (v := 1) dX4_fits_89 rfl (by decide) ?_
      refine ev_goto (tgt := 94) dX4_fits_90 (by decide) ?_
      refine ev_zreturn rfl rfl dX4_fits_94 ?_
      refine rt_i ?_ rfl
      unfold z_fits
      simp_all [bI]
    · refine ev_iload_n (pc' := 79) dX4_fits_78 rfl rfl ?_
      refine ev_iconst (pc' := 80) (v := 5) dX4_fits_79 rfl (by decide) ?_
      refine ev_icmp_eq (tgt := 89) (pc' := 83) dX4_fits_80 (by decide) rfl (fun h_80 => ?_) (fun h_80 => ?_)
      · refine ev_iconst (pc' := 90) (v := 1) dX4_fits_89 rfl (by decide) ?_
        refine ev_goto (tgt := 94) dX4_fits_90 (by decide) ?_
        refine ev_zreturn rfl rfl dX4_fits_94 ?_
        refine rt_i ?_ rfl
        unfold z_fits
        simp_all [bI]
      · refine ev_iload_n (pc' := 84) dX4_fits_83 rfl rfl ?_
        refine ev_bipush (pc' := 86) (v := 15) dX4_fits_84 rfl (by decide) ?_
        refine ev_icmp_ne (tgt := 93) (pc' := 89) dX4_fits_86 (by decide) rfl (fun h_86 => ?_) (fun h_86 => ?_)
        · refine ev_iconst (pc' := 94) (v := 0) dX4_fits_93 rfl (by decide) ?_
          refine ev_zreturn rfl rfl dX4_fits_94 ?_
          refine rt_i ?_ rfl
          unfold z_fits
          simp_all [bI]
        · refine ev_iconst (pc' := 90) (v := 1) dX4_fits_89 rfl (by decide) ?_
          refine ev_goto (tgt := 94) dX4_fits_90 (by decide) ?_
          refine ev_zreturn rfl rfl dX4_fits_94 ?_
          refine rt_i ?_ rfl
          unfold z_fits
          simp_all [bI]
  refine ev_tableOut (tgt := 95) dX4_fits_12 (by simp only [fa_eq, Int32.reduceToInt] at h_12_0 h_12_1 h_12_2; omega) (by decide) ?_
  refine ev_aload_n (pc' := 96) dX4_fits_95 rfl rfl ?_
  refine ev_iload_n (pc' := 97) dX4_fits_96 rfl rfl ?_
  refine ev_cVi1 (pc' := 100) cl_4_77 (k_fitsBehindUnit _ _ _) dX4_fits_97 rfl rfl rfl rfl ?_
  refine ev_zreturn rfl (nar_bI _) dX4_fits_100 ?_
  refine rt_i ?_ rfl
  unfold z_fits
  simp_all [bI]
def z_room (σ : RS) : Bool := if σ 0 4 = 0 ∧ 16 ≤ σ 4 8 then false else if σ 2 1 = 15 ∧ 6 ≤ σ 0 6 then false else decide (σ 0 7 < 400)
theorem k_hasRoom {d : Nat} (σ : RS) (g : Nat → Int32) : Ok (d + 1) M4_hasRoom [.ref 0] (WZ σ g) (rt (some (.int (bI (z_room σ)))) (WZ σ g)) := by
  refine Ok.of (ls := [some _]) (by decide +kernel) (Nat.le_of_ble_eq_true rfl) rfl ?_
  refine ev_aload_n (pc' := 1) dX4_hasRoom_0 rfl rfl ?_
  refine ev_getf (pc' := 4) fl_4_26 dX4_hasRoom_1 rfl rfl rfl ?_
  refine ev_if_ne (tgt := 21) (pc' := 7) dX4_hasRoom_4 (by decide) rfl (fun h_4 => ?_) (fun h_4 => ?_)
  · refine ev_aload_n (pc' := 22) dX4_hasRoom_21 rfl rfl ?_
    refine ev_getf (pc' := 25) fl_4_12 dX4_hasRoom_22 rfl rfl rfl ?_
    refine ev_getf (pc' := 28) fl_4_57 dX4_hasRoom_25 rfl rfl rfl ?_
    refine ev_bipush (pc' := 30) (v := 15) dX4_hasRoom_28 rfl (by decide) ?_
    refine ev_icmp_ne (tgt := 44) (pc' := 33) dX4_hasRoom_30 (by decide) rfl (fun h_30 => ?_) (fun h_30 => ?_)
    · refine ev_aload_n (pc' := 45) dX4_hasRoom_44 rfl rfl ?_
      refine ev_getf (pc' := 48) fl_4_35 dX4_hasRoom_45 rfl rfl rfl ?_
      refine ev_sipush (pc' := 51) (v := 400) dX4_hasRoom_48 rfl (by decide) ?_
      refine ev_icmp_ge (tgt := 58) (pc' := 54) dX4_hasRoom_51 (by decide) rfl (fun h_51 => ?_) (fun h_51 => ?_)
      · have h51 : (σ 0 7 < 400) = False := eq_false (Int32.not_lt.mpr h_51)
        refine ev_iconst (pc' := 59) (v := 0) dX4_hasRoom_58 rfl (by decide) ?_
        refine ev_zreturn rfl rfl dX4_hasRoom_59 ?_
        refine rt_i ?_ rfl
        unfold z_room
        try simp only [h16]
        try clear h16
        try simp only [h39]
        try clear h39
        try simp only [h51]
        try clear h51
        simp_all [bI]
      · have h51 : (σ 0 7 < 400) = True := eq_true (Int32.not_le.mp h_51)
        refine ev_iconst (pc' := 55) (v := 1) dX4_hasRoom_54 rfl (by decide) ?_
        refine ev_goto (tgt := 59) dX4_hasRoom_55 (by decide) ?_
        refine ev_zreturn rfl rfl dX4_hasRoom_59 ?_
        refine rt_i ?_ rfl
        unfold z_room
        try simp only [h16]
        try clear h16
        try simp only [h39]
        try clear h39
        try simp only [h51]
        try clear h51
        simp_all [bI]
    · refine ev_aload_n (pc' := 34) dX4_hasRoom_33 rfl rfl ?_
      refine ev_getf (pc' := 37) fl_4_32 dX4_hasRoom_34 rfl rfl rfl ?_
      refine ev_bipush (pc' := 39) (v := 6) dX4_hasRoom_37 rfl (by decide) ?_
      refine ev_icmp_lt (tgt := 44) (pc' := 42) dX4_hasRoom_39 (by decide) rfl (fun h_39 => ?_) (fun h_39 => ?_)
      · have h39 : (6 ≤ σ 0 6) = False := eq_false (Int32.not_le.mpr h_39)
        refine ev_aload_n (pc' := 45) dX4_hasRoom_44 rfl rfl ?_
        refine ev_getf (pc' := 48) fl_4_35 dX4_hasRoom_45 rfl rfl rfl ?_
        refine ev_sipush (pc' := 51) (v := 400) dX4_hasRoom_48 rfl (by decide) ?_
        refine ev_icmp_ge (tgt := 58) (pc' := 54) dX4_hasRoom_51 (by decide) rfl (fun h_51 => ?_) (fun h_51 => ?_)
        · have h51 : (σ 0 7 < 400) = False := eq_false (Int32.not_lt.mpr h_51)
          refine ev_iconst (pc' := 59) (v := 0) dX4_hasRoom_58 rfl (by decide) ?_
          refine ev_zreturn rfl rfl dX4_hasRoom_59 ?_
          refine rt_i ?_ rfl
          unfold z_room
          try simp only [h16]
          try clear h16
          try simp only [h39]
          try clear h39
          try simp only [h51]
          try clear h51
          simp_all [bI]
        · have h51 : (σ 0 7 < 400) = True := eq_true (Int32.not_le.mp h_51)
          refine ev_iconst (pc' := 55) (v := 1) dX4_hasRoom_54 rfl (by decide) ?_
          refine ev_goto (tgt := 59) dX4_hasRoom_55 (by decide) ?_
          refine ev_zreturn rfl rfl dX4_hasRoom_59 ?_
          refine rt_i ?_ rfl
          unfold z_room
          try simp only [h16]
          try clear h16
          try simp only [h39]
          try clear h39
          try simp only [h51]
          try clear h51
          simp_all [bI]
      · have h39 : (6 ≤ σ 0 6) = True := eq_true (Int32.not_lt.mp h_39)
        refine ev_iconst (pc' := 43) (v := 0) dX4_hasRoom_42 rfl (by decide) ?_
        refine ev_zreturn rfl rfl dX4_hasRoom_43 ?_
        refine rt_i ?_ rfl
        unfold z_room
        try simp only [h16]
        try clear h16
        try simp only [h39]
        try clear h39
        try simp only [h51]
        try clear h51
        simp_all [bI]
  · refine ev_aload_n (pc' := 8) dX4_hasRoom_7 rfl rfl ?_
    refine ev_getf (pc' := 11) fl_4_41 dX4_hasRoom_8 rfl rfl rfl ?_
    refine ev_cVi0 (pc' := 14) cl_4_84 (kz_ruleCount _ _) dX4_hasRoom_11 rfl rfl rfl rfl ?_
    refine ev_bipush (pc' := 16) (v := 16) dX4_hasRoom_14 rfl (by decide) ?_
    refine ev_icmp_lt (tgt := 21) (pc' := 19) dX4_hasRoom_16 (by decide) rfl (fun h_16 => ?_) (fun h_16 => ?_)
    · have h16 : (16 ≤ σ 4 8) = False := eq_false (Int32.not_le.mpr h_16)
      refine ev_aload_n (pc' := 22) dX4_hasRoom_21 rfl rfl ?_
      refine ev_getf (pc' := 25) fl_4_12 dX4_hasRoom_22 rfl rfl rfl ?_
      refine ev_getf (pc' := 28) fl_4_57 dX4_hasRoom_25 rfl rfl rfl ?_
      refine ev_bipush (pc' := 30) (v := 15) dX4_hasRoom_28 rfl (by decide) ?_
      refine ev_icmp_ne (tgt := 44) (pc' := 33) dX4_hasRoom_30 (by decide) rfl (fun h_30 => ?_) (fun h_30 => ?_)
      · refine ev_aload_n (pc' := 45) dX4_hasRoom_44 rfl rfl ?_
        refine ev_getf (pc' := 48) fl_4_35 dX4_hasRoom_45 rfl rfl rfl ?_
        refine ev_sipush (pc' := 51) (v := 400) dX4_hasRoom_48 rfl (by decide) ?_
        refine ev_icmp_ge (tgt := 58) (pc' := 54) dX4_hasRoom_51 (by decide) rfl (fun h_51 => ?_) (fun h_51 => ?_)
        · have h51 : (σ 0 7 < 400) = False := eq_false (Int32.not_lt.mpr h_51)
          refine ev_iconst (pc' := 59) (v := 0) dX4_hasRoom_58 rfl (by decide) ?_
          refine ev_zreturn rfl rfl dX4_hasRoom_59 ?_
          refine rt_i ?_ rfl
          unfold z_room
          try simp only [h16]
          try clear h16
          try simp only [h39]
          try clear h39
          try simp only [h51]
          try clear h51
          simp_all [bI]
        · have h51 : (σ 0 7 < 400) = True := eq_true (Int32.not_le.mp h_51)
          refine ev_iconst (pc' := 55) (v := 1) dX4_hasRoom_54 rfl (by decide) ?_
          refine ev_goto (tgt := 59) dX4_hasRoom_55 (by decide) ?_
          refine ev_zreturn rfl rfl dX4_hasRoom_59 ?_
          refine rt_i ?_ rfl
          unfold z_room
          try simp only [h16]
          try clear h16
          try simp only [h39]
          try clear h39
          try simp only [h51]
          try clear h51
          simp_all [bI]
      · refine ev_aload_n (pc' := 34) dX4_hasRoom_33 rfl rfl ?_
        refine ev_getf (pc' := 37) fl_4_32 dX4_hasRoom_34 rfl rfl rfl ?_
        refine ev_bipush (pc' := 39) (v := 6) dX4_hasRoom_37 rfl (by decide) ?_
        refine ev_icmp_lt (tgt := 44) (pc' := 42) dX4_hasRoom_39 (by decide) rfl (fun h_39 => ?_) (fun h_39 => ?_)
        · have h39 : (6 ≤ σ 0 6) = False := eq_false (Int32.not_le.mpr h_39)
          refine ev_aload_n (pc' := 45) dX4_hasRoom_44 rfl rfl ?_
          refine ev_getf (pc' := 48) fl_4_35 dX4_hasRoom_45 rfl rfl rfl ?_
          refine ev_sipush (pc' := 51) (v := 400) dX4_hasRoom_48 rfl (by decide) ?_
          refine ev_icmp_ge (tgt := 58) (pc' := 54) dX4_hasRoom_51 (by decide) rfl (fun h_51 => ?_) (fun h_51 => ?_)
          · have h51 : (σ 0 7 < 400) = False := eq_false (Int32.not_lt.mpr h_51)
            refine ev_iconst (pc' := 59) (v := 0) dX4_hasRoom_58 rfl (by decide) ?_
            refine ev_zreturn rfl rfl dX4_hasRoom_59 ?_
            refine rt_i ?_ rfl
            unfold z_room
            try simp only [h16]
            try clear h16
            try simp only [h39]
            try clear h39
            try simp only [h51]
            try clear h51
            simp_all [bI]
          · have h51 : (σ 0 7 < 400) = True := eq_true (Int32.not_le.mp h_51)
            refine ev_iconst (pc' := 55) (v := 1) dX4_hasRoom_54 rfl (by decide) ?_
            refine ev_goto (tgt := 59) dX4_hasRoom_55 (by decide) ?_
            refine ev_zreturn rfl rfl dX4_hasRoom_59 ?_
            refine rt_i ?_ rfl
            unfold z_room
            try simp only [h16]
            try clear h16
            try simp only [h39]
            try clear h39
            try simp only [h51]
            try clear h51
            simp_all [bI]
        · have h39 : (6 ≤ σ 0 6) = True := eq_true (Int32.not_lt.mp h_39)
          refine ev_iconst (pc' := 43) (v := 0) dX4_hasRoom_42 rfl (by decide) ?_
          refine ev_zreturn rfl rfl dX4_hasRoom_43 ?_
          refine rt_i ?_ rfl
          unfold z_room
          try simp only [h16]
          try clear h16
          try simp only [h39]
          try clear h39
          try simp only [h51]
          try clear h51
          simp_all [bI]
    · have h16 : (16 ≤ σ 4 8) = True := eq_true (Int32.not_lt.mp h_16)
      refine ev_iconst (pc' := 20) (v := 0) dX4_hasRoom_19 rfl (by decide) ?_
      refine ev_zreturn rfl rfl dX4_hasRoom_20 ?_
      refine rt_i ?_ rfl
      unfold z_room
      try simp only [h16]
      try clear h16
      try simp only [h39]
      try clear h39
      try simp only [h51]
      try clear h51
      simp_all [bI]
def z_fault (σ : RS) : Int32 := if z_fits σ = true then (if z_room σ = true then 0 else 2) else 1
theorem k_faultOfToken {d : Nat} (σ : RS) (g : Nat → Int32) : Ok (d + 3) M4_faultOfToken [.ref 0] (WZ σ g) (rt (some (.int (z_fault σ))) (WZ σ g)) := by
  refine Ok.of (ls := [some _]) (by decide +kernel) (Nat.le_of_ble_eq_true rfl) rfl ?_
  refine ev_aload_n (pc' := 1) dX4_faultOfToken_0 rfl rfl ?_
  refine ev_cVi0 (pc' := 4) cl_4_60 (k_fits _ _) dX4_faultOfToken_1 rfl rfl rfl rfl ?_
  refine ev_if_ne (tgt := 9) (pc' := 7) dX4_faultOfToken_4 (by decide) rfl (fun h_4 => ?_) (fun h_4 => ?_)
  · rw [bI_0, Bool.not_eq_false] at h_4
    refine ev_aload_n (pc' := 10) dX4_faultOfToken_9 rfl rfl ?_
    refine ev_cVi0 (pc' := 13) cl_4_74 (k_hasRoom _ _) dX4_faultOfToken_10 rfl rfl rfl rfl ?_
    refine ev_if_eq (tgt := 20) (pc' := 16) dX4_faultOfToken_13 (by decide) rfl (fun h_13 => ?_) (fun h_13 => ?_)
    · rw [bI_0] at h_13
      refine ev_iconst (pc' := 21) (v := 2) dX4_faultOfToken_20 rfl (by decide) ?_
      refine ev_ireturn rfl dX4_faultOfToken_21 ?_
      refine rt_i ?_ rfl
      unfold z_fault
      simp_all
    · rw [bI_0, Bool.not_eq_false] at h_13
      refine ev_iconst (pc' := 17) (v := 0) dX4_faultOfToken_16 rfl (by decide) ?_
      refine ev_goto (tgt := 21) dX4_faultOfToken_17 (by decide) ?_
      refine ev_ireturn rfl dX4_faultOfToken_21 ?_
      refine rt_i ?_ rfl
      unfold z_fault
      simp_all
  · rw [bI_0] at h_4
    refine ev_iconst (pc' := 8) (v := 1) dX4_faultOfToken_7 rfl (by decide) ?_
    refine ev_ireturn rfl dX4_faultOfToken_8 ?_
    refine rt_i ?_ rfl
    unfold z_fault
    simp_all
theorem k_placeOfFault {d : Nat} (σ : RS) (g : Nat → Int32) : Ok d M4_placeOfFault [.ref 0] (WZ σ g) (rt (some (.int (if σ 0 8 = 0 then -1 else σ 2 0))) (WZ σ g)) := by
  refine Ok.of (ls := [some _]) (by decide +kernel) (Nat.le_of_ble_eq_true rfl) rfl ?_
  refine ev_aload_n (pc' := 1) dX4_placeOfFault_0 rfl rfl ?_
  refine ev_getf (pc' := 4) fl_4_38 dX4_placeOfFault_1 rfl rfl rfl ?_
  refine ev_if_ne (tgt := 11) (pc' := 7) dX4_placeOfFault_4 (by decide) rfl (fun h_4 => ?_) (fun h_4 => ?_)
  · refine ev_aload_n (pc' := 12) dX4_placeOfFault_11 rfl rfl ?_
    refine ev_getf (pc' := 15) fl_4_12 dX4_placeOfFault_12 rfl rfl rfl ?_
    refine ev_getf (pc' := 18) fl_4_71 dX4_placeOfFault_15 rfl rfl rfl ?_
    refine ev_ireturn rfl dX4_placeOfFault_18 ?_
    refine rt_i ?_ rfl
    simp_all
  · refine ev_iconst (pc' := 8) (v := -1) dX4_placeOfFault_7 rfl (by decide) ?_
    refine ev_goto (tgt := 18) dX4_placeOfFault_8 (by decide) ?_
    refine ev_ireturn rfl dX4_placeOfFault_18 ?_
    refine rt_i ?_ rfl
    simp_all
/-- a token that fits and has room is taken -/
def z_take (h r : Nat) (σ0 : RS) : RS :=
  let σ := s2 σ0 0 7 (σ0 0 7 + 1)
  if σ 2 1 = 0 then s2 (z_begin σ r 0) 0 4 1
  else if σ 2 1 = 2 then s2 (s2 (z_begin σ r 1) 0 5 0) 0 4 2
  else if σ 2 1 = 1 then s2 (s2 (z_cond (z_settle 1 h σ)) 0 5 1) 0 4 2
  else if σ 2 1 = 7 then z_endRule h σ
  else if σ 2 1 = 15 then z_push (s2 σ 0 6 (σ 0 6 + 1)) 15
  else if σ 2 1 = 16 then (let σ1 := z_settle 1 h σ; s2 (s2 σ1 0 3 (σ1 0 3 - 1)) 0 6 (σ1 0 6 - 1))
  else if σ 2 1 = 6 ∨ σ 2 1 = 5 then s2 (z_add σ (σ 2 1) (σ 2 2)) 0 4 3
  else z_takeOp h σ (σ 2 1)
theorem k_take {d : Nat} (σ : RS) (g : Nat → Int32) (h r : Nat) (hh : h ≤ 400) (h3 : σ 0 3 = nI h) (hr : σ 2 1 = 0 ∨ σ 2 1 = 2 → r < 16 ∧ σ 4 8 = nI r) : Ok (d + 4) M4_take [.ref 0] (WZ σ g) (rt none (WZ (z_take h r σ) g)) := by
  refine Ok.of (ls := [some _]) (by decide +kernel) (Nat.le_of_ble_eq_true rfl) rfl ?_
  refine ev_aload_n (pc' := 1) dX4_take_0 rfl rfl ?_
  refine ev_dup (pc' := 2) dX4_take_1 rfl rfl ?_
  refine ev_getf (pc' := 5) fl_4_35 dX4_take_2 rfl rfl rfl ?_
  refine ev_iconst (pc' := 6) (v := 1) dX4_take_5 rfl (by decide) ?_
  refine ev_iadd (pc' := 7) dX4_take_6 rfl ?_
  refine ev_putf (pc' := 10) fs_4_35 dX4_take_7 rfl rfl (Nat.le_of_ble_eq_true rfl) (fun _ => rfl) (fun _ => rfl) (WZ_p4_7 _ _ _) ?_
  refine ev_aload_n (pc' := 11) dX4_take_10 rfl rfl ?_
  refine ev_getf (pc' := 14) fl_4_12 dX4_take_11 rfl rfl rfl ?_
  refine ev_getf (pc' := 17) fl_4_57 dX4_take_14 rfl rfl rfl ?_
  refine ev_case (c := 0) (fun h_17_0 => ?_) (fun h_17_0 => ?_)
  · refine ev_tableIn (off := 83) (tgt := 100) dX4_take_17 (by decide) (by decide) (by decide) (by decide) ?_
    refine ev_aload_n (pc' := 101) dX4_take_100 rfl rfl ?_
    refine ev_getf (pc' := 104) fl_4_41 dX4_take_101 rfl rfl rfl ?_
    refine ev_iconst (pc' := 105) (v := 0) dX4_take_104 rfl (by decide) ?_
    refine ev_cVv1 (pc' := 108) cl_4_87 (kz_begin _ _ r _ (by first | exact Or.inl rfl | exact Or.inr rfl) (hr (by first | exact Or.inl h_17_0 | exact Or.inr h_17_2)).1 (hr (by first | exact Or.inl h_17_0 | exact Or.inr h_17_2)).2) dX4_take_105 rfl rfl rfl rfl ?_
    refine ev_aload_n (pc' := 109) dX4_take_108 rfl rfl ?_
    refine ev_iconst (pc' := 110) (v := 1) dX4_take_109 rfl (by decide) ?_
    refine ev_putf (pc' := 113) fs_4_26 dX4_take_110 rfl rfl (Nat.le_of_ble_eq_true rfl) (fun _ => rfl) (fun _ => rfl) (WZ_p4_4 _ _ _) ?_
    refine ev_goto (tgt := 256) dX4_take_113 (by decide) ?_
    refine ev_return rfl dX4_take_256 ?_
    refine rt_of rfl ?_
    unfold z_take
    dsimp only
    first | (rw [h_17_0]; rfl) | (rw [h_17_1]; rfl) | (rw [h_17_2]; rfl) | (rw [h_17_3]; rfl) | (rw [h_17_4]; rfl) | (rw [h_17_5]; rfl) | (rw [h_17_6]; rfl) | (rw [h_17_7]; rfl) | (rw [h_17_8]; rfl) | (rw [h_17_9]; rfl) | (rw [h_17_10]; rfl) | (rw [h_17_11]; rfl) | (rw [h_17_12]; rfl) | (rw [h_17_13]; rfl) | (rw [h_17_14]; rfl) | (rw [h_17_15]; rfl) | (rw [h_17_16]; rfl) | (rw [if_neg h_17_0, if_neg h_17_2, if_neg h_17_1, if_neg h_17_7, if_neg h_17_15, if_neg h_17_16, if_neg (fun z => z.elim h_17_6 h_17_5)]; done)
  refine ev_case (c := 1) (fun h_17_1 => ?_) (fun h_17_1 => ?_)
  · refine ev_tableIn (off := 120) (tgt := 137) dX4_take_17 (by decide) (by decide) (by decide) (by decide) ?_
    refine ev_aload_n (pc' := 138) dX4_take_137 rfl rfl ?_
    refine ev_iconst (pc' := 139) (v := 1) dX4_take_138 rfl (by decide) ?_
    refine ev_cVv1 (pc' := 142) cl_4_91 (k_settle _ _ _ h hh h3) dX4_take_139 rfl rfl rfl rfl ?_
    refine ev_aload_n (pc' := 143) dX4_take_142 rfl rfl ?_
    refine ev_getf (pc' := 146) fl_4_41 dX4_take_143 rfl rfl rfl ?_
    refine ev_cVv0 (pc' := 149) cl_4_95 (kz_beginCondition _ _) dX4_take_146 rfl rfl rfl rfl ?_
    refine ev_aload_n (pc' := 150) dX4_take_149 rfl rfl ?_
    refine ev_iconst (pc' := 151) (v := 1) dX4_take_150 rfl (by decide) ?_
    refine ev_putf (pc' := 154) fs_4_29 dX4_take_151 rfl rfl (Nat.le_of_ble_eq_true rfl) (fun _ => rfl) (fun _ => rfl) (WZ_p4_5 _ _ _) ?_
    refine ev_aload_n (pc' := 155) dX4_take_154 rfl rfl ?_
    refine ev_iconst (pc' := 156) (v := 2) dX4_take_155 rfl (by decide) ?_
    refine ev_putf (pc' := 159) fs_4_26 dX4_take_156 rfl rfl (Nat.le_of_ble_eq_true rfl) (fun _ => rfl) (fun _ => rfl) (WZ_p4_4 _ _ _) ?_
    refine ev_goto (tgt := 256) dX4_take_159 (by decide) ?_
    refine ev_return rfl dX4_take_256 ?_
    refine rt_of rfl ?_
    unfold z_take
    dsimp only
    first | (rw [h_17_0]; rfl) | (rw [h_17_1]; rfl) | (rw [h_17_2]; rfl) | (rw [h_17_3]; rfl) | (rw [h_17_4]; rfl) | (rw [h_17_5]; rfl) | (rw [h_17_6]; rfl) | (rw [h_17_7]; rfl) | (rw [h_17_8]; rfl) | (rw [h_17_9]; rfl) | (rw [h_17_10]; rfl) | (rw [h_17_11]; rfl) | (rw [h_17_12]; rfl) | (rw [h_17_13]; rfl) | (rw [h_17_14]; rfl) | (rw [h_17_15]; rfl) | (rw [h_17_16]; rfl) | (rw [if_neg h_17_0, if_neg h_17_2, if_neg h_17_1, if_neg h_17_7, if_neg h_17_15, if_neg h_17_16, if_neg (fun z => z.elim h_17_6 h_17_5)]; done)
  refine ev_case (c := 2) (fun h_17_2 => ?_) (fun h_17_2 => ?_)
  · refine ev_tableIn (off := 99) (tgt := 116) dX4_take_17 (by decide) (by decide) (by decide) (by decide) ?_
    refine ev_aload_n (pc' := 117) dX4_take_116 rfl rfl ?_
    refine ev_getf (pc' := 120) fl_4_41 dX4_take_117 rfl rfl rfl ?_
    refine ev_iconst (pc' := 121) (v := 1) dX4_take_120 rfl (by decide) ?_
    refine ev_cVv1 (pc' := 124) cl_4_87 (kz_begin _ _ r _ (by first | exact Or.inl rfl | exact Or.inr rfl) (hr (by first | exact Or.inl h_17_0 | exact Or.inr h_17_2)).1 (hr (by first | exact Or.inl h_17_0 | exact Or.inr h_17_2)).2) dX4_take_121 rfl rfl rfl rfl ?_
    refine ev_aload_n (pc' := 125) dX4_take_124 rfl rfl ?_
    refine ev_iconst (pc' := 126) (v := 0) dX4_take_125 rfl (by decide) ?_
    refine ev_putf (pc' := 129) fs_4_29 dX4_take_126 rfl rfl (Nat.le_of_ble_eq_true rfl) (fun _ => rfl) (fun _ => rfl) (WZ_p4_5 _ _ _) ?_
    refine ev_aload_n (pc' := 130) dX4_take_129 rfl rfl ?_
    refine ev_iconst (pc' := 131) (v := 2) dX4_take_130 rfl (by decide) ?_
    refine ev_putf (pc' := 134) fs_4_26 dX4_take_131 rfl rfl (Nat.le_of_ble_eq_true rfl) (fun _ => rfl) (fun _ => rfl) (WZ_p4_4 _ _ _) ?_
    refine ev_goto (tgt := 256) dX4_take_134 (by decide) ?_
    refine ev_return rfl dX4_take_256 ?_
    refine rt_of rfl ?_
    unfold z_take
    dsimp only
    first | (rw [h_17_0]; rfl) | (rw [h_17_1]; rfl) | (rw [h_17_2]; rfl) | (rw [h_17_3]; rfl) | (rw [h_17_4]; rfl) | (rw [h_17_5]; rfl) | (rw [h_17_6]; rfl) | (rw [h_17_7]; rfl) | (rw [h_17_8]; rfl) | (rw [h_17_9]; rfl) | (rw [h_17_10]; rfl) | (rw [h_17_11]; rfl) | (rw [h_17_12]; rfl) | (rw [h_17_13]; rfl) | (rw [h_17_14]; rfl) | (rw [h_17_15]; rfl) | (rw [h_17_16]; rfl) | (rw [if_neg h_17_0, if_neg h_17_2, if_neg h_17_1, if_neg h_17_7, if_neg h_17_15, if_neg h_17_16, if_neg (fun z => z.elim h_17_6 h_17_5)]; done)
  refine ev_case (c := 3) (fun h_17_3 => ?_) (fun h_17_3 => ?_)
  · refine ev_tableIn (off := 228) (tgt := 245) dX4_take_17 (by decide) (by decide) (by decide) (by decide) ?_
    refine ev_aload_n (pc' := 246) dX4_take_245 rfl rfl ?_
    refine ev_aload_n (pc' := 247) dX4_take_246 rfl rfl ?_
    refine ev_getf (pc' := 250) fl_4_12 dX4_take_247 rfl rfl rfl ?_
    refine ev_getf (pc' := 253) fl_4_57 dX4_take_250 rfl rfl rfl ?_
    refine ev_cVv1 (pc' := 256) cl_4_111 (k_takeOperator _ _ _ h hh h3) dX4_take_253 rfl rfl rfl rfl ?_
    refine ev_return rfl dX4_take_256 ?_
    refine rt_of rfl ?_
    unfold z_take
    dsimp only
    first | (rw [h_17_0]; rfl) | (rw [h_17_1]; rfl) | (rw [h_17_2]; rfl) | (rw [h_17_3]; rfl) | (rw [h_17_4]; rfl) | (rw [h_17_5]; rfl) | (rw [h_17_6]; rfl) | (rw [h_17_7]; rfl) | (rw [h_17_8]; rfl) | (rw [h_17_9]; rfl) | (rw [h_17_10]; rfl) | (rw [h_17_11]; rfl) | (rw [h_17_12]; rfl) | (rw [h_17_13]; rfl) | (rw [h_17_14]; rfl) | (rw [h_17_15]; rfl) | (rw [h_17_16]; rfl) | (rw [if_neg h_17_0, if_neg h_17_2, if_neg h_17_1, if_neg h_17_7, if_neg h_17_15, if_neg h_17_16, if_neg (fun z => z.elim h_17_6 h_17_5)]; done)
  refine ev_case (c := 4) (fun h_17_4 => ?_) (fun h_17_4 => ?_)
  · refine ev_tableIn (off := 228) (tgt := 245) dX4_take_17 (by decide) (by decide) (by decide) (by decide) ?_
    refine ev_aload_n (pc' := 246) dX4_take_245 rfl rfl ?_
    refine ev_aload_n (pc' := 247) dX4_take_246 rfl rfl ?_
    refine ev_getf (pc' := 250) fl_4_12 dX4_take_247 rfl rfl rfl ?_
    refine ev_getf (pc' := 253) fl_4_57 dX4_take_250 rfl rfl rfl ?_
    refine ev_cVv1 (pc' := 256) cl_4_111 (k_takeOperator _ _ _ h hh h3) dX4_take_253 rfl rfl rfl rfl ?_
    refine ev_return rfl dX4_take_256 ?_
    refine rt_of rfl ?_
    unfold z_take
    dsimp only
    first | (rw [h_17_0]; rfl) | (rw [h_17_1]; rfl) | (rw [h_17_2]; rfl) | (rw [h_17_3]; rfl) | (rw [h_17_4]; rfl) | (rw [h_17_5]; rfl) | (rw [h_17_6]; rfl) | (rw [h_17_7]; rfl) | (rw [h_17_8]; rfl) | (rw [h_17_9]; rfl) | (rw [h_17_10]; rfl) | (rw [h_17_11]; rfl) | (rw [h_17_12]; rfl) | (rw [h_17_13]; rfl) | (rw [h_17_14]; rfl) | (rw [h_17_15]; rfl) | (rw [h_17_16]; rfl) | (rw [if_neg h_17_0, if_neg h_17_2, if_neg h_17_1, if_neg h_17_7, if_neg h_17_15, if_neg h_17_16, if_neg (fun z => z.elim h_17_6 h_17_5)]; done)
  refine ev_case (c := 5) (fun h_17_5 => ?_) (fun h_17_5 => ?_)
  · refine ev_tableIn (off := 199) (tgt := 216) dX4_take_17 (by decide) (by decide) (by decide) (by decide) ?_
    refine ev_aload_n (pc' := 217) dX4_take_216 rfl rfl ?_
    refine ev_getf (pc' := 220) fl_4_41 dX4_take_217 rfl rfl rfl ?_
    refine ev_aload_n (pc' := 221) dX4_take_220 rfl rfl ?_
    refine ev_getf (pc' := 224) fl_4_12 dX4_take_221 rfl rfl rfl ?_
    refine ev_getf (pc' := 227) fl_4_57 dX4_take_224 rfl rfl rfl ?_
    refine ev_aload_n (pc' := 228) dX4_take_227 rfl rfl ?_
    refine ev_getf (pc' := 231) fl_4_12 dX4_take_228 rfl rfl rfl ?_
    refine ev_getf (pc' := 234) fl_4_104 dX4_take_231 rfl rfl rfl ?_
    refine ev_cVv2 (pc' := 237) cl_4_107 (kz_add _ _ _ _) dX4_take_234 rfl rfl rfl rfl ?_
    refine ev_aload_n (pc' := 238) dX4_take_237 rfl rfl ?_
    refine ev_iconst (pc' := 239) (v := 3) dX4_take_238 rfl (by decide) ?_
    refine ev_putf (pc' := 242) fs_4_26 dX4_take_239 rfl rfl (Nat.le_of_ble_eq_true rfl) (fun _ => rfl) (fun _ => rfl) (WZ_p4_4 _ _ _) ?_
    refine ev_goto (tgt := 256) dX4_take_242 (by decide) ?_
    refine ev_return rfl dX4_take_256 ?_
    refine rt_of rfl ?_
    unfold z_take
    dsimp only
    first | (rw [h_17_0]; rfl) | (rw [h_17_1]; rfl) | (rw [h_17_2]; rfl) | (rw [h_17_3]; rfl) | (rw [h_17_4]; rfl) | (rw [h_17_5]; rfl) | (rw [h_17_6]; rfl) | (rw [h_17_7]; rfl) | (rw [h_17_8]; rfl) | (rw [h_17_9]; rfl) | (rw [h_17_10]; rfl) | (rw [h_17_11]; rfl) | (rw [h_17_12]; rfl) | (rw [h_17_13]; rfl) | (rw [h_17_14]; rfl) | (rw [h_17_15]; rfl) | (rw [h_17_16]; rfl) | (rw [if_neg h_17_0, if_neg h_17_2, if_neg h_17_1, if_neg h_17_7, if_neg h_17_15, if_neg h_17_16, if_neg (fun z => z.elim h_17_6 h_17_5)]; done)
  refine ev_case (c := 6) (fun h_17_6 => ?_) (fun h_17_6 => ?_)
  · refine ev_tableIn (off := 199) (tgt := 216) dX4_take_17 (by decide) (by decide) (by decide) (by decide) ?_
    refine ev_aload_n (pc' := 217) dX4_take_216 rfl rfl ?_
    refine ev_getf (pc' := 220) fl_4_41 dX4_take_217 rfl rfl rfl ?_
    refine ev_aload_n (pc' := 221) dX4_take_220 rfl rfl ?_
    refine ev_getf (pc' := 224) fl_4_12 dX4_take_221 rfl rfl rfl ?_
    refine ev_getf (pc' := 227) fl_4_57 dX4_take_224 rfl rfl rfl ?_
    refine ev_aload_n (pc' := 228) dX4_take_227 rfl rfl ?_
    refine ev_getf (pc' := 231) fl_4_12 dX4_take_228 rfl rfl rfl ?_
    refine ev_getf (pc' := 234) fl_4_104 dX4_take_231 rfl rfl rfl ?_
    refine ev_cVv2 (pc' := 237) cl_4_107 (kz_add _ _ _ _) dX4_take_234 rfl rfl rfl rfl ?_
    refine ev_aload_n (pc' := 238) dX4_take_237 rfl rfl ?_
    refine ev_iconst (pc' := 239) (v := 3) dX4_take_238 rfl (by decide) ?_
    refine ev_putf (pc' := 242) fs_4_26 dX4_take_239 rfl rfl (Nat.le_of_ble_eq_true rfl) (fun _ => rfl) (fun _ => rfl) (WZ_p4_4 _ _ _) ?_
    refine ev_goto (tgt := 256) dX4_take_242 (by decide) ?_
    refine ev_return rfl dX4_take_256 ?_
    refine rt_of rfl ?_
    unfold z_take
    dsimp only
    first | (rw [h_17_0]; rfl) | (rw [h_17_1]; rfl) | (rw [h_17_2]; rfl) | (rw [h_17_3]; rfl) | (rw [h_17_4]; rfl) | (rw [h_17_5]; rfl) | (rw [h_17_6]; rfl) | (rw [h_17_7]; rfl) | (rw [h_17_8]; rfl) | (rw [h_17_9]; rfl) | (rw [h_17_10]; rfl) | (rw [h_17_11]; rfl) | (rw [h_17_12]; rfl) | (rw [h_17_13]; rfl) | (rw [h_17_14]; rfl) | (rw [h_17_15]; rfl) | (rw [h_17_16]; rfl) | (rw [if_neg h_17_0, if_neg h_17_2, if_neg h_17_1, if_neg h_17_7, if_neg h_17_15, if_neg h_17_16, if_neg (fun z => z.elim h_17_6 h_17_5)]; done)
  refine ev_case (c := 7) (fun h_17_7 => ?_) (fun h_17_7 => ?_)
  · refine ev_tableIn (off := 145) (tgt := 162) dX4_take_17 (by decide) (by decide) (by decide) (by decide) ?_
    refine ev_aload_n (pc' := 163) dX4_take_162 rfl rfl ?_
    refine ev_cVv0 (pc' := 166) cl_4_98 (k_endRule _ _ h hh h3) dX4_take_163 rfl rfl rfl rfl ?_
    refine ev_goto (tgt := 256) dX4_take_166 (by decide) ?_
    refine ev_return rfl dX4_take_256 ?_
    refine rt_of rfl ?_
    unfold z_take
    dsimp only
    first | (rw [h_17_0]; rfl) | (rw [h_17_1]; rfl) | (rw [h_17_2]; rfl) | (rw [h_17_3]; rfl) | (rw [h_17_4]; rfl) | (rw [h_17_5]; rfl) | (rw [h_17_6]; rfl) | (rw [h_17_7]; rfl) | (rw [h_17_8]; rfl) | (rw [h_17_9]; rfl) | (rw [h_17_10]; rfl) | (rw [h_17_11]; rfl) | (rw [h_17_12]; rfl) | (rw [h_17_13]; rfl) | (rw [h_17_14]; rfl) | (rw [h_17_15]; rfl) | (rw [h_17_16]; rfl) | (rw [if_neg h_17_0, if_neg h_17_2, if_neg h_17_1, if_neg h_17_7, if_neg h_17_15, if_neg h_17_16, if_neg (fun z => z.elim h_17_6 h_17_5)]; done)
  refine ev_case (c := 8) (fun h_17_8 => ?_) (fun h_17_8 => ?_)
  · refine ev_tableIn (off := 228) (tgt := 245) dX4_take_17 (by decide) (by decide) (by decide) (by decide) ?_
    refine ev_aload_n (pc' := 246) dX4_take_245 rfl rfl ?_
    refine ev_aload_n (pc' := 247) dX4_take_246 rfl rfl ?_
    refine ev_getf (pc' := 250) fl_4_12 dX4_take_247 rfl rfl rfl ?_
    refine ev_getf (pc' := 253) fl_4_57 dX4_take_250 rfl rfl rfl ?_
    refine ev_cVv1 (pc' := 256) cl_4_111 (k_takeOperator _ _ _ h hh h3) dX4_take_253 rfl rfl rfl rfl ?_
    refine ev_return rfl dX4_take_256 ?_
    refine rt_of rfl ?_
    unfold z_take
    dsimp only
    first | (rw [h_17_0]; rfl) | (rw [h_17_1]; rfl) | (rw [h_17_2]; rfl) | (rw [h_17_3]; rfl) | (rw [h_17_4]; rfl) | (rw [h_17_5]; rfl) | (rw [h_17_6]; rfl) | (rw [h_17_7]; rfl) | (rw [h_17_8]; rfl) | (rw [h_17_9]; rfl) | (rw [h_17_10]; rfl) | (rw [h_17_11]; rfl) | (rw [h_17_12]; rfl) | (rw [h_17_13]; rfl) | (rw [h_17_14]; rfl) | (rw [h_17_15]; rfl) | (rw [h_17_16]; rfl) | (rw [if_neg h_17_0, if_neg h_17_2, if_neg h_17_1, if_neg h_17_7, if_neg h_17_15, if_neg h_17_16, if_neg (fun z => z.elim h_17_6 h_17_5)]; done)
  refine ev_case (c := 9) (fun h_17_9 => ?_) (fun h_17_9 => ?_)
  · refine ev_tableIn (off := 228) (tgt := 245) dX4_take_17 (by decide) (by decide) (by decide) (by decide) ?_
    refine ev_aload_n (pc' := 246) dX4_take_245 rfl rfl ?_
    refine ev_aload_n (pc' := 247) dX4_take_246 rfl rfl ?_
    refine ev_getf (pc' := 250) fl_4_12 dX4_take_247 rfl rfl rfl ?_
    refine ev_getf (pc' := 253) fl_4_57 dX4_take_250 rfl rfl rfl ?_
    refine ev_cVv1 (pc' := 256) cl_4_111 (k_takeOperator _ _ _ h hh h3) dX4_take_253 rfl rfl rfl rfl ?_
    refine ev_return rfl dX4_take_256 ?_
    refine rt_of rfl ?_
    unfold z_take
    dsimp only
    first | (rw [h_17_0]; rfl) | (rw [h_17_1]; rfl) | (rw [h_17_2]; rfl) | (rw [h_17_3]; rfl) | (rw [h_17_4]; rfl) | (rw [h_17_5]; rfl) | (rw [h_17_6]; rfl) | (rw [h_17_7]; rfl) | (rw [h_17_8]; rfl) | (rw [h_17_9]; rfl) | (rw [h_17_10]; rfl) | (rw [h_17_11]; rfl) | (rw [h_17_12]; rfl) | (rw [h_17_13]; rfl) | (rw [h_17_14]; rfl) | (rw [h_17_15]; rfl) | (rw [h_17_16]; rfl) | (rw [if_neg h_17_0, if_neg h_17_2, if_neg h_17_1, if_neg h_17_7, if_neg h_17_15, if_neg h_17_16, if_neg (fun z => z.elim h_17_6 h_17_5)]; done)
  refine ev_case (c := 10) (fun h_17_10 => ?_) (fun h_17_10 => ?_)
  · refine ev_tableIn (off := 228) (tgt := 245) dX4_take_17 (by decide) (by decide) (by decide) (by decide) ?_
    refine ev_aload_n (pc' := 246) dX4_take_245 rfl rfl ?_
    refine ev_aload_n (pc' := 247) dX4_take_246 rfl rfl ?_
    refine ev_getf (pc' := 250) fl_4_12 dX4_take_247 rfl rfl rfl ?_
    refine ev_getf (pc' := 253) fl_4_57 dX4_take_250 rfl rfl rfl ?_
    refine ev_cVv1 (pc' := 256) cl_4_111 (k_takeOperator _ _ _ h hh h3) dX4_take_253 rfl rfl rfl rfl ?_
    refine ev_return rfl dX4_take_256 ?_
    refine rt_of rfl ?_
    unfold z_take
    dsimp only
    first | (rw [h_17_0]; rfl) | (rw [h_17_1]; rfl) | (rw [h_17_2]; rfl) | (rw [h_17_3]; rfl) | (rw [h_17_4]; rfl) | (rw [h_17_5]; rfl) | (rw [h_17_6]; rfl) | (rw [h_17_7]; rfl) | (rw [h_17_8]; rfl) | (rw [h_17_9]; rfl) | (rw [h_17_10]; rfl) | (rw [h_17_11]; rfl) | (rw [h_17_12]; rfl) | (rw [h_17_13]; rfl) | (rw [h_17_14]; rfl) | (rw [h_17_15]; rfl) | (rw [h_17_16]; rfl) | (rw [if_neg h_17_0, if_neg h_17_2, if_neg h_17_1, if_neg h_17_7, if_neg h_17_15, if_neg h_17_16, if_neg (fun z => z.elim h_17_6 h_17_5)]; done)
  refine ev_case (c := 11) (fun h_17_11 => ?_) (fun h_17_11 => ?_)
  · refine ev_tableIn (off := 228) (tgt := 245) dX4_take_17 (by decide) (by decide) (by decide) (by decide) ?_
    refine ev_aload_n (pc' := 246) dX4_take_245 rfl rfl ?_
    refine ev_aload_n (pc' := 247) dX4_take_246 rfl rfl ?_
    refine ev_getf (pc' := 250) fl_4_12 dX4_take_247 rfl rfl rfl ?_
    refine ev_getf (pc' := 253) fl_4_57 dX4_take_250 rfl rfl rfl ?_
    refine ev_cVv1 (pc' := 256) cl_4_111 (k_takeOperator _ _ _ h hh h3) dX4_take_253 rfl rfl rfl rfl ?_
    refine ev_return rfl dX4_take_256 ?_
    refine rt_of rfl ?_
    unfold z_take
    dsimp only
    first | (rw [h_17_0]; rfl) | (rw [h_17_1]; rfl) | (rw [h_17_2]; rfl) | (rw [h_17_3]; rfl) | (rw [h_17_4]; rfl) | (rw [h_17_5]; rfl) | (rw [h_17_6]; rfl) | (rw [h_17_7]; rfl) | (rw [h_17_8]; rfl) | (rw [h_17_9]; rfl) | (rw [h_17_10]; rfl) | (rw [h_17_11]; rfl) | (rw [h_17_12]; rfl) | (rw [h_17_13]; rfl) | (rw [h_17_14]; rfl) | (rw [h_17_15]; rfl) | (rw [h_17_16]; rfl) | (rw [if_neg h_17_0, if_neg h_17_2, if_neg h_17_1, if_neg h_17_7, if_neg h_17_15, if_neg h_17_16, if_neg (fun z => z.elim h_17_6 h_17_5)]; done)
  refine ev_case (c := 12) (fun h_17_12 => ?_) (fun h_17_12 => ?_)
  · refine ev_tableIn (off := 228) (tgt := 245) dX4_take_17 (by decide) (by decide) (by decide) (by decide) ?_
    refine ev_aload_n (pc' := 246) dX4_take_245 rfl rfl ?_
    refine ev_aload_n (pc' := 247) dX4_take_246 rfl rfl ?_
    refine ev_getf (pc' := 250) fl_4_12 dX4_take_247 rfl rfl rfl ?_
    refine ev_getf (pc' := 253) fl_4_57 dX4_take_250 rfl rfl rfl ?_
    refine ev_cVv1 (pc' := 256) cl_4_111 (k_takeOperator _ _ _ h hh h3) dX4_take_253 rfl rfl rfl rfl ?_
    refine ev_return rfl dX4_take_256 ?_
    refine rt_of rfl ?_
    unfold z_take
    dsimp only
    first | (rw [h_17_0]; rfl) | (rw [h_17_1]; rfl) | (rw [h_17_2]; rfl) | (rw [h_17_3]; rfl) | (rw [h_17_4]; rfl) | (rw [h_17_5]; rfl) | (rw [h_17_6]; rfl) | (rw [h_17_7]; rfl) | (rw [h_17_8]; rfl) | (rw [h_17_9]; rfl) | (rw [h_17_10]; rfl) | (rw [h_17_11]; rfl) | (rw [h_17_12]; rfl) | (rw [h_17_13]; rfl) | (rw [h_17_14]; rfl) | (rw [h_17_15]; rfl) | (rw [h_17_16]; rfl) | (rw [if_neg h_17_0, if_neg h_17_2, if_neg h_17_1, if_neg h_17_7, if_neg h_17_15, if_neg h_17_16, if_neg (fun z => z.elim h_17_6 h_17_5)]; done)
  refine ev_case (c := 13) (fun h_17_13 => ?_) (fun h_17_13 => ?_)
  · refine ev_tableIn (off := 228) (tgt := 245) dX4_take_17 (by decide) (by decide) (by decide) (by decide) ?_
    refine ev_aload_n (pc' := 246) dX4_take_245 rfl rfl ?_
    refine ev_aload_n (pc' := 247) dX4_take_246 rfl rfl ?_
    refine ev_getf (pc' := 250) fl_4_12 dX4_take_247 rfl rfl rfl ?_
    refine ev_getf (pc' := 253) fl_4_57 dX4_take_250 rfl rfl rfl ?_
    refine ev_cVv1 (pc' := 256) cl_4_111 (k_takeOperator _ _ _ h hh h3) dX4_take_253 rfl rfl rfl rfl ?_
    refine ev_return rfl dX4_take_256 ?_
    refine rt_of rfl ?_
    unfold z_take
    dsimp only
    first | (rw [h_17_0]; rfl) | (rw [h_17_1]; rfl) | (rw [h_17_2]; rfl) | (rw [h_17_3]; rfl) | (rw [h_17_4]; rfl) | (rw [h_17_5]; rfl) | (rw [h_17_6]; rfl) | (rw [h_17_7]; rfl) | (rw [h_17_8]; rfl) | (rw [h_17_9]; rfl) | (rw [h_17_10]; rfl) | (rw [h_17_11]; rfl) | (rw [h_17_12]; rfl) | (rw [h_17_13]; rfl) | (rw [h_17_14]; rfl) | (rw [h_17_15]; rfl) | (rw [h_17_16]; rfl) | (rw [if_neg h_17_0, if_neg h_17_2, if_neg h_17_1, if_neg h_17_7, if_neg h_17_15, if_neg h_17_16, if_neg (fun z => z.elim h_17_6 h_17_5)]; done)
  refine ev_case (c := 14) (fun h_17_14 => ?_) (fun h_17_14 => ?_)
  · refine ev_tableIn (off := 228) (tgt := 245) dX4_take_17 (by decide) (by decide) (by decide) (by decide) ?_
    refine ev_aload_n (pc' := 246) dX4_take_245 rfl rfl ?_
    refine ev_aload_n (pc' := 247) dX4_take_246 rfl rfl ?_
    refine ev_getf (pc' := 250) fl_4_12 dX4_take_247 rfl rfl rfl ?_
    refine ev_getf (pc' := 253) fl_4_57 dX4_take_250 rfl rfl rfl ?_
    refine ev_cVv1 (pc' := 256) cl_4_111 (k_takeOperator _ _ _ h hh h3) dX4_take_253 rfl rfl rfl rfl ?_
    refine ev_return rfl dX4_take_256 ?_
    refine rt_of rfl ?_
    unfold z_take
    dsimp only
    first | (rw [h_17_0]; rfl) | (rw [h_17_1]; rfl) | (rw [h_17_2]; rfl) | (rw [h_17_3]; rfl) | (rw [h_17_4]; rfl) | (rw [h_17_5]; rfl) | (rw [h_17_6]; rfl) | (rw [h_17_7]; rfl) | (rw [h_17_8]; rfl) | (rw [h_17_9]; rfl) | (rw [h_17_10]; rfl) | (rw [h_17_11]; rfl) | (rw [h_17_12]; rfl) | (rw [h_17_13]; rfl) | (rw [h_17_14]; rfl) | (rw [h_17_15]; rfl) | (rw [h_17_16]; rfl) | (rw [if_neg h_17_0, if_neg h_17_2, if_neg h_17_1, if_neg h_17_7, if_neg h_17_15, if_neg h_17_16, if_neg (fun z => z.elim h_17_6 h_17_5)]; done)
  refine ev_case (c := 15) (fun h_17_15 => ?_) (fun h_17_15 => ?_)
  · refine ev_tableIn (off := 152) (tgt := 169) dX4_take_17 (by decide) (by decide) (by decide) (by decide) ?_
    refine ev_aload_n (pc' := 170) dX4_take_169 rfl rfl ?_
    refine ev_dup (pc' := 171) dX4_take_170 rfl rfl ?_
    refine ev_getf (pc' := 174) fl_4_32 dX4_take_171 rfl rfl rfl ?_
    refine ev_iconst (pc' := 175) (v := 1) dX4_take_174 rfl (by decide) ?_
    refine ev_iadd (pc' := 176) dX4_take_175 rfl ?_
    refine ev_putf (pc' := 179) fs_4_32 dX4_take_176 rfl rfl (Nat.le_of_ble_eq_true rfl) (fun _ => rfl) (fun _ => rfl) (WZ_p4_6 _ _ _) ?_
    refine ev_aload_n (pc' := 180) dX4_take_179 rfl rfl ?_
    refine ev_bipush (pc' := 182) (v := 15) dX4_take_180 rfl (by decide) ?_
    refine ev_cVv1 (pc' := 185) cl_4_101 (k_push _ _ _) dX4_take_182 rfl rfl rfl rfl ?_
    refine ev_goto (tgt := 256) dX4_take_185 (by decide) ?_
    refine ev_return rfl dX4_take_256 ?_
    refine rt_of rfl ?_
    unfold z_take
    dsimp only
    first | (rw [h_17_0]; rfl) | (rw [h_17_1]; rfl) | (rw [h_17_2]; rfl) | (rw [h_17_3]; rfl) | (rw [h_17_4]; rfl) | (rw [h_17_5]; rfl) | (rw [h_17_6]; rfl) | (rw [h_17_7]; rfl) | (rw [h_17_8]; rfl) | (rw [h_17_9]; rfl) | (rw [h_17_10]; rfl) | (rw [h_17_11]; rfl) | (rw [h_17_12]; rfl) | (rw [h_17_13]; rfl) | (rw [h_17_14]; rfl) | (rw [h_17_15]; rfl) | (rw [h_17_16]; rfl) | (rw [if_neg h_17_0, if_neg h_17_2, if_neg h_17_1, if_neg h_17_7, if_neg h_17_15, if_neg h_17_16, if_neg (fun z => z.elim h_17_6 h_17_5)]; done)
  refine ev_case (c := 16) (fun h_17_16 => ?_) (fun h_17_16 => ?_)
  · refine ev_tableIn (off := 171) (tgt := 188) dX4_take_17 (by decide) (by decide) (by decide) (by decide) ?_
    refine ev_aload_n (pc' := 189) dX4_take_188 rfl rfl ?_
    refine ev_iconst (pc' := 190) (v := 1) dX4_take_189 rfl (by decide) ?_
    refine ev_cVv1 (pc' := 193) cl_4_91 (k_settle _ _ _ h hh h3) dX4_take_190 rfl rfl rfl rfl ?_
    refine ev_aload_n (pc' := 194) dX4_take_193 rfl rfl ?_
    refine ev_dup (pc' := 195) dX4_take_194 rfl rfl ?_
    refine ev_getf (pc' := 198) fl_4_22 dX4_take_195 rfl rfl rfl ?_
    refine ev_iconst (pc' := 199) (v := 1) dX4_take_198 rfl (by decide) ?_
    refine ev_isub (pc' := 200) dX4_take_199 rfl ?_
    refine ev_putf (pc' := 203) fs_4_22 dX4_take_200 rfl rfl (Nat.le_of_ble_eq_true rfl) (fun _ => rfl) (fun _ => rfl) (WZ_p4_3 _ _ _) ?_
    refine ev_aload_n (pc' := 204) dX4_take_203 rfl rfl ?_
    refine ev_dup (pc' := 205) dX4_take_204 rfl rfl ?_
    refine ev_getf (pc' := 208) fl_4_32 dX4_take_205 rfl rfl rfl ?_
    refine ev_iconst (pc' := 209) (v := 1) dX4_take_208 rfl (by decide) ?_
    refine ev_isub (pc' := 210) dX4_take_209 rfl ?_
    refine ev_putf (pc' := 213) fs_4_32 dX4_take_210 rfl rfl (Nat.le_of_ble_eq_true rfl) (fun _ => rfl) (fun _ => rfl) (WZ_p4_6 _ _ _) ?_
    refine ev_goto (tgt := 256) dX4_take_213 (by decide) ?_
    refine ev_return rfl dX4_take_256 ?_
    refine rt_of rfl ?_
    unfold z_take
    dsimp only
    first | (rw [h_17_0]; rfl) | (rw [h_17_1]; rfl) | (rw [h_17_2]; rfl) | (rw [h_17_3]; rfl) | (rw [h_17_4]; rfl) | (rw [h_17_5]; rfl) | (rw [h_17_6]; rfl) | (rw [h_17_7]; rfl) | (rw [h_17_8]; rfl) | (rw [h_17_9]; rfl) | (rw [h_17_10]; rfl) | (rw [h_17_11]; rfl) | (rw [h_17_12]; rfl) | (rw [h_17_13]; rfl) | (rw [h_17_14]; rfl) | (rw [h_17_15]; rfl) | (rw [h_17_16]; rfl) | (rw [if_neg h_17_0, if_neg h_17_2, if_neg h_17_1, if_neg h_17_7, if_neg h_17_15, if_neg h_17_16, if_neg (fun z => z.elim h_17_6 h_17_5)]; done)
  refine ev_tableOut (tgt := 245) dX4_take_17 (by simp only [fa_eq, Int32.reduceToInt] at h_17_0 h_17_1 h_17_2 h_17_3 h_17_4 h_17_5 h_17_6 h_17_7 h_17_8 h_17_9 h_17_10 h_17_11 h_17_12 h_17_13 h_17_14 h_17_15 h_17_16; omega) (by decide) ?_
  refine ev_aload_n (pc' := 246) dX4_take_245 rfl rfl ?_
  refine ev_aload_n (pc' := 247) dX4_take_246 rfl rfl ?_
  refine ev_getf (pc' := 250) fl_4_12 dX4_take_247 rfl rfl rfl ?_
  refine ev_getf (pc' := 253) fl_4_57 dX4_take_250 rfl rfl rfl ?_
  refine ev_cVv1 (pc' := 256) cl_4_111 (k_takeOperator _ _ _ h hh h3) dX4_take_253 rfl rfl rfl rfl ?_
  refine ev_return rfl dX4_take_256 ?_
  refine rt_of rfl ?_
  unfold z_take
  dsimp only
  first | (rw [h_17_0]; rfl) | (rw [h_17_1]; rfl) | (rw [h_17_2]; rfl) | (rw [h_17_3]; rfl) | (rw [h_17_4]; rfl) | (rw [h_17_5]; rfl) | (rw [h_17_6]; rfl) | (rw [h_17_7]; rfl) | (rw [h_17_8]; rfl) | (rw [h_17_9]; rfl) | (rw [h_17_10]; rfl) | (rw [h_17_11]; rfl) | (rw [h_17_12]; rfl) | (rw [h_17_13]; rfl) | (rw [h_17_14]; rfl) | (rw [h_17_15]; rfl) | (rw [h_17_16]; rfl) | (rw [if_neg h_17_0, if_neg h_17_2, if_neg h_17_1, if_neg h_17_7, if_neg h_17_15, if_neg h_17_16, if_neg (fun z => z.elim h_17_6 h_17_5)]; done)
