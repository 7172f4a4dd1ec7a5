/-! THE LAW (class 2). Its world: the object (size 7, rules 8), codes, values, isGrowing, starts, conditions, ends, stack (g); in WLV the vars of a loan, too. -/
def WL (σ : Nat → Nat → Int32) (g : Nat → Int32) : MW := [.inr (2, [.ref 1, .ref 2, .ref 3, .ref 4, .ref 5, .ref 6, .ref 7, .int (σ 0 7), .int (σ 0 8)]), .inl (.int, 400, .inl (σ 1)), .inl (.int, 400, .inl (σ 2)), .inl (.boolean, 16, .inl (σ 3)), .inl (.int, 16, .inl (σ 4)), .inl (.int, 16, .inl (σ 5)), .inl (.int, 16, .inl (σ 6)), .inl (.int, 400, .inl g)]
theorem WL_p2_7 (σ : Nat → Nat → Int32) (g : Nat → Int32) (v : Int32) : (WL σ g).set 0 (.inr (2, [.ref 1, .ref 2, .ref 3, .ref 4, .ref 5, .ref 6, .ref 7, .int (σ 0 7), .int (σ 0 8)].set 7 (.int v))) = WL (s2 σ 0 7 v) g := rfl
theorem WL_p2_8 (σ : Nat → Nat → Int32) (g : Nat → Int32) (v : Int32) : (WL σ g).set 0 (.inr (2, [.ref 1, .ref 2, .ref 3, .ref 4, .ref 5, .ref 6, .ref 7, .int (σ 0 7), .int (σ 0 8)].set 8 (.int v))) = WL (s2 σ 0 8 v) g := rfl
theorem WL_a1 (σ : Nat → Nat → Int32) (g : Nat → Int32) (g_ : Nat → Int32) : (WL σ g).set 1 (.inl (.int, 400, .inl g_)) = WL (s1 σ 1 g_) g := rfl
theorem WL_a2 (σ : Nat → Nat → Int32) (g : Nat → Int32) (g_ : Nat → Int32) : (WL σ g).set 2 (.inl (.int, 400, .inl g_)) = WL (s1 σ 2 g_) g := rfl
theorem WL_a3 (σ : Nat → Nat → Int32) (g : Nat → Int32) (g_ : Nat → Int32) : (WL σ g).set 3 (.inl (.boolean, 16, .inl g_)) = WL (s1 σ 3 g_) g := rfl
theorem WL_a4 (σ : Nat → Nat → Int32) (g : Nat → Int32) (g_ : Nat → Int32) : (WL σ g).set 4 (.inl (.int, 16, .inl g_)) = WL (s1 σ 4 g_) g := rfl
theorem WL_a5 (σ : Nat → Nat → Int32) (g : Nat → Int32) (g_ : Nat → Int32) : (WL σ g).set 5 (.inl (.int, 16, .inl g_)) = WL (s1 σ 5 g_) g := rfl
theorem WL_a6 (σ : Nat → Nat → Int32) (g : Nat → Int32) (g_ : Nat → Int32) : (WL σ g).set 6 (.inl (.int, 16, .inl g_)) = WL (s1 σ 6 g_) g := rfl
theorem WL_a7 (σ : Nat → Nat → Int32) (g : Nat → Int32) (g_ : Nat → Int32) : (WL σ g).set 7 (.inl (.int, 400, .inl g_)) = WL σ g_ := rfl
def WLV (σ : Nat → Nat → Int32) (g : Nat → Int32) : MW := [.inr (2, [.ref 1, .ref 2, .ref 3, .ref 4, .ref 5, .ref 6, .ref 7, .int (σ 0 7), .int (σ 0 8)]), .inl (.int, 400, .inl (σ 1)), .inl (.int, 400, .inl (σ 2)), .inl (.boolean, 16, .inl (σ 3)), .inl (.int, 16, .inl (σ 4)), .inl (.int, 16, .inl (σ 5)), .inl (.int, 16, .inl (σ 6)), .inl (.int, 400, .inl g), .inl (.int, 9, .inl (σ 8))]
theorem WLV_p2_7 (σ : Nat → Nat → Int32) (g : Nat → Int32) (v : Int32) : (WLV σ g).set 0 (.inr (2, [.ref 1, .ref 2, .ref 3, .ref 4, .ref 5, .ref 6, .ref 7, .int (σ 0 7), .int (σ 0 8)].set 7 (.int v))) = WLV (s2 σ 0 7 v) g := rfl
theorem WLV_p2_8 (σ : Nat → Nat → Int32) (g : Nat → Int32) (v : Int32) : (WLV σ g).set 0 (.inr (2, [.ref 1, .ref 2, .ref 3, .ref 4, .ref 5, .ref 6, .ref 7, .int (σ 0 7), .int (σ 0 8)].set 8 (.int v))) = WLV (s2 σ 0 8 v) g := rfl
theorem WLV_a1 (σ : Nat → Nat → Int32) (g : Nat → Int32) (g_ : Nat → Int32) : (WLV σ g).set 1 (.inl (.int, 400, .inl g_)) = WLV (s1 σ 1 g_) g := rfl
theorem WLV_a2 (σ : Nat → Nat → Int32) (g : Nat → Int32) (g_ : Nat → Int32) : (WLV σ g).set 2 (.inl (.int, 400, .inl g_)) = WLV (s1 σ 2 g_) g := rfl
theorem WLV_a3 (σ : Nat → Nat → Int32) (g : Nat → Int32) (g_ : Nat → Int32) : (WLV σ g).set 3 (.inl (.boolean, 16, .inl g_)) = WLV (s1 σ 3 g_) g := rfl
theorem WLV_a4 (σ : Nat → Nat → Int32) (g : Nat → Int32) (g_ : Nat → Int32) : (WLV σ g).set 4 (.inl (.int, 16, .inl g_)) = WLV (s1 σ 4 g_) g := rfl
theorem WLV_a5 (σ : Nat → Nat → Int32) (g : Nat → Int32) (g_ : Nat → Int32) : (WLV σ g).set 5 (.inl (.int, 16, .inl g_)) = WLV (s1 σ 5 g_) g := rfl
theorem WLV_a6 (σ : Nat → Nat → Int32) (g : Nat → Int32) (g_ : Nat → Int32) : (WLV σ g).set 6 (.inl (.int, 16, .inl g_)) = WLV (s1 σ 6 g_) g := rfl
theorem WLV_a7 (σ : Nat → Nat → Int32) (g : Nat → Int32) (g_ : Nat → Int32) : (WLV σ g).set 7 (.inl (.int, 400, .inl g_)) = WLV σ g_ := rfl
theorem WLV_a8 (σ : Nat → Nat → Int32) (g : Nat → Int32) (g_ : Nat → Int32) : (WLV σ g).set 8 (.inl (.int, 9, .inl g_)) = WLV (s1 σ 8 g_) g := rfl
theorem k_clear {d : Nat} (σ : RS) (g : Nat → Int32) : Ok d M2_clear [.ref 0] (WL σ g) (rt none (WL (s2 (s2 σ 0 7 0) 0 8 0) g)) := by
  refine Ok.of (ls := [some _]) (by decide +kernel) (Nat.le_of_ble_eq_true rfl) rfl ?_
  refine ev_aload_n (pc' := 1) dX2_clear_0 rfl rfl ?_
  refine ev_iconst (pc' := 2) (v := 0) dX2_clear_1 rfl (by decide) ?_
  refine ev_putf (pc' := 5) fs_2_34 dX2_clear_2 rfl rfl (Nat.le_of_ble_eq_true rfl) (fun _ => rfl) (fun _ => rfl) (WL_p2_7 _ _ _) ?_
  refine ev_aload_n (pc' := 6) dX2_clear_5 rfl rfl ?_
  refine ev_iconst (pc' := 7) (v := 0) dX2_clear_6 rfl (by decide) ?_
  refine ev_putf (pc' := 10) fs_2_38 dX2_clear_7 rfl rfl (Nat.le_of_ble_eq_true rfl) (fun _ => rfl) (fun _ => rfl) (WL_p2_8 _ _ _) ?_
  refine ev_return rfl dX2_clear_10 ?_
  exact ⟨rfl, rfl⟩
theorem k_ruleCount {d : Nat} (σ : RS) (g : Nat → Int32) : Ok d M2_ruleCount [.ref 0] (WL σ g) (rt (some (.int (σ 0 8))) (WL σ g)) := by
  refine Ok.of (ls := [some _]) (by decide +kernel) (Nat.le_of_ble_eq_true rfl) rfl ?_
  refine ev_aload_n (pc' := 1) dX2_ruleCount_0 rfl rfl ?_
  refine ev_getf (pc' := 4) fl_2_38 dX2_ruleCount_1 rfl rfl rfl ?_
  refine ev_ireturn rfl dX2_ruleCount_4 ?_
  exact ⟨rfl, rfl⟩
def l_begun (σ : RS) (n : Nat) (gr : Int32) : RS := s2 (s1 (s1 σ 3 (upd (σ 3) n gr)) 4 (upd (σ 4) n (σ 0 7))) 0 8 (nI (n + 1))
theorem k_begin {d : Nat} (σ : RS) (g : Nat → Int32) (n : Nat) (b : Bool) (hn : n < 16) (h8 : σ 0 8 = nI n) : Ok d M2_begin [.ref 0, .int (bI b)] (WL σ g) (rt none (WL (l_begun σ n (bI b)) g)) := by
  have hi : vp_in (σ 0 8) 16 := by rw [h8]; exact vp_in_nI (by omega) (by omega)
  have e1 : (σ 0 8).toNatClampNeg = n := by rw [h8]; exact nI_clamp (by omega)
  have e2 : vp_nar .boolean (bI b) = bI b := by cases b <;> rfl
  refine Ok.of (ls := [some _, some _]) (by decide +kernel) (Nat.le_of_ble_eq_true rfl) rfl ?_
  refine ev_aload_n (pc' := 1) dX2_begin_0 rfl rfl ?_
  refine ev_getf (pc' := 4) fl_2_38 dX2_begin_1 rfl rfl rfl ?_
  refine ev_bipush (pc' := 6) (v := 16) dX2_begin_4 rfl (by decide) ?_
  refine ev_icmp_ge (tgt := 42) (pc' := 9) dX2_begin_6 (by decide) rfl (fun h_6 => ?_) (fun h_6 => ?_)
  · exact absurd h_6 (by rw [h8]; exact nI_ge (b := 16) (by omega) (by omega)) --
  · refine ev_aload_n (pc' := 10) dX2_begin_9 rfl rfl ?_
    refine ev_getf (pc' := 13) fl_2_18 dX2_begin_10 rfl rfl rfl ?_
    refine ev_aload_n (pc' := 14) dX2_begin_13 rfl rfl ?_
    refine ev_getf (pc' := 17) fl_2_38 dX2_begin_14 rfl rfl rfl ?_
    refine ev_iload_n (pc' := 18) dX2_begin_17 rfl rfl ?_
    refine ev_zast (pc' := 19) dX2_begin_18 rfl rfl ?_ (WL_a3 _ _ _) ?_
    · exact hi
    refine ev_aload_n (pc' := 20) dX2_begin_19 rfl rfl ?_
    refine ev_getf (pc' := 23) fl_2_22 dX2_begin_20 rfl rfl rfl ?_
    refine ev_aload_n (pc' := 24) dX2_begin_23 rfl rfl ?_
    refine ev_getf (pc' := 27) fl_2_38 dX2_begin_24 rfl rfl rfl ?_
    refine ev_aload_n (pc' := 28) dX2_begin_27 rfl rfl ?_
    refine ev_getf (pc' := 31) fl_2_34 dX2_begin_28 rfl rfl rfl ?_
    refine ev_iast (pc' := 32) dX2_begin_31 rfl rfl ?_ (WL_a4 _ _ _) ?_
    · exact hi
    refine ev_aload_n (pc' := 33) dX2_begin_32 rfl rfl ?_
    refine ev_dup (pc' := 34) dX2_begin_33 rfl rfl ?_
    refine ev_getf (pc' := 37) fl_2_38 dX2_begin_34 rfl rfl rfl ?_
    refine ev_iconst (pc' := 38) (v := 1) dX2_begin_37 rfl (by decide) ?_
    refine ev_iadd (pc' := 39) dX2_begin_38 rfl ?_
    refine ev_putf (pc' := 42) fs_2_38 dX2_begin_39 rfl rfl (Nat.le_of_ble_eq_true rfl) (fun _ => rfl) (fun _ => rfl) (WL_p2_8 _ _ _) ?_
    refine ev_return rfl dX2_begin_42 ?_
    refine rt_of rfl ?_
    unfold l_begun
    rw [← nI_1, ← h8]
    rw [e1, e2]
    show WL (s2 (s1 (s1 σ 3 (upd (σ 3) n (bI b))) 4 (upd (σ 4) (σ 0 8).toNatClampNeg (σ 0 7))) 0 8 (σ 0 8 + 1)) g = _
    rw [e1]
theorem k_beginCondition {d : Nat} (σ : RS) (g : Nat → Int32) : Ok (d + 1) M2_beginCondition [.ref 0] (WL σ g) (rt none (WL (s1 σ 5 (putF 16 (σ 5) (σ 0 8 - 1) (σ 0 7))) g)) := by
  refine Ok.of (ls := [some _]) (by decide +kernel) (Nat.le_of_ble_eq_true rfl) rfl ?_
  refine ev_aload_n (pc' := 1) dX2_beginCondition_0 rfl rfl ?_
  refine ev_getf (pc' := 4) fl_2_25 dX2_beginCondition_1 rfl rfl rfl ?_
  refine ev_aload_n (pc' := 5) dX2_beginCondition_4 rfl rfl ?_
  refine ev_getf (pc' := 8) fl_2_38 dX2_beginCondition_5 rfl rfl rfl ?_
  refine ev_iconst (pc' := 9) (v := 1) dX2_beginCondition_8 rfl (by decide) ?_
  refine ev_isub (pc' := 10) dX2_beginCondition_9 rfl ?_
  refine ev_aload_n (pc' := 11) dX2_beginCondition_10 rfl rfl ?_
  refine ev_getf (pc' := 14) fl_2_34 dX2_beginCondition_11 rfl rfl rfl ?_
  refine ev_cNv3 (pc' := 17) cl_2_41 (k_put rfl (by decide) (WL_a5 _ _ _)) dX2_beginCondition_14 rfl rfl ?_
  refine ev_return rfl dX2_beginCondition_17 ?_
  exact ⟨rfl, rfl⟩
theorem k_end {d : Nat} (σ : RS) (g : Nat → Int32) : Ok (d + 1) M2_end [.ref 0] (WL σ g) (rt none (WL (s1 σ 6 (putF 16 (σ 6) (σ 0 8 - 1) (σ 0 7))) g)) := by
  refine Ok.of (ls := [some _]) (by decide +kernel) (Nat.le_of_ble_eq_true rfl) rfl ?_
  refine ev_aload_n (pc' := 1) dX2_end_0 rfl rfl ?_
  refine ev_getf (pc' := 4) fl_2_28 dX2_end_1 rfl rfl rfl ?_
  refine ev_aload_n (pc' := 5) dX2_end_4 rfl rfl ?_
  refine ev_getf (pc' := 8) fl_2_38 dX2_end_5 rfl rfl rfl ?_
  refine ev_iconst (pc' := 9) (v := 1) dX2_end_8 rfl (by decide) ?_
  refine ev_isub (pc' := 10) dX2_end_9 rfl ?_
  refine ev_aload_n (pc' := 11) dX2_end_10 rfl rfl ?_
  refine ev_getf (pc' := 14) fl_2_34 dX2_end_11 rfl rfl rfl ?_
  refine ev_cNv3 (pc' := 17) cl_2_41 (k_put rfl (by decide) (WL_a6 _ _ _)) dX2_end_14 rfl rfl ?_
  refine ev_return rfl dX2_end_17 ?_
  exact ⟨rfl, rfl⟩
def l_added (σ : RS) (c v : Int32) : RS := s2 (s1 (s1 σ 1 (putF 400 (σ 1) (σ 0 7) c)) 2 (putF 400 (σ 2) (σ 0 7) v)) 0 7 (σ 0 7 + 1)
theorem k_add {d : Nat} (σ : RS) (g : Nat → Int32) (c v : Int32) : Ok (d + 1) M2_add [.ref 0, .int c, .int v] (WL σ g) (rt none (WL (l_added σ c v) g)) := by
  refine Ok.of (ls := [some _, some _, some _]) (by decide +kernel) (Nat.le_of_ble_eq_true rfl) rfl ?_
  refine ev_aload_n (pc' := 1) dX2_add_0 rfl rfl ?_
  refine ev_getf (pc' := 4) fl_2_9 dX2_add_1 rfl rfl rfl ?_
  refine ev_aload_n (pc' := 5) dX2_add_4 rfl rfl ?_
  refine ev_getf (pc' := 8) fl_2_34 dX2_add_5 rfl rfl rfl ?_
  refine ev_iload_n (pc' := 9) dX2_add_8 rfl rfl ?_
  refine ev_cNv3 (pc' := 12) cl_2_41 (k_put rfl (by decide) (WL_a1 _ _ _)) dX2_add_9 rfl rfl ?_
  refine ev_aload_n (pc' := 13) dX2_add_12 rfl rfl ?_
  refine ev_getf (pc' := 16) fl_2_15 dX2_add_13 rfl rfl rfl ?_
  refine ev_aload_n (pc' := 17) dX2_add_16 rfl rfl ?_
  refine ev_getf (pc' := 20) fl_2_34 dX2_add_17 rfl rfl rfl ?_
  refine ev_iload_n (pc' := 21) dX2_add_20 rfl rfl ?_
  refine ev_cNv3 (pc' := 24) cl_2_41 (k_put rfl (by decide) (WL_a2 _ _ _)) dX2_add_21 rfl rfl ?_
  refine ev_aload_n (pc' := 25) dX2_add_24 rfl rfl ?_
  refine ev_dup (pc' := 26) dX2_add_25 rfl rfl ?_
  refine ev_getf (pc' := 29) fl_2_34 dX2_add_26 rfl rfl rfl ?_
  refine ev_iconst (pc' := 30) (v := 1) dX2_add_29 rfl (by decide) ?_
  refine ev_iadd (pc' := 31) dX2_add_30 rfl ?_
  refine ev_putf (pc' := 34) fs_2_34 dX2_add_31 rfl rfl (Nat.le_of_ble_eq_true rfl) (fun _ => rfl) (fun _ => rfl) (WL_p2_7 _ _ _) ?_
  refine ev_return rfl dX2_add_34 ?_
  exact ⟨rfl, rfl⟩
def jn (c a b : Int32) : Int32 := if c = 4 then a &&& b else if c = 8 then a + b else if c = 9 then a - b else if c = 10 then a * b else if c = 11 then bI (decide (a = b)) else if c = 12 then bI (decide (¬ a = b)) else if c = 13 then bI (decide (a < b)) else if c = 14 then bI (decide (a ≤ b)) else a ||| b
theorem k_join {d : Nat} (w : MW) (c a b : Int32) : Ok d M2_join [.int c, .int a, .int b] w (rt (some (.int (jn c a b))) w) := by
  refine Ok.of (ls := [some _, some _, some _]) (by decide +kernel) (Nat.le_of_ble_eq_true rfl) rfl ?_
  refine ev_iload_n (pc' := 1) dX2_join_0 rfl rfl ?_
  refine ev_case (c := 4) (fun h_1_4 => ?_) (fun h_1_4 => ?_)
  · refine ev_tableIn (off := 115) (tgt := 116) dX2_join_1 (by decide) (by decide) (by decide) (by decide) ?_
    refine ev_iload_n (pc' := 117) dX2_join_116 rfl rfl ?_
    refine ev_iload_n (pc' := 118) dX2_join_117 rfl rfl ?_
    refine ev_iand (pc' := 119) dX2_join_118 rfl ?_
    refine ev_ireturn rfl dX2_join_119 ?_
    refine rt_i ?_ rfl
    unfold jn
    simp_all [bI]
  refine ev_case (c := 5) (fun h_1_5 => ?_) (fun h_1_5 => ?_)
  · refine ev_tableIn (off := 119) (tgt := 120) dX2_join_1 (by decide) (by decide) (by decide) (by decide) ?_
    refine ev_iload_n (pc' := 121) dX2_join_120 rfl rfl ?_
    refine ev_iload_n (pc' := 122) dX2_join_121 rfl rfl ?_
    refine ev_ior (pc' := 123) dX2_join_122 rfl ?_
    refine ev_ireturn rfl dX2_join_123 ?_
    refine rt_i ?_ rfl
    unfold jn
    simp_all [bI]
  refine ev_case (c := 6) (fun h_1_6 => ?_) (fun h_1_6 => ?_)
  · refine ev_tableIn (off := 119) (tgt := 120) dX2_join_1 (by decide) (by decide) (by decide) (by decide) ?_
    refine ev_iload_n (pc' := 121) dX2_join_120 rfl rfl ?_
    refine ev_iload_n (pc' := 122) dX2_join_121 rfl rfl ?_
    refine ev_ior (pc' := 123) dX2_join_122 rfl ?_
    refine ev_ireturn rfl dX2_join_123 ?_
    refine rt_i ?_ rfl
    unfold jn
    simp_all [bI]
  refine ev_case (c := 7) (fun h_1_7 => ?_) (fun h_1_7 => ?_)
  · refine ev_tableIn (off := 119) (tgt := 120) dX2_join_1 (by decide) (by decide) (by decide) (by decide) ?_
    refine ev_iload_n (pc' := 121) dX2_join_120 rfl rfl ?_
    refine ev_iload_n (pc' := 122) dX2_join_121 rfl rfl ?_
    refine ev_ior (pc' := 123) dX2_join_122 rfl ?_
    refine ev_ireturn rfl dX2_join_123 ?_
    refine rt_i ?_ rfl
    unfold jn
    simp_all [bI]
  refine ev_case (c := 8) (fun h_1_8 => ?_) (fun h_1_8 => ?_)
  · refine ev_tableIn (off := 59) (tgt := 60) dX2_join_1 (by decide) (by decide) (by decide) (by decide) ?_
    refine ev_iload_n (pc' := 61) dX2_join_60 rfl rfl ?_
    refine ev_iload_n (pc' := 62) dX2_join_61 rfl rfl ?_
    refine ev_iadd (pc' := 63) dX2_join_62 rfl ?_
    refine ev_ireturn rfl dX2_join_63 ?_
    refine rt_i ?_ rfl
    unfold jn
    simp_all [bI]
  refine ev_case (c := 9) (fun h_1_9 => ?_) (fun h_1_9 => ?_)
  · refine ev_tableIn (off := 63) (tgt := 64) dX2_join_1 (by decide) (by decide) (by decide) (by decide) ?_
    refine ev_iload_n (pc' := 65) dX2_join_64 rfl rfl ?_
    refine ev_iload_n (pc' := 66) dX2_join_65 rfl rfl ?_
    refine ev_isub (pc' := 67) dX2_join_66 rfl ?_
    refine ev_ireturn rfl dX2_join_67 ?_
    refine rt_i ?_ rfl
    unfold jn
    simp_all [bI]
  refine ev_case (c := 10) (fun h_1_10 => ?_) (fun h_1_10 => ?_)
  · refine ev_tableIn (off := 67) (tgt := 68) dX2_join_1 (by decide) (by decide) (by decide) (by decide) ?_
    refine ev_iload_n (pc' := 69) dX2_join_68 rfl rfl ?_
    refine ev_iload_n (pc' := 70) dX2_join_69 rfl rfl ?_
    refine ev_imul (pc' := 71) dX2_join_70 rfl ?_
    refine ev_ireturn rfl dX2_join_71 ?_
    refine rt_i ?_ rfl
    unfold jn
    simp_all [bI]
  refine ev_case (c := 11) (fun h_1_11 => ?_) (fun h_1_11 => ?_)
  · refine ev_tableIn (off := 71) (tgt := 72) dX2_join_1 (by decide) (by decide) (by decide) (by decide) ?_
    refine ev_iload_n (pc' := 73) dX2_join_72 rfl rfl ?_
    refine ev_iload_n (pc' := 74) dX2_join_73 rfl rfl ?_
    refine ev_icmp_ne (tgt := 81) (pc' := 77) dX2_join_74 (by decide) rfl (fun h_74 => ?_) (fun h_74 => ?_)
    · refine ev_iconst (pc' := 82) (v := 0) dX2_join_81 rfl (by decide) ?_
      refine ev_ireturn rfl dX2_join_82 ?_
      refine rt_i ?_ rfl
      unfold jn
      simp_all [bI]
    · refine ev_iconst (pc' := 78) (v := 1) dX2_join_77 rfl (by decide) ?_
      refine ev_goto (tgt := 82) dX2_join_78 (by decide) ?_
      refine ev_ireturn rfl dX2_join_82 ?_
      refine rt_i ?_ rfl
      unfold jn
      simp_all [bI]
  refine ev_case (c := 12) (fun h_1_12 => ?_) (fun h_1_12 => ?_)
  · refine ev_tableIn (off := 82) (tgt := 83) dX2_join_1 (by decide) (by decide) (by decide) (by decide) ?_
    refine ev_iload_n (pc' := 84) dX2_join_83 rfl rfl ?_
    refine ev_iload_n (pc' := 85) dX2_join_84 rfl rfl ?_
    refine ev_icmp_eq (tgt := 92) (pc' := 88) dX2_join_85 (by decide) rfl (fun h_85 => ?_) (fun h_85 => ?_)
    · refine ev_iconst (pc' := 93) (v := 0) dX2_join_92 rfl (by decide) ?_
      refine ev_ireturn rfl dX2_join_93 ?_
      refine rt_i ?_ rfl
      unfold jn
      simp_all [bI]
    · refine ev_iconst (pc' := 89) (v := 1) dX2_join_88 rfl (by decide) ?_
      refine ev_goto (tgt := 93) dX2_join_89 (by decide) ?_
      refine ev_ireturn rfl dX2_join_93 ?_
      refine rt_i ?_ rfl
      unfold jn
      simp_all [bI]
  refine ev_case (c := 13) (fun h_1_13 => ?_) (fun h_1_13 => ?_)
  · refine ev_tableIn (off := 93) (tgt := 94) dX2_join_1 (by decide) (by decide) (by decide) (by decide) ?_
    refine ev_iload_n (pc' := 95) dX2_join_94 rfl rfl ?_
    refine ev_iload_n (pc' := 96) dX2_join_95 rfl rfl ?_
    refine ev_icmp_ge (tgt := 103) (pc' := 99) dX2_join_96 (by decide) rfl (fun h_96 => ?_) (fun h_96 => ?_)
    · refine ev_iconst (pc' := 104) (v := 0) dX2_join_103 rfl (by decide) ?_
      refine ev_ireturn rfl dX2_join_104 ?_
      refine rt_i ?_ rfl
      unfold jn
      simp_all [bI]
    · refine ev_iconst (pc' := 100) (v := 1) dX2_join_99 rfl (by decide) ?_
      refine ev_goto (tgt := 104) dX2_join_100 (by decide) ?_
      refine ev_ireturn rfl dX2_join_104 ?_
      refine rt_i ?_ rfl
      unfold jn
      simp_all [bI]
  refine ev_case (c := 14) (fun h_1_14 => ?_) (fun h_1_14 => ?_)
  · refine ev_tableIn (off := 104) (tgt := 105) dX2_join_1 (by decide) (by decide) (by decide) (by decide) ?_
    refine ev_iload_n (pc' := 106) dX2_join_105 rfl rfl ?_
    refine ev_iload_n (pc' := 107) dX2_join_106 rfl rfl ?_
    refine ev_icmp_gt (tgt := 114) (pc' := 110) dX2_join_107 (by decide) rfl (fun h_107 => ?_) (fun h_107 => ?_)
    · refine ev_iconst (pc' := 115) (v := 0) dX2_join_114 rfl (by decide) ?_
      refine ev_ireturn rfl dX2_join_115 ?_
      refine rt_i ?_ rfl
      unfold jn
      simp_all [bI]
    · refine ev_iconst (pc' := 111) (v := 1) dX2_join_110 rfl (by decide) ?_
      refine ev_goto (tgt := 115) dX2_join_111 (by decide) ?_
      refine ev_ireturn rfl dX2_join_115 ?_
      refine rt_i ?_ rfl
      unfold jn
      simp_all [bI]
  refine ev_tableOut (tgt := 120) dX2_join_1 (by simp only [fa_eq, Int32.reduceToInt] at h_1_4 h_1_5 h_1_6 h_1_7 h_1_8 h_1_9 h_1_10 h_1_11 h_1_12 h_1_13 h_1_14; omega) (by decide) ?_
  refine ev_iload_n (pc' := 121) dX2_join_120 rfl rfl ?_
  refine ev_iload_n (pc' := 122) dX2_join_121 rfl rfl ?_
  refine ev_ior (pc' := 123) dX2_join_122 rfl ?_
  refine ev_ireturn rfl dX2_join_123 ?_
  refine rt_i ?_ rfl
  unfold jn
  simp_all [bI]
