/-! THE LAW (class 2). Its world: the object (size 7, rules 8), codes, values, isGrowing, starts, conditions, ends, stack (g); in WLV the vars of a loan, too. -/
def WL (σ : Nat → Nat → Int32) (g : Nat → Int32) : MW := [.inr (2, [.ref 1, .ref 2, .ref 3, .ref 4, .ref 5, .ref 6, .ref 7, .int (σ 0 7), .int (σ 0 8)]), .inl (.int, 400, .inl (σ 1)), .inl (.int, 400, .inl (σ 2)), .inl (.boolean, 16, .inl (σ 3)), .inl (.int, 16, .inl (σ 4)), .inl (.int, 16, .inl (σ 5)), .inl (.int, 16, .inl (σ 6)), .inl (.int, 400, .inl g)]
theorem WL_p2_7 (σ : Nat → Nat → Int32) (g : Nat → Int32) (v : Int32) : (WL σ g).set 0 (.inr (2, [.ref 1, .ref 2, .ref 3, .ref 4, .ref 5, .ref 6, .ref 7, .int (σ 0 7), .int (σ 0 8)].set 7 (.int v))) = WL (s2 σ 0 7 v) g := rfl
theorem WL_p2_8 (σ : Nat → Nat → Int32) (g : Nat → Int32) (v : Int32) : (WL σ g).set 0 (.inr (2, [.ref 1, .ref 2, .ref 3, .ref 4, .ref 5, .ref 6, .ref 7, .int (σ 0 7), .int (σ 0 8)].set 8 (.int v))) = WL (s2 σ 0 8 v) g := rfl
theorem WL_a1 (σ : Nat → Nat → Int32) (g : Nat → Int32) (g_ : Nat → Int32) : (WL σ g).set 1 (.inl (.int, 400, .inl g_)) = WL (s1 σ 1 g_) g := rfl
theorem WL_a2 (σ : Nat → Nat → Int32) (g : Nat → Int32) (g_ : Nat → Int32) : (WL σ g).set 2 (.inl (.int, 400, .inl g_)) = WL (s1 σ 2 g_) g := rfl
theorem WL_a3 (σ : Nat → Nat → Int32) (g : Nat → Int32) (g_ : Nat → Int32) : (WL σ g).set 3 (.inl (.boolean, 16, .inl g_)) = WL (s1 σ 3 g_) g := rfl
theorem WL_a4 (σ : Nat → Nat → Int32) (g : Nat → Int32) (g_ : Nat → Int32) : (WL σ g).set 4 (.inl (.int, 16, .inl g_)) = WL (s1 σ 4 g_) g := rfl
theorem WL_a5 (σ : Nat → Nat → Int32) (g : Nat → Int32) (g_ : Nat → Int32) : (WL σ g).set 5 (.inl (.int, 16, .inl g_)) = WL (s1 σ 5 g_) g := rfl
theorem WL_a6 (σ : Nat → Nat → Int32) (g : Nat → Int32) (g_ : Nat → Int32) : (WL σ g).set 6 (.inl (.int, 16, .inl g_)) = WL (s1 σ 6 g_) g := rfl
theorem WL_a7 (σ : Nat → Nat → Int32) (g : Nat → Int32) (g_ : Nat → Int32) : (WL σ g).set 7 (.inl (.int, 400, .inl g_)) = WL σ g_ := rfl
def WLV (σ : Nat → Nat → Int32) (g : Nat → Int32) : MW := [.inr (2, [.ref 1, .ref 2, .ref 3, .ref 4, .ref 5, .ref 6, .ref 7, .int (σ 0 7), .int (σ 0 8)]), .inl (.int, 400, .inl (σ 1)), .inl (.int, 400, .inl (σ 2)), .inl (.boolean, 16, .inl (σ 3)), .inl (.int, 16, .inl (σ 4)), .inl (.int, 16, .inl (σ 5)), .inl (.int, 16, .inl (σ 6)), .inl (.int, 400, .inl g), .inl (.int, 9, .inl (σ 8))]
theorem WLV_p2_7 (σ : Nat → Nat → Int32) (g : Nat → Int32) (v : Int32) : (WLV σ g).set 0 (.inr (2, [.ref 1, .ref 2, .ref 3, .ref 4, .ref 5, .ref 6, .ref 7, .int (σ 0 7), .int (σ 0 8)].set 7 (.int v))) = WLV (s2 σ 0 7 v) g := rfl
theorem WLV_p2_8 (σ : Nat → Nat → Int32) (g : Nat → Int32) (v : Int32) : (WLV σ g).set 0 (.inr (2, [.ref 1, .ref 2, .ref 3, .ref 4, .ref 5, .ref 6, .ref 7, .int (σ 0 7), .int (σ 0 8)].set 8 (.int v))) = WLV (s2 σ 0 8 v) g := rfl
theorem WLV_a1 (σ : Nat → Nat → Int32) (g : Nat → Int32) (g_ : Nat → Int32) : (WLV σ g).set 1 (.inl (.int, 400, .inl g_)) = WLV (s1 σ 1 g_) g := rfl
theorem WLV_a2 (σ : Nat → Nat → Int32) (g : Nat → Int32) (g_ : Nat → Int32) : (WLV σ g).set 2 (.inl (.int, 400, .inl g_)) = WLV (s1 σ 2 g_) g := rfl
theorem WLV_a3 (σ : Nat → Nat → Int32) (g : Nat → Int32) (g_ : Nat → Int32) : (WLV σ g).set 3 (.inl (.boolean, 16, .inl g_)) = WLV (s1 σ 3 g_) g := rfl
theorem WLV_a4 (σ : Nat → Nat → Int32) (g : Nat → Int32) (g_ : Nat → Int32) : (WLV σ g).set 4 (.inl (.int, 16, .inl g_)) = WLV (s1 σ 4 g_) g := rfl
theorem WLV_a5 (σ : Nat → Nat → Int32) (g : Nat → Int32) (g_ : Nat → Int32) : (WLV σ g).set 5 (.inl (.int, 16, .inl g_)) = WLV (s1 σ 5 g_) g := rfl
theorem WLV_a6 (σ : Nat → Nat → Int32) (g : Nat → Int32) (g_ : Nat → Int32) : (WLV σ g).set 6 (.inl (.int, 16, .inl g_)) = WLV (s1 σ 6 g_) g := rfl
theorem WLV_a7 (σ : Nat → Nat → Int32) (g : Nat → Int32) (g_ : Nat → Int32) : (WLV σ g).set 7 (.inl (.int, 400, .inl g_)) = WLV σ g_ := rfl
theorem WLV_a8 (σ : Nat → Nat → Int32) (g : Nat → Int32) (g_ : Nat → Int32) : (WLV σ g).set 8 (.inl (.int, 9, .inl g_)) = WLV (s1 σ 8 g_) g := rfl
theorem k_clear {d : Nat} (σ : RS) (g : Nat → Int32) : Ok d M2_clear [.ref 0] (WL σ g) (rt none (WL (s2 (s2 σ 0 7 0) 0 8 0) g)) := by
  refine Ok.of (ls := [some _]) (by decide +kernel) (Nat.le_of_ble_eq_true rfl) rfl ?_
  refine ev_aload_n (pc' := 1) dX2_clear_0 rfl rfl ?_
  refine ev_iconst (pc' := 2) (v := 0) dX2_clear_1 rfl (by decide) ?_
  refine ev_putf (pc' := 5) fs_2_34 dX2_clear_2 rfl rfl (Nat.le_of_ble_eq_true rfl) (fun _ => rfl) (fun _ => rfl) (WL_p2_7 _ _ _) ?_
  refine ev_aload_n (pc' := 6) dX2_clear_5 rfl rfl ?_
  refine ev_iconst (pc' := 7) (v := 0) dX2_clear_6 rfl (by decide) ?_
  refine ev_putf (pc' := 10) fs_2_38 dX2_clear_7 rfl rfl (Nat.le_of_ble_eq_true rfl) (fun _ => rfl) (fun _ => rfl) (WL_p2_8 _ _ _) ?_
  refine ev_return rfl dX2_clear_10 ?_
  exact ⟨rfl, rfl⟩
theorem k_ruleCount {d : Nat} (σ : RS) (g : Nat → Int32) : Ok d M2_ruleCount [.ref 0] (WL σ g) (rt (some (.int (σ 0 8))) (WL σ g)) := by
  refine Ok.of (ls := [some _]) (by decide +kernel) (Nat.le_of_ble_eq_true rfl) rfl ?_
  refine ev_aload_n (pc' := 1) dX2_ruleCount_0 rfl rfl ?_
  refine ev_getf (pc' := 4) fl_2_38 dX2_ruleCount_1 rfl rfl rfl ?_
  refine ev_ireturn rfl dX2_ruleCount_4 ?_
  exact ⟨rfl, rfl⟩
def lz_begun (σ : RS) (n : Nat) (gr : Int32) : RS := s2 (s1 (s1 σ 3 (upd (σ 3) n gr)) 4 (upd (σ 4) n (σ 0 7))) 0 8 (nI (n + 1))
theorem k_begin {d : Nat} (σ : RS) (g : Nat → Int32) (n : Nat) (b : Bool) (hn : n < 16) (h8 : σ 0 8 = nI n) : Ok d M2_begin [.ref 0, .int (bI b)] (WL σ g) (rt none (WL (lz_begun σ n (bI b)) g)) := by
  have hi : vp_in (σ 0 8) 16 := by rw [h8]; exact vp_in_nI (by omega) (by omega)
  have e1 : (σ 0 8).toNatClampNeg = n := by rw [h8]; exact nI_clamp (by omega)
  have e2 : vp_nar .boolean (bI b) = bI b := by cases b <;> rfl
  refine Ok.of (ls := [some _, some _]) (by decide +kernel) (Nat.le_of_ble_eq_true rfl) rfl ?_
  refine ev_aload_n (pc' := 1) dX2_begin_0 rfl rfl ?_
  refine ev_getf (pc' := 4) fl_2_38 dX2_begin_1 rfl rfl rfl ?_
  refine ev_bipush (pc' := 6) (v := 16) dX2_begin_4 rfl (by decide) ?_
  refine ev_icmp_ge (tgt := 42) (pc' := 9) dX2_begin_6 (by decide) rfl (fun h_6 => ?_) (fun h_6 => ?_)
  · exact absurd h_6 (by rw [h8]; exact nI_ge (b := 16) (by omega) (by omega)) --
  · refine ev_aload_n (pc' := 10) dX2_begin_9 rfl rfl ?_
    refine ev_getf (pc' := 13) fl_2_18 dX2_begin_10 rfl rfl rfl ?_
    refine ev_aload_n (pc' := 14) dX2_begin_13 rfl rfl ?_
    refine ev_getf (pc' := 17) fl_2_38 dX2_begin_14 rfl rfl rfl ?_
    refine ev_iload_n (pc' := 18) dX2_begin_17 rfl rfl ?_
    refine ev_zast (pc' := 19) dX2_begin_18 rfl rfl ?_ (WL_a3 _ _ _) ?_
    · exact hi
    refine ev_aload_n (pc' := 20) dX2_begin_19 rfl rfl ?_
    refine ev_getf (pc' := 23) fl_2_22 dX2_begin_20 rfl rfl rfl ?_
    refine ev_aload_n (pc' := 24) dX2_begin_23 rfl rfl ?_
    refine ev_getf (pc' := 27) fl_2_38 dX2_begin_24 rfl rfl rfl ?_
    refine ev_aload_n (pc' := 28) dX2_begin_27 rfl rfl ?_
    refine ev_getf (pc' := 31) fl_2_34 dX2_begin_28 rfl rfl rfl ?_
    refine ev_iast (pc' := 32) dX2_begin_31 rfl rfl ?_ (WL_a4 _ _ _) ?_
    · exact hi
    refine ev_aload_n (pc' := 33) dX2_begin_32 rfl rfl ?_
    refine ev_dup (pc' := 34) dX2_begin_33 rfl rfl ?_
    refine ev_getf (pc' := 37) fl_2_38 dX2_begin_34 rfl rfl rfl ?_
    refine ev_iconst (pc' := 38) (v := 1) dX2_begin_37 rfl (by decide) ?_
    refine ev_iadd (pc' := 39) dX2_begin_38 rfl ?_
    refine ev_putf (pc' := 42) fs_2_38 dX2_begin_39 rfl rfl (Nat.le_of_ble_eq_true rfl) (fun _ => rfl) (fun _ => rfl) (WL_p2_8 _ _ _) ?_
    refine ev_return rfl dX2_begin_42 ?_
    refine rt_of rfl ?_
    unfold lz_begun
    rw [← nI_1, ← h8]
    rw [e1, e2]
    show WL (s2 (s1 (s1 σ 3 (upd (σ 3) n (bI b))) 4 (upd (σ 4) (σ 0 8).toNatClampNeg (σ 0 7))) 0 8 (σ 0 8 + 1)) g = _
    rw [e1]
theorem k_beginCondition {d : Nat} (σ : RS) (g : Nat → Int32) : Ok (d + 1) M2_beginCondition [.ref 0] (WL σ g) (rt none (WL (s1 σ 5 (putF 16 (σ 5) (σ 0 8 - 1) (σ 0 7))) g)) := by
  refine Ok.of (ls := [some _]) (by decide +kernel) (Nat.le_of_ble_eq_true rfl) rfl ?_
  refine ev_aload_n (pc' := 1) dX2_beginCondition_0 rfl rfl ?_
  refine ev_getf (pc' := 4) fl_2_25 dX2_beginCondition_1 rfl rfl rfl ?_
  refine ev_aload_n (pc' := 5) dX2_beginCondition_4 rfl rfl ?_
  refine ev_getf (pc' := 8) fl_2_38 dX2_beginCondition_5 rfl rfl rfl ?_
  refine ev_iconst (pc' := 9) (v := 1) dX2_beginCondition_8 rfl (by decide) ?_
  refine ev_isub (pc' := 10) dX2_beginCondition_9 rfl ?_
  refine ev_aload_n (pc' := 11) dX2_beginCondition_10 rfl rfl ?_
  refine ev_getf (pc' := 14) fl_2_34 dX2_beginCondition_11 rfl rfl rfl ?_
  refine ev_cNv3 (pc' := 17) cl_2_41 (k_put rfl (by decide) (WL_a5 _ _ _)) dX2_beginCondition_14 rfl rfl ?_
  refine ev_return rfl dX2_beginCondition_17 ?_
  exact ⟨rfl, rfl⟩
theorem k_end {d : Nat} (σ : RS) (g : Nat → Int32) : Ok (d + 1) M2_end [.ref 0] (WL σ g) (rt none (WL (s1 σ 6 (putF 16 (σ 6) (σ 0 8 - 1) (σ 0 7))) g)) := by
  refine Ok.of (ls := [some _]) (by decide +kernel) (Nat.le_of_ble_eq_true rfl) rfl ?_
  refine ev_aload_n (pc' := 1) dX2_end_0 rfl rfl ?_
  refine ev_getf (pc' := 4) fl_2_28 dX2_end_1 rfl rfl rfl ?_
  refine ev_aload_n (pc' := 5) dX2_end_4 rfl rfl ?_
  refine ev_getf (pc' := 8) fl_2_38 dX2_end_5 rfl rfl rfl ?_
  refine ev_iconst (pc' := 9) (v := 1) dX2_end_8 rfl (by decide) ?_
  refine ev_isub (pc' := 10) dX2_end_9 rfl ?_
  refine ev_aload_n (pc' := 11) dX2_end_10 rfl rfl ?_
  refine ev_getf (pc' := 14) fl_2_34 dX2_end_11 rfl rfl rfl ?_
  refine ev_cNv3 (pc' := 17) cl_2_41 (k_put rfl (by decide) (WL_a6 _ _ _)) dX2_end_14 rfl rfl ?_
  refine ev_return rfl dX2_end_17 ?_
  exact ⟨rfl, rfl⟩
def lz_added (σ : RS) (c v : Int32) : RS := s2 (s1 (s1 σ 1 (putF 400 (σ 1) (σ 0 7) c)) 2 (putF 400 (σ 2) (σ 0 7) v)) 0 7 (σ 0 7 + 1)
theorem k_add {d : Nat} (σ : RS) (g : Nat → Int32) (c v : Int32) : Ok (d + 1) M2_add [.ref 0, .int c, .int v] (WL σ g) (rt none (WL (lz_added σ c v) g)) := by
  refine Ok.of (ls := [some _, some _, some _]) (by decide +kernel) (Nat.le_of_ble_eq_true rfl) rfl ?_
  refine ev_aload_n (pc' := 1) dX2_add_0 rfl rfl ?_
  refine ev_getf (pc' := 4) fl_2_9 dX2_add_1 rfl rfl rfl ?_
  refine ev_aload_n (pc' := 5) dX2_add_4 rfl rfl ?_
  refine ev_getf (pc' := 8) fl_2_34 dX2_add_5 rfl rfl rfl ?_
  refine ev_iload_n (pc' := 9) dX2_add_8 rfl rfl ?_
  refine ev_cNv3 (pc' := 12) cl_2_41 (k_put rfl (by decide) (WL_a1 _ _ _)) dX2_add_9 rfl rfl ?_
  refine ev_aload_n (pc' := 13) dX2_add_12 rfl rfl ?_
  refine ev_getf (pc' := 16) fl_2_15 dX2_add_13 rfl rfl rfl ?_
  refine ev_aload_n (pc' := 17) dX2_add_16 rfl rfl ?_
  refine ev_getf (pc' := 20) fl_2_34 dX2_add_17 rfl rfl rfl ?_
  refine ev_iload_n (pc' := 21) dX2_add_20 rfl rfl ?_
  refine ev_cNv3 (pc' := 24) cl_2_41 (k_put rfl (by decide) (WL_a2 _ _ _)) dX2_add_21 rfl rfl ?_
  refine ev_aload_n (pc' := 25) dX2_add_24 rfl rfl ?_
  refine ev_dup (pc' := 26) dX2_add_25 rfl rfl ?_
  refine ev_getf (pc' := 29) fl_2_34 dX2_add_26 rfl rfl rfl ?_
  refine ev_iconst (pc' := 30) (v := 1) dX2_add_29 rfl (by decide) ?_
  refine ev_iadd (pc' := 31) dX2_add_30 rfl ?_
  refine ev_putf (pc' := 34) fs_2_34 dX2_add_31 rfl rfl (Nat.le_of_ble_eq_true rfl) (fun _ => rfl) (fun _ => rfl) (WL_p2_7 _ _ _) ?_
  refine ev_return rfl dX2_add_34 ?_
  exact ⟨rfl, rfl⟩
def jn (c a b : Int32) : Int32 := if c = 4 then a &&& b else if c = 8 then a + b else if c = 9 then a - b else if c = 10 then a * b else if c = 11 then bI (decide (a = b)) else if c = 12 then bI (decide (¬ a = b)) else if c = 13 then bI (decide (a < b)) else if c = 14 then bI (decide (a ≤ b)) else a ||| b
theorem k_join {d : Nat} (w : MW) (c a b : Int32) : Ok d M2_join [.int c, .int a, .int b] w (rt (some (.int (jn c a b))) w) := by
  refine Ok.of (ls := [some _, some _, some _]) (by decide +kernel) (Nat.le_of_ble_eq_true rfl) rfl ?_
  refine ev_iload_n (pc' := 1) dX2_join_0 rfl rfl ?_
  refine ev_case (c := 4) (fun h_1_4 => ?_) (fun h_1_4 => ?_)
  · refine ev_tableIn (off := 115) (tgt := 116) dX2_join_1 (by decide) (by decide) (by decide) (by decide) ?_
    refine ev_iload_n (pc' := 117) dX2_join_116 rfl rfl ?_
    refine ev_iload_n (pc' := 118) dX2_join_117 rfl rfl ?_
    refine ev_iand (pc' := 119) dX2_join_118 rfl ?_
    refine ev_ireturn rfl dX2_join_119 ?_
    refine rt_i ?_ rfl
    unfold jn
    simp_all [bI]
  refine ev_case (c := 5) (fun h_1_5 => ?_) (fun h_1_5 => ?_)
  · refine ev_tableIn (off := 119) (tgt := 120) dX2_join_1 (by decide) (by decide) (by decide) (by decide) ?_
    refine ev_iload_n (pc' := 121) dX2_join_120 rfl rfl ?_
    refine ev_iload_n (pc' := 122) dX2_join_121 rfl rfl ?_
    refine ev_ior (pc' := 123) dX2_join_122 rfl ?_
    refine ev_ireturn rfl dX2_join_123 ?_
    refine rt_i ?_ rfl
    unfold jn
    simp_all [bI]
  refine ev_case (c := 6) (fun h_1_6 => ?_) (fun h_1_6 => ?_)
  · refine ev_tableIn (off := 119) (tgt := 120) dX2_join_1 (by decide) (by decide) (by decide) (by decide) ?_
    refine ev_iload_n (pc' := 121) dX2_join_120 rfl rfl ?_
    refine ev_iload_n (pc' := 122) dX2_join_121 rfl rfl ?_
    refine ev_ior (pc' := 123) dX2_join_122 rfl ?_
    refine ev_ireturn rfl dX2_join_123 ?_
    refine rt_i ?_ rfl
    unfold jn
    simp_all [bI]
  refine ev_case (c := 7) (fun h_1_7 => ?_) (fun h_1_7 => ?_)
  · refine ev_tableIn (off := 119) (tgt := 120) dX2_join_1 (by decide) (by decide) (by decide) (by decide) ?_
    refine ev_iload_n (pc' := 121) dX2_join_120 rfl rfl ?_
    refine ev_iload_n (pc' := 122) dX2_join_121 rfl rfl ?_
    refine ev_ior (pc' := 123) dX2_join_122 rfl ?_
    refine ev_ireturn rfl dX2_join_123 ?_
    refine rt_i ?_ rfl
    unfold jn
    simp_all [bI]
  refine ev_case (c := 8) (fun h_1_8 => ?_) (fun h_1_8 => ?_)
  · refine ev_tableIn (off := 59) (tgt := 60) dX2_join_1 (by decide) (by decide) (by decide) (by decide) ?_
    refine ev_iload_n (pc' := 61) dX2_join_60 rfl rfl ?_
    refine ev_iload_n (pc' := 62) dX2_join_61 rfl rfl ?_
    refine ev_iadd (pc' := 63) dX2_join_62 rfl ?_
    refine ev_ireturn rfl dX2_join_63 ?_
    refine rt_i ?_ rfl
    unfold jn
    simp_all [bI]
  refine ev_case (c := 9) (fun h_1_9 => ?_) (fun h_1_9 => ?_)
  · refine ev_tableIn (off := 63) (tgt := 64) dX2_join_1 (by decide) (by decide) (by decide) (by decide) ?_
    refine ev_iload_n (pc' := 65) dX2_join_64 rfl rfl ?_
    refine ev_iload_n (pc' := 66) dX2_join_65 rfl rfl ?_
    refine ev_isub (pc' := 67) dX2_join_66 rfl ?_
    refine ev_ireturn rfl dX2_join_67 ?_
    refine rt_i ?_ rfl
    unfold jn
    simp_all [bI]
  refine ev_case (c := 10) (fun h_1_10 => ?_) (fun h_1_10 => ?_)
  · refine ev_tableIn (off := 67) (tgt := 68) dX2_join_1 (by decide) (by decide) (by decide) (by decide) ?_
    refine ev_iload_n (pc' := 69) dX2_join_68 rfl rfl ?_
    refine ev_iload_n (pc' := 70) dX2_join_69 rfl rfl ?_
    refine ev_imul (pc' := 71) dX2_join_70 rfl ?_
    refine ev_ireturn rfl dX2_join_71 ?_
    refine rt_i ?_ rfl
    unfold jn
    simp_all [bI]
  refine ev_case (c := 11) (fun h_1_11 => ?_) (fun h_1_11 => ?_)
  · refine ev_tableIn (off := 71) (tgt := 72) dX2_join_1 (by decide) (by decide) (by decide) (by decide) ?_
    refine ev_iload_n (pc' := 73) dX2_join_72 rfl rfl ?_
    refine ev_iload_n (pc' := 74) dX2_join_73 rfl rfl ?_
    refine ev_icmp_ne (tgt := 81) (pc' := 77) dX2_join_74 (by decide) rfl (fun h_74 => ?_) (fun h_74 => ?_)
    · refine ev_iconst (pc' := 82) (v := 0) dX2_join_81 rfl (by decide) ?_
      refine ev_ireturn rfl dX2_join_82 ?_
      refine rt_i ?_ rfl
      unfold jn
      simp_all [bI]
    · refine ev_iconst (pc' := 78) (v := 1) dX2_join_77 rfl (by decide) ?_
      refine ev_goto (tgt := 82) dX2_join_78 (by decide) ?_
      refine ev_ireturn rfl dX2_join_82 ?_
      refine rt_i ?_ rfl
      unfold jn
      simp_all [bI]
  refine ev_case (c := 12) (fun h_1_12 => ?_) (fun h_1_12 => ?_)
  · refine ev_tableIn (off := 82) (tgt := 83) dX2_join_1 (by decide) (by decide) (by decide) (by decide) ?_
    refine ev_iload_n (pc' := 84) dX2_join_83 rfl rfl ?_
    refine ev_iload_n (pc' := 85) dX2_join_84 rfl rfl ?_
    refine ev_icmp_eq (tgt := 92) (pc' := 88) dX2_join_85 (by decide) rfl (fun h_85 => ?_) (fun h_85 => ?_)
    · refine ev_iconst (pc' := 93) (v := 0) dX2_join_92 rfl (by decide) ?_
      refine ev_ireturn rfl dX2_join_93 ?_
      refine rt_i ?_ rfl
      unfold jn
      simp_all [bI]
    · refine ev_iconst (pc' := 89) (v := 1) dX2_join_88 rfl (by decide) ?_
      refine ev_goto (tgt := 93) dX2_join_89 (by decide) ?_
      refine ev_ireturn rfl dX2_join_93 ?_
      refine rt_i ?_ rfl
      unfold jn
      simp_all [bI]
  refine ev_case (c := 13) (fun h_1_13 => ?_) (fun h_1_13 => ?_)
  · refine ev_tableIn (off := 93) (tgt := 94) dX2_join_1 (by decide) (by decide) (by decide) (by decide) ?_
    refine ev_iload_n (pc' := 95) dX2_join_94 rfl rfl ?_
    refine ev_iload_n (pc' := 96) dX2_join_95 rfl rfl ?_
    refine ev_icmp_ge (tgt := 103) (pc' := 99) dX2_join_96 (by decide) rfl (fun h_96 => ?_) (fun h_96 => ?_)
    · refine ev_iconst (pc' := 104) (v := 0) dX2_join_103 rfl (by decide) ?_
      refine ev_ireturn rfl dX2_join_104 ?_
      refine rt_i ?_ rfl
      unfold jn
      simp_all [bI]
    · refine ev_iconst (pc' := 100) (v := 1) dX2_join_99 rfl (by decide) ?_
      refine ev_goto (tgt := 104) dX2_join_100 (by decide) ?_
      refine ev_ireturn rfl dX2_join_104 ?_
      refine rt_i ?_ rfl
      unfold jn
      simp_all [bI]
  refine ev_case (c := 14) (fun h_1_14 => ?_) (fun h_1_14 => ?_)
  · refine ev_tableIn (off := 104) (tgt := 105) dX2_join_1 (by decide) (by decide) (by decide) (by decide) ?_
    refine ev_iload_n (pc' := 106) dX2_join_105 rfl rfl ?_
    refine ev_iload_n (pc' := 107) dX2_join_106 rfl rfl ?_
    refine ev_icmp_gt (tgt := 114) (pc' := 110) dX2_join_107 (by decide) rfl (fun h_107 => ?_) (fun h_107 => ?_)
    · refine ev_iconst (pc' := 115) (v := 0) dX2_join_114 rfl (by decide) ?_
      refine ev_ireturn rfl dX2_join_115 ?_
      refine rt_i ?_ rfl
      unfold jn
      simp_all [bI]
    · refine ev_iconst (pc' := 111) (v := 1) dX2_join_110 rfl (by decide) ?_
      refine ev_goto (tgt := 115) dX2_join_111 (by decide) ?_
      refine ev_ireturn rfl dX2_join_115 ?_
      refine rt_i ?_ rfl
      unfold jn
      simp_all [bI]
  refine ev_tableOut (tgt := 120) dX2_join_1 (by simp only [fa_eq, Int32.reduceToInt] at h_1_4 h_1_5 h_1_6 h_1_7 h_1_8 h_1_9 h_1_10 h_1_11 h_1_12 h_1_13 h_1_14; omega) (by decide) ?_
  refine ev_iload_n (pc' := 121) dX2_join_120 rfl rfl ?_
  refine ev_iload_n (pc' := 122) dX2_join_121 rfl rfl ?_
  refine ev_ior (pc' := 123) dX2_join_122 rfl ?_
  refine ev_ireturn rfl dX2_join_123 ?_
  refine rt_i ?_ rfl
  unfold jn
  simp_all [bI]
def w_step (σ : RS) (i : Nat) (p : Int32 × (Nat → Int32)) : Int32 × (Nat → Int32) :=
  if atF 400 (σ 1) (nI i) = 6 then (p.1 + 1, putF 400 p.2 p.1 (atF 400 (σ 2) (nI i)))
  else if atF 400 (σ 1) (nI i) = 5 then (p.1 + 1, putF 400 p.2 p.1 (atF 9 (σ 8) (atF 400 (σ 2) (nI i))))
  else (p.1 - 1, putF 400 p.2 (p.1 - 1 - 1) (jn (atF 400 (σ 1) (nI i)) (atF 400 p.2 (p.1 - 1 - 1)) (atF 400 p.2 (p.1 - 1))))
def w_run (σ : RS) : Nat → Nat → Int32 × (Nat → Int32) → Int32 × (Nat → Int32)
  | 0, _, p => p
  | c + 1, i, p => w_run σ c (i + 1) (w_step σ i p)
def w_val (σ : RS) (a b : Nat) (g : Nat → Int32) : Int32 × (Nat → Int32) := let p := w_run σ (b - a) a (0, g); (atF 400 p.2 0, p.2)
theorem k_worth_loop {d : Nat} (σ : RS) (x1 : Int32) (b : Nat) (hb : b < 2 ^ 31) : ∀ (c i : Nat) (h : Int32) (g : Nat → Int32) (z6 z7 : Option Value), i + c = b → Ev (d + 1) M2_worth (rt (some (.int (atF 400 (w_run σ c i (h, g)).2 0))) (WLV σ (w_run σ c i (h, g)).2)) 6 [some (.ref 0), some (.int x1), some (.int (nI b)), some (.ref 8), some (.int h), some (.int (nI i)), z6, z7] [] (WLV σ g) := by
  intro c
  induction c with
  | zero =>
    intro i h g z6 z7 hi
    have hi : i = b := by omega
    subst hi
    refine ev_iload (pc' := 8) dX2_worth_6 rfl rfl ?_
    refine ev_iload_n (pc' := 9) dX2_worth_8 rfl rfl ?_
    refine ev_icmp_ge (tgt := 132) (pc' := 12) dX2_worth_9 (by decide) rfl (fun h_9 => ?_) (fun h_9 => ?_)
    · refine ev_aload_n (pc' := 133) dX2_worth_132 rfl rfl ?_
      refine ev_getf (pc' := 136) fl_2_31 dX2_worth_133 rfl rfl rfl ?_
      refine ev_iconst (pc' := 137) (v := 0) dX2_worth_136 rfl (by decide) ?_
      refine ev_cNi2 (pc' := 140) cl_2_49 (k_at rfl (by decide)) dX2_worth_137 rfl rfl ?_
      refine ev_ireturn rfl dX2_worth_140 ?_
      exact ⟨rfl, rfl⟩
    · exact absurd (nI_le (Nat.le_refl i) hb) h_9 --
  | succ c ih =>
    intro i h g z6 z7 hi
    refine ev_iload (pc' := 8) dX2_worth_6 rfl rfl ?_
    refine ev_iload_n (pc' := 9) dX2_worth_8 rfl rfl ?_
    refine ev_icmp_ge (tgt := 132) (pc' := 12) dX2_worth_9 (by decide) rfl (fun h_9 => ?_) (fun h_9 => ?_)
    · exact absurd h_9 (nI_ge (by omega) hb) --
    · refine ev_aload_n (pc' := 13) dX2_worth_12 rfl rfl ?_
      refine ev_getf (pc' := 16) fl_2_9 dX2_worth_13 rfl rfl rfl ?_
      refine ev_iload (pc' := 18) dX2_worth_16 rfl rfl ?_
      refine ev_cNi2 (pc' := 21) cl_2_49 (k_at rfl (by decide)) dX2_worth_18 rfl rfl ?_
      refine ev_istore (pc' := 23) (ls' := [_, _, _, _, _, _, _, _]) dX2_worth_21 rfl rfl rfl ?_
      refine ev_iload (pc' := 25) dX2_worth_23 rfl rfl ?_
      refine ev_bipush (pc' := 27) (v := 6) dX2_worth_25 rfl (by decide) ?_
      refine ev_icmp_eq (tgt := 36) (pc' := 30) dX2_worth_27 (by decide) rfl (fun h_27 => ?_) (fun h_27 => ?_)
      · refine ev_aload_n (pc' := 37) dX2_worth_36 rfl rfl ?_
        refine ev_getf (pc' := 40) fl_2_31 dX2_worth_37 rfl rfl rfl ?_
        refine ev_iload (pc' := 42) dX2_worth_40 rfl rfl ?_
        refine ev_iload (pc' := 44) dX2_worth_42 rfl rfl ?_
        refine ev_bipush (pc' := 46) (v := 6) dX2_worth_44 rfl (by decide) ?_
        refine ev_icmp_ne (tgt := 61) (pc' := 49) dX2_worth_46 (by decide) rfl (fun h_46 => ?_) (fun h_46 => ?_)
        · refine ev_aload_n (pc' := 62) dX2_worth_61 rfl rfl ?_
          refine ev_aload_n (pc' := 63) dX2_worth_62 rfl rfl ?_
          refine ev_getf (pc' := 66) fl_2_15 dX2_worth_63 rfl rfl rfl ?_
          refine ev_iload (pc' := 68) dX2_worth_66 rfl rfl ?_
          refine ev_cNi2 (pc' := 71) cl_2_49 (k_at rfl (by decide)) dX2_worth_68 rfl rfl ?_
          refine ev_cNi2 (pc' := 74) cl_2_49 (k_at rfl (by decide)) dX2_worth_71 rfl rfl ?_
          refine ev_cNv3 (pc' := 77) cl_2_41 (k_put rfl (by decide) (WLV_a7 _ _ _)) dX2_worth_74 rfl rfl ?_
          refine ev_iinc (pc' := 80) (ls' := [_, _, _, _, _, _, _, _]) dX2_worth_77 rfl rfl rfl rfl rfl ?_
          refine ev_goto (tgt := 126) dX2_worth_80 (by decide) ?_
          refine ev_iinc (pc' := 129) (ls' := [_, _, _, _, _, _, _, _]) dX2_worth_126 rfl rfl rfl rfl rfl ?_
          refine ev_goto (tgt := 6) dX2_worth_129 (by decide) ?_
          rw [w_run]
          first
            | (have e : w_step σ i (h, g) = (h + 1, _) := if_pos h_46
               rw [e, nI_p1]
               exact ih (i + 1) _ _ _ _ (by omega))
            | (have e : w_step σ i (h, g) = (h + 1, _) := (if_neg h_46).trans (if_pos (by first | exact h_33 | exact absurd h_27 h_46))
               rw [e, nI_p1]
               exact ih (i + 1) _ _ _ _ (by omega))
            | (have e : w_step σ i (h, g) = (h - 1, _) := (if_neg h_27).trans (if_neg h_33)
               rw [e, nI_p1, nI_m1]
               exact ih (i + 1) _ _ _ _ (by omega))
        · refine ev_aload_n (pc' := 50) dX2_worth_49 rfl rfl ?_
          refine ev_getf (pc' := 53) fl_2_15 dX2_worth_50 rfl rfl rfl ?_
          refine ev_iload (pc' := 55) dX2_worth_53 rfl rfl ?_
          refine ev_cNi2 (pc' := 58) cl_2_49 (k_at rfl (by decide)) dX2_worth_55 rfl rfl ?_
          refine ev_goto (tgt := 74) dX2_worth_58 (by decide) ?_
          refine ev_cNv3 (pc' := 77) cl_2_41 (k_put rfl (by decide) (WLV_a7 _ _ _)) dX2_worth_74 rfl rfl ?_
          refine ev_iinc (pc' := 80) (ls' := [_, _, _, _, _, _, _, _]) dX2_worth_77 rfl rfl rfl rfl rfl ?_
          refine ev_goto (tgt := 126) dX2_worth_80 (by decide) ?_
          refine ev_iinc (pc' := 129) (ls' := [_, _, _, _, _, _, _, _]) dX2_worth_126 rfl rfl rfl rfl rfl ?_
          refine ev_goto (tgt := 6) dX2_worth_129 (by decide) ?_
          rw [w_run]
          first
            | (have e : w_step σ i (h, g) = (h + 1, _) := if_pos h_46
               rw [e, nI_p1]
               exact ih (i + 1) _ _ _ _ (by omega))
            | (have e : w_step σ i (h, g) = (h + 1, _) := (if_neg h_46).trans (if_pos (by first | exact h_33 | exact absurd h_27 h_46))
               rw [e, nI_p1]
               exact ih (i + 1) _ _ _ _ (by omega))
            | (have e : w_step σ i (h, g) = (h - 1, _) := (if_neg h_27).trans (if_neg h_33)
               rw [e, nI_p1, nI_m1]
               exact ih (i + 1) _ _ _ _ (by omega))
      · refine ev_iload (pc' := 32) dX2_worth_30 rfl rfl ?_
        refine ev_iconst (pc' := 33) (v := 5) dX2_worth_32 rfl (by decide) ?_
        refine ev_icmp_ne (tgt := 83) (pc' := 36) dX2_worth_33 (by decide) rfl (fun h_33 => ?_) (fun h_33 => ?_)
        · refine ev_iinc (pc' := 86) (ls' := [_, _, _, _, _, _, _, _]) dX2_worth_83 rfl rfl rfl rfl rfl ?_
          refine ev_iload (pc' := 88) dX2_worth_86 rfl rfl ?_
          refine ev_aload_n (pc' := 89) dX2_worth_88 rfl rfl ?_
          refine ev_getf (pc' := 92) fl_2_31 dX2_worth_89 rfl rfl rfl ?_
          refine ev_iload (pc' := 94) dX2_worth_92 rfl rfl ?_
          refine ev_iconst (pc' := 95) (v := 1) dX2_worth_94 rfl (by decide) ?_
          refine ev_isub (pc' := 96) dX2_worth_95 rfl ?_
          refine ev_cNi2 (pc' := 99) cl_2_49 (k_at rfl (by decide)) dX2_worth_96 rfl rfl ?_
          refine ev_aload_n (pc' := 100) dX2_worth_99 rfl rfl ?_
          refine ev_getf (pc' := 103) fl_2_31 dX2_worth_100 rfl rfl rfl ?_
          refine ev_iload (pc' := 105) dX2_worth_103 rfl rfl ?_
          refine ev_cNi2 (pc' := 108) cl_2_49 (k_at rfl (by decide)) dX2_worth_105 rfl rfl ?_
          refine ev_cSi3 (pc' := 111) cl_2_66 (k_join _ _ _ _) dX2_worth_108 rfl rfl ?_
          refine ev_istore (pc' := 113) (ls' := [_, _, _, _, _, _, _, _]) dX2_worth_111 rfl rfl rfl ?_
          refine ev_aload_n (pc' := 114) dX2_worth_113 rfl rfl ?_
          refine ev_getf (pc' := 117) fl_2_31 dX2_worth_114 rfl rfl rfl ?_
          refine ev_iload (pc' := 119) dX2_worth_117 rfl rfl ?_
          refine ev_iconst (pc' := 120) (v := 1) dX2_worth_119 rfl (by decide) ?_
          refine ev_isub (pc' := 121) dX2_worth_120 rfl ?_
          refine ev_iload (pc' := 123) dX2_worth_121 rfl rfl ?_
          refine ev_cNv3 (pc' := 126) cl_2_41 (k_put rfl (by decide) (WLV_a7 _ _ _)) dX2_worth_123 rfl rfl ?_
          refine ev_iinc (pc' := 129) (ls' := [_, _, _, _, _, _, _, _]) dX2_worth_126 rfl rfl rfl rfl rfl ?_
          refine ev_goto (tgt := 6) dX2_worth_129 (by decide) ?_
          rw [w_run]
          first
            | (have e : w_step σ i (h, g) = (h + 1, _) := if_pos h_46
               rw [e, nI_p1]
               exact ih (i + 1) _ _ _ _ (by omega))
            | (have e : w_step σ i (h, g) = (h + 1, _) := (if_neg h_46).trans (if_pos (by first | exact h_33 | exact absurd h_27 h_46))
               rw [e, nI_p1]
               exact ih (i + 1) _ _ _ _ (by omega))
            | (have e : w_step σ i (h, g) = (h - 1, _) := (if_neg h_27).trans (if_neg h_33)
               rw [e, nI_p1, nI_m1]
               exact ih (i + 1) _ _ _ _ (by omega))
        · refine ev_aload_n (pc' := 37) dX2_worth_36 rfl rfl ?_
          refine ev_getf (pc' := 40) fl_2_31 dX2_worth_37 rfl rfl rfl ?_
          refine ev_iload (pc' := 42) dX2_worth_40 rfl rfl ?_
          refine ev_iload (pc' := 44) dX2_worth_42 rfl rfl ?_
          refine ev_bipush (pc' := 46) (v := 6) dX2_worth_44 rfl (by decide) ?_
          refine ev_icmp_ne (tgt := 61) (pc' := 49) dX2_worth_46 (by decide) rfl (fun h_46 => ?_) (fun h_46 => ?_)
          · refine ev_aload_n (pc' := 62) dX2_worth_61 rfl rfl ?_
            refine ev_aload_n (pc' := 63) dX2_worth_62 rfl rfl ?_
            refine ev_getf (pc' := 66) fl_2_15 dX2_worth_63 rfl rfl rfl ?_
            refine ev_iload (pc' := 68) dX2_worth_66 rfl rfl ?_
            refine ev_cNi2 (pc' := 71) cl_2_49 (k_at rfl (by decide)) dX2_worth_68 rfl rfl ?_
            refine ev_cNi2 (pc' := 74) cl_2_49 (k_at rfl (by decide)) dX2_worth_71 rfl rfl ?_
            refine ev_cNv3 (pc' := 77) cl_2_41 (k_put rfl (by decide) (WLV_a7 _ _ _)) dX2_worth_74 rfl rfl ?_
            refine ev_iinc (pc' := 80) (ls' := [_, _, _, _, _, _, _, _]) dX2_worth_77 rfl rfl rfl rfl rfl ?_
            refine ev_goto (tgt := 126) dX2_worth_80 (by decide) ?_
            refine ev_iinc (pc' := 129) (ls' := [_, _, _, _, _, _, _, _]) dX2_worth_126 rfl rfl rfl rfl rfl ?_
            refine ev_goto (tgt := 6) dX2_worth_129 (by decide) ?_
            rw [w_run]
            first
              | (have e : w_step σ i (h, g) = (h + 1, _) := if_pos h_46
                 rw [e, nI_p1]
                 exact ih (i + 1) _ _ _ _ (by omega))
              | (have e : w_step σ i (h, g) = (h + 1, _) := (if_neg h_46).trans (if_pos (by first | exact h_33 | exact absurd h_27 h_46))
                 rw [e, nI_p1]
                 exact ih (i + 1) _ _ _ _ (by omega))
              | (have e : w_step σ i (h, g) = (h - 1, _) := (if_neg h_27).trans (if_neg h_33)
                 rw [e, nI_p1, nI_m1]
                 exact ih (i + 1) _ _ _ _ (by omega))
          · refine ev_aload_n (pc' := 50) dX2_worth_49 rfl rfl ?_
            refine ev_getf (pc' := 53) fl_2_15 dX2_worth_50 rfl rfl rfl ?_
            refine ev_iload (pc' := 55) dX2_worth_53 rfl rfl ?_
            refine ev_cNi2 (pc' := 58) cl_2_49 (k_at rfl (by decide)) dX2_worth_55 rfl rfl ?_
            refine ev_goto (tgt := 74) dX2_worth_58 (by decide) ?_
            refine ev_cNv3 (pc' := 77) cl_2_41 (k_put rfl (by decide) (WLV_a7 _ _ _)) dX2_worth_74 rfl rfl ?_
            refine ev_iinc (pc' := 80) (ls' := [_, _, _, _, _, _, _, _]) dX2_worth_77 rfl rfl rfl rfl rfl ?_
            refine ev_goto (tgt := 126) dX2_worth_80 (by decide) ?_
            refine ev_iinc (pc' := 129) (ls' := [_, _, _, _, _, _, _, _]) dX2_worth_126 rfl rfl rfl rfl rfl ?_
            refine ev_goto (tgt := 6) dX2_worth_129 (by decide) ?_
            rw [w_run]
            first
              | (have e : w_step σ i (h, g) = (h + 1, _) := if_pos h_46
                 rw [e, nI_p1]
                 exact ih (i + 1) _ _ _ _ (by omega))
              | (have e : w_step σ i (h, g) = (h + 1, _) := (if_neg h_46).trans (if_pos (by first | exact h_33 | exact absurd h_27 h_46))
                 rw [e, nI_p1]
                 exact ih (i + 1) _ _ _ _ (by omega))
              | (have e : w_step σ i (h, g) = (h - 1, _) := (if_neg h_27).trans (if_neg h_33)
                 rw [e, nI_p1, nI_m1]
                 exact ih (i + 1) _ _ _ _ (by omega))
theorem k_worth {d : Nat} (σ : RS) (g : Nat → Int32) (a b : Nat) (hab : a ≤ b) (hb : b < 2 ^ 31) : Ok (d + 1) M2_worth [.ref 0, .int (nI a), .int (nI b), .ref 8] (WLV σ g) (rt (some (.int (w_val σ a b g).1)) (WLV σ (w_val σ a b g).2)) := by
  refine Ok.of (ls := [some _, some _, some _, some _, none, none, none, none]) (by decide +kernel) (Nat.le_of_ble_eq_true rfl) rfl ?_
  refine ev_iconst (pc' := 1) (v := 0) dX2_worth_0 rfl (by decide) ?_
  refine ev_istore (pc' := 3) (ls' := [_, _, _, _, _, _, _, _]) dX2_worth_1 rfl rfl rfl ?_
  refine ev_iload_n (pc' := 4) dX2_worth_3 rfl rfl ?_
  refine ev_istore (pc' := 6) (ls' := [_, _, _, _, _, _, _, _]) dX2_worth_4 rfl rfl rfl ?_
  exact k_worth_loop σ _ b hb (b - a) a 0 g _ _ (by omega)
/-- the places of a rule: where its E begins, where its condition begins and ends -/
def lz_S (σ : RS) (r : Nat) : Nat := (σ 4 r).toNatClampNeg
def lz_C (σ : RS) (r : Nat) : Nat := (σ 5 r).toNatClampNeg
def lz_E (σ : RS) (r : Nat) : Nat := (σ 6 r).toNatClampNeg
def lz_ok (σ : RS) (n : Nat) : Prop := σ 0 8 = nI n ∧ n ≤ 16 ∧ ∀ r, r < n → ∃ a b c : Nat, a ≤ b ∧ b ≤ c ∧ c ≤ 400 ∧ σ 4 r = nI a ∧ σ 5 r = nI b ∧ σ 6 r = nI c
theorem lz_ok_at {σ : RS} {n r : Nat} (h : lz_ok σ n) (hr : r < n) : lz_S σ r ≤ lz_C σ r ∧ lz_C σ r ≤ lz_E σ r ∧ lz_E σ r ≤ 400 ∧ σ 4 r = nI (lz_S σ r) ∧ σ 5 r = nI (lz_C σ r) ∧ σ 6 r = nI (lz_E σ r) := by
  obtain ⟨a, b, c, h1, h2, h3, h4, h5, h6⟩ := h.2.2 r hr
  unfold lz_S lz_C lz_E
  rw [h4, h5, h6, nI_clamp (by omega), nI_clamp (by omega), nI_clamp (by omega)]
  exact ⟨h1, h2, h3, rfl, rfl, rfl⟩
def lz_holds (σ : RS) (r : Nat) (g : Nat → Int32) : Bool × (Nat → Int32) := if lz_C σ r = lz_E σ r then (true, g) else (decide (¬ (w_val σ (lz_C σ r) (lz_E σ r) g).1 = 0), (w_val σ (lz_C σ r) (lz_E σ r) g).2)
theorem k_holds {d : Nat} (σ : RS) (g : Nat → Int32) (n r : Nat) (h : lz_ok σ n) (hr : r < n) : Ok (d + 2) M2_holds [.ref 0, .int (nI r), .ref 8] (WLV σ g) (rt (some (.int (bI (lz_holds σ r g).1))) (WLV σ (lz_holds σ r g).2)) := by
  have hn := h.2.1
  obtain ⟨h1, h2, h3, h4, h5, h6⟩ := lz_ok_at h hr
  have e1 : atF 16 (σ 5) (nI r) = nI (lz_C σ r) := by rw [atF_nI _ (by omega) (by omega), ← h5]
  have e2 : atF 16 (σ 6) (nI r) = nI (lz_E σ r) := by rw [atF_nI _ (by omega) (by omega), ← h6]
  refine Ok.of (ls := [some _, some _, some _, none, none]) (by decide +kernel) (Nat.le_of_ble_eq_true rfl) rfl ?_
  refine ev_aload_n (pc' := 1) dX2_holds_0 rfl rfl ?_
  refine ev_getf (pc' := 4) fl_2_25 dX2_holds_1 rfl rfl rfl ?_
  refine ev_iload_n (pc' := 5) dX2_holds_4 rfl rfl ?_
  refine ev_cNi2 (pc' := 8) cl_2_49 (k_at rfl (by decide)) dX2_holds_5 rfl rfl ?_
  rw [e1]
  refine ev_istore_n (pc' := 9) (ls' := [_, _, _, _, _]) dX2_holds_8 rfl rfl rfl ?_
  refine ev_aload_n (pc' := 10) dX2_holds_9 rfl rfl ?_
  refine ev_getf (pc' := 13) fl_2_28 dX2_holds_10 rfl rfl rfl ?_
  refine ev_iload_n (pc' := 14) dX2_holds_13 rfl rfl ?_
  refine ev_cNi2 (pc' := 17) cl_2_49 (k_at rfl (by decide)) dX2_holds_14 rfl rfl ?_
  rw [e2]
  refine ev_istore (pc' := 19) (ls' := [_, _, _, _, _]) dX2_holds_17 rfl rfl rfl ?_
  refine ev_iload_n (pc' := 20) dX2_holds_19 rfl rfl ?_
  refine ev_iload (pc' := 22) dX2_holds_20 rfl rfl ?_
  refine ev_icmp_eq (tgt := 36) (pc' := 25) dX2_holds_22 (by decide) rfl (fun h_22 => ?_) (fun h_22 => ?_)
  · rw [nI_eq (by omega) (by omega)] at h_22
    have e : lz_holds σ r g = (true, g) := if_pos h_22
    rw [e]
    refine ev_iconst (pc' := 37) (v := 1) dX2_holds_36 rfl (by decide) ?_
    refine ev_goto (tgt := 41) dX2_holds_37 (by decide) ?_
    refine ev_zreturn rfl rfl dX2_holds_41 ?_
    refine rt_i ?_ rfl
    first | rfl | (rw [decide_eq_false (fun z => z h_33)]; rfl) | (rw [decide_eq_true h_33]; rfl)
  · rw [nI_eq (by omega) (by omega)] at h_22
    have e : lz_holds σ r g = _ := if_neg h_22
    rw [e]
    refine ev_aload_n (pc' := 26) dX2_holds_25 rfl rfl ?_
    refine ev_iload_n (pc' := 27) dX2_holds_26 rfl rfl ?_
    refine ev_iload (pc' := 29) dX2_holds_27 rfl rfl ?_
    refine ev_aload_n (pc' := 30) dX2_holds_29 rfl rfl ?_
    refine ev_cVi3 (pc' := 33) cl_2_53 (k_worth σ g _ _ (by omega) (by omega)) dX2_holds_30 rfl rfl rfl rfl ?_
    refine ev_if_eq (tgt := 40) (pc' := 36) dX2_holds_33 (by decide) rfl (fun h_33 => ?_) (fun h_33 => ?_)
    · refine ev_iconst (pc' := 41) (v := 0) dX2_holds_40 rfl (by decide) ?_
      refine ev_zreturn rfl rfl dX2_holds_41 ?_
      refine rt_i ?_ rfl
      first | rfl | (rw [decide_eq_false (fun z => z h_33)]; rfl) | (rw [decide_eq_true h_33]; rfl)
    · refine ev_iconst (pc' := 37) (v := 1) dX2_holds_36 rfl (by decide) ?_
      refine ev_goto (tgt := 41) dX2_holds_37 (by decide) ?_
      refine ev_zreturn rfl rfl dX2_holds_41 ?_
      refine rt_i ?_ rfl
      first | rfl | (rw [decide_eq_false (fun z => z h_33)]; rfl) | (rw [decide_eq_true h_33]; rfl)
def lz_first (σ : RS) (gr : Int32) : Nat → Nat → (Nat → Int32) → Int32 × (Nat → Int32)
  | 0, _, g => (-1, g)
  | c + 1, r, g => if σ 3 r = gr then (if (lz_holds σ r g).1 = true then (nI r, (lz_holds σ r g).2) else lz_first σ gr c (r + 1) (lz_holds σ r g).2) else lz_first σ gr c (r + 1) g
theorem k_first_loop {d : Nat} (σ : RS) (gr : Int32) (n : Nat) (h : lz_ok σ n) : ∀ (c r : Nat) (g : Nat → Int32), r + c = n → Ev (d + 3) M2_firstThatHolds (rt (some (.int (lz_first σ gr c r g).1)) (WLV σ (lz_first σ gr c r g).2)) 2 [some (.ref 0), some (.int gr), some (.ref 8), some (.int (nI r))] [] (WLV σ g) := by
  have hn := h.2.1
  intro c
  induction c with
  | zero =>
    intro r g hi
    have hi : r = n := by omega
    subst hi
    refine ev_iload_n (pc' := 3) dX2_firstThatHolds_2 rfl rfl ?_
    refine ev_aload_n (pc' := 4) dX2_firstThatHolds_3 rfl rfl ?_
    refine ev_getf (pc' := 7) fl_2_38 dX2_firstThatHolds_4 rfl rfl rfl ?_
    refine ev_icmp_ge (tgt := 43) (pc' := 10) dX2_firstThatHolds_7 (by decide) rfl (fun h_7 => ?_) (fun h_7 => ?_)
    · refine ev_iconst (pc' := 44) (v := -1) dX2_firstThatHolds_43 rfl (by decide) ?_
      refine ev_ireturn rfl dX2_firstThatHolds_44 ?_
      exact ⟨rfl, rfl⟩
    · exact absurd (by rw [h.1]; exact nI_le (by omega) (by omega)) h_7 --
  | succ c ih =>
    intro r g hi
    have hv : vp_in (nI r) 16 := vp_in_nI (by omega) (by omega)
    have e1 : (nI r).toNatClampNeg = r := nI_clamp (by omega)
    refine ev_iload_n (pc' := 3) dX2_firstThatHolds_2 rfl rfl ?_
    refine ev_aload_n (pc' := 4) dX2_firstThatHolds_3 rfl rfl ?_
    refine ev_getf (pc' := 7) fl_2_38 dX2_firstThatHolds_4 rfl rfl rfl ?_
    refine ev_icmp_ge (tgt := 43) (pc' := 10) dX2_firstThatHolds_7 (by decide) rfl (fun h_7 => ?_) (fun h_7 => ?_)
    · exact absurd h_7 (by rw [h.1]; exact nI_ge (by omega) (by omega)) --
    · refine ev_iload_n (pc' := 11) dX2_firstThatHolds_10 rfl rfl ?_
      refine ev_bipush (pc' := 13) (v := 16) dX2_firstThatHolds_11 rfl (by decide) ?_
      refine ev_icmp_ge (tgt := 43) (pc' := 16) dX2_firstThatHolds_13 (by decide) rfl (fun h_13 => ?_) (fun h_13 => ?_)
      · exact absurd h_13 (nI_ge (b := 16) (by omega) (by omega)) --
      · refine ev_aload_n (pc' := 17) dX2_firstThatHolds_16 rfl rfl ?_
        refine ev_getf (pc' := 20) fl_2_18 dX2_firstThatHolds_17 rfl rfl rfl ?_
        refine ev_iload_n (pc' := 21) dX2_firstThatHolds_20 rfl rfl ?_
        refine ev_zald (pc' := 22) dX2_firstThatHolds_21 rfl rfl ?_ ?_
        · exact hv
        rw [e1]
        refine ev_iload_n (pc' := 23) dX2_firstThatHolds_22 rfl rfl ?_
        refine ev_icmp_ne (tgt := 37) (pc' := 26) dX2_firstThatHolds_23 (by decide) rfl (fun h_23 => ?_) (fun h_23 => ?_)
        · rw [lz_first, if_neg h_23]
          refine ev_iinc (pc' := 40) (ls' := [_, _, _, _]) dX2_firstThatHolds_37 rfl rfl rfl rfl rfl ?_
          refine ev_goto (tgt := 2) dX2_firstThatHolds_40 (by decide) ?_
          rw [nI_p1]
          exact ih (r + 1) _ (by omega)
        · rw [lz_first, if_pos h_23]
          refine ev_aload_n (pc' := 27) dX2_firstThatHolds_26 rfl rfl ?_
          refine ev_iload_n (pc' := 28) dX2_firstThatHolds_27 rfl rfl ?_
          refine ev_aload_n (pc' := 29) dX2_firstThatHolds_28 rfl rfl ?_
          refine ev_cVi2 (pc' := 32) cl_2_45 (k_holds σ g n r h (by omega)) dX2_firstThatHolds_29 rfl rfl rfl rfl ?_
          refine ev_if_eq (tgt := 37) (pc' := 35) dX2_firstThatHolds_32 (by decide) rfl (fun h_32 => ?_) (fun h_32 => ?_)
          · rw [bI_0] at h_32
            rw [if_neg (by rw [h_32]; decide)]
            refine ev_iinc (pc' := 40) (ls' := [_, _, _, _]) dX2_firstThatHolds_37 rfl rfl rfl rfl rfl ?_
            refine ev_goto (tgt := 2) dX2_firstThatHolds_40 (by decide) ?_
            rw [nI_p1]
            exact ih (r + 1) _ (by omega)
          · rw [bI_0, Bool.not_eq_false] at h_32
            rw [if_pos h_32]
            refine ev_iload_n (pc' := 36) dX2_firstThatHolds_35 rfl rfl ?_
            refine ev_ireturn rfl dX2_firstThatHolds_36 ?_
            exact ⟨rfl, rfl⟩
theorem k_firstThatHolds {d : Nat} (σ : RS) (gr : Int32) (n : Nat) (h : lz_ok σ n) (g : Nat → Int32) : Ok (d + 3) M2_firstThatHolds [.ref 0, .int gr, .ref 8] (WLV σ g) (rt (some (.int (lz_first σ gr n 0 g).1)) (WLV σ (lz_first σ gr n 0 g).2)) := by
  refine Ok.of (ls := [some _, some _, some _, none]) (by decide +kernel) (Nat.le_of_ble_eq_true rfl) rfl ?_
  refine ev_iconst (pc' := 1) (v := 0) dX2_firstThatHolds_0 rfl (by decide) ?_
  refine ev_istore_n (pc' := 2) (ls' := [_, _, _, _]) dX2_firstThatHolds_1 rfl rfl rfl ?_
  exact k_first_loop σ gr n h n 0 g (by omega)
def lz_clip (x : Int32) : Int32 := if x < 0 then 0 else if 100 < x then 100 else x
theorem lz_clip_eq (x : Int32) : (if (0 : Int32) < (if x < 100 then x else 100) then (if x < 100 then x else 100) else 0) = lz_clip x := by
  unfold lz_clip
  by_cases h1 : x < 100
  · rw [if_pos h1]
    by_cases h2 : (0 : Int32) < x
    · rw [if_pos h2, if_neg (by simp only [fa_lt, Int32.reduceToInt] at *; omega), if_neg (by simp only [fa_lt, Int32.reduceToInt] at *; omega)]
    · rw [if_neg h2]
      by_cases h3 : x < 0
      · rw [if_pos h3]
      · rw [if_neg h3, if_neg (by simp only [fa_lt, Int32.reduceToInt] at *; omega)]
        simp only [fa_lt, fa_eq, Int32.reduceToInt] at *; omega
  · rw [if_neg h1, if_pos (by decide), if_neg (by simp only [fa_lt, Int32.reduceToInt] at *; omega)]
    by_cases h2 : 100 < x
    · rw [if_pos h2]
    · rw [if_neg h2]
      simp only [fa_lt, fa_eq, Int32.reduceToInt] at *; omega
def lz_grow (σ : RS) (r : Nat) (g : Nat → Int32) : Int32 × (Nat → Int32) := (lz_clip (w_val σ (lz_S σ r) (lz_C σ r) g).1, (w_val σ (lz_S σ r) (lz_C σ r) g).2)
theorem k_growth_none {d : Nat} (σ : RS) (g : Nat → Int32) : Ok d M2_growth [.ref 0, .int (-1), .ref 8] (WLV σ g) (rt (some (.int 11)) (WLV σ g)) := by
  refine Ok.of (ls := [some _, some _, some _, none]) (by decide +kernel) (Nat.le_of_ble_eq_true rfl) rfl ?_
  refine ev_iload_n (pc' := 1) dX2_growth_0 rfl rfl ?_
  refine ev_iconst (pc' := 2) (v := -1) dX2_growth_1 rfl (by decide) ?_
  refine ev_icmp_ne (tgt := 8) (pc' := 5) dX2_growth_2 (by decide) rfl (fun h_2 => ?_) (fun h_2 => ?_)
  · exact absurd rfl h_2 --
  · refine ev_bipush (pc' := 7) (v := 11) dX2_growth_5 rfl (by decide) ?_
    refine ev_ireturn rfl dX2_growth_7 ?_
    exact ⟨rfl, rfl⟩
theorem k_growth {d : Nat} (σ : RS) (g : Nat → Int32) (n r : Nat) (h : lz_ok σ n) (hr : r < n) : Ok (d + 2) M2_growth [.ref 0, .int (nI r), .ref 8] (WLV σ g) (rt (some (.int (lz_grow σ r g).1)) (WLV σ (lz_grow σ r g).2)) := by
  have hn := h.2.1
  obtain ⟨h1, h2, h3, h4, h5, h6⟩ := lz_ok_at h hr
  have e1 : atF 16 (σ 5) (nI r) = nI (lz_C σ r) := by rw [atF_nI _ (by omega) (by omega), ← h5]
  have e2 : atF 16 (σ 4) (nI r) = nI (lz_S σ r) := by rw [atF_nI _ (by omega) (by omega), ← h4]
  refine Ok.of (ls := [some _, some _, some _, none]) (by decide +kernel) (Nat.le_of_ble_eq_true rfl) rfl ?_
  refine ev_iload_n (pc' := 1) dX2_growth_0 rfl rfl ?_
  refine ev_iconst (pc' := 2) (v := -1) dX2_growth_1 rfl (by decide) ?_
  refine ev_icmp_ne (tgt := 8) (pc' := 5) dX2_growth_2 (by decide) rfl (fun h_2 => ?_) (fun h_2 => ?_)
  · refine ev_aload_n (pc' := 9) dX2_growth_8 rfl rfl ?_
    refine ev_aload_n (pc' := 10) dX2_growth_9 rfl rfl ?_
    refine ev_getf (pc' := 13) fl_2_22 dX2_growth_10 rfl rfl rfl ?_
    refine ev_iload_n (pc' := 14) dX2_growth_13 rfl rfl ?_
    refine ev_cNi2 (pc' := 17) cl_2_49 (k_at rfl (by decide)) dX2_growth_14 rfl rfl ?_
    rw [e2]
    refine ev_aload_n (pc' := 18) dX2_growth_17 rfl rfl ?_
    refine ev_getf (pc' := 21) fl_2_25 dX2_growth_18 rfl rfl rfl ?_
    refine ev_iload_n (pc' := 22) dX2_growth_21 rfl rfl ?_
    refine ev_cNi2 (pc' := 25) cl_2_49 (k_at rfl (by decide)) dX2_growth_22 rfl rfl ?_
    rw [e1]
    refine ev_aload_n (pc' := 26) dX2_growth_25 rfl rfl ?_
    refine ev_cVi3 (pc' := 29) cl_2_53 (k_worth σ g _ _ (by omega) (by omega)) dX2_growth_26 rfl rfl rfl rfl ?_
    refine ev_istore_n (pc' := 30) (ls' := [_, _, _, _]) dX2_growth_29 rfl rfl rfl ?_
    refine ev_iconst (pc' := 31) (v := 0) dX2_growth_30 rfl (by decide) ?_
    refine ev_bipush (pc' := 33) (v := 100) dX2_growth_31 rfl (by decide) ?_
    refine ev_iload_n (pc' := 34) dX2_growth_33 rfl rfl ?_
    refine ev_mmin (pc' := 37) pw_2_57 dX2_growth_34 rfl rfl ?_
    refine ev_mmax (pc' := 40) pw_2_63 dX2_growth_37 rfl rfl ?_
    refine ev_ireturn rfl dX2_growth_40 ?_
    exact rt_i (lz_clip_eq _) rfl
  · exact absurd (show nI r = -1 from h_2) (fun z => absurd (nI_pos (n := r) (by omega)) (by rw [z]; decide)) --
