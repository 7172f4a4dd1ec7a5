/-! RINGS (class 5). Its world: the object (start 3, ringSize 4, ringLeast 5, ringMet 6), sums, path, ring. -/
def WR (σ : Nat → Nat → Int32) : MW := [.inr (5, [.ref 1, .ref 2, .ref 3, .int (σ 0 3), .int (σ 0 4), .int (σ 0 5), .int (σ 0 6)]), .inl (.int, 64, .inl (σ 1)), .inl (.int, 8, .inl (σ 2)), .inl (.int, 8, .inl (σ 3))]
theorem WR_p5_3 (σ : Nat → Nat → Int32) (v : Int32) : (WR σ).set 0 (.inr (5, [.ref 1, .ref 2, .ref 3, .int (σ 0 3), .int (σ 0 4), .int (σ 0 5), .int (σ 0 6)].set 3 (.int v))) = WR (s2 σ 0 3 v) := rfl
theorem WR_p5_4 (σ : Nat → Nat → Int32) (v : Int32) : (WR σ).set 0 (.inr (5, [.ref 1, .ref 2, .ref 3, .int (σ 0 3), .int (σ 0 4), .int (σ 0 5), .int (σ 0 6)].set 4 (.int v))) = WR (s2 σ 0 4 v) := rfl
theorem WR_p5_5 (σ : Nat → Nat → Int32) (v : Int32) : (WR σ).set 0 (.inr (5, [.ref 1, .ref 2, .ref 3, .int (σ 0 3), .int (σ 0 4), .int (σ 0 5), .int (σ 0 6)].set 5 (.int v))) = WR (s2 σ 0 5 v) := rfl
theorem WR_p5_6 (σ : Nat → Nat → Int32) (v : Int32) : (WR σ).set 0 (.inr (5, [.ref 1, .ref 2, .ref 3, .int (σ 0 3), .int (σ 0 4), .int (σ 0 5), .int (σ 0 6)].set 6 (.int v))) = WR (s2 σ 0 6 v) := rfl
theorem WR_a1 (σ : Nat → Nat → Int32) (g_ : Nat → Int32) : (WR σ).set 1 (.inl (.int, 64, .inl g_)) = WR (s1 σ 1 g_) := rfl
theorem WR_a2 (σ : Nat → Nat → Int32) (g_ : Nat → Int32) : (WR σ).set 2 (.inl (.int, 8, .inl g_)) = WR (s1 σ 2 g_) := rfl
theorem WR_a3 (σ : Nat → Nat → Int32) (g_ : Nat → Int32) : (WR σ).set 3 (.inl (.int, 8, .inl g_)) = WR (s1 σ 3 g_) := rfl
def WRD (σ : Nat → Nat → Int32) : MW := [.inr (5, [.ref 1, .ref 2, .ref 3, .int (σ 0 3), .int (σ 0 4), .int (σ 0 5), .int (σ 0 6)]), .inl (.int, 64, .inl (σ 1)), .inl (.int, 8, .inl (σ 2)), .inl (.int, 8, .inl (σ 3)), .inl (.int, 7744, .inl (σ 4))]
theorem WRD_p5_3 (σ : Nat → Nat → Int32) (v : Int32) : (WRD σ).set 0 (.inr (5, [.ref 1, .ref 2, .ref 3, .int (σ 0 3), .int (σ 0 4), .int (σ 0 5), .int (σ 0 6)].set 3 (.int v))) = WRD (s2 σ 0 3 v) := rfl
theorem WRD_p5_4 (σ : Nat → Nat → Int32) (v : Int32) : (WRD σ).set 0 (.inr (5, [.ref 1, .ref 2, .ref 3, .int (σ 0 3), .int (σ 0 4), .int (σ 0 5), .int (σ 0 6)].set 4 (.int v))) = WRD (s2 σ 0 4 v) := rfl
theorem WRD_p5_5 (σ : Nat → Nat → Int32) (v : Int32) : (WRD σ).set 0 (.inr (5, [.ref 1, .ref 2, .ref 3, .int (σ 0 3), .int (σ 0 4), .int (σ 0 5), .int (σ 0 6)].set 5 (.int v))) = WRD (s2 σ 0 5 v) := rfl
theorem WRD_p5_6 (σ : Nat → Nat → Int32) (v : Int32) : (WRD σ).set 0 (.inr (5, [.ref 1, .ref 2, .ref 3, .int (σ 0 3), .int (σ 0 4), .int (σ 0 5), .int (σ 0 6)].set 6 (.int v))) = WRD (s2 σ 0 6 v) := rfl
theorem WRD_a1 (σ : Nat → Nat → Int32) (g_ : Nat → Int32) : (WRD σ).set 1 (.inl (.int, 64, .inl g_)) = WRD (s1 σ 1 g_) := rfl
theorem WRD_a2 (σ : Nat → Nat → Int32) (g_ : Nat → Int32) : (WRD σ).set 2 (.inl (.int, 8, .inl g_)) = WRD (s1 σ 2 g_) := rfl
theorem WRD_a3 (σ : Nat → Nat → Int32) (g_ : Nat → Int32) : (WRD σ).set 3 (.inl (.int, 8, .inl g_)) = WRD (s1 σ 3 g_) := rfl
theorem WRD_a4 (σ : Nat → Nat → Int32) (g_ : Nat → Int32) : (WRD σ).set 4 (.inl (.int, 7744, .inl g_)) = WRD (s1 σ 4 g_) := rfl
def mn (a b : Int32) : Int32 := if b < a then b else a
theorem r_load {d : Nat} (σ : Nat → Nat → Int32) (k : Nat) (hk : k + 64 ≤ 7744) : Ok d M5_load [.ref 0, .ref 4, .int (nI k)] (WRD σ) (rt none (WRD (s1 σ 1 (va_cpy (σ 4) (σ 1) k 0 64)))) := by
  have e1 : (nI k).toNatClampNeg = k := nI_clamp (by omega)
  have e2 : (64 : Int32).toNatClampNeg = 64 := by decide
  have e3 : (0 : Int32).toNatClampNeg = 0 := by decide
  refine Ok.of (ls := [some _, some _, some _]) (by decide +kernel) (Nat.le_of_ble_eq_true rfl) rfl ?_
  refine ev_iload_n (pc' := 1) dX5_load_0 rfl rfl ?_
  refine ev_if_lt (tgt := 25) (pc' := 4) dX5_load_1 (by decide) rfl (fun h_1 => ?_) (fun h_1 => ?_)
  · exact absurd h_1 (nI_pos (by omega)) --
  · refine ev_iload_n (pc' := 5) dX5_load_4 rfl rfl ?_
    refine ev_bipush (pc' := 7) (v := 64) dX5_load_5 rfl (by decide) ?_
    refine ev_iadd (pc' := 8) dX5_load_7 rfl ?_
    refine ev_aload_n (pc' := 9) dX5_load_8 rfl rfl ?_
    refine ev_alen (pc' := 10) (t := 0) dX5_load_9 rfl rfl rfl rfl ?_
    refine ev_icmp_gt (tgt := 25) (pc' := 13) dX5_load_10 (by decide) rfl (fun h_10 => ?_) (fun h_10 => ?_)
    · exact absurd h_10 (by show ¬ (nI 7744 < nI k + nI 64); rw [nI_add]; exact nI_nlt (by omega) (by omega)) --
    · refine ev_aload_n (pc' := 14) dX5_load_13 rfl rfl ?_
      refine ev_iload_n (pc' := 15) dX5_load_14 rfl rfl ?_
      refine ev_aload_n (pc' := 16) dX5_load_15 rfl rfl ?_
      refine ev_getf (pc' := 19) fl_5_9 dX5_load_16 rfl rfl rfl ?_
      refine ev_iconst (pc' := 20) (v := 0) dX5_load_19 rfl (by decide) ?_
      refine ev_bipush (pc' := 22) (v := 64) dX5_load_20 rfl (by decide) ?_
      refine ev_copy (pc' := 25) pw_5_34 dX5_load_22 rfl (r0 := 4) (r1 := 1) rfl rfl (nI_pos (by omega)) (by decide) (by decide) (by rw [e1, e2]; omega) (by rw [e2, e3]; omega) rfl rfl ?_
      refine ev_return rfl dX5_load_25 ?_
      rw [e1, e2, e3]
      exact ⟨rfl, rfl⟩
theorem r_store {d : Nat} (σ : Nat → Nat → Int32) (k : Nat) (hk : k + 64 ≤ 7744) : Ok d M5_store [.ref 0, .ref 4, .int (nI k)] (WRD σ) (rt none (WRD (s1 σ 4 (va_cpy (σ 1) (σ 4) 0 k 64)))) := by
  have e1 : (nI k).toNatClampNeg = k := nI_clamp (by omega)
  have e2 : (64 : Int32).toNatClampNeg = 64 := by decide
  have e3 : (0 : Int32).toNatClampNeg = 0 := by decide
  refine Ok.of (ls := [some _, some _, some _]) (by decide +kernel) (Nat.le_of_ble_eq_true rfl) rfl ?_
  refine ev_iload_n (pc' := 1) dX5_store_0 rfl rfl ?_
  refine ev_if_lt (tgt := 25) (pc' := 4) dX5_store_1 (by decide) rfl (fun h_1 => ?_) (fun h_1 => ?_)
  · exact absurd h_1 (nI_pos (by omega)) --
  · refine ev_iload_n (pc' := 5) dX5_store_4 rfl rfl ?_
    refine ev_bipush (pc' := 7) (v := 64) dX5_store_5 rfl (by decide) ?_
    refine ev_iadd (pc' := 8) dX5_store_7 rfl ?_
    refine ev_aload_n (pc' := 9) dX5_store_8 rfl rfl ?_
    refine ev_alen (pc' := 10) (t := 0) dX5_store_9 rfl rfl rfl rfl ?_
    refine ev_icmp_gt (tgt := 25) (pc' := 13) dX5_store_10 (by decide) rfl (fun h_10 => ?_) (fun h_10 => ?_)
    · exact absurd h_10 (by show ¬ (nI 7744 < nI k + nI 64); rw [nI_add]; exact nI_nlt (by omega) (by omega)) --
    · refine ev_aload_n (pc' := 14) dX5_store_13 rfl rfl ?_
      refine ev_getf (pc' := 17) fl_5_9 dX5_store_14 rfl rfl rfl ?_
      refine ev_iconst (pc' := 18) (v := 0) dX5_store_17 rfl (by decide) ?_
      refine ev_aload_n (pc' := 19) dX5_store_18 rfl rfl ?_
      refine ev_iload_n (pc' := 20) dX5_store_19 rfl rfl ?_
      refine ev_bipush (pc' := 22) (v := 64) dX5_store_20 rfl (by decide) ?_
      refine ev_copy (pc' := 25) pw_5_34 dX5_store_22 rfl (r0 := 1) (r1 := 4) rfl rfl (by decide) (nI_pos (by omega)) (by decide) (by rw [e2, e3]; omega) (by rw [e1, e2]; omega) rfl rfl ?_
      refine ev_return rfl dX5_store_25 ?_
      rw [e1, e2, e3]
      exact ⟨rfl, rfl⟩
/-- the sum of the first k of a row -/
def sumTo (f : Nat → Int32) : Nat → Int32
  | 0 => 0
  | k + 1 => sumTo f k + f k
theorem r_sum_loop {d : Nat} (σ : Nat → Nat → Int32) : ∀ (c k : Nat) (z : Option Value), k + c = 64 → Ev d M5_sumOfAll (rt (some (.int (sumTo (σ 1) 64))) (WR σ)) 13 [some (.ref 0), some (.int (sumTo (σ 1) k)), some (.ref 1), some (.int 64), some (.int (nI k)), z] [] (WR σ) := by
  intro c
  induction c with
  | zero =>
    intro k z hk
    have hk : k = 64 := by omega
    subst hk
    refine ev_iload (pc' := 15) dX5_sumOfAll_13 rfl rfl ?_
    refine ev_iload_n (pc' := 16) dX5_sumOfAll_15 rfl rfl ?_
    refine ev_icmp_ge (tgt := 36) (pc' := 19) dX5_sumOfAll_16 (by decide) rfl (fun h_16 => ?_) (fun h_16 => ?_)
    · refine ev_iload_n (pc' := 37) dX5_sumOfAll_36 rfl rfl ?_
      refine ev_ireturn rfl dX5_sumOfAll_37 ?_
      exact ⟨rfl, rfl⟩
    · exact absurd (show nI 64 ≤ nI 64 from nI_le (by omega) (by omega)) h_16 --
  | succ c ih =>
    intro k z hk
    have hi : vp_in (nI k) 64 := vp_in_nI (by omega) (by omega)
    have e1 : (nI k).toNatClampNeg = k := nI_clamp (by omega)
    refine ev_iload (pc' := 15) dX5_sumOfAll_13 rfl rfl ?_
    refine ev_iload_n (pc' := 16) dX5_sumOfAll_15 rfl rfl ?_
    refine ev_icmp_ge (tgt := 36) (pc' := 19) dX5_sumOfAll_16 (by decide) rfl (fun h_16 => ?_) (fun h_16 => ?_)
    · exact absurd h_16 (nI_ge (b := 64) (by omega) (by omega)) --
    · refine ev_aload_n (pc' := 20) dX5_sumOfAll_19 rfl rfl ?_
      refine ev_iload (pc' := 22) dX5_sumOfAll_20 rfl rfl ?_
      refine ev_iald (pc' := 23) dX5_sumOfAll_22 rfl rfl ?_ ?_
      · exact hi
      rw [e1]
      refine ev_istore (pc' := 25) (ls' := [_, _, _, _, _, _]) dX5_sumOfAll_23 rfl rfl rfl ?_
      refine ev_iload_n (pc' := 26) dX5_sumOfAll_25 rfl rfl ?_
      refine ev_iload (pc' := 28) dX5_sumOfAll_26 rfl rfl ?_
      refine ev_iadd (pc' := 29) dX5_sumOfAll_28 rfl ?_
      refine ev_istore_n (pc' := 30) (ls' := [_, _, _, _, _, _]) dX5_sumOfAll_29 rfl rfl rfl ?_
      refine ev_iinc (pc' := 33) (ls' := [_, _, _, _, _, _]) dX5_sumOfAll_30 rfl rfl rfl rfl rfl ?_
      refine ev_goto (tgt := 13) dX5_sumOfAll_33 (by decide) ?_
      rw [nI_p1]
      exact ih (k + 1) _ (by omega)
theorem r_sumOfAll {d : Nat} (σ : Nat → Nat → Int32) : Ok d M5_sumOfAll [.ref 0] (WR σ) (rt (some (.int (sumTo (σ 1) 64))) (WR σ)) := by
  refine Ok.of (ls := [some _, none, none, none, none, none]) (by decide +kernel) (Nat.le_of_ble_eq_true rfl) rfl ?_
  refine ev_iconst (pc' := 1) (v := 0) dX5_sumOfAll_0 rfl (by decide) ?_
  refine ev_istore_n (pc' := 2) (ls' := [_, _, _, _, _, _]) dX5_sumOfAll_1 rfl rfl rfl ?_
  refine ev_aload_n (pc' := 3) dX5_sumOfAll_2 rfl rfl ?_
  refine ev_getf (pc' := 6) fl_5_9 dX5_sumOfAll_3 rfl rfl rfl ?_
  refine ev_astore_n (pc' := 7) (ls' := [_, _, _, _, _, _]) dX5_sumOfAll_6 rfl rfl rfl ?_
  refine ev_aload_n (pc' := 8) dX5_sumOfAll_7 rfl rfl ?_
  refine ev_alen (pc' := 9) (t := 0) dX5_sumOfAll_8 rfl rfl rfl rfl ?_
  refine ev_istore_n (pc' := 10) (ls' := [_, _, _, _, _, _]) dX5_sumOfAll_9 rfl rfl rfl ?_
  refine ev_iconst (pc' := 11) (v := 0) dX5_sumOfAll_10 rfl (by decide) ?_
  refine ev_istore (pc' := 13) (ls' := [_, _, _, _, _, _]) dX5_sumOfAll_11 rfl rfl rfl ?_
  exact r_sum_loop σ 64 0 _ rfl
theorem r_link {d : Nat} (σ : Nat → Nat → Int32) (i : Int32) : Ok (d + 1) M5_link [.ref 0, .int i] (WR σ) (rt (some (.int (if 0 ≤ i ∧ i < σ 0 4 then atF 8 (σ 3) i else -1))) (WR σ)) := by
  refine Ok.of (ls := [some _, some _]) (by decide +kernel) (Nat.le_of_ble_eq_true rfl) rfl ?_
  refine ev_iload_n (pc' := 1) dX5_link_0 rfl rfl ?_
  refine ev_if_lt (tgt := 23) (pc' := 4) dX5_link_1 (by decide) rfl (fun h_1 => ?_) (fun h_1 => ?_)
  · refine ev_iconst (pc' := 24) (v := -1) dX5_link_23 rfl (by decide) ?_
    refine ev_ireturn rfl dX5_link_24 ?_
    refine rt_i ?_ rfl
    simp only [fa_lt, fa_le, Int32.toInt_zero] at *
    first | (rw [if_pos (by omega)]; done) | (rw [if_neg (by omega)]; done)
  · refine ev_iload_n (pc' := 5) dX5_link_4 rfl rfl ?_
    refine ev_aload_n (pc' := 6) dX5_link_5 rfl rfl ?_
    refine ev_getf (pc' := 9) fl_5_25 dX5_link_6 rfl rfl rfl ?_
    refine ev_icmp_ge (tgt := 23) (pc' := 12) dX5_link_9 (by decide) rfl (fun h_9 => ?_) (fun h_9 => ?_)
    · refine ev_iconst (pc' := 24) (v := -1) dX5_link_23 rfl (by decide) ?_
      refine ev_ireturn rfl dX5_link_24 ?_
      refine rt_i ?_ rfl
      simp only [fa_lt, fa_le, Int32.toInt_zero] at *
      first | (rw [if_pos (by omega)]; done) | (rw [if_neg (by omega)]; done)
    · refine ev_aload_n (pc' := 13) dX5_link_12 rfl rfl ?_
      refine ev_getf (pc' := 16) fl_5_18 dX5_link_13 rfl rfl rfl ?_
      refine ev_iload_n (pc' := 17) dX5_link_16 rfl rfl ?_
      refine ev_cNi2 (pc' := 20) cl_5_40 (k_at rfl (by decide)) dX5_link_17 rfl rfl ?_
      refine ev_goto (tgt := 24) dX5_link_20 (by decide) ?_
      refine ev_ireturn rfl dX5_link_24 ?_
      refine rt_i ?_ rfl
      simp only [fa_lt, fa_le, Int32.toInt_zero] at *
      first | (rw [if_pos (by omega)]; done) | (rw [if_neg (by omega)]; done)
def r_can (σ : Nat → Nat → Int32) (least : Int32) : Bool := decide (σ 0 6 < (8 - σ 0 3) * least ∨ (8 - σ 0 3) * least = σ 0 6 ∧ 8 - σ 0 3 < σ 0 4)
theorem k_canWin {d : Nat} (σ : Nat → Nat → Int32) (x : Int32) : Ok d M5_canWin [.ref 0, .int x] (WR σ) (rt (some (.int (bI (r_can σ x)))) (WR σ)) := by
  refine Ok.of (ls := [some _, some _, none, none]) (by decide +kernel) (Nat.le_of_ble_eq_true rfl) rfl ?_
  refine ev_bipush (pc' := 2) (v := 8) dX5_canWin_0 rfl (by decide) ?_
  refine ev_aload_n (pc' := 3) dX5_canWin_2 rfl rfl ?_
  refine ev_getf (pc' := 6) fl_5_21 dX5_canWin_3 rfl rfl rfl ?_
  refine ev_isub (pc' := 7) dX5_canWin_6 rfl ?_
  refine ev_istore_n (pc' := 8) (ls' := [_, _, _, _]) dX5_canWin_7 rfl rfl rfl ?_
  refine ev_iload_n (pc' := 9) dX5_canWin_8 rfl rfl ?_
  refine ev_iload_n (pc' := 10) dX5_canWin_9 rfl rfl ?_
  refine ev_imul (pc' := 11) dX5_canWin_10 rfl ?_
  refine ev_istore_n (pc' := 12) (ls' := [_, _, _, _]) dX5_canWin_11 rfl rfl rfl ?_
  refine ev_iload_n (pc' := 13) dX5_canWin_12 rfl rfl ?_
  refine ev_aload_n (pc' := 14) dX5_canWin_13 rfl rfl ?_
  refine ev_getf (pc' := 17) fl_5_31 dX5_canWin_14 rfl rfl rfl ?_
  refine ev_icmp_gt (tgt := 36) (pc' := 20) dX5_canWin_17 (by decide) rfl (fun h_17 => ?_) (fun h_17 => ?_)
  · refine ev_iconst (pc' := 37) (v := 1) dX5_canWin_36 rfl (by decide) ?_
    refine ev_goto (tgt := 41) dX5_canWin_37 (by decide) ?_
    refine ev_zreturn rfl rfl dX5_canWin_41 ?_
    refine rt_i ?_ rfl
    unfold r_can
    simp only [fa_lt, fa_le, fa_eq (_ * _)] at *
    first | (rw [decide_eq_true (by omega)]; rfl) | (rw [decide_eq_false (by omega)]; rfl)
  · refine ev_iload_n (pc' := 21) dX5_canWin_20 rfl rfl ?_
    refine ev_aload_n (pc' := 22) dX5_canWin_21 rfl rfl ?_
    refine ev_getf (pc' := 25) fl_5_31 dX5_canWin_22 rfl rfl rfl ?_
    refine ev_icmp_ne (tgt := 40) (pc' := 28) dX5_canWin_25 (by decide) rfl (fun h_25 => ?_) (fun h_25 => ?_)
    · refine ev_iconst (pc' := 41) (v := 0) dX5_canWin_40 rfl (by decide) ?_
      refine ev_zreturn rfl rfl dX5_canWin_41 ?_
      refine rt_i ?_ rfl
      unfold r_can
      simp only [fa_lt, fa_le, fa_eq (_ * _)] at *
      first | (rw [decide_eq_true (by omega)]; rfl) | (rw [decide_eq_false (by omega)]; rfl)
    · refine ev_iload_n (pc' := 29) dX5_canWin_28 rfl rfl ?_
      refine ev_aload_n (pc' := 30) dX5_canWin_29 rfl rfl ?_
      refine ev_getf (pc' := 33) fl_5_25 dX5_canWin_30 rfl rfl rfl ?_
      refine ev_icmp_ge (tgt := 40) (pc' := 36) dX5_canWin_33 (by decide) rfl (fun h_33 => ?_) (fun h_33 => ?_)
      · refine ev_iconst (pc' := 41) (v := 0) dX5_canWin_40 rfl (by decide) ?_
        refine ev_zreturn rfl rfl dX5_canWin_41 ?_
        refine rt_i ?_ rfl
        unfold r_can
        simp only [fa_lt, fa_le, fa_eq (_ * _)] at *
        first | (rw [decide_eq_true (by omega)]; rfl) | (rw [decide_eq_false (by omega)]; rfl)
      · refine ev_iconst (pc' := 37) (v := 1) dX5_canWin_36 rfl (by decide) ?_
        refine ev_goto (tgt := 41) dX5_canWin_37 (by decide) ?_
        refine ev_zreturn rfl rfl dX5_canWin_41 ?_
        refine rt_i ?_ rfl
        unfold r_can
        simp only [fa_lt, fa_le, fa_eq (_ * _)] at *
        first | (rw [decide_eq_true (by omega)]; rfl) | (rw [decide_eq_false (by omega)]; rfl)
def r_offer (σ : Nat → Nat → Int32) (size least : Int32) : Nat → Nat → Int32 := if σ 0 6 < size * least ∨ size * least = σ 0 6 ∧ size < σ 0 4 then s1 (s2 (s2 (s2 σ 0 4 size) 0 5 least) 0 6 (size * least)) 3 (va_cpy (σ 2) (σ 3) 0 0 8) else σ
theorem k_offer {d : Nat} (σ : Nat → Nat → Int32) (size least : Int32) : Ok d M5_offer [.ref 0, .int size, .int least] (WR σ) (rt none (WR (r_offer σ size least))) := by
  have e1 : (8 : Int32).toNatClampNeg = 8 := by decide
  have e2 : (0 : Int32).toNatClampNeg = 0 := by decide
  refine Ok.of (ls := [some _, some _, some _, none]) (by decide +kernel) (Nat.le_of_ble_eq_true rfl) rfl ?_
  refine ev_iload_n (pc' := 1) dX5_offer_0 rfl rfl ?_
  refine ev_iload_n (pc' := 2) dX5_offer_1 rfl rfl ?_
  refine ev_imul (pc' := 3) dX5_offer_2 rfl ?_
  refine ev_istore_n (pc' := 4) (ls' := [_, _, _, _]) dX5_offer_3 rfl rfl rfl ?_
  refine ev_iload_n (pc' := 5) dX5_offer_4 rfl rfl ?_
  refine ev_aload_n (pc' := 6) dX5_offer_5 rfl rfl ?_
  refine ev_getf (pc' := 9) fl_5_31 dX5_offer_6 rfl rfl rfl ?_
  refine ev_icmp_gt (tgt := 28) (pc' := 12) dX5_offer_9 (by decide) rfl (fun h_9 => ?_) (fun h_9 => ?_)
  · refine ev_aload_n (pc' := 29) dX5_offer_28 rfl rfl ?_
    refine ev_iload_n (pc' := 30) dX5_offer_29 rfl rfl ?_
    refine ev_putf (pc' := 33) fs_5_25 dX5_offer_30 rfl rfl (Nat.le_of_ble_eq_true rfl) (fun _ => rfl) (fun _ => rfl) (WR_p5_4 _ _) ?_
    refine ev_aload_n (pc' := 34) dX5_offer_33 rfl rfl ?_
    refine ev_iload_n (pc' := 35) dX5_offer_34 rfl rfl ?_
    refine ev_putf (pc' := 38) fs_5_28 dX5_offer_35 rfl rfl (Nat.le_of_ble_eq_true rfl) (fun _ => rfl) (fun _ => rfl) (WR_p5_5 _ _) ?_
    refine ev_aload_n (pc' := 39) dX5_offer_38 rfl rfl ?_
    refine ev_iload_n (pc' := 40) dX5_offer_39 rfl rfl ?_
    refine ev_putf (pc' := 43) fs_5_31 dX5_offer_40 rfl rfl (Nat.le_of_ble_eq_true rfl) (fun _ => rfl) (fun _ => rfl) (WR_p5_6 _ _) ?_
    refine ev_aload_n (pc' := 44) dX5_offer_43 rfl rfl ?_
    refine ev_getf (pc' := 47) fl_5_15 dX5_offer_44 rfl rfl rfl ?_
    refine ev_iconst (pc' := 48) (v := 0) dX5_offer_47 rfl (by decide) ?_
    refine ev_aload_n (pc' := 49) dX5_offer_48 rfl rfl ?_
    refine ev_getf (pc' := 52) fl_5_18 dX5_offer_49 rfl rfl rfl ?_
    refine ev_iconst (pc' := 53) (v := 0) dX5_offer_52 rfl (by decide) ?_
    refine ev_bipush (pc' := 55) (v := 8) dX5_offer_53 rfl (by decide) ?_
    refine ev_copy (pc' := 58) pw_5_34 dX5_offer_55 rfl (r0 := 2) (r1 := 3) rfl rfl (by decide) (by decide) (by decide) (by decide) (by decide) rfl rfl ?_
    refine ev_return rfl dX5_offer_58 ?_
    refine rt_of rfl ?_
    unfold r_offer
    simp only [fa_lt, fa_le, fa_eq (_ * _)] at *
    first | (rw [if_pos (by omega)]; try rw [e1, e2]; rfl) | (rw [if_neg (by omega)]; done)
  · refine ev_iload_n (pc' := 13) dX5_offer_12 rfl rfl ?_
    refine ev_aload_n (pc' := 14) dX5_offer_13 rfl rfl ?_
    refine ev_getf (pc' := 17) fl_5_31 dX5_offer_14 rfl rfl rfl ?_
    refine ev_icmp_ne (tgt := 58) (pc' := 20) dX5_offer_17 (by decide) rfl (fun h_17 => ?_) (fun h_17 => ?_)
    · refine ev_return rfl dX5_offer_58 ?_
      refine rt_of rfl ?_
      unfold r_offer
      simp only [fa_lt, fa_le, fa_eq (_ * _)] at *
      first | (rw [if_pos (by omega)]; try rw [e1, e2]; rfl) | (rw [if_neg (by omega)]; done)
    · refine ev_iload_n (pc' := 21) dX5_offer_20 rfl rfl ?_
      refine ev_aload_n (pc' := 22) dX5_offer_21 rfl rfl ?_
      refine ev_getf (pc' := 25) fl_5_25 dX5_offer_22 rfl rfl rfl ?_
      refine ev_icmp_ge (tgt := 58) (pc' := 28) dX5_offer_25 (by decide) rfl (fun h_25 => ?_) (fun h_25 => ?_)
      · refine ev_return rfl dX5_offer_58 ?_
        refine rt_of rfl ?_
        unfold r_offer
        simp only [fa_lt, fa_le, fa_eq (_ * _)] at *
        first | (rw [if_pos (by omega)]; try rw [e1, e2]; rfl) | (rw [if_neg (by omega)]; done)
      · refine ev_aload_n (pc' := 29) dX5_offer_28 rfl rfl ?_
        refine ev_iload_n (pc' := 30) dX5_offer_29 rfl rfl ?_
        refine ev_putf (pc' := 33) fs_5_25 dX5_offer_30 rfl rfl (Nat.le_of_ble_eq_true rfl) (fun _ => rfl) (fun _ => rfl) (WR_p5_4 _ _) ?_
        refine ev_aload_n (pc' := 34) dX5_offer_33 rfl rfl ?_
        refine ev_iload_n (pc' := 35) dX5_offer_34 rfl rfl ?_
        refine ev_putf (pc' := 38) fs_5_28 dX5_offer_35 rfl rfl (Nat.le_of_ble_eq_true rfl) (fun _ => rfl) (fun _ => rfl) (WR_p5_5 _ _) ?_
        refine ev_aload_n (pc' := 39) dX5_offer_38 rfl rfl ?_
        refine ev_iload_n (pc' := 40) dX5_offer_39 rfl rfl ?_
        refine ev_putf (pc' := 43) fs_5_31 dX5_offer_40 rfl rfl (Nat.le_of_ble_eq_true rfl) (fun _ => rfl) (fun _ => rfl) (WR_p5_6 _ _) ?_
        refine ev_aload_n (pc' := 44) dX5_offer_43 rfl rfl ?_
        refine ev_getf (pc' := 47) fl_5_15 dX5_offer_44 rfl rfl rfl ?_
        refine ev_iconst (pc' := 48) (v := 0) dX5_offer_47 rfl (by decide) ?_
        refine ev_aload_n (pc' := 49) dX5_offer_48 rfl rfl ?_
        refine ev_getf (pc' := 52) fl_5_18 dX5_offer_49 rfl rfl rfl ?_
        refine ev_iconst (pc' := 53) (v := 0) dX5_offer_52 rfl (by decide) ?_
        refine ev_bipush (pc' := 55) (v := 8) dX5_offer_53 rfl (by decide) ?_
        refine ev_copy (pc' := 58) pw_5_34 dX5_offer_55 rfl (r0 := 2) (r1 := 3) rfl rfl (by decide) (by decide) (by decide) (by decide) (by decide) rfl rfl ?_
        refine ev_return rfl dX5_offer_58 ?_
        refine rt_of rfl ?_
        unfold r_offer
        simp only [fa_lt, fa_le, fa_eq (_ * _)] at *
        first | (rw [if_pos (by omega)]; try rw [e1, e2]; rfl) | (rw [if_neg (by omega)]; done)
abbrev RS : Type := Nat → Nat → Int32
def r_for (g : Nat → RS → RS) : Nat → Nat → RS → RS
  | 0, _, σ => σ
  | c + 1, k, σ => r_for g c (k + 1) (g k σ)
def r_step (W : Int32 → Int32 → Int32 → RS → RS) (size next used least : Int32) (σ : RS) : RS := if r_can σ least then W (size + 1) used least (s1 σ 2 (putF 8 (σ 2) size next)) else σ
def r_try (W : Int32 → Int32 → Int32 → RS → RS) (size used least last : Int32) (k : Nat) (σ : RS) : RS :=
  if 0 < atF 64 (σ 1) (last * 8 + nI k) ∧ used >>> (nI k &&& 31) &&& 1 = 0 then r_step W size (nI k) (used ||| 1 <<< (nI k &&& 31)) (mn least (atF 64 (σ 1) (last * 8 + nI k))) σ else σ
def r_close (size least last : Int32) (σ : RS) : RS := if 0 < atF 64 (σ 1) (last * 8 + σ 0 3) then r_offer σ size (mn least (atF 64 (σ 1) (last * 8 + σ 0 3))) else σ
def r_walk (st : Nat) : Nat → Int32 → Int32 → Int32 → RS → RS
  | 0, size, _, least, σ => r_close size least (atF 8 (σ 2) (size - 1)) σ
  | f + 1, size, used, least, σ => r_for (r_try (r_walk st f) size used least (atF 8 (σ 2) (size - 1))) (7 - st) (st + 1) (r_close size least (atF 8 (σ 2) (size - 1)) σ)
theorem r_for_keep {P : RS → Prop} {g : Nat → RS → RS} (h : ∀ k σ, P σ → P (g k σ)) : ∀ (c k : Nat) (σ : RS), P σ → P (r_for g c k σ) := by
  intro c
  induction c with
  | zero => intro k σ hp; exact hp
  | succ c ih => intro k σ hp; exact ih (k + 1) _ (h k σ hp)
/-- start and sums stay -/
def r_like (a : Int32) (s : Nat → Int32) (σ : RS) : Prop := σ 0 3 = a ∧ σ 1 = s
theorem r_offer_keep {a : Int32} {s : Nat → Int32} {size least : Int32} {σ : RS} (h : r_like a s σ) : r_like a s (r_offer σ size least) := by
  unfold r_offer
  split
  · exact h
  · exact h
theorem r_close_keep {a : Int32} {s : Nat → Int32} {size least last : Int32} {σ : RS} (h : r_like a s σ) : r_like a s (r_close size least last σ) := by
  unfold r_close
  split
  · exact r_offer_keep h
  · exact h
theorem r_walk_keep {st : Nat} {a : Int32} {s : Nat → Int32} : ∀ (f : Nat) (size used least : Int32) (σ : RS), r_like a s σ → r_like a s (r_walk st f size used least σ) := by
  intro f
  induction f with
  | zero => intro size used least σ h; exact r_close_keep h
  | succ f ih =>
    intro size used least σ h
    refine r_for_keep (P := r_like a s) (fun k σ h => ?_) _ _ _ (r_close_keep h)
    unfold r_try
    split
    · unfold r_step
      split
      · exact ih _ _ _ _ h
      · exact h
    · exact h
theorem r_mn_pos {a b : Int32} (h : 0 < a) : (0 < (if b < a then b else a)) ↔ 0 < b := by
  by_cases hb : b < a
  · rw [if_pos hb]
  · rw [if_neg hb]
    simp only [fa_lt, Int32.toInt_zero] at *
    omega
theorem k_walk_loop {D : Nat} {st : Nat} {W : Int32 → Int32 → Int32 → RS → RS} (s : Nat) (size used least last : Int32) (hs : s < 8) (hsz : size = nI s) (hl : 0 < least) (hW : ∀ (used least : Int32) (σ : RS), σ 0 3 = nI st → 0 < least → Ok (D + 2) M5_walk [.ref 0, .int (nI s + 1), .int used, .int least] (WR σ) (rt none (WR (W (nI s + 1) used least σ)))) (hk : ∀ (used least : Int32) (σ : RS), σ 0 3 = nI st → (W (nI s + 1) used least σ) 0 3 = nI st) (x5 : Int32) : ∀ (c k : Nat) (z7 : Option Value) (σ : RS), k + c = 8 → σ 0 3 = nI st → Ev (D + 3) M5_walk (rt none (WR (r_for (r_try W size used least last) c k σ))) 55 [some (.ref 0), some (.int size), some (.int used), some (.int least), some (.int last), some (.int x5), some (.int (nI k)), z7] [] (WR σ) := by
  subst hsz
  intro c
  induction c with
  | zero =>
    intro k z7 σ hc h3
    have hc : k = 8 := by omega
    subst hc
    refine ev_iload (pc' := 57) dX5_walk_55 rfl rfl ?_
    refine ev_bipush (pc' := 59) (v := 8) dX5_walk_57 rfl (by decide) ?_
    refine ev_icmp_ge (tgt := 143) (pc' := 62) dX5_walk_59 (by decide) rfl (fun h_59 => ?_) (fun h_59 => ?_)
    · refine ev_return rfl dX5_walk_143 ?_
      exact ⟨rfl, rfl⟩
    · exact absurd (show (8 : Int32) ≤ nI 8 from nI_le (a := 8) (by omega) (by omega)) h_59 --
  | succ c ih =>
    intro k z7 σ hc h3
    refine ev_iload (pc' := 57) dX5_walk_55 rfl rfl ?_
    refine ev_bipush (pc' := 59) (v := 8) dX5_walk_57 rfl (by decide) ?_
    refine ev_icmp_ge (tgt := 143) (pc' := 62) dX5_walk_59 (by decide) rfl (fun h_59 => ?_) (fun h_59 => ?_)
    · exact absurd h_59 (nI_ge (b := 8) (by omega) (by omega)) --
    · refine ev_iload_n (pc' := 63) dX5_walk_62 rfl rfl ?_
      refine ev_bipush (pc' := 65) (v := 8) dX5_walk_63 rfl (by decide) ?_
      refine ev_icmp_ge (tgt := 143) (pc' := 68) dX5_walk_65 (by decide) rfl (fun h_65 => ?_) (fun h_65 => ?_)
      · exact absurd h_65 (nI_ge (b := 8) (by omega) (by omega)) --
      · refine ev_iload_n (pc' := 69) dX5_walk_68 rfl rfl ?_
        refine ev_aload_n (pc' := 70) dX5_walk_69 rfl rfl ?_
        refine ev_getf (pc' := 73) fl_5_9 dX5_walk_70 rfl rfl rfl ?_
        refine ev_iload (pc' := 75) dX5_walk_73 rfl rfl ?_
        refine ev_bipush (pc' := 77) (v := 8) dX5_walk_75 rfl (by decide) ?_
        refine ev_imul (pc' := 78) dX5_walk_77 rfl ?_
        refine ev_iload (pc' := 80) dX5_walk_78 rfl rfl ?_
        refine ev_iadd (pc' := 81) dX5_walk_80 rfl ?_
        refine ev_cNi2 (pc' := 84) cl_5_40 (k_at rfl (by decide)) dX5_walk_81 rfl rfl ?_
        refine ev_mmin (pc' := 87) pw_5_59 dX5_walk_84 rfl rfl ?_
        refine ev_istore (pc' := 89) (ls' := [_, _, _, _, _, _, _, _]) dX5_walk_87 rfl rfl rfl ?_
        refine ev_iload (pc' := 91) dX5_walk_89 rfl rfl ?_
        refine ev_if_le (tgt := 137) (pc' := 94) dX5_walk_91 (by decide) rfl (fun h_91 => ?_) (fun h_91 => ?_)
        · refine ev_iinc (pc' := 140) (ls' := [_, _, _, _, _, _, _, _]) dX5_walk_137 rfl rfl rfl rfl rfl ?_
          refine ev_goto (tgt := 55) dX5_walk_140 (by decide) ?_
          rw [nI_p1, r_for]
          first
            | (have e : r_try W (nI s) used least last k σ = σ := if_neg (fun a => by first | exact h_100 a.2 | exact absurd ((r_mn_pos hl).mpr a.1) (Int32.not_lt.mpr h_91))
               rw [e]
               exact ih (k + 1) _ σ (by omega) h3)
            | (rw [bI_0] at h_109
               have e : r_try W (nI s) used least last k σ = _ := if_pos ⟨(r_mn_pos hl).mp (Int32.not_le.mp h_91), h_100⟩
               have e2 : r_step W (nI s) (nI k) (used ||| 1 <<< (nI k &&& 31)) (mn least (atF 64 (σ 1) (last * 8 + nI k))) σ = σ := if_neg (fun z => absurd (z.symm.trans h_109) (by decide))
               rw [e, e2]
               exact ih (k + 1) _ σ (by omega) h3)
            | (rw [bI_0, Bool.not_eq_false] at h_109
               have e : r_try W (nI s) used least last k σ = _ := if_pos ⟨(r_mn_pos hl).mp (Int32.not_le.mp h_91), h_100⟩
               have e2 : r_step W (nI s) (nI k) (used ||| 1 <<< (nI k &&& 31)) (mn least (atF 64 (σ 1) (last * 8 + nI k))) σ = _ := if_pos h_109
               rw [e, e2]
               exact ih (k + 1) _ _ (by omega) (hk _ _ _ h3))
        · refine ev_iload_n (pc' := 95) dX5_walk_94 rfl rfl ?_
          refine ev_iload (pc' := 97) dX5_walk_95 rfl rfl ?_
          refine ev_ishr (pc' := 98) dX5_walk_97 rfl ?_
          refine ev_iconst (pc' := 99) (v := 1) dX5_walk_98 rfl (by decide) ?_
          refine ev_iand (pc' := 100) dX5_walk_99 rfl ?_
          refine ev_if_ne (tgt := 137) (pc' := 103) dX5_walk_100 (by decide) rfl (fun h_100 => ?_) (fun h_100 => ?_)
          · refine ev_iinc (pc' := 140) (ls' := [_, _, _, _, _, _, _, _]) dX5_walk_137 rfl rfl rfl rfl rfl ?_
            refine ev_goto (tgt := 55) dX5_walk_140 (by decide) ?_
            rw [nI_p1, r_for]
            first
              | (have e : r_try W (nI s) used least last k σ = σ := if_neg (fun a => by first | exact h_100 a.2 | exact absurd ((r_mn_pos hl).mpr a.1) (Int32.not_lt.mpr h_91))
                 rw [e]
                 exact ih (k + 1) _ σ (by omega) h3)
              | (rw [bI_0] at h_109
                 have e : r_try W (nI s) used least last k σ = _ := if_pos ⟨(r_mn_pos hl).mp (Int32.not_le.mp h_91), h_100⟩
                 have e2 : r_step W (nI s) (nI k) (used ||| 1 <<< (nI k &&& 31)) (mn least (atF 64 (σ 1) (last * 8 + nI k))) σ = σ := if_neg (fun z => absurd (z.symm.trans h_109) (by decide))
                 rw [e, e2]
                 exact ih (k + 1) _ σ (by omega) h3)
              | (rw [bI_0, Bool.not_eq_false] at h_109
                 have e : r_try W (nI s) used least last k σ = _ := if_pos ⟨(r_mn_pos hl).mp (Int32.not_le.mp h_91), h_100⟩
                 have e2 : r_step W (nI s) (nI k) (used ||| 1 <<< (nI k &&& 31)) (mn least (atF 64 (σ 1) (last * 8 + nI k))) σ = _ := if_pos h_109
                 rw [e, e2]
                 exact ih (k + 1) _ _ (by omega) (hk _ _ _ h3))
          · refine ev_aload_n (pc' := 104) dX5_walk_103 rfl rfl ?_
            refine ev_iload (pc' := 106) dX5_walk_104 rfl rfl ?_
            refine ev_cVi1 (pc' := 109) cl_5_69 (k_canWin _ _) dX5_walk_106 rfl rfl rfl rfl ?_
            refine ev_if_eq (tgt := 137) (pc' := 112) dX5_walk_109 (by decide) rfl (fun h_109 => ?_) (fun h_109 => ?_)
            · refine ev_iinc (pc' := 140) (ls' := [_, _, _, _, _, _, _, _]) dX5_walk_137 rfl rfl rfl rfl rfl ?_
              refine ev_goto (tgt := 55) dX5_walk_140 (by decide) ?_
              rw [nI_p1, r_for]
              first
                | (have e : r_try W (nI s) used least last k σ = σ := if_neg (fun a => by first | exact h_100 a.2 | exact absurd ((r_mn_pos hl).mpr a.1) (Int32.not_lt.mpr h_91))
                   rw [e]
                   exact ih (k + 1) _ σ (by omega) h3)
                | (rw [bI_0] at h_109
                   have e : r_try W (nI s) used least last k σ = _ := if_pos ⟨(r_mn_pos hl).mp (Int32.not_le.mp h_91), h_100⟩
                   have e2 : r_step W (nI s) (nI k) (used ||| 1 <<< (nI k &&& 31)) (mn least (atF 64 (σ 1) (last * 8 + nI k))) σ = σ := if_neg (fun z => absurd (z.symm.trans h_109) (by decide))
                   rw [e, e2]
                   exact ih (k + 1) _ σ (by omega) h3)
                | (rw [bI_0, Bool.not_eq_false] at h_109
                   have e : r_try W (nI s) used least last k σ = _ := if_pos ⟨(r_mn_pos hl).mp (Int32.not_le.mp h_91), h_100⟩
                   have e2 : r_step W (nI s) (nI k) (used ||| 1 <<< (nI k &&& 31)) (mn least (atF 64 (σ 1) (last * 8 + nI k))) σ = _ := if_pos h_109
                   rw [e, e2]
                   exact ih (k + 1) _ _ (by omega) (hk _ _ _ h3))
            · refine ev_aload_n (pc' := 113) dX5_walk_112 rfl rfl ?_
              refine ev_getf (pc' := 116) fl_5_15 dX5_walk_113 rfl rfl rfl ?_
              refine ev_iload_n (pc' := 117) dX5_walk_116 rfl rfl ?_
              refine ev_iload (pc' := 119) dX5_walk_117 rfl rfl ?_
              refine ev_cNv3 (pc' := 122) cl_5_48 (k_put rfl (by decide) (WR_a2 _ _)) dX5_walk_119 rfl rfl ?_
              refine ev_aload_n (pc' := 123) dX5_walk_122 rfl rfl ?_
              refine ev_iload_n (pc' := 124) dX5_walk_123 rfl rfl ?_
              refine ev_iconst (pc' := 125) (v := 1) dX5_walk_124 rfl (by decide) ?_
              refine ev_iadd (pc' := 126) dX5_walk_125 rfl ?_
              refine ev_iload_n (pc' := 127) dX5_walk_126 rfl rfl ?_
              refine ev_iconst (pc' := 128) (v := 1) dX5_walk_127 rfl (by decide) ?_
              refine ev_iload (pc' := 130) dX5_walk_128 rfl rfl ?_
              refine ev_ishl (pc' := 131) dX5_walk_130 rfl ?_
              refine ev_ior (pc' := 132) dX5_walk_131 rfl ?_
              refine ev_iload (pc' := 134) dX5_walk_132 rfl rfl ?_
              refine ev_cVv3 (pc' := 137) cl_5_55 (hW _ _ _ h3 (Int32.not_le.mp h_91)) dX5_walk_134 rfl rfl rfl rfl ?_
              refine ev_iinc (pc' := 140) (ls' := [_, _, _, _, _, _, _, _]) dX5_walk_137 rfl rfl rfl rfl rfl ?_
              refine ev_goto (tgt := 55) dX5_walk_140 (by decide) ?_
              rw [nI_p1, r_for]
              first
                | (have e : r_try W (nI s) used least last k σ = σ := if_neg (fun a => by first | exact h_100 a.2 | exact absurd ((r_mn_pos hl).mpr a.1) (Int32.not_lt.mpr h_91))
                   rw [e]
                   exact ih (k + 1) _ σ (by omega) h3)
                | (rw [bI_0] at h_109
                   have e : r_try W (nI s) used least last k σ = _ := if_pos ⟨(r_mn_pos hl).mp (Int32.not_le.mp h_91), h_100⟩
                   have e2 : r_step W (nI s) (nI k) (used ||| 1 <<< (nI k &&& 31)) (mn least (atF 64 (σ 1) (last * 8 + nI k))) σ = σ := if_neg (fun z => absurd (z.symm.trans h_109) (by decide))
                   rw [e, e2]
                   exact ih (k + 1) _ σ (by omega) h3)
                | (rw [bI_0, Bool.not_eq_false] at h_109
                   have e : r_try W (nI s) used least last k σ = _ := if_pos ⟨(r_mn_pos hl).mp (Int32.not_le.mp h_91), h_100⟩
                   have e2 : r_step W (nI s) (nI k) (used ||| 1 <<< (nI k &&& 31)) (mn least (atF 64 (σ 1) (last * 8 + nI k))) σ = _ := if_pos h_109
                   rw [e, e2]
                   exact ih (k + 1) _ _ (by omega) (hk _ _ _ h3))
theorem k_walk {st : Nat} (hst : st < 8) : ∀ (f D s : Nat) (size used least : Int32) (σ : RS), s + f = 8 → size = nI s → σ 0 3 = nI st → 0 < least → 2 * f + 1 ≤ D → Ok D M5_walk [.ref 0, .int size, .int used, .int least] (WR σ) (rt none (WR (r_walk st f size used least σ))) := by
  intro f
  induction f with
  | zero =>
    intro D s size used least σ hs hsz h3 hl hD
    subst hsz
    obtain ⟨D, rfl⟩ : ∃ k, D = k + 1 := ⟨D - 1, by omega⟩
    have hs : s = 8 := by omega
    subst hs
    have h8 : nI st + 1 = nI (st + 1) := nI_1 st
    refine Ok.of (ls := [some _, some _, some _, some _, none, none, none, none]) (by decide +kernel) (Nat.le_of_ble_eq_true rfl) rfl ?_
    refine ev_aload_n (pc' := 1) dX5_walk_0 rfl rfl ?_
    refine ev_getf (pc' := 4) fl_5_15 dX5_walk_1 rfl rfl rfl ?_
    refine ev_iload_n (pc' := 5) dX5_walk_4 rfl rfl ?_
    refine ev_iconst (pc' := 6) (v := 1) dX5_walk_5 rfl (by decide) ?_
    refine ev_isub (pc' := 7) dX5_walk_6 rfl ?_
    refine ev_cNi2 (pc' := 10) cl_5_40 (k_at rfl (by decide)) dX5_walk_7 rfl rfl ?_
    refine ev_istore (pc' := 12) (ls' := [_, _, _, _, _, _, _, _]) dX5_walk_10 rfl rfl rfl ?_
    refine ev_aload_n (pc' := 13) dX5_walk_12 rfl rfl ?_
    refine ev_getf (pc' := 16) fl_5_9 dX5_walk_13 rfl rfl rfl ?_
    refine ev_iload (pc' := 18) dX5_walk_16 rfl rfl ?_
    refine ev_bipush (pc' := 20) (v := 8) dX5_walk_18 rfl (by decide) ?_
    refine ev_imul (pc' := 21) dX5_walk_20 rfl ?_
    refine ev_aload_n (pc' := 22) dX5_walk_21 rfl rfl ?_
    refine ev_getf (pc' := 25) fl_5_21 dX5_walk_22 rfl rfl rfl ?_
    refine ev_iadd (pc' := 26) dX5_walk_25 rfl ?_
    refine ev_cNi2 (pc' := 29) cl_5_40 (k_at rfl (by decide)) dX5_walk_26 rfl rfl ?_
    refine ev_istore (pc' := 31) (ls' := [_, _, _, _, _, _, _, _]) dX5_walk_29 rfl rfl rfl ?_
    refine ev_iload (pc' := 33) dX5_walk_31 rfl rfl ?_
    refine ev_if_le (tgt := 47) (pc' := 36) dX5_walk_33 (by decide) rfl (fun h_33 => ?_) (fun h_33 => ?_)
    · refine ev_aload_n (pc' := 48) dX5_walk_47 rfl rfl ?_
      refine ev_getf (pc' := 51) fl_5_21 dX5_walk_48 rfl rfl rfl ?_
      refine ev_iconst (pc' := 52) (v := 1) dX5_walk_51 rfl (by decide) ?_
      refine ev_iadd (pc' := 53) dX5_walk_52 rfl ?_
      refine ev_istore (pc' := 55) (ls' := [_, _, _, _, _, _, _, _]) dX5_walk_53 rfl rfl rfl ?_
      refine ev_iload (pc' := 57) dX5_walk_55 rfl rfl ?_
      refine ev_bipush (pc' := 59) (v := 8) dX5_walk_57 rfl (by decide) ?_
      refine ev_icmp_ge (tgt := 143) (pc' := 62) dX5_walk_59 (by decide) rfl (fun h_59 => ?_) (fun h_59 => ?_)
      · refine ev_return rfl dX5_walk_143 ?_
        refine rt_of rfl ?_
        unfold r_walk r_close
        first | (rw [if_pos (Int32.not_le.mp h_33)]; rfl) | rw [if_neg (Int32.not_lt.mpr h_33)]
      · refine ev_iload_n (pc' := 63) dX5_walk_62 rfl rfl ?_
        refine ev_bipush (pc' := 65) (v := 8) dX5_walk_63 rfl (by decide) ?_
        refine ev_icmp_ge (tgt := 143) (pc' := 68) dX5_walk_65 (by decide) rfl (fun h_65 => ?_) (fun h_65 => ?_)
        · refine ev_return rfl dX5_walk_143 ?_
          refine rt_of rfl ?_
          unfold r_walk r_close
          first | (rw [if_pos (Int32.not_le.mp h_33)]; rfl) | rw [if_neg (Int32.not_lt.mpr h_33)]
        · exact absurd (show (8 : Int32) ≤ nI 8 from nI_le (a := 8) (by omega) (by omega)) h_65 --
    · refine ev_aload_n (pc' := 37) dX5_walk_36 rfl rfl ?_
      refine ev_iload_n (pc' := 38) dX5_walk_37 rfl rfl ?_
      refine ev_iload_n (pc' := 39) dX5_walk_38 rfl rfl ?_
      refine ev_iload (pc' := 41) dX5_walk_39 rfl rfl ?_
      refine ev_mmin (pc' := 44) pw_5_59 dX5_walk_41 rfl rfl ?_
      refine ev_cVv2 (pc' := 47) cl_5_65 (k_offer _ _ _) dX5_walk_44 rfl rfl rfl rfl ?_
      refine ev_aload_n (pc' := 48) dX5_walk_47 rfl rfl ?_
      refine ev_getf (pc' := 51) fl_5_21 dX5_walk_48 rfl rfl rfl ?_
      refine ev_iconst (pc' := 52) (v := 1) dX5_walk_51 rfl (by decide) ?_
      refine ev_iadd (pc' := 53) dX5_walk_52 rfl ?_
      refine ev_istore (pc' := 55) (ls' := [_, _, _, _, _, _, _, _]) dX5_walk_53 rfl rfl rfl ?_
      refine ev_iload (pc' := 57) dX5_walk_55 rfl rfl ?_
      refine ev_bipush (pc' := 59) (v := 8) dX5_walk_57 rfl (by decide) ?_
      refine ev_icmp_ge (tgt := 143) (pc' := 62) dX5_walk_59 (by decide) rfl (fun h_59 => ?_) (fun h_59 => ?_)
      · refine ev_return rfl dX5_walk_143 ?_
        refine rt_of rfl ?_
        unfold r_walk r_close
        first | (rw [if_pos (Int32.not_le.mp h_33)]; rfl) | rw [if_neg (Int32.not_lt.mpr h_33)]
      · refine ev_iload_n (pc' := 63) dX5_walk_62 rfl rfl ?_
        refine ev_bipush (pc' := 65) (v := 8) dX5_walk_63 rfl (by decide) ?_
        refine ev_icmp_ge (tgt := 143) (pc' := 68) dX5_walk_65 (by decide) rfl (fun h_65 => ?_) (fun h_65 => ?_)
        · refine ev_return rfl dX5_walk_143 ?_
          refine rt_of rfl ?_
          unfold r_walk r_close
          first | (rw [if_pos (Int32.not_le.mp h_33)]; rfl) | rw [if_neg (Int32.not_lt.mpr h_33)]
        · exact absurd (show (8 : Int32) ≤ nI 8 from nI_le (a := 8) (by omega) (by omega)) h_65 --
  | succ f ih =>
    intro D s size used least σ hs hsz h3 hl hD
    obtain ⟨D, rfl⟩ : ∃ k, D = k + 3 := ⟨D - 3, by omega⟩
    have hW : ∀ (used least : Int32) (σ : RS), σ 0 3 = nI st → 0 < least → Ok (D + 2) M5_walk [.ref 0, .int (nI s + 1), .int used, .int least] (WR σ) (rt none (WR (r_walk st f (nI s + 1) used least σ))) := fun used least σ h hl => ih (D + 2) (s + 1) _ used least σ (by omega) (nI_1 s) h hl (by omega)
    have hk : ∀ (used least : Int32) (σ : RS), σ 0 3 = nI st → (r_walk st f (nI s + 1) used least σ) 0 3 = nI st := fun used least σ h => (r_walk_keep f _ _ _ σ (⟨h, rfl⟩ : r_like (nI st) (σ 1) σ)).1
    refine Ok.of (ls := [some _, some _, some _, some _, none, none, none, none]) (by decide +kernel) (Nat.le_of_ble_eq_true rfl) rfl ?_
    refine ev_aload_n (pc' := 1) dX5_walk_0 rfl rfl ?_
    refine ev_getf (pc' := 4) fl_5_15 dX5_walk_1 rfl rfl rfl ?_
    refine ev_iload_n (pc' := 5) dX5_walk_4 rfl rfl ?_
    refine ev_iconst (pc' := 6) (v := 1) dX5_walk_5 rfl (by decide) ?_
    refine ev_isub (pc' := 7) dX5_walk_6 rfl ?_
    refine ev_cNi2 (pc' := 10) cl_5_40 (k_at rfl (by decide)) dX5_walk_7 rfl rfl ?_
    refine ev_istore (pc' := 12) (ls' := [_, _, _, _, _, _, _, _]) dX5_walk_10 rfl rfl rfl ?_
    refine ev_aload_n (pc' := 13) dX5_walk_12 rfl rfl ?_
    refine ev_getf (pc' := 16) fl_5_9 dX5_walk_13 rfl rfl rfl ?_
    refine ev_iload (pc' := 18) dX5_walk_16 rfl rfl ?_
    refine ev_bipush (pc' := 20) (v := 8) dX5_walk_18 rfl (by decide) ?_
    refine ev_imul (pc' := 21) dX5_walk_20 rfl ?_
    refine ev_aload_n (pc' := 22) dX5_walk_21 rfl rfl ?_
    refine ev_getf (pc' := 25) fl_5_21 dX5_walk_22 rfl rfl rfl ?_
    refine ev_iadd (pc' := 26) dX5_walk_25 rfl ?_
    refine ev_cNi2 (pc' := 29) cl_5_40 (k_at rfl (by decide)) dX5_walk_26 rfl rfl ?_
    refine ev_istore (pc' := 31) (ls' := [_, _, _, _, _, _, _, _]) dX5_walk_29 rfl rfl rfl ?_
    refine ev_iload (pc' := 33) dX5_walk_31 rfl rfl ?_
    refine ev_if_le (tgt := 47) (pc' := 36) dX5_walk_33 (by decide) rfl (fun h_33 => ?_) (fun h_33 => ?_)
    · refine ev_aload_n (pc' := 48) dX5_walk_47 rfl rfl ?_
      refine ev_getf (pc' := 51) fl_5_21 dX5_walk_48 rfl rfl rfl ?_
      refine ev_iconst (pc' := 52) (v := 1) dX5_walk_51 rfl (by decide) ?_
      refine ev_iadd (pc' := 53) dX5_walk_52 rfl ?_
      refine ev_istore (pc' := 55) (ls' := [_, _, _, _, _, _, _, _]) dX5_walk_53 rfl rfl rfl ?_
      unfold r_walk r_close
      first
        | (rw [if_pos (Int32.not_le.mp h_33)]
           have h4 : (r_offer σ size (mn least (atF 64 (σ 1) (atF 8 (σ 2) (size - 1) * 8 + σ 0 3)))) 0 3 = nI st := (r_offer_keep (⟨h3, rfl⟩ : r_like (nI st) (σ 1) σ)).1
           rw [show (r_offer σ size (if atF 64 (σ 1) (atF 8 (σ 2) (size - 1) * 8 + σ 0 3) < least then atF 64 (σ 1) (atF 8 (σ 2) (size - 1) * 8 + σ 0 3) else least)) 0 3 = nI st from h4, nI_1]
           exact k_walk_loop s size used least _ (by omega) hsz hl hW hk _ (7 - st) (st + 1) _ _ (by omega) h4)
        | (rw [if_neg (Int32.not_lt.mpr h_33), h3, nI_1]
           exact k_walk_loop s size used least _ (by omega) hsz hl hW hk _ (7 - st) (st + 1) _ _ (by omega) h3)
    · refine ev_aload_n (pc' := 37) dX5_walk_36 rfl rfl ?_
      refine ev_iload_n (pc' := 38) dX5_walk_37 rfl rfl ?_
      refine ev_iload_n (pc' := 39) dX5_walk_38 rfl rfl ?_
      refine ev_iload (pc' := 41) dX5_walk_39 rfl rfl ?_
      refine ev_mmin (pc' := 44) pw_5_59 dX5_walk_41 rfl rfl ?_
      refine ev_cVv2 (pc' := 47) cl_5_65 (k_offer _ _ _) dX5_walk_44 rfl rfl rfl rfl ?_
      refine ev_aload_n (pc' := 48) dX5_walk_47 rfl rfl ?_
      refine ev_getf (pc' := 51) fl_5_21 dX5_walk_48 rfl rfl rfl ?_
      refine ev_iconst (pc' := 52) (v := 1) dX5_walk_51 rfl (by decide) ?_
      refine ev_iadd (pc' := 53) dX5_walk_52 rfl ?_
      refine ev_istore (pc' := 55) (ls' := [_, _, _, _, _, _, _, _]) dX5_walk_53 rfl rfl rfl ?_
      unfold r_walk r_close
      first
        | (rw [if_pos (Int32.not_le.mp h_33)]
           have h4 : (r_offer σ size (mn least (atF 64 (σ 1) (atF 8 (σ 2) (size - 1) * 8 + σ 0 3)))) 0 3 = nI st := (r_offer_keep (⟨h3, rfl⟩ : r_like (nI st) (σ 1) σ)).1
           rw [show (r_offer σ size (if atF 64 (σ 1) (atF 8 (σ 2) (size - 1) * 8 + σ 0 3) < least then atF 64 (σ 1) (atF 8 (σ 2) (size - 1) * 8 + σ 0 3) else least)) 0 3 = nI st from h4, nI_1]
           exact k_walk_loop s size used least _ (by omega) hsz hl hW hk _ (7 - st) (st + 1) _ _ (by omega) h4)
        | (rw [if_neg (Int32.not_lt.mpr h_33), h3, nI_1]
           exact k_walk_loop s size used least _ (by omega) hsz hl hW hk _ (7 - st) (st + 1) _ _ (by omega) h3)
def r_from (k : Nat) (σ : RS) : RS := r_walk k 7 1 (1 <<< (nI k &&& 31)) 2147483647 (s1 (s2 σ 0 3 (nI k)) 2 (putF 8 ((s2 σ 0 3 (nI k)) 2) 0 (nI k)))
def r_find (σ : RS) : RS := r_for r_from 8 0 (s2 (s2 (s2 σ 0 4 0) 0 5 0) 0 6 0)
theorem k_find_loop {d : Nat} : ∀ (c k : Nat) (σ : RS), k + c = 8 → Ev (d + 16) M5_findFirst (rt (some (.int (bI (decide (0 < (r_for r_from c k σ) 0 4))))) (WR (r_for r_from c k σ))) 17 [some (.ref 0), some (.int (nI k))] [] (WR σ) := by
  intro c
  induction c with
  | zero =>
    intro k σ hc
    have hc : k = 8 := by omega
    subst hc
    refine ev_iload_n (pc' := 18) dX5_findFirst_17 rfl rfl ?_
    refine ev_bipush (pc' := 20) (v := 8) dX5_findFirst_18 rfl (by decide) ?_
    refine ev_icmp_ge (tgt := 53) (pc' := 23) dX5_findFirst_20 (by decide) rfl (fun h_20 => ?_) (fun h_20 => ?_)
    · refine ev_aload_n (pc' := 54) dX5_findFirst_53 rfl rfl ?_
      refine ev_getf (pc' := 57) fl_5_25 dX5_findFirst_54 rfl rfl rfl ?_
      refine ev_if_le (tgt := 64) (pc' := 60) dX5_findFirst_57 (by decide) rfl (fun h_57 => ?_) (fun h_57 => ?_)
      · refine ev_iconst (pc' := 65) (v := 0) dX5_findFirst_64 rfl (by decide) ?_
        refine ev_zreturn rfl rfl dX5_findFirst_65 ?_
        refine rt_i ?_ rfl
        unfold r_for
        first | (rw [decide_eq_true (Int32.not_le.mp h_57)]; rfl) | (rw [decide_eq_false (Int32.not_lt.mpr h_57)]; rfl)
      · refine ev_iconst (pc' := 61) (v := 1) dX5_findFirst_60 rfl (by decide) ?_
        refine ev_goto (tgt := 65) dX5_findFirst_61 (by decide) ?_
        refine ev_zreturn rfl rfl dX5_findFirst_65 ?_
        refine rt_i ?_ rfl
        unfold r_for
        first | (rw [decide_eq_true (Int32.not_le.mp h_57)]; rfl) | (rw [decide_eq_false (Int32.not_lt.mpr h_57)]; rfl)
    · exact absurd (show (8 : Int32) ≤ nI 8 from nI_le (a := 8) (by omega) (by omega)) h_20 --
  | succ c ih =>
    intro k σ hc
    refine ev_iload_n (pc' := 18) dX5_findFirst_17 rfl rfl ?_
    refine ev_bipush (pc' := 20) (v := 8) dX5_findFirst_18 rfl (by decide) ?_
    refine ev_icmp_ge (tgt := 53) (pc' := 23) dX5_findFirst_20 (by decide) rfl (fun h_20 => ?_) (fun h_20 => ?_)
    · exact absurd h_20 (nI_ge (b := 8) (by omega) (by omega)) --
    · refine ev_aload_n (pc' := 24) dX5_findFirst_23 rfl rfl ?_
      refine ev_iload_n (pc' := 25) dX5_findFirst_24 rfl rfl ?_
      refine ev_putf (pc' := 28) fs_5_21 dX5_findFirst_25 rfl rfl (Nat.le_of_ble_eq_true rfl) (fun _ => rfl) (fun _ => rfl) (WR_p5_3 _ _) ?_
      refine ev_aload_n (pc' := 29) dX5_findFirst_28 rfl rfl ?_
      refine ev_getf (pc' := 32) fl_5_15 dX5_findFirst_29 rfl rfl rfl ?_
      refine ev_iconst (pc' := 33) (v := 0) dX5_findFirst_32 rfl (by decide) ?_
      refine ev_iload_n (pc' := 34) dX5_findFirst_33 rfl rfl ?_
      refine ev_cNv3 (pc' := 37) cl_5_48 (k_put rfl (by decide) (WR_a2 _ _)) dX5_findFirst_34 rfl rfl ?_
      refine ev_aload_n (pc' := 38) dX5_findFirst_37 rfl rfl ?_
      refine ev_iconst (pc' := 39) (v := 1) dX5_findFirst_38 rfl (by decide) ?_
      refine ev_iconst (pc' := 40) (v := 1) dX5_findFirst_39 rfl (by decide) ?_
      refine ev_iload_n (pc' := 41) dX5_findFirst_40 rfl rfl ?_
      refine ev_ishl (pc' := 42) dX5_findFirst_41 rfl ?_
      refine ev_ldc (pc' := 44) cn_5_54 dX5_findFirst_42 rfl ?_
      refine ev_cVv3 (pc' := 47) cl_5_55 (k_walk (by omega) 7 _ 1 1 _ _ _ rfl rfl rfl (by decide) (by omega)) dX5_findFirst_44 rfl rfl rfl rfl ?_
      refine ev_iinc (pc' := 50) (ls' := [_, _]) dX5_findFirst_47 rfl rfl rfl rfl rfl ?_
      refine ev_goto (tgt := 17) dX5_findFirst_50 (by decide) ?_
      rw [nI_p1]
      exact ih (k + 1) _ (by omega)
theorem k_findFirst {d : Nat} (σ : RS) : Ok (d + 16) M5_findFirst [.ref 0] (WR σ) (rt (some (.int (bI (decide (0 < (r_find σ) 0 4))))) (WR (r_find σ))) := by
  refine Ok.of (ls := [some _, none]) (by decide +kernel) (Nat.le_of_ble_eq_true rfl) rfl ?_
  refine ev_aload_n (pc' := 1) dX5_findFirst_0 rfl rfl ?_
  refine ev_iconst (pc' := 2) (v := 0) dX5_findFirst_1 rfl (by decide) ?_
  refine ev_putf (pc' := 5) fs_5_25 dX5_findFirst_2 rfl rfl (Nat.le_of_ble_eq_true rfl) (fun _ => rfl) (fun _ => rfl) (WR_p5_4 _ _) ?_
  refine ev_aload_n (pc' := 6) dX5_findFirst_5 rfl rfl ?_
  refine ev_iconst (pc' := 7) (v := 0) dX5_findFirst_6 rfl (by decide) ?_
  refine ev_putf (pc' := 10) fs_5_28 dX5_findFirst_7 rfl rfl (Nat.le_of_ble_eq_true rfl) (fun _ => rfl) (fun _ => rfl) (WR_p5_5 _ _) ?_
  refine ev_aload_n (pc' := 11) dX5_findFirst_10 rfl rfl ?_
  refine ev_iconst (pc' := 12) (v := 0) dX5_findFirst_11 rfl (by decide) ?_
  refine ev_putf (pc' := 15) fs_5_31 dX5_findFirst_12 rfl rfl (Nat.le_of_ble_eq_true rfl) (fun _ => rfl) (fun _ => rfl) (WR_p5_6 _ _) ?_
  refine ev_iconst (pc' := 16) (v := 0) dX5_findFirst_15 rfl (by decide) ?_
  refine ev_istore_n (pc' := 17) (ls' := [_, _]) dX5_findFirst_16 rfl rfl rfl ?_
  exact k_find_loop 8 0 _ rfl
/-- a ring has eight at most -/
def r_few (σ : RS) : Prop := ∃ m : Nat, m ≤ 8 ∧ σ 0 4 = nI m
theorem r_close_few {s : Nat} {least last : Int32} {σ : RS} (hs : s ≤ 8) (h : r_few σ) : r_few (r_close (nI s) least last σ) := by
  unfold r_close
  split
  · unfold r_offer
    split
    · exact ⟨s, hs, rfl⟩
    · exact h
  · exact h
theorem r_walk_few {st : Nat} : ∀ (f s : Nat) (size used least : Int32) (σ : RS), s + f = 8 → size = nI s → r_few σ → r_few (r_walk st f size used least σ) := by
  intro f
  induction f with
  | zero => intro s size used least σ hs hz h; subst hz; exact r_close_few (by omega) h
  | succ f ih =>
    intro s size used least σ hs hz h
    subst hz
    refine r_for_keep (P := r_few) (fun k σ h => ?_) _ _ _ (r_close_few (by omega) h)
    unfold r_try
    split
    · unfold r_step
      split
      · exact ih (s + 1) _ _ _ _ (by omega) (nI_1 s) h
      · exact h
    · exact h
theorem r_find_few (σ : RS) : r_few (r_find σ) := by
  refine r_for_keep (P := r_few) (fun k σ h => ?_) _ _ _ ⟨0, by omega, rfl⟩
  exact r_walk_few 7 1 _ _ _ _ rfl rfl h
theorem r_find_sums (σ : RS) : (r_find σ) 1 = σ 1 := by
  refine r_for_keep (P := fun τ => τ 1 = σ 1) (fun k τ h => ?_) _ _ _ rfl
  exact (r_walk_keep 7 _ _ _ _ (⟨rfl, rfl⟩ : r_like _ _ _)).2.trans h
def r_meet1 (k : Nat) (σ : RS) : RS :=
  let p := atF 8 (σ 3) (nI k) * 8 + (if nI k + 1 < σ 0 4 then atF 8 (σ 3) (nI k + 1) else atF 8 (σ 3) 0)
  s1 σ 1 (putF 64 (σ 1) p (atF 64 (σ 1) p - σ 0 5))
def r_round (σ : RS) : RS := r_for r_meet1 (σ 0 4).toNatClampNeg 0 σ
def r_meet : Nat → RS → RS
  | 0, σ => σ
  | c + 1, σ => if 0 < (r_find σ) 0 4 then r_meet c (r_round (r_find σ)) else r_find σ
theorem k_meet_in {d : Nat} {Q : Option Value → MW → Prop} (t : Int32) (σF : RS) (kk : ∀ (z2 z3 z4 : Option Value), Ev (d + 17) M5_meetAll Q 101 [some (.ref 0), some (.int t), z2, z3, z4] [] (WR σF)) : ∀ (c k : Nat) (z3 z4 : Option Value) (σ : RS), σ 0 4 = nI (k + c) → k + c ≤ 8 → r_for r_meet1 c k σ = σF → Ev (d + 17) M5_meetAll Q 17 [some (.ref 0), some (.int t), some (.int (nI k)), z3, z4] [] (WR σ) := by
  intro c
  induction c with
  | zero =>
    intro k z3 z4 σ h4 hk hF
    subst hF
    refine ev_iload_n (pc' := 18) dX5_meetAll_17 rfl rfl ?_
    refine ev_aload_n (pc' := 19) dX5_meetAll_18 rfl rfl ?_
    refine ev_getf (pc' := 22) fl_5_25 dX5_meetAll_19 rfl rfl rfl ?_
    refine ev_icmp_ge (tgt := 101) (pc' := 25) dX5_meetAll_22 (by decide) rfl (fun h_22 => ?_) (fun h_22 => ?_)
    · exact kk _ _ _ --
    · exact absurd (show σ 0 4 ≤ nI k by rw [h4]; exact nI_le (by omega) (by omega)) h_22 --
  | succ c ih =>
    intro k z3 z4 σ h4 hk hF
    rw [r_for] at hF
    have hn : nI k + 1 = nI (k + 1) := nI_1 k
    refine ev_iload_n (pc' := 18) dX5_meetAll_17 rfl rfl ?_
    refine ev_aload_n (pc' := 19) dX5_meetAll_18 rfl rfl ?_
    refine ev_getf (pc' := 22) fl_5_25 dX5_meetAll_19 rfl rfl rfl ?_
    refine ev_icmp_ge (tgt := 101) (pc' := 25) dX5_meetAll_22 (by decide) rfl (fun h_22 => ?_) (fun h_22 => ?_)
    · exact absurd h_22 (by rw [h4]; exact nI_ge (by omega) (by omega)) --
    · refine ev_iload_n (pc' := 26) dX5_meetAll_25 rfl rfl ?_
      refine ev_iconst (pc' := 27) (v := 1) dX5_meetAll_26 rfl (by decide) ?_
      refine ev_iadd (pc' := 28) dX5_meetAll_27 rfl ?_
      refine ev_aload_n (pc' := 29) dX5_meetAll_28 rfl rfl ?_
      refine ev_getf (pc' := 32) fl_5_25 dX5_meetAll_29 rfl rfl rfl ?_
      refine ev_icmp_ge (tgt := 48) (pc' := 35) dX5_meetAll_32 (by decide) rfl (fun h_32 => ?_) (fun h_32 => ?_)
      · refine ev_aload_n (pc' := 49) dX5_meetAll_48 rfl rfl ?_
        refine ev_getf (pc' := 52) fl_5_18 dX5_meetAll_49 rfl rfl rfl ?_
        refine ev_iconst (pc' := 53) (v := 0) dX5_meetAll_52 rfl (by decide) ?_
        refine ev_cNi2 (pc' := 56) cl_5_40 (k_at rfl (by decide)) dX5_meetAll_53 rfl rfl ?_
        refine ev_istore_n (pc' := 57) (ls' := [_, _, _, _, _]) dX5_meetAll_56 rfl rfl rfl ?_
        refine ev_aload_n (pc' := 58) dX5_meetAll_57 rfl rfl ?_
        refine ev_getf (pc' := 61) fl_5_18 dX5_meetAll_58 rfl rfl rfl ?_
        refine ev_iload_n (pc' := 62) dX5_meetAll_61 rfl rfl ?_
        refine ev_cNi2 (pc' := 65) cl_5_40 (k_at rfl (by decide)) dX5_meetAll_62 rfl rfl ?_
        refine ev_bipush (pc' := 67) (v := 8) dX5_meetAll_65 rfl (by decide) ?_
        refine ev_imul (pc' := 68) dX5_meetAll_67 rfl ?_
        refine ev_iload_n (pc' := 69) dX5_meetAll_68 rfl rfl ?_
        refine ev_iadd (pc' := 70) dX5_meetAll_69 rfl ?_
        refine ev_istore (pc' := 72) (ls' := [_, _, _, _, _]) dX5_meetAll_70 rfl rfl rfl ?_
        refine ev_aload_n (pc' := 73) dX5_meetAll_72 rfl rfl ?_
        refine ev_getf (pc' := 76) fl_5_9 dX5_meetAll_73 rfl rfl rfl ?_
        refine ev_iload (pc' := 78) dX5_meetAll_76 rfl rfl ?_
        refine ev_aload_n (pc' := 79) dX5_meetAll_78 rfl rfl ?_
        refine ev_getf (pc' := 82) fl_5_9 dX5_meetAll_79 rfl rfl rfl ?_
        refine ev_iload (pc' := 84) dX5_meetAll_82 rfl rfl ?_
        refine ev_cNi2 (pc' := 87) cl_5_40 (k_at rfl (by decide)) dX5_meetAll_84 rfl rfl ?_
        refine ev_aload_n (pc' := 88) dX5_meetAll_87 rfl rfl ?_
        refine ev_getf (pc' := 91) fl_5_28 dX5_meetAll_88 rfl rfl rfl ?_
        refine ev_isub (pc' := 92) dX5_meetAll_91 rfl ?_
        refine ev_cNv3 (pc' := 95) cl_5_48 (k_put rfl (by decide) (WR_a1 _ _)) dX5_meetAll_92 rfl rfl ?_
        refine ev_iinc (pc' := 98) (ls' := [_, _, _, _, _]) dX5_meetAll_95 rfl rfl rfl rfl rfl ?_
        refine ev_goto (tgt := 17) dX5_meetAll_98 (by decide) ?_
        rw [nI_p1]
        refine ih (k + 1) _ _ _ (by show σ 0 4 = _; rw [h4, show k + 1 + c = k + (c + 1) by omega]) (by omega) ?_
        rw [← hF]
        congr 1
        unfold r_meet1
        first | (rw [if_neg (Int32.not_lt.mpr h_32)]; done) | (rw [if_pos (Int32.not_le.mp h_32)]; done)
      · refine ev_aload_n (pc' := 36) dX5_meetAll_35 rfl rfl ?_
        refine ev_getf (pc' := 39) fl_5_18 dX5_meetAll_36 rfl rfl rfl ?_
        refine ev_iload_n (pc' := 40) dX5_meetAll_39 rfl rfl ?_
        refine ev_iconst (pc' := 41) (v := 1) dX5_meetAll_40 rfl (by decide) ?_
        refine ev_iadd (pc' := 42) dX5_meetAll_41 rfl ?_
        refine ev_cNi2 (pc' := 45) cl_5_40 (k_at rfl (by decide)) dX5_meetAll_42 rfl rfl ?_
        refine ev_goto (tgt := 56) dX5_meetAll_45 (by decide) ?_
        refine ev_istore_n (pc' := 57) (ls' := [_, _, _, _, _]) dX5_meetAll_56 rfl rfl rfl ?_
        refine ev_aload_n (pc' := 58) dX5_meetAll_57 rfl rfl ?_
        refine ev_getf (pc' := 61) fl_5_18 dX5_meetAll_58 rfl rfl rfl ?_
        refine ev_iload_n (pc' := 62) dX5_meetAll_61 rfl rfl ?_
        refine ev_cNi2 (pc' := 65) cl_5_40 (k_at rfl (by decide)) dX5_meetAll_62 rfl rfl ?_
        refine ev_bipush (pc' := 67) (v := 8) dX5_meetAll_65 rfl (by decide) ?_
        refine ev_imul (pc' := 68) dX5_meetAll_67 rfl ?_
        refine ev_iload_n (pc' := 69) dX5_meetAll_68 rfl rfl ?_
        refine ev_iadd (pc' := 70) dX5_meetAll_69 rfl ?_
        refine ev_istore (pc' := 72) (ls' := [_, _, _, _, _]) dX5_meetAll_70 rfl rfl rfl ?_
        refine ev_aload_n (pc' := 73) dX5_meetAll_72 rfl rfl ?_
        refine ev_getf (pc' := 76) fl_5_9 dX5_meetAll_73 rfl rfl rfl ?_
        refine ev_iload (pc' := 78) dX5_meetAll_76 rfl rfl ?_
        refine ev_aload_n (pc' := 79) dX5_meetAll_78 rfl rfl ?_
        refine ev_getf (pc' := 82) fl_5_9 dX5_meetAll_79 rfl rfl rfl ?_
        refine ev_iload (pc' := 84) dX5_meetAll_82 rfl rfl ?_
        refine ev_cNi2 (pc' := 87) cl_5_40 (k_at rfl (by decide)) dX5_meetAll_84 rfl rfl ?_
        refine ev_aload_n (pc' := 88) dX5_meetAll_87 rfl rfl ?_
        refine ev_getf (pc' := 91) fl_5_28 dX5_meetAll_88 rfl rfl rfl ?_
        refine ev_isub (pc' := 92) dX5_meetAll_91 rfl ?_
        refine ev_cNv3 (pc' := 95) cl_5_48 (k_put rfl (by decide) (WR_a1 _ _)) dX5_meetAll_92 rfl rfl ?_
        refine ev_iinc (pc' := 98) (ls' := [_, _, _, _, _]) dX5_meetAll_95 rfl rfl rfl rfl rfl ?_
        refine ev_goto (tgt := 17) dX5_meetAll_98 (by decide) ?_
        rw [nI_p1]
        refine ih (k + 1) _ _ _ (by show σ 0 4 = _; rw [h4, show k + 1 + c = k + (c + 1) by omega]) (by omega) ?_
        rw [← hF]
        congr 1
        unfold r_meet1
        first | (rw [if_neg (Int32.not_lt.mpr h_32)]; done) | (rw [if_pos (Int32.not_le.mp h_32)]; done)
theorem k_meet_out {d : Nat} : ∀ (c k : Nat) (z2 z3 z4 : Option Value) (σ : RS), k + c = 64 → Ev (d + 17) M5_meetAll (rt none (WR (r_meet c σ))) 2 [some (.ref 0), some (.int (nI k)), z2, z3, z4] [] (WR σ) := by
  intro c
  induction c with
  | zero =>
    intro k z2 z3 z4 σ hc
    have hc : k = 64 := by omega
    subst hc
    refine ev_iload_n (pc' := 3) dX5_meetAll_2 rfl rfl ?_
    refine ev_bipush (pc' := 5) (v := 64) dX5_meetAll_3 rfl (by decide) ?_
    refine ev_icmp_ge (tgt := 107) (pc' := 8) dX5_meetAll_5 (by decide) rfl (fun h_5 => ?_) (fun h_5 => ?_)
    · refine ev_return rfl dX5_meetAll_107 ?_
      exact ⟨rfl, rfl⟩
    · exact absurd (show (64 : Int32) ≤ nI 64 from nI_le (a := 64) (by omega) (by omega)) h_5 --
  | succ c ih =>
    intro k z2 z3 z4 σ hc
    obtain ⟨m, hm, h4⟩ := r_find_few σ
    have hr : r_round (r_find σ) = r_for r_meet1 m 0 (r_find σ) := by unfold r_round; rw [h4, nI_clamp (by omega)]
    refine ev_iload_n (pc' := 3) dX5_meetAll_2 rfl rfl ?_
    refine ev_bipush (pc' := 5) (v := 64) dX5_meetAll_3 rfl (by decide) ?_
    refine ev_icmp_ge (tgt := 107) (pc' := 8) dX5_meetAll_5 (by decide) rfl (fun h_5 => ?_) (fun h_5 => ?_)
    · exact absurd h_5 (nI_ge (b := 64) (by omega) (by omega)) --
    · refine ev_aload_n (pc' := 9) dX5_meetAll_8 rfl rfl ?_
      refine ev_cVi0 (pc' := 12) cl_5_44 (k_findFirst _) dX5_meetAll_9 rfl rfl rfl rfl ?_
      refine ev_if_eq (tgt := 107) (pc' := 15) dX5_meetAll_12 (by decide) rfl (fun h_12 => ?_) (fun h_12 => ?_)
      · rw [bI_0, decide_eq_false_iff_not] at h_12
        rw [r_meet, if_neg h_12]
        refine ev_return rfl dX5_meetAll_107 ?_
        exact ⟨rfl, rfl⟩
      · rw [bI_0, decide_eq_false_iff_not, Classical.not_not] at h_12
        rw [r_meet, if_pos h_12]
        refine ev_iconst (pc' := 16) (v := 0) dX5_meetAll_15 rfl (by decide) ?_
        refine ev_istore_n (pc' := 17) (ls' := [_, _, _, _, _]) dX5_meetAll_16 rfl rfl rfl ?_
        refine k_meet_in _ (r_round (r_find σ)) (fun z2 z3 z4 => ?_) m 0 _ _ _ (by rw [h4, Nat.zero_add]) (by omega) hr.symm
        refine ev_iinc (pc' := 104) (ls' := [_, _, _, _, _]) dX5_meetAll_101 rfl rfl rfl rfl rfl ?_
        refine ev_goto (tgt := 2) dX5_meetAll_104 (by decide) ?_
        rw [nI_p1]
        exact ih (k + 1) _ _ _ _ (by omega)
theorem k_meetAll {d : Nat} (σ : RS) : Ok (d + 17) M5_meetAll [.ref 0] (WR σ) (rt none (WR (r_meet 64 σ))) := by
  refine Ok.of (ls := [some _, none, none, none, none]) (by decide +kernel) (Nat.le_of_ble_eq_true rfl) rfl ?_
  refine ev_iconst (pc' := 1) (v := 0) dX5_meetAll_0 rfl (by decide) ?_
  refine ev_istore_n (pc' := 2) (ls' := [_, _, _, _, _]) dX5_meetAll_1 rfl rfl rfl ?_
  exact k_meet_out 64 0 _ _ _ _ rfl
