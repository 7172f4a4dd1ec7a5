/-! RINGS (class 5). Its world: the object (start 3, ringSize 4, ringLeast 5, ringMet 6), sums, path, ring. -/
def WR (σ : Nat → Nat → Int32) : MW := [.inr (5, [.ref 1, .ref 2, .ref 3, .int (σ 0 3), .int (σ 0 4), .int (σ 0 5), .int (σ 0 6)]), .inl (.int, 64, .inl (σ 1)), .inl (.int, 8, .inl (σ 2)), .inl (.int, 8, .inl (σ 3))]
theorem WR_p5_3 (σ : Nat → Nat → Int32) (v : Int32) : (WR σ).set 0 (.inr (5, [.ref 1, .ref 2, .ref 3, .int (σ 0 3), .int (σ 0 4), .int (σ 0 5), .int (σ 0 6)].set 3 (.int v))) = WR (s2 σ 0 3 v) := rfl
theorem WR_p5_4 (σ : Nat → Nat → Int32) (v : Int32) : (WR σ).set 0 (.inr (5, [.ref 1, .ref 2, .ref 3, .int (σ 0 3), .int (σ 0 4), .int (σ 0 5), .int (σ 0 6)].set 4 (.int v))) = WR (s2 σ 0 4 v) := rfl
theorem WR_p5_5 (σ : Nat → Nat → Int32) (v : Int32) : (WR σ).set 0 (.inr (5, [.ref 1, .ref 2, .ref 3, .int (σ 0 3), .int (σ 0 4), .int (σ 0 5), .int (σ 0 6)].set 5 (.int v))) = WR (s2 σ 0 5 v) := rfl
theorem WR_p5_6 (σ : Nat → Nat → Int32) (v : Int32) : (WR σ).set 0 (.inr (5, [.ref 1, .ref 2, .ref 3, .int (σ 0 3), .int (σ 0 4), .int (σ 0 5), .int (σ 0 6)].set 6 (.int v))) = WR (s2 σ 0 6 v) := rfl
theorem WR_a1 (σ : Nat → Nat → Int32) (g : Nat → Int32) : (WR σ).set 1 (.inl (.int, 64, .inl g)) = WR (s1 σ 1 g) := rfl
theorem WR_a2 (σ : Nat → Nat → Int32) (g : Nat → Int32) : (WR σ).set 2 (.inl (.int, 8, .inl g)) = WR (s1 σ 2 g) := rfl
theorem WR_a3 (σ : Nat → Nat → Int32) (g : Nat → Int32) : (WR σ).set 3 (.inl (.int, 8, .inl g)) = WR (s1 σ 3 g) := rfl
def WRD (σ : Nat → Nat → Int32) : MW := [.inr (5, [.ref 1, .ref 2, .ref 3, .int (σ 0 3), .int (σ 0 4), .int (σ 0 5), .int (σ 0 6)]), .inl (.int, 64, .inl (σ 1)), .inl (.int, 8, .inl (σ 2)), .inl (.int, 8, .inl (σ 3)), .inl (.int, 7744, .inl (σ 4))]
theorem WRD_p5_3 (σ : Nat → Nat → Int32) (v : Int32) : (WRD σ).set 0 (.inr (5, [.ref 1, .ref 2, .ref 3, .int (σ 0 3), .int (σ 0 4), .int (σ 0 5), .int (σ 0 6)].set 3 (.int v))) = WRD (s2 σ 0 3 v) := rfl
theorem WRD_p5_4 (σ : Nat → Nat → Int32) (v : Int32) : (WRD σ).set 0 (.inr (5, [.ref 1, .ref 2, .ref 3, .int (σ 0 3), .int (σ 0 4), .int (σ 0 5), .int (σ 0 6)].set 4 (.int v))) = WRD (s2 σ 0 4 v) := rfl
theorem WRD_p5_5 (σ : Nat → Nat → Int32) (v : Int32) : (WRD σ).set 0 (.inr (5, [.ref 1, .ref 2, .ref 3, .int (σ 0 3), .int (σ 0 4), .int (σ 0 5), .int (σ 0 6)].set 5 (.int v))) = WRD (s2 σ 0 5 v) := rfl
theorem WRD_p5_6 (σ : Nat → Nat → Int32) (v : Int32) : (WRD σ).set 0 (.inr (5, [.ref 1, .ref 2, .ref 3, .int (σ 0 3), .int (σ 0 4), .int (σ 0 5), .int (σ 0 6)].set 6 (.int v))) = WRD (s2 σ 0 6 v) := rfl
theorem WRD_a1 (σ : Nat → Nat → Int32) (g : Nat → Int32) : (WRD σ).set 1 (.inl (.int, 64, .inl g)) = WRD (s1 σ 1 g) := rfl
theorem WRD_a2 (σ : Nat → Nat → Int32) (g : Nat → Int32) : (WRD σ).set 2 (.inl (.int, 8, .inl g)) = WRD (s1 σ 2 g) := rfl
theorem WRD_a3 (σ : Nat → Nat → Int32) (g : Nat → Int32) : (WRD σ).set 3 (.inl (.int, 8, .inl g)) = WRD (s1 σ 3 g) := rfl
theorem WRD_a4 (σ : Nat → Nat → Int32) (g : Nat → Int32) : (WRD σ).set 4 (.inl (.int, 7744, .inl g)) = WRD (s1 σ 4 g) := rfl
def mn (a b : Int32) : Int32 := if b < a then b else a
theorem r_load {d : Nat} (σ : Nat → Nat → Int32) (k : Nat) (hk : k + 64 ≤ 7744) : Ok d M5_load [.ref 0, .ref 4, .int (nI k)] (WRD σ) (rt none (WRD (s1 σ 1 (va_cpy (σ 4) (σ 1) k 0 64)))) := by
  have e1 : (nI k).toNatClampNeg = k := nI_clamp (by omega)
  have e2 : (64 : Int32).toNatClampNeg = 64 := by decide
  have e3 : (0 : Int32).toNatClampNeg = 0 := by decide
  refine Ok.of (ls := [some _, some _, some _]) (by decide +kernel) (Nat.le_of_ble_eq_true rfl) rfl ?_
  refine ev_iload_n (pc' := 1) dX5_load_0 rfl rfl ?_
  refine ev_if_lt (tgt := 25) (pc' := 4) dX5_load_1 (by decide) rfl (fun h_1 => ?_) (fun h_1 => ?_)
  · exact absurd h_1 (nI_pos (by omega)) --
  · refine ev_iload_n (pc' := 5) dX5_load_4 rfl rfl ?_
    refine ev_bipush (pc' := 7) (v := 64) dX5_load_5 rfl (by decide) ?_
    refine ev_iadd (pc' := 8) dX5_load_7 rfl ?_
    refine ev_aload_n (pc' := 9) dX5_load_8 rfl rfl ?_
    refine ev_alen (pc' := 10) (t := 0) dX5_load_9 rfl rfl rfl rfl ?_
    refine ev_icmp_gt (tgt := 25) (pc' := 13) dX5_load_10 (by decide) rfl (fun h_10 => ?_) (fun h_10 => ?_)
    · exact absurd h_10 (by show ¬ (nI 7744 < nI k + nI 64); rw [nI_add]; exact nI_nlt (by omega) (by omega)) --
    · refine ev_aload_n (pc' := 14) dX5_load_13 rfl rfl ?_
      refine ev_iload_n (pc' := 15) dX5_load_14 rfl rfl ?_
      refine ev_aload_n (pc' := 16) dX5_load_15 rfl rfl ?_
      refine ev_getf (pc' := 19) fl_5_9 dX5_load_16 rfl rfl rfl ?_
      refine ev_iconst (pc' := 20) (v := 0) dX5_load_19 rfl (by decide) ?_
      refine ev_bipush (pc' := 22) (v := 64) dX5_load_20 rfl (by decide) ?_
      refine ev_copy (pc' := 25) pw_5_34 dX5_load_22 rfl (r0 := 4) (r1 := 1) rfl rfl (nI_pos (by omega)) (by decide) (by decide) (by rw [e1, e2]; omega) (by rw [e2, e3]; omega) rfl rfl ?_
      refine ev_return rfl dX5_load_25 ?_
      rw [e1, e2, e3]
      exact ⟨rfl, rfl⟩
theorem r_store {d : Nat} (σ : Nat → Nat → Int32) (k : Nat) (hk : k + 64 ≤ 7744) : Ok d M5_store [.ref 0, .ref 4, .int (nI k)] (WRD σ) (rt none (WRD (s1 σ 4 (va_cpy (σ 1) (σ 4) 0 k 64)))) := by
  have e1 : (nI k).toNatClampNeg = k := nI_clamp (by omega)
  have e2 : (64 : Int32).toNatClampNeg = 64 := by decide
  have e3 : (0 : Int32).toNatClampNeg = 0 := by decide
  refine Ok.of (ls := [some _, some _, some _]) (by decide +kernel) (Nat.le_of_ble_eq_true rfl) rfl ?_
  refine ev_iload_n (pc' := 1) dX5_store_0 rfl rfl ?_
  refine ev_if_lt (tgt := 25) (pc' := 4) dX5_store_1 (by decide) rfl (fun h_1 => ?_) (fun h_1 => ?_)
  · exact absurd h_1 (nI_pos (by omega)) --
  · refine ev_iload_n (pc' := 5) dX5_store_4 rfl rfl ?_
    refine ev_bipush (pc' := 7) (v := 64) dX5_store_5 rfl (by decide) ?_
    refine ev_iadd (pc' := 8) dX5_store_7 rfl ?_
    refine ev_aload_n (pc' := 9) dX5_store_8 rfl rfl ?_
    refine ev_alen (pc' := 10) (t := 0) dX5_store_9 rfl rfl rfl rfl ?_
    refine ev_icmp_gt (tgt := 25) (pc' := 13) dX5_store_10 (by decide) rfl (fun h_10 => ?_) (fun h_10 => ?_)
    · exact absurd h_10 (by show ¬ (nI 7744 < nI k + nI 64); rw [nI_add]; exact nI_nlt (by omega) (by omega)) --
    · refine ev_aload_n (pc' := 14) dX5_store_13 rfl rfl ?_
      refine ev_getf (pc' := 17) fl_5_9 dX5_store_14 rfl rfl rfl ?_
      refine ev_iconst (pc' := 18) (v := 0) dX5_store_17 rfl (by decide) ?_
      refine ev_aload_n (pc' := 19) dX5_store_18 rfl rfl ?_
      refine ev_iload_n (pc' := 20) dX5_store_19 rfl rfl ?_
      refine ev_bipush (pc' := 22) (v := 64) dX5_store_20 rfl (by decide) ?_
      refine ev_copy (pc' := 25) pw_5_34 dX5_store_22 rfl (r0 := 1) (r1 := 4) rfl rfl (by decide) (nI_pos (by omega)) (by decide) (by rw [e2, e3]; omega) (by rw [e1, e2]; omega) rfl rfl ?_
      refine ev_return rfl dX5_store_25 ?_
      rw [e1, e2, e3]
      exact ⟨rfl, rfl⟩
/-- the sum of the first k of a row -/
def sumTo (f : Nat → Int32) : Nat → Int32
  | 0 => 0
  | k + 1 => sumTo f k + f k
theorem r_sum_loop {d : Nat} (σ : Nat → Nat → Int32) : ∀ (c k : Nat) (z : Option Value), k + c = 64 → Ev d M5_sumOfAll (rt (some (.int (sumTo (σ 1) 64))) (WR σ)) 13 [some (.ref 0), some (.int (sumTo (σ 1) k)), some (.ref 1), some (.int 64), some (.int (nI k)), z] [] (WR σ) := by
  intro c
  induction c with
  | zero =>
    intro k z hk
    have hk : k = 64 := by omega
    subst hk
    refine ev_iload (pc' := 15) dX5_sumOfAll_13 rfl rfl ?_
    refine ev_iload_n (pc' := 16) dX5_sumOfAll_15 rfl rfl ?_
    refine ev_icmp_ge (tgt := 36) (pc' := 19) dX5_sumOfAll_16 (by decide) rfl (fun h_16 => ?_) (fun h_16 => ?_)
    · refine ev_iload_n (pc' := 37) dX5_sumOfAll_36 rfl rfl ?_
      refine ev_ireturn rfl dX5_sumOfAll_37 ?_
      exact ⟨rfl, rfl⟩
    · exact absurd (show nI 64 ≤ nI 64 from nI_le (by omega) (by omega)) h_16 --
  | succ c ih =>
    intro k z hk
    have hi : vp_in (nI k) 64 := vp_in_nI (by omega) (by omega)
    have e1 : (nI k).toNatClampNeg = k := nI_clamp (by omega)
    refine ev_iload (pc' := 15) dX5_sumOfAll_13 rfl rfl ?_
    refine ev_iload_n (pc' := 16) dX5_sumOfAll_15 rfl rfl ?_
    refine ev_icmp_ge (tgt := 36) (pc' := 19) dX5_sumOfAll_16 (by decide) rfl (fun h_16 => ?_) (fun h_16 => ?_)
    · exact absurd h_16 (nI_ge (b := 64) (by omega) (by omega)) --
    · refine ev_aload_n (pc' := 20) dX5_sumOfAll_19 rfl rfl ?_
      refine ev_iload (pc' := 22) dX5_sumOfAll_20 rfl rfl ?_
      refine ev_iald (pc' := 23) dX5_sumOfAll_22 rfl rfl ?_ ?_
      · exact hi
      rw [e1]
      refine ev_istore (pc' := 25) (ls' := [_, _, _, _, _, _]) dX5_sumOfAll_23 rfl rfl rfl ?_
      refine ev_iload_n (pc' := 26) dX5_sumOfAll_25 rfl rfl ?_
      refine ev_iload (pc' := 28) dX5_sumOfAll_26 rfl rfl ?_
      refine ev_iadd (pc' := 29) dX5_sumOfAll_28 rfl ?_
      refine ev_istore_n (pc' := 30) (ls' := [_, _, _, _, _, _]) dX5_sumOfAll_29 rfl rfl rfl ?_
      refine ev_iinc (pc' := 33) (ls' := [_, _, _, _, _, _]) dX5_sumOfAll_30 rfl rfl rfl rfl rfl ?_
      refine ev_goto (tgt := 13) dX5_sumOfAll_33 (by decide) ?_
      rw [nI_p1]
      exact ih (k + 1) _ (by omega)
theorem r_sumOfAll {d : Nat} (σ : Nat → Nat → Int32) : Ok d M5_sumOfAll [.ref 0] (WR σ) (rt (some (.int (sumTo (σ 1) 64))) (WR σ)) := by
  refine Ok.of (ls := [some _, none, none, none, none, none]) (by decide +kernel) (Nat.le_of_ble_eq_true rfl) rfl ?_
  refine ev_iconst (pc' := 1) (v := 0) dX5_sumOfAll_0 rfl (by decide) ?_
  refine ev_istore_n (pc' := 2) (ls' := [_, _, _, _, _, _]) dX5_sumOfAll_1 rfl rfl rfl ?_
  refine ev_aload_n (pc' := 3) dX5_sumOfAll_2 rfl rfl ?_
  refine ev_getf (pc' := 6) fl_5_9 dX5_sumOfAll_3 rfl rfl rfl ?_
  refine ev_astore_n (pc' := 7) (ls' := [_, _, _, _, _, _]) dX5_sumOfAll_6 rfl rfl rfl ?_
  refine ev_aload_n (pc' := 8) dX5_sumOfAll_7 rfl rfl ?_
  refine ev_alen (pc' := 9) (t := 0) dX5_sumOfAll_8 rfl rfl rfl rfl ?_
  refine ev_istore_n (pc' := 10) (ls' := [_, _, _, _, _, _]) dX5_sumOfAll_9 rfl rfl rfl ?_
  refine ev_iconst (pc' := 11) (v := 0) dX5_sumOfAll_10 rfl (by decide) ?_
  refine ev_istore (pc' := 13) (ls' := [_, _, _, _, _, _]) dX5_sumOfAll_11 rfl rfl rfl ?_
  exact r_sum_loop σ 64 0 _ rfl
theorem r_link {d : Nat} (σ : Nat → Nat → Int32) (i : Int32) : Ok (d + 1) M5_link [.ref 0, .int i] (WR σ) (rt (some (.int (if 0 ≤ i ∧ i < σ 0 4 then atF 8 (σ 3) i else -1))) (WR σ)) := by
  refine Ok.of (ls := [some _, some _]) (by decide +kernel) (Nat.le_of_ble_eq_true rfl) rfl ?_
  refine ev_iload_n (pc' := 1) dX5_link_0 rfl rfl ?_
  refine ev_if_lt (tgt := 23) (pc' := 4) dX5_link_1 (by decide) rfl (fun h_1 => ?_) (fun h_1 => ?_)
  · refine ev_iconst (pc' := 24) (v := -1) dX5_link_23 rfl (by decide) ?_
    refine ev_ireturn rfl dX5_link_24 ?_
    refine rt_i ?_ rfl
    simp only [fa_lt, fa_le, Int32.toInt_zero] at *
    first | (rw [if_pos (by omega)]; done) | (rw [if_neg (by omega)]; done)
  · refine ev_iload_n (pc' := 5) dX5_link_4 rfl rfl ?_
    refine ev_aload_n (pc' := 6) dX5_link_5 rfl rfl ?_
    refine ev_getf (pc' := 9) fl_5_25 dX5_link_6 rfl rfl rfl ?_
    refine ev_icmp_ge (tgt := 23) (pc' := 12) dX5_link_9 (by decide) rfl (fun h_9 => ?_) (fun h_9 => ?_)
    · refine ev_iconst (pc' := 24) (v := -1) dX5_link_23 rfl (by decide) ?_
      refine ev_ireturn rfl dX5_link_24 ?_
      refine rt_i ?_ rfl
      simp only [fa_lt, fa_le, Int32.toInt_zero] at *
      first | (rw [if_pos (by omega)]; done) | (rw [if_neg (by omega)]; done)
    · refine ev_aload_n (pc' := 13) dX5_link_12 rfl rfl ?_
      refine ev_getf (pc' := 16) fl_5_18 dX5_link_13 rfl rfl rfl ?_
      refine ev_iload_n (pc' := 17) dX5_link_16 rfl rfl ?_
      refine ev_cNi2 (pc' := 20) cl_5_40 (k_at rfl (by decide)) dX5_link_17 rfl rfl ?_
      refine ev_goto (tgt := 24) dX5_link_20 (by decide) ?_
      refine ev_ireturn rfl dX5_link_24 ?_
      refine rt_i ?_ rfl
      simp only [fa_lt, fa_le, Int32.toInt_zero] at *
      first | (rw [if_pos (by omega)]; done) | (rw [if_neg (by omega)]; done)
def r_can (σ : Nat → Nat → Int32) (least : Int32) : Bool := decide (σ 0 6 < (8 - σ 0 3) * least ∨ (8 - σ 0 3) * least = σ 0 6 ∧ 8 - σ 0 3 < σ 0 4)
theorem k_canWin {d : Nat} (σ : Nat → Nat → Int32) (x : Int32) : Ok d M5_canWin [.ref 0, .int x] (WR σ) (rt (some (.int (bI (r_can σ x)))) (WR σ)) := by
  refine Ok.of (ls := [some _, some _, none, none]) (by decide +kernel) (Nat.le_of_ble_eq_true rfl) rfl ?_
  refine ev_bipush (pc' := 2) (v := 8) dX5_canWin_0 rfl (by decide) ?_
  refine ev_aload_n (pc' := 3) dX5_canWin_2 rfl rfl ?_
  refine ev_getf (pc' := 6) fl_5_21 dX5_canWin_3 rfl rfl rfl ?_
  refine ev_isub (pc' := 7) dX5_canWin_6 rfl ?_
  refine ev_istore_n (pc' := 8) (ls' := [_, _, _, _]) dX5_canWin_7 rfl rfl rfl ?_
  refine ev_iload_n (pc' := 9) dX5_canWin_8 rfl rfl ?_
  refine ev_iload_n (pc' := 10) dX5_canWin_9 rfl rfl ?_
  refine ev_imul (pc' := 11) dX5_canWin_10 rfl ?_
  refine ev_istore_n (pc' := 12) (ls' := [_, _, _, _]) dX5_canWin_11 rfl rfl rfl ?_
  refine ev_iload_n (pc' := 13) dX5_canWin_12 rfl rfl ?_
  refine ev_aload_n (pc' := 14) dX5_canWin_13 rfl rfl ?_
  refine ev_getf (pc' := 17) fl_5_31 dX5_canWin_14 rfl rfl rfl ?_
  refine ev_icmp_gt (tgt := 36) (pc' := 20) dX5_canWin_17 (by decide) rfl (fun h_17 => ?_) (fun h_17 => ?_)
  · refine ev_iconst (pc' := 37) (v := 1) dX5_canWin_36 rfl (by decide) ?_
    refine ev_goto (tgt := 41) dX5_canWin_37 (by decide) ?_
    refine ev_zreturn rfl rfl dX5_canWin_41 ?_
    refine rt_i ?_ rfl
    unfold r_can
    simp only [fa_lt, fa_le, fa_eq (_ * _)] at *
    first | (rw [decide_eq_true (by omega)]; rfl) | (rw [decide_eq_false (by omega)]; rfl)
  · refine ev_iload_n (pc' := 21) dX5_canWin_20 rfl rfl ?_
    refine ev_aload_n (pc' := 22) dX5_canWin_21 rfl rfl ?_
    refine ev_getf (pc' := 25) fl_5_31 dX5_canWin_22 rfl rfl rfl ?_
    refine ev_icmp_ne (tgt := 40) (pc' := 28) dX5_canWin_25 (by decide) rfl (fun h_25 => ?_) (fun h_25 => ?_)
    · refine ev_iconst (pc' := 41) (v := 0) dX5_canWin_40 rfl (by decide) ?_
      refine ev_zreturn rfl rfl dX5_canWin_41 ?_
      refine rt_i ?_ rfl
      unfold r_can
      simp only [fa_lt, fa_le, fa_eq (_ * _)] at *
      first | (rw [decide_eq_true (by omega)]; rfl) | (rw [decide_eq_false (by omega)]; rfl)
    · refine ev_iload_n (pc' := 29) dX5_canWin_28 rfl rfl ?_
      refine ev_aload_n (pc' := 30) dX5_canWin_29 rfl rfl ?_
      refine ev_getf (pc' := 33) fl_5_25 dX5_canWin_30 rfl rfl rfl ?_
      refine ev_icmp_ge (tgt := 40) (pc' := 36) dX5_canWin_33 (by decide) rfl (fun h_33 => ?_) (fun h_33 => ?_)
      · refine ev_iconst (pc' := 41) (v := 0) dX5_canWin_40 rfl (by decide) ?_
        refine ev_zreturn rfl rfl dX5_canWin_41 ?_
        refine rt_i ?_ rfl
        unfold r_can
        simp only [fa_lt, fa_le, fa_eq (_ * _)] at *
        first | (rw [decide_eq_true (by omega)]; rfl) | (rw [decide_eq_false (by omega)]; rfl)
      · refine ev_iconst (pc' := 37) (v := 1) dX5_canWin_36 rfl (by decide) ?_
        refine ev_goto (tgt := 41) dX5_canWin_37 (by decide) ?_
        refine ev_zreturn rfl rfl dX5_canWin_41 ?_
        refine rt_i ?_ rfl
        unfold r_can
        simp only [fa_lt, fa_le, fa_eq (_ * _)] at *
        first | (rw [decide_eq_true (by omega)]; rfl) | (rw [decide_eq_false (by omega)]; rfl)
def r_offer (σ : Nat → Nat → Int32) (size least : Int32) : Nat → Nat → Int32 := if σ 0 6 < size * least ∨ size * least = σ 0 6 ∧ size < σ 0 4 then s1 (s2 (s2 (s2 σ 0 4 size) 0 5 least) 0 6 (size * least)) 3 (va_cpy (σ 2) (σ 3) 0 0 8) else σ
theorem k_offer {d : Nat} (σ : Nat → Nat → Int32) (size least : Int32) : Ok d M5_offer [.ref 0, .int size, .int least] (WR σ) (rt none (WR (r_offer σ size least))) := by
  have e1 : (8 : Int32).toNatClampNeg = 8 := by decide
  have e2 : (0 : Int32).toNatClampNeg = 0 := by decide
  refine Ok.of (ls := [some _, some _, some _, none]) (by decide +kernel) (Nat.le_of_ble_eq_true rfl) rfl ?_
  refine ev_iload_n (pc' := 1) dX5_offer_0 rfl rfl ?_
  refine ev_iload_n (pc' := 2) dX5_offer_1 rfl rfl ?_
  refine ev_imul (pc' := 3) dX5_offer_2 rfl ?_
  refine ev_istore_n (pc' := 4) (ls' := [_, _, _, _]) dX5_offer_3 rfl rfl rfl ?_
  refine ev_iload_n (pc' := 5) dX5_offer_4 rfl rfl ?_
  refine ev_aload_n (pc' := 6) dX5_offer_5 rfl rfl ?_
  refine ev_getf (pc' := 9) fl_5_31 dX5_offer_6 rfl rfl rfl ?_
  refine ev_icmp_gt (tgt := 28) (pc' := 12) dX5_offer_9 (by decide) rfl (fun h_9 => ?_) (fun h_9 => ?_)
  · refine ev_aload_n (pc' := 29) dX5_offer_28 rfl rfl ?_
    refine ev_iload_n (pc' := 30) dX5_offer_29 rfl rfl ?_
    refine ev_putf (pc' := 33) fs_5_25 dX5_offer_30 rfl rfl (Nat.le_of_ble_eq_true rfl) (fun _ => rfl) (fun _ => rfl) (WR_p5_4 _ _) ?_
    refine ev_aload_n (pc' := 34) dX5_offer_33 rfl rfl ?_
    refine ev_iload_n (pc' := 35) dX5_offer_34 rfl rfl ?_
    refine ev_putf (pc' := 38) fs_5_28 dX5_offer_35 rfl rfl (Nat.le_of_ble_eq_true rfl) (fun _ => rfl) (fun _ => rfl) (WR_p5_5 _ _) ?_
    refine ev_aload_n (pc' := 39) dX5_offer_38 rfl rfl ?_
    refine ev_iload_n (pc' := 40) dX5_offer_39 rfl rfl ?_
    refine ev_putf (pc' := 43) fs_5_31 dX5_offer_40 rfl rfl (Nat.le_of_ble_eq_true rfl) (fun _ => rfl) (fun _ => rfl) (WR_p5_6 _ _) ?_
    refine ev_aload_n (pc' := 44) dX5_offer_43 rfl rfl ?_
    refine ev_getf (pc' := 47) fl_5_15 dX5_offer_44 rfl rfl rfl ?_
    refine ev_iconst (pc' := 48) (v := 0) dX5_offer_47 rfl (by decide) ?_
    refine ev_aload_n (pc' := 49) dX5_offer_48 rfl rfl ?_
    refine ev_getf (pc' := 52) fl_5_18 dX5_offer_49 rfl rfl rfl ?_
    refine ev_iconst (pc' := 53) (v := 0) dX5_offer_52 rfl (by decide) ?_
    refine ev_bipush (pc' := 55) (v := 8) dX5_offer_53 rfl (by decide) ?_
    refine ev_copy (pc' := 58) pw_5_34 dX5_offer_55 rfl (r0 := 2) (r1 := 3) rfl rfl (by decide) (by decide) (by decide) (by decide) (by decide) rfl rfl ?_
    refine ev_return rfl dX5_offer_58 ?_
    refine rt_of rfl ?_
    unfold r_offer
    simp only [fa_lt, fa_le, fa_eq (_ * _)] at *
    first | (rw [if_pos (by omega)]; try rw [e1, e2]; rfl) | (rw [if_neg (by omega)]; done)
  · refine ev_iload_n (pc' := 13) dX5_offer_12 rfl rfl ?_
    refine ev_aload_n (pc' := 14) dX5_offer_13 rfl rfl ?_
    refine ev_getf (pc' := 17) fl_5_31 dX5_offer_14 rfl rfl rfl ?_
    refine ev_icmp_ne (tgt := 58) (pc' := 20) dX5_offer_17 (by decide) rfl (fun h_17 => ?_) (fun h_17 => ?_)
    · refine ev_return rfl dX5_offer_58 ?_
      refine rt_of rfl ?_
      unfold r_offer
      simp only [fa_lt, fa_le, fa_eq (_ * _)] at *
      first | (rw [if_pos (by omega)]; try rw [e1, e2]; rfl) | (rw [if_neg (by omega)]; done)
    · refine ev_iload_n (pc' := 21) dX5_offer_20 rfl rfl ?_
      refine ev_aload_n (pc' := 22) dX5_offer_21 rfl rfl ?_
      refine ev_getf (pc' := 25) fl_5_25 dX5_offer_22 rfl rfl rfl ?_
      refine ev_icmp_ge (tgt := 58) (pc' := 28) dX5_offer_25 (by decide) rfl (fun h_25 => ?_) (fun h_25 => ?_)
      · refine ev_return rfl dX5_offer_58 ?_
        refine rt_of rfl ?_
        unfold r_offer
        simp only [fa_lt, fa_le, fa_eq (_ * _)] at *
        first | (rw [if_pos (by omega)]; try rw [e1, e2]; rfl) | (rw [if_neg (by omega)]; done)
      · refine ev_aload_n (pc' := 29) dX5_offer_28 rfl rfl ?_
        refine ev_iload_n (pc' := 30) dX5_offer_29 rfl rfl ?_
        refine ev_putf (pc' := 33) fs_5_25 dX5_offer_30 rfl rfl (Nat.le_of_ble_eq_true rfl) (fun _ => rfl) (fun _ => rfl) (WR_p5_4 _ _) ?_
        refine ev_aload_n (pc' := 34) dX5_offer_33 rfl rfl ?_
        refine ev_iload_n (pc' := 35) dX5_offer_34 rfl rfl ?_
        refine ev_putf (pc' := 38) fs_5_28 dX5_offer_35 rfl rfl (Nat.le_of_ble_eq_true rfl) (fun _ => rfl) (fun _ => rfl) (WR_p5_5 _ _) ?_
        refine ev_aload_n (pc' := 39) dX5_offer_38 rfl rfl ?_
        refine ev_iload_n (pc' := 40) dX5_offer_39 rfl rfl ?_
        refine ev_putf (pc' := 43) fs_5_31 dX5_offer_40 rfl rfl (Nat.le_of_ble_eq_true rfl) (fun _ => rfl) (fun _ => rfl) (WR_p5_6 _ _) ?_
        refine ev_aload_n (pc' := 44) dX5_offer_43 rfl rfl ?_
        refine ev_getf (pc' := 47) fl_5_15 dX5_offer_44 rfl rfl rfl ?_
        refine ev_iconst (pc' := 48) (v := 0) dX5_offer_47 rfl (by decide) ?_
        refine ev_aload_n (pc' := 49) dX5_offer_48 rfl rfl ?_
        refine ev_getf (pc' := 52) fl_5_18 dX5_offer_49 rfl rfl rfl ?_
        refine ev_iconst (pc' := 53) (v := 0) dX5_offer_52 rfl (by decide) ?_
        refine ev_bipush (pc' := 55) (v := 8) dX5_offer_53 rfl (by decide) ?_
        refine ev_copy (pc' := 58) pw_5_34 dX5_offer_55 rfl (r0 := 2) (r1 := 3) rfl rfl (by decide) (by decide) (by decide) (by decide) (by decide) rfl rfl ?_
        refine ev_return rfl dX5_offer_58 ?_
        refine rt_of rfl ?_
        unfold r_offer
        simp only [fa_lt, fa_le, fa_eq (_ * _)] at *
        first | (rw [if_pos (by omega)]; try rw [e1, e2]; rfl) | (rw [if_neg (by omega)]; done)
