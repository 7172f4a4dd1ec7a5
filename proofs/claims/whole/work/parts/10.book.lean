/-! THE BOOK (class 0): who there is and what was told. Its world: the object, lived, kinds, dates, ones, things, days, others. -/
def WB (σ : Nat → Nat → Int32) : MW := [.inr (0, [.ref 1, .ref 2, .ref 3, .ref 4, .ref 5, .ref 6, .ref 7, .int (σ 0 7), .int (σ 0 8), .int (σ 0 9)]), .inl (.int, 8, .inl (σ 1)), .inl (.int, 120, .inl (σ 2)), .inl (.int, 120, .inl (σ 3)), .inl (.int, 120, .inl (σ 4)), .inl (.int, 120, .inl (σ 5)), .inl (.int, 120, .inl (σ 6)), .inl (.int, 120, .inl (σ 7))]
theorem WB_p0_7 (σ : Nat → Nat → Int32) (v : Int32) : (WB σ).set 0 (.inr (0, [.ref 1, .ref 2, .ref 3, .ref 4, .ref 5, .ref 6, .ref 7, .int (σ 0 7), .int (σ 0 8), .int (σ 0 9)].set 7 (.int v))) = WB (s2 σ 0 7 v) := rfl
theorem WB_p0_8 (σ : Nat → Nat → Int32) (v : Int32) : (WB σ).set 0 (.inr (0, [.ref 1, .ref 2, .ref 3, .ref 4, .ref 5, .ref 6, .ref 7, .int (σ 0 7), .int (σ 0 8), .int (σ 0 9)].set 8 (.int v))) = WB (s2 σ 0 8 v) := rfl
theorem WB_p0_9 (σ : Nat → Nat → Int32) (v : Int32) : (WB σ).set 0 (.inr (0, [.ref 1, .ref 2, .ref 3, .ref 4, .ref 5, .ref 6, .ref 7, .int (σ 0 7), .int (σ 0 8), .int (σ 0 9)].set 9 (.int v))) = WB (s2 σ 0 9 v) := rfl
theorem WB_a1 (σ : Nat → Nat → Int32) (g_ : Nat → Int32) : (WB σ).set 1 (.inl (.int, 8, .inl g_)) = WB (s1 σ 1 g_) := rfl
theorem WB_a2 (σ : Nat → Nat → Int32) (g_ : Nat → Int32) : (WB σ).set 2 (.inl (.int, 120, .inl g_)) = WB (s1 σ 2 g_) := rfl
theorem WB_a3 (σ : Nat → Nat → Int32) (g_ : Nat → Int32) : (WB σ).set 3 (.inl (.int, 120, .inl g_)) = WB (s1 σ 3 g_) := rfl
theorem WB_a4 (σ : Nat → Nat → Int32) (g_ : Nat → Int32) : (WB σ).set 4 (.inl (.int, 120, .inl g_)) = WB (s1 σ 4 g_) := rfl
theorem WB_a5 (σ : Nat → Nat → Int32) (g_ : Nat → Int32) : (WB σ).set 5 (.inl (.int, 120, .inl g_)) = WB (s1 σ 5 g_) := rfl
theorem WB_a6 (σ : Nat → Nat → Int32) (g_ : Nat → Int32) : (WB σ).set 6 (.inl (.int, 120, .inl g_)) = WB (s1 σ 6 g_) := rfl
theorem WB_a7 (σ : Nat → Nat → Int32) (g_ : Nat → Int32) : (WB σ).set 7 (.inl (.int, 120, .inl g_)) = WB (s1 σ 7 g_) := rfl
def b_isPerson (P x : Int32) : Bool := decide (0 ≤ x ∧ x < P)
def b_isFirst (N x : Int32) : Bool := decide (0 ≤ x ∧ x ≤ N)
def b_kind (σ : Nat → Nat → Int32) (x : Int32) : Int32 := if 0 ≤ x ∧ x < σ 0 8 then atF 120 (σ 2) x else -1
def b_isPaper (σ : Nat → Nat → Int32) (x : Int32) : Bool := decide (0 ≤ b_kind σ x ∧ b_kind σ x ≤ 2)
theorem k_hasPerson {d : Nat} (σ : Nat → Nat → Int32) (x : Int32) : Ok d M0_hasPerson [.ref 0, .int x] (WB σ) (rt (some (.int (bI (b_isPerson (σ 0 7) x)))) (WB σ)) := by
  refine Ok.of (ls := [some _, some _]) (by decide +kernel) (Nat.le_of_ble_eq_true rfl) rfl ?_
  refine ev_iload_n (pc' := 1) dX0_hasPerson_0 rfl rfl ?_
  refine ev_if_lt (tgt := 16) (pc' := 4) dX0_hasPerson_1 (by decide) rfl (fun h_1 => ?_) (fun h_1 => ?_)
  · refine ev_iconst (pc' := 17) (v := 0) dX0_hasPerson_16 rfl (by decide) ?_
    refine ev_zreturn rfl rfl dX0_hasPerson_17 ?_
    refine rt_i ?_ rfl
    unfold b_isPerson
    simp only [fa_lt, fa_le, Int32.toInt_zero] at *
    simp [bI] <;> omega
  · refine ev_iload_n (pc' := 5) dX0_hasPerson_4 rfl rfl ?_
    refine ev_aload_n (pc' := 6) dX0_hasPerson_5 rfl rfl ?_
    refine ev_getf (pc' := 9) fl_0_33 dX0_hasPerson_6 rfl rfl rfl ?_
    refine ev_icmp_ge (tgt := 16) (pc' := 12) dX0_hasPerson_9 (by decide) rfl (fun h_9 => ?_) (fun h_9 => ?_)
    · refine ev_iconst (pc' := 17) (v := 0) dX0_hasPerson_16 rfl (by decide) ?_
      refine ev_zreturn rfl rfl dX0_hasPerson_17 ?_
      refine rt_i ?_ rfl
      unfold b_isPerson
      simp only [fa_lt, fa_le, Int32.toInt_zero] at *
      simp [bI] <;> omega
    · refine ev_iconst (pc' := 13) (v := 1) dX0_hasPerson_12 rfl (by decide) ?_
      refine ev_goto (tgt := 17) dX0_hasPerson_13 (by decide) ?_
      refine ev_zreturn rfl rfl dX0_hasPerson_17 ?_
      refine rt_i ?_ rfl
      unfold b_isPerson
      simp only [fa_lt, fa_le, Int32.toInt_zero] at *
      simp [bI] <;> omega
theorem k_hasFirst {d : Nat} (σ : Nat → Nat → Int32) (x : Int32) : Ok d M0_hasFirst [.ref 0, .int x] (WB σ) (rt (some (.int (bI (b_isFirst (σ 0 8) x)))) (WB σ)) := by
  refine Ok.of (ls := [some _, some _]) (by decide +kernel) (Nat.le_of_ble_eq_true rfl) rfl ?_
  refine ev_iload_n (pc' := 1) dX0_hasFirst_0 rfl rfl ?_
  refine ev_if_lt (tgt := 16) (pc' := 4) dX0_hasFirst_1 (by decide) rfl (fun h_1 => ?_) (fun h_1 => ?_)
  · refine ev_iconst (pc' := 17) (v := 0) dX0_hasFirst_16 rfl (by decide) ?_
    refine ev_zreturn rfl rfl dX0_hasFirst_17 ?_
    refine rt_i ?_ rfl
    unfold b_isFirst
    simp only [fa_lt, fa_le, Int32.toInt_zero] at *
    simp [bI] <;> omega
  · refine ev_iload_n (pc' := 5) dX0_hasFirst_4 rfl rfl ?_
    refine ev_aload_n (pc' := 6) dX0_hasFirst_5 rfl rfl ?_
    refine ev_getf (pc' := 9) fl_0_37 dX0_hasFirst_6 rfl rfl rfl ?_
    refine ev_icmp_gt (tgt := 16) (pc' := 12) dX0_hasFirst_9 (by decide) rfl (fun h_9 => ?_) (fun h_9 => ?_)
    · refine ev_iconst (pc' := 17) (v := 0) dX0_hasFirst_16 rfl (by decide) ?_
      refine ev_zreturn rfl rfl dX0_hasFirst_17 ?_
      refine rt_i ?_ rfl
      unfold b_isFirst
      simp only [fa_lt, fa_le, Int32.toInt_zero] at *
      simp [bI] <;> omega
    · refine ev_iconst (pc' := 13) (v := 1) dX0_hasFirst_12 rfl (by decide) ?_
      refine ev_goto (tgt := 17) dX0_hasFirst_13 (by decide) ?_
      refine ev_zreturn rfl rfl dX0_hasFirst_17 ?_
      refine rt_i ?_ rfl
      unfold b_isFirst
      simp only [fa_lt, fa_le, Int32.toInt_zero] at *
      simp [bI] <;> omega
theorem k_madeOn {d : Nat} (σ : Nat → Nat → Int32) (x : Int32) : Ok (d + 1) M0_madeOn [.ref 0, .int x] (WB σ) (rt (some (.int (atF 120 (σ 3) x))) (WB σ)) := by
  refine Ok.of (ls := [some _, some _]) (by decide +kernel) (Nat.le_of_ble_eq_true rfl) rfl ?_
  refine ev_aload_n (pc' := 1) dX0_madeOn_0 rfl rfl ?_
  refine ev_getf (pc' := 4) fl_0_18 dX0_madeOn_1 rfl rfl rfl ?_
  refine ev_iload_n (pc' := 5) dX0_madeOn_4 rfl rfl ?_
  refine ev_cNi2 (pc' := 8) cl_0_48 (k_at rfl (by decide)) dX0_madeOn_5 rfl rfl ?_
  refine ev_ireturn rfl dX0_madeOn_8 ?_
  exact ⟨rfl, rfl⟩
theorem k_oneOf {d : Nat} (σ : Nat → Nat → Int32) (x : Int32) : Ok (d + 1) M0_oneOf [.ref 0, .int x] (WB σ) (rt (some (.int (atF 120 (σ 4) x))) (WB σ)) := by
  refine Ok.of (ls := [some _, some _]) (by decide +kernel) (Nat.le_of_ble_eq_true rfl) rfl ?_
  refine ev_aload_n (pc' := 1) dX0_oneOf_0 rfl rfl ?_
  refine ev_getf (pc' := 4) fl_0_21 dX0_oneOf_1 rfl rfl rfl ?_
  refine ev_iload_n (pc' := 5) dX0_oneOf_4 rfl rfl ?_
  refine ev_cNi2 (pc' := 8) cl_0_48 (k_at rfl (by decide)) dX0_oneOf_5 rfl rfl ?_
  refine ev_ireturn rfl dX0_oneOf_8 ?_
  exact ⟨rfl, rfl⟩
theorem k_thingOf {d : Nat} (σ : Nat → Nat → Int32) (x : Int32) : Ok (d + 1) M0_thingOf [.ref 0, .int x] (WB σ) (rt (some (.int (atF 120 (σ 5) x))) (WB σ)) := by
  refine Ok.of (ls := [some _, some _]) (by decide +kernel) (Nat.le_of_ble_eq_true rfl) rfl ?_
  refine ev_aload_n (pc' := 1) dX0_thingOf_0 rfl rfl ?_
  refine ev_getf (pc' := 4) fl_0_24 dX0_thingOf_1 rfl rfl rfl ?_
  refine ev_iload_n (pc' := 5) dX0_thingOf_4 rfl rfl ?_
  refine ev_cNi2 (pc' := 8) cl_0_48 (k_at rfl (by decide)) dX0_thingOf_5 rfl rfl ?_
  refine ev_ireturn rfl dX0_thingOf_8 ?_
  exact ⟨rfl, rfl⟩
theorem k_dayOf {d : Nat} (σ : Nat → Nat → Int32) (x : Int32) : Ok (d + 1) M0_dayOf [.ref 0, .int x] (WB σ) (rt (some (.int (atF 120 (σ 6) x))) (WB σ)) := by
  refine Ok.of (ls := [some _, some _]) (by decide +kernel) (Nat.le_of_ble_eq_true rfl) rfl ?_
  refine ev_aload_n (pc' := 1) dX0_dayOf_0 rfl rfl ?_
  refine ev_getf (pc' := 4) fl_0_27 dX0_dayOf_1 rfl rfl rfl ?_
  refine ev_iload_n (pc' := 5) dX0_dayOf_4 rfl rfl ?_
  refine ev_cNi2 (pc' := 8) cl_0_48 (k_at rfl (by decide)) dX0_dayOf_5 rfl rfl ?_
  refine ev_ireturn rfl dX0_dayOf_8 ?_
  exact ⟨rfl, rfl⟩
theorem k_otherOf {d : Nat} (σ : Nat → Nat → Int32) (x : Int32) : Ok (d + 1) M0_otherOf [.ref 0, .int x] (WB σ) (rt (some (.int (atF 120 (σ 7) x))) (WB σ)) := by
  refine Ok.of (ls := [some _, some _]) (by decide +kernel) (Nat.le_of_ble_eq_true rfl) rfl ?_
  refine ev_aload_n (pc' := 1) dX0_otherOf_0 rfl rfl ?_
  refine ev_getf (pc' := 4) fl_0_30 dX0_otherOf_1 rfl rfl rfl ?_
  refine ev_iload_n (pc' := 5) dX0_otherOf_4 rfl rfl ?_
  refine ev_cNi2 (pc' := 8) cl_0_48 (k_at rfl (by decide)) dX0_otherOf_5 rfl rfl ?_
  refine ev_ireturn rfl dX0_otherOf_8 ?_
  exact ⟨rfl, rfl⟩
theorem k_livedAhead {d : Nat} (σ : Nat → Nat → Int32) (x : Int32) : Ok (d + 1) M0_livedAhead [.ref 0, .int x] (WB σ) (rt (some (.int (atF 8 (σ 1) x))) (WB σ)) := by
  refine Ok.of (ls := [some _, some _]) (by decide +kernel) (Nat.le_of_ble_eq_true rfl) rfl ?_
  refine ev_aload_n (pc' := 1) dX0_livedAhead_0 rfl rfl ?_
  refine ev_getf (pc' := 4) fl_0_9 dX0_livedAhead_1 rfl rfl rfl ?_
  refine ev_iload_n (pc' := 5) dX0_livedAhead_4 rfl rfl ?_
  refine ev_cNi2 (pc' := 8) cl_0_48 (k_at rfl (by decide)) dX0_livedAhead_5 rfl rfl ?_
  refine ev_ireturn rfl dX0_livedAhead_8 ?_
  exact ⟨rfl, rfl⟩
theorem k_personCount {d : Nat} (σ : Nat → Nat → Int32) : Ok d M0_personCount [.ref 0] (WB σ) (rt (some (.int (σ 0 7))) (WB σ)) := by
  refine Ok.of (ls := [some _]) (by decide +kernel) (Nat.le_of_ble_eq_true rfl) rfl ?_
  refine ev_aload_n (pc' := 1) dX0_personCount_0 rfl rfl ?_
  refine ev_getf (pc' := 4) fl_0_33 dX0_personCount_1 rfl rfl rfl ?_
  refine ev_ireturn rfl dX0_personCount_4 ?_
  exact ⟨rfl, rfl⟩
theorem k_factCount {d : Nat} (σ : Nat → Nat → Int32) : Ok d M0_factCount [.ref 0] (WB σ) (rt (some (.int (σ 0 8))) (WB σ)) := by
  refine Ok.of (ls := [some _]) (by decide +kernel) (Nat.le_of_ble_eq_true rfl) rfl ?_
  refine ev_aload_n (pc' := 1) dX0_factCount_0 rfl rfl ?_
  refine ev_getf (pc' := 4) fl_0_37 dX0_factCount_1 rfl rfl rfl ?_
  refine ev_ireturn rfl dX0_factCount_4 ?_
  exact ⟨rfl, rfl⟩
theorem k_paperCount {d : Nat} (σ : Nat → Nat → Int32) : Ok d M0_paperCount [.ref 0] (WB σ) (rt (some (.int (σ 0 9))) (WB σ)) := by
  refine Ok.of (ls := [some _]) (by decide +kernel) (Nat.le_of_ble_eq_true rfl) rfl ?_
  refine ev_aload_n (pc' := 1) dX0_paperCount_0 rfl rfl ?_
  refine ev_getf (pc' := 4) fl_0_40 dX0_paperCount_1 rfl rfl rfl ?_
  refine ev_ireturn rfl dX0_paperCount_4 ?_
  exact ⟨rfl, rfl⟩
theorem k_kindOf {d : Nat} (σ : Nat → Nat → Int32) (x : Int32) : Ok (d + 1) M0_kindOf [.ref 0, .int x] (WB σ) (rt (some (.int (b_kind σ x))) (WB σ)) := by
  refine Ok.of (ls := [some _, some _]) (by decide +kernel) (Nat.le_of_ble_eq_true rfl) rfl ?_
  refine ev_iload_n (pc' := 1) dX0_kindOf_0 rfl rfl ?_
  refine ev_if_lt (tgt := 23) (pc' := 4) dX0_kindOf_1 (by decide) rfl (fun h_1 => ?_) (fun h_1 => ?_)
  · refine ev_iconst (pc' := 24) (v := -1) dX0_kindOf_23 rfl (by decide) ?_
    refine ev_ireturn rfl dX0_kindOf_24 ?_
    refine rt_i ?_ rfl
    unfold b_kind
    simp only [fa_lt, fa_le, Int32.toInt_zero] at *
    first | (rw [if_pos (by omega)]; done) | (rw [if_neg (by omega)]; done)
  · refine ev_iload_n (pc' := 5) dX0_kindOf_4 rfl rfl ?_
    refine ev_aload_n (pc' := 6) dX0_kindOf_5 rfl rfl ?_
    refine ev_getf (pc' := 9) fl_0_37 dX0_kindOf_6 rfl rfl rfl ?_
    refine ev_icmp_ge (tgt := 23) (pc' := 12) dX0_kindOf_9 (by decide) rfl (fun h_9 => ?_) (fun h_9 => ?_)
    · refine ev_iconst (pc' := 24) (v := -1) dX0_kindOf_23 rfl (by decide) ?_
      refine ev_ireturn rfl dX0_kindOf_24 ?_
      refine rt_i ?_ rfl
      unfold b_kind
      simp only [fa_lt, fa_le, Int32.toInt_zero] at *
      first | (rw [if_pos (by omega)]; done) | (rw [if_neg (by omega)]; done)
    · refine ev_aload_n (pc' := 13) dX0_kindOf_12 rfl rfl ?_
      refine ev_getf (pc' := 16) fl_0_15 dX0_kindOf_13 rfl rfl rfl ?_
      refine ev_iload_n (pc' := 17) dX0_kindOf_16 rfl rfl ?_
      refine ev_cNi2 (pc' := 20) cl_0_48 (k_at rfl (by decide)) dX0_kindOf_17 rfl rfl ?_
      refine ev_goto (tgt := 24) dX0_kindOf_20 (by decide) ?_
      refine ev_ireturn rfl dX0_kindOf_24 ?_
      refine rt_i ?_ rfl
      unfold b_kind
      simp only [fa_lt, fa_le, Int32.toInt_zero] at *
      first | (rw [if_pos (by omega)]; done) | (rw [if_neg (by omega)]; done)
theorem k_isPaper {d : Nat} (σ : Nat → Nat → Int32) (x : Int32) : Ok (d + 2) M0_isPaper [.ref 0, .int x] (WB σ) (rt (some (.int (bI (b_isPaper σ x)))) (WB σ)) := by
  refine Ok.of (ls := [some _, some _, none]) (by decide +kernel) (Nat.le_of_ble_eq_true rfl) rfl ?_
  refine ev_aload_n (pc' := 1) dX0_isPaper_0 rfl rfl ?_
  refine ev_iload_n (pc' := 2) dX0_isPaper_1 rfl rfl ?_
  refine ev_cVi1 (pc' := 5) cl_0_52 (k_kindOf _ _) dX0_isPaper_2 rfl rfl rfl rfl ?_
  refine ev_istore_n (pc' := 6) (ls' := [_, _, _]) dX0_isPaper_5 rfl rfl rfl ?_
  refine ev_iload_n (pc' := 7) dX0_isPaper_6 rfl rfl ?_
  refine ev_if_lt (tgt := 19) (pc' := 10) dX0_isPaper_7 (by decide) rfl (fun h_7 => ?_) (fun h_7 => ?_)
  · refine ev_iconst (pc' := 20) (v := 0) dX0_isPaper_19 rfl (by decide) ?_
    refine ev_zreturn rfl rfl dX0_isPaper_20 ?_
    refine rt_i ?_ rfl
    unfold b_isPaper
    simp only [fa_lt, fa_le, Int32.toInt_zero, Int32.reduceToInt] at *
    simp [bI] <;> omega
  · refine ev_iload_n (pc' := 11) dX0_isPaper_10 rfl rfl ?_
    refine ev_iconst (pc' := 12) (v := 2) dX0_isPaper_11 rfl (by decide) ?_
    refine ev_icmp_gt (tgt := 19) (pc' := 15) dX0_isPaper_12 (by decide) rfl (fun h_12 => ?_) (fun h_12 => ?_)
    · refine ev_iconst (pc' := 20) (v := 0) dX0_isPaper_19 rfl (by decide) ?_
      refine ev_zreturn rfl rfl dX0_isPaper_20 ?_
      refine rt_i ?_ rfl
      unfold b_isPaper
      simp only [fa_lt, fa_le, Int32.toInt_zero, Int32.reduceToInt] at *
      simp [bI] <;> omega
    · refine ev_iconst (pc' := 16) (v := 1) dX0_isPaper_15 rfl (by decide) ?_
      refine ev_goto (tgt := 20) dX0_isPaper_16 (by decide) ?_
      refine ev_zreturn rfl rfl dX0_isPaper_20 ?_
      refine rt_i ?_ rfl
      unfold b_isPaper
      simp only [fa_lt, fa_le, Int32.toInt_zero, Int32.reduceToInt] at *
      simp [bI] <;> omega
/-- is a day a feast, by the facts before k -/
def b_feast (σ : Nat → Nat → Int32) (day : Int32) : Nat → Bool
  | 0 => false
  | k + 1 => if b_kind σ (nI k) = 4 ∧ atF 120 (σ 6) (nI k) = day then decide (atF 120 (σ 5) (nI k) = 1) else b_feast σ day k
theorem k_isFeast_loop {d : Nat} (σ : Nat → Nat → Int32) (day n : Int32) : ∀ (k : Nat) (x : Int32), k < 2 ^ 31 → x = nI k - 1 → Ev (d + 2) M0_isFeast (rt (some (.int (bI (b_feast σ day k)))) (WB σ)) 4 [some (.ref 0), some (.int day), some (.int n), some (.int x)] [] (WB σ) := by
  intro k
  induction k with
  | zero =>
    intro x hk hx
    refine ev_iload_n (pc' := 5) dX0_isFeast_4 rfl rfl ?_
    refine ev_if_lt (tgt := 47) (pc' := 8) dX0_isFeast_5 (by decide) rfl (fun h_5 => ?_) (fun h_5 => ?_)
    · refine ev_iconst (pc' := 48) (v := 0) dX0_isFeast_47 rfl (by decide) ?_
      refine ev_zreturn rfl rfl dX0_isFeast_48 ?_
      exact ⟨rfl, rfl⟩
    · exact absurd (by rw [hx]; decide) h_5 --
  | succ k ih =>
    intro x hk hx
    have hx : x = nI k := by rw [hx, nI_pred]
    subst hx
    refine ev_iload_n (pc' := 5) dX0_isFeast_4 rfl rfl ?_
    refine ev_if_lt (tgt := 47) (pc' := 8) dX0_isFeast_5 (by decide) rfl (fun h_5 => ?_) (fun h_5 => ?_)
    · exact absurd h_5 (nI_pos (by omega)) --
    · refine ev_aload_n (pc' := 9) dX0_isFeast_8 rfl rfl ?_
      refine ev_iload_n (pc' := 10) dX0_isFeast_9 rfl rfl ?_
      refine ev_cVi1 (pc' := 13) cl_0_52 (k_kindOf _ _) dX0_isFeast_10 rfl rfl rfl rfl ?_
      refine ev_iconst (pc' := 14) (v := 4) dX0_isFeast_13 rfl (by decide) ?_
      refine ev_icmp_ne (tgt := 41) (pc' := 17) dX0_isFeast_14 (by decide) rfl (fun h_14 => ?_) (fun h_14 => ?_)
      · refine ev_iinc (pc' := 44) (ls' := [_, _, _, _]) dX0_isFeast_41 rfl rfl rfl rfl rfl ?_
        refine ev_goto (tgt := 4) dX0_isFeast_44 (by decide) ?_
        rw [show b_feast σ day (k + 1) = b_feast σ day k by rw [b_feast, if_neg (by rintro ⟨a, b⟩; simp_all)]]
        exact ih _ (by omega) (nI_m1 _)
      · refine ev_aload_n (pc' := 18) dX0_isFeast_17 rfl rfl ?_
        refine ev_iload_n (pc' := 19) dX0_isFeast_18 rfl rfl ?_
        refine ev_cVi1 (pc' := 22) cl_0_56 (k_dayOf _ _) dX0_isFeast_19 rfl rfl rfl rfl ?_
        refine ev_iload_n (pc' := 23) dX0_isFeast_22 rfl rfl ?_
        refine ev_icmp_ne (tgt := 41) (pc' := 26) dX0_isFeast_23 (by decide) rfl (fun h_23 => ?_) (fun h_23 => ?_)
        · refine ev_iinc (pc' := 44) (ls' := [_, _, _, _]) dX0_isFeast_41 rfl rfl rfl rfl rfl ?_
          refine ev_goto (tgt := 4) dX0_isFeast_44 (by decide) ?_
          rw [show b_feast σ day (k + 1) = b_feast σ day k by rw [b_feast, if_neg (by rintro ⟨a, b⟩; simp_all)]]
          exact ih _ (by omega) (nI_m1 _)
        · refine ev_aload_n (pc' := 27) dX0_isFeast_26 rfl rfl ?_
          refine ev_iload_n (pc' := 28) dX0_isFeast_27 rfl rfl ?_
          refine ev_cVi1 (pc' := 31) cl_0_59 (k_thingOf _ _) dX0_isFeast_28 rfl rfl rfl rfl ?_
          refine ev_iconst (pc' := 32) (v := 1) dX0_isFeast_31 rfl (by decide) ?_
          refine ev_icmp_ne (tgt := 39) (pc' := 35) dX0_isFeast_32 (by decide) rfl (fun h_32 => ?_) (fun h_32 => ?_)
          · refine ev_iconst (pc' := 40) (v := 0) dX0_isFeast_39 rfl (by decide) ?_
            refine ev_zreturn rfl rfl dX0_isFeast_40 ?_
            refine rt_i ?_ rfl
            rw [b_feast, if_pos ⟨by assumption, by assumption⟩]
            simp_all [bI]
          · refine ev_iconst (pc' := 36) (v := 1) dX0_isFeast_35 rfl (by decide) ?_
            refine ev_goto (tgt := 40) dX0_isFeast_36 (by decide) ?_
            refine ev_zreturn rfl rfl dX0_isFeast_40 ?_
            refine rt_i ?_ rfl
            rw [b_feast, if_pos ⟨by assumption, by assumption⟩]
            simp_all [bI]
theorem k_isFeast {d : Nat} (σ : Nat → Nat → Int32) (day : Int32) (n : Nat) (hn : n < 2 ^ 31) : Ok (d + 2) M0_isFeast [.ref 0, .int day, .int (nI n)] (WB σ) (rt (some (.int (bI (b_feast σ day n)))) (WB σ)) := by
  refine Ok.of (ls := [some _, some _, some _, none]) (by decide +kernel) (Nat.le_of_ble_eq_true rfl) rfl ?_
  refine ev_iload_n (pc' := 1) dX0_isFeast_0 rfl rfl ?_
  refine ev_iconst (pc' := 2) (v := 1) dX0_isFeast_1 rfl (by decide) ?_
  refine ev_isub (pc' := 3) dX0_isFeast_2 rfl ?_
  refine ev_istore_n (pc' := 4) (ls' := [_, _, _, _]) dX0_isFeast_3 rfl rfl rfl ?_
  exact k_isFeast_loop σ day _ n _ hn rfl
/-- a fact is written behind the others -/
def b_told (σ : Nat → Nat → Int32) (kind made one thing day other : Int32) : Nat → Nat → Int32 :=
  let n := σ 0 8
  s2 (s2 (s1 (s1 (s1 (s1 (s1 (s1 σ 2 (putF 120 (σ 2) n kind)) 3 (putF 120 (σ 3) n made)) 4 (putF 120 (σ 4) n one)) 5 (putF 120 (σ 5) n thing)) 6 (putF 120 (σ 6) n day)) 7 (putF 120 (σ 7) n other)) 0 9 (σ 0 9 + if kind ≤ 2 then 1 else 0)) 0 8 (n + 1)
theorem k_tell {d : Nat} (σ : Nat → Nat → Int32) (kind made one thing day other : Int32) : Ok (d + 1) M0_tell [.ref 0, .int kind, .int made, .int one, .int thing, .int day, .int other] (WB σ) (if 120 ≤ σ 0 8 then rt (some (.int (-1))) (WB σ) else rt (some (.int (σ 0 8 + 1 - 1))) (WB (b_told σ kind made one thing day other))) := by
  refine Ok.of (ls := [some _, some _, some _, some _, some _, some _, some _]) (by decide +kernel) (Nat.le_of_ble_eq_true rfl) rfl ?_
  refine ev_aload_n (pc' := 1) dX0_tell_0 rfl rfl ?_
  refine ev_getf (pc' := 4) fl_0_37 dX0_tell_1 rfl rfl rfl ?_
  refine ev_bipush (pc' := 6) (v := 120) dX0_tell_4 rfl (by decide) ?_
  refine ev_icmp_lt (tgt := 11) (pc' := 9) dX0_tell_6 (by decide) rfl (fun h_6 => ?_) (fun h_6 => ?_)
  · refine ev_aload_n (pc' := 12) dX0_tell_11 rfl rfl ?_
    refine ev_getf (pc' := 15) fl_0_15 dX0_tell_12 rfl rfl rfl ?_
    refine ev_aload_n (pc' := 16) dX0_tell_15 rfl rfl ?_
    refine ev_getf (pc' := 19) fl_0_37 dX0_tell_16 rfl rfl rfl ?_
    refine ev_iload_n (pc' := 20) dX0_tell_19 rfl rfl ?_
    refine ev_cNv3 (pc' := 23) cl_0_44 (k_put rfl (by decide) (WB_a2 _ _)) dX0_tell_20 rfl rfl ?_
    refine ev_gen (W := WB) (fun σ_20 e_20 => ?_)
    refine ev_aload_n (pc' := 24) dX0_tell_23 rfl rfl ?_
    refine ev_getf (pc' := 27) fl_0_18 dX0_tell_24 rfl rfl rfl ?_
    refine ev_aload_n (pc' := 28) dX0_tell_27 rfl rfl ?_
    refine ev_getf (pc' := 31) fl_0_37 dX0_tell_28 rfl rfl rfl ?_
    refine ev_iload_n (pc' := 32) dX0_tell_31 rfl rfl ?_
    refine ev_cNv3 (pc' := 35) cl_0_44 (k_put rfl (by decide) (WB_a3 _ _)) dX0_tell_32 rfl rfl ?_
    refine ev_gen (W := WB) (fun σ_32 e_32 => ?_)
    refine ev_aload_n (pc' := 36) dX0_tell_35 rfl rfl ?_
    refine ev_getf (pc' := 39) fl_0_21 dX0_tell_36 rfl rfl rfl ?_
    refine ev_aload_n (pc' := 40) dX0_tell_39 rfl rfl ?_
    refine ev_getf (pc' := 43) fl_0_37 dX0_tell_40 rfl rfl rfl ?_
    refine ev_iload_n (pc' := 44) dX0_tell_43 rfl rfl ?_
    refine ev_cNv3 (pc' := 47) cl_0_44 (k_put rfl (by decide) (WB_a4 _ _)) dX0_tell_44 rfl rfl ?_
    refine ev_gen (W := WB) (fun σ_44 e_44 => ?_)
    refine ev_aload_n (pc' := 48) dX0_tell_47 rfl rfl ?_
    refine ev_getf (pc' := 51) fl_0_24 dX0_tell_48 rfl rfl rfl ?_
    refine ev_aload_n (pc' := 52) dX0_tell_51 rfl rfl ?_
    refine ev_getf (pc' := 55) fl_0_37 dX0_tell_52 rfl rfl rfl ?_
    refine ev_iload (pc' := 57) dX0_tell_55 rfl rfl ?_
    refine ev_cNv3 (pc' := 60) cl_0_44 (k_put rfl (by decide) (WB_a5 _ _)) dX0_tell_57 rfl rfl ?_
    refine ev_gen (W := WB) (fun σ_57 e_57 => ?_)
    refine ev_aload_n (pc' := 61) dX0_tell_60 rfl rfl ?_
    refine ev_getf (pc' := 64) fl_0_27 dX0_tell_61 rfl rfl rfl ?_
    refine ev_aload_n (pc' := 65) dX0_tell_64 rfl rfl ?_
    refine ev_getf (pc' := 68) fl_0_37 dX0_tell_65 rfl rfl rfl ?_
    refine ev_iload (pc' := 70) dX0_tell_68 rfl rfl ?_
    refine ev_cNv3 (pc' := 73) cl_0_44 (k_put rfl (by decide) (WB_a6 _ _)) dX0_tell_70 rfl rfl ?_
    refine ev_gen (W := WB) (fun σ_70 e_70 => ?_)
    refine ev_aload_n (pc' := 74) dX0_tell_73 rfl rfl ?_
    refine ev_getf (pc' := 77) fl_0_30 dX0_tell_74 rfl rfl rfl ?_
    refine ev_aload_n (pc' := 78) dX0_tell_77 rfl rfl ?_
    refine ev_getf (pc' := 81) fl_0_37 dX0_tell_78 rfl rfl rfl ?_
    refine ev_iload (pc' := 83) dX0_tell_81 rfl rfl ?_
    refine ev_cNv3 (pc' := 86) cl_0_44 (k_put rfl (by decide) (WB_a7 _ _)) dX0_tell_83 rfl rfl ?_
    refine ev_gen (W := WB) (fun σ_83 e_83 => ?_)
    refine ev_aload_n (pc' := 87) dX0_tell_86 rfl rfl ?_
    refine ev_dup (pc' := 88) dX0_tell_87 rfl rfl ?_
    refine ev_getf (pc' := 91) fl_0_40 dX0_tell_88 rfl rfl rfl ?_
    refine ev_iload_n (pc' := 92) dX0_tell_91 rfl rfl ?_
    refine ev_iconst (pc' := 93) (v := 2) dX0_tell_92 rfl (by decide) ?_
    refine ev_icmp_gt (tgt := 100) (pc' := 96) dX0_tell_93 (by decide) rfl (fun h_93 => ?_) (fun h_93 => ?_)
    · refine ev_iconst (pc' := 101) (v := 0) dX0_tell_100 rfl (by decide) ?_
      refine ev_iadd (pc' := 102) dX0_tell_101 rfl ?_
      refine ev_putf (pc' := 105) fs_0_40 dX0_tell_102 rfl rfl (Nat.le_of_ble_eq_true rfl) (fun _ => rfl) (fun _ => rfl) (WB_p0_9 _ _) ?_
      refine ev_gen (W := WB) (fun σ_102 e_102 => ?_)
      refine ev_aload_n (pc' := 106) dX0_tell_105 rfl rfl ?_
      refine ev_dup (pc' := 107) dX0_tell_106 rfl rfl ?_
      refine ev_getf (pc' := 110) fl_0_37 dX0_tell_107 rfl rfl rfl ?_
      refine ev_iconst (pc' := 111) (v := 1) dX0_tell_110 rfl (by decide) ?_
      refine ev_iadd (pc' := 112) dX0_tell_111 rfl ?_
      refine ev_putf (pc' := 115) fs_0_37 dX0_tell_112 rfl rfl (Nat.le_of_ble_eq_true rfl) (fun _ => rfl) (fun _ => rfl) (WB_p0_8 _ _) ?_
      refine ev_gen (W := WB) (fun σ_112 e_112 => ?_)
      refine ev_aload_n (pc' := 116) dX0_tell_115 rfl rfl ?_
      refine ev_getf (pc' := 119) fl_0_37 dX0_tell_116 rfl rfl rfl ?_
      refine ev_iconst (pc' := 120) (v := 1) dX0_tell_119 rfl (by decide) ?_
      refine ev_isub (pc' := 121) dX0_tell_120 rfl ?_
      refine ev_ireturn rfl dX0_tell_121 ?_
      rw [if_neg (by simp only [fa_lt, fa_le] at *; omega)]
      subst_vars
      unfold b_told
      first | (rw [if_pos (by simp only [fa_lt, fa_le] at *; omega)]; exact ⟨rfl, rfl⟩) | (rw [if_neg (by simp only [fa_lt, fa_le] at *; omega)]; exact ⟨rfl, rfl⟩)
    · refine ev_iconst (pc' := 97) (v := 1) dX0_tell_96 rfl (by decide) ?_
      refine ev_goto (tgt := 101) dX0_tell_97 (by decide) ?_
      refine ev_iadd (pc' := 102) dX0_tell_101 rfl ?_
      refine ev_putf (pc' := 105) fs_0_40 dX0_tell_102 rfl rfl (Nat.le_of_ble_eq_true rfl) (fun _ => rfl) (fun _ => rfl) (WB_p0_9 _ _) ?_
      refine ev_gen (W := WB) (fun σ_102 e_102 => ?_)
      refine ev_aload_n (pc' := 106) dX0_tell_105 rfl rfl ?_
      refine ev_dup (pc' := 107) dX0_tell_106 rfl rfl ?_
      refine ev_getf (pc' := 110) fl_0_37 dX0_tell_107 rfl rfl rfl ?_
      refine ev_iconst (pc' := 111) (v := 1) dX0_tell_110 rfl (by decide) ?_
      refine ev_iadd (pc' := 112) dX0_tell_111 rfl ?_
      refine ev_putf (pc' := 115) fs_0_37 dX0_tell_112 rfl rfl (Nat.le_of_ble_eq_true rfl) (fun _ => rfl) (fun _ => rfl) (WB_p0_8 _ _) ?_
      refine ev_gen (W := WB) (fun σ_112 e_112 => ?_)
      refine ev_aload_n (pc' := 116) dX0_tell_115 rfl rfl ?_
      refine ev_getf (pc' := 119) fl_0_37 dX0_tell_116 rfl rfl rfl ?_
      refine ev_iconst (pc' := 120) (v := 1) dX0_tell_119 rfl (by decide) ?_
      refine ev_isub (pc' := 121) dX0_tell_120 rfl ?_
      refine ev_ireturn rfl dX0_tell_121 ?_
      rw [if_neg (by simp only [fa_lt, fa_le] at *; omega)]
      subst_vars
      unfold b_told
      first | (rw [if_pos (by simp only [fa_lt, fa_le] at *; omega)]; exact ⟨rfl, rfl⟩) | (rw [if_neg (by simp only [fa_lt, fa_le] at *; omega)]; exact ⟨rfl, rfl⟩)
  · refine ev_iconst (pc' := 10) (v := -1) dX0_tell_9 rfl (by decide) ?_
    refine ev_ireturn rfl dX0_tell_10 ?_
    rw [if_pos (by simp only [fa_lt, fa_le] at *; omega)]
    exact ⟨rfl, rfl⟩
def b_came (σ : Nat → Nat → Int32) (x : Int32) : Nat → Nat → Int32 := s2 (s1 σ 1 (putF 8 (σ 1) (σ 0 7) x)) 0 7 (σ 0 7 + 1)
theorem k_addPerson {d : Nat} (σ : Nat → Nat → Int32) (x : Int32) : Ok (d + 1) M0_addPerson [.ref 0, .int x] (WB σ) (if 8 ≤ σ 0 7 ∨ x < 0 ∨ 40000 < x then rt (some (.int (-1))) (WB σ) else rt (some (.int (σ 0 7 + 1 - 1))) (WB (b_came σ x))) := by
  refine Ok.of (ls := [some _, some _]) (by decide +kernel) (Nat.le_of_ble_eq_true rfl) rfl ?_
  refine ev_aload_n (pc' := 1) dX0_addPerson_0 rfl rfl ?_
  refine ev_getf (pc' := 4) fl_0_33 dX0_addPerson_1 rfl rfl rfl ?_
  refine ev_bipush (pc' := 6) (v := 8) dX0_addPerson_4 rfl (by decide) ?_
  refine ev_icmp_ge (tgt := 19) (pc' := 9) dX0_addPerson_6 (by decide) rfl (fun h_6 => ?_) (fun h_6 => ?_)
  · refine ev_iconst (pc' := 20) (v := -1) dX0_addPerson_19 rfl (by decide) ?_
    refine ev_ireturn rfl dX0_addPerson_20 ?_
    first
      | (rw [if_pos (by simp only [fa_lt, fa_le] at *; omega)]; exact ⟨rfl, rfl⟩)
      | (rw [if_neg (by simp only [fa_lt, fa_le] at *; omega)]; subst_vars; exact ⟨rfl, rfl⟩)
  · refine ev_iload_n (pc' := 10) dX0_addPerson_9 rfl rfl ?_
    refine ev_if_lt (tgt := 19) (pc' := 13) dX0_addPerson_10 (by decide) rfl (fun h_10 => ?_) (fun h_10 => ?_)
    · refine ev_iconst (pc' := 20) (v := -1) dX0_addPerson_19 rfl (by decide) ?_
      refine ev_ireturn rfl dX0_addPerson_20 ?_
      first
        | (rw [if_pos (by simp only [fa_lt, fa_le] at *; omega)]; exact ⟨rfl, rfl⟩)
        | (rw [if_neg (by simp only [fa_lt, fa_le] at *; omega)]; subst_vars; exact ⟨rfl, rfl⟩)
    · refine ev_iload_n (pc' := 14) dX0_addPerson_13 rfl rfl ?_
      refine ev_ldc (pc' := 16) cn_0_43 dX0_addPerson_14 rfl ?_
      refine ev_icmp_le (tgt := 21) (pc' := 19) dX0_addPerson_16 (by decide) rfl (fun h_16 => ?_) (fun h_16 => ?_)
      · refine ev_aload_n (pc' := 22) dX0_addPerson_21 rfl rfl ?_
        refine ev_getf (pc' := 25) fl_0_9 dX0_addPerson_22 rfl rfl rfl ?_
        refine ev_aload_n (pc' := 26) dX0_addPerson_25 rfl rfl ?_
        refine ev_getf (pc' := 29) fl_0_33 dX0_addPerson_26 rfl rfl rfl ?_
        refine ev_iload_n (pc' := 30) dX0_addPerson_29 rfl rfl ?_
        refine ev_cNv3 (pc' := 33) cl_0_44 (k_put rfl (by decide) (WB_a1 _ _)) dX0_addPerson_30 rfl rfl ?_
        refine ev_gen (W := WB) (fun σ_30 e_30 => ?_)
        refine ev_aload_n (pc' := 34) dX0_addPerson_33 rfl rfl ?_
        refine ev_dup (pc' := 35) dX0_addPerson_34 rfl rfl ?_
        refine ev_getf (pc' := 38) fl_0_33 dX0_addPerson_35 rfl rfl rfl ?_
        refine ev_iconst (pc' := 39) (v := 1) dX0_addPerson_38 rfl (by decide) ?_
        refine ev_iadd (pc' := 40) dX0_addPerson_39 rfl ?_
        refine ev_putf (pc' := 43) fs_0_33 dX0_addPerson_40 rfl rfl (Nat.le_of_ble_eq_true rfl) (fun _ => rfl) (fun _ => rfl) (WB_p0_7 _ _) ?_
        refine ev_gen (W := WB) (fun σ_40 e_40 => ?_)
        refine ev_aload_n (pc' := 44) dX0_addPerson_43 rfl rfl ?_
        refine ev_getf (pc' := 47) fl_0_33 dX0_addPerson_44 rfl rfl rfl ?_
        refine ev_iconst (pc' := 48) (v := 1) dX0_addPerson_47 rfl (by decide) ?_
        refine ev_isub (pc' := 49) dX0_addPerson_48 rfl ?_
        refine ev_ireturn rfl dX0_addPerson_49 ?_
        first
          | (rw [if_pos (by simp only [fa_lt, fa_le] at *; omega)]; exact ⟨rfl, rfl⟩)
          | (rw [if_neg (by simp only [fa_lt, fa_le] at *; omega)]; subst_vars; exact ⟨rfl, rfl⟩)
      · refine ev_iconst (pc' := 20) (v := -1) dX0_addPerson_19 rfl (by decide) ?_
        refine ev_ireturn rfl dX0_addPerson_20 ?_
        first
          | (rw [if_pos (by simp only [fa_lt, fa_le] at *; omega)]; exact ⟨rfl, rfl⟩)
          | (rw [if_neg (by simp only [fa_lt, fa_le] at *; omega)]; subst_vars; exact ⟨rfl, rfl⟩)
