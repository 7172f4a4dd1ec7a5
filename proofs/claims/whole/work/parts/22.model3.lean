/-! The model, third part: what is told. -/
def m_day (y : Int32) : Bool := decide (0 ≤ y ∧ y < 400)
theorem m_isDay {d : Nat} (w : MW) (y : Int32) : Ok d M7_isDay [.int y] w (rt (some (.int (bI (m_day y)))) w) := by
  refine Ok.of (ls := [some _]) (by decide +kernel) (Nat.le_of_ble_eq_true rfl) rfl ?_
  refine ev_iload_n (pc' := 1) dX7_isDay_0 rfl rfl ?_
  refine ev_if_lt (tgt := 15) (pc' := 4) dX7_isDay_1 (by decide) rfl (fun h_1 => ?_) (fun h_1 => ?_)
  · refine ev_iconst (pc' := 16) (v := 0) dX7_isDay_15 rfl (by decide) ?_
    refine ev_zreturn rfl rfl dX7_isDay_16 ?_
    refine rt_i ?_ rfl
    unfold m_day
    simp only [fa_lt, fa_le, Int32.reduceToInt] at *
    first | (rw [decide_eq_true (by omega)]; rfl) | (rw [decide_eq_false (by omega)]; rfl)
  · refine ev_iload_n (pc' := 5) dX7_isDay_4 rfl rfl ?_
    refine ev_sipush (pc' := 8) (v := 400) dX7_isDay_5 rfl (by decide) ?_
    refine ev_icmp_ge (tgt := 15) (pc' := 11) dX7_isDay_8 (by decide) rfl (fun h_8 => ?_) (fun h_8 => ?_)
    · refine ev_iconst (pc' := 16) (v := 0) dX7_isDay_15 rfl (by decide) ?_
      refine ev_zreturn rfl rfl dX7_isDay_16 ?_
      refine rt_i ?_ rfl
      unfold m_day
      simp only [fa_lt, fa_le, Int32.reduceToInt] at *
      first | (rw [decide_eq_true (by omega)]; rfl) | (rw [decide_eq_false (by omega)]; rfl)
    · refine ev_iconst (pc' := 12) (v := 1) dX7_isDay_11 rfl (by decide) ?_
      refine ev_goto (tgt := 16) dX7_isDay_12 (by decide) ?_
      refine ev_zreturn rfl rfl dX7_isDay_16 ?_
      refine rt_i ?_ rfl
      unfold m_day
      simp only [fa_lt, fa_le, Int32.reduceToInt] at *
      first | (rw [decide_eq_true (by omega)]; rfl) | (rw [decide_eq_false (by omega)]; rfl)
theorem m_isPerson {d : Nat} (σ : RS) (τ : TS) (x : Int32) : Ok d M7_isPerson [.ref 0, .int x] (WM σ τ) (rt (some (.int (bI (b_isPerson (σ 0 37) x)))) (WM σ τ)) := by
  refine Ok.of (ls := [some _, some _]) (by decide +kernel) (Nat.le_of_ble_eq_true rfl) rfl ?_
  refine ev_iload_n (pc' := 1) dX7_isPerson_0 rfl rfl ?_
  refine ev_if_lt (tgt := 16) (pc' := 4) dX7_isPerson_1 (by decide) rfl (fun h_1 => ?_) (fun h_1 => ?_)
  · refine ev_iconst (pc' := 17) (v := 0) dX7_isPerson_16 rfl (by decide) ?_
    refine ev_zreturn rfl rfl dX7_isPerson_17 ?_
    refine rt_i ?_ rfl
    unfold b_isPerson
    simp only [fa_lt, fa_le, Int32.toInt_zero] at *
    first | (rw [decide_eq_true (by omega)]; rfl) | (rw [decide_eq_false (by omega)]; rfl)
  · refine ev_iload_n (pc' := 5) dX7_isPerson_4 rfl rfl ?_
    refine ev_aload_n (pc' := 6) dX7_isPerson_5 rfl rfl ?_
    refine ev_getf (pc' := 9) fl_7_262 dX7_isPerson_6 rfl rfl rfl ?_
    refine ev_icmp_ge (tgt := 16) (pc' := 12) dX7_isPerson_9 (by decide) rfl (fun h_9 => ?_) (fun h_9 => ?_)
    · refine ev_iconst (pc' := 17) (v := 0) dX7_isPerson_16 rfl (by decide) ?_
      refine ev_zreturn rfl rfl dX7_isPerson_17 ?_
      refine rt_i ?_ rfl
      unfold b_isPerson
      simp only [fa_lt, fa_le, Int32.toInt_zero] at *
      first | (rw [decide_eq_true (by omega)]; rfl) | (rw [decide_eq_false (by omega)]; rfl)
    · refine ev_iconst (pc' := 13) (v := 1) dX7_isPerson_12 rfl (by decide) ?_
      refine ev_goto (tgt := 17) dX7_isPerson_13 (by decide) ?_
      refine ev_zreturn rfl rfl dX7_isPerson_17 ?_
      refine rt_i ?_ rfl
      unfold b_isPerson
      simp only [fa_lt, fa_le, Int32.toInt_zero] at *
      first | (rw [decide_eq_true (by omega)]; rfl) | (rw [decide_eq_false (by omega)]; rfl)
theorem m_isKnown {d : Nat} (σ : RS) (τ : TS) (x : Int32) : Ok d M7_isKnown [.ref 0, .int x] (WM σ τ) (rt (some (.int (bI (b_isFirst (σ 0 39) x)))) (WM σ τ)) := by
  refine Ok.of (ls := [some _, some _]) (by decide +kernel) (Nat.le_of_ble_eq_true rfl) rfl ?_
  refine ev_iload_n (pc' := 1) dX7_isKnown_0 rfl rfl ?_
  refine ev_if_lt (tgt := 16) (pc' := 4) dX7_isKnown_1 (by decide) rfl (fun h_1 => ?_) (fun h_1 => ?_)
  · refine ev_iconst (pc' := 17) (v := 0) dX7_isKnown_16 rfl (by decide) ?_
    refine ev_zreturn rfl rfl dX7_isKnown_17 ?_
    refine rt_i ?_ rfl
    unfold b_isFirst
    simp only [fa_lt, fa_le, Int32.toInt_zero] at *
    first | (rw [decide_eq_true (by omega)]; rfl) | (rw [decide_eq_false (by omega)]; rfl)
  · refine ev_iload_n (pc' := 5) dX7_isKnown_4 rfl rfl ?_
    refine ev_aload_n (pc' := 6) dX7_isKnown_5 rfl rfl ?_
    refine ev_getf (pc' := 9) fl_7_265 dX7_isKnown_6 rfl rfl rfl ?_
    refine ev_icmp_gt (tgt := 16) (pc' := 12) dX7_isKnown_9 (by decide) rfl (fun h_9 => ?_) (fun h_9 => ?_)
    · refine ev_iconst (pc' := 17) (v := 0) dX7_isKnown_16 rfl (by decide) ?_
      refine ev_zreturn rfl rfl dX7_isKnown_17 ?_
      refine rt_i ?_ rfl
      unfold b_isFirst
      simp only [fa_lt, fa_le, Int32.toInt_zero] at *
      first | (rw [decide_eq_true (by omega)]; rfl) | (rw [decide_eq_false (by omega)]; rfl)
    · refine ev_iconst (pc' := 13) (v := 1) dX7_isKnown_12 rfl (by decide) ?_
      refine ev_goto (tgt := 17) dX7_isKnown_13 (by decide) ?_
      refine ev_zreturn rfl rfl dX7_isKnown_17 ?_
      refine rt_i ?_ rfl
      unfold b_isFirst
      simp only [fa_lt, fa_le, Int32.toInt_zero] at *
      first | (rw [decide_eq_true (by omega)]; rfl) | (rw [decide_eq_false (by omega)]; rfl)
def m_came (σ : RS) (n : Nat) (x : Int32) : RS := s2 (s2 (s1 σ 23 (upd (σ 23) n x)) 0 37 (nI (n + 1))) 0 47 (-1)
theorem m_person {d : Nat} (σ : RS) (τ : TS) (n : Nat) (hn : n ≤ 8) (h37 : σ 0 37 = nI n) (x : Int32) : Ok d M7_person [.ref 0, .int x] (WM σ τ) (if n = 8 ∨ x < 0 ∨ 40000 < x then rt (some (.int (-1))) (WM σ τ) else rt (some (.int (nI n))) (WM (m_came σ n x) τ)) := by
  have e1 : (σ 0 37).toNatClampNeg = n := by rw [h37]; exact nI_clamp (by omega)
  have e2 : σ 0 37 + 1 - 1 = nI n := by rw [h37, nI_1, nI_pred]
  refine Ok.of (ls := [some _, some _]) (by decide +kernel) (Nat.le_of_ble_eq_true rfl) rfl ?_
  refine ev_aload_n (pc' := 1) dX7_person_0 rfl rfl ?_
  refine ev_getf (pc' := 4) fl_7_262 dX7_person_1 rfl rfl rfl ?_
  refine ev_bipush (pc' := 6) (v := 8) dX7_person_4 rfl (by decide) ?_
  refine ev_icmp_eq (tgt := 20) (pc' := 9) dX7_person_6 (by decide) rfl (fun h_6 => ?_) (fun h_6 => ?_)
  · have h6 : n = 8 := (nI_eq (by omega) (by omega)).mp (h37.symm.trans h_6)
    rw [if_pos (Or.inl h6)]
    refine ev_iconst (pc' := 21) (v := -1) dX7_person_20 rfl (by decide) ?_
    refine ev_ireturn rfl dX7_person_21 ?_
    exact ⟨rfl, rfl⟩
  · have h6 : ¬ n = 8 := fun z => h_6 (by rw [h37, z]; rfl)
    refine ev_iload_n (pc' := 10) dX7_person_9 rfl rfl ?_
    refine ev_if_lt (tgt := 20) (pc' := 13) dX7_person_10 (by decide) rfl (fun h_10 => ?_) (fun h_10 => ?_)
    · rw [if_pos (Or.inr (Or.inl h_10))]
      refine ev_iconst (pc' := 21) (v := -1) dX7_person_20 rfl (by decide) ?_
      refine ev_ireturn rfl dX7_person_21 ?_
      exact ⟨rfl, rfl⟩
    · refine ev_iload_n (pc' := 14) dX7_person_13 rfl rfl ?_
      refine ev_ldc_w (pc' := 17) cn_7_268 dX7_person_14 rfl ?_
      refine ev_icmp_le (tgt := 22) (pc' := 20) dX7_person_17 (by decide) rfl (fun h_17 => ?_) (fun h_17 => ?_)
      · rw [if_neg (fun z => z.elim h6 (fun z => z.elim h_10 (fun z => absurd z (Int32.not_lt.mpr h_17))))]
        refine ev_aload_n (pc' := 23) dX7_person_22 rfl rfl ?_
        refine ev_getf (pc' := 26) fl_7_86 dX7_person_23 rfl rfl rfl ?_
        refine ev_aload_n (pc' := 27) dX7_person_26 rfl rfl ?_
        refine ev_getf (pc' := 30) fl_7_262 dX7_person_27 rfl rfl rfl ?_
        refine ev_iload_n (pc' := 31) dX7_person_30 rfl rfl ?_
        refine ev_iast (pc' := 32) dX7_person_31 rfl rfl ?_ (WM_a23 _ _ _) ?_
        · rw [h37]; exact vp_in_nI (by omega) (by omega)
        refine ev_aload_n (pc' := 33) dX7_person_32 rfl rfl ?_
        refine ev_dup (pc' := 34) dX7_person_33 rfl rfl ?_
        refine ev_getf (pc' := 37) fl_7_262 dX7_person_34 rfl rfl rfl ?_
        refine ev_iconst (pc' := 38) (v := 1) dX7_person_37 rfl (by decide) ?_
        refine ev_iadd (pc' := 39) dX7_person_38 rfl ?_
        refine ev_putf (pc' := 42) fs_7_262 dX7_person_39 rfl rfl (Nat.le_of_ble_eq_true rfl) (fun _ => rfl) (fun _ => rfl) (WM_p7_37 _ _ _) ?_
        refine ev_aload_n (pc' := 43) dX7_person_42 rfl rfl ?_
        refine ev_iconst (pc' := 44) (v := -1) dX7_person_43 rfl (by decide) ?_
        refine ev_putf (pc' := 47) fs_7_110 dX7_person_44 rfl rfl (Nat.le_of_ble_eq_true rfl) (fun _ => rfl) (fun _ => rfl) (WM_p7_47 _ _ _) ?_
        refine ev_aload_n (pc' := 48) dX7_person_47 rfl rfl ?_
        refine ev_getf (pc' := 51) fl_7_262 dX7_person_48 rfl rfl rfl ?_
        refine ev_iconst (pc' := 52) (v := 1) dX7_person_51 rfl (by decide) ?_
        refine ev_isub (pc' := 53) dX7_person_52 rfl ?_
        refine ev_ireturn rfl dX7_person_53 ?_
        show rt _ _ (some (.int (σ 0 37 + 1 - 1))) _
        rw [e2]
        refine rt_of rfl ?_
        unfold m_came
        rw [← nI_1, ← h37, ← e1]
        rfl
      · rw [if_pos (Or.inr (Or.inr (Int32.not_le.mp h_17)))]
        refine ev_iconst (pc' := 21) (v := -1) dX7_person_20 rfl (by decide) ?_
        refine ev_ireturn rfl dX7_person_21 ?_
        exact ⟨rfl, rfl⟩
def m_told (σ : RS) (n : Nat) (s day a b p y what : Int32) : RS := s2 (s1 (s1 (s1 (s1 (s1 (s1 (s1 σ 24 (upd (σ 24) n s)) 25 (upd (σ 25) n day)) 26 (upd (σ 26) n a)) 27 (upd (σ 27) n b)) 28 (upd (σ 28) n p)) 29 (upd (σ 29) n y)) 30 (upd (σ 30) n what)) 0 39 (nI (n + 1))
theorem m_fact {d : Nat} (σ : RS) (τ : TS) (n : Nat) (hn : n < 120) (h39 : σ 0 39 = nI n) (s day a b p y what : Int32) : Ok d M7_fact [.ref 0, .int s, .int day, .int a, .int b, .int p, .int y, .int what] (WM σ τ) (rt (some (.int (nI n))) (WM (m_told σ n s day a b p y what) τ)) := by
  have e1 : (σ 0 39).toNatClampNeg = n := by rw [h39]; exact nI_clamp (by omega)
  have e2 : σ 0 39 + 1 - 1 = nI n := by rw [h39, nI_1, nI_pred]
  have hv : vp_in (σ 0 39) 120 := by rw [h39]; exact vp_in_nI (by omega) (by omega)
  refine Ok.of (ls := [some _, some _, some _, some _, some _, some _, some _, some _]) (by decide +kernel) (Nat.le_of_ble_eq_true rfl) rfl ?_
  refine ev_aload_n (pc' := 1) dX7_fact_0 rfl rfl ?_
  refine ev_getf (pc' := 4) fl_7_89 dX7_fact_1 rfl rfl rfl ?_
  refine ev_aload_n (pc' := 5) dX7_fact_4 rfl rfl ?_
  refine ev_getf (pc' := 8) fl_7_265 dX7_fact_5 rfl rfl rfl ?_
  refine ev_iload_n (pc' := 9) dX7_fact_8 rfl rfl ?_
  refine ev_iast (pc' := 10) dX7_fact_9 rfl rfl ?_ (WM_a24 _ _ _) ?_
  · exact hv
  refine ev_aload_n (pc' := 11) dX7_fact_10 rfl rfl ?_
  refine ev_getf (pc' := 14) fl_7_92 dX7_fact_11 rfl rfl rfl ?_
  refine ev_aload_n (pc' := 15) dX7_fact_14 rfl rfl ?_
  refine ev_getf (pc' := 18) fl_7_265 dX7_fact_15 rfl rfl rfl ?_
  refine ev_iload_n (pc' := 19) dX7_fact_18 rfl rfl ?_
  refine ev_iast (pc' := 20) dX7_fact_19 rfl rfl ?_ (WM_a25 _ _ _) ?_
  · exact hv
  refine ev_aload_n (pc' := 21) dX7_fact_20 rfl rfl ?_
  refine ev_getf (pc' := 24) fl_7_95 dX7_fact_21 rfl rfl rfl ?_
  refine ev_aload_n (pc' := 25) dX7_fact_24 rfl rfl ?_
  refine ev_getf (pc' := 28) fl_7_265 dX7_fact_25 rfl rfl rfl ?_
  refine ev_iload_n (pc' := 29) dX7_fact_28 rfl rfl ?_
  refine ev_iast (pc' := 30) dX7_fact_29 rfl rfl ?_ (WM_a26 _ _ _) ?_
  · exact hv
  refine ev_aload_n (pc' := 31) dX7_fact_30 rfl rfl ?_
  refine ev_getf (pc' := 34) fl_7_98 dX7_fact_31 rfl rfl rfl ?_
  refine ev_aload_n (pc' := 35) dX7_fact_34 rfl rfl ?_
  refine ev_getf (pc' := 38) fl_7_265 dX7_fact_35 rfl rfl rfl ?_
  refine ev_iload (pc' := 40) dX7_fact_38 rfl rfl ?_
  refine ev_iast (pc' := 41) dX7_fact_40 rfl rfl ?_ (WM_a27 _ _ _) ?_
  · exact hv
  refine ev_aload_n (pc' := 42) dX7_fact_41 rfl rfl ?_
  refine ev_getf (pc' := 45) fl_7_101 dX7_fact_42 rfl rfl rfl ?_
  refine ev_aload_n (pc' := 46) dX7_fact_45 rfl rfl ?_
  refine ev_getf (pc' := 49) fl_7_265 dX7_fact_46 rfl rfl rfl ?_
  refine ev_iload (pc' := 51) dX7_fact_49 rfl rfl ?_
  refine ev_iast (pc' := 52) dX7_fact_51 rfl rfl ?_ (WM_a28 _ _ _) ?_
  · exact hv
  refine ev_aload_n (pc' := 53) dX7_fact_52 rfl rfl ?_
  refine ev_getf (pc' := 56) fl_7_104 dX7_fact_53 rfl rfl rfl ?_
  refine ev_aload_n (pc' := 57) dX7_fact_56 rfl rfl ?_
  refine ev_getf (pc' := 60) fl_7_265 dX7_fact_57 rfl rfl rfl ?_
  refine ev_iload (pc' := 62) dX7_fact_60 rfl rfl ?_
  refine ev_iast (pc' := 63) dX7_fact_62 rfl rfl ?_ (WM_a29 _ _ _) ?_
  · exact hv
  refine ev_aload_n (pc' := 64) dX7_fact_63 rfl rfl ?_
  refine ev_getf (pc' := 67) fl_7_107 dX7_fact_64 rfl rfl rfl ?_
  refine ev_aload_n (pc' := 68) dX7_fact_67 rfl rfl ?_
  refine ev_getf (pc' := 71) fl_7_265 dX7_fact_68 rfl rfl rfl ?_
  refine ev_iload (pc' := 73) dX7_fact_71 rfl rfl ?_
  refine ev_iast (pc' := 74) dX7_fact_73 rfl rfl ?_ (WM_a30 _ _ _) ?_
  · exact hv
  refine ev_aload_n (pc' := 75) dX7_fact_74 rfl rfl ?_
  refine ev_dup (pc' := 76) dX7_fact_75 rfl rfl ?_
  refine ev_getf (pc' := 79) fl_7_265 dX7_fact_76 rfl rfl rfl ?_
  refine ev_iconst (pc' := 80) (v := 1) dX7_fact_79 rfl (by decide) ?_
  refine ev_iadd (pc' := 81) dX7_fact_80 rfl ?_
  refine ev_putf (pc' := 84) fs_7_265 dX7_fact_81 rfl rfl (Nat.le_of_ble_eq_true rfl) (fun _ => rfl) (fun _ => rfl) (WM_p7_39 _ _ _) ?_
  refine ev_aload_n (pc' := 85) dX7_fact_84 rfl rfl ?_
  refine ev_getf (pc' := 88) fl_7_265 dX7_fact_85 rfl rfl rfl ?_
  refine ev_iconst (pc' := 89) (v := 1) dX7_fact_88 rfl (by decide) ?_
  refine ev_isub (pc' := 90) dX7_fact_89 rfl ?_
  refine ev_ireturn rfl dX7_fact_90 ?_
  show rt _ _ (some (.int (σ 0 39 + 1 - 1))) _
  rw [e2]
  refine rt_of rfl ?_
  unfold m_told
  rw [← nI_1, ← h39, ← e1]
  rfl
def m_okGift (σ : RS) (m a p y b : Int32) : Bool := decide (¬ σ 0 39 = 120) && m_day m && b_isPerson (σ 0 37) a && b_isPerson (σ 0 37) p && m_day y && b_isPerson (σ 0 37) b && decide (¬ a = b)
theorem lt_120 {σ : RS} {n : Nat} (hn : n ≤ 120) (h39 : σ 0 39 = nI n) (h : ¬ σ 0 39 = 120) : n < 120 := Nat.lt_of_le_of_ne hn (fun z => h (by rw [h39, z]; rfl))
theorem m_gives {d : Nat} (σ : RS) (τ : TS) (n : Nat) (hn : n ≤ 120) (h39 : σ 0 39 = nI n) (s m a p y b : Int32) : Ok (d + 1) M7_gives [.ref 0, .int s, .int m, .int a, .int p, .int y, .int b] (WM σ τ) (if m_okGift σ m a p y b = true then rt (some (.int (nI n))) (WM (m_told σ n s m a b p y 0) τ) else rt (some (.int (-1))) (WM σ τ)) := by
  refine Ok.of (ls := [some _, some _, some _, some _, some _, some _, some _]) (by decide +kernel) (Nat.le_of_ble_eq_true rfl) rfl ?_
  refine ev_aload_n (pc' := 1) dX7_gives_0 rfl rfl ?_
  refine ev_getf (pc' := 4) fl_7_265 dX7_gives_1 rfl rfl rfl ?_
  refine ev_bipush (pc' := 6) (v := 120) dX7_gives_4 rfl (by decide) ?_
  refine ev_icmp_eq (tgt := 56) (pc' := 9) dX7_gives_6 (by decide) rfl (fun h_6 => ?_) (fun h_6 => ?_)
  · rw [if_neg (by unfold m_okGift; simp_all)]
    refine ev_iconst (pc' := 57) (v := -1) dX7_gives_56 rfl (by decide) ?_
    refine ev_goto (tgt := 74) dX7_gives_57 (by decide) ?_
    refine ev_ireturn rfl dX7_gives_74 ?_
    exact ⟨rfl, rfl⟩
  · refine ev_iload_n (pc' := 10) dX7_gives_9 rfl rfl ?_
    refine ev_cSi1 (pc' := 13) cl_7_269 (m_isDay _ _) dX7_gives_10 rfl rfl ?_
    refine ev_if_eq (tgt := 56) (pc' := 16) dX7_gives_13 (by decide) rfl (fun h_13 => ?_) (fun h_13 => ?_)
    · rw [bI_0] at h_13
      rw [if_neg (by unfold m_okGift; simp_all)]
      refine ev_iconst (pc' := 57) (v := -1) dX7_gives_56 rfl (by decide) ?_
      refine ev_goto (tgt := 74) dX7_gives_57 (by decide) ?_
      refine ev_ireturn rfl dX7_gives_74 ?_
      exact ⟨rfl, rfl⟩
    · rw [bI_0, Bool.not_eq_false] at h_13
      refine ev_aload_n (pc' := 17) dX7_gives_16 rfl rfl ?_
      refine ev_iload_n (pc' := 18) dX7_gives_17 rfl rfl ?_
      refine ev_cVi1 (pc' := 21) cl_7_272 (m_isPerson _ _ _) dX7_gives_18 rfl rfl rfl rfl ?_
      refine ev_if_eq (tgt := 56) (pc' := 24) dX7_gives_21 (by decide) rfl (fun h_21 => ?_) (fun h_21 => ?_)
      · rw [bI_0] at h_21
        rw [if_neg (by unfold m_okGift; simp_all)]
        refine ev_iconst (pc' := 57) (v := -1) dX7_gives_56 rfl (by decide) ?_
        refine ev_goto (tgt := 74) dX7_gives_57 (by decide) ?_
        refine ev_ireturn rfl dX7_gives_74 ?_
        exact ⟨rfl, rfl⟩
      · rw [bI_0, Bool.not_eq_false] at h_21
        refine ev_aload_n (pc' := 25) dX7_gives_24 rfl rfl ?_
        refine ev_iload (pc' := 27) dX7_gives_25 rfl rfl ?_
        refine ev_cVi1 (pc' := 30) cl_7_272 (m_isPerson _ _ _) dX7_gives_27 rfl rfl rfl rfl ?_
        refine ev_if_eq (tgt := 56) (pc' := 33) dX7_gives_30 (by decide) rfl (fun h_30 => ?_) (fun h_30 => ?_)
        · rw [bI_0] at h_30
          rw [if_neg (by unfold m_okGift; simp_all)]
          refine ev_iconst (pc' := 57) (v := -1) dX7_gives_56 rfl (by decide) ?_
          refine ev_goto (tgt := 74) dX7_gives_57 (by decide) ?_
          refine ev_ireturn rfl dX7_gives_74 ?_
          exact ⟨rfl, rfl⟩
        · rw [bI_0, Bool.not_eq_false] at h_30
          refine ev_iload (pc' := 35) dX7_gives_33 rfl rfl ?_
          refine ev_cSi1 (pc' := 38) cl_7_269 (m_isDay _ _) dX7_gives_35 rfl rfl ?_
          refine ev_if_eq (tgt := 56) (pc' := 41) dX7_gives_38 (by decide) rfl (fun h_38 => ?_) (fun h_38 => ?_)
          · rw [bI_0] at h_38
            rw [if_neg (by unfold m_okGift; simp_all)]
            refine ev_iconst (pc' := 57) (v := -1) dX7_gives_56 rfl (by decide) ?_
            refine ev_goto (tgt := 74) dX7_gives_57 (by decide) ?_
            refine ev_ireturn rfl dX7_gives_74 ?_
            exact ⟨rfl, rfl⟩
          · rw [bI_0, Bool.not_eq_false] at h_38
            refine ev_aload_n (pc' := 42) dX7_gives_41 rfl rfl ?_
            refine ev_iload (pc' := 44) dX7_gives_42 rfl rfl ?_
            refine ev_cVi1 (pc' := 47) cl_7_272 (m_isPerson _ _ _) dX7_gives_44 rfl rfl rfl rfl ?_
            refine ev_if_eq (tgt := 56) (pc' := 50) dX7_gives_47 (by decide) rfl (fun h_47 => ?_) (fun h_47 => ?_)
            · rw [bI_0] at h_47
              rw [if_neg (by unfold m_okGift; simp_all)]
              refine ev_iconst (pc' := 57) (v := -1) dX7_gives_56 rfl (by decide) ?_
              refine ev_goto (tgt := 74) dX7_gives_57 (by decide) ?_
              refine ev_ireturn rfl dX7_gives_74 ?_
              exact ⟨rfl, rfl⟩
            · rw [bI_0, Bool.not_eq_false] at h_47
              refine ev_iload_n (pc' := 51) dX7_gives_50 rfl rfl ?_
              refine ev_iload (pc' := 53) dX7_gives_51 rfl rfl ?_
              refine ev_icmp_ne (tgt := 60) (pc' := 56) dX7_gives_53 (by decide) rfl (fun h_53 => ?_) (fun h_53 => ?_)
              · rw [if_pos (by unfold m_okGift; simp_all)]
                refine ev_aload_n (pc' := 61) dX7_gives_60 rfl rfl ?_
                refine ev_iload_n (pc' := 62) dX7_gives_61 rfl rfl ?_
                refine ev_iload_n (pc' := 63) dX7_gives_62 rfl rfl ?_
                refine ev_iload_n (pc' := 64) dX7_gives_63 rfl rfl ?_
                refine ev_iload (pc' := 66) dX7_gives_64 rfl rfl ?_
                refine ev_iload (pc' := 68) dX7_gives_66 rfl rfl ?_
                refine ev_iload (pc' := 70) dX7_gives_68 rfl rfl ?_
                refine ev_iconst (pc' := 71) (v := 0) dX7_gives_70 rfl (by decide) ?_
                refine ev_cVi7 (pc' := 74) cl_7_275 (m_fact σ τ n (lt_120 hn h39 h_6) h39 _ _ _ _ _ _ _) dX7_gives_71 rfl rfl rfl rfl ?_
                refine ev_ireturn rfl dX7_gives_74 ?_
                exact ⟨rfl, rfl⟩
              · rw [if_neg (by unfold m_okGift; simp_all)]
                refine ev_iconst (pc' := 57) (v := -1) dX7_gives_56 rfl (by decide) ?_
                refine ev_goto (tgt := 74) dX7_gives_57 (by decide) ?_
                refine ev_ireturn rfl dX7_gives_74 ?_
                exact ⟨rfl, rfl⟩
theorem m_loan {d : Nat} (σ : RS) (τ : TS) (n : Nat) (hn : n ≤ 120) (h39 : σ 0 39 = nI n) (m a p y b : Int32) : Ok (d + 2) M7_loan [.ref 0, .int m, .int a, .int p, .int y, .int b] (WM σ τ) (if m_okGift σ m a p y b = true then rt (some (.int (nI n))) (WM (m_told σ n 0 m a b p y 0) τ) else rt (some (.int (-1))) (WM σ τ)) := by
  have hg := m_gives (d := d) σ τ n hn h39 0 m a p y b
  by_cases h : m_okGift σ m a p y b = true
  · rw [if_pos h] at hg ⊢
    refine Ok.of (ls := [some _, some _, some _, some _, some _, some _]) (by decide +kernel) (Nat.le_of_ble_eq_true rfl) rfl ?_
    refine ev_aload_n (pc' := 1) dX7_loan_0 rfl rfl ?_
    refine ev_iconst (pc' := 2) (v := 0) dX7_loan_1 rfl (by decide) ?_
    refine ev_iload_n (pc' := 3) dX7_loan_2 rfl rfl ?_
    refine ev_iload_n (pc' := 4) dX7_loan_3 rfl rfl ?_
    refine ev_iload_n (pc' := 5) dX7_loan_4 rfl rfl ?_
    refine ev_iload (pc' := 7) dX7_loan_5 rfl rfl ?_
    refine ev_iload (pc' := 9) dX7_loan_7 rfl rfl ?_
    refine ev_cVi6 (pc' := 12) cl_7_279 (hg) dX7_loan_9 rfl rfl rfl rfl ?_
    refine ev_ireturn rfl dX7_loan_12 ?_
    exact ⟨rfl, rfl⟩
  · rw [if_neg h] at hg ⊢
    refine Ok.of (ls := [some _, some _, some _, some _, some _, some _]) (by decide +kernel) (Nat.le_of_ble_eq_true rfl) rfl ?_
    refine ev_aload_n (pc' := 1) dX7_loan_0 rfl rfl ?_
    refine ev_iconst (pc' := 2) (v := 0) dX7_loan_1 rfl (by decide) ?_
    refine ev_iload_n (pc' := 3) dX7_loan_2 rfl rfl ?_
    refine ev_iload_n (pc' := 4) dX7_loan_3 rfl rfl ?_
    refine ev_iload_n (pc' := 5) dX7_loan_4 rfl rfl ?_
    refine ev_iload (pc' := 7) dX7_loan_5 rfl rfl ?_
    refine ev_iload (pc' := 9) dX7_loan_7 rfl rfl ?_
    refine ev_cVi6 (pc' := 12) cl_7_279 (hg) dX7_loan_9 rfl rfl rfl rfl ?_
    refine ev_ireturn rfl dX7_loan_12 ?_
    exact ⟨rfl, rfl⟩
theorem m_pays {d : Nat} (σ : RS) (τ : TS) (n : Nat) (hn : n ≤ 120) (h39 : σ 0 39 = nI n) (m a p y b : Int32) : Ok (d + 2) M7_pays [.ref 0, .int m, .int a, .int p, .int y, .int b] (WM σ τ) (if m_okGift σ m a p y b = true then rt (some (.int (nI n))) (WM (m_told σ n 1 m a b p y 0) τ) else rt (some (.int (-1))) (WM σ τ)) := by
  have hg := m_gives (d := d) σ τ n hn h39 1 m a p y b
  by_cases h : m_okGift σ m a p y b = true
  · rw [if_pos h] at hg ⊢
    refine Ok.of (ls := [some _, some _, some _, some _, some _, some _]) (by decide +kernel) (Nat.le_of_ble_eq_true rfl) rfl ?_
    refine ev_aload_n (pc' := 1) dX7_pays_0 rfl rfl ?_
    refine ev_iconst (pc' := 2) (v := 1) dX7_pays_1 rfl (by decide) ?_
    refine ev_iload_n (pc' := 3) dX7_pays_2 rfl rfl ?_
    refine ev_iload_n (pc' := 4) dX7_pays_3 rfl rfl ?_
    refine ev_iload_n (pc' := 5) dX7_pays_4 rfl rfl ?_
    refine ev_iload (pc' := 7) dX7_pays_5 rfl rfl ?_
    refine ev_iload (pc' := 9) dX7_pays_7 rfl rfl ?_
    refine ev_cVi6 (pc' := 12) cl_7_279 (hg) dX7_pays_9 rfl rfl rfl rfl ?_
    refine ev_ireturn rfl dX7_pays_12 ?_
    exact ⟨rfl, rfl⟩
  · rw [if_neg h] at hg ⊢
    refine Ok.of (ls := [some _, some _, some _, some _, some _, some _]) (by decide +kernel) (Nat.le_of_ble_eq_true rfl) rfl ?_
    refine ev_aload_n (pc' := 1) dX7_pays_0 rfl rfl ?_
    refine ev_iconst (pc' := 2) (v := 1) dX7_pays_1 rfl (by decide) ?_
    refine ev_iload_n (pc' := 3) dX7_pays_2 rfl rfl ?_
    refine ev_iload_n (pc' := 4) dX7_pays_3 rfl rfl ?_
    refine ev_iload_n (pc' := 5) dX7_pays_4 rfl rfl ?_
    refine ev_iload (pc' := 7) dX7_pays_5 rfl rfl ?_
    refine ev_iload (pc' := 9) dX7_pays_7 rfl rfl ?_
    refine ev_cVi6 (pc' := 12) cl_7_279 (hg) dX7_pays_9 rfl rfl rfl rfl ?_
    refine ev_ireturn rfl dX7_pays_12 ?_
    exact ⟨rfl, rfl⟩
def m_okDay (σ : RS) (m : Int32) : Bool := decide (¬ σ 0 39 = 120) && m_day m
theorem m_meeting {d : Nat} (σ : RS) (τ : TS) (n : Nat) (hn : n ≤ 120) (h39 : σ 0 39 = nI n) (m : Int32) : Ok (d + 1) M7_meeting [.ref 0, .int m] (WM σ τ) (if m_okDay σ m = true then rt (some (.int (nI n))) (WM (m_told σ n 2 m 0 0 0 0 0) τ) else rt (some (.int (-1))) (WM σ τ)) := by
  refine Ok.of (ls := [some _, some _]) (by decide +kernel) (Nat.le_of_ble_eq_true rfl) rfl ?_
  refine ev_aload_n (pc' := 1) dX7_meeting_0 rfl rfl ?_
  refine ev_getf (pc' := 4) fl_7_265 dX7_meeting_1 rfl rfl rfl ?_
  refine ev_bipush (pc' := 6) (v := 120) dX7_meeting_4 rfl (by decide) ?_
  refine ev_icmp_eq (tgt := 16) (pc' := 9) dX7_meeting_6 (by decide) rfl (fun h_6 => ?_) (fun h_6 => ?_)
  · rw [if_neg (by unfold m_okDay; simp_all)]
    refine ev_iconst (pc' := 17) (v := -1) dX7_meeting_16 rfl (by decide) ?_
    refine ev_goto (tgt := 31) dX7_meeting_17 (by decide) ?_
    refine ev_ireturn rfl dX7_meeting_31 ?_
    exact ⟨rfl, rfl⟩
  · refine ev_iload_n (pc' := 10) dX7_meeting_9 rfl rfl ?_
    refine ev_cSi1 (pc' := 13) cl_7_269 (m_isDay _ _) dX7_meeting_10 rfl rfl ?_
    refine ev_if_ne (tgt := 20) (pc' := 16) dX7_meeting_13 (by decide) rfl (fun h_13 => ?_) (fun h_13 => ?_)
    · rw [bI_0, Bool.not_eq_false] at h_13
      rw [if_pos (by unfold m_okDay; simp_all)]
      refine ev_aload_n (pc' := 21) dX7_meeting_20 rfl rfl ?_
      refine ev_iconst (pc' := 22) (v := 2) dX7_meeting_21 rfl (by decide) ?_
      refine ev_iload_n (pc' := 23) dX7_meeting_22 rfl rfl ?_
      refine ev_iconst (pc' := 24) (v := 0) dX7_meeting_23 rfl (by decide) ?_
      refine ev_iconst (pc' := 25) (v := 0) dX7_meeting_24 rfl (by decide) ?_
      refine ev_iconst (pc' := 26) (v := 0) dX7_meeting_25 rfl (by decide) ?_
      refine ev_iconst (pc' := 27) (v := 0) dX7_meeting_26 rfl (by decide) ?_
      refine ev_iconst (pc' := 28) (v := 0) dX7_meeting_27 rfl (by decide) ?_
      refine ev_cVi7 (pc' := 31) cl_7_275 (m_fact σ τ n (lt_120 hn h39 h_6) h39 _ _ _ _ _ _ _) dX7_meeting_28 rfl rfl rfl rfl ?_
      refine ev_ireturn rfl dX7_meeting_31 ?_
      exact ⟨rfl, rfl⟩
    · rw [bI_0] at h_13
      rw [if_neg (by unfold m_okDay; simp_all)]
      refine ev_iconst (pc' := 17) (v := -1) dX7_meeting_16 rfl (by decide) ?_
      refine ev_goto (tgt := 31) dX7_meeting_17 (by decide) ?_
      refine ev_ireturn rfl dX7_meeting_31 ?_
      exact ⟨rfl, rfl⟩
theorem m_feast {d : Nat} (σ : RS) (τ : TS) (n : Nat) (hn : n ≤ 120) (h39 : σ 0 39 = nI n) (y : Int32) (b : Bool) : Ok (d + 1) M7_feast [.ref 0, .int y, .int (bI b)] (WM σ τ) (if m_okDay σ y = true then rt (some (.int (nI n))) (WM (m_told σ n 4 y 0 0 0 0 (bI b)) τ) else rt (some (.int (-1))) (WM σ τ)) := by
  refine Ok.of (ls := [some _, some _, some _]) (by decide +kernel) (Nat.le_of_ble_eq_true rfl) rfl ?_
  refine ev_aload_n (pc' := 1) dX7_feast_0 rfl rfl ?_
  refine ev_getf (pc' := 4) fl_7_265 dX7_feast_1 rfl rfl rfl ?_
  refine ev_bipush (pc' := 6) (v := 120) dX7_feast_4 rfl (by decide) ?_
  refine ev_icmp_eq (tgt := 16) (pc' := 9) dX7_feast_6 (by decide) rfl (fun h_6 => ?_) (fun h_6 => ?_)
  · rw [if_neg (by unfold m_okDay; simp_all)]
    refine ev_iconst (pc' := 17) (v := -1) dX7_feast_16 rfl (by decide) ?_
    refine ev_goto (tgt := 39) dX7_feast_17 (by decide) ?_
    refine ev_ireturn rfl dX7_feast_39 ?_
    exact ⟨rfl, rfl⟩
  · refine ev_iload_n (pc' := 10) dX7_feast_9 rfl rfl ?_
    refine ev_cSi1 (pc' := 13) cl_7_269 (m_isDay _ _) dX7_feast_10 rfl rfl ?_
    refine ev_if_ne (tgt := 20) (pc' := 16) dX7_feast_13 (by decide) rfl (fun h_13 => ?_) (fun h_13 => ?_)
    · rw [bI_0, Bool.not_eq_false] at h_13
      rw [if_pos (by unfold m_okDay; simp_all)]
      refine ev_aload_n (pc' := 21) dX7_feast_20 rfl rfl ?_
      refine ev_iconst (pc' := 22) (v := 4) dX7_feast_21 rfl (by decide) ?_
      refine ev_iload_n (pc' := 23) dX7_feast_22 rfl rfl ?_
      refine ev_iconst (pc' := 24) (v := 0) dX7_feast_23 rfl (by decide) ?_
      refine ev_iconst (pc' := 25) (v := 0) dX7_feast_24 rfl (by decide) ?_
      refine ev_iconst (pc' := 26) (v := 0) dX7_feast_25 rfl (by decide) ?_
      refine ev_iconst (pc' := 27) (v := 0) dX7_feast_26 rfl (by decide) ?_
      refine ev_iload_n (pc' := 28) dX7_feast_27 rfl rfl ?_
      refine ev_if_eq (tgt := 35) (pc' := 31) dX7_feast_28 (by decide) rfl (fun h_28 => ?_) (fun h_28 => ?_)
      · rw [bI_0] at h_28
        subst h_28
        refine ev_iconst (pc' := 36) (v := 0) dX7_feast_35 rfl (by decide) ?_
        refine ev_cVi7 (pc' := 39) cl_7_275 (m_fact σ τ n (lt_120 hn h39 h_6) h39 _ _ _ _ _ _ _) dX7_feast_36 rfl rfl rfl rfl ?_
        refine ev_ireturn rfl dX7_feast_39 ?_
        exact ⟨rfl, rfl⟩
      · rw [bI_0, Bool.not_eq_false] at h_28
        subst h_28
        refine ev_iconst (pc' := 32) (v := 1) dX7_feast_31 rfl (by decide) ?_
        refine ev_goto (tgt := 36) dX7_feast_32 (by decide) ?_
        refine ev_cVi7 (pc' := 39) cl_7_275 (m_fact σ τ n (lt_120 hn h39 h_6) h39 _ _ _ _ _ _ _) dX7_feast_36 rfl rfl rfl rfl ?_
        refine ev_ireturn rfl dX7_feast_39 ?_
        exact ⟨rfl, rfl⟩
    · rw [bI_0] at h_13
      rw [if_neg (by unfold m_okDay; simp_all)]
      refine ev_iconst (pc' := 17) (v := -1) dX7_feast_16 rfl (by decide) ?_
      refine ev_goto (tgt := 39) dX7_feast_17 (by decide) ?_
      refine ev_ireturn rfl dX7_feast_39 ?_
      exact ⟨rfl, rfl⟩
def m_okSeen (σ : RS) (w p k y : Int32) : Bool := decide (¬ σ 0 39 = 120) && b_isPerson (σ 0 37) w && b_isPerson (σ 0 37) p && decide (0 ≤ k ∧ k ≤ 9) && m_day y
theorem m_seen {d : Nat} (σ : RS) (τ : TS) (n : Nat) (hn : n ≤ 120) (h39 : σ 0 39 = nI n) (w p k y : Int32) : Ok (d + 1) M7_seen [.ref 0, .int w, .int p, .int k, .int y] (WM σ τ) (if m_okSeen σ w p k y = true then rt (some (.int (nI n))) (WM (m_told σ n 5 y w p 0 0 k) τ) else rt (some (.int (-1))) (WM σ τ)) := by
  refine Ok.of (ls := [some _, some _, some _, some _, some _]) (by decide +kernel) (Nat.le_of_ble_eq_true rfl) rfl ?_
  refine ev_aload_n (pc' := 1) dX7_seen_0 rfl rfl ?_
  refine ev_getf (pc' := 4) fl_7_265 dX7_seen_1 rfl rfl rfl ?_
  refine ev_bipush (pc' := 6) (v := 120) dX7_seen_4 rfl (by decide) ?_
  refine ev_icmp_eq (tgt := 43) (pc' := 9) dX7_seen_6 (by decide) rfl (fun h_6 => ?_) (fun h_6 => ?_)
  · rw [if_neg (by unfold m_okSeen; first | (rw [hk]; simp; done) | (rw [hk]; simp_all; done) | (simp_all; done))]
    refine ev_iconst (pc' := 44) (v := -1) dX7_seen_43 rfl (by decide) ?_
    refine ev_goto (tgt := 59) dX7_seen_44 (by decide) ?_
    refine ev_ireturn rfl dX7_seen_59 ?_
    exact ⟨rfl, rfl⟩
  · refine ev_aload_n (pc' := 10) dX7_seen_9 rfl rfl ?_
    refine ev_iload_n (pc' := 11) dX7_seen_10 rfl rfl ?_
    refine ev_cVi1 (pc' := 14) cl_7_272 (m_isPerson _ _ _) dX7_seen_11 rfl rfl rfl rfl ?_
    refine ev_if_eq (tgt := 43) (pc' := 17) dX7_seen_14 (by decide) rfl (fun h_14 => ?_) (fun h_14 => ?_)
    · rw [bI_0] at h_14
      rw [if_neg (by unfold m_okSeen; first | (rw [hk]; simp; done) | (rw [hk]; simp_all; done) | (simp_all; done))]
      refine ev_iconst (pc' := 44) (v := -1) dX7_seen_43 rfl (by decide) ?_
      refine ev_goto (tgt := 59) dX7_seen_44 (by decide) ?_
      refine ev_ireturn rfl dX7_seen_59 ?_
      exact ⟨rfl, rfl⟩
    · rw [bI_0, Bool.not_eq_false] at h_14
      refine ev_aload_n (pc' := 18) dX7_seen_17 rfl rfl ?_
      refine ev_iload_n (pc' := 19) dX7_seen_18 rfl rfl ?_
      refine ev_cVi1 (pc' := 22) cl_7_272 (m_isPerson _ _ _) dX7_seen_19 rfl rfl rfl rfl ?_
      refine ev_if_eq (tgt := 43) (pc' := 25) dX7_seen_22 (by decide) rfl (fun h_22 => ?_) (fun h_22 => ?_)
      · rw [bI_0] at h_22
        rw [if_neg (by unfold m_okSeen; first | (rw [hk]; simp; done) | (rw [hk]; simp_all; done) | (simp_all; done))]
        refine ev_iconst (pc' := 44) (v := -1) dX7_seen_43 rfl (by decide) ?_
        refine ev_goto (tgt := 59) dX7_seen_44 (by decide) ?_
        refine ev_ireturn rfl dX7_seen_59 ?_
        exact ⟨rfl, rfl⟩
      · rw [bI_0, Bool.not_eq_false] at h_22
        refine ev_iload_n (pc' := 26) dX7_seen_25 rfl rfl ?_
        refine ev_if_lt (tgt := 43) (pc' := 29) dX7_seen_26 (by decide) rfl (fun h_26 => ?_) (fun h_26 => ?_)
        · have hk : decide (0 ≤ k ∧ k ≤ 9) = false := decide_eq_false (fun z => absurd h_26 (Int32.not_lt.mpr z.1))
          rw [if_neg (by unfold m_okSeen; first | (rw [hk]; simp; done) | (rw [hk]; simp_all; done) | (simp_all; done))]
          refine ev_iconst (pc' := 44) (v := -1) dX7_seen_43 rfl (by decide) ?_
          refine ev_goto (tgt := 59) dX7_seen_44 (by decide) ?_
          refine ev_ireturn rfl dX7_seen_59 ?_
          exact ⟨rfl, rfl⟩
        · refine ev_iload_n (pc' := 30) dX7_seen_29 rfl rfl ?_
          refine ev_bipush (pc' := 32) (v := 9) dX7_seen_30 rfl (by decide) ?_
          refine ev_icmp_gt (tgt := 43) (pc' := 35) dX7_seen_32 (by decide) rfl (fun h_32 => ?_) (fun h_32 => ?_)
          · have hk : decide (0 ≤ k ∧ k ≤ 9) = false := decide_eq_false (fun z => absurd h_32 (Int32.not_lt.mpr z.2))
            rw [if_neg (by unfold m_okSeen; first | (rw [hk]; simp; done) | (rw [hk]; simp_all; done) | (simp_all; done))]
            refine ev_iconst (pc' := 44) (v := -1) dX7_seen_43 rfl (by decide) ?_
            refine ev_goto (tgt := 59) dX7_seen_44 (by decide) ?_
            refine ev_ireturn rfl dX7_seen_59 ?_
            exact ⟨rfl, rfl⟩
          · have hk : decide (0 ≤ k ∧ k ≤ 9) = true := decide_eq_true ⟨Int32.not_lt.mp h_26, Int32.not_lt.mp h_32⟩
            refine ev_iload (pc' := 37) dX7_seen_35 rfl rfl ?_
            refine ev_cSi1 (pc' := 40) cl_7_269 (m_isDay _ _) dX7_seen_37 rfl rfl ?_
            refine ev_if_ne (tgt := 47) (pc' := 43) dX7_seen_40 (by decide) rfl (fun h_40 => ?_) (fun h_40 => ?_)
            · rw [bI_0, Bool.not_eq_false] at h_40
              rw [if_pos (by unfold m_okSeen; rw [hk]; simp_all)]
              refine ev_aload_n (pc' := 48) dX7_seen_47 rfl rfl ?_
              refine ev_iconst (pc' := 49) (v := 5) dX7_seen_48 rfl (by decide) ?_
              refine ev_iload (pc' := 51) dX7_seen_49 rfl rfl ?_
              refine ev_iload_n (pc' := 52) dX7_seen_51 rfl rfl ?_
              refine ev_iload_n (pc' := 53) dX7_seen_52 rfl rfl ?_
              refine ev_iconst (pc' := 54) (v := 0) dX7_seen_53 rfl (by decide) ?_
              refine ev_iconst (pc' := 55) (v := 0) dX7_seen_54 rfl (by decide) ?_
              refine ev_iload_n (pc' := 56) dX7_seen_55 rfl rfl ?_
              refine ev_cVi7 (pc' := 59) cl_7_275 (m_fact σ τ n (lt_120 hn h39 h_6) h39 _ _ _ _ _ _ _) dX7_seen_56 rfl rfl rfl rfl ?_
              refine ev_ireturn rfl dX7_seen_59 ?_
              exact ⟨rfl, rfl⟩
            · rw [bI_0] at h_40
              rw [if_neg (by unfold m_okSeen; first | (rw [hk]; simp; done) | (rw [hk]; simp_all; done) | (simp_all; done))]
              refine ev_iconst (pc' := 44) (v := -1) dX7_seen_43 rfl (by decide) ?_
              refine ev_goto (tgt := 59) dX7_seen_44 (by decide) ?_
              refine ev_ireturn rfl dX7_seen_59 ?_
              exact ⟨rfl, rfl⟩
