/-! WHAT IS ASKED, and what the class answers. -/
def gLeaf (P N : Nat) (p y x : Int32) : Bool := b_isPerson (nI P) p && m_day y && b_isFirst (nI N) x
def gDay (N : Nat) (y x : Int32) : Bool := m_day y && b_isFirst (nI N) x
theorem gLeaf_of {P N : Nat} {p y x : Int32} (hP : P ≤ 8) (hN : N ≤ 120) (h : gLeaf P N p y x = true) : ∃ a b c, a < P ∧ b < 400 ∧ c ≤ N ∧ p = nI a ∧ y = nI b ∧ x = nI c := by
  unfold gLeaf at h
  rw [Bool.and_eq_true, Bool.and_eq_true] at h
  obtain ⟨a, a1, a2⟩ := isP_of hP h.1.1
  obtain ⟨b, b1, b2⟩ := isD_of h.1.2
  obtain ⟨c, c1, c2⟩ := isN_of hN h.2
  exact ⟨a, b, c, a1, b1, c1, a2, b2, c2⟩
theorem gDay_of {N : Nat} {y x : Int32} (hN : N ≤ 120) (h : gDay N y x = true) : ∃ b c, b < 400 ∧ c ≤ N ∧ y = nI b ∧ x = nI c := by
  unfold gDay at h
  rw [Bool.and_eq_true] at h
  obtain ⟨b, b1, b2⟩ := isD_of h.1
  obtain ⟨c, c1, c2⟩ := isN_of hN h.2
  exact ⟨b, c, b1, c1, b2, c2⟩
section SPECS
variable (F : FF) (lv : Nat → Int32) (A : List YL) (P N : Nat)
def S_holder (p y x : Int32) : Int32 := if gLeaf P N p y x = true then (dS F lv A (nt x)).1 (400 * nt p + nt y) else -1
def S_awake (p y x : Int32) : Int32 := if gLeaf P N p y x = true then nI (caw (dS F lv A (nt x)).1 p (nt y) 8) else -1
def S_age (p y x : Int32) : Int32 := if gLeaf P N p y x = true then lv (nt p) + nI (cout (dS F lv A (nt x)).1 p (nt y) 8) else -1
def S_chain (p y i x : Int32) : Int32 := if gLeaf P N p y x = true ∧ 0 ≤ i then (if i = 0 then p else chn F (dS F lv A (nt x)).2.2.2.1 (nt p) (nt y) (mlist F (nt x) 399) (nt i)) else -1
def S_owes (a b y x : Int32) : Int32 := if gLeaf P N a y x = true ∧ b_isPerson (nI P) b = true then (dU F lv A (nt x) (nt y)).2.2.1 (8 * nt a + nt b) else -1
def S_net (p y x : Int32) : Int32 := if gLeaf P N p y x = true then sp_net (dU F lv A (nt x) (nt y)).2.2.1 (nt p) else 0
def S_ring (y x i : Int32) : Int32 := if gDay N y x = true then sp_ring (dU F lv A (nt x) (nt y)).2.2.1 i else -1
def S_leaves (y x : Int32) : Int32 := if gDay N y x = true then sumTo (mtS 64 (dU F lv A (nt x) (nt y)).2.2.1) 64 else -1
def gFact (f x : Int32) : Bool := b_isFirst (nI N) x && decide (0 ≤ f ∧ f < x)
def S_isVoid (f x : Int32) : Int32 := if gFact N f x = true ∧ F 0 (nt f) ≤ 2 then (dS F lv A (nt x)).2.2.2.1 (nt f) else -1
def S_grows (f x : Int32) : Int32 := if gFact N f x = true ∧ F 0 (nt f) = 0 then sp_grows (dS F lv A (nt x)) (nt f) else -1
def S_ban (f x : Int32) : Int32 := if gFact N f x = true ∧ F 0 (nt f) = 0 then sp_ban (dS F lv A (nt x)) (nt f) else -1
def S_counts (f x : Int32) : Int32 := if gFact N f x = true ∧ F 0 (nt f) = 5 then bI (sp_cnt F (dS F lv A (nt x)).1 (nt f)) else -1
def S_doer (k y x : Int32) : Int32 := if (0 ≤ k ∧ k ≤ 9) ∧ gDay N y x = true then sp_doer F (dS F lv A (nt x)).1 (nt k) (nt y) (nt x) else -1
def S_turned (x z : Int32) : Int32 := if b_isFirst (nI N) x = true ∧ b_isFirst (nI N) z = true then sp_turn F (dS F lv A (nt x)).2.2.2.1 (dS F lv A (nt z)).2.2.2.1 (min (nt x) (nt z)) 0 else -1
end SPECS
/-- a question's end -/
def qd (F : FF) (lv : Nat → Int32) (A : List YL) (P N r la : Nat) (σ : RS) (sp rl tx : Nat) (ans : Int32) : Option Value → MW → Prop := fun v w => v = some (.int ans) ∧ ∃ σ', w = WD σ' la sp rl tx ∧ cI F lv A P N r la σ' ∧ dK la σ σ'
theorem kD_isDay {d : Nat} (w : MW) (y : Int32) : Ok d M6_isDay [.int y] w (rt (some (.int (bI (m_day y)))) w) := by
  refine Ok.of (ls := [some _]) (by decide +kernel) (Nat.le_of_ble_eq_true rfl) rfl ?_
  refine ev_iload_n (pc' := 1) dX6_isDay_0 rfl rfl ?_
  refine ev_if_lt (tgt := 15) (pc' := 4) dX6_isDay_1 (by decide) rfl (fun h_1 => ?_) (fun h_1 => ?_)
  · refine ev_iconst (pc' := 16) (v := 0) dX6_isDay_15 rfl (by decide) ?_
    refine ev_zreturn rfl rfl dX6_isDay_16 ?_
    refine rt_i ?_ rfl
    unfold m_day
    simp only [fa_lt, fa_le, Int32.reduceToInt] at *
    first | (rw [decide_eq_true (by omega)]; rfl) | (rw [decide_eq_false (by omega)]; rfl)
  · refine ev_iload_n (pc' := 5) dX6_isDay_4 rfl rfl ?_
    refine ev_sipush (pc' := 8) (v := 400) dX6_isDay_5 rfl (by decide) ?_
    refine ev_icmp_ge (tgt := 15) (pc' := 11) dX6_isDay_8 (by decide) rfl (fun h_8 => ?_) (fun h_8 => ?_)
    · refine ev_iconst (pc' := 16) (v := 0) dX6_isDay_15 rfl (by decide) ?_
      refine ev_zreturn rfl rfl dX6_isDay_16 ?_
      refine rt_i ?_ rfl
      unfold m_day
      simp only [fa_lt, fa_le, Int32.reduceToInt] at *
      first | (rw [decide_eq_true (by omega)]; rfl) | (rw [decide_eq_false (by omega)]; rfl)
    · refine ev_iconst (pc' := 12) (v := 1) dX6_isDay_11 rfl (by decide) ?_
      refine ev_goto (tgt := 16) dX6_isDay_12 (by decide) ?_
      refine ev_zreturn rfl rfl dX6_isDay_16 ?_
      refine rt_i ?_ rfl
      unfold m_day
      simp only [fa_lt, fa_le, Int32.reduceToInt] at *
      first | (rw [decide_eq_true (by omega)]; rfl) | (rw [decide_eq_false (by omega)]; rfl)
theorem kD_isDeed {d : Nat} (w : MW) (y : Int32) : Ok d M6_isDeed [.int y] w (rt (some (.int (bI (decide (0 ≤ y ∧ y ≤ 9))))) w) := by
  refine Ok.of (ls := [some _]) (by decide +kernel) (Nat.le_of_ble_eq_true rfl) rfl ?_
  refine ev_iload_n (pc' := 1) dX6_isDeed_0 rfl rfl ?_
  refine ev_if_lt (tgt := 14) (pc' := 4) dX6_isDeed_1 (by decide) rfl (fun h_1 => ?_) (fun h_1 => ?_)
  · refine ev_iconst (pc' := 15) (v := 0) dX6_isDeed_14 rfl (by decide) ?_
    refine ev_zreturn rfl rfl dX6_isDeed_15 ?_
    refine rt_i ?_ rfl
    simp only [fa_lt, fa_le, Int32.reduceToInt] at *
    first | (rw [decide_eq_true (by omega)]; rfl) | (rw [decide_eq_false (by omega)]; rfl)
  · refine ev_iload_n (pc' := 5) dX6_isDeed_4 rfl rfl ?_
    refine ev_bipush (pc' := 7) (v := 10) dX6_isDeed_5 rfl (by decide) ?_
    refine ev_icmp_ge (tgt := 14) (pc' := 10) dX6_isDeed_7 (by decide) rfl (fun h_7 => ?_) (fun h_7 => ?_)
    · refine ev_iconst (pc' := 15) (v := 0) dX6_isDeed_14 rfl (by decide) ?_
      refine ev_zreturn rfl rfl dX6_isDeed_15 ?_
      refine rt_i ?_ rfl
      simp only [fa_lt, fa_le, Int32.reduceToInt] at *
      first | (rw [decide_eq_true (by omega)]; rfl) | (rw [decide_eq_false (by omega)]; rfl)
    · refine ev_iconst (pc' := 11) (v := 1) dX6_isDeed_10 rfl (by decide) ?_
      refine ev_goto (tgt := 15) dX6_isDeed_11 (by decide) ?_
      refine ev_zreturn rfl rfl dX6_isDeed_15 ?_
      refine rt_i ?_ rfl
      simp only [fa_lt, fa_le, Int32.reduceToInt] at *
      first | (rw [decide_eq_true (by omega)]; rfl) | (rw [decide_eq_false (by omega)]; rfl)
theorem kD_hasPerson {d : Nat} (σ : RS) (la sp rl tx : Nat) (x : Int32) : Ok d M0_hasPerson [.ref 2, .int x] (WD σ la sp rl tx) (rt (some (.int (bI (b_isPerson (σ 2 7) x)))) (WD σ la sp rl tx)) := Ok.roP (k_hasPerson (bd σ) x) (PD_book σ la sp rl tx) rfl
theorem kD_hasFirst {d : Nat} (σ : RS) (la sp rl tx : Nat) (x : Int32) : Ok d M0_hasFirst [.ref 2, .int x] (WD σ la sp rl tx) (rt (some (.int (bI (b_isFirst (σ 2 8) x)))) (WD σ la sp rl tx)) := Ok.roP (k_hasFirst (bd σ) x) (PD_book σ la sp rl tx) rfl
theorem kD_kindOf {d : Nat} (σ : RS) (la sp rl tx : Nat) (x : Int32) : Ok (d + 1) M0_kindOf [.ref 2, .int x] (WD σ la sp rl tx) (rt (some (.int (b_kind (bd σ) x))) (WD σ la sp rl tx)) := Ok.roP (k_kindOf (bd σ) x) (PD_book σ la sp rl tx) rfl
theorem kD_isPaper {d : Nat} (σ : RS) (la sp rl tx : Nat) (x : Int32) : Ok (d + 2) M0_isPaper [.ref 2, .int x] (WD σ la sp rl tx) (rt (some (.int (bI (b_isPaper (bd σ) x)))) (WD σ la sp rl tx)) := Ok.roP (k_isPaper (bd σ) x) (PD_book σ la sp rl tx) rfl
theorem bI_0' {b : Bool} (h : bI b = 0) : b = false := by
  cases b with
  | false => rfl
  | true => exact absurd h (by decide)
theorem bI_1' {b : Bool} (h : ¬ bI b = 0) : b = true := by
  cases b with
  | false => exact absurd rfl h
  | true => rfl
theorem kD_isLeaf {d : Nat} (σ : RS) (la sp rl tx : Nat) (p y : Int32) : Ok (d + 1) M6_isLeaf [.ref 0, .int p, .int y] (WD σ la sp rl tx) (rt (some (.int (bI (b_isPerson (σ 2 7) p && m_day y)))) (WD σ la sp rl tx)) := by
  refine Ok.of (ls := [some _, some _, some _]) (by decide +kernel) (Nat.le_of_ble_eq_true rfl) rfl ?_
  refine ev_aload_n (pc' := 1) dX6_isLeaf_0 rfl rfl ?_
  refine ev_getf (pc' := 4) fl_6_12 dX6_isLeaf_1 rfl rfl rfl ?_
  refine ev_iload_n (pc' := 5) dX6_isLeaf_4 rfl rfl ?_
  refine ev_cVi1 (pc' := 8) cl_6_98 (kD_hasPerson _ _ _ _ _ _) dX6_isLeaf_5 rfl rfl rfl rfl ?_
  refine ev_if_eq (tgt := 22) (pc' := 11) dX6_isLeaf_8 (by decide) rfl (fun h_8 => ?_) (fun h_8 => ?_)
  · have q1 := bI_0' h_8
    refine ev_iconst (pc' := 23) (v := 0) dX6_isLeaf_22 rfl (by decide) ?_
    refine ev_zreturn rfl rfl dX6_isLeaf_23 ?_
    refine rt_i ?_ rfl
    rw [q1]
    first | rfl | (rw [q2]; rfl)
  · have q1 := bI_1' h_8
    refine ev_iload_n (pc' := 12) dX6_isLeaf_11 rfl rfl ?_
    refine ev_cSi1 (pc' := 15) cl_6_88 (kD_isDay _ _) dX6_isLeaf_12 rfl rfl ?_
    refine ev_if_eq (tgt := 22) (pc' := 18) dX6_isLeaf_15 (by decide) rfl (fun h_15 => ?_) (fun h_15 => ?_)
    · have q2 := bI_0' h_15
      refine ev_iconst (pc' := 23) (v := 0) dX6_isLeaf_22 rfl (by decide) ?_
      refine ev_zreturn rfl rfl dX6_isLeaf_23 ?_
      refine rt_i ?_ rfl
      rw [q1]
      first | rfl | (rw [q2]; rfl)
    · have q2 := bI_1' h_15
      refine ev_iconst (pc' := 19) (v := 1) dX6_isLeaf_18 rfl (by decide) ?_
      refine ev_goto (tgt := 23) dX6_isLeaf_19 (by decide) ?_
      refine ev_zreturn rfl rfl dX6_isLeaf_23 ?_
      refine rt_i ?_ rfl
      rw [q1]
      first | rfl | (rw [q2]; rfl)
theorem kD_isKnownPaper {d : Nat} (σ : RS) (la sp rl tx : Nat) (f x : Int32) : Ok (d + 3) M6_isKnownPaper [.ref 0, .int f, .int x] (WD σ la sp rl tx) (rt (some (.int (bI (decide (b_isFirst (σ 2 8) x = true ∧ f < x ∧ b_isPaper (bd σ) f = true))))) (WD σ la sp rl tx)) := by
  refine Ok.of (ls := [some _, some _, some _]) (by decide +kernel) (Nat.le_of_ble_eq_true rfl) rfl ?_
  refine ev_aload_n (pc' := 1) dX6_isKnownPaper_0 rfl rfl ?_
  refine ev_getf (pc' := 4) fl_6_12 dX6_isKnownPaper_1 rfl rfl rfl ?_
  refine ev_iload_n (pc' := 5) dX6_isKnownPaper_4 rfl rfl ?_
  refine ev_cVi1 (pc' := 8) cl_6_118 (kD_hasFirst _ _ _ _ _ _) dX6_isKnownPaper_5 rfl rfl rfl rfl ?_
  refine ev_if_eq (tgt := 31) (pc' := 11) dX6_isKnownPaper_8 (by decide) rfl (fun h_8 => ?_) (fun h_8 => ?_)
  · have e := decide_eq_false (p := b_isFirst (σ 2 8) x = true ∧ f < x ∧ b_isPaper (bd σ) f = true) (fun z => by rw [bI_0' h_8] at z; exact absurd z.1 (by decide))
    refine ev_iconst (pc' := 32) (v := 0) dX6_isKnownPaper_31 rfl (by decide) ?_
    refine ev_zreturn rfl rfl dX6_isKnownPaper_32 ?_
    refine rt_i ?_ rfl
    rw [e]
    rfl
  · have q1 := bI_1' h_8
    refine ev_iload_n (pc' := 12) dX6_isKnownPaper_11 rfl rfl ?_
    refine ev_iload_n (pc' := 13) dX6_isKnownPaper_12 rfl rfl ?_
    refine ev_icmp_ge (tgt := 31) (pc' := 16) dX6_isKnownPaper_13 (by decide) rfl (fun h_13 => ?_) (fun h_13 => ?_)
    · have e := decide_eq_false (p := b_isFirst (σ 2 8) x = true ∧ f < x ∧ b_isPaper (bd σ) f = true) (fun z => absurd h_13 (Int32.not_le.mpr z.2.1))
      refine ev_iconst (pc' := 32) (v := 0) dX6_isKnownPaper_31 rfl (by decide) ?_
      refine ev_zreturn rfl rfl dX6_isKnownPaper_32 ?_
      refine rt_i ?_ rfl
      rw [e]
      rfl
    · refine ev_aload_n (pc' := 17) dX6_isKnownPaper_16 rfl rfl ?_
      refine ev_getf (pc' := 20) fl_6_12 dX6_isKnownPaper_17 rfl rfl rfl ?_
      refine ev_iload_n (pc' := 21) dX6_isKnownPaper_20 rfl rfl ?_
      refine ev_cVi1 (pc' := 24) cl_6_95 (kD_isPaper _ _ _ _ _ _) dX6_isKnownPaper_21 rfl rfl rfl rfl ?_
      refine ev_if_eq (tgt := 31) (pc' := 27) dX6_isKnownPaper_24 (by decide) rfl (fun h_24 => ?_) (fun h_24 => ?_)
      · have e := decide_eq_false (p := b_isFirst (σ 2 8) x = true ∧ f < x ∧ b_isPaper (bd σ) f = true) (fun z => by rw [bI_0' h_24] at z; exact absurd z.2.2 (by decide))
        refine ev_iconst (pc' := 32) (v := 0) dX6_isKnownPaper_31 rfl (by decide) ?_
        refine ev_zreturn rfl rfl dX6_isKnownPaper_32 ?_
        refine rt_i ?_ rfl
        rw [e]
        rfl
      · have e := decide_eq_true (p := b_isFirst (σ 2 8) x = true ∧ f < x ∧ b_isPaper (bd σ) f = true) ⟨q1, Int32.not_le.mp h_13, bI_1' h_24⟩
        refine ev_iconst (pc' := 28) (v := 1) dX6_isKnownPaper_27 rfl (by decide) ?_
        refine ev_goto (tgt := 32) dX6_isKnownPaper_28 (by decide) ?_
        refine ev_zreturn rfl rfl dX6_isKnownPaper_32 ?_
        refine rt_i ?_ rfl
        rw [e]
        rfl
theorem kD_isKnownOf {d : Nat} (σ : RS) (la sp rl tx : Nat) (k f x : Int32) : Ok (d + 2) M6_isKnownOf [.ref 0, .int k, .int f, .int x] (WD σ la sp rl tx) (rt (some (.int (bI (decide (b_isFirst (σ 2 8) x = true ∧ f < x ∧ b_kind (bd σ) f = k))))) (WD σ la sp rl tx)) := by
  refine Ok.of (ls := [some _, some _, some _, some _]) (by decide +kernel) (Nat.le_of_ble_eq_true rfl) rfl ?_
  refine ev_aload_n (pc' := 1) dX6_isKnownOf_0 rfl rfl ?_
  refine ev_getf (pc' := 4) fl_6_12 dX6_isKnownOf_1 rfl rfl rfl ?_
  refine ev_iload_n (pc' := 5) dX6_isKnownOf_4 rfl rfl ?_
  refine ev_cVi1 (pc' := 8) cl_6_118 (kD_hasFirst _ _ _ _ _ _) dX6_isKnownOf_5 rfl rfl rfl rfl ?_
  refine ev_if_eq (tgt := 32) (pc' := 11) dX6_isKnownOf_8 (by decide) rfl (fun h_8 => ?_) (fun h_8 => ?_)
  · have e := decide_eq_false (p := b_isFirst (σ 2 8) x = true ∧ f < x ∧ b_kind (bd σ) f = k) (fun z => by rw [bI_0' h_8] at z; exact absurd z.1 (by decide))
    refine ev_iconst (pc' := 33) (v := 0) dX6_isKnownOf_32 rfl (by decide) ?_
    refine ev_zreturn rfl rfl dX6_isKnownOf_33 ?_
    refine rt_i ?_ rfl
    rw [e]
    rfl
  · have q1 := bI_1' h_8
    refine ev_iload_n (pc' := 12) dX6_isKnownOf_11 rfl rfl ?_
    refine ev_iload_n (pc' := 13) dX6_isKnownOf_12 rfl rfl ?_
    refine ev_icmp_ge (tgt := 32) (pc' := 16) dX6_isKnownOf_13 (by decide) rfl (fun h_13 => ?_) (fun h_13 => ?_)
    · have e := decide_eq_false (p := b_isFirst (σ 2 8) x = true ∧ f < x ∧ b_kind (bd σ) f = k) (fun z => absurd h_13 (Int32.not_le.mpr z.2.1))
      refine ev_iconst (pc' := 33) (v := 0) dX6_isKnownOf_32 rfl (by decide) ?_
      refine ev_zreturn rfl rfl dX6_isKnownOf_33 ?_
      refine rt_i ?_ rfl
      rw [e]
      rfl
    · refine ev_aload_n (pc' := 17) dX6_isKnownOf_16 rfl rfl ?_
      refine ev_getf (pc' := 20) fl_6_12 dX6_isKnownOf_17 rfl rfl rfl ?_
      refine ev_iload_n (pc' := 21) dX6_isKnownOf_20 rfl rfl ?_
      refine ev_cVi1 (pc' := 24) cl_6_194 (kD_kindOf _ _ _ _ _ _) dX6_isKnownOf_21 rfl rfl rfl rfl ?_
      refine ev_iload_n (pc' := 25) dX6_isKnownOf_24 rfl rfl ?_
      refine ev_icmp_ne (tgt := 32) (pc' := 28) dX6_isKnownOf_25 (by decide) rfl (fun h_25 => ?_) (fun h_25 => ?_)
      · have e := decide_eq_false (p := b_isFirst (σ 2 8) x = true ∧ f < x ∧ b_kind (bd σ) f = k) (fun z => h_25 z.2.2)
        refine ev_iconst (pc' := 33) (v := 0) dX6_isKnownOf_32 rfl (by decide) ?_
        refine ev_zreturn rfl rfl dX6_isKnownOf_33 ?_
        refine rt_i ?_ rfl
        rw [e]
        rfl
      · have e := decide_eq_true (p := b_isFirst (σ 2 8) x = true ∧ f < x ∧ b_kind (bd σ) f = k) ⟨q1, Int32.not_le.mp h_13, h_25⟩
        refine ev_iconst (pc' := 29) (v := 1) dX6_isKnownOf_28 rfl (by decide) ?_
        refine ev_goto (tgt := 33) dX6_isKnownOf_29 (by decide) ?_
        refine ev_zreturn rfl rfl dX6_isKnownOf_33 ?_
        refine rt_i ?_ rfl
        rw [e]
        rfl
