/-! The model, sixteenth part: questions about one paper, doers, what turned. -/
def q_paper (σ : RS) (f x : Int32) : Bool := b_isFirst (σ 0 39) x && decide (0 ≤ f ∧ f < x ∧ σ 24 (nt f) ≤ 2)
theorem q_in {P N l m : Nat} {σ : RS} {f x : Int32} (hS : mS P N l m σ) (h1 : b_isFirst (σ 0 39) x = true) (h2 : ¬ f < 0) (h3 : f < x) : ∃ k n : Nat, k < n ∧ n ≤ N ∧ f = nI k ∧ x = nI n := by
  rw [hS.2.2.2.1] at h1
  obtain ⟨n, n1, n2⟩ := isN_of hS.2.1 h1
  obtain ⟨j, j1, j2⟩ := nI_of h2
  have hN := hS.2.1
  rw [n2, j2, nI_ltI j1 (by omega)] at h3
  exact ⟨j, n, h3, n1, j2, n2⟩
theorem q_vp {P N l m : Nat} {σ : RS} {f x : Int32} (hS : mS P N l m σ) (h1 : b_isFirst (σ 0 39) x = true) (h2 : ¬ f < 0) (h3 : f < x) : vp_in f 120 := by
  obtain ⟨k, n, k1, k2, k3, k4⟩ := q_in hS h1 h2 h3
  have hN := hS.2.1
  rw [k3]
  exact vp_in_nI (by omega) (by omega)
theorem m_isPaper {d : Nat} (σ : RS) (τ : TS) (P N l m : Nat) (hS : mS P N l m σ) (f x : Int32) : Ok (d + 1) M7_isPaper [.ref 0, .int f, .int x] (WM σ τ) (rt (some (.int (bI (q_paper σ f x)))) (WM σ τ)) := by
  obtain ⟨b, hb⟩ : ∃ b, b = q_paper σ f x := ⟨_, rfl⟩
  rw [← hb]
  unfold q_paper at hb
  refine Ok.of (ls := [some _, some _, some _]) (by decide +kernel) (Nat.le_of_ble_eq_true rfl) rfl ?_
  refine ev_aload_n (pc' := 1) dX7_isPaper_0 rfl rfl ?_
  refine ev_iload_n (pc' := 2) dX7_isPaper_1 rfl rfl ?_
  refine ev_cVi1 (pc' := 5) cl_7_326 (m_isKnown _ _ _) dX7_isPaper_2 rfl rfl rfl rfl ?_
  refine ev_if_eq (tgt := 31) (pc' := 8) dX7_isPaper_5 (by decide) rfl (fun h_5 => ?_) (fun h_5 => ?_)
  · rw [bI_0] at h_5
    rw [h_5, Bool.false_and] at hb
    refine ev_iconst (pc' := 32) (v := 0) dX7_isPaper_31 rfl (by decide) ?_
    refine ev_zreturn rfl rfl dX7_isPaper_32 ?_
    rw [hb]
    exact ⟨rfl, rfl⟩
  · rw [bI_0, Bool.not_eq_false] at h_5
    rw [h_5, Bool.true_and] at hb
    refine ev_iload_n (pc' := 9) dX7_isPaper_8 rfl rfl ?_
    refine ev_if_lt (tgt := 31) (pc' := 12) dX7_isPaper_9 (by decide) rfl (fun h_9 => ?_) (fun h_9 => ?_)
    · rw [decide_eq_false (fun z => absurd h_9 (Int32.not_lt.mpr z.1))] at hb
      refine ev_iconst (pc' := 32) (v := 0) dX7_isPaper_31 rfl (by decide) ?_
      refine ev_zreturn rfl rfl dX7_isPaper_32 ?_
      rw [hb]
      exact ⟨rfl, rfl⟩
    · refine ev_iload_n (pc' := 13) dX7_isPaper_12 rfl rfl ?_
      refine ev_iload_n (pc' := 14) dX7_isPaper_13 rfl rfl ?_
      refine ev_icmp_ge (tgt := 31) (pc' := 17) dX7_isPaper_14 (by decide) rfl (fun h_14 => ?_) (fun h_14 => ?_)
      · rw [decide_eq_false (fun z => absurd h_14 (Int32.not_le.mpr z.2.1))] at hb
        refine ev_iconst (pc' := 32) (v := 0) dX7_isPaper_31 rfl (by decide) ?_
        refine ev_zreturn rfl rfl dX7_isPaper_32 ?_
        rw [hb]
        exact ⟨rfl, rfl⟩
      · have hv := q_vp hS h_5 h_9 (Int32.not_le.mp h_14)
        refine ev_aload_n (pc' := 18) dX7_isPaper_17 rfl rfl ?_
        refine ev_getf (pc' := 21) fl_7_89 dX7_isPaper_18 rfl rfl rfl ?_
        refine ev_iload_n (pc' := 22) dX7_isPaper_21 rfl rfl ?_
        refine ev_iald (pc' := 23) dX7_isPaper_22 rfl rfl ?_ ?_
        · exact hv
        refine ev_iconst (pc' := 24) (v := 2) dX7_isPaper_23 rfl (by decide) ?_
        refine ev_icmp_gt (tgt := 31) (pc' := 27) dX7_isPaper_24 (by decide) rfl (fun h_24 => ?_) (fun h_24 => ?_)
        · rw [decide_eq_false (fun z => absurd h_24 (Int32.not_lt.mpr z.2.2))] at hb
          refine ev_iconst (pc' := 32) (v := 0) dX7_isPaper_31 rfl (by decide) ?_
          refine ev_zreturn rfl rfl dX7_isPaper_32 ?_
          rw [hb]
          exact ⟨rfl, rfl⟩
        · rw [decide_eq_true ⟨Int32.not_lt.mp h_9, Int32.not_le.mp h_14, Int32.not_lt.mp h_24⟩] at hb
          refine ev_iconst (pc' := 28) (v := 1) dX7_isPaper_27 rfl (by decide) ?_
          refine ev_goto (tgt := 32) dX7_isPaper_28 (by decide) ?_
          refine ev_zreturn rfl rfl dX7_isPaper_32 ?_
          rw [hb]
          exact ⟨rfl, rfl⟩
theorem q_paper_of {P N l m : Nat} {σ : RS} {f x : Int32} (hS : mS P N l m σ) (h : q_paper σ f x = true) : ∃ k n : Nat, k < n ∧ n ≤ N ∧ f = nI k ∧ x = nI n ∧ σ 24 k ≤ 2 := by
  unfold q_paper at h
  rw [Bool.and_eq_true] at h
  obtain ⟨h1, h2⟩ := h
  obtain ⟨h2, h3, h4⟩ := of_decide_eq_true h2
  obtain ⟨k, n, k1, k2, k3, k4⟩ := q_in hS h1 (Int32.not_lt.mpr h2) h3
  have hN := hS.2.1
  rw [k3, nt_nI (by omega)] at h4
  exact ⟨k, n, k1, k2, k3, k4, h4⟩
theorem q_paper_t {P N l m : Nat} {σ : RS} {k n : Nat} (hS : mS P N l m σ) (hk : k < n) (hn : n ≤ N) (h : σ 24 k ≤ 2) : q_paper σ (nI k) (nI n) = true := by
  have hN := hS.2.1
  unfold q_paper
  rw [hS.2.2.2.1, isN_t hS.2.1 hn, nt_nI (by omega)]
  exact decide_eq_true ⟨nI_pos' (by omega), nI_lt hk (by omega), h⟩
theorem m_isVoid_no {d : Nat} (σ : RS) (τ : TS) (P N l m : Nat) (hS : mS P N l m σ) (f x : Int32) (hg : ¬ q_paper σ f x = true) : Ok (d + 6) M7_isVoid [.ref 0, .int f, .int x] (WM σ τ) (rt (some (.int (-1))) (WM σ τ)) := by
  refine Ok.of (ls := [some _, some _, some _]) (by decide +kernel) (Nat.le_of_ble_eq_true rfl) rfl ?_
  refine ev_aload_n (pc' := 1) dX7_isVoid_0 rfl rfl ?_
  refine ev_iload_n (pc' := 2) dX7_isVoid_1 rfl rfl ?_
  refine ev_iload_n (pc' := 3) dX7_isVoid_2 rfl rfl ?_
  refine ev_cVi2 (pc' := 6) cl_7_329 (m_isPaper σ τ P N l m hS f x) dX7_isVoid_3 rfl rfl rfl rfl ?_
  refine ev_if_ne (tgt := 11) (pc' := 9) dX7_isVoid_6 (by decide) rfl (fun h_6 => ?_) (fun h_6 => ?_)
  · rw [bI_0, Bool.not_eq_false] at h_6
    exact absurd h_6 hg --
  · refine ev_iconst (pc' := 10) (v := -1) dX7_isVoid_9 rfl (by decide) ?_
    refine ev_ireturn rfl dX7_isVoid_10 ?_
    exact ⟨rfl, rfl⟩
theorem m_isVoid {d : Nat} (σ : RS) (τ : TS) (P N l m k n : Nat) (hS : mS P N l m σ) (hk : k < n) (hn : n ≤ N) (h2 : σ 24 k ≤ 2) : Ok (d + 6) M7_isVoid [.ref 0, .int (nI k), .int (nI n)] (WM σ τ) (rt (some (.int ((g_gone P l m n 399 σ) 34 k))) (WM (g_gone P l m n 399 σ) τ)) := by
  have hN := hS.2.1
  have ek : (nI k).toNatClampNeg = k := nI_clamp (by omega)
  have hc := hS.goes (d := d) τ hn (show 399 < 400 by omega)
  refine Ok.of (ls := [some _, some _, some _]) (by decide +kernel) (Nat.le_of_ble_eq_true rfl) rfl ?_
  refine ev_aload_n (pc' := 1) dX7_isVoid_0 rfl rfl ?_
  refine ev_iload_n (pc' := 2) dX7_isVoid_1 rfl rfl ?_
  refine ev_iload_n (pc' := 3) dX7_isVoid_2 rfl rfl ?_
  refine ev_cVi2 (pc' := 6) cl_7_329 (m_isPaper σ τ P N l m hS _ _) dX7_isVoid_3 rfl rfl rfl rfl ?_
  refine ev_if_ne (tgt := 11) (pc' := 9) dX7_isVoid_6 (by decide) rfl (fun h_6 => ?_) (fun h_6 => ?_)
  · refine ev_aload_n (pc' := 12) dX7_isVoid_11 rfl rfl ?_
    refine ev_iload_n (pc' := 13) dX7_isVoid_12 rfl rfl ?_
    refine ev_sipush (pc' := 16) (v := 399) dX7_isVoid_13 rfl (by decide) ?_
    refine ev_cVv2 (pc' := 19) cl_7_333 (hc) dX7_isVoid_16 rfl rfl rfl rfl ?_
    refine ev_aload_n (pc' := 20) dX7_isVoid_19 rfl rfl ?_
    refine ev_getf (pc' := 23) fl_7_122 dX7_isVoid_20 rfl rfl rfl ?_
    refine ev_iload_n (pc' := 24) dX7_isVoid_23 rfl rfl ?_
    refine ev_iald (pc' := 25) dX7_isVoid_24 rfl rfl ?_ ?_
    · exact vp_in_nI (by omega) (by omega)
    rw [ek]
    refine ev_ireturn rfl dX7_isVoid_25 ?_
    exact ⟨rfl, rfl⟩
  · exact absurd h_6 (by rw [q_paper_t hS hk hn h2]; decide) --
def q_loan (σ : RS) (f x : Int32) : Bool := q_paper σ f x && decide (σ 24 (nt f) = 0)
theorem q_loan_of {P N l m : Nat} {σ : RS} {f x : Int32} (hS : mS P N l m σ) (h : q_loan σ f x = true) : ∃ k n : Nat, k < n ∧ n ≤ N ∧ f = nI k ∧ x = nI n ∧ σ 24 k = 0 := by
  unfold q_loan at h
  rw [Bool.and_eq_true] at h
  obtain ⟨k, n, k1, k2, k3, k4, k5⟩ := q_paper_of hS h.1
  have h2 := of_decide_eq_true h.2
  have hN := hS.2.1
  rw [k3, nt_nI (by omega)] at h2
  exact ⟨k, n, k1, k2, k3, k4, h2⟩
theorem m_grows_no {d : Nat} (σ : RS) (τ : TS) (P N l m : Nat) (hS : mS P N l m σ) (f x : Int32) (hg : ¬ q_loan σ f x = true) : Ok (d + 6) M7_grows [.ref 0, .int f, .int x] (WM σ τ) (rt (some (.int (-1))) (WM σ τ)) := by
  unfold q_loan at hg
  refine Ok.of (ls := [some _, some _, some _]) (by decide +kernel) (Nat.le_of_ble_eq_true rfl) rfl ?_
  refine ev_aload_n (pc' := 1) dX7_grows_0 rfl rfl ?_
  refine ev_iload_n (pc' := 2) dX7_grows_1 rfl rfl ?_
  refine ev_iload_n (pc' := 3) dX7_grows_2 rfl rfl ?_
  refine ev_cVi2 (pc' := 6) cl_7_329 (m_isPaper σ τ P N l m hS f x) dX7_grows_3 rfl rfl rfl rfl ?_
  refine ev_if_eq (tgt := 18) (pc' := 9) dX7_grows_6 (by decide) rfl (fun h_6 => ?_) (fun h_6 => ?_)
  · refine ev_iconst (pc' := 19) (v := -1) dX7_grows_18 rfl (by decide) ?_
    refine ev_ireturn rfl dX7_grows_19 ?_
    exact ⟨rfl, rfl⟩
  · rw [bI_0, Bool.not_eq_false] at h_6
    have hv : vp_in f 120 := by
      obtain ⟨k, n, k1, k2, k3, k4, k5⟩ := q_paper_of hS h_6
      have hN := hS.2.1
      rw [k3]
      exact vp_in_nI (by omega) (by omega)
    refine ev_aload_n (pc' := 10) dX7_grows_9 rfl rfl ?_
    refine ev_getf (pc' := 13) fl_7_89 dX7_grows_10 rfl rfl rfl ?_
    refine ev_iload_n (pc' := 14) dX7_grows_13 rfl rfl ?_
    refine ev_iald (pc' := 15) dX7_grows_14 rfl rfl ?_ ?_
    · exact hv
    refine ev_if_eq (tgt := 20) (pc' := 18) dX7_grows_15 (by decide) rfl (fun h_15 => ?_) (fun h_15 => ?_)
    · exact absurd (by rw [h_6, Bool.true_and]; exact decide_eq_true h_15) hg --
    · refine ev_iconst (pc' := 19) (v := -1) dX7_grows_18 rfl (by decide) ?_
      refine ev_ireturn rfl dX7_grows_19 ?_
      exact ⟨rfl, rfl⟩
def q_grows (G : RS) (k : Nat) : Int32 := if 0 < G 34 k then -1 else if G 36 k = -1 then -2 else G 36 k
theorem m_grows {d : Nat} (σ : RS) (τ : TS) (P N l m k n : Nat) (hS : mS P N l m σ) (hk : k < n) (hn : n ≤ N) (h0 : σ 24 k = 0) : Ok (d + 6) M7_grows [.ref 0, .int (nI k), .int (nI n)] (WM σ τ) (rt (some (.int (q_grows (g_gone P l m n 399 σ) k))) (WM (g_gone P l m n 399 σ) τ)) := by
  have hN := hS.2.1
  have ek : (nI k).toNatClampNeg = k := nI_clamp (by omega)
  have hc := hS.goes (d := d) τ hn (show 399 < 400 by omega)
  have h2 : σ 24 k ≤ 2 := by rw [h0]; decide
  generalize g_gone P l m n 399 σ = G at *
  obtain ⟨v, hv⟩ : ∃ v, v = q_grows G k := ⟨_, rfl⟩
  rw [← hv]
  unfold q_grows at hv
  refine Ok.of (ls := [some _, some _, some _]) (by decide +kernel) (Nat.le_of_ble_eq_true rfl) rfl ?_
  refine ev_aload_n (pc' := 1) dX7_grows_0 rfl rfl ?_
  refine ev_iload_n (pc' := 2) dX7_grows_1 rfl rfl ?_
  refine ev_iload_n (pc' := 3) dX7_grows_2 rfl rfl ?_
  refine ev_cVi2 (pc' := 6) cl_7_329 (m_isPaper σ τ P N l m hS _ _) dX7_grows_3 rfl rfl rfl rfl ?_
  refine ev_if_eq (tgt := 18) (pc' := 9) dX7_grows_6 (by decide) rfl (fun h_6 => ?_) (fun h_6 => ?_)
  · exact absurd h_6 (by rw [q_paper_t hS hk hn h2]; decide) --
  · refine ev_aload_n (pc' := 10) dX7_grows_9 rfl rfl ?_
    refine ev_getf (pc' := 13) fl_7_89 dX7_grows_10 rfl rfl rfl ?_
    refine ev_iload_n (pc' := 14) dX7_grows_13 rfl rfl ?_
    refine ev_iald (pc' := 15) dX7_grows_14 rfl rfl ?_ ?_
    · exact vp_in_nI (by omega) (by omega)
    rw [ek, h0]
    refine ev_if_eq (tgt := 20) (pc' := 18) dX7_grows_15 (by decide) rfl (fun h_15 => ?_) (fun h_15 => ?_)
    · refine ev_aload_n (pc' := 21) dX7_grows_20 rfl rfl ?_
      refine ev_iload_n (pc' := 22) dX7_grows_21 rfl rfl ?_
      refine ev_sipush (pc' := 25) (v := 399) dX7_grows_22 rfl (by decide) ?_
      refine ev_cVv2 (pc' := 28) cl_7_333 (hc) dX7_grows_25 rfl rfl rfl rfl ?_
      refine ev_aload_n (pc' := 29) dX7_grows_28 rfl rfl ?_
      refine ev_getf (pc' := 32) fl_7_122 dX7_grows_29 rfl rfl rfl ?_
      refine ev_iload_n (pc' := 33) dX7_grows_32 rfl rfl ?_
      refine ev_iald (pc' := 34) dX7_grows_33 rfl rfl ?_ ?_
      · exact vp_in_nI (by omega) (by omega)
      rw [ek]
      refine ev_if_le (tgt := 41) (pc' := 37) dX7_grows_34 (by decide) rfl (fun h_34 => ?_) (fun h_34 => ?_)
      · rw [if_neg (Int32.not_lt.mpr h_34)] at hv
        refine ev_aload_n (pc' := 42) dX7_grows_41 rfl rfl ?_
        refine ev_getf (pc' := 45) fl_7_128 dX7_grows_42 rfl rfl rfl ?_
        refine ev_iload_n (pc' := 46) dX7_grows_45 rfl rfl ?_
        refine ev_iald (pc' := 47) dX7_grows_46 rfl rfl ?_ ?_
        · exact vp_in_nI (by omega) (by omega)
        rw [ek]
        refine ev_iconst (pc' := 48) (v := -1) dX7_grows_47 rfl (by decide) ?_
        refine ev_icmp_ne (tgt := 56) (pc' := 51) dX7_grows_48 (by decide) rfl (fun h_48 => ?_) (fun h_48 => ?_)
        · rw [if_neg h_48] at hv
          refine ev_aload_n (pc' := 57) dX7_grows_56 rfl rfl ?_
          refine ev_getf (pc' := 60) fl_7_128 dX7_grows_57 rfl rfl rfl ?_
          refine ev_iload_n (pc' := 61) dX7_grows_60 rfl rfl ?_
          refine ev_iald (pc' := 62) dX7_grows_61 rfl rfl ?_ ?_
          · exact vp_in_nI (by omega) (by omega)
          
          refine ev_ireturn rfl dX7_grows_62 ?_
          rw [hv]
          first
            | exact ⟨rfl, rfl⟩
            | (rw [ek]; exact ⟨rfl, rfl⟩)
        · rw [if_pos h_48] at hv
          refine ev_bipush (pc' := 53) (v := -2) dX7_grows_51 rfl (by decide) ?_
          refine ev_goto (tgt := 62) dX7_grows_53 (by decide) ?_
          
          refine ev_ireturn rfl dX7_grows_62 ?_
          rw [hv]
          first
            | exact ⟨rfl, rfl⟩
            | (rw [ek]; exact ⟨rfl, rfl⟩)
      · rw [if_pos (Int32.not_le.mp h_34)] at hv
        refine ev_iconst (pc' := 38) (v := -1) dX7_grows_37 rfl (by decide) ?_
        refine ev_goto (tgt := 62) dX7_grows_38 (by decide) ?_
        
        refine ev_ireturn rfl dX7_grows_62 ?_
        rw [hv]
        first
          | exact ⟨rfl, rfl⟩
          | (rw [ek]; exact ⟨rfl, rfl⟩)
    · exact absurd rfl h_15 --
theorem m_ban_no {d : Nat} (σ : RS) (τ : TS) (P N l m : Nat) (hS : mS P N l m σ) (f x : Int32) (hg : ¬ q_loan σ f x = true) : Ok (d + 6) M7_ban [.ref 0, .int f, .int x] (WM σ τ) (rt (some (.int (-1))) (WM σ τ)) := by
  unfold q_loan at hg
  refine Ok.of (ls := [some _, some _, some _]) (by decide +kernel) (Nat.le_of_ble_eq_true rfl) rfl ?_
  refine ev_aload_n (pc' := 1) dX7_ban_0 rfl rfl ?_
  refine ev_iload_n (pc' := 2) dX7_ban_1 rfl rfl ?_
  refine ev_iload_n (pc' := 3) dX7_ban_2 rfl rfl ?_
  refine ev_cVi2 (pc' := 6) cl_7_329 (m_isPaper σ τ P N l m hS f x) dX7_ban_3 rfl rfl rfl rfl ?_
  refine ev_if_eq (tgt := 18) (pc' := 9) dX7_ban_6 (by decide) rfl (fun h_6 => ?_) (fun h_6 => ?_)
  · refine ev_iconst (pc' := 19) (v := -1) dX7_ban_18 rfl (by decide) ?_
    refine ev_ireturn rfl dX7_ban_19 ?_
    exact ⟨rfl, rfl⟩
  · rw [bI_0, Bool.not_eq_false] at h_6
    have hv : vp_in f 120 := by
      obtain ⟨k, n, k1, k2, k3, k4, k5⟩ := q_paper_of hS h_6
      have hN := hS.2.1
      rw [k3]
      exact vp_in_nI (by omega) (by omega)
    refine ev_aload_n (pc' := 10) dX7_ban_9 rfl rfl ?_
    refine ev_getf (pc' := 13) fl_7_89 dX7_ban_10 rfl rfl rfl ?_
    refine ev_iload_n (pc' := 14) dX7_ban_13 rfl rfl ?_
    refine ev_iald (pc' := 15) dX7_ban_14 rfl rfl ?_ ?_
    · exact hv
    refine ev_if_eq (tgt := 20) (pc' := 18) dX7_ban_15 (by decide) rfl (fun h_15 => ?_) (fun h_15 => ?_)
    · exact absurd (by rw [h_6, Bool.true_and]; exact decide_eq_true h_15) hg --
    · refine ev_iconst (pc' := 19) (v := -1) dX7_ban_18 rfl (by decide) ?_
      refine ev_ireturn rfl dX7_ban_19 ?_
      exact ⟨rfl, rfl⟩
def q_ban (G : RS) (k : Nat) : Int32 := if G 34 k = 4 then G 35 k else -1
theorem m_ban {d : Nat} (σ : RS) (τ : TS) (P N l m k n : Nat) (hS : mS P N l m σ) (hk : k < n) (hn : n ≤ N) (h0 : σ 24 k = 0) : Ok (d + 6) M7_ban [.ref 0, .int (nI k), .int (nI n)] (WM σ τ) (rt (some (.int (q_ban (g_gone P l m n 399 σ) k))) (WM (g_gone P l m n 399 σ) τ)) := by
  have hN := hS.2.1
  have ek : (nI k).toNatClampNeg = k := nI_clamp (by omega)
  have hc := hS.goes (d := d) τ hn (show 399 < 400 by omega)
  have h2 : σ 24 k ≤ 2 := by rw [h0]; decide
  generalize g_gone P l m n 399 σ = G at *
  obtain ⟨v, hv⟩ : ∃ v, v = q_ban G k := ⟨_, rfl⟩
  rw [← hv]
  unfold q_ban at hv
  refine Ok.of (ls := [some _, some _, some _]) (by decide +kernel) (Nat.le_of_ble_eq_true rfl) rfl ?_
  refine ev_aload_n (pc' := 1) dX7_ban_0 rfl rfl ?_
  refine ev_iload_n (pc' := 2) dX7_ban_1 rfl rfl ?_
  refine ev_iload_n (pc' := 3) dX7_ban_2 rfl rfl ?_
  refine ev_cVi2 (pc' := 6) cl_7_329 (m_isPaper σ τ P N l m hS _ _) dX7_ban_3 rfl rfl rfl rfl ?_
  refine ev_if_eq (tgt := 18) (pc' := 9) dX7_ban_6 (by decide) rfl (fun h_6 => ?_) (fun h_6 => ?_)
  · exact absurd h_6 (by rw [q_paper_t hS hk hn h2]; decide) --
  · refine ev_aload_n (pc' := 10) dX7_ban_9 rfl rfl ?_
    refine ev_getf (pc' := 13) fl_7_89 dX7_ban_10 rfl rfl rfl ?_
    refine ev_iload_n (pc' := 14) dX7_ban_13 rfl rfl ?_
    refine ev_iald (pc' := 15) dX7_ban_14 rfl rfl ?_ ?_
    · exact vp_in_nI (by omega) (by omega)
    rw [ek, h0]
    refine ev_if_eq (tgt := 20) (pc' := 18) dX7_ban_15 (by decide) rfl (fun h_15 => ?_) (fun h_15 => ?_)
    · refine ev_aload_n (pc' := 21) dX7_ban_20 rfl rfl ?_
      refine ev_iload_n (pc' := 22) dX7_ban_21 rfl rfl ?_
      refine ev_sipush (pc' := 25) (v := 399) dX7_ban_22 rfl (by decide) ?_
      refine ev_cVv2 (pc' := 28) cl_7_333 (hc) dX7_ban_25 rfl rfl rfl rfl ?_
      refine ev_aload_n (pc' := 29) dX7_ban_28 rfl rfl ?_
      refine ev_getf (pc' := 32) fl_7_122 dX7_ban_29 rfl rfl rfl ?_
      refine ev_iload_n (pc' := 33) dX7_ban_32 rfl rfl ?_
      refine ev_iald (pc' := 34) dX7_ban_33 rfl rfl ?_ ?_
      · exact vp_in_nI (by omega) (by omega)
      rw [ek]
      refine ev_iconst (pc' := 35) (v := 4) dX7_ban_34 rfl (by decide) ?_
      refine ev_icmp_ne (tgt := 47) (pc' := 38) dX7_ban_35 (by decide) rfl (fun h_35 => ?_) (fun h_35 => ?_)
      · rw [if_neg h_35] at hv
        refine ev_iconst (pc' := 48) (v := -1) dX7_ban_47 rfl (by decide) ?_
        refine ev_ireturn rfl dX7_ban_48 ?_
        rw [hv]
        exact ⟨rfl, rfl⟩
      · rw [if_pos h_35] at hv
        refine ev_aload_n (pc' := 39) dX7_ban_38 rfl rfl ?_
        refine ev_getf (pc' := 42) fl_7_125 dX7_ban_39 rfl rfl rfl ?_
        refine ev_iload_n (pc' := 43) dX7_ban_42 rfl rfl ?_
        refine ev_iald (pc' := 44) dX7_ban_43 rfl rfl ?_ ?_
        · exact vp_in_nI (by omega) (by omega)
        rw [ek]
        refine ev_goto (tgt := 48) dX7_ban_44 (by decide) ?_
        refine ev_ireturn rfl dX7_ban_48 ?_
        rw [hv]
        exact ⟨rfl, rfl⟩
    · exact absurd rfl h_15 --
