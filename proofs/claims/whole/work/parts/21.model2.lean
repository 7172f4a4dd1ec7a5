/-! The model, second part: tokens read one by one. -/
theorem m_token {d : Nat} (σ : RS) (τ : TS) (j : Nat) (hj : j < 403) (h10 : σ 0 10 = nI j) (k p v : Int32) (n : Int64) : Ok d M7_token [.ref 0, .int k, .int p, .int v, .long n] (WM σ τ) (rt none (WM (s2 (s1 (s1 (s1 σ 3 (upd (σ 3) j k)) 4 (upd (σ 4) j p)) 5 (upd (σ 5) j v)) 0 10 (nI (j + 1))) (l1 τ 6 (vp_updL (τ 6) j n)))) := by
  have hi : vp_in (σ 0 10) 403 := by rw [h10]; exact vp_in_nI hj (by omega)
  have e1 : (σ 0 10).toNatClampNeg = j := by rw [h10]; exact nI_clamp (by omega)
  refine Ok.of (ls := [some _, some _, some _, some _, some _, none]) (by decide +kernel) (Nat.le_of_ble_eq_true rfl) rfl ?_
  refine ev_aload_n (pc' := 1) dX7_token_0 rfl rfl ?_
  refine ev_getf (pc' := 4) fl_7_20 dX7_token_1 rfl rfl rfl ?_
  refine ev_aload_n (pc' := 5) dX7_token_4 rfl rfl ?_
  refine ev_getf (pc' := 8) fl_7_178 dX7_token_5 rfl rfl rfl ?_
  refine ev_iload_n (pc' := 9) dX7_token_8 rfl rfl ?_
  refine ev_iast (pc' := 10) dX7_token_9 rfl rfl ?_ (WM_a3 _ _ _) ?_
  · exact hi
  refine ev_aload_n (pc' := 11) dX7_token_10 rfl rfl ?_
  refine ev_getf (pc' := 14) fl_7_24 dX7_token_11 rfl rfl rfl ?_
  refine ev_aload_n (pc' := 15) dX7_token_14 rfl rfl ?_
  refine ev_getf (pc' := 18) fl_7_178 dX7_token_15 rfl rfl rfl ?_
  refine ev_iload_n (pc' := 19) dX7_token_18 rfl rfl ?_
  refine ev_iast (pc' := 20) dX7_token_19 rfl rfl ?_ (WM_a4 _ _ _) ?_
  · exact hi
  refine ev_aload_n (pc' := 21) dX7_token_20 rfl rfl ?_
  refine ev_getf (pc' := 24) fl_7_27 dX7_token_21 rfl rfl rfl ?_
  refine ev_aload_n (pc' := 25) dX7_token_24 rfl rfl ?_
  refine ev_getf (pc' := 28) fl_7_178 dX7_token_25 rfl rfl rfl ?_
  refine ev_iload_n (pc' := 29) dX7_token_28 rfl rfl ?_
  refine ev_iast (pc' := 30) dX7_token_29 rfl rfl ?_ (WM_a5 _ _ _) ?_
  · exact hi
  refine ev_aload_n (pc' := 31) dX7_token_30 rfl rfl ?_
  refine ev_getf (pc' := 34) fl_7_30 dX7_token_31 rfl rfl rfl ?_
  refine ev_aload_n (pc' := 35) dX7_token_34 rfl rfl ?_
  refine ev_getf (pc' := 38) fl_7_178 dX7_token_35 rfl rfl rfl ?_
  refine ev_lload (pc' := 40) dX7_token_38 rfl rfl ?_
  refine ev_last (pc' := 41) dX7_token_40 rfl rfl ?_ (WM_a6 _ _ _) ?_
  · exact hi
  refine ev_aload_n (pc' := 42) dX7_token_41 rfl rfl ?_
  refine ev_dup (pc' := 43) dX7_token_42 rfl rfl ?_
  refine ev_getf (pc' := 46) fl_7_178 dX7_token_43 rfl rfl rfl ?_
  refine ev_iconst (pc' := 47) (v := 1) dX7_token_46 rfl (by decide) ?_
  refine ev_iadd (pc' := 48) dX7_token_47 rfl ?_
  refine ev_putf (pc' := 51) fs_7_178 dX7_token_48 rfl rfl (Nat.le_of_ble_eq_true rfl) (fun _ => rfl) (fun _ => rfl) (WM_p7_10 _ _ _) ?_
  refine ev_return rfl dX7_token_51 ?_
  refine rt_of rfl ?_
  rw [← nI_1, ← h10, ← e1]
  rfl
def m_is' (σ : RS) (i : Nat) (k : Int32) : Bool := decide (σ 0 13 = 0 ∧ σ 3 i = k)
theorem m_is {d : Nat} (σ : RS) (τ : TS) (i : Nat) (hi : i < 403) (h11 : σ 0 11 = nI i) (k : Int32) : Ok d M7_is [.ref 0, .int k] (WM σ τ) (rt (some (.int (bI (m_is' σ i k)))) (WM σ τ)) := by
  have hv : vp_in (σ 0 11) 403 := by rw [h11]; exact vp_in_nI hi (by omega)
  have e1 : (σ 0 11).toNatClampNeg = i := by rw [h11]; exact nI_clamp (by omega)
  refine Ok.of (ls := [some _, some _]) (by decide +kernel) (Nat.le_of_ble_eq_true rfl) rfl ?_
  refine ev_aload_n (pc' := 1) dX7_is_0 rfl rfl ?_
  refine ev_getf (pc' := 4) fl_7_200 dX7_is_1 rfl rfl rfl ?_
  refine ev_if_ne (tgt := 24) (pc' := 7) dX7_is_4 (by decide) rfl (fun h_4 => ?_) (fun h_4 => ?_)
  · refine ev_iconst (pc' := 25) (v := 0) dX7_is_24 rfl (by decide) ?_
    refine ev_zreturn rfl rfl dX7_is_25 ?_
    refine rt_i ?_ rfl
    unfold m_is'
    simp_all [bI]
  · refine ev_aload_n (pc' := 8) dX7_is_7 rfl rfl ?_
    refine ev_getf (pc' := 11) fl_7_20 dX7_is_8 rfl rfl rfl ?_
    refine ev_aload_n (pc' := 12) dX7_is_11 rfl rfl ?_
    refine ev_getf (pc' := 15) fl_7_203 dX7_is_12 rfl rfl rfl ?_
    refine ev_iald (pc' := 16) dX7_is_15 rfl rfl ?_ ?_
    · exact hv
    rw [e1]
    refine ev_iload_n (pc' := 17) dX7_is_16 rfl rfl ?_
    refine ev_icmp_ne (tgt := 24) (pc' := 20) dX7_is_17 (by decide) rfl (fun h_17 => ?_) (fun h_17 => ?_)
    · refine ev_iconst (pc' := 25) (v := 0) dX7_is_24 rfl (by decide) ?_
      refine ev_zreturn rfl rfl dX7_is_25 ?_
      refine rt_i ?_ rfl
      unfold m_is'
      simp_all [bI]
    · refine ev_iconst (pc' := 21) (v := 1) dX7_is_20 rfl (by decide) ?_
      refine ev_goto (tgt := 25) dX7_is_21 (by decide) ?_
      refine ev_zreturn rfl rfl dX7_is_25 ?_
      refine rt_i ?_ rfl
      unfold m_is'
      simp_all [bI]
def m_fail' (σ : RS) (i : Nat) (k : Int32) : RS := if 0 < σ 0 13 then σ else s2 (s2 σ 0 13 k) 0 14 (σ 4 i)
theorem m_fail {d : Nat} (σ : RS) (τ : TS) (i : Nat) (hi : i < 403) (h11 : σ 0 11 = nI i) (k : Int32) : Ok d M7_fail [.ref 0, .int k] (WM σ τ) (rt none (WM (m_fail' σ i k) τ)) := by
  have hv : vp_in (σ 0 11) 403 := by rw [h11]; exact vp_in_nI hi (by omega)
  have e1 : (σ 0 11).toNatClampNeg = i := by rw [h11]; exact nI_clamp (by omega)
  refine Ok.of (ls := [some _, some _]) (by decide +kernel) (Nat.le_of_ble_eq_true rfl) rfl ?_
  refine ev_aload_n (pc' := 1) dX7_fail_0 rfl rfl ?_
  refine ev_getf (pc' := 4) fl_7_200 dX7_fail_1 rfl rfl rfl ?_
  refine ev_if_le (tgt := 8) (pc' := 7) dX7_fail_4 (by decide) rfl (fun h_4 => ?_) (fun h_4 => ?_)
  · have e : m_fail' σ i k = _ := if_neg (Int32.not_lt.mpr h_4)
    refine ev_aload_n (pc' := 9) dX7_fail_8 rfl rfl ?_
    refine ev_iload_n (pc' := 10) dX7_fail_9 rfl rfl ?_
    refine ev_putf (pc' := 13) fs_7_200 dX7_fail_10 rfl rfl (Nat.le_of_ble_eq_true rfl) (fun _ => rfl) (fun _ => rfl) (WM_p7_13 _ _ _) ?_
    refine ev_aload_n (pc' := 14) dX7_fail_13 rfl rfl ?_
    refine ev_aload_n (pc' := 15) dX7_fail_14 rfl rfl ?_
    refine ev_getf (pc' := 18) fl_7_24 dX7_fail_15 rfl rfl rfl ?_
    refine ev_aload_n (pc' := 19) dX7_fail_18 rfl rfl ?_
    refine ev_getf (pc' := 22) fl_7_203 dX7_fail_19 rfl rfl rfl ?_
    refine ev_iald (pc' := 23) dX7_fail_22 rfl rfl ?_ ?_
    · exact hv
    refine ev_putf (pc' := 26) fs_7_206 dX7_fail_23 rfl rfl (Nat.le_of_ble_eq_true rfl) (fun _ => rfl) (fun _ => rfl) (WM_p7_14 _ _ _) ?_
    refine ev_return rfl dX7_fail_26 ?_
    rw [e]
    first | exact ⟨rfl, rfl⟩ | (rw [← e1]; exact ⟨rfl, rfl⟩)
  · have e : m_fail' σ i k = σ := if_pos (Int32.not_le.mp h_4)
    refine ev_return rfl dX7_fail_7 ?_
    rw [e]
    first | exact ⟨rfl, rfl⟩ | (rw [← e1]; exact ⟨rfl, rfl⟩)
def m_next' (σ : RS) (i : Nat) : RS := if i = 400 then m_fail' σ i 2 else s2 σ 0 11 (nI (i + 1))
theorem m_next {d : Nat} (σ : RS) (τ : TS) (i : Nat) (hi : i < 403) (h11 : σ 0 11 = nI i) : Ok (d + 1) M7_next [.ref 0] (WM σ τ) (rt none (WM (m_next' σ i) τ)) := by
  refine Ok.of (ls := [some _]) (by decide +kernel) (Nat.le_of_ble_eq_true rfl) rfl ?_
  refine ev_aload_n (pc' := 1) dX7_next_0 rfl rfl ?_
  refine ev_getf (pc' := 4) fl_7_203 dX7_next_1 rfl rfl rfl ?_
  refine ev_sipush (pc' := 7) (v := 400) dX7_next_4 rfl (by decide) ?_
  refine ev_icmp_ne (tgt := 18) (pc' := 10) dX7_next_7 (by decide) rfl (fun h_7 => ?_) (fun h_7 => ?_)
  · have h7 : ¬ i = 400 := fun z => h_7 (by rw [h11, z]; rfl)
    have e : m_next' σ i = _ := if_neg h7
    refine ev_aload_n (pc' := 19) dX7_next_18 rfl rfl ?_
    refine ev_dup (pc' := 20) dX7_next_19 rfl rfl ?_
    refine ev_getf (pc' := 23) fl_7_203 dX7_next_20 rfl rfl rfl ?_
    refine ev_iconst (pc' := 24) (v := 1) dX7_next_23 rfl (by decide) ?_
    refine ev_iadd (pc' := 25) dX7_next_24 rfl ?_
    refine ev_putf (pc' := 28) fs_7_203 dX7_next_25 rfl rfl (Nat.le_of_ble_eq_true rfl) (fun _ => rfl) (fun _ => rfl) (WM_p7_11 _ _ _) ?_
    refine ev_return rfl dX7_next_28 ?_
    rw [e]
    first | exact ⟨rfl, rfl⟩ | (rw [← nI_1, ← h11]; exact ⟨rfl, rfl⟩)
  · have h7 : i = 400 := (nI_eq (by omega) (by omega)).mp (h11.symm.trans h_7)
    have e : m_next' σ i = _ := if_pos h7
    refine ev_aload_n (pc' := 11) dX7_next_10 rfl rfl ?_
    refine ev_iconst (pc' := 12) (v := 2) dX7_next_11 rfl (by decide) ?_
    refine ev_cVv1 (pc' := 15) cl_7_215 (m_fail σ τ i hi h11 _) dX7_next_12 rfl rfl rfl rfl ?_
    refine ev_goto (tgt := 28) dX7_next_15 (by decide) ?_
    refine ev_return rfl dX7_next_28 ?_
    rw [e]
    first | exact ⟨rfl, rfl⟩ | (rw [← nI_1, ← h11]; exact ⟨rfl, rfl⟩)
def m_must' (σ : RS) (i : Nat) (k : Int32) : RS := if m_is' σ i k = true then m_next' σ i else m_fail' σ i 1
theorem m_must {d : Nat} (σ : RS) (τ : TS) (i : Nat) (hi : i < 403) (h11 : σ 0 11 = nI i) (k : Int32) : Ok (d + 2) M7_must [.ref 0, .int k] (WM σ τ) (rt none (WM (m_must' σ i k) τ)) := by
  refine Ok.of (ls := [some _, some _]) (by decide +kernel) (Nat.le_of_ble_eq_true rfl) rfl ?_
  refine ev_aload_n (pc' := 1) dX7_must_0 rfl rfl ?_
  refine ev_iload_n (pc' := 2) dX7_must_1 rfl rfl ?_
  refine ev_cVi1 (pc' := 5) cl_7_218 (m_is σ τ i hi h11 _) dX7_must_2 rfl rfl rfl rfl ?_
  refine ev_if_eq (tgt := 15) (pc' := 8) dX7_must_5 (by decide) rfl (fun h_5 => ?_) (fun h_5 => ?_)
  · rw [bI_0] at h_5
    have e : m_must' σ i k = _ := if_neg (by rw [h_5]; decide)
    refine ev_aload_n (pc' := 16) dX7_must_15 rfl rfl ?_
    refine ev_iconst (pc' := 17) (v := 1) dX7_must_16 rfl (by decide) ?_
    refine ev_cVv1 (pc' := 20) cl_7_215 (m_fail σ τ i hi h11 _) dX7_must_17 rfl rfl rfl rfl ?_
    refine ev_return rfl dX7_must_20 ?_
    rw [e]
    exact ⟨rfl, rfl⟩
  · rw [bI_0, Bool.not_eq_false] at h_5
    have e : m_must' σ i k = _ := if_pos h_5
    refine ev_aload_n (pc' := 9) dX7_must_8 rfl rfl ?_
    refine ev_cVv0 (pc' := 12) cl_7_221 (m_next σ τ i hi h11) dX7_must_9 rfl rfl rfl rfl ?_
    refine ev_goto (tgt := 20) dX7_must_12 (by decide) ?_
    refine ev_return rfl dX7_must_20 ?_
    rw [e]
    exact ⟨rfl, rfl⟩
def m_emit' (σ : RS) (j : Nat) (k v : Int32) : RS := s2 (s1 (s1 σ 20 (upd (σ 20) j k)) 21 (upd (σ 21) j v)) 0 32 (nI (j + 1))
theorem m_emit {d : Nat} (σ : RS) (τ : TS) (j : Nat) (hj : j < 1000) (h32 : σ 0 32 = nI j) (k v : Int32) : Ok d M7_emit [.ref 0, .int k, .int v] (WM σ τ) (rt none (WM (m_emit' σ j k v) τ)) := by
  have hi : vp_in (σ 0 32) 1000 := by rw [h32]; exact vp_in_nI hj (by omega)
  have e1 : (σ 0 32).toNatClampNeg = j := by rw [h32]; exact nI_clamp (by omega)
  refine Ok.of (ls := [some _, some _, some _]) (by decide +kernel) (Nat.le_of_ble_eq_true rfl) rfl ?_
  refine ev_aload_n (pc' := 1) dX7_emit_0 rfl rfl ?_
  refine ev_getf (pc' := 4) fl_7_77 dX7_emit_1 rfl rfl rfl ?_
  refine ev_aload_n (pc' := 5) dX7_emit_4 rfl rfl ?_
  refine ev_getf (pc' := 8) fl_7_236 dX7_emit_5 rfl rfl rfl ?_
  refine ev_iload_n (pc' := 9) dX7_emit_8 rfl rfl ?_
  refine ev_iast (pc' := 10) dX7_emit_9 rfl rfl ?_ (WM_a20 _ _ _) ?_
  · exact hi
  refine ev_aload_n (pc' := 11) dX7_emit_10 rfl rfl ?_
  refine ev_getf (pc' := 14) fl_7_80 dX7_emit_11 rfl rfl rfl ?_
  refine ev_aload_n (pc' := 15) dX7_emit_14 rfl rfl ?_
  refine ev_getf (pc' := 18) fl_7_236 dX7_emit_15 rfl rfl rfl ?_
  refine ev_iload_n (pc' := 19) dX7_emit_18 rfl rfl ?_
  refine ev_iast (pc' := 20) dX7_emit_19 rfl rfl ?_ (WM_a21 _ _ _) ?_
  · exact hi
  refine ev_aload_n (pc' := 21) dX7_emit_20 rfl rfl ?_
  refine ev_dup (pc' := 22) dX7_emit_21 rfl rfl ?_
  refine ev_getf (pc' := 25) fl_7_236 dX7_emit_22 rfl rfl rfl ?_
  refine ev_iconst (pc' := 26) (v := 1) dX7_emit_25 rfl (by decide) ?_
  refine ev_iadd (pc' := 27) dX7_emit_26 rfl ?_
  refine ev_putf (pc' := 30) fs_7_236 dX7_emit_27 rfl rfl (Nat.le_of_ble_eq_true rfl) (fun _ => rfl) (fun _ => rfl) (WM_p7_32 _ _ _) ?_
  refine ev_return rfl dX7_emit_30 ?_
  refine rt_of rfl ?_
  unfold m_emit'
  rw [← nI_1, ← h32, ← e1]
  rfl
def m_feed' (σ : RS) (a b c e f : Int32) : RS := m_puts f 4 (m_puts e 4 (m_puts c 4 (m_puts b 4 (m_puts a 4 σ))))
theorem m_puts_taped (w : Int32) : ∀ (c k : Nat) (σ : RS), σ 0 2 = nI k → (m_puts w c σ) 0 2 = nI (k + c) := by
  intro c
  induction c with
  | zero => intro k σ h; exact h
  | succ c ih =>
    intro k σ h
    rw [m_puts, ih (k + 1) _ (by show σ 0 2 + 1 = _; rw [h, nI_1]), show k + 1 + c = k + (c + 1) by omega]
theorem m_feed {d : Nat} (σ : RS) (τ : TS) (k : Nat) (hk : k ≤ 2000) (h2 : σ 0 2 = nI k) (a b c e f : Int32) : Ok (d + 1) M7_feed [.ref 0, .int a, .int b, .int c, .int e, .int f] (WM σ τ) (if 2000 < k + 20 then rt (some (.int (-1))) (WM σ τ) else rt (some (.int (nI (k + 20)))) (WM (m_feed' σ a b c e f) τ)) := by
  have h20 : σ 0 2 + 20 = nI (k + 20) := by rw [h2]; exact nI_add k 20
  have a1 := m_puts_taped a 4 k σ h2
  have a2 := m_puts_taped b 4 _ _ a1
  have a3 := m_puts_taped c 4 _ _ a2
  have a4 := m_puts_taped e 4 _ _ a3
  have a5 := m_puts_taped f 4 _ _ a4
  rw [show k + 4 + 4 + 4 + 4 + 4 = k + 20 by omega] at a5
  unfold m_feed'
  refine Ok.of (ls := [some _, some _, some _, some _, some _, some _]) (by decide +kernel) (Nat.le_of_ble_eq_true rfl) rfl ?_
  refine ev_aload_n (pc' := 1) dX7_feed_0 rfl rfl ?_
  refine ev_getf (pc' := 4) fl_7_162 dX7_feed_1 rfl rfl rfl ?_
  refine ev_bipush (pc' := 6) (v := 20) dX7_feed_4 rfl (by decide) ?_
  refine ev_iadd (pc' := 7) dX7_feed_6 rfl ?_
  rw [h20]
  refine ev_sipush (pc' := 10) (v := 2000) dX7_feed_7 rfl (by decide) ?_
  refine ev_icmp_le (tgt := 15) (pc' := 13) dX7_feed_10 (by decide) rfl (fun h_10 => ?_) (fun h_10 => ?_)
  · have h10 : k + 20 ≤ 2000 := (nI_leI (a := k + 20) (b := 2000) (by omega) (by omega)).mp h_10
    rw [if_neg (by omega)]
    refine ev_aload_n (pc' := 16) dX7_feed_15 rfl rfl ?_
    refine ev_iload_n (pc' := 17) dX7_feed_16 rfl rfl ?_
    refine ev_cVv1 (pc' := 20) cl_7_165 (m_put σ τ a k h2 (by omega)) dX7_feed_17 rfl rfl rfl rfl ?_
    refine ev_aload_n (pc' := 21) dX7_feed_20 rfl rfl ?_
    refine ev_iload_n (pc' := 22) dX7_feed_21 rfl rfl ?_
    refine ev_cVv1 (pc' := 25) cl_7_165 (m_put _ τ b _ a1 (by omega)) dX7_feed_22 rfl rfl rfl rfl ?_
    refine ev_aload_n (pc' := 26) dX7_feed_25 rfl rfl ?_
    refine ev_iload_n (pc' := 27) dX7_feed_26 rfl rfl ?_
    refine ev_cVv1 (pc' := 30) cl_7_165 (m_put _ τ c _ a2 (by omega)) dX7_feed_27 rfl rfl rfl rfl ?_
    refine ev_aload_n (pc' := 31) dX7_feed_30 rfl rfl ?_
    refine ev_iload (pc' := 33) dX7_feed_31 rfl rfl ?_
    refine ev_cVv1 (pc' := 36) cl_7_165 (m_put _ τ e _ a3 (by omega)) dX7_feed_33 rfl rfl rfl rfl ?_
    refine ev_aload_n (pc' := 37) dX7_feed_36 rfl rfl ?_
    refine ev_iload (pc' := 39) dX7_feed_37 rfl rfl ?_
    refine ev_cVv1 (pc' := 42) cl_7_165 (m_put _ τ f _ a4 (by omega)) dX7_feed_39 rfl rfl rfl rfl ?_
    refine ev_aload_n (pc' := 43) dX7_feed_42 rfl rfl ?_
    refine ev_getf (pc' := 46) fl_7_162 dX7_feed_43 rfl rfl rfl ?_
    refine ev_ireturn rfl dX7_feed_46 ?_
    rw [a5]
    exact rt_of rfl rfl
  · have h10 : ¬ k + 20 ≤ 2000 := fun z => h_10 ((nI_leI (a := k + 20) (b := 2000) (by omega) (by omega)).mpr z)
    rw [if_pos (by omega)]
    refine ev_iconst (pc' := 14) (v := -1) dX7_feed_13 rfl (by decide) ?_
    refine ev_ireturn rfl dX7_feed_14 ?_
    exact ⟨rfl, rfl⟩
