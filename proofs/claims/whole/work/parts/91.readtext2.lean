/-! readText from its beginning; read. -/
theorem kD_open {d : Nat} (σ : RS) (la sp rl tx n : Nat) (hn : n ≤ 2000) : Ok d M3_open [.ref 28, .ref 1, .int (nI n)] (WD σ la sp rl tx) (rt none (WD (s2 (s2 σ 28 4 (nI n)) 28 5 0) la sp rl 1)) := by
  have hm : (if Int32.ofNat 2000 < nI n then Int32.ofNat 2000 else nI n) = nI n := if_neg (nI_nlt (a := 2000) (b := n) hn (by omega))
  refine Ok.of (ls := [some _, some _, some _]) (by decide +kernel) (Nat.le_of_ble_eq_true rfl) rfl ?_
  refine ev_aload_n (pc' := 1) dX3_open_0 rfl rfl ?_
  refine ev_aload_n (pc' := 2) dX3_open_1 rfl rfl ?_
  refine ev_putf (pc' := 5) fs_3_21 dX3_open_2 rfl rfl (Nat.le_of_ble_eq_true rfl) (fun _ => rfl) (fun _ => rfl) (WD_p3_3 _ _ _ _ _ _) ?_
  refine ev_aload_n (pc' := 6) dX3_open_5 rfl rfl ?_
  refine ev_iload_n (pc' := 7) dX3_open_6 rfl rfl ?_
  refine ev_aload_n (pc' := 8) dX3_open_7 rfl rfl ?_
  refine ev_alen (pc' := 9) (t := 0) dX3_open_8 rfl rfl rfl rfl ?_
  refine ev_mmin (pc' := 12) pw_3_31 dX3_open_9 rfl rfl ?_
  rw [hm]
  refine ev_putf (pc' := 15) fs_3_25 dX3_open_12 rfl rfl (Nat.le_of_ble_eq_true rfl) (fun _ => rfl) (fun _ => rfl) (WD_p3_4 _ _ _ _ _ _) ?_
  refine ev_aload_n (pc' := 16) dX3_open_15 rfl rfl ?_
  refine ev_iconst (pc' := 17) (v := 0) dX3_open_16 rfl (by decide) ?_
  refine ev_putf (pc' := 20) fs_3_28 dX3_open_17 rfl rfl (Nat.le_of_ble_eq_true rfl) (fun _ => rfl) (fun _ => rfl) (WD_p3_5 _ _ _ _ _ _) ?_
  refine ev_return rfl dX3_open_20 ?_
  exact ⟨rfl, rfl⟩
theorem kD_clear {d : Nat} (σ : RS) (la sp rl tx lb : Nat) (hl : la_ok lb) : Ok d M2_clear [.ref lb] (WD σ la sp rl tx) (rt none (WD (s2 (s2 σ lb 7 0) lb 8 0) la sp rl tx)) := by
  rcases hl with rfl | rfl
  · exact Ok.wr (k_clear (fun k => σ (10 + k)) (σ 17)) (PD_lawa σ la sp rl tx) rfl rfl rfl
  · exact Ok.wr (k_clear (fun k => σ (18 + k)) (σ 25)) (PD_lawb σ la sp rl tx) rfl rfl rfl
def z_init (sp n : Nat) (σ : RS) : RS := s2 (s2 (s2 (s2 (s2 (s2 (s2 (s2 (s2 σ 28 4 (nI n)) 28 5 0) sp 7 0) sp 8 0) 26 3 0) 26 4 0) 26 6 0) 26 7 0) 26 8 0
theorem zK_s2 {sp c : Nat} (σ : RS) (j : Nat) (v : Int32) (h : c = 26 ∨ c = 27 ∨ c = 28 ∨ (sp ≤ c ∧ c < sp + 8)) : zK sp σ (s2 σ c j v) := zK_s1 σ _ h
theorem z_init_K (sp n : Nat) (σ : RS) : zK sp σ (z_init sp n σ) := ((((((((zK_s2 _ _ _ (by omega)).trans (zK_s2 _ _ _ (by omega))).trans (zK_s2 _ _ _ (by omega))).trans (zK_s2 _ _ _ (by omega))).trans (zK_s2 _ _ _ (by omega))).trans (zK_s2 _ _ _ (by omega))).trans (zK_s2 _ _ _ (by omega))).trans (zK_s2 _ _ _ (by omega))).trans (zK_s2 _ _ _ (by omega))
theorem z_init_zr {sp : Nat} (hs : la_ok sp) (n : Nat) (σ : RS) : zr ym_0 (zd sp (z_init sp n σ)) := by
  have h47 : (zd sp (z_init sp n σ)) 4 7 = 0 ∧ (zd sp (z_init sp n σ)) 4 8 = 0 := by
    rcases hs with rfl | rfl <;> exact ⟨rfl, rfl⟩
  have h0 : (zd sp (z_init sp n σ)) 0 = upd (upd (upd (upd (upd (σ 26) 3 0) 4 0) 6 0) 7 0) 8 0 := by
    rcases hs with rfl | rfl <;> rfl
  refine ⟨?_, ⟨?_, trivial, h47.1, fun i c h => by cases h⟩, h47.2, trivial, fun z => absurd z (by omega), fun z => absurd z (by omega)⟩
  · rw [h0]
    exact ⟨rfl, fun z => absurd z (by omega), rfl, rfl, rfl⟩
  · rw [h0]; rfl
theorem d_readText {d : Nat} (σ : RS) (la sp rl tx n f : Nat) (R : Int32 × Nat × YS) (hs : la_ok sp) (hn : n ≤ 2000) (ht : ∀ j, j < n → ¬ σ 1 j = -1) (hrun : ym_run n (σ 1) f 0 ym_0 = some R) : Ok (d + 7) M4_readText [.ref 26, .ref 1, .int (nI n), .ref sp] (WD σ la sp rl tx) (zQ la sp R σ) := by
  have hsp : sp = 10 ∨ sp = 18 := hs
  have oL := fun τ => kD_clear (d := d + 6) τ la sp sp 1 sp hs
  have kE : Ev (d + 7) M4_readText (zQ la sp R σ) 49 [some (.ref 26), some (.ref 1), some (.int (nI n)), some (.ref sp), some (.int (nI 0))] [] (WD (z_init sp n σ) la sp sp 1) := by
    have hne : ∀ c, c ≠ 26 → c ≠ 28 → c ≠ sp → (z_init sp n σ) c = σ c := fun c c1 c2 c3 => by
      unfold z_init s2
      simp only [s1_ne _ _ c1, s1_ne _ _ c2, s1_ne _ _ c3]
    have h28 : (z_init sp n σ) 28 = upd (upd (σ 28) 4 (nI n)) 5 0 := by
      rcases hs with rfl | rfl <;> rfl
    refine d_read_loop (t := σ 1) hs hn ht f 0 0 ym_0 _ hrun (z_init_zr hs n σ) ym_ok_0 (by rw [h28]; rfl) (by rw [h28]; rfl) (Nat.le_refl 0) (Nat.zero_le _) (hne 1 (by omega) (by omega) (by omega)) (z_init_K sp n σ)
  rcases hs with rfl | rfl
  · skip
    refine Ok.of (ls := [some _, some _, some _, some _, none]) (by decide +kernel) (Nat.le_of_ble_eq_true rfl) rfl ?_
    refine ev_aload_n (pc' := 1) dX4_readText_0 rfl rfl ?_
    refine ev_getf (pc' := 4) fl_4_12 dX4_readText_1 rfl rfl rfl ?_
    refine ev_aload_n (pc' := 5) dX4_readText_4 rfl rfl ?_
    refine ev_iload_n (pc' := 6) dX4_readText_5 rfl rfl ?_
    refine ev_cVv2 (pc' := 9) cl_4_45 (kD_open _ _ _ _ _ n hn) dX4_readText_6 rfl rfl rfl rfl ?_
    refine ev_aload_n (pc' := 10) dX4_readText_9 rfl rfl ?_
    refine ev_aload_n (pc' := 11) dX4_readText_10 rfl rfl ?_
    refine ev_putf (pc' := 14) fs_4_41 dX4_readText_11 rfl rfl (Nat.le_of_ble_eq_true rfl) (fun _ => rfl) (fun _ => rfl) (WD_p4_2 _ _ _ _ _ _) ?_
    refine ev_aload_n (pc' := 15) dX4_readText_14 rfl rfl ?_
    refine ev_getf (pc' := 18) fl_4_41 dX4_readText_15 rfl rfl rfl ?_
    refine ev_cVv0 (pc' := 21) cl_4_49 (oL _) dX4_readText_18 rfl rfl rfl rfl ?_
    refine ev_aload_n (pc' := 22) dX4_readText_21 rfl rfl ?_
    refine ev_iconst (pc' := 23) (v := 0) dX4_readText_22 rfl (by decide) ?_
    refine ev_putf (pc' := 26) fs_4_22 dX4_readText_23 rfl rfl (Nat.le_of_ble_eq_true rfl) (fun _ => rfl) (fun _ => rfl) (WD_p4_3 _ _ _ _ _ _) ?_
    refine ev_aload_n (pc' := 27) dX4_readText_26 rfl rfl ?_
    refine ev_iconst (pc' := 28) (v := 0) dX4_readText_27 rfl (by decide) ?_
    refine ev_putf (pc' := 31) fs_4_26 dX4_readText_28 rfl rfl (Nat.le_of_ble_eq_true rfl) (fun _ => rfl) (fun _ => rfl) (WD_p4_4 _ _ _ _ _ _) ?_
    refine ev_aload_n (pc' := 32) dX4_readText_31 rfl rfl ?_
    refine ev_iconst (pc' := 33) (v := 0) dX4_readText_32 rfl (by decide) ?_
    refine ev_putf (pc' := 36) fs_4_32 dX4_readText_33 rfl rfl (Nat.le_of_ble_eq_true rfl) (fun _ => rfl) (fun _ => rfl) (WD_p4_6 _ _ _ _ _ _) ?_
    refine ev_aload_n (pc' := 37) dX4_readText_36 rfl rfl ?_
    refine ev_iconst (pc' := 38) (v := 0) dX4_readText_37 rfl (by decide) ?_
    refine ev_putf (pc' := 41) fs_4_35 dX4_readText_38 rfl rfl (Nat.le_of_ble_eq_true rfl) (fun _ => rfl) (fun _ => rfl) (WD_p4_7 _ _ _ _ _ _) ?_
    refine ev_aload_n (pc' := 42) dX4_readText_41 rfl rfl ?_
    refine ev_iconst (pc' := 43) (v := 0) dX4_readText_42 rfl (by decide) ?_
    refine ev_putf (pc' := 46) fs_4_38 dX4_readText_43 rfl rfl (Nat.le_of_ble_eq_true rfl) (fun _ => rfl) (fun _ => rfl) (WD_p4_8 _ _ _ _ _ _) ?_
    refine ev_iconst (pc' := 47) (v := 0) dX4_readText_46 rfl (by decide) ?_
    refine ev_istore (pc' := 49) (ls' := [_, _, _, _, _]) dX4_readText_47 rfl rfl rfl ?_
    exact kE
  · skip
    refine Ok.of (ls := [some _, some _, some _, some _, none]) (by decide +kernel) (Nat.le_of_ble_eq_true rfl) rfl ?_
    refine ev_aload_n (pc' := 1) dX4_readText_0 rfl rfl ?_
    refine ev_getf (pc' := 4) fl_4_12 dX4_readText_1 rfl rfl rfl ?_
    refine ev_aload_n (pc' := 5) dX4_readText_4 rfl rfl ?_
    refine ev_iload_n (pc' := 6) dX4_readText_5 rfl rfl ?_
    refine ev_cVv2 (pc' := 9) cl_4_45 (kD_open _ _ _ _ _ n hn) dX4_readText_6 rfl rfl rfl rfl ?_
    refine ev_aload_n (pc' := 10) dX4_readText_9 rfl rfl ?_
    refine ev_aload_n (pc' := 11) dX4_readText_10 rfl rfl ?_
    refine ev_putf (pc' := 14) fs_4_41 dX4_readText_11 rfl rfl (Nat.le_of_ble_eq_true rfl) (fun _ => rfl) (fun _ => rfl) (WD_p4_2 _ _ _ _ _ _) ?_
    refine ev_aload_n (pc' := 15) dX4_readText_14 rfl rfl ?_
    refine ev_getf (pc' := 18) fl_4_41 dX4_readText_15 rfl rfl rfl ?_
    refine ev_cVv0 (pc' := 21) cl_4_49 (oL _) dX4_readText_18 rfl rfl rfl rfl ?_
    refine ev_aload_n (pc' := 22) dX4_readText_21 rfl rfl ?_
    refine ev_iconst (pc' := 23) (v := 0) dX4_readText_22 rfl (by decide) ?_
    refine ev_putf (pc' := 26) fs_4_22 dX4_readText_23 rfl rfl (Nat.le_of_ble_eq_true rfl) (fun _ => rfl) (fun _ => rfl) (WD_p4_3 _ _ _ _ _ _) ?_
    refine ev_aload_n (pc' := 27) dX4_readText_26 rfl rfl ?_
    refine ev_iconst (pc' := 28) (v := 0) dX4_readText_27 rfl (by decide) ?_
    refine ev_putf (pc' := 31) fs_4_26 dX4_readText_28 rfl rfl (Nat.le_of_ble_eq_true rfl) (fun _ => rfl) (fun _ => rfl) (WD_p4_4 _ _ _ _ _ _) ?_
    refine ev_aload_n (pc' := 32) dX4_readText_31 rfl rfl ?_
    refine ev_iconst (pc' := 33) (v := 0) dX4_readText_32 rfl (by decide) ?_
    refine ev_putf (pc' := 36) fs_4_32 dX4_readText_33 rfl rfl (Nat.le_of_ble_eq_true rfl) (fun _ => rfl) (fun _ => rfl) (WD_p4_6 _ _ _ _ _ _) ?_
    refine ev_aload_n (pc' := 37) dX4_readText_36 rfl rfl ?_
    refine ev_iconst (pc' := 38) (v := 0) dX4_readText_37 rfl (by decide) ?_
    refine ev_putf (pc' := 41) fs_4_35 dX4_readText_38 rfl rfl (Nat.le_of_ble_eq_true rfl) (fun _ => rfl) (fun _ => rfl) (WD_p4_7 _ _ _ _ _ _) ?_
    refine ev_aload_n (pc' := 42) dX4_readText_41 rfl rfl ?_
    refine ev_iconst (pc' := 43) (v := 0) dX4_readText_42 rfl (by decide) ?_
    refine ev_putf (pc' := 46) fs_4_38 dX4_readText_43 rfl rfl (Nat.le_of_ble_eq_true rfl) (fun _ => rfl) (fun _ => rfl) (WD_p4_8 _ _ _ _ _ _) ?_
    refine ev_iconst (pc' := 47) (v := 0) dX4_readText_46 rfl (by decide) ?_
    refine ev_istore (pc' := 49) (ls' := [_, _, _, _, _]) dX4_readText_47 rfl rfl rfl ?_
    exact kE
