/-! read (class 6). -/
theorem cI_keep {F : FF} {lv : Nat → Int32} {A : List YL} {P N r la : Nat} {σ σ' : RS} (h : cI F lv A P N r la σ) (e7 : σ' 0 7 = σ 0 7) (e : ∀ c, (2 ≤ c ∧ c < 10) ∨ (la ≤ c ∧ c < la + 7) ∨ (30 ≤ c ∧ c < 50) → σ' c = σ c) : cI F lv A P N r la σ' := by
  obtain ⟨hl, ⟨hP, hN, hok⟩, h7, h8, hF, hlv, hA, hr, hr2, hk1, hk2⟩ := h
  refine ⟨hl, ⟨hP, hN, hok⟩, by rw [e 2 (by omega)]; exact h7, by rw [e 2 (by omega)]; exact h8, ?_, by rw [e 3 (by omega)]; exact hlv, claw_dk hA (fun k hk => e _ (by omega)), e7.trans hr, hr2, kI_same hk1 (fun c hc => e _ (by omega)) (e 9 (by omega)), kI_same hk2 (fun c hc => e _ (by omega)) (e 9 (by omega))⟩
  refine cFacts_same hF (fun c c1 c2 => ?_)
  rw [dk_book _ _ _ (by omega) c2, dk_book _ _ _ (by omega) c2]
  exact e _ (by omega)
theorem kI_next {F : FF} {lv : Nat → Int32} {A A' : List YL} {N r kb : Nat} {σ σ' : RS} (h : kI F lv A N r σ kb) (e : ∀ c, c < 8 → σ' (kb + c) = σ (kb + c)) : kI F lv A' N (r + 1) σ' kb := by
  obtain ⟨h0, h1⟩ := h
  have e0 : σ' kb = σ kb := e 0 (by omega)
  refine ⟨fun j hj => by rw [e 7 (by omega)]; exact h0 j hj, ?_⟩
  rw [e0]
  rcases h1 with h1 | ⟨n, q, h2, h3, h4, h5, h6⟩
  · exact Or.inl h1
  · exact Or.inr ⟨n, q, h2, by omega, h4, h5, fun hq => by omega⟩
theorem cI_next {F : FF} {lv : Nat → Int32} {A A' : List YL} {P N r la sp : Nat} {σ σ' : RS} (h : cI F lv A P N r la σ) (hs : la_ok sp) (hA : claw (lw (dk 30 sp σ')) A') (e7 : σ' 0 7 = nI (r + 1)) (hr : r + 1 < 2 ^ 20) (e : ∀ c, (2 ≤ c ∧ c < 10) ∨ (30 ≤ c ∧ c < 50) → σ' c = σ c) : cI F lv A' P N (r + 1) sp σ' := by
  obtain ⟨hl, ⟨hP, hN, hok⟩, h7, h8, hF, hlv, -, -, -, hk1, hk2⟩ := h
  refine ⟨hs, ⟨hP, hN, hok⟩, by rw [e 2 (by omega)]; exact h7, by rw [e 2 (by omega)]; exact h8, ?_, by rw [e 3 (by omega)]; exact hlv, hA, e7, hr, kI_next hk1 (fun c hc => e _ (by omega)), kI_next hk2 (fun c hc => e _ (by omega))⟩
  refine cFacts_same hF (fun c c1 c2 => ?_)
  rw [dk_book _ _ _ (by omega) c2, dk_book _ _ _ (by omega) c2]
  exact e _ (by omega)
theorem kD_placeOfFault {d : Nat} (σ : RS) (la sp : Nat) (hs : la_ok sp) : Ok d M4_placeOfFault [.ref 26] (WD σ la sp sp 1) (rt (some (.int (if σ 26 8 = 0 then -1 else σ 28 0))) (WD σ la sp sp 1)) := by
  rcases hs with rfl | rfl
  · exact Ok.roP (k_placeOfFault (zd 10 σ) (σ 17)) (PZ_a σ la) rfl
  · exact Ok.roP (k_placeOfFault (zd 18 σ) (σ 25)) (PZ_b σ la) rfl
/-- the two laws' places -/
def twoLaws (la sp : Nat) : Prop := (la = 10 ∧ sp = 18) ∨ (la = 18 ∧ sp = 10)
def drQ (F : FF) (lv : Nat → Int32) (A : List YL) (P N r la sp : Nat) (R : Int32 × Nat × YS) (σ : RS) : Option Value → MW → Prop := fun v w => v = some (.int R.1) ∧ ∃ σ' la' sp', w = WD σ' la' sp' sp 1 ∧ twoLaws la' sp' ∧ σ' 0 2 = 0 ∧ σ' 2 = σ 2 ∧ ((¬ R.1 = 0 ∧ (R.1 = 1 ∨ R.1 = 2) ∧ σ' 0 6 = nI R.2.1 ∧ cI F lv A P N r la' σ') ∨ (R.1 = 0 ∧ σ' 0 6 = -1 ∧ cI F lv R.2.2.2.2.1.1 P N (r + 1) la' σ'))
theorem d_read {d : Nat} {F : FF} {lv : Nat → Int32} {A : List YL} {P N r la sp : Nat} {σ : RS} (rl tx : Nat) (h : cI F lv A P N r la σ) (h2 : twoLaws la sp) (hr : r + 1 < 2 ^ 20) (n f : Nat) (R : Int32 × Nat × YS) (hn : n ≤ 2000) (hlen : σ 0 2 = nI n) (ht : ∀ j, j < n → ¬ σ 1 j = -1) (hrun : ym_run n (σ 1) f 0 ym_0 = some R) : Ok (d + 8) M6_read [.ref 0] (WD σ la sp rl tx) (drQ F lv A P N r la sp R σ) := by
  have hs : la_ok sp := by
    rcases h2 with ⟨-, e⟩ | ⟨-, e⟩
    · exact Or.inr e
    · exact Or.inl e
  have hls : (la = 10 ∧ sp = 18) ∨ (la = 18 ∧ sp = 10) := h2
  have oR := d_readText (d := d) σ la sp rl tx n f R hs hn ht hrun
  rw [← hlen] at oR
  have oP := fun τ => kD_placeOfFault (d := d + 7) τ la sp hs
  have hr7 : σ 0 7 = nI r := h.2.2.2.2.2.2.2.1
  have finF : ∀ σ1 x, zK sp σ σ1 → σ1 26 8 = R.1 → (R.1 = 1 ∨ R.1 = 2) → ¬ R.1 = 0 → σ1 28 0 = nI R.2.1 → x = (if σ1 26 8 = 0 then -1 else σ1 28 0) → drQ F lv A P N r la sp R σ (some (.int R.1)) (WD (s2 (s2 σ1 0 2 0) 0 6 x) la sp sp 1) := by
    intro σ1 x hK h8 hR hn0 h0 hx
    have hx' : x = nI R.2.1 := by rw [hx, h8, if_neg hn0]; exact h0
    have hne : ∀ c, c ≠ 0 → (s2 (s2 σ1 0 2 0) 0 6 x) c = σ1 c := fun c hc => by
      unfold s2
      rw [s1_ne _ _ hc, s1_ne _ _ hc]
    have e0 : ∀ j, j ≠ 2 → j ≠ 6 → (s2 (s2 σ1 0 2 0) 0 6 x) 0 j = σ1 0 j := fun j j1 j2 => by
      show (upd ((upd (σ1 0) 2 0)) 6 x) j = _
      rw [upd_ne _ _ j2, upd_ne _ _ j1]
    have z0 : σ1 0 = σ 0 := hK 0 (by omega) (by omega) (by omega) (by omega)
    refine ⟨rfl, _, la, sp, rfl, h2, rfl, ?_, Or.inl ⟨hn0, hR, hx', cI_keep h ?_ (fun c hc => ?_)⟩⟩
    · rw [hne 2 (by omega)]; exact hK 2 (by omega) (by omega) (by omega) (by omega)
    · rw [e0 7 (by omega) (by omega), z0]
    · rw [hne c (by omega)]; exact hK c (by omega) (by omega) (by omega) (by omega)
  have finO : ∀ σ1 x y, zK sp σ σ1 → σ1 26 8 = R.1 → R.1 = 0 → zr R.2.2 (zd sp σ1) → ym_ok R.2.2 → R.2.2.1.1 = 0 → x = (if σ1 26 8 = 0 then -1 else σ1 28 0) → y = (s2 (s2 σ1 0 2 0) 0 6 x) 0 7 + 1 → drQ F lv A P N r la sp R σ (some (.int R.1)) (WD (s2 (s2 (s2 σ1 0 2 0) 0 6 x) 0 7 y) sp la sp 1) := by
    intro σ1 x y hK h8 hR hz ho haw hx hy
    have hx' : x = -1 := by rw [hx, h8, if_pos hR]
    have hne : ∀ c, c ≠ 0 → (s2 (s2 (s2 σ1 0 2 0) 0 6 x) 0 7 y) c = σ1 c := fun c hc => by
      unfold s2
      rw [s1_ne _ _ hc, s1_ne _ _ hc, s1_ne _ _ hc]
    have z0 : σ1 0 = σ 0 := hK 0 (by omega) (by omega) (by omega) (by omega)
    have hy' : y = nI (r + 1) := by
      rw [hy]
      show (upd ((upd (σ1 0) 2 0)) 6 x) 7 + 1 = _
      rw [upd_ne _ _ (by omega), upd_ne _ _ (by omega), z0, hr7, nI_1]
    have hc := claw_of hz ho haw
    have hA : claw (lw (dk 30 sp (s2 (s2 (s2 σ1 0 2 0) 0 6 x) 0 7 y))) R.2.2.2.2.1.1 := by
      have ez : ∀ k, k < 7 → (zd sp σ1) (4 + k) = σ1 (sp + k) := fun k hk => by
        show σ1 (pz sp (4 + k)) = _
        unfold pz
        rw [if_neg (by omega), if_neg (by omega), show 4 + k - 4 = k by omega]
      refine claw_same (fun k k1 k2 => ?_) ?_ hc
      · rw [lw_dk _ _ _ (by omega), hne _ (by omega), ez k (by omega)]
      · rw [lw_dk _ _ _ (by omega), hne _ (by omega), ez 0 (by omega)]
    refine ⟨rfl, _, sp, la, rfl, ?_, rfl, ?_, Or.inr ⟨hR, hx', cI_next h hs hA ?_ hr (fun c hc => ?_)⟩⟩
    · rcases hls with ⟨e1, e2⟩ | ⟨e1, e2⟩
      · exact Or.inr ⟨e2, e1⟩
      · exact Or.inl ⟨e2, e1⟩
    · rw [hne 2 (by omega)]; exact hK 2 (by omega) (by omega) (by omega) (by omega)
    · exact hy'
    · rw [hne c (by omega)]; exact hK c (by omega) (by omega) (by omega) (by omega)
  refine Ok.of (ls := [some _, none, none]) (by decide +kernel) (Nat.le_of_ble_eq_true rfl) rfl ?_
  refine ev_aload_n (pc' := 1) dX6_read_0 rfl rfl ?_
  refine ev_getf (pc' := 4) fl_6_39 dX6_read_1 rfl rfl rfl ?_
  refine ev_aload_n (pc' := 5) dX6_read_4 rfl rfl ?_
  refine ev_getf (pc' := 8) fl_6_16 dX6_read_5 rfl rfl rfl ?_
  refine ev_aload_n (pc' := 9) dX6_read_8 rfl rfl ?_
  refine ev_getf (pc' := 12) fl_6_20 dX6_read_9 rfl rfl rfl ?_
  refine ev_aload_n (pc' := 13) dX6_read_12 rfl rfl ?_
  refine ev_getf (pc' := 16) fl_6_31 dX6_read_13 rfl rfl rfl ?_
  refine ev_cVr3 (pc' := 19) cl_6_72 (oR) dX6_read_16 rfl rfl rfl rfl ?_
  rintro v w1 ⟨rfl, σ1, rfl, hK, h8, hR, hp, hz⟩ -
  refine ev_istore_n (pc' := 20) (ls' := [_, _, _]) dX6_read_19 rfl rfl rfl ?_
  refine ev_aload_n (pc' := 21) dX6_read_20 rfl rfl ?_
  refine ev_iconst (pc' := 22) (v := 0) dX6_read_21 rfl (by decide) ?_
  refine ev_putf (pc' := 25) fs_6_20 dX6_read_22 rfl rfl (Nat.le_of_ble_eq_true rfl) (fun _ => rfl) (fun _ => rfl) (WD_p6_2 _ _ _ _ _ _) ?_
  refine ev_aload_n (pc' := 26) dX6_read_25 rfl rfl ?_
  refine ev_aload_n (pc' := 27) dX6_read_26 rfl rfl ?_
  refine ev_getf (pc' := 30) fl_6_39 dX6_read_27 rfl rfl rfl ?_
  refine ev_cVi0 (pc' := 33) cl_6_76 (oP _) dX6_read_30 rfl rfl rfl rfl ?_
  refine ev_putf (pc' := 36) fs_6_43 dX6_read_33 rfl rfl (Nat.le_of_ble_eq_true rfl) (fun _ => rfl) (fun _ => rfl) (WD_p6_6 _ _ _ _ _ _) ?_
  refine ev_iload_n (pc' := 37) dX6_read_36 rfl rfl ?_
  refine ev_if_ne (tgt := 68) (pc' := 40) dX6_read_37 (by decide) rfl (fun h_37 => ?_) (fun h_37 => ?_)
  · have hR1 := hR.resolve_left h_37
    have kE := finF σ1 _ hK h8 hR1 h_37 (hp h_37) rfl
    refine ev_iload_n (pc' := 69) dX6_read_68 rfl rfl ?_
    refine ev_ireturn rfl dX6_read_69 ?_
    exact kE
  · obtain ⟨g1, g2, g3⟩ := hz h_37
    have kE := finO σ1 _ _ hK h8 h_37 g1 g2 g3 rfl rfl
    refine ev_aload_n (pc' := 41) dX6_read_40 rfl rfl ?_
    refine ev_getf (pc' := 44) fl_6_27 dX6_read_41 rfl rfl rfl ?_
    refine ev_astore_n (pc' := 45) (ls' := [_, _, _]) dX6_read_44 rfl rfl rfl ?_
    refine ev_aload_n (pc' := 46) dX6_read_45 rfl rfl ?_
    refine ev_aload_n (pc' := 47) dX6_read_46 rfl rfl ?_
    refine ev_getf (pc' := 50) fl_6_31 dX6_read_47 rfl rfl rfl ?_
    refine ev_putf (pc' := 53) fs_6_27 dX6_read_50 rfl rfl (Nat.le_of_ble_eq_true rfl) (fun _ => rfl) (fun _ => rfl) (WD_p6_3 _ _ _ _ _ _) ?_
    refine ev_aload_n (pc' := 54) dX6_read_53 rfl rfl ?_
    refine ev_aload_n (pc' := 55) dX6_read_54 rfl rfl ?_
    refine ev_putf (pc' := 58) fs_6_31 dX6_read_55 rfl rfl (Nat.le_of_ble_eq_true rfl) (fun _ => rfl) (fun _ => rfl) (WD_p6_4 _ _ _ _ _ _) ?_
    refine ev_aload_n (pc' := 59) dX6_read_58 rfl rfl ?_
    refine ev_dup (pc' := 60) dX6_read_59 rfl rfl ?_
    refine ev_getf (pc' := 63) fl_6_46 dX6_read_60 rfl rfl rfl ?_
    refine ev_iconst (pc' := 64) (v := 1) dX6_read_63 rfl (by decide) ?_
    refine ev_iadd (pc' := 65) dX6_read_64 rfl ?_
    refine ev_putf (pc' := 68) fs_6_46 dX6_read_65 rfl rfl (Nat.le_of_ble_eq_true rfl) (fun _ => rfl) (fun _ => rfl) (WD_p6_7 _ _ _ _ _ _) ?_
    refine ev_iload_n (pc' := 69) dX6_read_68 rfl rfl ?_
    refine ev_ireturn rfl dX6_read_69 ?_
    exact kE
