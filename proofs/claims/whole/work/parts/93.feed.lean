/-! feed, back, place, person (class 6), beside the model's. -/
def d_puts (w : Int32) : Nat → RS → RS
  | 0, σ => σ
  | c + 1, σ => d_puts w c (s2 (s1 σ 1 (putF 2000 (σ 1) (σ 0 2) ((w >>> (nI (8 * c) &&& 31)) &&& 255))) 0 2 (σ 0 2 + 1))
theorem d_put_loop {d : Nat} (la sp rl tx : Nat) (w : Int32) : ∀ (c : Nat) (σ : RS) (x : Int32), c ≤ 4 → x = nI (8 * c) - 8 → Ev (d + 1) M6_putBytes (rt none (WD (d_puts w c σ) la sp rl tx)) 3 [some (.ref 0), some (.int w), some (.int x)] [] (WD σ la sp rl tx) := by
  intro c
  induction c with
  | zero =>
    intro σ x hc hx
    refine ev_iload_n (pc' := 4) dX6_putBytes_3 rfl rfl ?_
    refine ev_if_lt (tgt := 41) (pc' := 7) dX6_putBytes_4 (by decide) rfl (fun h_4 => ?_) (fun h_4 => ?_)
    · refine ev_return rfl dX6_putBytes_41 ?_
      exact ⟨rfl, rfl⟩
    · exact absurd (by rw [hx]; decide) h_4 --
  | succ c ih =>
    intro σ x hc hx
    have hx : x = nI (8 * c) := by
      rw [hx, show 8 * (c + 1) = 8 * c + 8 by omega]
      exact nI_sub (a := 8 * c + 8) (b := 8) (by omega)
    subst hx
    have e8 : nI (8 * c) + Int32.ofInt (-8) = nI (8 * c) - 8 := by rw [Int32.sub_eq_add_neg]; rfl
    refine ev_iload_n (pc' := 4) dX6_putBytes_3 rfl rfl ?_
    refine ev_if_lt (tgt := 41) (pc' := 7) dX6_putBytes_4 (by decide) rfl (fun h_4 => ?_) (fun h_4 => ?_)
    · exact absurd h_4 (nI_pos (by omega)) --
    · refine ev_aload_n (pc' := 8) dX6_putBytes_7 rfl rfl ?_
      refine ev_getf (pc' := 11) fl_6_16 dX6_putBytes_8 rfl rfl rfl ?_
      refine ev_aload_n (pc' := 12) dX6_putBytes_11 rfl rfl ?_
      refine ev_getf (pc' := 15) fl_6_20 dX6_putBytes_12 rfl rfl rfl ?_
      refine ev_iload_n (pc' := 16) dX6_putBytes_15 rfl rfl ?_
      refine ev_iload_n (pc' := 17) dX6_putBytes_16 rfl rfl ?_
      refine ev_ishr (pc' := 18) dX6_putBytes_17 rfl ?_
      refine ev_sipush (pc' := 21) (v := 255) dX6_putBytes_18 rfl (by decide) ?_
      refine ev_iand (pc' := 22) dX6_putBytes_21 rfl ?_
      refine ev_cSv3 (pc' := 25) cl_6_190 (k_put rfl (by decide) (WD_a1 _ _ _ _ _ _)) dX6_putBytes_22 rfl rfl ?_
      refine ev_aload_n (pc' := 26) dX6_putBytes_25 rfl rfl ?_
      refine ev_dup (pc' := 27) dX6_putBytes_26 rfl rfl ?_
      refine ev_getf (pc' := 30) fl_6_20 dX6_putBytes_27 rfl rfl rfl ?_
      refine ev_iconst (pc' := 31) (v := 1) dX6_putBytes_30 rfl (by decide) ?_
      refine ev_iadd (pc' := 32) dX6_putBytes_31 rfl ?_
      refine ev_putf (pc' := 35) fs_6_20 dX6_putBytes_32 rfl rfl (Nat.le_of_ble_eq_true rfl) (fun _ => rfl) (fun _ => rfl) (WD_p6_2 _ _ _ _ _ _) ?_
      refine ev_iinc (pc' := 38) (ls' := [_, _, _]) dX6_putBytes_35 rfl rfl rfl rfl rfl ?_
      refine ev_goto (tgt := 3) dX6_putBytes_38 (by decide) ?_
      rw [e8]
      exact ih _ _ (by omega) rfl
theorem d_putBytes {d : Nat} (σ : RS) (la sp rl tx : Nat) (w : Int32) : Ok (d + 1) M6_putBytes [.ref 0, .int w] (WD σ la sp rl tx) (rt none (WD (d_puts w 4 σ) la sp rl tx)) := by
  refine Ok.of (ls := [some _, some _, none]) (by decide +kernel) (Nat.le_of_ble_eq_true rfl) rfl ?_
  refine ev_bipush (pc' := 2) (v := 24) dX6_putBytes_0 rfl (by decide) ?_
  refine ev_istore_n (pc' := 3) (ls' := [_, _, _]) dX6_putBytes_2 rfl rfl rfl ?_
  exact d_put_loop la sp rl tx w 4 σ _ (by omega) (by decide)
def d_feed' (σ : RS) (a b c e f : Int32) : RS := d_puts f 4 (d_puts e 4 (d_puts c 4 (d_puts b 4 (d_puts a 4 σ))))
theorem d_puts_taped (w : Int32) : ∀ (c k : Nat) (σ : RS), σ 0 2 = nI k → (d_puts w c σ) 0 2 = nI (k + c) := by
  intro c
  induction c with
  | zero => intro k σ h; exact h
  | succ c ih =>
    intro k σ h
    rw [d_puts, ih (k + 1) _ (by show σ 0 2 + 1 = _; rw [h, nI_1]), show k + 1 + c = k + (c + 1) by omega]
theorem d_feed {d : Nat} (σ : RS) (la sp rl tx : Nat) (k : Nat) (hk : k ≤ 2000) (h2 : σ 0 2 = nI k) (a b c e f : Int32) : Ok (d + 2) M6_feed [.ref 0, .int a, .int b, .int c, .int e, .int f] (WD σ la sp rl tx) (if 2000 < k + 20 then rt (some (.int (-1))) (WD σ la sp rl tx) else rt (some (.int (nI (k + 20)))) (WD (d_feed' σ a b c e f) la sp rl tx)) := by
  have h20 : σ 0 2 + 20 = nI (k + 20) := by rw [h2]; exact nI_add k 20
  have a1 := d_puts_taped a 4 k σ h2
  have a2 := d_puts_taped b 4 _ _ a1
  have a3 := d_puts_taped c 4 _ _ a2
  have a4 := d_puts_taped e 4 _ _ a3
  have a5 := d_puts_taped f 4 _ _ a4
  rw [show k + 4 + 4 + 4 + 4 + 4 = k + 20 by omega] at a5
  unfold d_feed'
  refine Ok.of (ls := [some _, some _, some _, some _, some _, some _]) (by decide +kernel) (Nat.le_of_ble_eq_true rfl) rfl ?_
  refine ev_aload_n (pc' := 1) dX6_feed_0 rfl rfl ?_
  refine ev_getf (pc' := 4) fl_6_20 dX6_feed_1 rfl rfl rfl ?_
  refine ev_bipush (pc' := 6) (v := 20) dX6_feed_4 rfl (by decide) ?_
  refine ev_iadd (pc' := 7) dX6_feed_6 rfl ?_
  rw [h20]
  refine ev_sipush (pc' := 10) (v := 2000) dX6_feed_7 rfl (by decide) ?_
  refine ev_icmp_le (tgt := 15) (pc' := 13) dX6_feed_10 (by decide) rfl (fun h_10 => ?_) (fun h_10 => ?_)
  · have h10 : k + 20 ≤ 2000 := (nI_leI (a := k + 20) (b := 2000) (by omega) (by omega)).mp h_10
    rw [if_neg (by omega)]
    refine ev_aload_n (pc' := 16) dX6_feed_15 rfl rfl ?_
    refine ev_iload_n (pc' := 17) dX6_feed_16 rfl rfl ?_
    refine ev_cVv1 (pc' := 20) cl_6_68 (d_putBytes _ _ _ _ _ _) dX6_feed_17 rfl rfl rfl rfl ?_
    refine ev_aload_n (pc' := 21) dX6_feed_20 rfl rfl ?_
    refine ev_iload_n (pc' := 22) dX6_feed_21 rfl rfl ?_
    refine ev_cVv1 (pc' := 25) cl_6_68 (d_putBytes _ _ _ _ _ _) dX6_feed_22 rfl rfl rfl rfl ?_
    refine ev_aload_n (pc' := 26) dX6_feed_25 rfl rfl ?_
    refine ev_iload_n (pc' := 27) dX6_feed_26 rfl rfl ?_
    refine ev_cVv1 (pc' := 30) cl_6_68 (d_putBytes _ _ _ _ _ _) dX6_feed_27 rfl rfl rfl rfl ?_
    refine ev_aload_n (pc' := 31) dX6_feed_30 rfl rfl ?_
    refine ev_iload (pc' := 33) dX6_feed_31 rfl rfl ?_
    refine ev_cVv1 (pc' := 36) cl_6_68 (d_putBytes _ _ _ _ _ _) dX6_feed_33 rfl rfl rfl rfl ?_
    refine ev_aload_n (pc' := 37) dX6_feed_36 rfl rfl ?_
    refine ev_iload (pc' := 39) dX6_feed_37 rfl rfl ?_
    refine ev_cVv1 (pc' := 42) cl_6_68 (d_putBytes _ _ _ _ _ _) dX6_feed_39 rfl rfl rfl rfl ?_
    refine ev_aload_n (pc' := 43) dX6_feed_42 rfl rfl ?_
    refine ev_getf (pc' := 46) fl_6_20 dX6_feed_43 rfl rfl rfl ?_
    refine ev_ireturn rfl dX6_feed_46 ?_
    rw [a5]
    exact rt_of rfl rfl
  · have h10 : ¬ k + 20 ≤ 2000 := fun z => h_10 ((nI_leI (a := k + 20) (b := 2000) (by omega) (by omega)).mpr z)
    rw [if_pos (by omega)]
    refine ev_iconst (pc' := 14) (v := -1) dX6_feed_13 rfl (by decide) ?_
    refine ev_ireturn rfl dX6_feed_14 ?_
    exact ⟨rfl, rfl⟩
theorem d_back {d : Nat} (σ : RS) (la sp rl tx : Nat) (n : Int32) : Ok d M6_back [.ref 0, .int n] (WD σ la sp rl tx) (if n < 0 ∨ σ 0 2 < n then rt (some (.int (-1))) (WD σ la sp rl tx) else rt (some (.int (σ 0 2 - n))) (WD (s2 σ 0 2 (σ 0 2 - n)) la sp rl tx)) := by
  refine Ok.of (ls := [some _, some _]) (by decide +kernel) (Nat.le_of_ble_eq_true rfl) rfl ?_
  refine ev_iload_n (pc' := 1) dX6_back_0 rfl rfl ?_
  refine ev_if_lt (tgt := 12) (pc' := 4) dX6_back_1 (by decide) rfl (fun h_1 => ?_) (fun h_1 => ?_)
  · refine ev_iconst (pc' := 13) (v := -1) dX6_back_12 rfl (by decide) ?_
    refine ev_ireturn rfl dX6_back_13 ?_
    first
      | (rw [if_pos (by simp only [fa_lt, fa_le] at *; omega)]; exact ⟨rfl, rfl⟩)
      | (rw [if_neg (by simp only [fa_lt, fa_le] at *; omega)]; exact ⟨rfl, rfl⟩)
  · refine ev_iload_n (pc' := 5) dX6_back_4 rfl rfl ?_
    refine ev_aload_n (pc' := 6) dX6_back_5 rfl rfl ?_
    refine ev_getf (pc' := 9) fl_6_20 dX6_back_6 rfl rfl rfl ?_
    refine ev_icmp_le (tgt := 14) (pc' := 12) dX6_back_9 (by decide) rfl (fun h_9 => ?_) (fun h_9 => ?_)
    · refine ev_aload_n (pc' := 15) dX6_back_14 rfl rfl ?_
      refine ev_dup (pc' := 16) dX6_back_15 rfl rfl ?_
      refine ev_getf (pc' := 19) fl_6_20 dX6_back_16 rfl rfl rfl ?_
      refine ev_iload_n (pc' := 20) dX6_back_19 rfl rfl ?_
      refine ev_isub (pc' := 21) dX6_back_20 rfl ?_
      refine ev_putf (pc' := 24) fs_6_20 dX6_back_21 rfl rfl (Nat.le_of_ble_eq_true rfl) (fun _ => rfl) (fun _ => rfl) (WD_p6_2 _ _ _ _ _ _) ?_
      refine ev_aload_n (pc' := 25) dX6_back_24 rfl rfl ?_
      refine ev_getf (pc' := 28) fl_6_20 dX6_back_25 rfl rfl rfl ?_
      refine ev_ireturn rfl dX6_back_28 ?_
      first
        | (rw [if_pos (by simp only [fa_lt, fa_le] at *; omega)]; exact ⟨rfl, rfl⟩)
        | (rw [if_neg (by simp only [fa_lt, fa_le] at *; omega)]; exact ⟨rfl, rfl⟩)
    · refine ev_iconst (pc' := 13) (v := -1) dX6_back_12 rfl (by decide) ?_
      refine ev_ireturn rfl dX6_back_13 ?_
      first
        | (rw [if_pos (by simp only [fa_lt, fa_le] at *; omega)]; exact ⟨rfl, rfl⟩)
        | (rw [if_neg (by simp only [fa_lt, fa_le] at *; omega)]; exact ⟨rfl, rfl⟩)
theorem d_place {d : Nat} (σ : RS) (la sp rl tx : Nat) : Ok d M6_place [.ref 0] (WD σ la sp rl tx) (rt (some (.int (σ 0 6))) (WD σ la sp rl tx)) := by
  refine Ok.of (ls := [some _]) (by decide +kernel) (Nat.le_of_ble_eq_true rfl) rfl ?_
  refine ev_aload_n (pc' := 1) dX6_place_0 rfl rfl ?_
  refine ev_getf (pc' := 4) fl_6_43 dX6_place_1 rfl rfl rfl ?_
  refine ev_ireturn rfl dX6_place_4 ?_
  exact ⟨rfl, rfl⟩
/-- the two tapes -/
def tR (T : Nat) (σ σm : RS) : Prop := σ 0 2 = nI T ∧ σm 0 2 = nI T ∧ ∀ j, j < T → σ 1 j = σm 1 j &&& 255
/-- what the tape's writing leaves -/
def tK (σ σ' : RS) : Prop := (∀ c, c ≠ 0 → c ≠ 1 → σ' c = σ c) ∧ ∀ j, j ≠ 2 → σ' 0 j = σ 0 j
theorem tK.refl (σ : RS) : tK σ σ := ⟨fun _ _ _ => rfl, fun _ _ => rfl⟩
theorem tK.trans {a b c : RS} (h : tK a b) (g : tK b c) : tK a c := ⟨fun k h1 h2 => (g.1 k h1 h2).trans (h.1 k h1 h2), fun j hj => (g.2 j hj).trans (h.2 j hj)⟩
theorem tK_one (σ : RS) (f : Nat → Int32) (x : Int32) : tK σ (s2 (s1 σ 1 f) 0 2 x) := ⟨fun c h0 h1 => by rw [show (s2 (s1 σ 1 f) 0 2 x) c = (s1 σ 1 f) c from s1_ne _ _ h0]; exact s1_ne _ _ h1, fun j hj => upd_ne _ _ hj⟩
theorem puts_R (w : Int32) : ∀ (c T : Nat) (σ σm : RS), tR T σ σm → T + c ≤ 2000 → tR (T + c) (d_puts w c σ) (m_puts w c σm) ∧ tK σ (d_puts w c σ) ∧ tK σm (m_puts w c σm) := by
  intro c
  induction c with
  | zero => intro T σ σm h _; exact ⟨h, tK.refl _, tK.refl _⟩
  | succ c ih =>
    intro T σ σm h hT
    obtain ⟨h1, h2, h3⟩ := h
    rw [d_puts, m_puts]
    have hc : (σm 0 2).toNatClampNeg = T := by rw [h2]; exact nI_clamp (by omega)
    obtain ⟨r1, r2, r3⟩ := ih (T + 1) (s2 (s1 σ 1 (putF 2000 (σ 1) (σ 0 2) ((w >>> (nI (8 * c) &&& 31)) &&& 255))) 0 2 (σ 0 2 + 1)) (s2 (s1 σm 1 (upd (σm 1) (σm 0 2).toNatClampNeg (vp_nar .byte (w >>> (nI (8 * c) &&& 31)).toInt8.toInt32))) 0 2 (σm 0 2 + 1)) ⟨by show σ 0 2 + 1 = _; rw [h1, nI_1], by show σm 0 2 + 1 = _; rw [h2, nI_1], fun j hj => by
      show putF 2000 (σ 1) (σ 0 2) _ j = upd (σm 1) (σm 0 2).toNatClampNeg _ j &&& 255
      rw [hc, h1, putF_nI _ _ (by omega) (by omega)]
      by_cases e : j = T
      · rw [e, upd_same, upd_same]
        have n1 := nar_and (w >>> (nI (8 * c) &&& 31)).toInt8.toInt32
        have n2 : (w >>> (nI (8 * c) &&& 31)).toInt8.toInt32 &&& 255 = (w >>> (nI (8 * c) &&& 31)) &&& 255 := nar_and (w >>> (nI (8 * c) &&& 31))
        rw [n1, n2]
      · rw [upd_ne _ _ e, upd_ne _ _ e]
        exact h3 j (by omega)⟩ (by omega)
    exact ⟨by rw [show T + (c + 1) = T + 1 + c by omega]; exact r1, (tK_one σ _ _).trans r2, (tK_one σm _ _).trans r3⟩
theorem feed_R {T : Nat} {σ σm : RS} (h : tR T σ σm) (hT : T + 20 ≤ 2000) (a b c e f : Int32) : tR (T + 20) (d_feed' σ a b c e f) (m_feed' σm a b c e f) ∧ tK σ (d_feed' σ a b c e f) ∧ tK σm (m_feed' σm a b c e f) := by
  obtain ⟨a1, a2, a3⟩ := puts_R a 4 T σ σm h (by omega)
  obtain ⟨b1, b2, b3⟩ := puts_R b 4 _ _ _ a1 (by omega)
  obtain ⟨c1, c2, c3⟩ := puts_R c 4 _ _ _ b1 (by omega)
  obtain ⟨e1, e2, e3⟩ := puts_R e 4 _ _ _ c1 (by omega)
  obtain ⟨f1, f2, f3⟩ := puts_R f 4 _ _ _ e1 (by omega)
  exact ⟨f1, (((a2.trans b2).trans c2).trans e2).trans f2, (((a3.trans b3).trans c3).trans e3).trans f3⟩
theorem cI_tape {F : FF} {lv : Nat → Int32} {A : List YL} {P N r la : Nat} {σ σ' : RS} (h : cI F lv A P N r la σ) (hk : tK σ σ') : cI F lv A P N r la σ' := by
  have hla : la = 10 ∨ la = 18 := h.1
  exact cI_keep h (hk.2 7 (by omega)) (fun c hc => hk.1 c (by omega) (by omega))
