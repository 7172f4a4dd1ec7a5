/-! The papers as known, second part. -/
def fillTo (f : Nat → Int32) (v : Int32) (k : Nat) : Nat → Int32 := fun j => if j < k then v else f j
theorem fillTo_0 (f : Nat → Int32) (v : Int32) : fillTo f v 0 = f := funext fun j => if_neg (Nat.not_lt_zero j)
theorem fillTo_s (f : Nat → Int32) (v : Int32) (k : Nat) : upd (fillTo f v k) k v = fillTo f v (k + 1) := by
  funext j
  unfold upd fillTo
  by_cases h : j = k
  · rw [if_pos h, if_pos (by omega)]
  · rw [if_neg h]
    by_cases h2 : j < k
    · rw [if_pos h2, if_pos (by omega)]
    · rw [if_neg h2, if_neg (by omega)]
theorem set_self' {w : MW} {r : Nat} {e : ME} (hr : w[r]? = some e) : w.set r e = w := by
  apply List.ext_getElem?
  intro k
  by_cases hk : r = k
  · subst hk
    rw [List.getElem?_set_self (List.getElem?_eq_some_iff.mp hr).1, hr]
  · rw [List.getElem?_set_ne hk]
theorem j_fill_loop {d r n : Nat} {w : MW} {f : Nat → Int32} {v : Int32} (hr : r < w.length) (hn : n < 2 ^ 31) : ∀ (c k : Nat), k + c = n → Ev d MJ_fill (rt none (w.set r (.inl (.int, n, .inl (fillTo f v n))))) 5 [some (.ref r), some (.int v), some (.int (nI k)), some (.int (nI n))] [] (w.set r (.inl (.int, n, .inl (fillTo f v k)))) := by
  intro c
  induction c with
  | zero =>
    intro k hk
    have hk : k = n := by omega
    subst hk
    refine ev_iload_n (pc' := 6) dJ7_fill_53178_5 rfl rfl ?_
    refine ev_iload_n (pc' := 7) dJ7_fill_53178_6 rfl rfl ?_
    refine ev_icmp_ge (tgt := 20) (pc' := 10) dJ7_fill_53178_7 (by decide) rfl (fun h => ?_) (fun h => absurd (nI_le (Nat.le_refl _) hn) h)
    exact ev_return rfl dJ7_fill_53178_20 ⟨rfl, rfl⟩
  | succ c ih =>
    intro k hk
    refine ev_iload_n (pc' := 6) dJ7_fill_53178_5 rfl rfl ?_
    refine ev_iload_n (pc' := 7) dJ7_fill_53178_6 rfl rfl ?_
    refine ev_icmp_ge (tgt := 20) (pc' := 10) dJ7_fill_53178_7 (by decide) rfl (fun h => absurd h (nI_ge (by omega) hn)) (fun h => ?_)
    refine ev_aload_n (pc' := 11) dJ7_fill_53178_10 rfl rfl ?_
    refine ev_iload_n (pc' := 12) dJ7_fill_53178_11 rfl rfl ?_
    refine ev_iload_n (pc' := 13) dJ7_fill_53178_12 rfl rfl ?_
    refine ev_iast (pc' := 14) (w' := w.set r (.inl (.int, n, .inl (fillTo f v (k + 1))))) dJ7_fill_53178_13 rfl (List.getElem?_set_self hr) (vp_in_nI (by omega) hn) ?_ ?_
    · rw [List.set_set, nI_clamp (by omega), fillTo_s]
    refine ev_iinc (pc' := 17) (ls' := [_, _, _, _]) dJ7_fill_53178_14 rfl rfl rfl rfl rfl ?_
    refine ev_goto (tgt := 5) dJ7_fill_53178_17 (by decide) ?_
    rw [nI_p1]
    exact ih (k + 1) (by omega)
theorem j_fill {d r n : Nat} {w w' : MW} {f : Nat → Int32} {v : Int32} (hr : w[r]? = some (.inl (.int, n, .inl f))) (hn : n < 2 ^ 31) (hw : w.set r (.inl (.int, n, .inl (fillTo f v n))) = w') : Ok d MJ_fill [.ref r, .int v] w (rt none w') := by
  subst hw
  refine Ok.of (ls := [some _, some _, none, none]) (by decide +kernel) (Nat.le_of_ble_eq_true rfl) rfl ?_
  refine ev_iconst (pc' := 1) (v := 0) dJ7_fill_53178_0 rfl (by decide) ?_
  refine ev_istore_n (pc' := 2) (ls' := [_, _, _, _]) dJ7_fill_53178_1 rfl rfl rfl ?_
  refine ev_aload_n (pc' := 3) dJ7_fill_53178_2 rfl rfl ?_
  refine ev_alen (pc' := 4) (t := 0) dJ7_fill_53178_3 rfl hr rfl rfl ?_
  refine ev_istore_n (pc' := 5) (ls' := [_, _, _, _]) dJ7_fill_53178_4 rfl rfl rfl ?_
  have := j_fill_loop (d := d) (f := f) (v := v) (List.getElem?_eq_some_iff.mp hr).1 hn n 0 (by omega)
  rw [fillTo_0, set_self' hr] at this
  exact this
/-- the place that a paper finds among the k ahead of it, and the rows as they are then -/
def kn_ins (σ : RS) (x : Nat) : Nat → (Nat → Int32) → Nat × (Nat → Int32)
  | 0, o => (0, o)
  | k + 1, o => if atF 120 (σ 13) (nI x) < atF 120 (σ 13) (o k) then kn_ins σ x k (upd o (k + 1) (o k)) else (k + 1, o)
theorem kn_ins_le (σ : RS) (x : Nat) : ∀ k o, (kn_ins σ x k o).1 ≤ k := by
  intro k
  induction k with
  | zero => intro o; exact Nat.le_refl _
  | succ k ih =>
    intro o
    rw [kn_ins]
    split
    · exact Nat.le_succ_of_le (ih _)
    · exact Nat.le_refl _
/-- the world while papers are put in order: so many, and their row -/
def kn_aw (σ : RS) (z : Nat) (o : Nat → Int32) : RS := s2 (s1 σ 3 o) 0 13 (nI z)
theorem k_ins_loop {d : Nat} {Q : Option Value → MW → Prop} (σ : RS) (g : Nat → Int32) (z x : Nat) : ∀ (k : Nat) (o : Nat → Int32), k < 120 → Ev (d + 3) M1_arrange Q 87 [some (.ref 0), some (.int (nI x)), some (.int (nI (kn_ins σ x k o).1))] [] (WK (kn_aw σ z (kn_ins σ x k o).2) g) → Ev (d + 3) M1_arrange Q 31 [some (.ref 0), some (.int (nI x)), some (.int (nI k))] [] (WK (kn_aw σ z o) g) := by
  intro k
  induction k with
  | zero =>
    intro o hk kk
    refine ev_iload_n (pc' := 32) dX1_arrange_31 rfl rfl ?_
    refine ev_if_le (tgt := 87) (pc' := 35) dX1_arrange_32 (by decide) rfl (fun h_32 => ?_) (fun h_32 => ?_)
    · exact kk --
    · exact absurd (show nI 0 ≤ 0 by decide) h_32 --
  | succ k ih =>
    intro o hk kk
    have e1 : nI (k + 1) - 1 = nI k := nI_pred k
    have e2 : atF 120 o (nI k) = o k := atF_nI _ (by omega) (by omega)
    rw [kn_ins] at kk
    refine ev_iload_n (pc' := 32) dX1_arrange_31 rfl rfl ?_
    refine ev_if_le (tgt := 87) (pc' := 35) dX1_arrange_32 (by decide) rfl (fun h_32 => ?_) (fun h_32 => ?_)
    · exact absurd h_32 (nI_nle (by omega) (by omega)) --
    · refine ev_aload_n (pc' := 36) dX1_arrange_35 rfl rfl ?_
      refine ev_getf (pc' := 39) fl_1_49 dX1_arrange_36 rfl rfl rfl ?_
      refine ev_aload_n (pc' := 40) dX1_arrange_39 rfl rfl ?_
      refine ev_getf (pc' := 43) fl_1_18 dX1_arrange_40 rfl rfl rfl ?_
      refine ev_iload_n (pc' := 44) dX1_arrange_43 rfl rfl ?_
      refine ev_iconst (pc' := 45) (v := 1) dX1_arrange_44 rfl (by decide) ?_
      refine ev_isub (pc' := 46) dX1_arrange_45 rfl ?_
      rw [e1]
      refine ev_cNi2 (pc' := 49) cl_1_63 (k_at rfl (by decide)) dX1_arrange_46 rfl rfl ?_
      show Ev _ _ _ _ _ [.int (atF 120 o (nI k)), .ref 10] _
      rw [e2]
      refine ev_cVi1 (pc' := 52) cl_1_113 (kK_madeOn _ _ _) dX1_arrange_49 rfl rfl rfl rfl ?_
      refine ev_aload_n (pc' := 53) dX1_arrange_52 rfl rfl ?_
      refine ev_getf (pc' := 56) fl_1_49 dX1_arrange_53 rfl rfl rfl ?_
      refine ev_iload_n (pc' := 57) dX1_arrange_56 rfl rfl ?_
      refine ev_cVi1 (pc' := 60) cl_1_113 (kK_madeOn _ _ _) dX1_arrange_57 rfl rfl rfl rfl ?_
      refine ev_icmp_le (tgt := 87) (pc' := 63) dX1_arrange_60 (by decide) rfl (fun h_60 => ?_) (fun h_60 => ?_)
      · rw [if_neg (show ¬ atF 120 (σ 13) (nI x) < atF 120 (σ 13) (o k) from Int32.not_lt.mpr h_60)] at kk
        exact kk --
      · rw [if_pos (show atF 120 (σ 13) (nI x) < atF 120 (σ 13) (o k) from Int32.not_le.mp h_60)] at kk
        refine ev_aload_n (pc' := 64) dX1_arrange_63 rfl rfl ?_
        refine ev_getf (pc' := 67) fl_1_18 dX1_arrange_64 rfl rfl rfl ?_
        refine ev_iload_n (pc' := 68) dX1_arrange_67 rfl rfl ?_
        refine ev_aload_n (pc' := 69) dX1_arrange_68 rfl rfl ?_
        refine ev_getf (pc' := 72) fl_1_18 dX1_arrange_69 rfl rfl rfl ?_
        refine ev_iload_n (pc' := 73) dX1_arrange_72 rfl rfl ?_
        refine ev_iconst (pc' := 74) (v := 1) dX1_arrange_73 rfl (by decide) ?_
        refine ev_isub (pc' := 75) dX1_arrange_74 rfl ?_
        rw [e1]
        refine ev_cNi2 (pc' := 78) cl_1_63 (k_at rfl (by decide)) dX1_arrange_75 rfl rfl ?_
        show Ev _ _ _ _ _ [.int (atF 120 o (nI k)), .int (nI (k + 1)), .ref 3] _
        rw [e2]
        refine ev_cNv3 (pc' := 81) cl_1_71 (k_put rfl (by decide) (WK_a3 _ _ _)) dX1_arrange_78 rfl rfl ?_
        refine ev_iinc (pc' := 84) (ls' := [_, _, _]) dX1_arrange_81 rfl rfl rfl rfl rfl ?_
        refine ev_goto (tgt := 31) dX1_arrange_84 (by decide) ?_
        refine ev_world (w' := WK (kn_aw σ z (upd o (k + 1) (o k))) g) ?_ ?_
        · show WK (kn_aw σ z (putF 120 o (nI (k + 1)) (o k))) g = _
          rw [putF_nI _ _ (by omega) (by omega)]
        rw [nI_m1, nI_pred]
        exact ih _ (by omega) kk
def kn_arr (σ : RS) : Nat → Nat → Nat → (Nat → Int32) → Nat × (Nat → Int32)
  | 0, _, z, o => (z, o)
  | c + 1, x, z, o => if b_isPaper (bk σ) (nI x) = true then kn_arr σ c (x + 1) (z + 1) (upd (kn_ins σ x z o).2 (kn_ins σ x z o).1 (nI x)) else kn_arr σ c (x + 1) z o
theorem k_arr_loop {d : Nat} (σ : RS) (g : Nat → Int32) (n : Nat) (hn : n ≤ 120) (h11 : σ 0 11 = nI n) : ∀ (c x z : Nat) (o : Nat → Int32) (z2 : Option Value), x + c = n → z ≤ x → Ev (d + 3) M1_arrange (rt none (WK (kn_aw σ (kn_arr σ c x z o).1 (kn_arr σ c x z o).2) g)) 7 [some (.ref 0), some (.int (nI x)), z2] [] (WK (kn_aw σ z o) g) := by
  intro c
  induction c with
  | zero =>
    intro x z o z2 hx hz
    have hx : x = n := by omega
    subst hx
    refine ev_iload_n (pc' := 8) dX1_arrange_7 rfl rfl ?_
    refine ev_aload_n (pc' := 9) dX1_arrange_8 rfl rfl ?_
    refine ev_getf (pc' := 12) fl_1_39 dX1_arrange_9 rfl rfl rfl ?_
    refine ev_icmp_ge (tgt := 112) (pc' := 15) dX1_arrange_12 (by decide) rfl (fun h_12 => ?_) (fun h_12 => ?_)
    · refine ev_return rfl dX1_arrange_112 ?_
      exact ⟨rfl, rfl⟩
    · exact absurd (show σ 0 11 ≤ nI x by rw [h11]; exact nI_le (Nat.le_refl _) (by omega)) h_12 --
  | succ c ih =>
    intro x z o z2 hx hz
    have hle := kn_ins_le σ x z o
    rw [kn_arr]
    have kk : ∀ (p : Nat) (o' : Nat → Int32), p ≤ z → Ev (d + 3) M1_arrange (rt none (WK (kn_aw σ (kn_arr σ c (x + 1) (z + 1) (upd o' p (nI x))).1 (kn_arr σ c (x + 1) (z + 1) (upd o' p (nI x))).2) g)) 87 [some (.ref 0), some (.int (nI x)), some (.int (nI p))] [] (WK (kn_aw σ z o') g) := by
      intro p o' hp
      refine ev_aload_n (pc' := 88) dX1_arrange_87 rfl rfl ?_
      refine ev_getf (pc' := 91) fl_1_18 dX1_arrange_88 rfl rfl rfl ?_
      refine ev_iload_n (pc' := 92) dX1_arrange_91 rfl rfl ?_
      refine ev_iload_n (pc' := 93) dX1_arrange_92 rfl rfl ?_
      refine ev_cNv3 (pc' := 96) cl_1_71 (k_put rfl (by decide) (WK_a3 _ _ _)) dX1_arrange_93 rfl rfl ?_
      refine ev_aload_n (pc' := 97) dX1_arrange_96 rfl rfl ?_
      refine ev_dup (pc' := 98) dX1_arrange_97 rfl rfl ?_
      refine ev_getf (pc' := 101) fl_1_46 dX1_arrange_98 rfl rfl rfl ?_
      refine ev_iconst (pc' := 102) (v := 1) dX1_arrange_101 rfl (by decide) ?_
      refine ev_iadd (pc' := 103) dX1_arrange_102 rfl ?_
      refine ev_putf (pc' := 106) fs_1_46 dX1_arrange_103 rfl rfl (Nat.le_of_ble_eq_true rfl) (fun _ => rfl) (fun _ => rfl) (WK_p1_13 _ _ _) ?_
      refine ev_iinc (pc' := 109) (ls' := [_, _, _]) dX1_arrange_106 rfl rfl rfl rfl rfl ?_
      refine ev_goto (tgt := 7) dX1_arrange_109 (by decide) ?_
      refine ev_world (w' := WK (kn_aw σ (z + 1) (upd o' p (nI x))) g) ?_ ?_
      · show WK (s2 (s1 σ 3 (putF 120 o' (nI p) (nI x))) 0 13 (nI z + 1)) g = _
        rw [putF_nI _ _ (by omega) (by omega), nI_1]
        rfl
      rw [nI_p1]
      exact ih (x + 1) (z + 1) _ _ (by omega) (by omega)
    refine ev_iload_n (pc' := 8) dX1_arrange_7 rfl rfl ?_
    refine ev_aload_n (pc' := 9) dX1_arrange_8 rfl rfl ?_
    refine ev_getf (pc' := 12) fl_1_39 dX1_arrange_9 rfl rfl rfl ?_
    refine ev_icmp_ge (tgt := 112) (pc' := 15) dX1_arrange_12 (by decide) rfl (fun h_12 => ?_) (fun h_12 => ?_)
    · exact absurd (show σ 0 11 ≤ nI x from h_12) (by rw [h11]; exact nI_ge (by omega) (by omega)) --
    · refine ev_aload_n (pc' := 16) dX1_arrange_15 rfl rfl ?_
      refine ev_getf (pc' := 19) fl_1_49 dX1_arrange_16 rfl rfl rfl ?_
      refine ev_iload_n (pc' := 20) dX1_arrange_19 rfl rfl ?_
      refine ev_cVi1 (pc' := 23) cl_1_170 (kK_isPaper _ _ _) dX1_arrange_20 rfl rfl rfl rfl ?_
      refine ev_if_eq (tgt := 106) (pc' := 26) dX1_arrange_23 (by decide) rfl (fun h_23 => ?_) (fun h_23 => ?_)
      · rw [bI_0] at h_23
        have h23 : b_isPaper (bk σ) (nI x) = false := h_23
        rw [if_neg (by rw [h23]; decide)]
        refine ev_iinc (pc' := 109) (ls' := [_, _, _]) dX1_arrange_106 rfl rfl rfl rfl rfl ?_
        refine ev_goto (tgt := 7) dX1_arrange_109 (by decide) ?_
        rw [nI_p1]
        exact ih (x + 1) z o _ (by omega) (by omega)
      · rw [bI_0, Bool.not_eq_false] at h_23
        have h23 : b_isPaper (bk σ) (nI x) = true := h_23
        rw [if_pos h23]
        refine ev_aload_n (pc' := 27) dX1_arrange_26 rfl rfl ?_
        refine ev_getf (pc' := 30) fl_1_46 dX1_arrange_27 rfl rfl rfl ?_
        refine ev_istore_n (pc' := 31) (ls' := [_, _, _]) dX1_arrange_30 rfl rfl rfl ?_
        refine k_ins_loop σ g z x z o (by omega) ?_
        exact kk (kn_ins σ x z o).1 (kn_ins σ x z o).2 hle --
theorem k_arrange {d : Nat} (σ : RS) (g : Nat → Int32) (n : Nat) (hn : n ≤ 120) (h11 : σ 0 11 = nI n) : Ok (d + 3) M1_arrange [.ref 0] (WK σ g) (rt none (WK (kn_aw σ (kn_arr σ n 0 0 (σ 3)).1 (kn_arr σ n 0 0 (σ 3)).2) g)) := by
  refine Ok.of (ls := [some _, none, none]) (by decide +kernel) (Nat.le_of_ble_eq_true rfl) rfl ?_
  refine ev_aload_n (pc' := 1) dX1_arrange_0 rfl rfl ?_
  refine ev_iconst (pc' := 2) (v := 0) dX1_arrange_1 rfl (by decide) ?_
  refine ev_putf (pc' := 5) fs_1_46 dX1_arrange_2 rfl rfl (Nat.le_of_ble_eq_true rfl) (fun _ => rfl) (fun _ => rfl) (WK_p1_13 _ _ _) ?_
  refine ev_iconst (pc' := 6) (v := 0) dX1_arrange_5 rfl (by decide) ?_
  refine ev_istore_n (pc' := 7) (ls' := [_, _, _]) dX1_arrange_6 rfl rfl rfl ?_
  exact k_arr_loop σ g n hn h11 n 0 0 (σ 3) _ (by omega) (by omega)
/-- reasons: the forged ones -/
def kn_forge (σ : RS) : Nat → Nat → (Nat → Int32) → (Nat → Int32)
  | 0, _, f => f
  | c + 1, x, f => kn_forge σ c (x + 1) (if b_kind (bk σ) (nI x) = 3 then putF 120 f (atF 120 (σ 15) (nI x)) 1 else f)
theorem k_forge_loop {d : Nat} (σ : RS) (g : Nat → Int32) (n : Nat) (hn : n ≤ 120) (h11 : σ 0 11 = nI n) : ∀ (c x : Nat) (f : Nat → Int32), x + c = n → Ev (d + 2) M1_markForged (rt none (WK (s1 σ 1 (kn_forge σ c x f)) g)) 10 [some (.ref 0), some (.int (nI x))] [] (WK (s1 σ 1 f) g) := by
  intro c
  induction c with
  | zero =>
    intro x f hx
    have hx : x = n := by omega
    subst hx
    refine ev_iload_n (pc' := 11) dX1_markForged_10 rfl rfl ?_
    refine ev_aload_n (pc' := 12) dX1_markForged_11 rfl rfl ?_
    refine ev_getf (pc' := 15) fl_1_39 dX1_markForged_12 rfl rfl rfl ?_
    refine ev_icmp_ge (tgt := 52) (pc' := 18) dX1_markForged_15 (by decide) rfl (fun h_15 => ?_) (fun h_15 => ?_)
    · refine ev_return rfl dX1_markForged_52 ?_
      exact ⟨rfl, rfl⟩
    · exact absurd (show σ 0 11 ≤ nI x by rw [h11]; exact nI_le (Nat.le_refl _) (by omega)) h_15 --
  | succ c ih =>
    intro x f hx
    rw [kn_forge]
    refine ev_iload_n (pc' := 11) dX1_markForged_10 rfl rfl ?_
    refine ev_aload_n (pc' := 12) dX1_markForged_11 rfl rfl ?_
    refine ev_getf (pc' := 15) fl_1_39 dX1_markForged_12 rfl rfl rfl ?_
    refine ev_icmp_ge (tgt := 52) (pc' := 18) dX1_markForged_15 (by decide) rfl (fun h_15 => ?_) (fun h_15 => ?_)
    · exact absurd (show σ 0 11 ≤ nI x from h_15) (by rw [h11]; exact nI_ge (by omega) (by omega)) --
    · refine ev_aload_n (pc' := 19) dX1_markForged_18 rfl rfl ?_
      refine ev_getf (pc' := 22) fl_1_49 dX1_markForged_19 rfl rfl rfl ?_
      refine ev_iload_n (pc' := 23) dX1_markForged_22 rfl rfl ?_
      refine ev_cVi1 (pc' := 26) cl_1_164 (kK_kindOf _ _ _) dX1_markForged_23 rfl rfl rfl rfl ?_
      refine ev_iconst (pc' := 27) (v := 3) dX1_markForged_26 rfl (by decide) ?_
      refine ev_icmp_ne (tgt := 46) (pc' := 30) dX1_markForged_27 (by decide) rfl (fun h_27 => ?_) (fun h_27 => ?_)
      · rw [if_neg (show ¬ b_kind (bk σ) (nI x) = 3 from h_27)]
        refine ev_iinc (pc' := 49) (ls' := [_, _]) dX1_markForged_46 rfl rfl rfl rfl rfl ?_
        refine ev_goto (tgt := 10) dX1_markForged_49 (by decide) ?_
        rw [nI_p1]
        exact ih (x + 1) _ (by omega)
      · rw [if_pos (show b_kind (bk σ) (nI x) = 3 from h_27)]
        refine ev_aload_n (pc' := 31) dX1_markForged_30 rfl rfl ?_
        refine ev_getf (pc' := 34) fl_1_9 dX1_markForged_31 rfl rfl rfl ?_
        refine ev_aload_n (pc' := 35) dX1_markForged_34 rfl rfl ?_
        refine ev_getf (pc' := 38) fl_1_49 dX1_markForged_35 rfl rfl rfl ?_
        refine ev_iload_n (pc' := 39) dX1_markForged_38 rfl rfl ?_
        refine ev_cVi1 (pc' := 42) cl_1_167 (kK_thingOf _ _ _) dX1_markForged_39 rfl rfl rfl rfl ?_
        refine ev_iconst (pc' := 43) (v := 1) dX1_markForged_42 rfl (by decide) ?_
        refine ev_cNv3 (pc' := 46) cl_1_71 (k_put rfl (by decide) (WK_a1 _ _ _)) dX1_markForged_43 rfl rfl ?_
        refine ev_iinc (pc' := 49) (ls' := [_, _]) dX1_markForged_46 rfl rfl rfl rfl rfl ?_
        refine ev_goto (tgt := 10) dX1_markForged_49 (by decide) ?_
        rw [nI_p1]
        exact ih (x + 1) _ (by omega)
theorem k_markForged {d : Nat} (σ : RS) (g : Nat → Int32) (n : Nat) (hn : n ≤ 120) (h11 : σ 0 11 = nI n) : Ok (d + 2) M1_markForged [.ref 0] (WK σ g) (rt none (WK (s1 σ 1 (kn_forge σ n 0 (fillTo (σ 1) 0 120))) g)) := by
  refine Ok.of (ls := [some _, none]) (by decide +kernel) (Nat.le_of_ble_eq_true rfl) rfl ?_
  refine ev_aload_n (pc' := 1) dX1_markForged_0 rfl rfl ?_
  refine ev_getf (pc' := 4) fl_1_9 dX1_markForged_1 rfl rfl rfl ?_
  refine ev_iconst (pc' := 5) (v := 0) dX1_markForged_4 rfl (by decide) ?_
  refine ev_cSv2 (pc' := 8) clJ_fill (j_fill rfl (by decide) (WK_a1 _ _ _)) dX1_markForged_5 rfl rfl ?_
  refine ev_iconst (pc' := 9) (v := 0) dX1_markForged_8 rfl (by decide) ?_
  refine ev_istore_n (pc' := 10) (ls' := [_, _]) dX1_markForged_9 rfl rfl rfl ?_
  exact k_forge_loop σ g n hn h11 n 0 _ (by omega)
theorem k_copyDebts {d : Nat} (σ : RS) (g : Nat → Int32) (k : Nat) (hk : k < 120) : Ok d M1_copyDebts [.ref 0, .int (nI k)] (WK σ g) (rt none (WK (s1 σ 7 (va_cpy (σ 7) (σ 7) (k * 64) ((k + 1) * 64) 64)) g)) := by
  have m1 : nI k * 64 = nI (k * 64) := nI_mul k 64
  have m2 : nI (k + 1) * 64 = nI ((k + 1) * 64) := nI_mul (k + 1) 64
  have e1 : (nI (k * 64)).toNatClampNeg = k * 64 := nI_clamp (by omega)
  have e2 : (nI ((k + 1) * 64)).toNatClampNeg = (k + 1) * 64 := nI_clamp (by omega)
  have e3 : (64 : Int32).toNatClampNeg = 64 := by decide
  refine Ok.of (ls := [some _, some _]) (by decide +kernel) (Nat.le_of_ble_eq_true rfl) rfl ?_
  refine ev_iload_n (pc' := 1) dX1_copyDebts_0 rfl rfl ?_
  refine ev_if_lt (tgt := 33) (pc' := 4) dX1_copyDebts_1 (by decide) rfl (fun h_1 => ?_) (fun h_1 => ?_)
  · exact absurd h_1 (nI_pos (by omega)) --
  · refine ev_iload_n (pc' := 5) dX1_copyDebts_4 rfl rfl ?_
    refine ev_bipush (pc' := 7) (v := 120) dX1_copyDebts_5 rfl (by decide) ?_
    refine ev_icmp_ge (tgt := 33) (pc' := 10) dX1_copyDebts_7 (by decide) rfl (fun h_7 => ?_) (fun h_7 => ?_)
    · exact absurd h_7 (nI_ge (b := 120) (by omega) (by omega)) --
    · refine ev_aload_n (pc' := 11) dX1_copyDebts_10 rfl rfl ?_
      refine ev_getf (pc' := 14) fl_1_30 dX1_copyDebts_11 rfl rfl rfl ?_
      refine ev_iload_n (pc' := 15) dX1_copyDebts_14 rfl rfl ?_
      refine ev_bipush (pc' := 17) (v := 64) dX1_copyDebts_15 rfl (by decide) ?_
      refine ev_imul (pc' := 18) dX1_copyDebts_17 rfl ?_
      rw [m1]
      refine ev_aload_n (pc' := 19) dX1_copyDebts_18 rfl rfl ?_
      refine ev_getf (pc' := 22) fl_1_30 dX1_copyDebts_19 rfl rfl rfl ?_
      refine ev_iload_n (pc' := 23) dX1_copyDebts_22 rfl rfl ?_
      refine ev_iconst (pc' := 24) (v := 1) dX1_copyDebts_23 rfl (by decide) ?_
      refine ev_iadd (pc' := 25) dX1_copyDebts_24 rfl ?_
      rw [nI_1]
      refine ev_bipush (pc' := 27) (v := 64) dX1_copyDebts_25 rfl (by decide) ?_
      refine ev_imul (pc' := 28) dX1_copyDebts_27 rfl ?_
      rw [m2]
      refine ev_bipush (pc' := 30) (v := 64) dX1_copyDebts_28 rfl (by decide) ?_
      refine ev_copy (pc' := 33) pw_1_173 dX1_copyDebts_30 rfl (r0 := 7) (r1 := 7) rfl rfl (nI_pos (by omega)) (nI_pos (by omega)) (by decide) (by rw [e1, e3]; omega) (by rw [e2, e3]; omega) rfl rfl ?_
      refine ev_return rfl dX1_copyDebts_33 ?_
      rw [e1, e2, e3]
      exact ⟨rfl, rfl⟩
/-- what the law may ask of a loan -/
def kn_vars (σ : RS) (k n : Nat) (x : Int32) : RS :=
  let gv := atF 120 (σ 14) x
  let tk := atF 120 (σ 17) x
  let md := atF 120 (σ 13) x
  let dy := atF 120 (σ 16) x
  s1 σ 8 (putF 9 (putF 9 (putF 9 (putF 9 (putF 9 (putF 9 (putF 9 (putF 9 (putF 9 (σ 8) 0 gv) 1 tk) 2 (bI (b_feast (bk σ) dy n))) 3 (dy - md)) 4 (kn_given (σ 4) (kn_leaf σ x) k)) 5 (bI (decide (atF 120 (σ 15) x = gv)))) 6 (kn_debt σ (nI k) tk gv)) 7 (sumTo (fun o => kn_debt σ (nI k) tk (nI o)) 8)) 8 (kn_age σ tk md k))
theorem bk_s1 (σ : RS) {c : Nat} (h : c < 10) (f : Nat → Int32) : bk (s1 σ c f) = bk σ := funext fun k => if_neg (by omega)
theorem k_setVars {d : Nat} (σ : RS) (g : Nat → Int32) (k n : Nat) (x : Int32) (hk : k ≤ 120) (hn : n ≤ 120) (h11 : σ 0 11 = nI n) : Ok (d + 3) M1_setVars [.ref 0, .int (nI k), .int x] (WK σ g) (rt none (WK (kn_vars σ k n x) g)) := by
  refine Ok.of (ls := [some _, some _, some _, none, none, none, none]) (by decide +kernel) (Nat.le_of_ble_eq_true rfl) rfl ?_
  refine ev_aload_n (pc' := 1) dX1_setVars_0 rfl rfl ?_
  refine ev_getf (pc' := 4) fl_1_49 dX1_setVars_1 rfl rfl rfl ?_
  refine ev_iload_n (pc' := 5) dX1_setVars_4 rfl rfl ?_
  refine ev_cVi1 (pc' := 8) cl_1_79 (kK_oneOf _ _ _) dX1_setVars_5 rfl rfl rfl rfl ?_
  refine ev_istore_n (pc' := 9) (ls' := [_, _, _, _, _, _, _]) dX1_setVars_8 rfl rfl rfl ?_
  refine ev_aload_n (pc' := 10) dX1_setVars_9 rfl rfl ?_
  refine ev_getf (pc' := 13) fl_1_49 dX1_setVars_10 rfl rfl rfl ?_
  refine ev_iload_n (pc' := 14) dX1_setVars_13 rfl rfl ?_
  refine ev_cVi1 (pc' := 17) cl_1_84 (kK_otherOf _ _ _) dX1_setVars_14 rfl rfl rfl rfl ?_
  refine ev_istore (pc' := 19) (ls' := [_, _, _, _, _, _, _]) dX1_setVars_17 rfl rfl rfl ?_
  refine ev_aload_n (pc' := 20) dX1_setVars_19 rfl rfl ?_
  refine ev_getf (pc' := 23) fl_1_49 dX1_setVars_20 rfl rfl rfl ?_
  refine ev_iload_n (pc' := 24) dX1_setVars_23 rfl rfl ?_
  refine ev_cVi1 (pc' := 27) cl_1_113 (kK_madeOn _ _ _) dX1_setVars_24 rfl rfl rfl rfl ?_
  refine ev_istore (pc' := 29) (ls' := [_, _, _, _, _, _, _]) dX1_setVars_27 rfl rfl rfl ?_
  refine ev_aload_n (pc' := 30) dX1_setVars_29 rfl rfl ?_
  refine ev_getf (pc' := 33) fl_1_49 dX1_setVars_30 rfl rfl rfl ?_
  refine ev_iload_n (pc' := 34) dX1_setVars_33 rfl rfl ?_
  refine ev_cVi1 (pc' := 37) cl_1_142 (kK_dayOf _ _ _) dX1_setVars_34 rfl rfl rfl rfl ?_
  refine ev_istore (pc' := 39) (ls' := [_, _, _, _, _, _, _]) dX1_setVars_37 rfl rfl rfl ?_
  refine ev_aload_n (pc' := 40) dX1_setVars_39 rfl rfl ?_
  refine ev_getf (pc' := 43) fl_1_33 dX1_setVars_40 rfl rfl rfl ?_
  refine ev_iconst (pc' := 44) (v := 0) dX1_setVars_43 rfl (by decide) ?_
  refine ev_iload_n (pc' := 45) dX1_setVars_44 rfl rfl ?_
  refine ev_cNv3 (pc' := 48) cl_1_71 (k_put rfl (by decide) (WK_a8 _ _ _)) dX1_setVars_45 rfl rfl ?_
  refine ev_gen (W := (fun σ => WK σ g)) (fun σ_45 e_45 => ?_)
  refine ev_aload_n (pc' := 49) dX1_setVars_48 rfl rfl ?_
  refine ev_getf (pc' := 52) fl_1_33 dX1_setVars_49 rfl rfl rfl ?_
  refine ev_iconst (pc' := 53) (v := 1) dX1_setVars_52 rfl (by decide) ?_
  refine ev_iload (pc' := 55) dX1_setVars_53 rfl rfl ?_
  refine ev_cNv3 (pc' := 58) cl_1_71 (k_put rfl (by decide) (WK_a8 _ _ _)) dX1_setVars_55 rfl rfl ?_
  refine ev_gen (W := (fun σ => WK σ g)) (fun σ_55 e_55 => ?_)
  refine ev_aload_n (pc' := 59) dX1_setVars_58 rfl rfl ?_
  refine ev_getf (pc' := 62) fl_1_33 dX1_setVars_59 rfl rfl rfl ?_
  refine ev_iconst (pc' := 63) (v := 2) dX1_setVars_62 rfl (by decide) ?_
  refine ev_aload_n (pc' := 64) dX1_setVars_63 rfl rfl ?_
  refine ev_getf (pc' := 67) fl_1_49 dX1_setVars_64 rfl rfl rfl ?_
  refine ev_iload (pc' := 69) dX1_setVars_67 rfl rfl ?_
  refine ev_aload_n (pc' := 70) dX1_setVars_69 rfl rfl ?_
  refine ev_getf (pc' := 73) fl_1_39 dX1_setVars_70 rfl rfl rfl ?_
  have e11 : σ_55 0 11 = nI n := by subst e_55; subst e_45; exact h11
  have eb : bk σ_55 = bk σ := by rw [e_55, bk_s1 _ (by omega), e_45, bk_s1 _ (by omega)]
  rw [e11]
  refine ev_cVi2 (pc' := 76) cl_1_188 (kK_isFeast _ _ _ n (by omega)) dX1_setVars_73 rfl rfl rfl rfl ?_
  refine ev_if_eq (tgt := 83) (pc' := 79) dX1_setVars_76 (by decide) rfl (fun h_76 => ?_) (fun h_76 => ?_)
  · rw [bI_0, eb] at h_76
    refine ev_iconst (pc' := 84) (v := 0) dX1_setVars_83 rfl (by decide) ?_
    refine ev_cNv3 (pc' := 87) cl_1_71 (k_put rfl (by decide) (WK_a8 _ _ _)) dX1_setVars_84 rfl rfl ?_
    refine ev_gen (W := (fun σ => WK σ g)) (fun σ_84 e_84 => ?_)
    refine ev_aload_n (pc' := 88) dX1_setVars_87 rfl rfl ?_
    refine ev_getf (pc' := 91) fl_1_33 dX1_setVars_88 rfl rfl rfl ?_
    refine ev_iconst (pc' := 92) (v := 3) dX1_setVars_91 rfl (by decide) ?_
    refine ev_iload (pc' := 94) dX1_setVars_92 rfl rfl ?_
    refine ev_iload (pc' := 96) dX1_setVars_94 rfl rfl ?_
    refine ev_isub (pc' := 97) dX1_setVars_96 rfl ?_
    refine ev_cNv3 (pc' := 100) cl_1_71 (k_put rfl (by decide) (WK_a8 _ _ _)) dX1_setVars_97 rfl rfl ?_
    refine ev_gen (W := (fun σ => WK σ g)) (fun σ_97 e_97 => ?_)
    refine ev_aload_n (pc' := 101) dX1_setVars_100 rfl rfl ?_
    refine ev_getf (pc' := 104) fl_1_33 dX1_setVars_101 rfl rfl rfl ?_
    refine ev_iconst (pc' := 105) (v := 4) dX1_setVars_104 rfl (by decide) ?_
    refine ev_aload_n (pc' := 106) dX1_setVars_105 rfl rfl ?_
    refine ev_iload_n (pc' := 107) dX1_setVars_106 rfl rfl ?_
    refine ev_aload_n (pc' := 108) dX1_setVars_107 rfl rfl ?_
    refine ev_iload_n (pc' := 109) dX1_setVars_108 rfl rfl ?_
    refine ev_cVi1 (pc' := 112) cl_1_75 (k_leafOf _ _ _) dX1_setVars_109 rfl rfl rfl rfl ?_
    refine ev_cVi2 (pc' := 115) cl_1_192 (k_timesGivenBefore _ _ _ k hk) dX1_setVars_112 rfl rfl rfl rfl ?_
    refine ev_cNv3 (pc' := 118) cl_1_71 (k_put rfl (by decide) (WK_a8 _ _ _)) dX1_setVars_115 rfl rfl ?_
    refine ev_gen (W := (fun σ => WK σ g)) (fun σ_115 e_115 => ?_)
    refine ev_aload_n (pc' := 119) dX1_setVars_118 rfl rfl ?_
    refine ev_getf (pc' := 122) fl_1_33 dX1_setVars_119 rfl rfl rfl ?_
    refine ev_iconst (pc' := 123) (v := 5) dX1_setVars_122 rfl (by decide) ?_
    refine ev_aload_n (pc' := 124) dX1_setVars_123 rfl rfl ?_
    refine ev_getf (pc' := 127) fl_1_49 dX1_setVars_124 rfl rfl rfl ?_
    refine ev_iload_n (pc' := 128) dX1_setVars_127 rfl rfl ?_
    refine ev_cVi1 (pc' := 131) cl_1_167 (kK_thingOf _ _ _) dX1_setVars_128 rfl rfl rfl rfl ?_
    refine ev_iload_n (pc' := 132) dX1_setVars_131 rfl rfl ?_
    refine ev_icmp_ne (tgt := 139) (pc' := 135) dX1_setVars_132 (by decide) rfl (fun h_132 => ?_) (fun h_132 => ?_)
    · refine ev_iconst (pc' := 140) (v := 0) dX1_setVars_139 rfl (by decide) ?_
      refine ev_cNv3 (pc' := 143) cl_1_71 (k_put rfl (by decide) (WK_a8 _ _ _)) dX1_setVars_140 rfl rfl ?_
      refine ev_gen (W := (fun σ => WK σ g)) (fun σ_140 e_140 => ?_)
      refine ev_aload_n (pc' := 144) dX1_setVars_143 rfl rfl ?_
      refine ev_getf (pc' := 147) fl_1_33 dX1_setVars_144 rfl rfl rfl ?_
      refine ev_bipush (pc' := 149) (v := 6) dX1_setVars_147 rfl (by decide) ?_
      refine ev_aload_n (pc' := 150) dX1_setVars_149 rfl rfl ?_
      refine ev_iload_n (pc' := 151) dX1_setVars_150 rfl rfl ?_
      refine ev_iload (pc' := 153) dX1_setVars_151 rfl rfl ?_
      refine ev_iload_n (pc' := 154) dX1_setVars_153 rfl rfl ?_
      refine ev_cVi3 (pc' := 157) cl_1_119 (k_debt _ _ _ _ _) dX1_setVars_154 rfl rfl rfl rfl ?_
      refine ev_cNv3 (pc' := 160) cl_1_71 (k_put rfl (by decide) (WK_a8 _ _ _)) dX1_setVars_157 rfl rfl ?_
      refine ev_gen (W := (fun σ => WK σ g)) (fun σ_157 e_157 => ?_)
      refine ev_aload_n (pc' := 161) dX1_setVars_160 rfl rfl ?_
      refine ev_getf (pc' := 164) fl_1_33 dX1_setVars_161 rfl rfl rfl ?_
      refine ev_bipush (pc' := 166) (v := 7) dX1_setVars_164 rfl (by decide) ?_
      refine ev_aload_n (pc' := 167) dX1_setVars_166 rfl rfl ?_
      refine ev_iload_n (pc' := 168) dX1_setVars_167 rfl rfl ?_
      refine ev_iload (pc' := 170) dX1_setVars_168 rfl rfl ?_
      refine ev_cVi2 (pc' := 173) cl_1_195 (k_owedBy _ _ _ _) dX1_setVars_170 rfl rfl rfl rfl ?_
      refine ev_cNv3 (pc' := 176) cl_1_71 (k_put rfl (by decide) (WK_a8 _ _ _)) dX1_setVars_173 rfl rfl ?_
      refine ev_gen (W := (fun σ => WK σ g)) (fun σ_173 e_173 => ?_)
      refine ev_aload_n (pc' := 177) dX1_setVars_176 rfl rfl ?_
      refine ev_getf (pc' := 180) fl_1_33 dX1_setVars_177 rfl rfl rfl ?_
      refine ev_bipush (pc' := 182) (v := 8) dX1_setVars_180 rfl (by decide) ?_
      refine ev_aload_n (pc' := 183) dX1_setVars_182 rfl rfl ?_
      refine ev_iload_n (pc' := 184) dX1_setVars_183 rfl rfl ?_
      refine ev_iload (pc' := 186) dX1_setVars_184 rfl rfl ?_
      refine ev_iload (pc' := 188) dX1_setVars_186 rfl rfl ?_
      refine ev_cVi3 (pc' := 191) cl_1_110 (k_ageBefore _ _ _ _ k hk) dX1_setVars_188 rfl rfl rfl rfl ?_
      refine ev_cNv3 (pc' := 194) cl_1_71 (k_put rfl (by decide) (WK_a8 _ _ _)) dX1_setVars_191 rfl rfl ?_
      refine ev_gen (W := (fun σ => WK σ g)) (fun σ_191 e_191 => ?_)
      refine ev_return rfl dX1_setVars_194 ?_
      clear eb e11
      subst_vars
      refine rt_of rfl ?_
      unfold kn_vars
      dsimp only
      first | rw [show b_feast (bk σ) (atF 120 (σ 16) x) n = false from h_76] | rw [show b_feast (bk σ) (atF 120 (σ 16) x) n = true from h_76]
      first | rw [decide_eq_true (show atF 120 (σ 15) x = atF 120 (σ 14) x from h_132)] | rw [decide_eq_false (show ¬ atF 120 (σ 15) x = atF 120 (σ 14) x from h_132)]
      rfl
    · refine ev_iconst (pc' := 136) (v := 1) dX1_setVars_135 rfl (by decide) ?_
      refine ev_goto (tgt := 140) dX1_setVars_136 (by decide) ?_
      refine ev_cNv3 (pc' := 143) cl_1_71 (k_put rfl (by decide) (WK_a8 _ _ _)) dX1_setVars_140 rfl rfl ?_
      refine ev_gen (W := (fun σ => WK σ g)) (fun σ_140 e_140 => ?_)
      refine ev_aload_n (pc' := 144) dX1_setVars_143 rfl rfl ?_
      refine ev_getf (pc' := 147) fl_1_33 dX1_setVars_144 rfl rfl rfl ?_
      refine ev_bipush (pc' := 149) (v := 6) dX1_setVars_147 rfl (by decide) ?_
      refine ev_aload_n (pc' := 150) dX1_setVars_149 rfl rfl ?_
      refine ev_iload_n (pc' := 151) dX1_setVars_150 rfl rfl ?_
      refine ev_iload (pc' := 153) dX1_setVars_151 rfl rfl ?_
      refine ev_iload_n (pc' := 154) dX1_setVars_153 rfl rfl ?_
      refine ev_cVi3 (pc' := 157) cl_1_119 (k_debt _ _ _ _ _) dX1_setVars_154 rfl rfl rfl rfl ?_
      refine ev_cNv3 (pc' := 160) cl_1_71 (k_put rfl (by decide) (WK_a8 _ _ _)) dX1_setVars_157 rfl rfl ?_
      refine ev_gen (W := (fun σ => WK σ g)) (fun σ_157 e_157 => ?_)
      refine ev_aload_n (pc' := 161) dX1_setVars_160 rfl rfl ?_
      refine ev_getf (pc' := 164) fl_1_33 dX1_setVars_161 rfl rfl rfl ?_
      refine ev_bipush (pc' := 166) (v := 7) dX1_setVars_164 rfl (by decide) ?_
      refine ev_aload_n (pc' := 167) dX1_setVars_166 rfl rfl ?_
      refine ev_iload_n (pc' := 168) dX1_setVars_167 rfl rfl ?_
      refine ev_iload (pc' := 170) dX1_setVars_168 rfl rfl ?_
      refine ev_cVi2 (pc' := 173) cl_1_195 (k_owedBy _ _ _ _) dX1_setVars_170 rfl rfl rfl rfl ?_
      refine ev_cNv3 (pc' := 176) cl_1_71 (k_put rfl (by decide) (WK_a8 _ _ _)) dX1_setVars_173 rfl rfl ?_
      refine ev_gen (W := (fun σ => WK σ g)) (fun σ_173 e_173 => ?_)
      refine ev_aload_n (pc' := 177) dX1_setVars_176 rfl rfl ?_
      refine ev_getf (pc' := 180) fl_1_33 dX1_setVars_177 rfl rfl rfl ?_
      refine ev_bipush (pc' := 182) (v := 8) dX1_setVars_180 rfl (by decide) ?_
      refine ev_aload_n (pc' := 183) dX1_setVars_182 rfl rfl ?_
      refine ev_iload_n (pc' := 184) dX1_setVars_183 rfl rfl ?_
      refine ev_iload (pc' := 186) dX1_setVars_184 rfl rfl ?_
      refine ev_iload (pc' := 188) dX1_setVars_186 rfl rfl ?_
      refine ev_cVi3 (pc' := 191) cl_1_110 (k_ageBefore _ _ _ _ k hk) dX1_setVars_188 rfl rfl rfl rfl ?_
      refine ev_cNv3 (pc' := 194) cl_1_71 (k_put rfl (by decide) (WK_a8 _ _ _)) dX1_setVars_191 rfl rfl ?_
      refine ev_gen (W := (fun σ => WK σ g)) (fun σ_191 e_191 => ?_)
      refine ev_return rfl dX1_setVars_194 ?_
      clear eb e11
      subst_vars
      refine rt_of rfl ?_
      unfold kn_vars
      dsimp only
      first | rw [show b_feast (bk σ) (atF 120 (σ 16) x) n = false from h_76] | rw [show b_feast (bk σ) (atF 120 (σ 16) x) n = true from h_76]
      first | rw [decide_eq_true (show atF 120 (σ 15) x = atF 120 (σ 14) x from h_132)] | rw [decide_eq_false (show ¬ atF 120 (σ 15) x = atF 120 (σ 14) x from h_132)]
      rfl
  · rw [bI_0, Bool.not_eq_false, eb] at h_76
    refine ev_iconst (pc' := 80) (v := 1) dX1_setVars_79 rfl (by decide) ?_
    refine ev_goto (tgt := 84) dX1_setVars_80 (by decide) ?_
    refine ev_cNv3 (pc' := 87) cl_1_71 (k_put rfl (by decide) (WK_a8 _ _ _)) dX1_setVars_84 rfl rfl ?_
    refine ev_gen (W := (fun σ => WK σ g)) (fun σ_84 e_84 => ?_)
    refine ev_aload_n (pc' := 88) dX1_setVars_87 rfl rfl ?_
    refine ev_getf (pc' := 91) fl_1_33 dX1_setVars_88 rfl rfl rfl ?_
    refine ev_iconst (pc' := 92) (v := 3) dX1_setVars_91 rfl (by decide) ?_
    refine ev_iload (pc' := 94) dX1_setVars_92 rfl rfl ?_
    refine ev_iload (pc' := 96) dX1_setVars_94 rfl rfl ?_
    refine ev_isub (pc' := 97) dX1_setVars_96 rfl ?_
    refine ev_cNv3 (pc' := 100) cl_1_71 (k_put rfl (by decide) (WK_a8 _ _ _)) dX1_setVars_97 rfl rfl ?_
    refine ev_gen (W := (fun σ => WK σ g)) (fun σ_97 e_97 => ?_)
    refine ev_aload_n (pc' := 101) dX1_setVars_100 rfl rfl ?_
    refine ev_getf (pc' := 104) fl_1_33 dX1_setVars_101 rfl rfl rfl ?_
    refine ev_iconst (pc' := 105) (v := 4) dX1_setVars_104 rfl (by decide) ?_
    refine ev_aload_n (pc' := 106) dX1_setVars_105 rfl rfl ?_
    refine ev_iload_n (pc' := 107) dX1_setVars_106 rfl rfl ?_
    refine ev_aload_n (pc' := 108) dX1_setVars_107 rfl rfl ?_
    refine ev_iload_n (pc' := 109) dX1_setVars_108 rfl rfl ?_
    refine ev_cVi1 (pc' := 112) cl_1_75 (k_leafOf _ _ _) dX1_setVars_109 rfl rfl rfl rfl ?_
    refine ev_cVi2 (pc' := 115) cl_1_192 (k_timesGivenBefore _ _ _ k hk) dX1_setVars_112 rfl rfl rfl rfl ?_
    refine ev_cNv3 (pc' := 118) cl_1_71 (k_put rfl (by decide) (WK_a8 _ _ _)) dX1_setVars_115 rfl rfl ?_
    refine ev_gen (W := (fun σ => WK σ g)) (fun σ_115 e_115 => ?_)
    refine ev_aload_n (pc' := 119) dX1_setVars_118 rfl rfl ?_
    refine ev_getf (pc' := 122) fl_1_33 dX1_setVars_119 rfl rfl rfl ?_
    refine ev_iconst (pc' := 123) (v := 5) dX1_setVars_122 rfl (by decide) ?_
    refine ev_aload_n (pc' := 124) dX1_setVars_123 rfl rfl ?_
    refine ev_getf (pc' := 127) fl_1_49 dX1_setVars_124 rfl rfl rfl ?_
    refine ev_iload_n (pc' := 128) dX1_setVars_127 rfl rfl ?_
    refine ev_cVi1 (pc' := 131) cl_1_167 (kK_thingOf _ _ _) dX1_setVars_128 rfl rfl rfl rfl ?_
    refine ev_iload_n (pc' := 132) dX1_setVars_131 rfl rfl ?_
    refine ev_icmp_ne (tgt := 139) (pc' := 135) dX1_setVars_132 (by decide) rfl (fun h_132 => ?_) (fun h_132 => ?_)
    · refine ev_iconst (pc' := 140) (v := 0) dX1_setVars_139 rfl (by decide) ?_
      refine ev_cNv3 (pc' := 143) cl_1_71 (k_put rfl (by decide) (WK_a8 _ _ _)) dX1_setVars_140 rfl rfl ?_
      refine ev_gen (W := (fun σ => WK σ g)) (fun σ_140 e_140 => ?_)
      refine ev_aload_n (pc' := 144) dX1_setVars_143 rfl rfl ?_
      refine ev_getf (pc' := 147) fl_1_33 dX1_setVars_144 rfl rfl rfl ?_
      refine ev_bipush (pc' := 149) (v := 6) dX1_setVars_147 rfl (by decide) ?_
      refine ev_aload_n (pc' := 150) dX1_setVars_149 rfl rfl ?_
      refine ev_iload_n (pc' := 151) dX1_setVars_150 rfl rfl ?_
      refine ev_iload (pc' := 153) dX1_setVars_151 rfl rfl ?_
      refine ev_iload_n (pc' := 154) dX1_setVars_153 rfl rfl ?_
      refine ev_cVi3 (pc' := 157) cl_1_119 (k_debt _ _ _ _ _) dX1_setVars_154 rfl rfl rfl rfl ?_
      refine ev_cNv3 (pc' := 160) cl_1_71 (k_put rfl (by decide) (WK_a8 _ _ _)) dX1_setVars_157 rfl rfl ?_
      refine ev_gen (W := (fun σ => WK σ g)) (fun σ_157 e_157 => ?_)
      refine ev_aload_n (pc' := 161) dX1_setVars_160 rfl rfl ?_
      refine ev_getf (pc' := 164) fl_1_33 dX1_setVars_161 rfl rfl rfl ?_
      refine ev_bipush (pc' := 166) (v := 7) dX1_setVars_164 rfl (by decide) ?_
      refine ev_aload_n (pc' := 167) dX1_setVars_166 rfl rfl ?_
      refine ev_iload_n (pc' := 168) dX1_setVars_167 rfl rfl ?_
      refine ev_iload (pc' := 170) dX1_setVars_168 rfl rfl ?_
      refine ev_cVi2 (pc' := 173) cl_1_195 (k_owedBy _ _ _ _) dX1_setVars_170 rfl rfl rfl rfl ?_
      refine ev_cNv3 (pc' := 176) cl_1_71 (k_put rfl (by decide) (WK_a8 _ _ _)) dX1_setVars_173 rfl rfl ?_
      refine ev_gen (W := (fun σ => WK σ g)) (fun σ_173 e_173 => ?_)
      refine ev_aload_n (pc' := 177) dX1_setVars_176 rfl rfl ?_
      refine ev_getf (pc' := 180) fl_1_33 dX1_setVars_177 rfl rfl rfl ?_
      refine ev_bipush (pc' := 182) (v := 8) dX1_setVars_180 rfl (by decide) ?_
      refine ev_aload_n (pc' := 183) dX1_setVars_182 rfl rfl ?_
      refine ev_iload_n (pc' := 184) dX1_setVars_183 rfl rfl ?_
      refine ev_iload (pc' := 186) dX1_setVars_184 rfl rfl ?_
      refine ev_iload (pc' := 188) dX1_setVars_186 rfl rfl ?_
      refine ev_cVi3 (pc' := 191) cl_1_110 (k_ageBefore _ _ _ _ k hk) dX1_setVars_188 rfl rfl rfl rfl ?_
      refine ev_cNv3 (pc' := 194) cl_1_71 (k_put rfl (by decide) (WK_a8 _ _ _)) dX1_setVars_191 rfl rfl ?_
      refine ev_gen (W := (fun σ => WK σ g)) (fun σ_191 e_191 => ?_)
      refine ev_return rfl dX1_setVars_194 ?_
      clear eb e11
      subst_vars
      refine rt_of rfl ?_
      unfold kn_vars
      dsimp only
      first | rw [show b_feast (bk σ) (atF 120 (σ 16) x) n = false from h_76] | rw [show b_feast (bk σ) (atF 120 (σ 16) x) n = true from h_76]
      first | rw [decide_eq_true (show atF 120 (σ 15) x = atF 120 (σ 14) x from h_132)] | rw [decide_eq_false (show ¬ atF 120 (σ 15) x = atF 120 (σ 14) x from h_132)]
      rfl
    · refine ev_iconst (pc' := 136) (v := 1) dX1_setVars_135 rfl (by decide) ?_
      refine ev_goto (tgt := 140) dX1_setVars_136 (by decide) ?_
      refine ev_cNv3 (pc' := 143) cl_1_71 (k_put rfl (by decide) (WK_a8 _ _ _)) dX1_setVars_140 rfl rfl ?_
      refine ev_gen (W := (fun σ => WK σ g)) (fun σ_140 e_140 => ?_)
      refine ev_aload_n (pc' := 144) dX1_setVars_143 rfl rfl ?_
      refine ev_getf (pc' := 147) fl_1_33 dX1_setVars_144 rfl rfl rfl ?_
      refine ev_bipush (pc' := 149) (v := 6) dX1_setVars_147 rfl (by decide) ?_
      refine ev_aload_n (pc' := 150) dX1_setVars_149 rfl rfl ?_
      refine ev_iload_n (pc' := 151) dX1_setVars_150 rfl rfl ?_
      refine ev_iload (pc' := 153) dX1_setVars_151 rfl rfl ?_
      refine ev_iload_n (pc' := 154) dX1_setVars_153 rfl rfl ?_
      refine ev_cVi3 (pc' := 157) cl_1_119 (k_debt _ _ _ _ _) dX1_setVars_154 rfl rfl rfl rfl ?_
      refine ev_cNv3 (pc' := 160) cl_1_71 (k_put rfl (by decide) (WK_a8 _ _ _)) dX1_setVars_157 rfl rfl ?_
      refine ev_gen (W := (fun σ => WK σ g)) (fun σ_157 e_157 => ?_)
      refine ev_aload_n (pc' := 161) dX1_setVars_160 rfl rfl ?_
      refine ev_getf (pc' := 164) fl_1_33 dX1_setVars_161 rfl rfl rfl ?_
      refine ev_bipush (pc' := 166) (v := 7) dX1_setVars_164 rfl (by decide) ?_
      refine ev_aload_n (pc' := 167) dX1_setVars_166 rfl rfl ?_
      refine ev_iload_n (pc' := 168) dX1_setVars_167 rfl rfl ?_
      refine ev_iload (pc' := 170) dX1_setVars_168 rfl rfl ?_
      refine ev_cVi2 (pc' := 173) cl_1_195 (k_owedBy _ _ _ _) dX1_setVars_170 rfl rfl rfl rfl ?_
      refine ev_cNv3 (pc' := 176) cl_1_71 (k_put rfl (by decide) (WK_a8 _ _ _)) dX1_setVars_173 rfl rfl ?_
      refine ev_gen (W := (fun σ => WK σ g)) (fun σ_173 e_173 => ?_)
      refine ev_aload_n (pc' := 177) dX1_setVars_176 rfl rfl ?_
      refine ev_getf (pc' := 180) fl_1_33 dX1_setVars_177 rfl rfl rfl ?_
      refine ev_bipush (pc' := 182) (v := 8) dX1_setVars_180 rfl (by decide) ?_
      refine ev_aload_n (pc' := 183) dX1_setVars_182 rfl rfl ?_
      refine ev_iload_n (pc' := 184) dX1_setVars_183 rfl rfl ?_
      refine ev_iload (pc' := 186) dX1_setVars_184 rfl rfl ?_
      refine ev_iload (pc' := 188) dX1_setVars_186 rfl rfl ?_
      refine ev_cVi3 (pc' := 191) cl_1_110 (k_ageBefore _ _ _ _ k hk) dX1_setVars_188 rfl rfl rfl rfl ?_
      refine ev_cNv3 (pc' := 194) cl_1_71 (k_put rfl (by decide) (WK_a8 _ _ _)) dX1_setVars_191 rfl rfl ?_
      refine ev_gen (W := (fun σ => WK σ g)) (fun σ_191 e_191 => ?_)
      refine ev_return rfl dX1_setVars_194 ?_
      clear eb e11
      subst_vars
      refine rt_of rfl ?_
      unfold kn_vars
      dsimp only
      first | rw [show b_feast (bk σ) (atF 120 (σ 16) x) n = false from h_76] | rw [show b_feast (bk σ) (atF 120 (σ 16) x) n = true from h_76]
      first | rw [decide_eq_true (show atF 120 (σ 15) x = atF 120 (σ 14) x from h_132)] | rw [decide_eq_false (show ¬ atF 120 (σ 15) x = atF 120 (σ 14) x from h_132)]
      rfl
