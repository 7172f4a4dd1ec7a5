/-! The model, sixth part: rings. -/
/-- what the i-th of a ring of m owes the next one, the persons by their numbers -/
def g_v (σ : RS) (r : Nat → Nat) (m i : Nat) : Int32 := σ 33 (8 * r i + r ((i + 1) % m))
def g_least (σ : RS) (r : Nat → Nat) (m : Nat) : Nat → Int32
  | 0 => 0
  | i + 1 => if i = 0 ∨ g_v σ r m i < g_least σ r m i then g_v σ r m i else g_least σ r m i
def g_row (σ : RS) (r : Nat → Nat) (m : Nat) : Prop := ∀ i, i < m → σ 42 i = nI (r i) ∧ r i < 8
theorem g_cell (a b : Nat) : 8 * nI a + nI b = nI (8 * a + b) := by rw [show (8 : Int32) * nI a = nI (8 * a) from nI_mul 8 a, nI_add]
theorem g_least_loop {d : Nat} {Q : Option Value → MW → Prop} (σ : RS) (τ : TS) (r : Nat → Nat) (m : Nat) (h1 : 1 ≤ m) (h8 : m ≤ 8) (hr : g_row σ r m) : ∀ (c i : Nat) (z4 : Option Value), i + c = m → (∀ z4, Ev d M7_isRing Q 55 [some (.ref 0), some (.int (nI m)), some (.int (g_least σ r m m)), some (.int (nI m)), z4] [] (WM σ τ)) → Ev d M7_isRing Q 4 [some (.ref 0), some (.int (nI m)), some (.int (g_least σ r m i)), some (.int (nI i)), z4] [] (WM σ τ) := by
  intro c
  induction c with
  | zero =>
    intro i z4 hi kk
    have hi : i = m := by omega
    subst hi
    refine ev_iload_n (pc' := 5) dX7_isRing_4 rfl rfl ?_
    refine ev_iload_n (pc' := 6) dX7_isRing_5 rfl rfl ?_
    refine ev_icmp_ge (tgt := 55) (pc' := 9) dX7_isRing_6 (by decide) rfl (fun h_6 => ?_) (fun h_6 => ?_)
    · exact kk _ --
    · exact absurd (nI_le (Nat.le_refl _) (by omega)) h_6 --
  | succ c ih =>
    intro i z4 hi kk
    obtain ⟨a1, a2⟩ := hr i (by omega)
    obtain ⟨b1, b2⟩ := hr ((i + 1) % m) (Nat.mod_lt _ (by omega))
    have hm := Nat.mod_lt (i + 1) (show m > 0 by omega)
    have e1 : (nI i).toNatClampNeg = i := nI_clamp (by omega)
    have e2 : nI (i + 1) - nI (i + 1) / nI m * nI m = nI ((i + 1) % m) := pk_rem (by omega) (by omega) (by omega)
    have e3 : (nI ((i + 1) % m)).toNatClampNeg = (i + 1) % m := nI_clamp (by omega)
    have e4 := g_cell (r i) (r ((i + 1) % m))
    have e5 : (nI (8 * r i + r ((i + 1) % m))).toNatClampNeg = 8 * r i + r ((i + 1) % m) := nI_clamp (by omega)
    have e6 : g_least σ r m (i + 1) = _ := g_least.eq_2 σ r m i
    refine ev_iload_n (pc' := 5) dX7_isRing_4 rfl rfl ?_
    refine ev_iload_n (pc' := 6) dX7_isRing_5 rfl rfl ?_
    refine ev_icmp_ge (tgt := 55) (pc' := 9) dX7_isRing_6 (by decide) rfl (fun h_6 => ?_) (fun h_6 => ?_)
    · exact absurd h_6 (nI_ge (by omega) (by omega)) --
    · refine ev_aload_n (pc' := 10) dX7_isRing_9 rfl rfl ?_
      refine ev_getf (pc' := 13) fl_7_119 dX7_isRing_10 rfl rfl rfl ?_
      refine ev_bipush (pc' := 15) (v := 8) dX7_isRing_13 rfl (by decide) ?_
      refine ev_aload_n (pc' := 16) dX7_isRing_15 rfl rfl ?_
      refine ev_getf (pc' := 19) fl_7_146 dX7_isRing_16 rfl rfl rfl ?_
      refine ev_iload_n (pc' := 20) dX7_isRing_19 rfl rfl ?_
      refine ev_iald (pc' := 21) dX7_isRing_20 rfl rfl ?_ ?_
      · exact vp_in_nI (by omega) (by omega)
      rw [e1, a1]
      refine ev_imul (pc' := 22) dX7_isRing_21 rfl ?_
      refine ev_aload_n (pc' := 23) dX7_isRing_22 rfl rfl ?_
      refine ev_getf (pc' := 26) fl_7_146 dX7_isRing_23 rfl rfl rfl ?_
      refine ev_iload_n (pc' := 27) dX7_isRing_26 rfl rfl ?_
      refine ev_iconst (pc' := 28) (v := 1) dX7_isRing_27 rfl (by decide) ?_
      refine ev_iadd (pc' := 29) dX7_isRing_28 rfl ?_
      rw [nI_1]
      refine ev_iload_n (pc' := 30) dX7_isRing_29 rfl rfl ?_
      refine ev_irem (pc' := 31) dX7_isRing_30 rfl (nI_ne0 (by omega) (by omega)) ?_
      refine ev_iald (pc' := 32) dX7_isRing_31 rfl rfl ?_ ?_
      · rw [e2]; exact vp_in_nI (by omega) (by omega)
      rw [e2, e3, b1]
      refine ev_iadd (pc' := 33) dX7_isRing_32 rfl ?_
      refine ev_iald (pc' := 34) dX7_isRing_33 rfl rfl ?_ ?_
      · rw [e4]; exact vp_in_nI (by omega) (by omega)
      rw [e4, e5]
      refine ev_istore (pc' := 36) (ls' := [_, _, _, _, _]) dX7_isRing_34 rfl rfl rfl ?_
      refine ev_iload_n (pc' := 37) dX7_isRing_36 rfl rfl ?_
      refine ev_if_eq (tgt := 46) (pc' := 40) dX7_isRing_37 (by decide) rfl (fun h_37 => ?_) (fun h_37 => ?_)
      · have h37 : i = 0 := (nI_eq (a := i) (b := 0) (by omega) (by omega)).mp h_37
        rw [if_pos (Or.inl h37)] at e6
        refine ev_iload (pc' := 48) dX7_isRing_46 rfl rfl ?_
        refine ev_istore_n (pc' := 49) (ls' := [_, _, _, _, _]) dX7_isRing_48 rfl rfl rfl ?_
        refine ev_iinc (pc' := 52) (ls' := [_, _, _, _, _]) dX7_isRing_49 rfl rfl rfl rfl rfl ?_
        refine ev_goto (tgt := 4) dX7_isRing_52 (by decide) ?_
        rw [nI_p1]
        first
          | (show Ev _ _ _ _ [_, _, some (.int (g_v σ r m i)), _, _] _ _; rw [← e6]; exact ih (i + 1) _ (by omega) kk)
          | (rw [← e6]; exact ih (i + 1) _ (by omega) kk)
      · have h37 : ¬ i = 0 := fun z => h_37 (by rw [z]; rfl)
        refine ev_iload (pc' := 42) dX7_isRing_40 rfl rfl ?_
        refine ev_iload_n (pc' := 43) dX7_isRing_42 rfl rfl ?_
        refine ev_icmp_ge (tgt := 49) (pc' := 46) dX7_isRing_43 (by decide) rfl (fun h_43 => ?_) (fun h_43 => ?_)
        · rw [if_neg (show ¬ (i = 0 ∨ g_v σ r m i < g_least σ r m i) from fun z => z.elim h37 (fun z => absurd z (Int32.not_lt.mpr h_43)))] at e6
          refine ev_iinc (pc' := 52) (ls' := [_, _, _, _, _]) dX7_isRing_49 rfl rfl rfl rfl rfl ?_
          refine ev_goto (tgt := 4) dX7_isRing_52 (by decide) ?_
          rw [nI_p1]
          first
            | (show Ev _ _ _ _ [_, _, some (.int (g_v σ r m i)), _, _] _ _; rw [← e6]; exact ih (i + 1) _ (by omega) kk)
            | (rw [← e6]; exact ih (i + 1) _ (by omega) kk)
        · rw [if_pos (show i = 0 ∨ g_v σ r m i < g_least σ r m i from Or.inr (Int32.not_le.mp h_43))] at e6
          refine ev_iload (pc' := 48) dX7_isRing_46 rfl rfl ?_
          refine ev_istore_n (pc' := 49) (ls' := [_, _, _, _, _]) dX7_isRing_48 rfl rfl rfl ?_
          refine ev_iinc (pc' := 52) (ls' := [_, _, _, _, _]) dX7_isRing_49 rfl rfl rfl rfl rfl ?_
          refine ev_goto (tgt := 4) dX7_isRing_52 (by decide) ?_
          rw [nI_p1]
          first
            | (show Ev _ _ _ _ [_, _, some (.int (g_v σ r m i)), _, _] _ _; rw [← e6]; exact ih (i + 1) _ (by omega) kk)
            | (rw [← e6]; exact ih (i + 1) _ (by omega) kk)
/-- the first k of a row, ahead of another's -/
def cpyTo (f g : Nat → Int32) (k : Nat) : Nat → Int32 := fun j => if j < k then f j else g j
theorem cpyTo_0 (f g : Nat → Int32) : cpyTo f g 0 = g := funext fun j => if_neg (Nat.not_lt_zero j)
theorem cpyTo_s (f g : Nat → Int32) (k : Nat) : upd (cpyTo f g k) k (f k) = cpyTo f g (k + 1) := by
  funext j
  unfold upd cpyTo
  by_cases h : j = k
  · rw [if_pos h, if_pos (by omega), h]
  · rw [if_neg h]
    by_cases h2 : j < k
    · rw [if_pos h2, if_pos (by omega)]
    · rw [if_neg h2, if_neg (by omega)]
theorem g_copy_loop {d : Nat} (σ : RS) (τ : TS) (m : Nat) (h8 : m ≤ 8) (x2 x3 : Int32) : ∀ (c k : Nat), k + c = m → Ev d M7_isRing (rt none (WM (s1 σ 41 (cpyTo (σ 42) (σ 41) m)) τ)) 109 [some (.ref 0), some (.int (nI m)), some (.int x2), some (.int x3), some (.int (nI k))] [] (WM (s1 σ 41 (cpyTo (σ 42) (σ 41) k)) τ) := by
  intro c
  induction c with
  | zero =>
    intro k hk
    have hk : k = m := by omega
    subst hk
    refine ev_iload (pc' := 111) dX7_isRing_109 rfl rfl ?_
    refine ev_iload_n (pc' := 112) dX7_isRing_111 rfl rfl ?_
    refine ev_icmp_ge (tgt := 135) (pc' := 115) dX7_isRing_112 (by decide) rfl (fun h_112 => ?_) (fun h_112 => ?_)
    · refine ev_return rfl dX7_isRing_135 ?_
      exact ⟨rfl, rfl⟩
    · exact absurd (nI_le (Nat.le_refl _) (by omega)) h_112 --
  | succ c ih =>
    intro k hk
    have e1 : (nI k).toNatClampNeg = k := nI_clamp (by omega)
    refine ev_iload (pc' := 111) dX7_isRing_109 rfl rfl ?_
    refine ev_iload_n (pc' := 112) dX7_isRing_111 rfl rfl ?_
    refine ev_icmp_ge (tgt := 135) (pc' := 115) dX7_isRing_112 (by decide) rfl (fun h_112 => ?_) (fun h_112 => ?_)
    · exact absurd h_112 (nI_ge (by omega) (by omega)) --
    · refine ev_aload_n (pc' := 116) dX7_isRing_115 rfl rfl ?_
      refine ev_getf (pc' := 119) fl_7_143 dX7_isRing_116 rfl rfl rfl ?_
      refine ev_iload (pc' := 121) dX7_isRing_119 rfl rfl ?_
      refine ev_aload_n (pc' := 122) dX7_isRing_121 rfl rfl ?_
      refine ev_getf (pc' := 125) fl_7_146 dX7_isRing_122 rfl rfl rfl ?_
      refine ev_iload (pc' := 127) dX7_isRing_125 rfl rfl ?_
      refine ev_iald (pc' := 128) dX7_isRing_127 rfl rfl ?_ ?_
      · exact vp_in_nI (by omega) (by omega)
      refine ev_iast (pc' := 129) dX7_isRing_128 rfl rfl ?_ (WM_a41 _ _ _) ?_
      · exact vp_in_nI (by omega) (by omega)
      refine ev_iinc (pc' := 132) (ls' := [_, _, _, _, _]) dX7_isRing_129 rfl rfl rfl rfl rfl ?_
      refine ev_goto (tgt := 109) dX7_isRing_132 (by decide) ?_
      refine ev_world (w' := WM (s1 σ 41 (cpyTo (σ 42) (σ 41) (k + 1))) τ) ?_ ?_
      · show WM (s1 σ 41 (upd (cpyTo (σ 42) (σ 41) k) (nI k).toNatClampNeg (σ 42 (nI k).toNatClampNeg))) τ = _
        rw [e1, cpyTo_s]
      rw [nI_p1]
      exact ih (k + 1) (by omega)
def g_isRing (σ : RS) (r : Nat → Nat) (m : Nat) : RS :=
  if 0 < σ 0 59 ∧ (g_least σ r m m * nI m < σ 0 60 ∨ g_least σ r m m * nI m = σ 0 60 ∧ σ 0 59 ≤ nI m) then σ
  else s1 (s2 (s2 (s2 σ 0 59 (nI m)) 0 60 (g_least σ r m m * nI m)) 0 61 (g_least σ r m m)) 41 (cpyTo (σ 42) (σ 41) m)
theorem m_isRing {d : Nat} (σ : RS) (τ : TS) (r : Nat → Nat) (m : Nat) (h1 : 1 ≤ m) (h8 : m ≤ 8) (hr : g_row σ r m) : Ok d M7_isRing [.ref 0, .int (nI m)] (WM σ τ) (rt none (WM (g_isRing σ r m) τ)) := by
  have fin : ∀ x2 x3 : Int32, Ev d M7_isRing (rt none (WM (s1 (s2 (s2 (s2 σ 0 59 (nI m)) 0 60 (g_least σ r m m * nI m)) 0 61 (g_least σ r m m)) 41 (cpyTo (σ 42) (σ 41) m)) τ)) 109 [some (.ref 0), some (.int (nI m)), some (.int x2), some (.int x3), some (.int (nI 0))] [] (WM (s2 (s2 (s2 σ 0 59 (nI m)) 0 60 (g_least σ r m m * nI m)) 0 61 (g_least σ r m m)) τ) := by
    intro x2 x3
    have := g_copy_loop (d := d) (s2 (s2 (s2 σ 0 59 (nI m)) 0 60 (g_least σ r m m * nI m)) 0 61 (g_least σ r m m)) τ m h8 x2 x3 m 0 (by omega)
    rw [cpyTo_0] at this
    exact this
  refine Ok.of (ls := [some _, some _, none, none, none]) (by decide +kernel) (Nat.le_of_ble_eq_true rfl) rfl ?_
  refine ev_iconst (pc' := 1) (v := 0) dX7_isRing_0 rfl (by decide) ?_
  refine ev_istore_n (pc' := 2) (ls' := [_, _, _, _, _]) dX7_isRing_1 rfl rfl rfl ?_
  refine ev_iconst (pc' := 3) (v := 0) dX7_isRing_2 rfl (by decide) ?_
  refine ev_istore_n (pc' := 4) (ls' := [_, _, _, _, _]) dX7_isRing_3 rfl rfl rfl ?_
  refine g_least_loop σ τ r m h1 h8 hr m 0 _ (by omega) (fun z4 => ?_)
  obtain ⟨T, hT⟩ : ∃ T, T = g_isRing σ r m := ⟨_, rfl⟩
  rw [← hT]
  unfold g_isRing at hT
  refine ev_iload_n (pc' := 56) dX7_isRing_55 rfl rfl ?_
  refine ev_iload_n (pc' := 57) dX7_isRing_56 rfl rfl ?_
  refine ev_imul (pc' := 58) dX7_isRing_57 rfl ?_
  refine ev_istore_n (pc' := 59) (ls' := [_, _, _, _, _]) dX7_isRing_58 rfl rfl rfl ?_
  refine ev_aload_n (pc' := 60) dX7_isRing_59 rfl rfl ?_
  refine ev_getf (pc' := 63) fl_7_311 dX7_isRing_60 rfl rfl rfl ?_
  refine ev_if_le (tgt := 91) (pc' := 66) dX7_isRing_63 (by decide) rfl (fun h_63 => ?_) (fun h_63 => ?_)
  · rw [if_neg (fun z => absurd z.1 (Int32.not_lt.mpr h_63))] at hT
    refine ev_aload_n (pc' := 92) dX7_isRing_91 rfl rfl ?_
    refine ev_iload_n (pc' := 93) dX7_isRing_92 rfl rfl ?_
    refine ev_putf (pc' := 96) fs_7_311 dX7_isRing_93 rfl rfl (Nat.le_of_ble_eq_true rfl) (fun _ => rfl) (fun _ => rfl) (WM_p7_59 _ _ _) ?_
    refine ev_aload_n (pc' := 97) dX7_isRing_96 rfl rfl ?_
    refine ev_iload_n (pc' := 98) dX7_isRing_97 rfl rfl ?_
    refine ev_putf (pc' := 101) fs_7_317 dX7_isRing_98 rfl rfl (Nat.le_of_ble_eq_true rfl) (fun _ => rfl) (fun _ => rfl) (WM_p7_60 _ _ _) ?_
    refine ev_aload_n (pc' := 102) dX7_isRing_101 rfl rfl ?_
    refine ev_iload_n (pc' := 103) dX7_isRing_102 rfl rfl ?_
    refine ev_putf (pc' := 106) fs_7_320 dX7_isRing_103 rfl rfl (Nat.le_of_ble_eq_true rfl) (fun _ => rfl) (fun _ => rfl) (WM_p7_61 _ _ _) ?_
    refine ev_iconst (pc' := 107) (v := 0) dX7_isRing_106 rfl (by decide) ?_
    refine ev_istore (pc' := 109) (ls' := [_, _, _, _, _]) dX7_isRing_107 rfl rfl rfl ?_
    rw [hT]
    exact fin _ _
  · refine ev_iload_n (pc' := 67) dX7_isRing_66 rfl rfl ?_
    refine ev_aload_n (pc' := 68) dX7_isRing_67 rfl rfl ?_
    refine ev_getf (pc' := 71) fl_7_317 dX7_isRing_68 rfl rfl rfl ?_
    refine ev_icmp_lt (tgt := 90) (pc' := 74) dX7_isRing_71 (by decide) rfl (fun h_71 => ?_) (fun h_71 => ?_)
    · rw [if_pos ⟨Int32.not_le.mp h_63, Or.inl h_71⟩] at hT
      refine ev_return rfl dX7_isRing_90 ?_
      rw [hT]
      exact ⟨rfl, rfl⟩
    · refine ev_iload_n (pc' := 75) dX7_isRing_74 rfl rfl ?_
      refine ev_aload_n (pc' := 76) dX7_isRing_75 rfl rfl ?_
      refine ev_getf (pc' := 79) fl_7_317 dX7_isRing_76 rfl rfl rfl ?_
      refine ev_icmp_ne (tgt := 91) (pc' := 82) dX7_isRing_79 (by decide) rfl (fun h_79 => ?_) (fun h_79 => ?_)
      · rw [if_neg (fun z => z.2.elim h_71 (fun z => h_79 z.1))] at hT
        refine ev_aload_n (pc' := 92) dX7_isRing_91 rfl rfl ?_
        refine ev_iload_n (pc' := 93) dX7_isRing_92 rfl rfl ?_
        refine ev_putf (pc' := 96) fs_7_311 dX7_isRing_93 rfl rfl (Nat.le_of_ble_eq_true rfl) (fun _ => rfl) (fun _ => rfl) (WM_p7_59 _ _ _) ?_
        refine ev_aload_n (pc' := 97) dX7_isRing_96 rfl rfl ?_
        refine ev_iload_n (pc' := 98) dX7_isRing_97 rfl rfl ?_
        refine ev_putf (pc' := 101) fs_7_317 dX7_isRing_98 rfl rfl (Nat.le_of_ble_eq_true rfl) (fun _ => rfl) (fun _ => rfl) (WM_p7_60 _ _ _) ?_
        refine ev_aload_n (pc' := 102) dX7_isRing_101 rfl rfl ?_
        refine ev_iload_n (pc' := 103) dX7_isRing_102 rfl rfl ?_
        refine ev_putf (pc' := 106) fs_7_320 dX7_isRing_103 rfl rfl (Nat.le_of_ble_eq_true rfl) (fun _ => rfl) (fun _ => rfl) (WM_p7_61 _ _ _) ?_
        refine ev_iconst (pc' := 107) (v := 0) dX7_isRing_106 rfl (by decide) ?_
        refine ev_istore (pc' := 109) (ls' := [_, _, _, _, _]) dX7_isRing_107 rfl rfl rfl ?_
        rw [hT]
        exact fin _ _
      · refine ev_iload_n (pc' := 83) dX7_isRing_82 rfl rfl ?_
        refine ev_aload_n (pc' := 84) dX7_isRing_83 rfl rfl ?_
        refine ev_getf (pc' := 87) fl_7_311 dX7_isRing_84 rfl rfl rfl ?_
        refine ev_icmp_lt (tgt := 91) (pc' := 90) dX7_isRing_87 (by decide) rfl (fun h_87 => ?_) (fun h_87 => ?_)
        · rw [if_neg (fun z => z.2.elim h_71 (fun z => absurd h_87 (Int32.not_lt.mpr z.2)))] at hT
          refine ev_aload_n (pc' := 92) dX7_isRing_91 rfl rfl ?_
          refine ev_iload_n (pc' := 93) dX7_isRing_92 rfl rfl ?_
          refine ev_putf (pc' := 96) fs_7_311 dX7_isRing_93 rfl rfl (Nat.le_of_ble_eq_true rfl) (fun _ => rfl) (fun _ => rfl) (WM_p7_59 _ _ _) ?_
          refine ev_aload_n (pc' := 97) dX7_isRing_96 rfl rfl ?_
          refine ev_iload_n (pc' := 98) dX7_isRing_97 rfl rfl ?_
          refine ev_putf (pc' := 101) fs_7_317 dX7_isRing_98 rfl rfl (Nat.le_of_ble_eq_true rfl) (fun _ => rfl) (fun _ => rfl) (WM_p7_60 _ _ _) ?_
          refine ev_aload_n (pc' := 102) dX7_isRing_101 rfl rfl ?_
          refine ev_iload_n (pc' := 103) dX7_isRing_102 rfl rfl ?_
          refine ev_putf (pc' := 106) fs_7_320 dX7_isRing_103 rfl rfl (Nat.le_of_ble_eq_true rfl) (fun _ => rfl) (fun _ => rfl) (WM_p7_61 _ _ _) ?_
          refine ev_iconst (pc' := 107) (v := 0) dX7_isRing_106 rfl (by decide) ?_
          refine ev_istore (pc' := 109) (ls' := [_, _, _, _, _]) dX7_isRing_107 rfl rfl rfl ?_
          rw [hT]
          exact fin _ _
        · rw [if_pos ⟨Int32.not_le.mp h_63, Or.inr ⟨h_79, Int32.not_lt.mp h_87⟩⟩] at hT
          refine ev_return rfl dX7_isRing_90 ?_
          rw [hT]
          exact ⟨rfl, rfl⟩
def g_meet1 (σ : RS) (r : Nat → Nat) (m i : Nat) : RS := s1 σ 33 (upd (σ 33) (8 * r i + r ((i + 1) % m)) (σ 33 (8 * r i + r ((i + 1) % m)) - σ 0 61))
def g_meetR (r : Nat → Nat) (m : Nat) : Nat → Nat → RS → RS
  | 0, _, σ => σ
  | c + 1, i, σ => g_meetR r m c (i + 1) (g_meet1 σ r m i)
theorem g_meet_loop {d : Nat} {Q : Option Value → MW → Prop} (τ : TS) (r : Nat → Nat) (m : Nat) (h1 : 1 ≤ m) (h8 : m ≤ 8) : ∀ (c i : Nat) (σ : RS), i + c = m → σ 0 59 = nI m → (∀ i, i < m → σ 41 i = nI (r i) ∧ r i < 8) → (Ev d M7_meets Q 62 [some (.ref 0), some (.int (nI m))] [] (WM (g_meetR r m c i σ) τ)) → Ev d M7_meets Q 13 [some (.ref 0), some (.int (nI i))] [] (WM σ τ) := by
  intro c
  induction c with
  | zero =>
    intro i σ hi h59 hr kk
    have hi : i = m := by omega
    subst hi
    refine ev_iload_n (pc' := 14) dX7_meets_13 rfl rfl ?_
    refine ev_aload_n (pc' := 15) dX7_meets_14 rfl rfl ?_
    refine ev_getf (pc' := 18) fl_7_311 dX7_meets_15 rfl rfl rfl ?_
    refine ev_icmp_ge (tgt := 62) (pc' := 21) dX7_meets_18 (by decide) rfl (fun h_18 => ?_) (fun h_18 => ?_)
    · exact kk --
    · exact absurd (by rw [h59]; exact nI_le (Nat.le_refl _) (by omega)) h_18 --
  | succ c ih =>
    intro i σ hi h59 hr kk
    obtain ⟨a1, a2⟩ := hr i (by omega)
    obtain ⟨b1, b2⟩ := hr ((i + 1) % m) (Nat.mod_lt _ (by omega))
    have hm := Nat.mod_lt (i + 1) (show m > 0 by omega)
    have e1 : (nI i).toNatClampNeg = i := nI_clamp (by omega)
    have e2 : nI (i + 1) - nI (i + 1) / nI m * nI m = nI ((i + 1) % m) := pk_rem (by omega) (by omega) (by omega)
    have e3 : (nI ((i + 1) % m)).toNatClampNeg = (i + 1) % m := nI_clamp (by omega)
    have e4 := g_cell (r i) (r ((i + 1) % m))
    have e5 : (nI (8 * r i + r ((i + 1) % m))).toNatClampNeg = 8 * r i + r ((i + 1) % m) := nI_clamp (by omega)
    rw [g_meetR] at kk
    have h59' : (g_meet1 σ r m i) 0 59 = nI m := h59
    have hr' : ∀ i_1, i_1 < m → (g_meet1 σ r m i) 41 i_1 = nI (r i_1) ∧ r i_1 < 8 := hr
    refine ev_iload_n (pc' := 14) dX7_meets_13 rfl rfl ?_
    refine ev_aload_n (pc' := 15) dX7_meets_14 rfl rfl ?_
    refine ev_getf (pc' := 18) fl_7_311 dX7_meets_15 rfl rfl rfl ?_
    refine ev_icmp_ge (tgt := 62) (pc' := 21) dX7_meets_18 (by decide) rfl (fun h_18 => ?_) (fun h_18 => ?_)
    · exact absurd h_18 (by rw [h59]; exact nI_ge (by omega) (by omega)) --
    · refine ev_aload_n (pc' := 22) dX7_meets_21 rfl rfl ?_
      refine ev_getf (pc' := 25) fl_7_119 dX7_meets_22 rfl rfl rfl ?_
      refine ev_bipush (pc' := 27) (v := 8) dX7_meets_25 rfl (by decide) ?_
      refine ev_aload_n (pc' := 28) dX7_meets_27 rfl rfl ?_
      refine ev_getf (pc' := 31) fl_7_143 dX7_meets_28 rfl rfl rfl ?_
      refine ev_iload_n (pc' := 32) dX7_meets_31 rfl rfl ?_
      refine ev_iald (pc' := 33) dX7_meets_32 rfl rfl ?_ ?_
      · exact vp_in_nI (by omega) (by omega)
      rw [e1, a1]
      refine ev_imul (pc' := 34) dX7_meets_33 rfl ?_
      refine ev_aload_n (pc' := 35) dX7_meets_34 rfl rfl ?_
      refine ev_getf (pc' := 38) fl_7_143 dX7_meets_35 rfl rfl rfl ?_
      refine ev_iload_n (pc' := 39) dX7_meets_38 rfl rfl ?_
      refine ev_iconst (pc' := 40) (v := 1) dX7_meets_39 rfl (by decide) ?_
      refine ev_iadd (pc' := 41) dX7_meets_40 rfl ?_
      rw [nI_1]
      refine ev_aload_n (pc' := 42) dX7_meets_41 rfl rfl ?_
      refine ev_getf (pc' := 45) fl_7_311 dX7_meets_42 rfl rfl rfl ?_
      rw [h59]
      refine ev_irem (pc' := 46) dX7_meets_45 rfl (nI_ne0 (by omega) (by omega)) ?_
      refine ev_iald (pc' := 47) dX7_meets_46 rfl rfl ?_ ?_
      · rw [e2]; exact vp_in_nI (by omega) (by omega)
      rw [e2, e3, b1]
      refine ev_iadd (pc' := 48) dX7_meets_47 rfl ?_
      rw [e4]
      refine ev_dup2 (pc' := 49) dX7_meets_48 rfl rfl rfl ?_
      refine ev_iald (pc' := 50) dX7_meets_49 rfl rfl ?_ ?_
      · exact vp_in_nI (by omega) (by omega)
      rw [e5]
      refine ev_aload_n (pc' := 51) dX7_meets_50 rfl rfl ?_
      refine ev_getf (pc' := 54) fl_7_320 dX7_meets_51 rfl rfl rfl ?_
      refine ev_isub (pc' := 55) dX7_meets_54 rfl ?_
      refine ev_iast (pc' := 56) dX7_meets_55 rfl rfl ?_ (WM_a33 _ _ _) ?_
      · exact vp_in_nI (by omega) (by omega)
      refine ev_iinc (pc' := 59) (ls' := [_, _]) dX7_meets_56 rfl rfl rfl rfl rfl ?_
      refine ev_goto (tgt := 13) dX7_meets_59 (by decide) ?_
      refine ev_world (w' := WM (g_meet1 σ r m i) τ) ?_ ?_
      · show WM (s1 σ 33 (upd (σ 33) (nI (8 * r i + r ((i + 1) % m))).toNatClampNeg (σ 33 (8 * r i + r ((i + 1) % m)) - σ 0 61))) τ = _
        rw [e5]
        rfl
      rw [nI_p1]
      exact ih (i + 1) _ (by omega) h59' hr' kk
