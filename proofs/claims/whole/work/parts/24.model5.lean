/-! The model, fifth part: what codes are worth. -/
def v_step (σ : RS) (i : Nat) (p : Nat × (Nat → Int32)) : Nat × (Nat → Int32) :=
  if σ 20 i < 2 then (p.1 + 1, upd p.2 p.1 (if σ 20 i = 0 then σ 21 i else σ 39 (σ 21 i).toNatClampNeg))
  else (p.1 - 1, upd p.2 (p.1 - 2) (if σ 20 i = 2 then p.2 (p.1 - 2) + p.2 (p.1 - 1) else if σ 20 i = 3 then p.2 (p.1 - 2) - p.2 (p.1 - 1) else p.2 (p.1 - 2) * p.2 (p.1 - 1)))
def v_run (σ : RS) : Nat → Nat → Nat × (Nat → Int32) → Nat × (Nat → Int32)
  | 0, _, p => p
  | c + 1, i, p => v_run σ c (i + 1) (v_step σ i p)
/-- no code takes from a pile that is too small, nor puts on one that is full -/
def v_wf (σ : RS) : Nat → Nat → Nat → Prop
  | 0, _, _ => True
  | c + 1, i, h => if σ 20 i < 2 then h < 500 ∧ (¬ σ 20 i = 0 → vp_in (σ 21 i) 9) ∧ v_wf σ c (i + 1) (h + 1) else 2 ≤ h ∧ h ≤ 500 ∧ v_wf σ c (i + 1) (h - 1)
theorem m_value_loop {d : Nat} (σ : RS) (τ : TS) (x1 : Int32) (b : Nat) (hb : b ≤ 1000) : ∀ (c i h : Nat) (f : Nat → Int32) (z5 z6 : Option Value), i + c = b → v_wf σ c i h → Ev d M7_value (rt (some (.int ((v_run σ c i (h, f)).2 0))) (WM (s1 σ 40 (v_run σ c i (h, f)).2) τ)) 5 [some (.ref 0), some (.int x1), some (.int (nI b)), some (.int (nI h)), some (.int (nI i)), z5, z6] [] (WM (s1 σ 40 f) τ) := by
  intro c
  induction c with
  | zero =>
    intro i h f z5 z6 hi hw
    have hi : i = b := by omega
    subst hi
    refine ev_iload (pc' := 7) dX7_value_5 rfl rfl ?_
    refine ev_iload_n (pc' := 8) dX7_value_7 rfl rfl ?_
    refine ev_icmp_ge (tgt := 144) (pc' := 11) dX7_value_8 (by decide) rfl (fun h_8 => ?_) (fun h_8 => ?_)
    · refine ev_aload_n (pc' := 145) dX7_value_144 rfl rfl ?_
      refine ev_getf (pc' := 148) fl_7_140 dX7_value_145 rfl rfl rfl ?_
      refine ev_iconst (pc' := 149) (v := 0) dX7_value_148 rfl (by decide) ?_
      refine ev_iald (pc' := 150) dX7_value_149 rfl rfl ?_ ?_
      · exact vp_in_nI (n := 0) (by omega) (by omega)
      refine ev_ireturn rfl dX7_value_150 ?_
      exact ⟨rfl, rfl⟩
    · exact absurd (nI_le (Nat.le_refl _) (by omega)) h_8 --
  | succ c ih =>
    intro i h f z5 z6 hi hw
    have hv : vp_in (nI i) 1000 := vp_in_nI (by omega) (by omega)
    have ei : (nI i).toNatClampNeg = i := nI_clamp (by omega)
    rw [v_wf] at hw
    rw [v_run]
    obtain ⟨T, hT⟩ : ∃ T, T = v_step σ i (h, f) := ⟨_, rfl⟩
    rw [← hT]
    unfold v_step at hT
    have eh : (nI h).toNatClampNeg = h := by
      split at hw
      · exact nI_clamp (by omega)
      · exact nI_clamp (by omega)
    refine ev_iload (pc' := 7) dX7_value_5 rfl rfl ?_
    refine ev_iload_n (pc' := 8) dX7_value_7 rfl rfl ?_
    refine ev_icmp_ge (tgt := 144) (pc' := 11) dX7_value_8 (by decide) rfl (fun h_8 => ?_) (fun h_8 => ?_)
    · exact absurd h_8 (nI_ge (by omega) (by omega)) --
    · refine ev_aload_n (pc' := 12) dX7_value_11 rfl rfl ?_
      refine ev_getf (pc' := 15) fl_7_77 dX7_value_12 rfl rfl rfl ?_
      refine ev_iload (pc' := 17) dX7_value_15 rfl rfl ?_
      refine ev_iald (pc' := 18) dX7_value_17 rfl rfl ?_ ?_
      · exact hv
      rw [ei]
      refine ev_iconst (pc' := 19) (v := 2) dX7_value_18 rfl (by decide) ?_
      refine ev_icmp_ge (tgt := 66) (pc' := 22) dX7_value_19 (by decide) rfl (fun h_19 => ?_) (fun h_19 => ?_)
      · have h19 : ¬ σ 20 i < 2 := Int32.not_lt.mpr h_19
        rw [if_neg h19] at hw hT
        have hm0 : nI h + Int32.ofInt (-1) = nI (h - 1) := by rw [nI_m1]; exact nI_sub (a := h) (b := 1) (by omega)
        have hm1 : nI (h - 1) - 1 = nI (h - 2) := by rw [show h - 2 = h - 1 - 1 by omega]; exact nI_sub (a := h - 1) (b := 1) (by omega)
        have e2 : (nI (h - 2)).toNatClampNeg = h - 2 := nI_clamp (by omega)
        have e3 : (nI (h - 1)).toNatClampNeg = h - 1 := nI_clamp (by omega)
        refine ev_iinc (pc' := 69) (ls' := [_, _, _, _, _, _, _]) dX7_value_66 rfl rfl rfl rfl rfl ?_
        rw [hm0]
        refine ev_aload_n (pc' := 70) dX7_value_69 rfl rfl ?_
        refine ev_getf (pc' := 73) fl_7_140 dX7_value_70 rfl rfl rfl ?_
        refine ev_iload_n (pc' := 74) dX7_value_73 rfl rfl ?_
        refine ev_iconst (pc' := 75) (v := 1) dX7_value_74 rfl (by decide) ?_
        refine ev_isub (pc' := 76) dX7_value_75 rfl ?_
        refine ev_iald (pc' := 77) dX7_value_76 rfl rfl ?_ ?_
        · rw [hm1]; exact vp_in_nI (by omega) (by omega)
        rw [hm1, e2]
        refine ev_istore (pc' := 79) (ls' := [_, _, _, _, _, _, _]) dX7_value_77 rfl rfl rfl ?_
        refine ev_aload_n (pc' := 80) dX7_value_79 rfl rfl ?_
        refine ev_getf (pc' := 83) fl_7_140 dX7_value_80 rfl rfl rfl ?_
        refine ev_iload_n (pc' := 84) dX7_value_83 rfl rfl ?_
        refine ev_iald (pc' := 85) dX7_value_84 rfl rfl ?_ ?_
        · exact vp_in_nI (by omega) (by omega)
        rw [e3]
        refine ev_istore (pc' := 87) (ls' := [_, _, _, _, _, _, _]) dX7_value_85 rfl rfl rfl ?_
        refine ev_aload_n (pc' := 88) dX7_value_87 rfl rfl ?_
        refine ev_getf (pc' := 91) fl_7_140 dX7_value_88 rfl rfl rfl ?_
        refine ev_iload_n (pc' := 92) dX7_value_91 rfl rfl ?_
        refine ev_iconst (pc' := 93) (v := 1) dX7_value_92 rfl (by decide) ?_
        refine ev_isub (pc' := 94) dX7_value_93 rfl ?_
        refine ev_aload_n (pc' := 95) dX7_value_94 rfl rfl ?_
        refine ev_getf (pc' := 98) fl_7_77 dX7_value_95 rfl rfl rfl ?_
        refine ev_iload (pc' := 100) dX7_value_98 rfl rfl ?_
        refine ev_iald (pc' := 101) dX7_value_100 rfl rfl ?_ ?_
        · exact hv
        rw [ei]
        refine ev_iconst (pc' := 102) (v := 2) dX7_value_101 rfl (by decide) ?_
        refine ev_icmp_ne (tgt := 113) (pc' := 105) dX7_value_102 (by decide) rfl (fun h_102 => ?_) (fun h_102 => ?_)
        · have h102 : ¬ σ 20 i = 2 := h_102
          rw [if_neg h102] at hT
          refine ev_aload_n (pc' := 114) dX7_value_113 rfl rfl ?_
          refine ev_getf (pc' := 117) fl_7_77 dX7_value_114 rfl rfl rfl ?_
          refine ev_iload (pc' := 119) dX7_value_117 rfl rfl ?_
          refine ev_iald (pc' := 120) dX7_value_119 rfl rfl ?_ ?_
          · exact hv
          rw [ei]
          refine ev_iconst (pc' := 121) (v := 3) dX7_value_120 rfl (by decide) ?_
          refine ev_icmp_ne (tgt := 132) (pc' := 124) dX7_value_121 (by decide) rfl (fun h_121 => ?_) (fun h_121 => ?_)
          · have h121 : ¬ σ 20 i = 3 := h_121
            rw [if_neg h121] at hT
            refine ev_iload (pc' := 134) dX7_value_132 rfl rfl ?_
            refine ev_iload (pc' := 136) dX7_value_134 rfl rfl ?_
            refine ev_imul (pc' := 137) dX7_value_136 rfl ?_
            refine ev_iast (pc' := 138) dX7_value_137 rfl rfl ?_ (WM_a40 _ _ _) ?_
            · rw [hm1]; exact vp_in_nI (by omega) (by omega)
            refine ev_iinc (pc' := 141) (ls' := [_, _, _, _, _, _, _]) dX7_value_138 rfl rfl rfl rfl rfl ?_
            refine ev_goto (tgt := 5) dX7_value_141 (by decide) ?_
            subst hT
            simp only [nI_p1]
            first
              | (refine ev_world (w' := WM (s1 σ 40 (upd f h _)) τ) (by show WM (s1 σ 40 (upd f (nI h).toNatClampNeg _)) τ = _; rw [eh]) ?_
                 exact ih (i + 1) (h + 1) _ _ _ (by omega) hw.2.2)
              | (refine ev_world (w' := WM (s1 σ 40 (upd f (h - 2) _)) τ) (by show WM (s1 σ 40 (upd f (nI (h - 1) - 1).toNatClampNeg _)) τ = _; rw [hm1, e2]) ?_
                 exact ih (i + 1) (h - 1) _ _ _ (by omega) hw.2.2)
          · have h121 : σ 20 i = 3 := h_121
            rw [if_pos h121] at hT
            refine ev_iload (pc' := 126) dX7_value_124 rfl rfl ?_
            refine ev_iload (pc' := 128) dX7_value_126 rfl rfl ?_
            refine ev_isub (pc' := 129) dX7_value_128 rfl ?_
            refine ev_goto (tgt := 137) dX7_value_129 (by decide) ?_
            refine ev_iast (pc' := 138) dX7_value_137 rfl rfl ?_ (WM_a40 _ _ _) ?_
            · rw [hm1]; exact vp_in_nI (by omega) (by omega)
            refine ev_iinc (pc' := 141) (ls' := [_, _, _, _, _, _, _]) dX7_value_138 rfl rfl rfl rfl rfl ?_
            refine ev_goto (tgt := 5) dX7_value_141 (by decide) ?_
            subst hT
            simp only [nI_p1]
            first
              | (refine ev_world (w' := WM (s1 σ 40 (upd f h _)) τ) (by show WM (s1 σ 40 (upd f (nI h).toNatClampNeg _)) τ = _; rw [eh]) ?_
                 exact ih (i + 1) (h + 1) _ _ _ (by omega) hw.2.2)
              | (refine ev_world (w' := WM (s1 σ 40 (upd f (h - 2) _)) τ) (by show WM (s1 σ 40 (upd f (nI (h - 1) - 1).toNatClampNeg _)) τ = _; rw [hm1, e2]) ?_
                 exact ih (i + 1) (h - 1) _ _ _ (by omega) hw.2.2)
        · have h102 : σ 20 i = 2 := h_102
          rw [if_pos h102] at hT
          refine ev_iload (pc' := 107) dX7_value_105 rfl rfl ?_
          refine ev_iload (pc' := 109) dX7_value_107 rfl rfl ?_
          refine ev_iadd (pc' := 110) dX7_value_109 rfl ?_
          refine ev_goto (tgt := 137) dX7_value_110 (by decide) ?_
          refine ev_iast (pc' := 138) dX7_value_137 rfl rfl ?_ (WM_a40 _ _ _) ?_
          · rw [hm1]; exact vp_in_nI (by omega) (by omega)
          refine ev_iinc (pc' := 141) (ls' := [_, _, _, _, _, _, _]) dX7_value_138 rfl rfl rfl rfl rfl ?_
          refine ev_goto (tgt := 5) dX7_value_141 (by decide) ?_
          subst hT
          simp only [nI_p1]
          first
            | (refine ev_world (w' := WM (s1 σ 40 (upd f h _)) τ) (by show WM (s1 σ 40 (upd f (nI h).toNatClampNeg _)) τ = _; rw [eh]) ?_
               exact ih (i + 1) (h + 1) _ _ _ (by omega) hw.2.2)
            | (refine ev_world (w' := WM (s1 σ 40 (upd f (h - 2) _)) τ) (by show WM (s1 σ 40 (upd f (nI (h - 1) - 1).toNatClampNeg _)) τ = _; rw [hm1, e2]) ?_
               exact ih (i + 1) (h - 1) _ _ _ (by omega) hw.2.2)
      · have h19 : σ 20 i < 2 := Int32.not_le.mp h_19
        rw [if_pos h19] at hw hT
        refine ev_aload_n (pc' := 23) dX7_value_22 rfl rfl ?_
        refine ev_getf (pc' := 26) fl_7_140 dX7_value_23 rfl rfl rfl ?_
        refine ev_iload_n (pc' := 27) dX7_value_26 rfl rfl ?_
        refine ev_aload_n (pc' := 28) dX7_value_27 rfl rfl ?_
        refine ev_getf (pc' := 31) fl_7_77 dX7_value_28 rfl rfl rfl ?_
        refine ev_iload (pc' := 33) dX7_value_31 rfl rfl ?_
        refine ev_iald (pc' := 34) dX7_value_33 rfl rfl ?_ ?_
        · exact hv
        rw [ei]
        refine ev_if_ne (tgt := 47) (pc' := 37) dX7_value_34 (by decide) rfl (fun h_34 => ?_) (fun h_34 => ?_)
        · have h34 : ¬ σ 20 i = 0 := h_34
          rw [if_neg h34] at hT
          refine ev_aload_n (pc' := 48) dX7_value_47 rfl rfl ?_
          refine ev_getf (pc' := 51) fl_7_137 dX7_value_48 rfl rfl rfl ?_
          refine ev_aload_n (pc' := 52) dX7_value_51 rfl rfl ?_
          refine ev_getf (pc' := 55) fl_7_80 dX7_value_52 rfl rfl rfl ?_
          refine ev_iload (pc' := 57) dX7_value_55 rfl rfl ?_
          refine ev_iald (pc' := 58) dX7_value_57 rfl rfl ?_ ?_
          · exact hv
          rw [ei]
          refine ev_iald (pc' := 59) dX7_value_58 rfl rfl ?_ ?_
          · exact hw.2.1 h34
          refine ev_iast (pc' := 60) dX7_value_59 rfl rfl ?_ (WM_a40 _ _ _) ?_
          · exact vp_in_nI hw.1 (by omega)
          refine ev_iinc (pc' := 63) (ls' := [_, _, _, _, _, _, _]) dX7_value_60 rfl rfl rfl rfl rfl ?_
          refine ev_goto (tgt := 138) dX7_value_63 (by decide) ?_
          refine ev_iinc (pc' := 141) (ls' := [_, _, _, _, _, _, _]) dX7_value_138 rfl rfl rfl rfl rfl ?_
          refine ev_goto (tgt := 5) dX7_value_141 (by decide) ?_
          subst hT
          simp only [nI_p1]
          first
            | (refine ev_world (w' := WM (s1 σ 40 (upd f h _)) τ) (by show WM (s1 σ 40 (upd f (nI h).toNatClampNeg _)) τ = _; rw [eh]) ?_
               exact ih (i + 1) (h + 1) _ _ _ (by omega) hw.2.2)
            | (refine ev_world (w' := WM (s1 σ 40 (upd f (h - 2) _)) τ) (by show WM (s1 σ 40 (upd f (nI (h - 1) - 1).toNatClampNeg _)) τ = _; rw [hm1, e2]) ?_
               exact ih (i + 1) (h - 1) _ _ _ (by omega) hw.2.2)
        · have h34 : σ 20 i = 0 := h_34
          rw [if_pos h34] at hT
          refine ev_aload_n (pc' := 38) dX7_value_37 rfl rfl ?_
          refine ev_getf (pc' := 41) fl_7_80 dX7_value_38 rfl rfl rfl ?_
          refine ev_iload (pc' := 43) dX7_value_41 rfl rfl ?_
          refine ev_iald (pc' := 44) dX7_value_43 rfl rfl ?_ ?_
          · exact hv
          rw [ei]
          refine ev_goto (tgt := 59) dX7_value_44 (by decide) ?_
          refine ev_iast (pc' := 60) dX7_value_59 rfl rfl ?_ (WM_a40 _ _ _) ?_
          · exact vp_in_nI hw.1 (by omega)
          refine ev_iinc (pc' := 63) (ls' := [_, _, _, _, _, _, _]) dX7_value_60 rfl rfl rfl rfl rfl ?_
          refine ev_goto (tgt := 138) dX7_value_63 (by decide) ?_
          refine ev_iinc (pc' := 141) (ls' := [_, _, _, _, _, _, _]) dX7_value_138 rfl rfl rfl rfl rfl ?_
          refine ev_goto (tgt := 5) dX7_value_141 (by decide) ?_
          subst hT
          simp only [nI_p1]
          first
            | (refine ev_world (w' := WM (s1 σ 40 (upd f h _)) τ) (by show WM (s1 σ 40 (upd f (nI h).toNatClampNeg _)) τ = _; rw [eh]) ?_
               exact ih (i + 1) (h + 1) _ _ _ (by omega) hw.2.2)
            | (refine ev_world (w' := WM (s1 σ 40 (upd f (h - 2) _)) τ) (by show WM (s1 σ 40 (upd f (nI (h - 1) - 1).toNatClampNeg _)) τ = _; rw [hm1, e2]) ?_
               exact ih (i + 1) (h - 1) _ _ _ (by omega) hw.2.2)
theorem m_value {d : Nat} (σ : RS) (τ : TS) (a b : Nat) (hab : a ≤ b) (hb : b ≤ 1000) (hw : v_wf σ (b - a) a 0) : Ok d M7_value [.ref 0, .int (nI a), .int (nI b)] (WM σ τ) (rt (some (.int ((v_run σ (b - a) a (0, σ 40)).2 0))) (WM (s1 σ 40 (v_run σ (b - a) a (0, σ 40)).2) τ)) := by
  refine Ok.of (ls := [some _, some _, some _, none, none, none, none]) (by decide +kernel) (Nat.le_of_ble_eq_true rfl) rfl ?_
  refine ev_iconst (pc' := 1) (v := 0) dX7_value_0 rfl (by decide) ?_
  refine ev_istore_n (pc' := 2) (ls' := [_, _, _, _, _, _, _]) dX7_value_1 rfl rfl rfl ?_
  refine ev_iload_n (pc' := 3) dX7_value_2 rfl rfl ?_
  refine ev_istore (pc' := 5) (ls' := [_, _, _, _, _, _, _]) dX7_value_3 rfl rfl rfl ?_
  exact m_value_loop σ τ _ b hb (b - a) a 0 (σ 40) _ _ (by omega) hw
