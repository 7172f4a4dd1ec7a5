/-! The model, eleventh part: which rule holds. -/
theorem m_holds_loop {d : Nat} (τ : TS) (σ0 : RS) (l r A Z : Nat) (hl : l ≤ 1) (hr : r < 32) (hZ : Z ≤ 200) (h18 : σ0 0 18 = nI l) (h13 : σ0 13 r = nI Z) (hk : ∀ k, A ≤ k → k < Z → h_okRel σ0 (200 * l + k)) : ∀ (c k : Nat) (all : Bool) (σ : RS) (z4 z5 z6 : Option Value), k + c = Z → A ≤ k → lsame σ0 σ → Ev (d + 1) M7_holds (rt (some (.int (bI (h_run (200 * l) c k all σ).1))) (WM (h_run (200 * l) c k all σ).2 τ)) 26 [some (.ref 0), some (.int (nI r)), some (.int (bI all)), some (.int (nI k)), z4, z5, z6] [] (WM σ τ) := by
  have er : (nI r).toNatClampNeg = r := nI_clamp (by omega)
  have hvr : vp_in (nI r) 32 := vp_in_nI (by omega) (by omega)
  intro c
  induction c with
  | zero =>
    intro k all σ z4 z5 z6 hkc hA hs
    have hkc : k = Z := by omega
    subst hkc
    have e13 : σ 13 r = nI k := by rw [hs.1 13 (by omega) (by omega)]; exact h13
    refine ev_iload_n (pc' := 27) dX7_holds_26 rfl rfl ?_
    refine ev_aload_n (pc' := 28) dX7_holds_27 rfl rfl ?_
    refine ev_getf (pc' := 31) fl_7_55 dX7_holds_28 rfl rfl rfl ?_
    refine ev_iload_n (pc' := 32) dX7_holds_31 rfl rfl ?_
    refine ev_iald (pc' := 33) dX7_holds_32 rfl rfl ?_ ?_
    · exact hvr
    rw [er, e13]
    refine ev_icmp_ge (tgt := 219) (pc' := 36) dX7_holds_33 (by decide) rfl (fun h_33 => ?_) (fun h_33 => ?_)
    · refine ev_iload_n (pc' := 220) dX7_holds_219 rfl rfl ?_
      refine ev_zreturn rfl (nar_bI _) dX7_holds_220 ?_
      exact ⟨rfl, rfl⟩
    · exact absurd (nI_le (Nat.le_refl _) (by omega)) h_33 --
  | succ c ih =>
    intro k all σ z4 z5 z6 hkc hA hs
    have e13 : σ 13 r = nI Z := by rw [hs.1 13 (by omega) (by omega)]; exact h13
    have e18 : σ 0 18 = nI l := hs.2.trans h18
    obtain ⟨L, R, E, g1, g2, g3, g4, g5, g6, g7, g8⟩ := h_okRel_same hs (hk k hA (by omega))
    obtain ⟨I, hI⟩ : ∃ I, I = 200 * l + k := ⟨_, rfl⟩
    have eI : 200 * nI l + nI k = nI I := by rw [show (200 : Int32) * nI l = nI (200 * l) from nI_mul 200 l, nI_add, hI]
    obtain ⟨T, hT⟩ : ∃ T, T = h_run (200 * l) (c + 1) k all σ := ⟨_, rfl⟩
    rw [← hT]
    rw [h_run, ← hI] at hT
    rw [← hI] at g1 g2 g3
    have ei : (nI I).toNatClampNeg = I := nI_clamp (by omega)
    have hvi : vp_in (nI I) 400 := vp_in_nI (by omega) (by omega)
    obtain ⟨VA, hVA⟩ : ∃ V, V = h_val σ L R := ⟨_, rfl⟩
    obtain ⟨VB, hVB⟩ : ∃ V, V = h_val VA.2 R E := ⟨_, rfl⟩
    have hrel : h_rel σ I = (h_cmp (σ 15 I) VA.1 VB.1, VB.2) := by
      unfold h_rel
      rw [g1, g2, g3, nt_nI (by omega), nt_nI (by omega), nt_nI (by omega), ← hVA]
      dsimp only
      rw [← hVB]
    have sA : lsame σ VA.2 := by rw [hVA]; exact h_val_same _ _ _
    have sB : lsame σ VB.2 := sA.trans (by rw [hVB]; exact h_val_same _ _ _)
    have callA : Ok d M7_value [.ref 0, .int (nI L), .int (nI R)] (WM σ τ) (rt (some (.int VA.1)) (WM VA.2 τ)) := by
      rw [hVA]; exact m_val σ τ L R g4 (by omega) g7
    have callB : Ok d M7_value [.ref 0, .int (nI R), .int (nI E)] (WM VA.2 τ) (rt (some (.int VB.1)) (WM VB.2 τ)) := by
      rw [hVB]; exact m_val VA.2 τ R E g5 g6 (v_wf_same sA _ _ _ g8)
    have a17 : VA.2 17 I = nI R := by rw [sA.1 17 (by omega) (by omega)]; exact g2
    have a18 : VA.2 18 I = nI E := by rw [sA.1 18 (by omega) (by omega)]; exact g3
    have b15 : VB.2 15 I = σ 15 I := by rw [sB.1 15 (by omega) (by omega)]
    rw [hrel] at hT
    generalize VA.1 = a at *
    generalize VA.2 = σA at *
    generalize VB.1 = b at *
    generalize VB.2 = σB at *
    have next : ∀ (q : Bool) (z4 z5 z6 : Option Value), h_cmp (σ 15 I) a b = q → T = h_run (200 * l) c (k + 1) (h_cmp (σ 15 I) a b) σB → Ev (d + 1) M7_holds (rt (some (.int (bI T.1))) (WM T.2 τ)) 26 [some (.ref 0), some (.int (nI r)), some (.int (bI q)), some (.int (nI (k + 1))), z4, z5, z6] [] (WM σB τ) := by
      intro q z4 z5 z6 hq hT
      rw [hT, hq]
      exact ih (k + 1) q σB _ _ _ (by omega) (by omega) (hs.trans sB)
    refine ev_iload_n (pc' := 27) dX7_holds_26 rfl rfl ?_
    refine ev_aload_n (pc' := 28) dX7_holds_27 rfl rfl ?_
    refine ev_getf (pc' := 31) fl_7_55 dX7_holds_28 rfl rfl rfl ?_
    refine ev_iload_n (pc' := 32) dX7_holds_31 rfl rfl ?_
    refine ev_iald (pc' := 33) dX7_holds_32 rfl rfl ?_ ?_
    · exact hvr
    rw [er, e13]
    refine ev_icmp_ge (tgt := 219) (pc' := 36) dX7_holds_33 (by decide) rfl (fun h_33 => ?_) (fun h_33 => ?_)
    · exact absurd h_33 (nI_ge (by omega) (by omega)) --
    · refine ev_sipush (pc' := 39) (v := 200) dX7_holds_36 rfl (by decide) ?_
      refine ev_aload_n (pc' := 40) dX7_holds_39 rfl rfl ?_
      refine ev_getf (pc' := 43) fl_7_230 dX7_holds_40 rfl rfl rfl ?_
      refine ev_imul (pc' := 44) dX7_holds_43 rfl ?_
      refine ev_iload_n (pc' := 45) dX7_holds_44 rfl rfl ?_
      refine ev_iadd (pc' := 46) dX7_holds_45 rfl ?_
      rw [e18, eI]
      refine ev_istore (pc' := 48) (ls' := [_, _, _, _, _, _, _]) dX7_holds_46 rfl rfl rfl ?_
      refine ev_aload_n (pc' := 49) dX7_holds_48 rfl rfl ?_
      refine ev_getf (pc' := 52) fl_7_73 dX7_holds_49 rfl rfl rfl ?_
      refine ev_iload (pc' := 54) dX7_holds_52 rfl rfl ?_
      refine ev_zald (pc' := 55) dX7_holds_54 rfl rfl ?_ ?_
      · exact hvi
      rw [ei]
      refine ev_if_eq (tgt := 64) (pc' := 58) dX7_holds_55 (by decide) rfl (fun h_55 => ?_) (fun h_55 => ?_)
      · refine ev_aload_n (pc' := 65) dX7_holds_64 rfl rfl ?_
        refine ev_getf (pc' := 68) fl_7_73 dX7_holds_65 rfl rfl rfl ?_
        refine ev_iload (pc' := 70) dX7_holds_68 rfl rfl ?_
        refine ev_zald (pc' := 71) dX7_holds_70 rfl rfl ?_ ?_
        · exact hvi
        rw [ei]
        refine ev_if_eq (tgt := 76) (pc' := 74) dX7_holds_71 (by decide) rfl (fun h_71 => ?_) (fun h_71 => ?_)
        · refine ev_iload_n (pc' := 77) dX7_holds_76 rfl rfl ?_
          refine ev_if_ne (tgt := 83) (pc' := 80) dX7_holds_77 (by decide) rfl (fun h_77 => ?_) (fun h_77 => ?_)
          · rw [bI_0, Bool.not_eq_false] at h_77
            subst h_77
            rw [if_neg (fun q => q.1 h_55), if_pos (Or.inr rfl)] at hT
            dsimp only at hT
            refine ev_aload_n (pc' := 84) dX7_holds_83 rfl rfl ?_
            refine ev_aload_n (pc' := 85) dX7_holds_84 rfl rfl ?_
            refine ev_getf (pc' := 88) fl_7_64 dX7_holds_85 rfl rfl rfl ?_
            refine ev_iload (pc' := 90) dX7_holds_88 rfl rfl ?_
            refine ev_iald (pc' := 91) dX7_holds_90 rfl rfl ?_ ?_
            · exact hvi
            rw [ei, g1]
            refine ev_aload_n (pc' := 92) dX7_holds_91 rfl rfl ?_
            refine ev_getf (pc' := 95) fl_7_67 dX7_holds_92 rfl rfl rfl ?_
            refine ev_iload (pc' := 97) dX7_holds_95 rfl rfl ?_
            refine ev_iald (pc' := 98) dX7_holds_97 rfl rfl ?_ ?_
            · exact hvi
            rw [ei, g2]
            refine ev_cVi2 (pc' := 101) cl_7_283 (callA) dX7_holds_98 rfl rfl rfl rfl ?_
            refine ev_istore (pc' := 103) (ls' := [_, _, _, _, _, _, _]) dX7_holds_101 rfl rfl rfl ?_
            refine ev_aload_n (pc' := 104) dX7_holds_103 rfl rfl ?_
            refine ev_aload_n (pc' := 105) dX7_holds_104 rfl rfl ?_
            refine ev_getf (pc' := 108) fl_7_67 dX7_holds_105 rfl rfl rfl ?_
            refine ev_iload (pc' := 110) dX7_holds_108 rfl rfl ?_
            refine ev_iald (pc' := 111) dX7_holds_110 rfl rfl ?_ ?_
            · exact hvi
            rw [ei, a17]
            refine ev_aload_n (pc' := 112) dX7_holds_111 rfl rfl ?_
            refine ev_getf (pc' := 115) fl_7_70 dX7_holds_112 rfl rfl rfl ?_
            refine ev_iload (pc' := 117) dX7_holds_115 rfl rfl ?_
            refine ev_iald (pc' := 118) dX7_holds_117 rfl rfl ?_ ?_
            · exact hvi
            rw [ei, a18]
            refine ev_cVi2 (pc' := 121) cl_7_283 (callB) dX7_holds_118 rfl rfl rfl rfl ?_
            refine ev_istore (pc' := 123) (ls' := [_, _, _, _, _, _, _]) dX7_holds_121 rfl rfl rfl ?_
            refine ev_aload_n (pc' := 124) dX7_holds_123 rfl rfl ?_
            refine ev_getf (pc' := 127) fl_7_61 dX7_holds_124 rfl rfl rfl ?_
            refine ev_iload (pc' := 129) dX7_holds_127 rfl rfl ?_
            refine ev_iald (pc' := 130) dX7_holds_129 rfl rfl ?_ ?_
            · exact hvi
            rw [ei, b15]
            refine ev_if_ne (tgt := 148) (pc' := 133) dX7_holds_130 (by decide) rfl (fun h_130 => ?_) (fun h_130 => ?_)
            · refine ev_aload_n (pc' := 149) dX7_holds_148 rfl rfl ?_
              refine ev_getf (pc' := 152) fl_7_61 dX7_holds_149 rfl rfl rfl ?_
              refine ev_iload (pc' := 154) dX7_holds_152 rfl rfl ?_
              refine ev_iald (pc' := 155) dX7_holds_154 rfl rfl ?_ ?_
              · exact hvi
              rw [ei, b15]
              refine ev_iconst (pc' := 156) (v := 1) dX7_holds_155 rfl (by decide) ?_
              refine ev_icmp_ne (tgt := 174) (pc' := 159) dX7_holds_156 (by decide) rfl (fun h_156 => ?_) (fun h_156 => ?_)
              · refine ev_aload_n (pc' := 175) dX7_holds_174 rfl rfl ?_
                refine ev_getf (pc' := 178) fl_7_61 dX7_holds_175 rfl rfl rfl ?_
                refine ev_iload (pc' := 180) dX7_holds_178 rfl rfl ?_
                refine ev_iald (pc' := 181) dX7_holds_180 rfl rfl ?_ ?_
                · exact hvi
                rw [ei, b15]
                refine ev_iconst (pc' := 182) (v := 2) dX7_holds_181 rfl (by decide) ?_
                refine ev_icmp_ne (tgt := 200) (pc' := 185) dX7_holds_182 (by decide) rfl (fun h_182 => ?_) (fun h_182 => ?_)
                · have e7 : h_cmp (σ 15 I) a b = decide (a ≤ b) := (if_neg h_130).trans ((if_neg h_156).trans (if_neg h_182))
                  refine ev_iload (pc' := 202) dX7_holds_200 rfl rfl ?_
                  refine ev_iload (pc' := 204) dX7_holds_202 rfl rfl ?_
                  refine ev_icmp_gt (tgt := 211) (pc' := 207) dX7_holds_204 (by decide) rfl (fun h_204 => ?_) (fun h_204 => ?_)
                  · rw [decide_eq_false (Int32.not_le.mpr h_204)] at e7
                    have fin := fun z4 z5 z6 => next false z4 z5 z6 e7 hT
                    refine ev_iconst (pc' := 212) (v := 0) dX7_holds_211 rfl (by decide) ?_
                    refine ev_istore_n (pc' := 213) (ls' := [_, _, _, _, _, _, _]) dX7_holds_212 rfl rfl rfl ?_
                    refine ev_iinc (pc' := 216) (ls' := [_, _, _, _, _, _, _]) dX7_holds_213 rfl rfl rfl rfl rfl ?_
                    refine ev_goto (tgt := 26) dX7_holds_216 (by decide) ?_
                    rw [nI_p1]
                    exact fin _ _ _
                  · rw [decide_eq_true (Int32.not_lt.mp h_204)] at e7
                    have fin := fun z4 z5 z6 => next true z4 z5 z6 e7 hT
                    refine ev_iconst (pc' := 208) (v := 1) dX7_holds_207 rfl (by decide) ?_
                    refine ev_goto (tgt := 212) dX7_holds_208 (by decide) ?_
                    refine ev_istore_n (pc' := 213) (ls' := [_, _, _, _, _, _, _]) dX7_holds_212 rfl rfl rfl ?_
                    refine ev_iinc (pc' := 216) (ls' := [_, _, _, _, _, _, _]) dX7_holds_213 rfl rfl rfl rfl rfl ?_
                    refine ev_goto (tgt := 26) dX7_holds_216 (by decide) ?_
                    rw [nI_p1]
                    exact fin _ _ _
                · have e7 : h_cmp (σ 15 I) a b = decide (a < b) := (if_neg h_130).trans ((if_neg h_156).trans (if_pos h_182))
                  refine ev_iload (pc' := 187) dX7_holds_185 rfl rfl ?_
                  refine ev_iload (pc' := 189) dX7_holds_187 rfl rfl ?_
                  refine ev_icmp_ge (tgt := 196) (pc' := 192) dX7_holds_189 (by decide) rfl (fun h_189 => ?_) (fun h_189 => ?_)
                  · rw [decide_eq_false (Int32.not_lt.mpr h_189)] at e7
                    have fin := fun z4 z5 z6 => next false z4 z5 z6 e7 hT
                    refine ev_iconst (pc' := 197) (v := 0) dX7_holds_196 rfl (by decide) ?_
                    refine ev_goto (tgt := 212) dX7_holds_197 (by decide) ?_
                    refine ev_istore_n (pc' := 213) (ls' := [_, _, _, _, _, _, _]) dX7_holds_212 rfl rfl rfl ?_
                    refine ev_iinc (pc' := 216) (ls' := [_, _, _, _, _, _, _]) dX7_holds_213 rfl rfl rfl rfl rfl ?_
                    refine ev_goto (tgt := 26) dX7_holds_216 (by decide) ?_
                    rw [nI_p1]
                    exact fin _ _ _
                  · rw [decide_eq_true (Int32.not_le.mp h_189)] at e7
                    have fin := fun z4 z5 z6 => next true z4 z5 z6 e7 hT
                    refine ev_iconst (pc' := 193) (v := 1) dX7_holds_192 rfl (by decide) ?_
                    refine ev_goto (tgt := 212) dX7_holds_193 (by decide) ?_
                    refine ev_istore_n (pc' := 213) (ls' := [_, _, _, _, _, _, _]) dX7_holds_212 rfl rfl rfl ?_
                    refine ev_iinc (pc' := 216) (ls' := [_, _, _, _, _, _, _]) dX7_holds_213 rfl rfl rfl rfl rfl ?_
                    refine ev_goto (tgt := 26) dX7_holds_216 (by decide) ?_
                    rw [nI_p1]
                    exact fin _ _ _
              · have e7 : h_cmp (σ 15 I) a b = decide (¬ a = b) := (if_neg h_130).trans (if_pos h_156)
                refine ev_iload (pc' := 161) dX7_holds_159 rfl rfl ?_
                refine ev_iload (pc' := 163) dX7_holds_161 rfl rfl ?_
                refine ev_icmp_eq (tgt := 170) (pc' := 166) dX7_holds_163 (by decide) rfl (fun h_163 => ?_) (fun h_163 => ?_)
                · rw [decide_eq_false (fun q => q h_163)] at e7
                  have fin := fun z4 z5 z6 => next false z4 z5 z6 e7 hT
                  refine ev_iconst (pc' := 171) (v := 0) dX7_holds_170 rfl (by decide) ?_
                  refine ev_goto (tgt := 212) dX7_holds_171 (by decide) ?_
                  refine ev_istore_n (pc' := 213) (ls' := [_, _, _, _, _, _, _]) dX7_holds_212 rfl rfl rfl ?_
                  refine ev_iinc (pc' := 216) (ls' := [_, _, _, _, _, _, _]) dX7_holds_213 rfl rfl rfl rfl rfl ?_
                  refine ev_goto (tgt := 26) dX7_holds_216 (by decide) ?_
                  rw [nI_p1]
                  exact fin _ _ _
                · rw [decide_eq_true h_163] at e7
                  have fin := fun z4 z5 z6 => next true z4 z5 z6 e7 hT
                  refine ev_iconst (pc' := 167) (v := 1) dX7_holds_166 rfl (by decide) ?_
                  refine ev_goto (tgt := 212) dX7_holds_167 (by decide) ?_
                  refine ev_istore_n (pc' := 213) (ls' := [_, _, _, _, _, _, _]) dX7_holds_212 rfl rfl rfl ?_
                  refine ev_iinc (pc' := 216) (ls' := [_, _, _, _, _, _, _]) dX7_holds_213 rfl rfl rfl rfl rfl ?_
                  refine ev_goto (tgt := 26) dX7_holds_216 (by decide) ?_
                  rw [nI_p1]
                  exact fin _ _ _
            · have e7 : h_cmp (σ 15 I) a b = decide (a = b) := if_pos h_130
              refine ev_iload (pc' := 135) dX7_holds_133 rfl rfl ?_
              refine ev_iload (pc' := 137) dX7_holds_135 rfl rfl ?_
              refine ev_icmp_ne (tgt := 144) (pc' := 140) dX7_holds_137 (by decide) rfl (fun h_137 => ?_) (fun h_137 => ?_)
              · rw [decide_eq_false h_137] at e7
                have fin := fun z4 z5 z6 => next false z4 z5 z6 e7 hT
                refine ev_iconst (pc' := 145) (v := 0) dX7_holds_144 rfl (by decide) ?_
                refine ev_goto (tgt := 212) dX7_holds_145 (by decide) ?_
                refine ev_istore_n (pc' := 213) (ls' := [_, _, _, _, _, _, _]) dX7_holds_212 rfl rfl rfl ?_
                refine ev_iinc (pc' := 216) (ls' := [_, _, _, _, _, _, _]) dX7_holds_213 rfl rfl rfl rfl rfl ?_
                refine ev_goto (tgt := 26) dX7_holds_216 (by decide) ?_
                rw [nI_p1]
                exact fin _ _ _
              · rw [decide_eq_true h_137] at e7
                have fin := fun z4 z5 z6 => next true z4 z5 z6 e7 hT
                refine ev_iconst (pc' := 141) (v := 1) dX7_holds_140 rfl (by decide) ?_
                refine ev_goto (tgt := 212) dX7_holds_141 (by decide) ?_
                refine ev_istore_n (pc' := 213) (ls' := [_, _, _, _, _, _, _]) dX7_holds_212 rfl rfl rfl ?_
                refine ev_iinc (pc' := 216) (ls' := [_, _, _, _, _, _, _]) dX7_holds_213 rfl rfl rfl rfl rfl ?_
                refine ev_goto (tgt := 26) dX7_holds_216 (by decide) ?_
                rw [nI_p1]
                exact fin _ _ _
          · rw [bI_0] at h_77
            subst h_77
            rw [if_neg (fun q => q.1 h_55), if_neg (fun q => q.elim (fun z => z h_55) (fun z => absurd z (by decide)))] at hT
            have fin := fun z4 z5 z6 => ih (k + 1) false σ z4 z5 z6 (by omega) (by omega) hs
            rw [← hT] at fin
            refine ev_goto (tgt := 213) dX7_holds_80 (by decide) ?_
            refine ev_iinc (pc' := 216) (ls' := [_, _, _, _, _, _, _]) dX7_holds_213 rfl rfl rfl rfl rfl ?_
            refine ev_goto (tgt := 26) dX7_holds_216 (by decide) ?_
            rw [nI_p1]
            exact fin _ _ _
        · exact absurd h_55 h_71 --
      · refine ev_iload_n (pc' := 59) dX7_holds_58 rfl rfl ?_
        refine ev_if_eq (tgt := 64) (pc' := 62) dX7_holds_59 (by decide) rfl (fun h_59 => ?_) (fun h_59 => ?_)
        · rw [bI_0] at h_59
          subst h_59
          refine ev_aload_n (pc' := 65) dX7_holds_64 rfl rfl ?_
          refine ev_getf (pc' := 68) fl_7_73 dX7_holds_65 rfl rfl rfl ?_
          refine ev_iload (pc' := 70) dX7_holds_68 rfl rfl ?_
          refine ev_zald (pc' := 71) dX7_holds_70 rfl rfl ?_ ?_
          · exact hvi
          rw [ei]
          refine ev_if_eq (tgt := 76) (pc' := 74) dX7_holds_71 (by decide) rfl (fun h_71 => ?_) (fun h_71 => ?_)
          · exact absurd h_71 h_55 --
          · rw [if_neg (fun q => absurd q.2 (by decide)), if_pos (Or.inl h_55)] at hT
            dsimp only at hT
            refine ev_iconst (pc' := 75) (v := 1) dX7_holds_74 rfl (by decide) ?_
            refine ev_istore_n (pc' := 76) (ls' := [_, _, _, _, _, _, _]) dX7_holds_75 rfl rfl rfl ?_
            refine ev_iload_n (pc' := 77) dX7_holds_76 rfl rfl ?_
            refine ev_if_ne (tgt := 83) (pc' := 80) dX7_holds_77 (by decide) rfl (fun h_77 => ?_) (fun h_77 => ?_)
            · refine ev_aload_n (pc' := 84) dX7_holds_83 rfl rfl ?_
              refine ev_aload_n (pc' := 85) dX7_holds_84 rfl rfl ?_
              refine ev_getf (pc' := 88) fl_7_64 dX7_holds_85 rfl rfl rfl ?_
              refine ev_iload (pc' := 90) dX7_holds_88 rfl rfl ?_
              refine ev_iald (pc' := 91) dX7_holds_90 rfl rfl ?_ ?_
              · exact hvi
              rw [ei, g1]
              refine ev_aload_n (pc' := 92) dX7_holds_91 rfl rfl ?_
              refine ev_getf (pc' := 95) fl_7_67 dX7_holds_92 rfl rfl rfl ?_
              refine ev_iload (pc' := 97) dX7_holds_95 rfl rfl ?_
              refine ev_iald (pc' := 98) dX7_holds_97 rfl rfl ?_ ?_
              · exact hvi
              rw [ei, g2]
              refine ev_cVi2 (pc' := 101) cl_7_283 (callA) dX7_holds_98 rfl rfl rfl rfl ?_
              refine ev_istore (pc' := 103) (ls' := [_, _, _, _, _, _, _]) dX7_holds_101 rfl rfl rfl ?_
              refine ev_aload_n (pc' := 104) dX7_holds_103 rfl rfl ?_
              refine ev_aload_n (pc' := 105) dX7_holds_104 rfl rfl ?_
              refine ev_getf (pc' := 108) fl_7_67 dX7_holds_105 rfl rfl rfl ?_
              refine ev_iload (pc' := 110) dX7_holds_108 rfl rfl ?_
              refine ev_iald (pc' := 111) dX7_holds_110 rfl rfl ?_ ?_
              · exact hvi
              rw [ei, a17]
              refine ev_aload_n (pc' := 112) dX7_holds_111 rfl rfl ?_
              refine ev_getf (pc' := 115) fl_7_70 dX7_holds_112 rfl rfl rfl ?_
              refine ev_iload (pc' := 117) dX7_holds_115 rfl rfl ?_
              refine ev_iald (pc' := 118) dX7_holds_117 rfl rfl ?_ ?_
              · exact hvi
              rw [ei, a18]
              refine ev_cVi2 (pc' := 121) cl_7_283 (callB) dX7_holds_118 rfl rfl rfl rfl ?_
              refine ev_istore (pc' := 123) (ls' := [_, _, _, _, _, _, _]) dX7_holds_121 rfl rfl rfl ?_
              refine ev_aload_n (pc' := 124) dX7_holds_123 rfl rfl ?_
              refine ev_getf (pc' := 127) fl_7_61 dX7_holds_124 rfl rfl rfl ?_
              refine ev_iload (pc' := 129) dX7_holds_127 rfl rfl ?_
              refine ev_iald (pc' := 130) dX7_holds_129 rfl rfl ?_ ?_
              · exact hvi
              rw [ei, b15]
              refine ev_if_ne (tgt := 148) (pc' := 133) dX7_holds_130 (by decide) rfl (fun h_130 => ?_) (fun h_130 => ?_)
              · refine ev_aload_n (pc' := 149) dX7_holds_148 rfl rfl ?_
                refine ev_getf (pc' := 152) fl_7_61 dX7_holds_149 rfl rfl rfl ?_
                refine ev_iload (pc' := 154) dX7_holds_152 rfl rfl ?_
                refine ev_iald (pc' := 155) dX7_holds_154 rfl rfl ?_ ?_
                · exact hvi
                rw [ei, b15]
                refine ev_iconst (pc' := 156) (v := 1) dX7_holds_155 rfl (by decide) ?_
                refine ev_icmp_ne (tgt := 174) (pc' := 159) dX7_holds_156 (by decide) rfl (fun h_156 => ?_) (fun h_156 => ?_)
                · refine ev_aload_n (pc' := 175) dX7_holds_174 rfl rfl ?_
                  refine ev_getf (pc' := 178) fl_7_61 dX7_holds_175 rfl rfl rfl ?_
                  refine ev_iload (pc' := 180) dX7_holds_178 rfl rfl ?_
                  refine ev_iald (pc' := 181) dX7_holds_180 rfl rfl ?_ ?_
                  · exact hvi
                  rw [ei, b15]
                  refine ev_iconst (pc' := 182) (v := 2) dX7_holds_181 rfl (by decide) ?_
                  refine ev_icmp_ne (tgt := 200) (pc' := 185) dX7_holds_182 (by decide) rfl (fun h_182 => ?_) (fun h_182 => ?_)
                  · have e7 : h_cmp (σ 15 I) a b = decide (a ≤ b) := (if_neg h_130).trans ((if_neg h_156).trans (if_neg h_182))
                    refine ev_iload (pc' := 202) dX7_holds_200 rfl rfl ?_
                    refine ev_iload (pc' := 204) dX7_holds_202 rfl rfl ?_
                    refine ev_icmp_gt (tgt := 211) (pc' := 207) dX7_holds_204 (by decide) rfl (fun h_204 => ?_) (fun h_204 => ?_)
                    · rw [decide_eq_false (Int32.not_le.mpr h_204)] at e7
                      have fin := fun z4 z5 z6 => next false z4 z5 z6 e7 hT
                      refine ev_iconst (pc' := 212) (v := 0) dX7_holds_211 rfl (by decide) ?_
                      refine ev_istore_n (pc' := 213) (ls' := [_, _, _, _, _, _, _]) dX7_holds_212 rfl rfl rfl ?_
                      refine ev_iinc (pc' := 216) (ls' := [_, _, _, _, _, _, _]) dX7_holds_213 rfl rfl rfl rfl rfl ?_
                      refine ev_goto (tgt := 26) dX7_holds_216 (by decide) ?_
                      rw [nI_p1]
                      exact fin _ _ _
                    · rw [decide_eq_true (Int32.not_lt.mp h_204)] at e7
                      have fin := fun z4 z5 z6 => next true z4 z5 z6 e7 hT
                      refine ev_iconst (pc' := 208) (v := 1) dX7_holds_207 rfl (by decide) ?_
                      refine ev_goto (tgt := 212) dX7_holds_208 (by decide) ?_
                      refine ev_istore_n (pc' := 213) (ls' := [_, _, _, _, _, _, _]) dX7_holds_212 rfl rfl rfl ?_
                      refine ev_iinc (pc' := 216) (ls' := [_, _, _, _, _, _, _]) dX7_holds_213 rfl rfl rfl rfl rfl ?_
                      refine ev_goto (tgt := 26) dX7_holds_216 (by decide) ?_
                      rw [nI_p1]
                      exact fin _ _ _
                  · have e7 : h_cmp (σ 15 I) a b = decide (a < b) := (if_neg h_130).trans ((if_neg h_156).trans (if_pos h_182))
                    refine ev_iload (pc' := 187) dX7_holds_185 rfl rfl ?_
                    refine ev_iload (pc' := 189) dX7_holds_187 rfl rfl ?_
                    refine ev_icmp_ge (tgt := 196) (pc' := 192) dX7_holds_189 (by decide) rfl (fun h_189 => ?_) (fun h_189 => ?_)
                    · rw [decide_eq_false (Int32.not_lt.mpr h_189)] at e7
                      have fin := fun z4 z5 z6 => next false z4 z5 z6 e7 hT
                      refine ev_iconst (pc' := 197) (v := 0) dX7_holds_196 rfl (by decide) ?_
                      refine ev_goto (tgt := 212) dX7_holds_197 (by decide) ?_
                      refine ev_istore_n (pc' := 213) (ls' := [_, _, _, _, _, _, _]) dX7_holds_212 rfl rfl rfl ?_
                      refine ev_iinc (pc' := 216) (ls' := [_, _, _, _, _, _, _]) dX7_holds_213 rfl rfl rfl rfl rfl ?_
                      refine ev_goto (tgt := 26) dX7_holds_216 (by decide) ?_
                      rw [nI_p1]
                      exact fin _ _ _
                    · rw [decide_eq_true (Int32.not_le.mp h_189)] at e7
                      have fin := fun z4 z5 z6 => next true z4 z5 z6 e7 hT
                      refine ev_iconst (pc' := 193) (v := 1) dX7_holds_192 rfl (by decide) ?_
                      refine ev_goto (tgt := 212) dX7_holds_193 (by decide) ?_
                      refine ev_istore_n (pc' := 213) (ls' := [_, _, _, _, _, _, _]) dX7_holds_212 rfl rfl rfl ?_
                      refine ev_iinc (pc' := 216) (ls' := [_, _, _, _, _, _, _]) dX7_holds_213 rfl rfl rfl rfl rfl ?_
                      refine ev_goto (tgt := 26) dX7_holds_216 (by decide) ?_
                      rw [nI_p1]
                      exact fin _ _ _
                · have e7 : h_cmp (σ 15 I) a b = decide (¬ a = b) := (if_neg h_130).trans (if_pos h_156)
                  refine ev_iload (pc' := 161) dX7_holds_159 rfl rfl ?_
                  refine ev_iload (pc' := 163) dX7_holds_161 rfl rfl ?_
                  refine ev_icmp_eq (tgt := 170) (pc' := 166) dX7_holds_163 (by decide) rfl (fun h_163 => ?_) (fun h_163 => ?_)
                  · rw [decide_eq_false (fun q => q h_163)] at e7
                    have fin := fun z4 z5 z6 => next false z4 z5 z6 e7 hT
                    refine ev_iconst (pc' := 171) (v := 0) dX7_holds_170 rfl (by decide) ?_
                    refine ev_goto (tgt := 212) dX7_holds_171 (by decide) ?_
                    refine ev_istore_n (pc' := 213) (ls' := [_, _, _, _, _, _, _]) dX7_holds_212 rfl rfl rfl ?_
                    refine ev_iinc (pc' := 216) (ls' := [_, _, _, _, _, _, _]) dX7_holds_213 rfl rfl rfl rfl rfl ?_
                    refine ev_goto (tgt := 26) dX7_holds_216 (by decide) ?_
                    rw [nI_p1]
                    exact fin _ _ _
                  · rw [decide_eq_true h_163] at e7
                    have fin := fun z4 z5 z6 => next true z4 z5 z6 e7 hT
                    refine ev_iconst (pc' := 167) (v := 1) dX7_holds_166 rfl (by decide) ?_
                    refine ev_goto (tgt := 212) dX7_holds_167 (by decide) ?_
                    refine ev_istore_n (pc' := 213) (ls' := [_, _, _, _, _, _, _]) dX7_holds_212 rfl rfl rfl ?_
                    refine ev_iinc (pc' := 216) (ls' := [_, _, _, _, _, _, _]) dX7_holds_213 rfl rfl rfl rfl rfl ?_
                    refine ev_goto (tgt := 26) dX7_holds_216 (by decide) ?_
                    rw [nI_p1]
                    exact fin _ _ _
              · have e7 : h_cmp (σ 15 I) a b = decide (a = b) := if_pos h_130
                refine ev_iload (pc' := 135) dX7_holds_133 rfl rfl ?_
                refine ev_iload (pc' := 137) dX7_holds_135 rfl rfl ?_
                refine ev_icmp_ne (tgt := 144) (pc' := 140) dX7_holds_137 (by decide) rfl (fun h_137 => ?_) (fun h_137 => ?_)
                · rw [decide_eq_false h_137] at e7
                  have fin := fun z4 z5 z6 => next false z4 z5 z6 e7 hT
                  refine ev_iconst (pc' := 145) (v := 0) dX7_holds_144 rfl (by decide) ?_
                  refine ev_goto (tgt := 212) dX7_holds_145 (by decide) ?_
                  refine ev_istore_n (pc' := 213) (ls' := [_, _, _, _, _, _, _]) dX7_holds_212 rfl rfl rfl ?_
                  refine ev_iinc (pc' := 216) (ls' := [_, _, _, _, _, _, _]) dX7_holds_213 rfl rfl rfl rfl rfl ?_
                  refine ev_goto (tgt := 26) dX7_holds_216 (by decide) ?_
                  rw [nI_p1]
                  exact fin _ _ _
                · rw [decide_eq_true h_137] at e7
                  have fin := fun z4 z5 z6 => next true z4 z5 z6 e7 hT
                  refine ev_iconst (pc' := 141) (v := 1) dX7_holds_140 rfl (by decide) ?_
                  refine ev_goto (tgt := 212) dX7_holds_141 (by decide) ?_
                  refine ev_istore_n (pc' := 213) (ls' := [_, _, _, _, _, _, _]) dX7_holds_212 rfl rfl rfl ?_
                  refine ev_iinc (pc' := 216) (ls' := [_, _, _, _, _, _, _]) dX7_holds_213 rfl rfl rfl rfl rfl ?_
                  refine ev_goto (tgt := 26) dX7_holds_216 (by decide) ?_
                  rw [nI_p1]
                  exact fin _ _ _
            · first | exact absurd h_77 (by decide) | exact absurd (by decide) h_77 --
        · rw [bI_0, Bool.not_eq_false] at h_59
          subst h_59
          rw [if_pos ⟨h_55, rfl⟩] at hT
          refine ev_iconst (pc' := 63) (v := 1) dX7_holds_62 rfl (by decide) ?_
          refine ev_zreturn rfl rfl dX7_holds_63 ?_
          rw [hT]
          exact ⟨rfl, rfl⟩
def h_okRule (σ : RS) (l r : Nat) : Prop := ∃ A Z : Nat, σ 12 r = nI A ∧ σ 13 r = nI Z ∧ A ≤ Z ∧ Z ≤ 200 ∧ ∀ k, A ≤ k → k < Z → h_okRel σ (200 * l + k)
theorem h_okRule_same {a b : RS} (h : lsame a b) {l r : Nat} (g : h_okRule a l r) : h_okRule b l r := by
  obtain ⟨A, Z, g1, g2, g3, g4, g5⟩ := g
  exact ⟨A, Z, by rw [h.1 12 (by omega) (by omega)]; exact g1, by rw [h.1 13 (by omega) (by omega)]; exact g2, g3, g4, fun k h1 h2 => h_okRel_same h (g5 k h1 h2)⟩
theorem m_holds {d : Nat} (τ : TS) (σ : RS) (l r : Nat) (hl : l ≤ 1) (hr : r < 32) (h18 : σ 0 18 = nI l) (h : h_okRule σ l r) : Ok (d + 1) M7_holds [.ref 0, .int (nI r)] (WM σ τ) (rt (some (.int (bI (h_holds l σ r).1))) (WM (h_holds l σ r).2 τ)) := by
  have er : (nI r).toNatClampNeg = r := nI_clamp (by omega)
  have hvr : vp_in (nI r) 32 := vp_in_nI (by omega) (by omega)
  obtain ⟨A, Z, g1, g2, g3, g4, g5⟩ := h
  obtain ⟨T, hT⟩ : ∃ T, T = h_holds l σ r := ⟨_, rfl⟩
  rw [← hT]
  unfold h_holds at hT
  refine Ok.of (ls := [some _, some _, none, none, none, none, none]) (by decide +kernel) (Nat.le_of_ble_eq_true rfl) rfl ?_
  refine ev_aload_n (pc' := 1) dX7_holds_0 rfl rfl ?_
  refine ev_getf (pc' := 4) fl_7_52 dX7_holds_1 rfl rfl rfl ?_
  refine ev_iload_n (pc' := 5) dX7_holds_4 rfl rfl ?_
  refine ev_iald (pc' := 6) dX7_holds_5 rfl rfl ?_ ?_
  · exact hvr
  rw [er]
  refine ev_aload_n (pc' := 7) dX7_holds_6 rfl rfl ?_
  refine ev_getf (pc' := 10) fl_7_55 dX7_holds_7 rfl rfl rfl ?_
  refine ev_iload_n (pc' := 11) dX7_holds_10 rfl rfl ?_
  refine ev_iald (pc' := 12) dX7_holds_11 rfl rfl ?_ ?_
  · exact hvr
  rw [er]
  refine ev_icmp_ne (tgt := 17) (pc' := 15) dX7_holds_12 (by decide) rfl (fun h_12 => ?_) (fun h_12 => ?_)
  · rw [if_neg h_12] at hT
    refine ev_iconst (pc' := 18) (v := 0) dX7_holds_17 rfl (by decide) ?_
    refine ev_istore_n (pc' := 19) (ls' := [_, _, _, _, _, _, _]) dX7_holds_18 rfl rfl rfl ?_
    refine ev_aload_n (pc' := 20) dX7_holds_19 rfl rfl ?_
    refine ev_getf (pc' := 23) fl_7_52 dX7_holds_20 rfl rfl rfl ?_
    refine ev_iload_n (pc' := 24) dX7_holds_23 rfl rfl ?_
    refine ev_iald (pc' := 25) dX7_holds_24 rfl rfl ?_ ?_
    · exact hvr
    rw [er, g1]
    refine ev_istore_n (pc' := 26) (ls' := [_, _, _, _, _, _, _]) dX7_holds_25 rfl rfl rfl ?_
    rw [g1, g2, nt_nI (by omega), nt_nI (by omega)] at hT
    rw [hT]
    exact m_holds_loop τ σ l r A Z hl hr g4 h18 g2 g5 (Z - A) A false σ _ _ _ (by omega) (Nat.le_refl _) (lsame.refl σ)
  · rw [if_pos h_12] at hT
    refine ev_iconst (pc' := 16) (v := 1) dX7_holds_15 rfl (by decide) ?_
    refine ev_zreturn rfl rfl dX7_holds_16 ?_
    rw [hT]
    exact ⟨rfl, rfl⟩
/-- the law that is in force: m rules on the side l -/
def h_okLaw (σ : RS) (l m : Nat) : Prop := σ 0 18 = nI l ∧ l ≤ 1 ∧ σ 8 l = nI m ∧ m ≤ 16 ∧ ∀ r, r < m → h_okRule σ l (16 * l + r) ∧ ∃ F T : Nat, σ 10 (16 * l + r) = nI F ∧ σ 11 (16 * l + r) = nI T ∧ F ≤ T ∧ T ≤ 1000 ∧ v_wf σ (T - F) F 0
theorem h_okLaw_same {a b : RS} (h : lsame a b) {l m : Nat} (g : h_okLaw a l m) : h_okLaw b l m := by
  obtain ⟨g1, g2, g3, g4, g5⟩ := g
  refine ⟨h.2.trans g1, g2, by rw [h.1 8 (by omega) (by omega)]; exact g3, g4, fun r hr => ?_⟩
  obtain ⟨q1, F, T, q2, q3, q4, q5, q6⟩ := g5 r hr
  exact ⟨h_okRule_same h q1, F, T, by rw [h.1 10 (by omega) (by omega)]; exact q2, by rw [h.1 11 (by omega) (by omega)]; exact q3, q4, q5, v_wf_same h _ _ _ q6⟩
def u_of (l : Nat) (s : Int32) : Nat → Nat → RS → Int32 × RS
  | 0, _, σ => (-1, σ)
  | c + 1, r, σ => if σ 9 (16 * l + r) = s then (if (h_holds l σ (16 * l + r)).1 = true then (nI r, (h_holds l σ (16 * l + r)).2) else u_of l s c (r + 1) (h_holds l σ (16 * l + r)).2) else u_of l s c (r + 1) σ
theorem u_of_same (l : Nat) (s : Int32) : ∀ (c r : Nat) (σ : RS), lsame σ (u_of l s c r σ).2 := by
  intro c
  induction c with
  | zero => intro r σ; exact lsame.refl σ
  | succ c ih =>
    intro r σ
    rw [u_of]
    split
    · split
      · exact h_holds_same _ _ _
      · exact (h_holds_same _ _ _).trans (ih _ _)
    · exact ih _ _
theorem m_ruleOf_loop {d : Nat} (τ : TS) (s : Int32) (l m : Nat) : ∀ (c r : Nat) (σ : RS), r + c = m → h_okLaw σ l m → Ev (d + 2) M7_ruleOf (rt (some (.int (u_of l s c r σ).1)) (WM (u_of l s c r σ).2 τ)) 2 [some (.ref 0), some (.int s), some (.int (nI r))] [] (WM σ τ) := by
  intro c
  induction c with
  | zero =>
    intro r σ hrc h
    have hrc : r = m := by omega
    subst hrc
    obtain ⟨g1, g2, g3, g4, g5⟩ := h
    have el : (nI l).toNatClampNeg = l := nI_clamp (by omega)
    refine ev_iload_n (pc' := 3) dX7_ruleOf_2 rfl rfl ?_
    refine ev_aload_n (pc' := 4) dX7_ruleOf_3 rfl rfl ?_
    refine ev_getf (pc' := 7) fl_7_40 dX7_ruleOf_4 rfl rfl rfl ?_
    refine ev_aload_n (pc' := 8) dX7_ruleOf_7 rfl rfl ?_
    refine ev_getf (pc' := 11) fl_7_230 dX7_ruleOf_8 rfl rfl rfl ?_
    refine ev_iald (pc' := 12) dX7_ruleOf_11 rfl rfl ?_ ?_
    · rw [g1]; exact vp_in_nI (by omega) (by omega)
    rw [g1, el, g3]
    refine ev_icmp_ge (tgt := 57) (pc' := 15) dX7_ruleOf_12 (by decide) rfl (fun h_12 => ?_) (fun h_12 => ?_)
    · refine ev_iconst (pc' := 58) (v := -1) dX7_ruleOf_57 rfl (by decide) ?_
      refine ev_ireturn rfl dX7_ruleOf_58 ?_
      exact ⟨rfl, rfl⟩
    · exact absurd (nI_le (Nat.le_refl _) (by omega)) h_12 --
  | succ c ih =>
    intro r σ hrc h
    obtain ⟨g1, g2, g3, g4, g5⟩ := h
    obtain ⟨q1, -⟩ := g5 r (by omega)
    have el : (nI l).toNatClampNeg = l := nI_clamp (by omega)
    obtain ⟨I, hI⟩ : ∃ I, I = 16 * l + r := ⟨_, rfl⟩
    have eI : 16 * nI l + nI r = nI I := by rw [show (16 : Int32) * nI l = nI (16 * l) from nI_mul 16 l, nI_add, hI]
    have ei : (nI I).toNatClampNeg = I := nI_clamp (by omega)
    obtain ⟨T, hT⟩ : ∃ T, T = u_of l s (c + 1) r σ := ⟨_, rfl⟩
    rw [← hT]
    rw [u_of, ← hI] at hT
    rw [← hI] at q1
    have hs := h_holds_same l σ I
    have hc := m_holds (d := d) τ σ l I g2 (by omega) g1 q1
    generalize h_holds l σ I = H at *
    have ih' := ih (r + 1) H.2 (by omega) (h_okLaw_same hs ⟨g1, g2, g3, g4, g5⟩)
    have ih2 := ih (r + 1) σ (by omega) ⟨g1, g2, g3, g4, g5⟩
    refine ev_iload_n (pc' := 3) dX7_ruleOf_2 rfl rfl ?_
    refine ev_aload_n (pc' := 4) dX7_ruleOf_3 rfl rfl ?_
    refine ev_getf (pc' := 7) fl_7_40 dX7_ruleOf_4 rfl rfl rfl ?_
    refine ev_aload_n (pc' := 8) dX7_ruleOf_7 rfl rfl ?_
    refine ev_getf (pc' := 11) fl_7_230 dX7_ruleOf_8 rfl rfl rfl ?_
    refine ev_iald (pc' := 12) dX7_ruleOf_11 rfl rfl ?_ ?_
    · rw [g1]; exact vp_in_nI (by omega) (by omega)
    rw [g1, el, g3]
    refine ev_icmp_ge (tgt := 57) (pc' := 15) dX7_ruleOf_12 (by decide) rfl (fun h_12 => ?_) (fun h_12 => ?_)
    · exact absurd h_12 (nI_ge (by omega) (by omega)) --
    · refine ev_aload_n (pc' := 16) dX7_ruleOf_15 rfl rfl ?_
      refine ev_getf (pc' := 19) fl_7_43 dX7_ruleOf_16 rfl rfl rfl ?_
      refine ev_bipush (pc' := 21) (v := 16) dX7_ruleOf_19 rfl (by decide) ?_
      refine ev_aload_n (pc' := 22) dX7_ruleOf_21 rfl rfl ?_
      refine ev_getf (pc' := 25) fl_7_230 dX7_ruleOf_22 rfl rfl rfl ?_
      refine ev_imul (pc' := 26) dX7_ruleOf_25 rfl ?_
      refine ev_iload_n (pc' := 27) dX7_ruleOf_26 rfl rfl ?_
      refine ev_iadd (pc' := 28) dX7_ruleOf_27 rfl ?_
      rw [g1, eI]
      refine ev_iald (pc' := 29) dX7_ruleOf_28 rfl rfl ?_ ?_
      · exact vp_in_nI (by omega) (by omega)
      rw [ei]
      refine ev_iload_n (pc' := 30) dX7_ruleOf_29 rfl rfl ?_
      refine ev_icmp_ne (tgt := 51) (pc' := 33) dX7_ruleOf_30 (by decide) rfl (fun h_30 => ?_) (fun h_30 => ?_)
      · rw [if_neg h_30] at hT
        have fin := ih2
        refine ev_iinc (pc' := 54) (ls' := [_, _, _]) dX7_ruleOf_51 rfl rfl rfl rfl rfl ?_
        refine ev_goto (tgt := 2) dX7_ruleOf_54 (by decide) ?_
        rw [nI_p1, hT]
        exact fin
      · rw [if_pos h_30] at hT
        refine ev_aload_n (pc' := 34) dX7_ruleOf_33 rfl rfl ?_
        refine ev_bipush (pc' := 36) (v := 16) dX7_ruleOf_34 rfl (by decide) ?_
        refine ev_aload_n (pc' := 37) dX7_ruleOf_36 rfl rfl ?_
        refine ev_getf (pc' := 40) fl_7_230 dX7_ruleOf_37 rfl rfl rfl ?_
        refine ev_imul (pc' := 41) dX7_ruleOf_40 rfl ?_
        refine ev_iload_n (pc' := 42) dX7_ruleOf_41 rfl rfl ?_
        refine ev_iadd (pc' := 43) dX7_ruleOf_42 rfl ?_
        rw [g1, eI]
        refine ev_cVi1 (pc' := 46) cl_7_287 (hc) dX7_ruleOf_43 rfl rfl rfl rfl ?_
        refine ev_if_eq (tgt := 51) (pc' := 49) dX7_ruleOf_46 (by decide) rfl (fun h_46 => ?_) (fun h_46 => ?_)
        · rw [bI_0] at h_46
          rw [if_neg (by rw [h_46]; decide)] at hT
          have fin := ih'
          refine ev_iinc (pc' := 54) (ls' := [_, _, _]) dX7_ruleOf_51 rfl rfl rfl rfl rfl ?_
          refine ev_goto (tgt := 2) dX7_ruleOf_54 (by decide) ?_
          rw [nI_p1, hT]
          exact fin
        · rw [bI_0, Bool.not_eq_false] at h_46
          rw [if_pos h_46] at hT
          refine ev_iload_n (pc' := 50) dX7_ruleOf_49 rfl rfl ?_
          refine ev_ireturn rfl dX7_ruleOf_50 ?_
          rw [hT]
          exact ⟨rfl, rfl⟩
theorem m_ruleOf {d : Nat} (τ : TS) (s : Int32) (l m : Nat) (σ : RS) (h : h_okLaw σ l m) : Ok (d + 2) M7_ruleOf [.ref 0, .int s] (WM σ τ) (rt (some (.int (u_of l s m 0 σ).1)) (WM (u_of l s m 0 σ).2 τ)) := by
  refine Ok.of (ls := [some _, some _, none]) (by decide +kernel) (Nat.le_of_ble_eq_true rfl) rfl ?_
  refine ev_iconst (pc' := 1) (v := 0) dX7_ruleOf_0 rfl (by decide) ?_
  refine ev_istore_n (pc' := 2) (ls' := [_, _, _]) dX7_ruleOf_1 rfl rfl rfl ?_
  exact m_ruleOf_loop τ s l m m 0 σ (by omega) h
