/-! The model reads a rule: its method. -/
def msR (b : Nat) (done : List YL) (σ : RS) : Prop := σ 8 b = nI done.length ∧ σ 14 b = nI (mnr done) ∧ mc b σ (mq done) ∧ mll b σ 0 0 0 done
def trG (n : Nat) (t : Nat → Int32) (b f : Nat) (R : Int32 × Nat × YS) (σ : RS) : Prop := ∃ g tk sd gr done, g < f ∧ gS n t g R ((0, sd, tk, gr), ([], []), (done, [], []), (true, [], 0)) tk σ ∧ msR b done σ ∧ (mq done).length ≤ tk
def trQ (n : Nat) (t : Nat → Int32) (b f : Nat) (R : Int32 × Nat × YS) (σ0 : RS) (τ : TS) (v : Option Value) (w : MW) : Prop := v = none ∧ ∃ σ, w = WM σ τ ∧ pk b σ0 σ ∧ (flt R σ ∨ trG n t b f R σ)
theorem xk_must {b : Nat} {σ : RS} {i : Nat} {k : Int32} : xk b σ (m_must' σ i k) := by
  unfold m_must'
  split
  · exact xk_next
  · exact xk_fail
theorem m_must_no {σ : RS} {i : Nat} {k : Int32} (h : ¬ σ 0 13 = 0 ∧ 0 < σ 0 13) : m_must' σ i k = σ := by
  unfold m_must'
  rw [m_is_no h.1, if_neg (by decide), m_fail_no h.2]
section
variable {d n : Nat} {t : Nat → Int32} {b f : Nat} {R : Int32 × Nat × YS} {σ0 σ : RS} {τ : TS}
theorem m_tr_flt233 {x1 : Int32} {z2 z3 : Option Value} (h : flt R σ) (hx : pk b σ0 σ) : Ev (d + 6) M7_tellRule (trQ n t b f R σ0 τ) 233 [some (.ref 0), some (.int x1), z2, z3] [] (WM σ τ) := by
  have hn := flt_ne h
  obtain ⟨i, hi, h11⟩ := h.2.2.2
  have hm : m_must' σ i 4 = σ := m_must_no hn
  refine ev_aload_n (pc' := 234) dX7_tellRule_233 rfl rfl ?_
  refine ev_iconst (pc' := 235) (v := 4) dX7_tellRule_234 rfl (by decide) ?_
  refine ev_cVv1 (pc' := 238) cl_7_245 (m_must σ τ i (by omega) h11 4) dX7_tellRule_235 rfl rfl rfl rfl ?_
  rw [hm]
  refine ev_aload_n (pc' := 239) dX7_tellRule_238 rfl rfl ?_
  refine ev_getf (pc' := 242) fl_7_200 dX7_tellRule_239 rfl rfl rfl ?_
  refine ev_if_le (tgt := 246) (pc' := 245) dX7_tellRule_242 (by decide) rfl (fun h_242 => ?_) (fun h_242 => ?_)
  · exact absurd hn.2 (Int32.not_lt.mpr h_242) --
  · refine ev_return rfl dX7_tellRule_245 ?_
    exact ⟨rfl, σ, rfl, hx, Or.inl h⟩
theorem m_tr_flt180 {x1 x2 : Int32} {z3 : Option Value} (h : flt R σ) (hx : pk b σ0 σ) : Ev (d + 6) M7_tellRule (trQ n t b f R σ0 τ) 180 [some (.ref 0), some (.int x1), some (.int x2), z3] [] (WM σ τ) := by
  have hn := flt_ne h
  refine ev_iload_n (pc' := 181) dX7_tellRule_180 rfl rfl ?_
  refine ev_if_eq (tgt := 233) (pc' := 184) dX7_tellRule_181 (by decide) rfl (fun h_181 => ?_) (fun h_181 => ?_)
  · exact m_tr_flt233 h hx
  · refine ev_aload_n (pc' := 185) dX7_tellRule_184 rfl rfl ?_
    refine ev_getf (pc' := 188) fl_7_200 dX7_tellRule_185 rfl rfl rfl ?_
    refine ev_if_ne (tgt := 233) (pc' := 191) dX7_tellRule_188 (by decide) rfl (fun h_188 => ?_) (fun h_188 => ?_)
    · exact m_tr_flt233 h hx
    · exact absurd h_188 hn.1 --
theorem m_tr_flt196 {x1 x2 : Int32} {z3 : Option Value} (h : flt R σ) (hx : pk b σ0 σ) : Ev (d + 6) M7_tellRule (trQ n t b f R σ0 τ) 196 [some (.ref 0), some (.int x1), some (.int x2), z3] [] (WM σ τ) := by
  have hn := flt_ne h
  obtain ⟨i, hi, h11⟩ := h.2.2.2
  have e23 : m_is' σ i 23 = false := m_is_no hn.1
  have e24 : m_is' σ i 24 = false := m_is_no hn.1
  refine ev_aload_n (pc' := 197) dX7_tellRule_196 rfl rfl ?_
  refine ev_bipush (pc' := 199) (v := 23) dX7_tellRule_197 rfl (by decide) ?_
  refine ev_cVi1 (pc' := 202) cl_7_218 (m_is σ τ i (by omega) h11 23) dX7_tellRule_199 rfl rfl rfl rfl ?_
  refine ev_istore_n (pc' := 203) (ls' := [_, _, _, _]) dX7_tellRule_202 rfl rfl rfl ?_
  refine ev_iload_n (pc' := 204) dX7_tellRule_203 rfl rfl ?_
  refine ev_if_ne (tgt := 216) (pc' := 207) dX7_tellRule_204 (by decide) rfl (fun h_204 => ?_) (fun h_204 => ?_)
  · rw [e23] at h_204
    exact absurd rfl h_204 --
  · refine ev_aload_n (pc' := 208) dX7_tellRule_207 rfl rfl ?_
    refine ev_bipush (pc' := 210) (v := 24) dX7_tellRule_208 rfl (by decide) ?_
    refine ev_cVi1 (pc' := 213) cl_7_218 (m_is σ τ i (by omega) h11 24) dX7_tellRule_210 rfl rfl rfl rfl ?_
    refine ev_if_eq (tgt := 220) (pc' := 216) dX7_tellRule_213 (by decide) rfl (fun h_213 => ?_) (fun h_213 => ?_)
    · refine ev_iconst (pc' := 221) (v := 0) dX7_tellRule_220 rfl (by decide) ?_
      refine ev_istore_n (pc' := 222) (ls' := [_, _, _, _]) dX7_tellRule_221 rfl rfl rfl ?_
      refine ev_iload_n (pc' := 223) dX7_tellRule_222 rfl rfl ?_
      refine ev_if_eq (tgt := 180) (pc' := 226) dX7_tellRule_223 (by decide) rfl (fun h_223 => ?_) (fun h_223 => ?_)
      · exact m_tr_flt180 h hx
      · first | exact absurd h_223 (by decide) | exact absurd (by decide) h_223 --
    · rw [e24] at h_213
      exact absurd rfl h_213 --
theorem m_tr_flt144 {r : Nat} {z2 z3 : Option Value} (h : flt R σ) (hx : pk b σ0 σ) (hr : r < 32) : Ev (d + 6) M7_tellRule (trQ n t b f R σ0 τ) 144 [some (.ref 0), some (.int (nI r)), z2, z3] [] (WM σ τ) := by
  have hn := flt_ne h
  obtain ⟨i, hi, h11⟩ := h.2.2.2
  have e21 : m_is' σ i 21 = false := m_is_no hn.1
  have hm : m_must' σ i 21 = σ := m_must_no hn
  refine ev_aload_n (pc' := 145) dX7_tellRule_144 rfl rfl ?_
  refine ev_getf (pc' := 148) fl_7_43 dX7_tellRule_145 rfl rfl rfl ?_
  refine ev_iload_n (pc' := 149) dX7_tellRule_148 rfl rfl ?_
  refine ev_iald (pc' := 150) dX7_tellRule_149 rfl rfl ?_ ?_
  · exact vp_in_nI (by omega) (by omega)
  refine ev_if_eq (tgt := 162) (pc' := 153) dX7_tellRule_150 (by decide) rfl (fun h_150 => ?_) (fun h_150 => ?_)
  · refine ev_iconst (pc' := 163) (v := 1) dX7_tellRule_162 rfl (by decide) ?_
    refine ev_goto (tgt := 167) dX7_tellRule_163 (by decide) ?_
    refine ev_istore_n (pc' := 168) (ls' := [_, _, _, _]) dX7_tellRule_167 rfl rfl rfl ?_
    refine ev_iload_n (pc' := 169) dX7_tellRule_168 rfl rfl ?_
    refine ev_if_eq (tgt := 178) (pc' := 172) dX7_tellRule_169 (by decide) rfl (fun h_169 => ?_) (fun h_169 => ?_)
    · first | exact absurd h_169 (by decide) | exact absurd (by decide) h_169 --
    · refine ev_aload_n (pc' := 173) dX7_tellRule_172 rfl rfl ?_
      refine ev_bipush (pc' := 175) (v := 21) dX7_tellRule_173 rfl (by decide) ?_
      refine ev_cVv1 (pc' := 178) cl_7_245 (m_must σ τ i (by omega) h11 21) dX7_tellRule_175 rfl rfl rfl rfl ?_
      try rw [hm]
      refine ev_iconst (pc' := 179) (v := 1) dX7_tellRule_178 rfl (by decide) ?_
      refine ev_istore_n (pc' := 180) (ls' := [_, _, _, _]) dX7_tellRule_179 rfl rfl rfl ?_
      exact m_tr_flt180 h hx
  · refine ev_aload_n (pc' := 154) dX7_tellRule_153 rfl rfl ?_
    refine ev_bipush (pc' := 156) (v := 21) dX7_tellRule_154 rfl (by decide) ?_
    refine ev_cVi1 (pc' := 159) cl_7_218 (m_is σ τ i (by omega) h11 21) dX7_tellRule_156 rfl rfl rfl rfl ?_
    refine ev_if_eq (tgt := 166) (pc' := 162) dX7_tellRule_159 (by decide) rfl (fun h_159 => ?_) (fun h_159 => ?_)
    · refine ev_iconst (pc' := 167) (v := 0) dX7_tellRule_166 rfl (by decide) ?_
      refine ev_istore_n (pc' := 168) (ls' := [_, _, _, _]) dX7_tellRule_167 rfl rfl rfl ?_
      refine ev_iload_n (pc' := 169) dX7_tellRule_168 rfl rfl ?_
      refine ev_if_eq (tgt := 178) (pc' := 172) dX7_tellRule_169 (by decide) rfl (fun h_169 => ?_) (fun h_169 => ?_)
      · try rw [hm]
        refine ev_iconst (pc' := 179) (v := 1) dX7_tellRule_178 rfl (by decide) ?_
        refine ev_istore_n (pc' := 180) (ls' := [_, _, _, _]) dX7_tellRule_179 rfl rfl rfl ?_
        exact m_tr_flt180 h hx
      · first | exact absurd h_169 (by decide) | exact absurd (by decide) h_169 --
    · rw [e21] at h_159
      exact absurd rfl h_159 --
theorem m_tr_flt119 {r : Nat} {z2 z3 : Option Value} (hb : b ≤ 1) (h : flt R σ) (hx : pk b σ0 σ) (h19 : σ 0 19 = nI b) (hr : r < 16) : Ev (d + 6) M7_tellRule (trQ n t b f R σ0 τ) 119 [some (.ref 0), some (.int (nI (16 * b + r))), z2, z3] [] (WM σ τ) := by
  have er : (nI (16 * b + r)).toNatClampNeg = 16 * b + r := nI_clamp (by omega)
  have vr : vp_in (nI (16 * b + r)) 32 := vp_in_nI (by omega) (by omega)
  have eb : (σ 0 19).toNatClampNeg = b := by rw [h19]; exact nI_clamp (by omega)
  have vb2 : vp_in (σ 0 19) 2 := by rw [h19]; exact vp_in_nI (by omega) (by omega)
  refine ev_aload_n (pc' := 120) dX7_tellRule_119 rfl rfl ?_
  refine ev_getf (pc' := 123) fl_7_49 dX7_tellRule_120 rfl rfl rfl ?_
  refine ev_iload_n (pc' := 124) dX7_tellRule_123 rfl rfl ?_
  refine ev_aload_n (pc' := 125) dX7_tellRule_124 rfl rfl ?_
  refine ev_getf (pc' := 128) fl_7_236 dX7_tellRule_125 rfl rfl rfl ?_
  refine ev_iast (pc' := 129) dX7_tellRule_128 rfl rfl ?_ (WM_a11 _ _ _) ?_
  · exact vr
  refine ev_aload_n (pc' := 130) dX7_tellRule_129 rfl rfl ?_
  refine ev_getf (pc' := 133) fl_7_52 dX7_tellRule_130 rfl rfl rfl ?_
  refine ev_iload_n (pc' := 134) dX7_tellRule_133 rfl rfl ?_
  refine ev_aload_n (pc' := 135) dX7_tellRule_134 rfl rfl ?_
  refine ev_getf (pc' := 138) fl_7_58 dX7_tellRule_135 rfl rfl rfl ?_
  refine ev_aload_n (pc' := 139) dX7_tellRule_138 rfl rfl ?_
  refine ev_getf (pc' := 142) fl_7_233 dX7_tellRule_139 rfl rfl rfl ?_
  refine ev_iald (pc' := 143) dX7_tellRule_142 rfl rfl ?_ ?_
  · exact vb2
  refine ev_iast (pc' := 144) dX7_tellRule_143 rfl rfl ?_ (WM_a12 _ _ _) ?_
  · exact vr
  rw [er]
  exact m_tr_flt144 (σ := s2 (s2 σ 11 (16 * b + r) _) 12 (16 * b + r) _) ⟨h.1, h.2.1, h.2.2.1, h.2.2.2⟩ ((hx.trans (pk_row16 _ hr (by omega) (by omega))).trans (pk_row16 _ hr (by omega) (by omega))) (by omega)
theorem m_tr_flt95 {r : Nat} {z2 z3 : Option Value} (hb : b ≤ 1) (h : flt R σ) (hx : pk b σ0 σ) (h19 : σ 0 19 = nI b) (hr : r < 16) : Ev (d + 6) M7_tellRule (trQ n t b f R σ0 τ) 95 [some (.ref 0), some (.int (nI (16 * b + r))), z2, z3] [] (WM σ τ) := by
  have er : (nI (16 * b + r)).toNatClampNeg = 16 * b + r := nI_clamp (by omega)
  have vr : vp_in (nI (16 * b + r)) 32 := vp_in_nI (by omega) (by omega)
  have hF : flt R (s2 σ 10 (16 * b + r) (σ 0 32)) := ⟨h.1, h.2.1, h.2.2.1, h.2.2.2⟩
  have cE := m_expr_flt (d := d + 1) (b := b) (τ := τ) hF
  have hx2 := hx.trans (pk_row16 (σ := σ) (c := 10) (σ 0 32) hr (by omega) (by omega))
  refine ev_aload_n (pc' := 96) dX7_tellRule_95 rfl rfl ?_
  refine ev_getf (pc' := 99) fl_7_46 dX7_tellRule_96 rfl rfl rfl ?_
  refine ev_iload_n (pc' := 100) dX7_tellRule_99 rfl rfl ?_
  refine ev_aload_n (pc' := 101) dX7_tellRule_100 rfl rfl ?_
  refine ev_getf (pc' := 104) fl_7_236 dX7_tellRule_101 rfl rfl rfl ?_
  refine ev_iast (pc' := 105) dX7_tellRule_104 rfl rfl ?_ (WM_a10 _ _ _) ?_
  · exact vr
  rw [er]
  refine ev_aload_n (pc' := 106) dX7_tellRule_105 rfl rfl ?_
  refine ev_getf (pc' := 109) fl_7_43 dX7_tellRule_106 rfl rfl rfl ?_
  refine ev_iload_n (pc' := 110) dX7_tellRule_109 rfl rfl ?_
  refine ev_iald (pc' := 111) dX7_tellRule_110 rfl rfl ?_ ?_
  · exact vr
  refine ev_iconst (pc' := 112) (v := 1) dX7_tellRule_111 rfl (by decide) ?_
  refine ev_icmp_ne (tgt := 119) (pc' := 115) dX7_tellRule_112 (by decide) rfl (fun h_112 => ?_) (fun h_112 => ?_)
  · first
      | exact m_tr_flt119 hb hF hx2 h19 hr
      | exact m_tr_flt119 hb h1 (hx2.trans hx1.1) ((hx1.1.2.1 19 (by omega) (by omega) (by omega) (by omega) (by omega) (by omega)).trans h19) hr
  · refine ev_aload_n (pc' := 116) dX7_tellRule_115 rfl rfl ?_
    refine ev_cVr0 (pc' := 119) cl_7_242 (cE) dX7_tellRule_116 rfl rfl rfl rfl ?_
    rintro v w1 hq -
    obtain ⟨rfl, σ1, rfl, hx1, h1⟩ := hq
    first
      | exact m_tr_flt119 hb hF hx2 h19 hr
      | exact m_tr_flt119 hb h1 (hx2.trans hx1.1) ((hx1.1.2.1 19 (by omega) (by omega) (by omega) (by omega) (by omega) (by omega)).trans h19) hr
end
