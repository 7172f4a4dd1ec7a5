/-! The model reads a rule: its beginning. -/
section
variable {d n : Nat} {t : Nat → Int32} {b f : Nat} {R : Int32 × Nat × YS} {σ0 : RS} {τ : TS}
/-- the rule's row ahead of its condition -/
def inE (b : Nat) (done : List YL) (gr : Bool) (E : List YC) (σ : RS) : Prop := (σ 8 b = nI done.length ∧ σ 14 b = nI (mnr done)) ∧ mc b σ (mq done ++ E) ∧ mll b σ 0 0 0 done ∧ σ 9 (16 * b + done.length) = bI gr ∧ σ 10 (16 * b + done.length) = nI (500 * b + (mq done).length)
theorem m_tr_119 {σ : RS} {g tk sd : Nat} {S : YS} {done : List YL} {gr : Bool} {E : List YC} {z2 z3 : Option Value} (hb : b ≤ 1) (hg : gS n t g R S tk σ) (hgf : g ≤ f) (hI : inE b done gr E σ) (hx : pk b σ0 σ) (h19 : σ 0 19 = nI b) (hl : (mq done ++ E).length ≤ tk) (hd : done.length < 16) (h0 : ¬ S.1.1 = 0) (hf1 : (tkn n t tk).2.1 = 1 → ym_fits S 1 = true) (hf7 : (tkn n t tk).2.1 = 7 → gr = true → ym_fits S 7 = true) (hfn : ¬ (tkn n t tk).2.1 = 1 → (¬ (tkn n t tk).2.1 = 7 ∨ gr = false) → ym_fits S (tkn n t tk).2.1 = false) (hst1 : ∀ v, ym_step 1 v S = ((2, 1, tk + 1, gr), ([], []), (done, E, []), (true, [], 0))) (hst7 : gr = true → ∀ v, ym_step 7 v S = ((0, sd, tk + 1, gr), ([], []), (done ++ [(gr, E, [])], [], []), (true, [], 0))) : Ev (d + 6) M7_tellRule (trQ n t b f R σ0 τ) 119 [some (.ref 0), some (.int (nI (16 * b + done.length))), z2, z3] [] (WM σ τ) := by
  have er : (nI (16 * b + done.length)).toNatClampNeg = 16 * b + done.length := nI_clamp (by omega)
  have vr : vp_in (nI (16 * b + done.length)) 32 := vp_in_nI (by omega) (by omega)
  have eb : (σ 0 19).toNatClampNeg = b := by rw [h19]; exact nI_clamp (by omega)
  have vb2 : vp_in (σ 0 19) 2 := by rw [h19]; exact vp_in_nI (by omega) (by omega)
  obtain ⟨⟨i8, i14⟩, imc, imll, i9, i10⟩ := hI
  have k144 : ∀ σ1, σ1 = s2 (s2 σ 11 (16 * b + done.length) (σ 0 32)) 12 (16 * b + done.length) (σ 14 b) → Ev (d + 6) M7_tellRule (trQ n t b f R σ0 τ) 144 [some (.ref 0), some (.int (nI (16 * b + done.length))), z2, z3] [] (WM σ1 τ) := by
    intro σ1 h1
    have hI1 : inR b done gr E [] σ1 := by
      rw [h1]
      refine ⟨⟨i8, i14⟩, by rw [show mq done ++ E ++ mq_rels [] = mq done ++ E from List.append_nil _]; exact mc_same imc rfl rfl rfl, mll_same (σ := σ) (fun c j c1 c2 c3 => ?_) (fun c j c1 c2 _ => ?_) imll, ⟨i9, i10, ?_, ?_⟩, trivial⟩
      · by_cases e12 : c = 12
        · subst e12; exact upd_ne _ _ (by omega)
        · rw [show (s2 (s2 σ 11 (16 * b + done.length) (σ 0 32)) 12 (16 * b + done.length) (σ 14 b)) c = (s2 σ 11 (16 * b + done.length) (σ 0 32)) c from s1_ne _ _ e12]
          by_cases e11 : c = 11
          · subst e11; exact upd_ne _ _ (by omega)
          · rw [show (s2 σ 11 (16 * b + done.length) (σ 0 32)) c = σ c from s1_ne _ _ e11]
      · rw [show (s2 (s2 σ 11 (16 * b + done.length) (σ 0 32)) 12 (16 * b + done.length) (σ 14 b)) c = (s2 σ 11 (16 * b + done.length) (σ 0 32)) c from s1_ne _ _ (by omega), show (s2 σ 11 (16 * b + done.length) (σ 0 32)) c = σ c from s1_ne _ _ (by omega)]
      · refine (upd_same _ _ _).trans ?_
        rw [imc.1]
        congr 1
        rw [List.length_append]
        omega
      · exact (upd_same _ _ _).trans i14
    have hx1 : pk b σ0 σ1 := by rw [h1]; exact (hx.trans (pk_row16 _ hd (by omega) (by omega))).trans (pk_row16 _ hd (by omega) (by omega))
    have h19' : σ1 0 19 = nI b := by rw [h1]; exact h19
    have gS1 : gS n t g R S tk σ1 := by rw [h1]; exact hg.same rfl rfl rfl rfl
    have s9 : σ1 9 (16 * b + done.length) = bI gr := by rw [h1]; exact i9
    clear h1 i8 i14 imc imll i9 i10
    have s11 := gS1.2.2.1.1
    have s13 := gS1.2.2.1.2.1
    have htk := gS1.2.1.2
    obtain ⟨⟨-, t1, -⟩, -⟩ := gS1.is
    have e21 : m_is' σ1 tk 21 = decide ((tkn n t tk).2.1 = 1) := by rw [m_is_ok s13]; exact decide_eq_decide.mpr t1
    have hl2 : (mq done ++ E ++ mq_rels []).length ≤ tk := by rw [show mq done ++ E ++ mq_rels [] = mq done ++ E from List.append_nil _]; exact hl
    have kI : ((tkn n t tk).2.1 = 1 ∨ gr = false) → Ev (d + 6) M7_tellRule (trQ n t b f R σ0 τ) 180 [some (.ref 0), some (.int (nI (16 * b + done.length))), some (.int 1), some (.int 1)] [] (WM (m_must' σ1 tk 21) τ) := by
      intro hc
      rcases gS1.must (K := 21) (k0 := 1) t1 hf1 (fun z => hfn z (Or.inr (hc.resolve_left z))) (by decide) (by decide) h0 with hF | ⟨-, hM, g', v, hg', hgS⟩
      · exact m_tr_flt180 hF (hx1.trans xk_must.1)
      · rw [hM]
        rw [hst1 v] at hgS
        exact m_tr_180 hb g' (by omega) (tk + 1) gr done E [] true [] 0 _ hgS (inR_xk hI1 rfl (fun c c1 c2 => s1_ne _ _ (by omega))) (hx1.trans (xk_slot _ (by omega)).1) h19' (by omega) hd
    have kN : gr = true → ¬ (tkn n t tk).2.1 = 1 → Ev (d + 6) M7_tellRule (trQ n t b f R σ0 τ) 180 [some (.ref 0), some (.int (nI (16 * b + done.length))), some (.int 0), some (.int 1)] [] (WM σ1 τ) := by
      intro hgr hn1
      refine ev_iload_n (pc' := 181) dX7_tellRule_180 rfl rfl ?_
      refine ev_if_eq (tgt := 233) (pc' := 184) dX7_tellRule_181 (by decide) rfl (fun h_181 => ?_) (fun h_181 => ?_)
      · exact m_tr_233 (sd := sd) hb gS1 hgf hI1 hx1 h19' hl2 hd (fun z => hf7 z hgr) (fun z => hfn hn1 (Or.inl z)) h0 (hst7 hgr)
      · exact absurd rfl h_181 --
    refine ev_aload_n (pc' := 145) dX7_tellRule_144 rfl rfl ?_
    refine ev_getf (pc' := 148) fl_7_43 dX7_tellRule_145 rfl rfl rfl ?_
    refine ev_iload_n (pc' := 149) dX7_tellRule_148 rfl rfl ?_
    refine ev_iald (pc' := 150) dX7_tellRule_149 rfl rfl ?_ ?_
    · exact vr
    rw [er, s9]
    refine ev_if_eq (tgt := 162) (pc' := 153) dX7_tellRule_150 (by decide) rfl (fun h_150 => ?_) (fun h_150 => ?_)
    · rw [bI_0] at h_150
      refine ev_iconst (pc' := 163) (v := 1) dX7_tellRule_162 rfl (by decide) ?_
      refine ev_goto (tgt := 167) dX7_tellRule_163 (by decide) ?_
      refine ev_istore_n (pc' := 168) (ls' := [_, _, _, _]) dX7_tellRule_167 rfl rfl rfl ?_
      refine ev_iload_n (pc' := 169) dX7_tellRule_168 rfl rfl ?_
      refine ev_if_eq (tgt := 178) (pc' := 172) dX7_tellRule_169 (by decide) rfl (fun h_169 => ?_) (fun h_169 => ?_)
      · first | exact absurd h_169 (by decide) | exact absurd (by decide) h_169 --
      · have kE := kI (Or.inr h_150)
        refine ev_aload_n (pc' := 173) dX7_tellRule_172 rfl rfl ?_
        refine ev_bipush (pc' := 175) (v := 21) dX7_tellRule_173 rfl (by decide) ?_
        refine ev_cVv1 (pc' := 178) cl_7_245 (m_must σ1 τ tk (by omega) s11 21) dX7_tellRule_175 rfl rfl rfl rfl ?_
        refine ev_iconst (pc' := 179) (v := 1) dX7_tellRule_178 rfl (by decide) ?_
        refine ev_istore_n (pc' := 180) (ls' := [_, _, _, _]) dX7_tellRule_179 rfl rfl rfl ?_
        exact kE
    · rw [bI_0, Bool.not_eq_false] at h_150
      refine ev_aload_n (pc' := 154) dX7_tellRule_153 rfl rfl ?_
      refine ev_bipush (pc' := 156) (v := 21) dX7_tellRule_154 rfl (by decide) ?_
      refine ev_cVi1 (pc' := 159) cl_7_218 (m_is σ1 τ tk (by omega) s11 21) dX7_tellRule_156 rfl rfl rfl rfl ?_
      rw [e21]
      refine ev_if_eq (tgt := 166) (pc' := 162) dX7_tellRule_159 (by decide) rfl (fun h_159 => ?_) (fun h_159 => ?_)
      · rw [bI_0, decide_eq_false_iff_not] at h_159
        refine ev_iconst (pc' := 167) (v := 0) dX7_tellRule_166 rfl (by decide) ?_
        refine ev_istore_n (pc' := 168) (ls' := [_, _, _, _]) dX7_tellRule_167 rfl rfl rfl ?_
        refine ev_iload_n (pc' := 169) dX7_tellRule_168 rfl rfl ?_
        refine ev_if_eq (tgt := 178) (pc' := 172) dX7_tellRule_169 (by decide) rfl (fun h_169 => ?_) (fun h_169 => ?_)
        · have kE := kN h_150 h_159
          refine ev_iconst (pc' := 179) (v := 1) dX7_tellRule_178 rfl (by decide) ?_
          refine ev_istore_n (pc' := 180) (ls' := [_, _, _, _]) dX7_tellRule_179 rfl rfl rfl ?_
          exact kE
        · first | exact absurd h_169 (by decide) | exact absurd (by decide) h_169 --
      · rw [bI_0, decide_eq_false_iff_not, Classical.not_not] at h_159
        refine ev_iconst (pc' := 163) (v := 1) dX7_tellRule_162 rfl (by decide) ?_
        refine ev_goto (tgt := 167) dX7_tellRule_163 (by decide) ?_
        refine ev_istore_n (pc' := 168) (ls' := [_, _, _, _]) dX7_tellRule_167 rfl rfl rfl ?_
        refine ev_iload_n (pc' := 169) dX7_tellRule_168 rfl rfl ?_
        refine ev_if_eq (tgt := 178) (pc' := 172) dX7_tellRule_169 (by decide) rfl (fun h_169 => ?_) (fun h_169 => ?_)
        · first | exact absurd h_169 (by decide) | exact absurd (by decide) h_169 --
        · have kE := kI (Or.inl h_159)
          refine ev_aload_n (pc' := 173) dX7_tellRule_172 rfl rfl ?_
          refine ev_bipush (pc' := 175) (v := 21) dX7_tellRule_173 rfl (by decide) ?_
          refine ev_cVv1 (pc' := 178) cl_7_245 (m_must σ1 τ tk (by omega) s11 21) dX7_tellRule_175 rfl rfl rfl rfl ?_
          refine ev_iconst (pc' := 179) (v := 1) dX7_tellRule_178 rfl (by decide) ?_
          refine ev_istore_n (pc' := 180) (ls' := [_, _, _, _]) dX7_tellRule_179 rfl rfl rfl ?_
          exact kE
  refine ev_aload_n (pc' := 120) dX7_tellRule_119 rfl rfl ?_
  refine ev_getf (pc' := 123) fl_7_49 dX7_tellRule_120 rfl rfl rfl ?_
  refine ev_iload_n (pc' := 124) dX7_tellRule_123 rfl rfl ?_
  refine ev_aload_n (pc' := 125) dX7_tellRule_124 rfl rfl ?_
  refine ev_getf (pc' := 128) fl_7_236 dX7_tellRule_125 rfl rfl rfl ?_
  refine ev_iast (pc' := 129) dX7_tellRule_128 rfl rfl ?_ (WM_a11 _ _ _) ?_
  · exact vr
  refine ev_aload_n (pc' := 130) dX7_tellRule_129 rfl rfl ?_
  refine ev_getf (pc' := 133) fl_7_52 dX7_tellRule_130 rfl rfl rfl ?_
  refine ev_iload_n (pc' := 134) dX7_tellRule_133 rfl rfl ?_
  refine ev_aload_n (pc' := 135) dX7_tellRule_134 rfl rfl ?_
  refine ev_getf (pc' := 138) fl_7_58 dX7_tellRule_135 rfl rfl rfl ?_
  refine ev_aload_n (pc' := 139) dX7_tellRule_138 rfl rfl ?_
  refine ev_getf (pc' := 142) fl_7_233 dX7_tellRule_139 rfl rfl rfl ?_
  refine ev_iald (pc' := 143) dX7_tellRule_142 rfl rfl ?_ ?_
  · exact vb2
  refine ev_iast (pc' := 144) dX7_tellRule_143 rfl rfl ?_ (WM_a12 _ _ _) ?_
  · exact vr
  refine k144 _ ?_
  show s2 (s2 σ 11 (nI (16 * b + done.length)).toNatClampNeg _) 12 (nI (16 * b + done.length)).toNatClampNeg (σ 14 (σ 0 19).toNatClampNeg) = _
  rw [er, eb]
theorem m_tr_95 {σ : RS} {g tk sd : Nat} {done : List YL} {gr : Bool} {z2 z3 : Option Value} (hb : b ≤ 1) (hg : gS n t g R ((if gr = true then 2 else 1, sd, tk, gr), ([], []), (done, [], []), (true, [], 0)) tk σ) (hsd : gr = true → sd = 0) (hgf : g ≤ f) (i8 : σ 8 b = nI done.length) (i14 : σ 14 b = nI (mnr done)) (imc : mc b σ (mq done)) (imll : mll b σ 0 0 0 done) (i9 : σ 9 (16 * b + done.length) = bI gr) (hx : pk b σ0 σ) (h19 : σ 0 19 = nI b) (hl : (mq done).length ≤ tk) (hd : done.length < 16) : Ev (d + 6) M7_tellRule (trQ n t b f R σ0 τ) 95 [some (.ref 0), some (.int (nI (16 * b + done.length))), z2, z3] [] (WM σ τ) := by
  have er : (nI (16 * b + done.length)).toNatClampNeg = 16 * b + done.length := nI_clamp (by omega)
  have vr : vp_in (nI (16 * b + done.length)) 32 := vp_in_nI (by omega) (by omega)
  obtain ⟨σ1, h1⟩ : ∃ σ1, σ1 = s2 σ 10 (16 * b + done.length) (σ 0 32) := ⟨_, rfl⟩
  have gS1 : gS n t g R ((if gr = true then 2 else 1, sd, tk, gr), ([], []), (done, [], []), (true, [], 0)) tk σ1 := by rw [h1]; exact hg.same rfl rfl rfl rfl
  have hx1 : pk b σ0 σ1 := by rw [h1]; exact hx.trans (pk_row16 _ hd (by omega) (by omega))
  have h19' : σ1 0 19 = nI b := by rw [h1]; exact h19
  have hE1 : inE b done gr [] σ1 := by
    rw [h1]
    refine ⟨⟨i8, i14⟩, by rw [List.append_nil]; exact mc_same imc rfl rfl rfl, mll_same (σ := σ) (fun c j c1 c2 c3 => ?_) (fun c j c1 c2 _ => ?_) imll, i9, (upd_same _ _ _).trans imc.1⟩
    · by_cases e : c = 10
      · subst e; exact upd_ne _ _ (by omega)
      · rw [show (s2 σ 10 (16 * b + done.length) (σ 0 32)) c = σ c from s1_ne _ _ e]
    · rw [show (s2 σ 10 (16 * b + done.length) (σ 0 32)) c = σ c from s1_ne _ _ (by omega)]
  have k105 : Ev (d + 6) M7_tellRule (trQ n t b f R σ0 τ) 105 [some (.ref 0), some (.int (nI (16 * b + done.length))), z2, z3] [] (WM σ1 τ) := by
    have s9 : σ1 9 (16 * b + done.length) = bI gr := hE1.2.2.2.1
    cases hgr : gr with
    | false =>
      subst hgr
      refine ev_aload_n (pc' := 106) dX7_tellRule_105 rfl rfl ?_
      refine ev_getf (pc' := 109) fl_7_43 dX7_tellRule_106 rfl rfl rfl ?_
      refine ev_iload_n (pc' := 110) dX7_tellRule_109 rfl rfl ?_
      refine ev_iald (pc' := 111) dX7_tellRule_110 rfl rfl ?_ ?_
      · exact vr
      rw [er, s9]
      refine ev_iconst (pc' := 112) (v := 1) dX7_tellRule_111 rfl (by decide) ?_
      refine ev_icmp_ne (tgt := 119) (pc' := 115) dX7_tellRule_112 (by decide) rfl (fun h_112 => ?_) (fun h_112 => ?_)
      · exact m_tr_119 (sd := 0) hb gS1 hgf hE1 hx1 h19' (by rw [List.append_nil]; exact hl) hd (by intro z; cases z) (fun _ => rfl) (fun _ z => by cases z) (fun z _ => decide_eq_false z) (fun v => rfl) (fun z => by cases z)
      · exact absurd h_112 (by decide) --
    | true =>
      subst hgr
      have hsd := hsd rfl
      subst hsd
      obtain ⟨⟨hrun, hok, hne⟩, ⟨-, htk⟩, ⟨s11, s13, s12⟩, hen⟩ := gS1
      have hE : exI n t b g R σ1 0 true ((done, [], []), (true, [], 0)) (mq done) 2 tk [] [] (s2 σ1 0 36 0) := ⟨⟨hrun, hok, hne⟩, ⟨s11, s13, s12⟩, ⟨rfl, trivial⟩, mc_same hE1.2.1 rfl rfl rfl, by simp only [List.length_nil]; omega, ents_keep hen rfl rfl rfl, xk_slot _ (by omega)⟩
      have cE := m_expression (d := d + 1) (τ := τ) hb hE s12
      have k119 : ∀ σ2, xk b σ1 σ2 → exG n t b g R 0 true ((done, [], []), (true, [], 0)) (mq done) σ2 → Ev (d + 6) M7_tellRule (trQ n t b f R σ0 τ) 119 [some (.ref 0), some (.int (nI (16 * b + done.length))), z2, z3] [] (WM σ2 τ) := by
        intro σ2 hx2 hG
        obtain ⟨f', tk', wt, out, hf', ⟨hrun, hok, hne⟩, hdp, ha, ⟨s11, s13, s12⟩, hmc, hle⟩ := hG
        have htk' := (ym_ok_wt hok).2.2
        have gS2 : gS n t f' R ((3, 0, tk', true), (wt, out), (done, [], []), (true, [], 0)) tk' σ2 := ⟨⟨hrun, hok, hne⟩, ⟨rfl, htk'⟩, ⟨s11, s13, s12⟩, ents_xk hen hx2⟩
        obtain ⟨⟨j8, j14⟩, -, jmll, j9, j10⟩ := hE1
        have hE2 : inE b done true (ym_fin wt out) σ2 := ⟨⟨by rw [hx2.2 8 (by omega) (by omega)]; exact j8, by rw [hx2.2 14 (by omega) (by omega)]; exact j14⟩, hmc, mll_same (fun c j c1 c2 _ => by rw [hx2.2 c (by omega) (by omega)]) (fun c j c1 c2 _ => by rw [hx2.2 c (by omega) (by omega)]) jmll, by rw [hx2.2 9 (by omega) (by omega)]; exact j9, by rw [hx2.2 10 (by omega) (by omega)]; exact j10⟩
        have h19'' : σ2 0 19 = nI b := (hx2.1.2.1 19 (by omega) (by omega) (by omega) (by omega) (by omega) (by omega)).trans h19'
        have hfit : ∀ k, ¬ (k = 8 ∨ k = 9 ∨ k = 10) → ym_fits ((3, 0, tk', true), (wt, out), (done, [], []), (true, [], 0)) k = decide (k = 1 ∨ k = 7) := fun k z => by
          rw [ym_fits_3 z hdp, if_pos rfl]
        exact m_tr_119 (sd := 0) hb gS2 (by omega) hE2 (hx1.trans hx2.1) h19'' (by rw [List.length_append]; exact hle) hd (by intro z; cases z) (fun _ => by rw [hfit 1 (by decide)]; rfl) (fun _ _ => by rw [hfit 7 (by decide)]; rfl) (fun z z2 => by rw [hfit _ ha]; exact decide_eq_false (fun q => q.elim z (fun q => z2.elim (fun z => z q) (fun z => by cases z)))) (fun v => rfl) (fun _ v => rfl)
      refine ev_aload_n (pc' := 106) dX7_tellRule_105 rfl rfl ?_
      refine ev_getf (pc' := 109) fl_7_43 dX7_tellRule_106 rfl rfl rfl ?_
      refine ev_iload_n (pc' := 110) dX7_tellRule_109 rfl rfl ?_
      refine ev_iald (pc' := 111) dX7_tellRule_110 rfl rfl ?_ ?_
      · exact vr
      rw [er, s9]
      refine ev_iconst (pc' := 112) (v := 1) dX7_tellRule_111 rfl (by decide) ?_
      refine ev_icmp_ne (tgt := 119) (pc' := 115) dX7_tellRule_112 (by decide) rfl (fun h_112 => ?_) (fun h_112 => ?_)
      · exact absurd rfl h_112 --
      · refine ev_aload_n (pc' := 116) dX7_tellRule_115 rfl rfl ?_
        refine ev_cVr0 (pc' := 119) cl_7_242 (cE) dX7_tellRule_116 rfl rfl rfl rfl ?_
        rintro v w1 hq -
        obtain ⟨rfl, σ2, rfl, hx2, h2⟩ := hq
        rcases h2 with h2 | h2
        · exact m_tr_flt119 hb h2 (hx1.trans hx2.1) ((hx2.1.2.1 19 (by omega) (by omega) (by omega) (by omega) (by omega) (by omega)).trans h19') hd
        · exact k119 σ2 hx2 h2
  refine ev_aload_n (pc' := 96) dX7_tellRule_95 rfl rfl ?_
  refine ev_getf (pc' := 99) fl_7_46 dX7_tellRule_96 rfl rfl rfl ?_
  refine ev_iload_n (pc' := 100) dX7_tellRule_99 rfl rfl ?_
  refine ev_aload_n (pc' := 101) dX7_tellRule_100 rfl rfl ?_
  refine ev_getf (pc' := 104) fl_7_236 dX7_tellRule_101 rfl rfl rfl ?_
  refine ev_iast (pc' := 105) dX7_tellRule_104 rfl rfl ?_ (WM_a10 _ _ _) ?_
  · exact vr
  refine ev_world (w' := WM σ1 τ) ?_ k105
  rw [h1]
  show WM (s2 σ 10 (nI (16 * b + done.length)).toNatClampNeg _) τ = _
  rw [er]
theorem m_tellRule {σ : RS} {tk sd : Nat} {gr0 : Bool} {done : List YL} (hb : b ≤ 1) (hg : gS n t f R ((0, sd, tk, gr0), ([], []), (done, [], []), (true, [], 0)) tk σ) (hk17 : ¬ (tkn n t tk).2.1 = 17) (hM : msR b done σ) (hl : (mq done).length ≤ tk) (h19 : σ 0 19 = nI b) : Ok (d + 6) M7_tellRule [.ref 0] (WM σ τ) (trQ n t b f R σ τ) := by
  obtain ⟨i8, i14, imc, imll⟩ := hM
  have s11 := hg.2.2.1.1
  have s13 := hg.2.2.1.2.1
  have htk := hg.2.1.2
  have hlen : done.length ≤ 16 := hg.1.2.1.2.2.2.2.2.1
  obtain ⟨⟨t0, -, t2, -⟩, -⟩ := hg.is
  have e20 : m_is' σ tk 20 = decide ((tkn n t tk).2.1 = 0) := by rw [m_is_ok s13]; exact decide_eq_decide.mpr t0
  have e22 : m_is' σ tk 22 = decide ((tkn n t tk).2.1 = 2) := by rw [m_is_ok s13]; exact decide_eq_decide.mpr t2
  have eb : (σ 0 19).toNatClampNeg = b := by rw [h19]; exact nI_clamp (by omega)
  have vb2 : vp_in (σ 0 19) 2 := by rw [h19]; exact vp_in_nI (by omega) (by omega)
  have er0 : (16 : Int32) * nI b + nI done.length = nI (16 * b + done.length) := by rw [show (16 : Int32) * nI b = nI (16 * b) from nI_mul 16 b, nI_add]
  have hfit : ym_fits ((0, sd, tk, gr0), ([], []), (done, [], []), (true, [], 0)) (tkn n t tk).2.1 = decide ((tkn n t tk).2.1 = 0 ∨ (tkn n t tk).2.1 = 2 ∨ (tkn n t tk).2.1 = 17) := rfl
  have kB : ¬ (tkn n t tk).2.1 = 0 → ¬ (tkn n t tk).2.1 = 2 → flt R (m_fail' σ tk 1) := fun z0 z2 => hg.bad (by rw [hfit]; exact decide_eq_false (fun q => q.elim z0 (fun q => q.elim z2 hk17)))
  have kF : ((tkn n t tk).2.1 = 0 ∨ (tkn n t tk).2.1 = 2) → done.length = 16 → flt R (m_fail' σ tk 2) := fun z zl => hg.full (by rw [hfit]; exact decide_eq_true (z.elim Or.inl (fun z => Or.inr (Or.inl z)))) hk17 (by
    unfold ym_room
    rw [if_pos ⟨rfl, by show 16 ≤ done.length; omega⟩])
  have k53 : ((tkn n t tk).2.1 = 0 ∨ (tkn n t tk).2.1 = 2) → done.length < 16 → Ev (d + 6) M7_tellRule (trQ n t b f R σ τ) 53 [some (.ref 0), none, none, none] [] (WM σ τ) := by
    intro hk hd
    have er : (nI (16 * b + done.length)).toNatClampNeg = 16 * b + done.length := nI_clamp (by omega)
    have vr : vp_in (nI (16 * b + done.length)) 32 := vp_in_nI (by omega) (by omega)
    have k95 : ∀ gr : Bool, (tkn n t tk).2.1 = (if gr = true then 2 else 0) → Ev (d + 6) M7_tellRule (trQ n t b f R σ τ) 95 [some (.ref 0), some (.int (nI (16 * b + done.length))), none, none] [] (WM (m_next' (s2 σ 9 (16 * b + done.length) (bI gr)) tk) τ) := by
      intro gr hkg
      have gS1 : gS n t f R ((0, sd, tk, gr0), ([], []), (done, [], []), (true, [], 0)) tk (s2 σ 9 (16 * b + done.length) (bI gr)) := hg.same rfl rfl rfl rfl
      have hx1 : pk b σ (s2 σ 9 (16 * b + done.length) (bI gr)) := pk_row16 _ hd (by omega) (by omega)
      rcases gS1.next (by rw [hfit]; exact decide_eq_true (hk.elim Or.inl (fun z => Or.inr (Or.inl z)))) hk17 (by rcases hk with e | e <;> rw [e] <;> decide) (fun _ => hd) with hF | ⟨hN, g, hgf, hgS⟩
      · exact m_tr_flt95 hb hF (hx1.trans xk_next.1) (((xk_next (b := b)).1.2.1 19 (by omega) (by omega) (by omega) (by omega) (by omega) (by omega)).trans h19) hd
      · rw [hN]
        have hgS2 : gS n t g R ((if gr = true then 2 else 1, if gr = true then 0 else sd, tk + 1, gr), ([], []), (done, [], []), (true, [], 0)) (tk + 1) (s2 (s2 σ 9 (16 * b + done.length) (bI gr)) 0 11 (nI (tk + 1))) := by
          rw [hkg] at hgS
          cases gr <;> exact hgS
        refine m_tr_95 hb hgS2 (fun z => by rw [if_pos z]) (by omega) i8 i14 (mc_same imc rfl rfl rfl) (mll_same (σ := σ) (fun c j c1 c2 c3 => ?_) (fun c j c1 c2 _ => ?_) imll) (upd_same _ _ _) (hx1.trans (xk_slot _ (by omega)).1) h19 (by omega) hd
        · rw [show (s2 (s2 σ 9 (16 * b + done.length) (bI gr)) 0 11 (nI (tk + 1))) c = (s2 σ 9 (16 * b + done.length) (bI gr)) c from s1_ne _ _ (by omega)]
          by_cases e : c = 9
          · subst e; exact upd_ne _ _ (by omega)
          · rw [show (s2 σ 9 (16 * b + done.length) (bI gr)) c = σ c from s1_ne _ _ e]
        · rw [show (s2 (s2 σ 9 (16 * b + done.length) (bI gr)) 0 11 (nI (tk + 1))) c = (s2 σ 9 (16 * b + done.length) (bI gr)) c from s1_ne _ _ (by omega), show (s2 σ 9 (16 * b + done.length) (bI gr)) c = σ c from s1_ne _ _ (by omega)]
    refine ev_bipush (pc' := 55) (v := 16) dX7_tellRule_53 rfl (by decide) ?_
    refine ev_aload_n (pc' := 56) dX7_tellRule_55 rfl rfl ?_
    refine ev_getf (pc' := 59) fl_7_233 dX7_tellRule_56 rfl rfl rfl ?_
    show Ev _ _ _ _ _ [.int (σ 0 19), .int 16] _
    rw [h19]
    refine ev_imul (pc' := 60) dX7_tellRule_59 rfl ?_
    refine ev_aload_n (pc' := 61) dX7_tellRule_60 rfl rfl ?_
    refine ev_getf (pc' := 64) fl_7_40 dX7_tellRule_61 rfl rfl rfl ?_
    refine ev_aload_n (pc' := 65) dX7_tellRule_64 rfl rfl ?_
    refine ev_getf (pc' := 68) fl_7_233 dX7_tellRule_65 rfl rfl rfl ?_
    refine ev_iald (pc' := 69) dX7_tellRule_68 rfl rfl ?_ ?_
    · exact vb2
    rw [eb, i8]
    refine ev_iadd (pc' := 70) dX7_tellRule_69 rfl ?_
    rw [er0]
    refine ev_istore_n (pc' := 71) (ls' := [_, _, _, _]) dX7_tellRule_70 rfl rfl rfl ?_
    refine ev_aload_n (pc' := 72) dX7_tellRule_71 rfl rfl ?_
    refine ev_getf (pc' := 75) fl_7_43 dX7_tellRule_72 rfl rfl rfl ?_
    refine ev_iload_n (pc' := 76) dX7_tellRule_75 rfl rfl ?_
    refine ev_aload_n (pc' := 77) dX7_tellRule_76 rfl rfl ?_
    refine ev_bipush (pc' := 79) (v := 20) dX7_tellRule_77 rfl (by decide) ?_
    refine ev_cVi1 (pc' := 82) cl_7_218 (m_is σ τ tk (by omega) s11 20) dX7_tellRule_79 rfl rfl rfl rfl ?_
    rw [e20]
    refine ev_if_eq (tgt := 89) (pc' := 85) dX7_tellRule_82 (by decide) rfl (fun h_82 => ?_) (fun h_82 => ?_)
    · rw [bI_0, decide_eq_false_iff_not] at h_82
      have kE := k95 true (hk.resolve_left h_82)
      refine ev_iconst (pc' := 90) (v := 1) dX7_tellRule_89 rfl (by decide) ?_
      refine ev_iast (pc' := 91) dX7_tellRule_90 rfl rfl ?_ (WM_a9 _ _ _) ?_
      · exact vr
      rw [er]
      refine ev_aload_n (pc' := 92) dX7_tellRule_91 rfl rfl ?_
      refine ev_cVv0 (pc' := 95) cl_7_221 (m_next _ τ tk (by omega) s11) dX7_tellRule_92 rfl rfl rfl rfl ?_
      exact kE
    · rw [bI_0, decide_eq_false_iff_not, Classical.not_not] at h_82
      have kE := k95 false h_82
      refine ev_iconst (pc' := 86) (v := 0) dX7_tellRule_85 rfl (by decide) ?_
      refine ev_goto (tgt := 90) dX7_tellRule_86 (by decide) ?_
      refine ev_iast (pc' := 91) dX7_tellRule_90 rfl rfl ?_ (WM_a9 _ _ _) ?_
      · exact vr
      rw [er]
      refine ev_aload_n (pc' := 92) dX7_tellRule_91 rfl rfl ?_
      refine ev_cVv0 (pc' := 95) cl_7_221 (m_next _ τ tk (by omega) s11) dX7_tellRule_92 rfl rfl rfl rfl ?_
      exact kE
  have hlt : ¬ nI done.length = 16 → done.length < 16 := fun z => Nat.lt_of_le_of_ne hlen (fun q => z (by rw [q]; rfl))
  refine Ok.of (ls := [some _, none, none, none]) (by decide +kernel) (Nat.le_of_ble_eq_true rfl) rfl ?_
  refine ev_aload_n (pc' := 1) dX7_tellRule_0 rfl rfl ?_
  refine ev_bipush (pc' := 3) (v := 20) dX7_tellRule_1 rfl (by decide) ?_
  refine ev_cVi1 (pc' := 6) cl_7_218 (m_is σ τ tk (by omega) s11 20) dX7_tellRule_3 rfl rfl rfl rfl ?_
  rw [e20]
  refine ev_if_ne (tgt := 26) (pc' := 9) dX7_tellRule_6 (by decide) rfl (fun h_6 => ?_) (fun h_6 => ?_)
  · rw [bI_0, decide_eq_false_iff_not, Classical.not_not] at h_6
    refine ev_aload_n (pc' := 27) dX7_tellRule_26 rfl rfl ?_
    refine ev_getf (pc' := 30) fl_7_40 dX7_tellRule_27 rfl rfl rfl ?_
    refine ev_aload_n (pc' := 31) dX7_tellRule_30 rfl rfl ?_
    refine ev_getf (pc' := 34) fl_7_233 dX7_tellRule_31 rfl rfl rfl ?_
    refine ev_iald (pc' := 35) dX7_tellRule_34 rfl rfl ?_ ?_
    · exact vb2
    rw [eb, i8]
    refine ev_bipush (pc' := 37) (v := 16) dX7_tellRule_35 rfl (by decide) ?_
    refine ev_icmp_ne (tgt := 45) (pc' := 40) dX7_tellRule_37 (by decide) rfl (fun h_37 => ?_) (fun h_37 => ?_)
    · refine ev_aload_n (pc' := 46) dX7_tellRule_45 rfl rfl ?_
      refine ev_getf (pc' := 49) fl_7_200 dX7_tellRule_46 rfl rfl rfl ?_
      refine ev_if_le (tgt := 53) (pc' := 52) dX7_tellRule_49 (by decide) rfl (fun h_49 => ?_) (fun h_49 => ?_)
      · exact k53 (by first | exact Or.inl h_6 | exact Or.inr h_15) (hlt h_37) --
      · exact absurd (by rw [s13]; decide) h_49 --
    · have hF := kF (by first | exact Or.inl h_6 | exact Or.inr h_15) ((nI_eq (a := done.length) (b := 16) (by omega) (by omega)).mp h_37)
      refine ev_aload_n (pc' := 41) dX7_tellRule_40 rfl rfl ?_
      refine ev_iconst (pc' := 42) (v := 2) dX7_tellRule_41 rfl (by decide) ?_
      refine ev_cVv1 (pc' := 45) cl_7_215 (m_fail σ τ tk (by omega) s11 2) dX7_tellRule_42 rfl rfl rfl rfl ?_
      refine ev_aload_n (pc' := 46) dX7_tellRule_45 rfl rfl ?_
      refine ev_getf (pc' := 49) fl_7_200 dX7_tellRule_46 rfl rfl rfl ?_
      refine ev_if_le (tgt := 53) (pc' := 52) dX7_tellRule_49 (by decide) rfl (fun h_49 => ?_) (fun h_49 => ?_)
      · exact absurd (flt_ne hF).2 (Int32.not_lt.mpr h_49) --
      · refine ev_return rfl dX7_tellRule_52 ?_
        exact ⟨rfl, _, rfl, xk_fail.1, Or.inl hF⟩
  · rw [bI_0, decide_eq_false_iff_not] at h_6
    refine ev_aload_n (pc' := 10) dX7_tellRule_9 rfl rfl ?_
    refine ev_bipush (pc' := 12) (v := 22) dX7_tellRule_10 rfl (by decide) ?_
    refine ev_cVi1 (pc' := 15) cl_7_218 (m_is σ τ tk (by omega) s11 22) dX7_tellRule_12 rfl rfl rfl rfl ?_
    rw [e22]
    refine ev_if_ne (tgt := 26) (pc' := 18) dX7_tellRule_15 (by decide) rfl (fun h_15 => ?_) (fun h_15 => ?_)
    · rw [bI_0, decide_eq_false_iff_not, Classical.not_not] at h_15
      refine ev_aload_n (pc' := 27) dX7_tellRule_26 rfl rfl ?_
      refine ev_getf (pc' := 30) fl_7_40 dX7_tellRule_27 rfl rfl rfl ?_
      refine ev_aload_n (pc' := 31) dX7_tellRule_30 rfl rfl ?_
      refine ev_getf (pc' := 34) fl_7_233 dX7_tellRule_31 rfl rfl rfl ?_
      refine ev_iald (pc' := 35) dX7_tellRule_34 rfl rfl ?_ ?_
      · exact vb2
      rw [eb, i8]
      refine ev_bipush (pc' := 37) (v := 16) dX7_tellRule_35 rfl (by decide) ?_
      refine ev_icmp_ne (tgt := 45) (pc' := 40) dX7_tellRule_37 (by decide) rfl (fun h_37 => ?_) (fun h_37 => ?_)
      · refine ev_aload_n (pc' := 46) dX7_tellRule_45 rfl rfl ?_
        refine ev_getf (pc' := 49) fl_7_200 dX7_tellRule_46 rfl rfl rfl ?_
        refine ev_if_le (tgt := 53) (pc' := 52) dX7_tellRule_49 (by decide) rfl (fun h_49 => ?_) (fun h_49 => ?_)
        · exact k53 (by first | exact Or.inl h_6 | exact Or.inr h_15) (hlt h_37) --
        · exact absurd (by rw [s13]; decide) h_49 --
      · have hF := kF (by first | exact Or.inl h_6 | exact Or.inr h_15) ((nI_eq (a := done.length) (b := 16) (by omega) (by omega)).mp h_37)
        refine ev_aload_n (pc' := 41) dX7_tellRule_40 rfl rfl ?_
        refine ev_iconst (pc' := 42) (v := 2) dX7_tellRule_41 rfl (by decide) ?_
        refine ev_cVv1 (pc' := 45) cl_7_215 (m_fail σ τ tk (by omega) s11 2) dX7_tellRule_42 rfl rfl rfl rfl ?_
        refine ev_aload_n (pc' := 46) dX7_tellRule_45 rfl rfl ?_
        refine ev_getf (pc' := 49) fl_7_200 dX7_tellRule_46 rfl rfl rfl ?_
        refine ev_if_le (tgt := 53) (pc' := 52) dX7_tellRule_49 (by decide) rfl (fun h_49 => ?_) (fun h_49 => ?_)
        · exact absurd (flt_ne hF).2 (Int32.not_lt.mpr h_49) --
        · refine ev_return rfl dX7_tellRule_52 ?_
          exact ⟨rfl, _, rfl, xk_fail.1, Or.inl hF⟩
    · rw [bI_0, decide_eq_false_iff_not] at h_15
      have hF := kB h_6 h_15
      refine ev_aload_n (pc' := 19) dX7_tellRule_18 rfl rfl ?_
      refine ev_iconst (pc' := 20) (v := 1) dX7_tellRule_19 rfl (by decide) ?_
      refine ev_cVv1 (pc' := 23) cl_7_215 (m_fail σ τ tk (by omega) s11 1) dX7_tellRule_20 rfl rfl rfl rfl ?_
      refine ev_goto (tgt := 45) dX7_tellRule_23 (by decide) ?_
      refine ev_aload_n (pc' := 46) dX7_tellRule_45 rfl rfl ?_
      refine ev_getf (pc' := 49) fl_7_200 dX7_tellRule_46 rfl rfl rfl ?_
      refine ev_if_le (tgt := 53) (pc' := 52) dX7_tellRule_49 (by decide) rfl (fun h_49 => ?_) (fun h_49 => ?_)
      · exact absurd (flt_ne hF).2 (Int32.not_lt.mpr h_49) --
      · refine ev_return rfl dX7_tellRule_52 ?_
        exact ⟨rfl, _, rfl, xk_fail.1, Or.inl hF⟩
end
