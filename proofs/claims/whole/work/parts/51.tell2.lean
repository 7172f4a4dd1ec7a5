/-! The model reads a rule: the rule goes on. b -/
def inR (b : Nat) (done : List YL) (gr : Bool) (E : List YC) (rels : List YR) (σ : RS) : Prop := (σ 8 b = nI done.length ∧ σ 14 b = nI (mnr done + rels.length)) ∧ mc b σ (mq done ++ E ++ mq_rels rels) ∧ mll b σ 0 0 0 done ∧ (σ 9 (16 * b + done.length) = bI gr ∧ σ 10 (16 * b + done.length) = nI (500 * b + (mq done).length) ∧ σ 11 (16 * b + done.length) = nI (500 * b + (mq done).length + E.length) ∧ σ 12 (16 * b + done.length) = nI (mnr done)) ∧ mlr b σ (mnr done) ((mq done).length + E.length) rels
theorem inR_xk {b : Nat} {done : List YL} {gr : Bool} {E : List YC} {rels : List YR} {σ σ' : RS} (h : inR b done gr E rels σ) (h0 : σ' 0 32 = σ 0 32) (hc : ∀ c, 8 ≤ c → c ≤ 21 → σ' c = σ c) : inR b done gr E rels σ' := by
  obtain ⟨⟨g1, g2⟩, g3, g4, ⟨g5, g6, g7, g8⟩, g9⟩ := h
  refine ⟨⟨by rw [hc 8 (by omega) (by omega)]; exact g1, by rw [hc 14 (by omega) (by omega)]; exact g2⟩, mc_same g3 h0 (hc 20 (by omega) (by omega)) (hc 21 (by omega) (by omega)), mll_same (fun c j c1 c2 _ => by rw [hc c (by omega) (by omega)]) (fun c j c1 c2 _ => by rw [hc c (by omega) (by omega)]) g4, ⟨by rw [hc 9 (by omega) (by omega)]; exact g5, by rw [hc 10 (by omega) (by omega)]; exact g6, by rw [hc 11 (by omega) (by omega)]; exact g7, by rw [hc 12 (by omega) (by omega)]; exact g8⟩, mlr_same (fun c j c1 c2 _ => by rw [hc c (by omega) (by omega)]) g9⟩
theorem gS.must {n : Nat} {t : Nat → Int32} {f : Nat} {R : Int32 × Nat × YS} {S : YS} {tk : Nat} {σ : RS} (h : gS n t f R S tk σ) {K k0 : Int32} (hK : σ 3 tk = K ↔ (tkn n t tk).2.1 = k0) (hf : (tkn n t tk).2.1 = k0 → ym_fits S k0 = true) (hf2 : ¬ (tkn n t tk).2.1 = k0 → ym_fits S (tkn n t tk).2.1 = false) (h17 : ¬ k0 = 17) (h15 : ¬ k0 = 15) (h0 : ¬ S.1.1 = 0) : flt R (m_must' σ tk K) ∨ ((tkn n t tk).2.1 = k0 ∧ m_must' σ tk K = s2 σ 0 11 (nI (tk + 1)) ∧ ∃ g v, f = g + 1 ∧ gS n t g R (ym_step k0 v S) (tk + 1) (s2 σ 0 11 (nI (tk + 1)))) := by
  have e := m_is_ok (i := tk) (k := K) h.2.2.1.2.1
  by_cases hk : (tkn n t tk).2.1 = k0
  · have e2 : m_must' σ tk K = m_next' σ tk := by
      unfold m_must'
      rw [if_pos (by rw [e]; exact decide_eq_true (hK.mpr hk))]
    rw [e2]
    rcases h.next (by rw [hk]; exact hf hk) (by rw [hk]; exact h17) (by rw [hk]; exact h15) (fun z => absurd z h0) with h1 | ⟨h1, g, h2, h3⟩
    · exact Or.inl h1
    · rw [hk] at h3
      exact Or.inr ⟨hk, h1, g, _, h2, h3⟩
  · have e2 : m_must' σ tk K = m_fail' σ tk 1 := by
      unfold m_must'
      rw [if_neg (by rw [e]; exact fun z => hk (hK.mp (of_decide_eq_true z)))]
    rw [e2]
    exact Or.inl (h.bad (hf2 hk))
section
variable {d n : Nat} {t : Nat → Int32} {b f : Nat} {R : Int32 × Nat × YS} {σ0 : RS} {τ : TS}
theorem m_tr_233 {σ : RS} {g tk sd : Nat} {S : YS} {done : List YL} {gr : Bool} {E : List YC} {rels : List YR} {z2 z3 : Option Value} (hb : b ≤ 1) (hg : gS n t g R S tk σ) (hgf : g ≤ f) (hI : inR b done gr E rels σ) (hx : pk b σ0 σ) (h19 : σ 0 19 = nI b) (hl : (mq done ++ E ++ mq_rels rels).length ≤ tk) (hd : done.length < 16) (hf : (tkn n t tk).2.1 = 7 → ym_fits S 7 = true) (hf2 : ¬ (tkn n t tk).2.1 = 7 → ym_fits S (tkn n t tk).2.1 = false) (h0 : ¬ S.1.1 = 0) (hst : ∀ v, ym_step 7 v S = ((0, sd, tk + 1, gr), ([], []), (done ++ [(gr, E, rels)], [], []), (true, [], 0))) : Ev (d + 6) M7_tellRule (trQ n t b f R σ0 τ) 233 [some (.ref 0), some (.int (nI (16 * b + done.length))), z2, z3] [] (WM σ τ) := by
  have hM := hg.must (K := 4) (k0 := 7) hg.is.2.2.1.2.1 hf hf2 (by decide) (by decide) h0
  have h11 := hg.2.2.1.1
  have htk := hg.2.1.2
  have er : (nI (16 * b + done.length)).toNatClampNeg = 16 * b + done.length := nI_clamp (by omega)
  have vr : vp_in (nI (16 * b + done.length)) 32 := vp_in_nI (by omega) (by omega)
  have k238 : Ev (d + 6) M7_tellRule (trQ n t b f R σ0 τ) 238 [some (.ref 0), some (.int (nI (16 * b + done.length))), z2, z3] [] (WM (m_must' σ tk 4) τ) := by
    rcases hM with hF | ⟨-, hM, g', v, hg', hgS⟩
    · skip
      refine ev_aload_n (pc' := 239) dX7_tellRule_238 rfl rfl ?_
      refine ev_getf (pc' := 242) fl_7_200 dX7_tellRule_239 rfl rfl rfl ?_
      refine ev_if_le (tgt := 246) (pc' := 245) dX7_tellRule_242 (by decide) rfl (fun h_242 => ?_) (fun h_242 => ?_)
      · exact absurd (flt_ne hF).2 (Int32.not_lt.mpr h_242) --
      · refine ev_return rfl dX7_tellRule_245 ?_
        exact ⟨rfl, _, rfl, hx.trans xk_must.1, Or.inl hF⟩
    · rw [hM]
      rw [hst v] at hgS
      have hI2 : inR b done gr E rels (s2 σ 0 11 (nI (tk + 1))) := inR_xk hI rfl (fun c c1 c2 => s1_ne _ _ (by omega))
      have hx2 : pk b σ0 (s2 σ 0 11 (nI (tk + 1))) := hx.trans (xk_slot _ (by omega)).1
      have h19 : (s2 σ 0 11 (nI (tk + 1))) 0 19 = nI b := h19
      generalize s2 σ 0 11 (nI (tk + 1)) = σ1 at *
      have eb : (σ1 0 19).toNatClampNeg = b := by rw [h19]; exact nI_clamp (by omega)
      have vb2 : vp_in (σ1 0 19) 2 := by rw [h19]; exact vp_in_nI (by omega) (by omega)
      have s13 : σ1 0 13 = 0 := hgS.2.2.1.2.1
      obtain ⟨⟨i8, i14⟩, imc, imll, ⟨i9, i10, i11, i12⟩, imlr⟩ := hI2
      have fin : ∀ σ3, σ3 = s2 (s2 σ1 13 (16 * b + done.length) (σ1 14 b)) 8 b (nI done.length + 1) → trQ n t b f R σ0 τ none (WM σ3 τ) := by
        intro σ3 h3
        have hx3 : pk b σ0 σ3 := by rw [h3]; exact (hx2.trans (pk_row16 _ hd (by omega) (by omega))).trans (pk_8 _)
        have hmll : mll b σ3 0 0 0 (done ++ [(gr, E, rels)]) := by
          have keep9 : ∀ c j, 9 ≤ c → c ≤ 13 → j < 0 + done.length → σ3 c (16 * b + j) = σ1 c (16 * b + j) := fun c j c1 c2 c3 => by
            rw [h3, show (s2 (s2 σ1 13 (16 * b + done.length) (σ1 14 b)) 8 b (nI done.length + 1)) c = (s2 σ1 13 (16 * b + done.length) (σ1 14 b)) c from s1_ne _ _ (by omega)]
            by_cases e : c = 13
            · subst e
              exact upd_ne _ _ (by omega)
            · rw [show (s2 σ1 13 (16 * b + done.length) (σ1 14 b)) c = σ1 c from s1_ne _ _ e]
          have keep15 : ∀ c j, 15 ≤ c → c ≤ 19 → σ3 c (200 * b + j) = σ1 c (200 * b + j) := fun c j c1 c2 => by
            rw [h3, show (s2 (s2 σ1 13 (16 * b + done.length) (σ1 14 b)) 8 b (nI done.length + 1)) c = (s2 σ1 13 (16 * b + done.length) (σ1 14 b)) c from s1_ne _ _ (by omega), show (s2 σ1 13 (16 * b + done.length) (σ1 14 b)) c = σ1 c from s1_ne _ _ (by omega)]
          refine mll_snoc _ (mll_same keep9 (fun c j c1 c2 _ => keep15 c j c1 c2) imll) ?_
          rw [Nat.zero_add, Nat.zero_add, Nat.zero_add]
          refine ⟨⟨?_, ?_, ?_, ?_, ?_⟩, mlr_same (fun c j c1 c2 _ => keep15 c j c1 c2) imlr⟩
          · rw [h3]; exact i9
          · rw [h3]; exact i10
          · rw [h3]; exact i11
          · rw [h3]; exact i12
          · rw [h3]; exact (upd_same _ _ _).trans i14
        refine ⟨rfl, σ3, rfl, hx3, Or.inr ⟨g', tk + 1, sd, gr, done ++ [(gr, E, rels)], by omega, ?_, ⟨?_, ?_, ?_, hmll⟩, ?_⟩⟩
        · rw [h3]; exact hgS.same rfl rfl rfl rfl
        · rw [h3, List.length_append]
          exact (upd_same _ _ _).trans (nI_1 _)
        · rw [h3, mnr_app]
          exact i14
        · rw [h3, mq_app]
          have e : mq done ++ mq [(gr, E, rels)] = mq done ++ E ++ mq_rels rels := by
            show mq done ++ ((E ++ mq_rels rels) ++ []) = _
            rw [List.append_nil, List.append_assoc]
          rw [e]
          exact mc_same imc rfl rfl rfl
        · have e : mq (done ++ [(gr, E, rels)]) = mq done ++ E ++ mq_rels rels := by
            rw [mq_app]
            show mq done ++ ((E ++ mq_rels rels) ++ []) = _
            rw [List.append_nil, List.append_assoc]
          rw [e]
          omega
      refine ev_aload_n (pc' := 239) dX7_tellRule_238 rfl rfl ?_
      refine ev_getf (pc' := 242) fl_7_200 dX7_tellRule_239 rfl rfl rfl ?_
      refine ev_if_le (tgt := 246) (pc' := 245) dX7_tellRule_242 (by decide) rfl (fun h_242 => ?_) (fun h_242 => ?_)
      · refine ev_aload_n (pc' := 247) dX7_tellRule_246 rfl rfl ?_
        refine ev_getf (pc' := 250) fl_7_55 dX7_tellRule_247 rfl rfl rfl ?_
        refine ev_iload_n (pc' := 251) dX7_tellRule_250 rfl rfl ?_
        refine ev_aload_n (pc' := 252) dX7_tellRule_251 rfl rfl ?_
        refine ev_getf (pc' := 255) fl_7_58 dX7_tellRule_252 rfl rfl rfl ?_
        refine ev_aload_n (pc' := 256) dX7_tellRule_255 rfl rfl ?_
        refine ev_getf (pc' := 259) fl_7_233 dX7_tellRule_256 rfl rfl rfl ?_
        refine ev_iald (pc' := 260) dX7_tellRule_259 rfl rfl ?_ ?_
        · exact vb2
        rw [eb]
        refine ev_iast (pc' := 261) dX7_tellRule_260 rfl rfl ?_ (WM_a13 _ _ _) ?_
        · exact vr
        rw [er]
        refine ev_aload_n (pc' := 262) dX7_tellRule_261 rfl rfl ?_
        refine ev_getf (pc' := 265) fl_7_40 dX7_tellRule_262 rfl rfl rfl ?_
        refine ev_aload_n (pc' := 266) dX7_tellRule_265 rfl rfl ?_
        refine ev_getf (pc' := 269) fl_7_233 dX7_tellRule_266 rfl rfl rfl ?_
        refine ev_dup2 (pc' := 270) dX7_tellRule_269 rfl rfl rfl ?_
        refine ev_iald (pc' := 271) dX7_tellRule_270 rfl rfl ?_ ?_
        · exact vb2
        show Ev _ _ _ _ _ [.int (σ1 8 (σ1 0 19).toNatClampNeg), .int (σ1 0 19), .ref 8] _
        rw [eb, i8]
        refine ev_iconst (pc' := 272) (v := 1) dX7_tellRule_271 rfl (by decide) ?_
        refine ev_iadd (pc' := 273) dX7_tellRule_272 rfl ?_
        refine ev_iast (pc' := 274) dX7_tellRule_273 rfl rfl ?_ (WM_a8 _ _ _) ?_
        · exact vb2
        refine ev_return rfl dX7_tellRule_274 ?_
        refine fin _ ?_
        show s2 _ 8 (σ1 0 19).toNatClampNeg _ = _
        rw [eb]
        rfl
      · exact absurd (by rw [s13]; decide) h_242 --
  refine ev_aload_n (pc' := 234) dX7_tellRule_233 rfl rfl ?_
  refine ev_iconst (pc' := 235) (v := 4) dX7_tellRule_234 rfl (by decide) ?_
  refine ev_cVv1 (pc' := 238) cl_7_245 (m_must σ τ tk (by omega) h11 4) dX7_tellRule_235 rfl rfl rfl rfl ?_
  exact k238
theorem m_tr_180 (hb : b ≤ 1) : ∀ (g : Nat), g ≤ f → ∀ (tk : Nat) (gr : Bool) (done : List YL) (E : List YC) (rels : List YR) (orf : Bool) (L : List YC) (op : Int32) (σ : RS), gS n t g R ((2, 1, tk, gr), ([], []), (done, E, rels), (orf, L, op)) tk σ → inR b done gr E rels σ → pk b σ0 σ → σ 0 19 = nI b → (mq done ++ E ++ mq_rels rels).length ≤ tk → done.length < 16 → Ev (d + 6) M7_tellRule (trQ n t b f R σ0 τ) 180 [some (.ref 0), some (.int (nI (16 * b + done.length))), some (.int 1), some (.int (bI orf))] [] (WM σ τ) := by
  intro g
  induction g using Nat.strongRecOn with
  | ind g ih =>
  intro hgf tk gr done E rels orf L op σ hS hI hx h19 hl hd
  obtain ⟨⟨hrun, hok, hne⟩, ⟨-, htk⟩, ⟨s11, s13, s12⟩, hen⟩ := hS
  obtain ⟨⟨i8, i14⟩, imc, imll, ⟨i9, i10, i11, i12⟩, imlr⟩ := hI
  have hq := ym_rel_room hok (by omega) (by omega)
  have hE : exI n t b g R σ 1 gr ((done, E, rels), (orf, L, op)) (mq done ++ E ++ mq_rels rels) 2 tk [] [] (s2 σ 0 36 0) := ⟨⟨hrun, hok, hne⟩, ⟨s11, s13, s12⟩, ⟨rfl, trivial⟩, by rw [List.append_nil]; exact mc_same imc rfl rfl rfl, by simp only [List.length_nil]; omega, ents_keep hen rfl rfl rfl, xk_slot _ (by omega)⟩
  have cR := m_relation (d := d) (τ := τ) hb hE hq i14 h19
  have k196 : ∀ σ1, rk b (mnr done + rels.length) σ σ1 → reG n t b g R gr (done, E, rels) orf (mq done ++ E ++ mq_rels rels) (mnr done + rels.length) σ1 → Ev (d + 6) M7_tellRule (trQ n t b f R σ0 τ) 196 [some (.ref 0), some (.int (nI (16 * b + done.length))), some (.int 1), some (.int (bI orf))] [] (WM σ1 τ) := by
    intro σ1 hx1 hG
    obtain ⟨f', tk', wt, out, Lf, op', hf', ⟨hrun, hok, hne⟩, hdp, ha, ⟨s11, s13, s12⟩, hmc, hle, hrl, h14⟩ := hG
    have htk' := (ym_ok_wt hok).2.2
    have h19' : σ1 0 19 = nI b := (hx1.1.2.1 19 (by omega) (by omega) (by omega) (by omega) (by omega) (by omega)).trans h19
    have en1 : ents n t σ1 := ents_keep hen (hx1.1.1 3 (by omega) (by omega)) (hx1.1.1 4 (by omega) (by omega)) (hx1.1.1 5 (by omega) (by omega))
    have gS1 : gS n t f' R ((3, 2, tk', gr), (wt, out), (done, E, rels), (orf, Lf, op')) tk' σ1 := ⟨⟨hrun, hok, hne⟩, ⟨rfl, htk'⟩, ⟨s11, s13, s12⟩, en1⟩
    have emq : mq done ++ E ++ mq_rels ((orf, Lf, op', ym_fin wt out) :: rels) = mq done ++ E ++ mq_rels rels ++ Lf ++ ym_fin wt out := by
      rw [mq_rels]
      simp only [List.append_assoc]
    have hlen2 : (mq done ++ E ++ mq_rels ((orf, Lf, op', ym_fin wt out) :: rels)).length ≤ tk' := by
      rw [emq, List.length_append]; exact hle
    have hI1 : inR b done gr E ((orf, Lf, op', ym_fin wt out) :: rels) σ1 := by
      refine ⟨⟨by rw [hx1.2.1 8 (by omega) (by omega)]; exact i8, h14⟩, by rw [emq]; exact hmc, mll_same (fun c j c1 c2 _ => by rw [hx1.2.1 c (by omega) c2]) (fun c j c1 c2 c3 => hx1.2.2 c _ c1 c2 (by omega)) imll, ⟨by rw [hx1.2.1 9 (by omega) (by omega)]; exact i9, by rw [hx1.2.1 10 (by omega) (by omega)]; exact i10, by rw [hx1.2.1 11 (by omega) (by omega)]; exact i11, by rw [hx1.2.1 12 (by omega) (by omega)]; exact i12⟩, mlr_same (fun c j c1 c2 c3 => hx1.2.2 c _ c1 c2 (by omega)) imlr, ?_⟩
      have e : (mq done).length + E.length + (mq_rels rels).length = (mq done ++ E ++ mq_rels rels).length := by simp only [List.length_append]
      rw [e]
      exact hrl
    have hx2 := hx.trans hx1.1
    have hfit : ∀ k, ¬ (k = 8 ∨ k = 9 ∨ k = 10) → ym_fits ((3, 2, tk', gr), (wt, out), (done, E, rels), (orf, Lf, op')) k = decide (k = 4 ∨ k = 3 ∨ k = 7) := fun k z => by
      rw [ym_fits_3 z hdp, if_neg (by omega), if_neg (by omega)]
    obtain ⟨⟨-, -, -, t3, t4⟩, -⟩ := gS1.is
    have e23 : m_is' σ1 tk' 23 = decide ((tkn n t tk').2.1 = 3) := by rw [m_is_ok s13]; exact decide_eq_decide.mpr t3
    have e24 : m_is' σ1 tk' 24 = decide ((tkn n t tk').2.1 = 4) := by rw [m_is_ok s13]; exact decide_eq_decide.mpr t4
    have kJ : ∀ o : Bool, o = decide ((tkn n t tk').2.1 = 3) → ((tkn n t tk').2.1 = 4 ∨ (tkn n t tk').2.1 = 3) → Ev (d + 6) M7_tellRule (trQ n t b f R σ0 τ) 180 [some (.ref 0), some (.int (nI (16 * b + done.length))), some (.int 1), some (.int (bI o))] [] (WM (m_next' σ1 tk') τ) := by
      intro o ho hj
      rcases gS1.next (by rw [hfit _ ha]; exact decide_eq_true (hj.elim Or.inl (fun z => Or.inr (Or.inl z)))) (by rcases hj with e | e <;> rw [e] <;> decide) (by rcases hj with e | e <;> rw [e] <;> decide) (by intro z; cases z) with hF | ⟨h1, g2, h2, h3⟩
      · exact m_tr_flt180 hF (hx2.trans xk_next.1)
      · rw [h1]
        rw [ym_step_join hj, ← ho] at h3
        exact ih g2 (by omega) (by omega) (tk' + 1) gr done E _ o [] 0 _ h3 (inR_xk hI1 rfl (fun c c1 c2 => s1_ne _ _ (by omega))) (hx2.trans (xk_slot _ (by omega)).1) h19' (by omega) hd
    have kZ : ∀ z3, ¬ (tkn n t tk').2.1 = 3 → ¬ (tkn n t tk').2.1 = 4 → Ev (d + 6) M7_tellRule (trQ n t b f R σ0 τ) 180 [some (.ref 0), some (.int (nI (16 * b + done.length))), some (.int 0), z3] [] (WM σ1 τ) := by
      intro z3 n3 n4
      refine ev_iload_n (pc' := 181) dX7_tellRule_180 rfl rfl ?_
      refine ev_if_eq (tgt := 233) (pc' := 184) dX7_tellRule_181 (by decide) rfl (fun h_181 => ?_) (fun h_181 => ?_)
      · exact m_tr_233 (sd := 2) hb gS1 (by omega) hI1 hx2 h19' hlen2 hd (fun z => by rw [hfit 7 (by decide)]; rfl) (fun z => by rw [hfit _ ha]; exact decide_eq_false (fun q => q.elim n4 (fun q => q.elim n3 z))) (by intro z; cases z) (fun v => rfl)
      · exact absurd rfl h_181 --
    refine ev_aload_n (pc' := 197) dX7_tellRule_196 rfl rfl ?_
    refine ev_bipush (pc' := 199) (v := 23) dX7_tellRule_197 rfl (by decide) ?_
    refine ev_cVi1 (pc' := 202) cl_7_218 (m_is σ1 τ tk' (by omega) s11 23) dX7_tellRule_199 rfl rfl rfl rfl ?_
    rw [e23]
    refine ev_istore_n (pc' := 203) (ls' := [_, _, _, _]) dX7_tellRule_202 rfl rfl rfl ?_
    refine ev_iload_n (pc' := 204) dX7_tellRule_203 rfl rfl ?_
    refine ev_if_ne (tgt := 216) (pc' := 207) dX7_tellRule_204 (by decide) rfl (fun h_204 => ?_) (fun h_204 => ?_)
    · rw [bI_0, decide_eq_false_iff_not, Classical.not_not] at h_204
      refine ev_iconst (pc' := 217) (v := 1) dX7_tellRule_216 rfl (by decide) ?_
      refine ev_goto (tgt := 221) dX7_tellRule_217 (by decide) ?_
      refine ev_istore_n (pc' := 222) (ls' := [_, _, _, _]) dX7_tellRule_221 rfl rfl rfl ?_
      refine ev_iload_n (pc' := 223) dX7_tellRule_222 rfl rfl ?_
      refine ev_if_eq (tgt := 180) (pc' := 226) dX7_tellRule_223 (by decide) rfl (fun h_223 => ?_) (fun h_223 => ?_)
      · first | exact absurd h_223 (by decide) | exact absurd (by decide) h_223 --
      · refine ev_aload_n (pc' := 227) dX7_tellRule_226 rfl rfl ?_
        refine ev_cVv0 (pc' := 230) cl_7_221 (m_next σ1 τ tk' (by omega) s11) dX7_tellRule_227 rfl rfl rfl rfl ?_
        refine ev_goto (tgt := 180) dX7_tellRule_230 (by decide) ?_
        exact kJ (decide ((tkn n t tk').2.1 = 3)) rfl (by first | exact Or.inr h_204 | exact Or.inl h_213)
    · rw [bI_0, decide_eq_false_iff_not] at h_204
      refine ev_aload_n (pc' := 208) dX7_tellRule_207 rfl rfl ?_
      refine ev_bipush (pc' := 210) (v := 24) dX7_tellRule_208 rfl (by decide) ?_
      refine ev_cVi1 (pc' := 213) cl_7_218 (m_is σ1 τ tk' (by omega) s11 24) dX7_tellRule_210 rfl rfl rfl rfl ?_
      rw [e24]
      refine ev_if_eq (tgt := 220) (pc' := 216) dX7_tellRule_213 (by decide) rfl (fun h_213 => ?_) (fun h_213 => ?_)
      · rw [bI_0, decide_eq_false_iff_not] at h_213
        refine ev_iconst (pc' := 221) (v := 0) dX7_tellRule_220 rfl (by decide) ?_
        refine ev_istore_n (pc' := 222) (ls' := [_, _, _, _]) dX7_tellRule_221 rfl rfl rfl ?_
        refine ev_iload_n (pc' := 223) dX7_tellRule_222 rfl rfl ?_
        refine ev_if_eq (tgt := 180) (pc' := 226) dX7_tellRule_223 (by decide) rfl (fun h_223 => ?_) (fun h_223 => ?_)
        · exact kZ _ h_204 h_213 --
        · first | exact absurd h_223 (by decide) | exact absurd (by decide) h_223 --
      · rw [bI_0, decide_eq_false_iff_not, Classical.not_not] at h_213
        refine ev_iconst (pc' := 217) (v := 1) dX7_tellRule_216 rfl (by decide) ?_
        refine ev_goto (tgt := 221) dX7_tellRule_217 (by decide) ?_
        refine ev_istore_n (pc' := 222) (ls' := [_, _, _, _]) dX7_tellRule_221 rfl rfl rfl ?_
        refine ev_iload_n (pc' := 223) dX7_tellRule_222 rfl rfl ?_
        refine ev_if_eq (tgt := 180) (pc' := 226) dX7_tellRule_223 (by decide) rfl (fun h_223 => ?_) (fun h_223 => ?_)
        · first | exact absurd h_223 (by decide) | exact absurd (by decide) h_223 --
        · refine ev_aload_n (pc' := 227) dX7_tellRule_226 rfl rfl ?_
          refine ev_cVv0 (pc' := 230) cl_7_221 (m_next σ1 τ tk' (by omega) s11) dX7_tellRule_227 rfl rfl rfl rfl ?_
          refine ev_goto (tgt := 180) dX7_tellRule_230 (by decide) ?_
          exact kJ (decide ((tkn n t tk').2.1 = 3)) rfl (by first | exact Or.inr h_204 | exact Or.inl h_213)
  refine ev_iload_n (pc' := 181) dX7_tellRule_180 rfl rfl ?_
  refine ev_if_eq (tgt := 233) (pc' := 184) dX7_tellRule_181 (by decide) rfl (fun h_181 => ?_) (fun h_181 => ?_)
  · exact absurd h_181 (by decide) --
  · refine ev_aload_n (pc' := 185) dX7_tellRule_184 rfl rfl ?_
    refine ev_getf (pc' := 188) fl_7_200 dX7_tellRule_185 rfl rfl rfl ?_
    refine ev_if_ne (tgt := 233) (pc' := 191) dX7_tellRule_188 (by decide) rfl (fun h_188 => ?_) (fun h_188 => ?_)
    · exact absurd s13 h_188 --
    · refine ev_aload_n (pc' := 192) dX7_tellRule_191 rfl rfl ?_
      refine ev_iload_n (pc' := 193) dX7_tellRule_192 rfl rfl ?_
      refine ev_cVr1 (pc' := 196) cl_7_248 (cR) dX7_tellRule_193 rfl rfl rfl rfl ?_
      rintro v w1 hq -
      obtain ⟨rfl, σ1, rfl, hx1, h1⟩ := hq
      rcases h1 with h1 | h1
      · exact m_tr_flt196 h1 (hx.trans hx1.1)
      · exact k196 σ1 hx1 h1
end
