/-! The model reads a relation. -/
theorem tk_small {k v x : Int32} {q : Nat} (hq : q ≤ 18) (hk : k = nI q) (hv : k = 5 → vp_in v 9) (h : tk_rel k v x) : ∃ m, m ≤ 33 ∧ x = nI m := by
  subst hk
  by_cases h5 : q = 5
  · subst h5
    have hv := hv rfl
    rw [vp_in_iff] at hv
    obtain ⟨j, j1, j2⟩ := nI_of (x := v) (fun z => by rw [fa_lt] at z; have e0 : ((0 : Int32).toInt) = 0 := rfl; omega)
    subst j2
    rw [nI_toInt j1] at hv
    have hx : x = 25 + nI j := h
    exact ⟨25 + j, by omega, by rw [hx]; exact nI_add 25 j⟩
  · by_cases h18 : q = 18
    · subst h18
      rcases (show x = 1 ∨ x = 3 from h) with rfl | rfl
      · exact ⟨1, by omega, rfl⟩
      · exact ⟨3, by omega, rfl⟩
    · have n5 : ¬ nI q = 5 := fun z => h5 ((nI_eq (a := q) (b := 5) (by omega) (by omega)).mp z)
      have hx : x = tk_map (nI q) v := by
        unfold tk_rel at h
        rwa [if_neg (show ¬ nI q = 18 from fun z => h18 ((nI_eq (a := q) (b := 18) (by omega) (by omega)).mp z))] at h
      have hx : x = tk_map (nI q) 0 := by
        rw [hx]
        unfold tk_map
        rw [if_neg n5, if_neg n5]
      have all : ∀ q : Fin 18, ¬ q.val = 5 → ∃ m : Fin 34, tk_map (nI q.val) 0 = nI m.val := by decide +kernel
      obtain ⟨m, hm⟩ := all ⟨q, by omega⟩ h5
      exact ⟨m.val, by have := m.isLt; omega, by rw [hx]; exact hm⟩
theorem sort_in : ∀ m : Fin 34, (¬ nI m.val - 11 < 0 ∧ nI m.val - 11 ≤ 3) ↔ (11 ≤ nI m.val ∧ nI m.val ≤ 14) := by decide +kernel
theorem sort_of {x : Int32} (h : ∃ m, m ≤ 33 ∧ x = nI m) : (¬ x - 11 < 0 ∧ x - 11 ≤ 3) ↔ (11 ≤ x ∧ x ≤ 14) := by
  obtain ⟨m, h1, h2⟩ := h
  rw [h2]
  exact sort_in ⟨m, by omega⟩
theorem m_expr_flt {d : Nat} {b : Nat} {R : Int32 × Nat × YS} {σ : RS} {τ : TS} (h : flt R σ) : Ok (d + 4) M7_expression [.ref 0] (WM σ τ) (fun v w => v = none ∧ ∃ σ', w = WM σ' τ ∧ xk b σ σ' ∧ flt R σ') := by
  have hn := flt_ne h
  refine Ok.of (ls := [some _, none, none, none, none]) (by decide +kernel) (Nat.le_of_ble_eq_true rfl) rfl ?_
  refine ev_aload_n (pc' := 1) dX7_expression_0 rfl rfl ?_
  refine ev_iconst (pc' := 2) (v := 0) dX7_expression_1 rfl (by decide) ?_
  refine ev_putf (pc' := 5) fs_7_252 dX7_expression_2 rfl rfl (Nat.le_of_ble_eq_true rfl) (fun _ => rfl) (fun _ => rfl) (WM_p7_36 _ _ _) ?_
  refine ev_aload_n (pc' := 6) dX7_expression_5 rfl rfl ?_
  refine ev_getf (pc' := 9) fl_7_227 dX7_expression_6 rfl rfl rfl ?_
  refine ev_istore_n (pc' := 10) (ls' := [_, _, _, _, _]) dX7_expression_9 rfl rfl rfl ?_
  refine ev_iconst (pc' := 11) (v := 1) dX7_expression_10 rfl (by decide) ?_
  refine ev_istore_n (pc' := 12) (ls' := [_, _, _, _, _]) dX7_expression_11 rfl rfl rfl ?_
  refine ev_iload_n (pc' := 13) dX7_expression_12 rfl rfl ?_
  refine ev_if_eq (tgt := 360) (pc' := 16) dX7_expression_13 (by decide) rfl (fun h_13 => ?_) (fun h_13 => ?_)
  · first | exact absurd h_13 (by decide) | exact absurd (by decide) h_13 --
  · refine ev_aload_n (pc' := 17) dX7_expression_16 rfl rfl ?_
    refine ev_getf (pc' := 20) fl_7_200 dX7_expression_17 rfl rfl rfl ?_
    refine ev_if_ne (tgt := 360) (pc' := 23) dX7_expression_20 (by decide) rfl (fun h_20 => ?_) (fun h_20 => ?_)
    · refine ev_return rfl dX7_expression_360 ?_
      exact ⟨rfl, _, rfl, xk_slot _ (by omega), h.1, h.2.1, h.2.2.1, h.2.2.2⟩
    · exact absurd h_20 hn.1 --
theorem flt_next {R : Int32 × Nat × YS} {σ : RS} {i : Nat} (h : flt R σ) (hi : i ≤ 400) : flt R (m_next' σ i) := by
  unfold m_next'
  split
  · rw [m_fail_no (flt_ne h).2]; exact h
  · exact ⟨h.1, h.2.1, h.2.2.1, i + 1, by omega, rfl⟩
def rlE (b : Nat) (σ : RS) (i : Nat) (R : YR) (a : Nat) : Prop := σ 15 i = R.2.2.1 - 11 ∧ σ 16 i = nI (500 * b + a) ∧ σ 17 i = nI (500 * b + a + R.2.1.length) ∧ σ 18 i = nI (500 * b + a + R.2.1.length + R.2.2.2.length) ∧ σ 19 i = bI R.1
def rk (b q : Nat) (σ σ' : RS) : Prop := pk b σ σ' ∧ (∀ c, 8 ≤ c → c ≤ 13 → σ' c = σ c) ∧ ∀ c i, 15 ≤ c → c ≤ 19 → i ≠ 200 * b + q → σ' c i = σ c i
theorem xk.rk {b q : Nat} {σ σ' : RS} (h : xk b σ σ') : rk b q σ σ' := ⟨h.1, fun c h1 h2 => h.2 c h1 (by omega), fun c i h1 h2 _ => by rw [h.2 c (by omega) h2]⟩
theorem rk.refl (b q : Nat) (σ : RS) : rk b q σ σ := (xk.refl b σ).rk
theorem rk.trans {b q : Nat} {x y z : RS} (h : rk b q x y) (g : rk b q y z) : rk b q x z := ⟨h.1.trans g.1, fun c h1 h2 => (g.2.1 c h1 h2).trans (h.2.1 c h1 h2), fun c i h1 h2 h3 => (g.2.2 c i h1 h2 h3).trans (h.2.2 c i h1 h2 h3)⟩
theorem rk_row {b q : Nat} {σ : RS} {c : Nat} (v : Int32) (hq : q < 200) (h1 : 15 ≤ c) (h2 : c ≤ 19) : rk b q σ (s2 σ c (200 * b + q) v) := by
  refine ⟨⟨fun k h3 h4 => s1_ne _ _ (by omega), fun j _ _ _ _ _ _ => by rw [show (s2 σ c (200 * b + q) v) 0 = σ 0 from s1_ne _ _ (by omega)], fun k i h3 h4 h5 => ?_⟩, fun k h3 h4 => s1_ne _ _ (by omega), fun k i h3 h4 h5 => ?_⟩
  · by_cases e : k = c
    · subst e
      have hw : pW k = 200 := by unfold pW; rw [if_neg (by omega), if_neg (by omega), if_pos (by omega)]
      rw [hw] at h5
      rw [show (s2 σ k (200 * b + q) v) k = upd (σ k) (200 * b + q) v from s1_same _ _ _]
      exact upd_ne _ _ (by omega)
    · rw [show (s2 σ c (200 * b + q) v) k = σ k from s1_ne _ _ e]
  · by_cases e : k = c
    · subst e
      rw [show (s2 σ k (200 * b + q) v) k = upd (σ k) (200 * b + q) v from s1_same _ _ _]
      exact upd_ne _ _ h5
    · rw [show (s2 σ c (200 * b + q) v) k = σ k from s1_ne _ _ e]
theorem rk_14 {b q : Nat} {σ : RS} (v : Int32) : rk b q σ (s2 σ 14 b v) := by
  refine ⟨⟨fun k h3 h4 => s1_ne _ _ (by omega), fun j _ _ _ _ _ _ => rfl, fun k i h3 h4 h5 => ?_⟩, fun k h3 h4 => s1_ne _ _ (by omega), fun k i h3 h4 h5 => ?_⟩
  · by_cases e : k = 14
    · subst e
      have hw : pW 14 = 1 := rfl
      rw [hw] at h5
      exact upd_ne _ _ (by omega)
    · rw [show (s2 σ 14 b v) k = σ k from s1_ne _ _ e]
  · rw [show (s2 σ 14 b v) k = σ k from s1_ne _ _ (by omega)]
def reG (n : Nat) (t : Nat → Int32) (b f : Nat) (R : Int32 × Nat × YS) (gr : Bool) (D : List YL × List YC × List YR) (orf : Bool) (l : List YC) (q : Nat) (σ : RS) : Prop :=
  ∃ f' tk wt out Lf op, f' ≤ f ∧ (ym_run n t f' (tpos n t tk) ((3, 2, tk, gr), (wt, out), D, (orf, Lf, op)) = some R ∧ ym_ok ((3, 2, tk, gr), (wt, out), D, (orf, Lf, op)) ∧ ∀ i, i < tk → ¬ (tkn n t i).2.1 = 17) ∧ ym_dp wt = 0 ∧ ¬ ((tkn n t tk).2.1 = 8 ∨ (tkn n t tk).2.1 = 9 ∨ (tkn n t tk).2.1 = 10) ∧ (σ 0 11 = nI tk ∧ σ 0 13 = 0 ∧ σ 0 12 = 0) ∧ mc b σ (l ++ Lf ++ ym_fin wt out) ∧ (l ++ Lf).length + (ym_fin wt out).length ≤ tk ∧ rlE b σ (200 * b + q) (orf, Lf, op, ym_fin wt out) l.length ∧ σ 14 b = nI (q + 1)
def reQ (n : Nat) (t : Nat → Int32) (b f : Nat) (R : Int32 × Nat × YS) (σ0 : RS) (τ : TS) (gr : Bool) (D : List YL × List YC × List YR) (orf : Bool) (l : List YC) (q : Nat) (v : Option Value) (w : MW) : Prop := v = none ∧ ∃ σ, w = WM σ τ ∧ rk b q σ0 σ ∧ (flt R σ ∨ reG n t b f R gr D orf l q σ)
theorem ym_sR {k v : Int32} {aw sd tk : Nat} {gr : Bool} {wt : List Int32} {out : List YC} {D : List YL × List YC × List YR} {orf : Bool} {L : List YC} {op : Int32} (h : z_isRel k = true) : ym_step k v ((aw, sd, tk, gr), (wt, out), D, (orf, L, op)) = ((2, 2, tk + 1, gr), ([], []), D, (orf, ym_fin wt out, k)) := by
  obtain ⟨done, E, rels⟩ := D
  exact ym_step_rel h
theorem ym_fits_3 {sd tk : Nat} {gr : Bool} {wt : List Int32} {out : List YC} {X : YX} {k : Int32} (ha : ¬ (k = 8 ∨ k = 9 ∨ k = 10)) (hd : ym_dp wt = 0) : ym_fits ((3, sd, tk, gr), (wt, out), X) k = (if sd = 0 then decide (k = 1 ∨ k = 7) else if sd = 1 then z_isRel k else decide (k = 4 ∨ k = 3 ∨ k = 7)) := by
  unfold ym_fits
  dsimp only
  rw [if_neg (by omega), if_neg (by omega), if_neg (by omega), if_neg ha, if_neg (by omega)]
theorem m_rel_flt {d n : Nat} {t : Nat → Int32} {b f : Nat} {R : Int32 × Nat × YS} {σ0 σ : RS} {τ : TS} {gr : Bool} {D : List YL × List YC × List YR} {orf : Bool} {l : List YC} {q : Nat} {x1 x2 : Int32} {z3 z4 z5 : Option Value} (h : flt R σ) (hx : rk b q σ0 σ) : Ev (d + 5) M7_relation (reQ n t b f R σ0 τ gr D orf l q) 9 [some (.ref 0), some (.int x1), some (.int x2), z3, z4, z5] [] (WM σ τ) := by
  have hn := flt_ne h
  obtain ⟨i, hi, h11⟩ := h.2.2.2
  have h2 := flt_next (i := i) h hi
  have hn2 := flt_ne h2
  have cE := m_expr_flt (d := d) (b := b) (τ := τ) h2
  refine ev_aload_n (pc' := 10) dX7_relation_9 rfl rfl ?_
  refine ev_getf (pc' := 13) fl_7_200 dX7_relation_10 rfl rfl rfl ?_
  refine ev_if_le (tgt := 20) (pc' := 16) dX7_relation_13 (by decide) rfl (fun h_13 => ?_) (fun h_13 => ?_)
  · exact absurd hn.2 (Int32.not_lt.mpr h_13) --
  · refine ev_iconst (pc' := 17) (v := 0) dX7_relation_16 rfl (by decide) ?_
    refine ev_goto (tgt := 32) dX7_relation_17 (by decide) ?_
    refine ev_istore_n (pc' := 33) (ls' := [_, _, _, _, _, _]) dX7_relation_32 rfl rfl rfl ?_
    refine ev_aload_n (pc' := 34) dX7_relation_33 rfl rfl ?_
    refine ev_getf (pc' := 37) fl_7_200 dX7_relation_34 rfl rfl rfl ?_
    refine ev_if_ne (tgt := 54) (pc' := 40) dX7_relation_37 (by decide) rfl (fun h_37 => ?_) (fun h_37 => ?_)
    · refine ev_aload_n (pc' := 55) dX7_relation_54 rfl rfl ?_
      refine ev_cVv0 (pc' := 58) cl_7_221 (m_next σ τ i (by omega) h11) dX7_relation_55 rfl rfl rfl rfl ?_
      refine ev_aload_n (pc' := 59) dX7_relation_58 rfl rfl ?_
      refine ev_getf (pc' := 62) fl_7_236 dX7_relation_59 rfl rfl rfl ?_
      refine ev_istore (pc' := 64) (ls' := [_, _, _, _, _, _]) dX7_relation_62 rfl rfl rfl ?_
      refine ev_aload_n (pc' := 65) dX7_relation_64 rfl rfl ?_
      refine ev_cVr0 (pc' := 68) cl_7_242 (cE) dX7_relation_65 rfl rfl rfl rfl ?_
      rintro v w1 hq -
      obtain ⟨rfl, σ1, rfl, hx1, h1⟩ := hq
      refine ev_aload_n (pc' := 69) dX7_relation_68 rfl rfl ?_
      refine ev_getf (pc' := 72) fl_7_200 dX7_relation_69 rfl rfl rfl ?_
      refine ev_if_le (tgt := 76) (pc' := 75) dX7_relation_72 (by decide) rfl (fun h_72 => ?_) (fun h_72 => ?_)
      · exact absurd (flt_ne h1).2 (Int32.not_lt.mpr h_72) --
      · refine ev_return rfl dX7_relation_75 ?_
        exact ⟨rfl, σ1, rfl, hx.trans ((xk_next (i := i)).rk.trans hx1.rk), Or.inl h1⟩
    · exact absurd h_37 hn.1 --
theorem m_rel_flt58 {d n : Nat} {t : Nat → Int32} {b f : Nat} {R : Int32 × Nat × YS} {σ0 σ : RS} {τ : TS} {gr : Bool} {D : List YL × List YC × List YR} {orf : Bool} {l : List YC} {q : Nat} {x1 x2 x3 : Int32} {z4 z5 : Option Value} (h : flt R σ) (hx : rk b q σ0 σ) : Ev (d + 5) M7_relation (reQ n t b f R σ0 τ gr D orf l q) 58 [some (.ref 0), some (.int x1), some (.int x2), some (.int x3), z4, z5] [] (WM σ τ) := by
  have cE := m_expr_flt (d := d) (b := b) (τ := τ) h
  refine ev_aload_n (pc' := 59) dX7_relation_58 rfl rfl ?_
  refine ev_getf (pc' := 62) fl_7_236 dX7_relation_59 rfl rfl rfl ?_
  refine ev_istore (pc' := 64) (ls' := [_, _, _, _, _, _]) dX7_relation_62 rfl rfl rfl ?_
  refine ev_aload_n (pc' := 65) dX7_relation_64 rfl rfl ?_
  refine ev_cVr0 (pc' := 68) cl_7_242 (cE) dX7_relation_65 rfl rfl rfl rfl ?_
  rintro v w1 hq -
  obtain ⟨rfl, σ1, rfl, hx1, h1⟩ := hq
  refine ev_aload_n (pc' := 69) dX7_relation_68 rfl rfl ?_
  refine ev_getf (pc' := 72) fl_7_200 dX7_relation_69 rfl rfl rfl ?_
  refine ev_if_le (tgt := 76) (pc' := 75) dX7_relation_72 (by decide) rfl (fun h_72 => ?_) (fun h_72 => ?_)
  · exact absurd (flt_ne h1).2 (Int32.not_lt.mpr h_72) --
  · refine ev_return rfl dX7_relation_75 ?_
    exact ⟨rfl, σ1, rfl, hx.trans hx1.rk, Or.inl h1⟩
theorem m_rel_flt54 {d n : Nat} {t : Nat → Int32} {b f : Nat} {R : Int32 × Nat × YS} {σ0 σ : RS} {τ : TS} {gr : Bool} {D : List YL × List YC × List YR} {orf : Bool} {l : List YC} {q : Nat} {x1 x2 x3 : Int32} {z4 z5 : Option Value} (h : flt R σ) (hx : rk b q σ0 σ) : Ev (d + 5) M7_relation (reQ n t b f R σ0 τ gr D orf l q) 54 [some (.ref 0), some (.int x1), some (.int x2), some (.int x3), z4, z5] [] (WM σ τ) := by
  obtain ⟨i, hi, h11⟩ := h.2.2.2
  refine ev_aload_n (pc' := 55) dX7_relation_54 rfl rfl ?_
  refine ev_cVv0 (pc' := 58) cl_7_221 (m_next σ τ i (by omega) h11) dX7_relation_55 rfl rfl rfl rfl ?_
  exact m_rel_flt58 (flt_next h hi) (hx.trans (xk_next (i := i)).rk)
theorem m_rel_flt68 {d n : Nat} {t : Nat → Int32} {b f : Nat} {R : Int32 × Nat × YS} {σ0 σ : RS} {τ : TS} {gr : Bool} {D : List YL × List YC × List YR} {orf : Bool} {l : List YC} {q : Nat} {x1 x2 x3 : Int32} {z4 z5 : Option Value} (h : flt R σ) (hx : rk b q σ0 σ) : Ev (d + 5) M7_relation (reQ n t b f R σ0 τ gr D orf l q) 68 [some (.ref 0), some (.int x1), some (.int x2), some (.int x3), z4, z5] [] (WM σ τ) := by
  refine ev_aload_n (pc' := 69) dX7_relation_68 rfl rfl ?_
  refine ev_getf (pc' := 72) fl_7_200 dX7_relation_69 rfl rfl rfl ?_
  refine ev_if_le (tgt := 76) (pc' := 75) dX7_relation_72 (by decide) rfl (fun h_72 => ?_) (fun h_72 => ?_)
  · exact absurd (flt_ne h).2 (Int32.not_lt.mpr h_72) --
  · refine ev_return rfl dX7_relation_75 ?_
    exact ⟨rfl, σ, rfl, hx, Or.inl h⟩
theorem m_relation {d n : Nat} {t : Nat → Int32} {b f : Nat} {R : Int32 × Nat × YS} {σ : RS} {τ : TS} {tk : Nat} {gr : Bool} {D : List YL × List YC × List YR} {orf : Bool} {L0 : List YC} {op0 : Int32} {l : List YC} {q : Nat} (hb : b ≤ 1) (h : exI n t b f R σ 1 gr (D, (orf, L0, op0)) l 2 tk [] [] (s2 σ 0 36 0)) (hq : q < 200) (h14 : σ 14 b = nI q) (h19 : σ 0 19 = nI b) : Ok (d + 5) M7_relation [.ref 0, .int (bI orf)] (WM σ τ) (reQ n t b f R σ τ gr D orf l q) := by
  have h12 : σ 0 12 = 0 := h.2.1.2.2
  have hen0 : ents n t σ := ents_keep h.2.2.2.2.2.1 rfl rfl rfl
  have hmc0 : mc b σ (l ++ []) := mc_same h.2.2.2.1 rfl rfl rfl
  rw [List.append_nil] at hmc0
  have cE1 := m_expression (d := d) (τ := τ) hb h h12
  -- behind the right side
  have k68 : ∀ (σ2 : RS) (Lf : List YC) (op x4 : Int32) (z5 : Option Value), x4 = nI (500 * b + (l ++ Lf).length) → rk b q σ σ2 → σ2 14 b = nI q → exG n t b f R 2 gr (D, (orf, Lf, op)) (l ++ Lf) σ2 → Ev (d + 5) M7_relation (reQ n t b f R σ τ gr D orf l q) 68 [some (.ref 0), some (.int (bI orf)), some (.int (nI (500 * b + l.length))), some (.int (op - 11)), some (.int x4), z5] [] (WM σ2 τ) := by
    intro σ2 Lf op x4 z5 hx4 hx2 h14 hG
    obtain ⟨f', tk', wt, out, hf', hrun, hd, ha, ⟨s11, s13, s12⟩, hmc, hle⟩ := hG
    have e19 : σ2 0 19 = nI b := (hx2.1.2.1 19 (by omega) (by omega) (by omega) (by omega) (by omega) (by omega)).trans h19
    have vb2 : vp_in (σ2 0 19) 2 := by rw [e19]; exact vp_in_nI (by omega) (by omega)
    have eb : (σ2 0 19).toNatClampNeg = b := by rw [e19]; exact nI_clamp (by omega)
    have ei : (200 : Int32) * nI b + nI q = nI (200 * b + q) := by rw [show (200 : Int32) * nI b = nI (200 * b) from nI_mul 200 b, nI_add]
    have vi : vp_in (nI (200 * b + q)) 400 := vp_in_nI (by omega) (by omega)
    have ec : (nI (200 * b + q)).toNatClampNeg = 200 * b + q := nI_clamp (by omega)
    have eor : vp_nar .boolean (bI orf) = bI orf := by cases orf <;> rfl
    obtain ⟨i, hi⟩ : ∃ i, i = 200 * b + q := ⟨_, rfl⟩
    rw [← hi] at ei vi ec
    have fin : ∀ σ3, σ3 = s2 (s2 (s2 (s2 (s2 (s2 σ2 15 i (op - 11)) 16 i (nI (500 * b + l.length))) 17 i x4) 18 i (σ2 0 32)) 19 i (bI orf)) 14 b (nI q + 1) → reQ n t b f R σ τ gr D orf l q none (WM σ3 τ) := by
      intro σ3 h3
      have hx3 : rk b q σ2 σ3 := by
        rw [h3, hi]
        exact (((((rk_row _ hq (by omega) (by omega)).trans (rk_row _ hq (by omega) (by omega))).trans (rk_row _ hq (by omega) (by omega))).trans (rk_row _ hq (by omega) (by omega))).trans (rk_row _ hq (by omega) (by omega))).trans (rk_14 _)
      refine ⟨rfl, σ3, rfl, hx2.trans hx3, Or.inr ⟨f', tk', wt, out, Lf, op, hf', hrun, hd, ha, ?_, ?_, hle, ?_, ?_⟩⟩
      · rw [h3]; exact ⟨s11, s13, s12⟩
      · rw [h3]; exact mc_same hmc rfl rfl rfl
      · rw [← hi, h3]
        refine ⟨upd_same _ _ _, upd_same _ _ _, (upd_same _ _ _).trans ?_, (upd_same _ _ _).trans ?_, upd_same _ _ _⟩
        · rw [hx4, List.length_append, Nat.add_assoc]
        · rw [hmc.1]
          congr 1
          simp only [List.length_append]
          omega
      · rw [h3]
        exact (upd_same _ _ _).trans (nI_1 q)
    refine ev_aload_n (pc' := 69) dX7_relation_68 rfl rfl ?_
    refine ev_getf (pc' := 72) fl_7_200 dX7_relation_69 rfl rfl rfl ?_
    refine ev_if_le (tgt := 76) (pc' := 75) dX7_relation_72 (by decide) rfl (fun h_72 => ?_) (fun h_72 => ?_)
    · refine ev_sipush (pc' := 79) (v := 200) dX7_relation_76 rfl (by decide) ?_
      refine ev_aload_n (pc' := 80) dX7_relation_79 rfl rfl ?_
      refine ev_getf (pc' := 83) fl_7_233 dX7_relation_80 rfl rfl rfl ?_
      show Ev _ _ _ _ _ [.int (σ2 0 19), .int 200] _
      rw [e19]
      refine ev_imul (pc' := 84) dX7_relation_83 rfl ?_
      refine ev_aload_n (pc' := 85) dX7_relation_84 rfl rfl ?_
      refine ev_getf (pc' := 88) fl_7_58 dX7_relation_85 rfl rfl rfl ?_
      refine ev_aload_n (pc' := 89) dX7_relation_88 rfl rfl ?_
      refine ev_getf (pc' := 92) fl_7_233 dX7_relation_89 rfl rfl rfl ?_
      refine ev_iald (pc' := 93) dX7_relation_92 rfl rfl ?_ ?_
      · exact vb2
      rw [eb, h14]
      refine ev_iadd (pc' := 94) dX7_relation_93 rfl ?_
      rw [ei]
      refine ev_istore (pc' := 96) (ls' := [_, _, _, _, _, _]) dX7_relation_94 rfl rfl rfl ?_
      refine ev_aload_n (pc' := 97) dX7_relation_96 rfl rfl ?_
      refine ev_getf (pc' := 100) fl_7_61 dX7_relation_97 rfl rfl rfl ?_
      refine ev_iload (pc' := 102) dX7_relation_100 rfl rfl ?_
      refine ev_iload_n (pc' := 103) dX7_relation_102 rfl rfl ?_
      refine ev_iast (pc' := 104) dX7_relation_103 rfl rfl ?_ (WM_a15 _ _ _) ?_
      · exact vi
      refine ev_aload_n (pc' := 105) dX7_relation_104 rfl rfl ?_
      refine ev_getf (pc' := 108) fl_7_64 dX7_relation_105 rfl rfl rfl ?_
      refine ev_iload (pc' := 110) dX7_relation_108 rfl rfl ?_
      refine ev_iload_n (pc' := 111) dX7_relation_110 rfl rfl ?_
      refine ev_iast (pc' := 112) dX7_relation_111 rfl rfl ?_ (WM_a16 _ _ _) ?_
      · exact vi
      refine ev_aload_n (pc' := 113) dX7_relation_112 rfl rfl ?_
      refine ev_getf (pc' := 116) fl_7_67 dX7_relation_113 rfl rfl rfl ?_
      refine ev_iload (pc' := 118) dX7_relation_116 rfl rfl ?_
      refine ev_iload (pc' := 120) dX7_relation_118 rfl rfl ?_
      refine ev_iast (pc' := 121) dX7_relation_120 rfl rfl ?_ (WM_a17 _ _ _) ?_
      · exact vi
      refine ev_aload_n (pc' := 122) dX7_relation_121 rfl rfl ?_
      refine ev_getf (pc' := 125) fl_7_70 dX7_relation_122 rfl rfl rfl ?_
      refine ev_iload (pc' := 127) dX7_relation_125 rfl rfl ?_
      refine ev_aload_n (pc' := 128) dX7_relation_127 rfl rfl ?_
      refine ev_getf (pc' := 131) fl_7_236 dX7_relation_128 rfl rfl rfl ?_
      refine ev_iast (pc' := 132) dX7_relation_131 rfl rfl ?_ (WM_a18 _ _ _) ?_
      · exact vi
      refine ev_aload_n (pc' := 133) dX7_relation_132 rfl rfl ?_
      refine ev_getf (pc' := 136) fl_7_73 dX7_relation_133 rfl rfl rfl ?_
      refine ev_iload (pc' := 138) dX7_relation_136 rfl rfl ?_
      refine ev_iload_n (pc' := 139) dX7_relation_138 rfl rfl ?_
      refine ev_zast (pc' := 140) dX7_relation_139 rfl rfl ?_ (WM_a19 _ _ _) ?_
      · exact vi
      refine ev_aload_n (pc' := 141) dX7_relation_140 rfl rfl ?_
      refine ev_getf (pc' := 144) fl_7_58 dX7_relation_141 rfl rfl rfl ?_
      refine ev_aload_n (pc' := 145) dX7_relation_144 rfl rfl ?_
      refine ev_getf (pc' := 148) fl_7_233 dX7_relation_145 rfl rfl rfl ?_
      refine ev_dup2 (pc' := 149) dX7_relation_148 rfl rfl rfl ?_
      refine ev_iald (pc' := 150) dX7_relation_149 rfl rfl ?_ ?_
      · exact vb2
      show Ev _ _ _ _ _ [.int (σ2 14 (σ2 0 19).toNatClampNeg), .int (σ2 0 19), .ref 14] _
      rw [eb, h14]
      refine ev_iconst (pc' := 151) (v := 1) dX7_relation_150 rfl (by decide) ?_
      refine ev_iadd (pc' := 152) dX7_relation_151 rfl ?_
      refine ev_iast (pc' := 153) dX7_relation_152 rfl rfl ?_ (WM_a14 _ _ _) ?_
      · exact vb2
      refine ev_return rfl dX7_relation_153 ?_
      refine fin _ ?_
      rw [ec, eor]
      show s2 _ 14 (σ2 0 19).toNatClampNeg _ = _
      rw [eb]
      rfl
    · exact absurd (by rw [s13]; decide) h_72 --
  -- behind the left side
  have k9 : ∀ σ1, xk b σ σ1 → exG n t b f R 1 gr (D, (orf, L0, op0)) l σ1 → ∀ z3 z4 z5, Ev (d + 5) M7_relation (reQ n t b f R σ τ gr D orf l q) 9 [some (.ref 0), some (.int (bI orf)), some (.int (nI (500 * b + l.length))), z3, z4, z5] [] (WM σ1 τ) := by
    intro σ1 hx1 hG z3 z4 z5
    obtain ⟨f', tk', wt, out, hf', ⟨hrun, hok, hne⟩, hd, ha, ⟨s11, s13, s12⟩, hmc, hle⟩ := hG
    obtain ⟨hw, hd6, h400⟩ := ym_ok_wt hok
    have hwf := ym_ok_wf hok rfl
    have en1 := ents_xk hen0 hx1
    obtain ⟨hT, h4T, h5T⟩ := ents_is en1 h400 hne
    obtain ⟨hE1, -, -⟩ := en1 tk' h400 hne
    obtain ⟨qq, hqq, hkq, hvp⟩ := x_tok_kind n t (tpos n t tk')
    change (tkn n t tk').2.1 = nI qq at hkq
    change (tkn n t tk').2.1 = 5 → vp_in (tkn n t tk').2.2.1 9 at hvp
    have hsort := sort_of (tk_small hqq hkq hvp hE1)
    obtain ⟨-, -, -, -, trel, -, tvr⟩ := hT
    generalize hk : (tkn n t tk').2.1 = k at *
    generalize hv : (tkn n t tk').2.2.1 = v at *
    have e11 : (σ1 0 11).toNatClampNeg = tk' := by rw [s11]; exact nI_clamp (by omega)
    have v11 : vp_in (σ1 0 11) 403 := by rw [s11]; exact vp_in_nI (by omega) (by omega)
    have hfit : ym_fits ((3, 1, tk', gr), (wt, out), D, (orf, L0, op0)) k = z_isRel k := by
      rw [ym_fits_3 ha hd, if_neg (by omega), if_pos rfl]
    have kB : ¬ z_isRel k = true → flt R (m_fail' σ1 tk' 1) := fun z => flt_fail (ym_run_bad hrun (by rw [hk, hfit]; simpa using z)) (Or.inl rfl) s13 s11 h400 h4T
    have k58 : z_isRel k = true → Ev (d + 5) M7_relation (reQ n t b f R σ τ gr D orf l q) 58 [some (.ref 0), some (.int (bI orf)), some (.int (nI (500 * b + l.length))), some (.int (k - 11)), z4, z5] [] (WM (m_next' σ1 tk') τ) := by
      intro hr
      have hft : ym_fits ((3, 1, tk', gr), (wt, out), D, (orf, L0, op0)) k = true := by rw [hfit]; exact hr
      obtain ⟨-, -, -, -, n15, -⟩ := ym_rel_not hr
      have hk17 : ¬ k = 17 := by rcases of_decide_eq_true hr with rfl | rfl | rfl | rfl <;> decide
      have hroom : ym_room ((3, 1, tk', gr), (wt, out), D, (orf, L0, op0)) k = decide (tk' < 400) := ym_room_in (by omega) (fun z => absurd z n15)
      by_cases h4 : tk' = 400
      · rw [m_next_400 h4]
        have hR := ym_run_full hrun (by rw [hk]; exact hft) (by rw [hk]; exact hk17) (by rw [hk, hroom]; exact decide_eq_false (by omega))
        exact m_rel_flt58 (flt_fail hR (Or.inr rfl) s13 s11 h400 h4T) (hx1.rk.trans xk_fail.rk)
      · rw [m_next_go (by omega)]
        obtain ⟨g, hg, hrun2⟩ := ym_run_go hrun (by rw [hk]; exact hft) (by rw [hk]; exact hk17) (by rw [hk, hroom]; exact decide_eq_true (by omega))
        have hok2 := ym_ok_step (v := v) hok hft (by rw [hroom]; exact decide_eq_true (by omega)) hk17 hvp
        rw [hk, hv] at hrun2
        rw [ym_sR hr] at hrun2 hok2
        have xN : xk b σ (s2 σ1 0 11 (nI (tk' + 1))) := hx1.trans (xk_slot _ (by omega))
        have mN : mc b (s2 σ1 0 11 (nI (tk' + 1))) (l ++ ym_fin wt out) := mc_same hmc rfl rfl rfl
        have hI2 : exI n t b g R (s2 σ1 0 11 (nI (tk' + 1))) 2 gr (D, (orf, ym_fin wt out, k)) (l ++ ym_fin wt out) 2 (tk' + 1) [] [] (s2 (s2 σ1 0 11 (nI (tk' + 1))) 0 36 0) := by
          refine ⟨⟨hrun2, hok2, ne_succ hne (by rw [hk]; exact hk17)⟩, ⟨rfl, s13, s12⟩, ⟨rfl, trivial⟩, ?_, ?_, ?_, xk_slot _ (by omega)⟩
          · rw [List.append_nil]; exact mc_same mN rfl rfl rfl
          · simp only [List.length_append, List.length_nil]; omega
          · exact ents_keep en1 rfl rfl rfl
        have cE2 := m_expression (d := d) (τ := τ) hb hI2 s12
        refine ev_aload_n (pc' := 59) dX7_relation_58 rfl rfl ?_
        refine ev_getf (pc' := 62) fl_7_236 dX7_relation_59 rfl rfl rfl ?_
        rw [mN.1]
        refine ev_istore (pc' := 64) (ls' := [_, _, _, _, _, _]) dX7_relation_62 rfl rfl rfl ?_
        refine ev_aload_n (pc' := 65) dX7_relation_64 rfl rfl ?_
        refine ev_cVr0 (pc' := 68) cl_7_242 (cE2) dX7_relation_65 rfl rfl rfl rfl ?_
        rintro v w1 hq -
        obtain ⟨rfl, σ2, rfl, hx2, h2⟩ := hq
        have xx := xN.trans hx2
        rcases h2 with h2 | ⟨f2, tk2, wt2, out2, hf2, h2⟩
        · exact m_rel_flt68 h2 xx.rk
        · exact k68 σ2 _ _ _ _ rfl xx.rk ((congrFun (xx.2 14 (by omega) (by omega)) b).trans h14) ⟨f2, tk2, wt2, out2, by omega, h2⟩
    have k49 : ∀ x3 : Int32, flt R (m_fail' σ1 tk' 1) → Ev (d + 5) M7_relation (reQ n t b f R σ τ gr D orf l q) 49 [some (.ref 0), some (.int (bI orf)), some (.int (nI (500 * b + l.length))), some (.int x3), z4, z5] [] (WM σ1 τ) := by
      intro x3 hF
      refine ev_aload_n (pc' := 50) dX7_relation_49 rfl rfl ?_
      refine ev_iconst (pc' := 51) (v := 1) dX7_relation_50 rfl (by decide) ?_
      refine ev_cVv1 (pc' := 54) cl_7_215 (m_fail σ1 τ tk' (by omega) s11 1) dX7_relation_51 rfl rfl rfl rfl ?_
      exact m_rel_flt54 hF (hx1.rk.trans xk_fail.rk)
    refine ev_aload_n (pc' := 10) dX7_relation_9 rfl rfl ?_
    refine ev_getf (pc' := 13) fl_7_200 dX7_relation_10 rfl rfl rfl ?_
    refine ev_if_le (tgt := 20) (pc' := 16) dX7_relation_13 (by decide) rfl (fun h_13 => ?_) (fun h_13 => ?_)
    · refine ev_aload_n (pc' := 21) dX7_relation_20 rfl rfl ?_
      refine ev_getf (pc' := 24) fl_7_20 dX7_relation_21 rfl rfl rfl ?_
      refine ev_aload_n (pc' := 25) dX7_relation_24 rfl rfl ?_
      refine ev_getf (pc' := 28) fl_7_203 dX7_relation_25 rfl rfl rfl ?_
      refine ev_iald (pc' := 29) dX7_relation_28 rfl rfl ?_ ?_
      · exact v11
      rw [e11]
      refine ev_bipush (pc' := 31) (v := 11) dX7_relation_29 rfl (by decide) ?_
      refine ev_isub (pc' := 32) dX7_relation_31 rfl ?_
      refine ev_istore_n (pc' := 33) (ls' := [_, _, _, _, _, _]) dX7_relation_32 rfl rfl rfl ?_
      refine ev_aload_n (pc' := 34) dX7_relation_33 rfl rfl ?_
      refine ev_getf (pc' := 37) fl_7_200 dX7_relation_34 rfl rfl rfl ?_
      refine ev_if_ne (tgt := 54) (pc' := 40) dX7_relation_37 (by decide) rfl (fun h_37 => ?_) (fun h_37 => ?_)
      · exact absurd s13 h_37 --
      · refine ev_iload_n (pc' := 41) dX7_relation_40 rfl rfl ?_
        refine ev_if_lt (tgt := 49) (pc' := 44) dX7_relation_41 (by decide) rfl (fun h_41 => ?_) (fun h_41 => ?_)
        · have hF := kB (fun z => (hsort.mpr (trel.mpr z)).1 h_41)
          exact k49 _ hF
        · refine ev_iload_n (pc' := 45) dX7_relation_44 rfl rfl ?_
          refine ev_iconst (pc' := 46) (v := 3) dX7_relation_45 rfl (by decide) ?_
          refine ev_icmp_le (tgt := 54) (pc' := 49) dX7_relation_46 (by decide) rfl (fun h_46 => ?_) (fun h_46 => ?_)
          · have hr : z_isRel k = true := trel.mp (hsort.mp ⟨h_41, h_46⟩)
            rw [tvr hr]
            refine ev_aload_n (pc' := 55) dX7_relation_54 rfl rfl ?_
            refine ev_cVv0 (pc' := 58) cl_7_221 (m_next σ1 τ tk' (by omega) s11) dX7_relation_55 rfl rfl rfl rfl ?_
            exact k58 hr
          · have hF := kB (fun z => h_46 (hsort.mpr (trel.mpr z)).2)
            exact k49 _ hF
    · exact absurd (by rw [s13]; decide) h_13 --
  refine Ok.of (ls := [some _, some _, none, none, none, none]) (by decide +kernel) (Nat.le_of_ble_eq_true rfl) rfl ?_
  refine ev_aload_n (pc' := 1) dX7_relation_0 rfl rfl ?_
  refine ev_getf (pc' := 4) fl_7_236 dX7_relation_1 rfl rfl rfl ?_
  rw [hmc0.1]
  refine ev_istore_n (pc' := 5) (ls' := [_, _, _, _, _, _]) dX7_relation_4 rfl rfl rfl ?_
  refine ev_aload_n (pc' := 6) dX7_relation_5 rfl rfl ?_
  refine ev_cVr0 (pc' := 9) cl_7_242 (cE1) dX7_relation_6 rfl rfl rfl rfl ?_
  rintro v w1 hq -
  obtain ⟨rfl, σ1, rfl, hx1, h1⟩ := hq
  rcases h1 with h1 | h1
  · exact m_rel_flt h1 hx1.rk
  · exact k9 σ1 hx1 h1 _ _ _
