/-! The model reads an expression. -/
abbrev YX : Type := (List YL × List YC × List YR) × (Bool × List YC × Int32)
theorem ym_ok_wt {aw sd tk : Nat} {gr : Bool} {wt : List Int32} {out : List YC} {X : YX} (h : ym_ok ((aw, sd, tk, gr), (wt, out), X)) : ym_wt wt ∧ ym_dp wt ≤ 6 ∧ tk ≤ 400 := by
  obtain ⟨⟨done, E, rels⟩, orf, L, op⟩ := X
  obtain ⟨a1, a2, a3, a4, a5, -⟩ := h
  exact ⟨a4, a5, a3⟩
theorem ym_sU {k v : Int32} {aw sd tk : Nat} {gr : Bool} {wt : List Int32} {out : List YC} {X : YX} (h : k = 6 ∨ k = 5) : ym_step k v ((aw, sd, tk, gr), (wt, out), X) = ((3, sd, tk + 1, gr), (wt, out ++ [(k, v)]), X) := by
  obtain ⟨⟨done, E, rels⟩, orf, L, op⟩ := X
  exact ym_step_unit h
theorem ym_sO {v : Int32} {aw sd tk : Nat} {gr : Bool} {wt : List Int32} {out : List YC} {X : YX} : ym_step 15 v ((aw, sd, tk, gr), (wt, out), X) = ((2, sd, tk + 1, gr), (15 :: wt, out), X) := by
  obtain ⟨⟨done, E, rels⟩, orf, L, op⟩ := X
  rfl
theorem ym_sC {v : Int32} {aw sd tk : Nat} {gr : Bool} {wt : List Int32} {out : List YC} {X : YX} : ym_step 16 v ((aw, sd, tk, gr), (wt, out), X) = ((3, sd, tk + 1, gr), ((ym_set 1 wt out).1.tail, (ym_set 1 wt out).2), X) := by
  obtain ⟨⟨done, E, rels⟩, orf, L, op⟩ := X
  rfl
theorem ym_sA {k v : Int32} {aw sd tk : Nat} {gr : Bool} {wt : List Int32} {out : List YC} {X : YX} (h : k = 8 ∨ k = 9 ∨ k = 10) : ym_step k v ((aw, sd, tk, gr), (wt, out), X) = ((2, sd, tk + 1, gr), (k :: (ym_set (z_rank k) wt out).1, (ym_set (z_rank k) wt out).2), X) := by
  obtain ⟨⟨done, E, rels⟩, orf, L, op⟩ := X
  exact ym_step_op h
theorem ym_run_bad {n : Nat} {t : Nat → Int32} {f j : Nat} {S : YS} {R : Int32 × Nat × YS} (h : ym_run n t f (tpos n t j) S = some R) (h1 : ym_fits S (tkn n t j).2.1 = false) : R = (1, (tkn n t j).1, S) := by
  rcases ym_run_inv h with ⟨_, e⟩ | ⟨e, _⟩ | ⟨e, _⟩ | ⟨e, _⟩
  · exact e
  · rw [h1] at e; cases e
  · rw [h1] at e; cases e
  · rw [h1] at e; cases e
theorem ym_run_full {n : Nat} {t : Nat → Int32} {f j : Nat} {S : YS} {R : Int32 × Nat × YS} (h : ym_run n t f (tpos n t j) S = some R) (h1 : ym_fits S (tkn n t j).2.1 = true) (h2 : ¬ (tkn n t j).2.1 = 17) (h3 : ym_room S (tkn n t j).2.1 = false) : R = (2, (tkn n t j).1, S) := by
  rcases ym_run_inv h with ⟨e, _⟩ | ⟨_, e, _⟩ | ⟨_, _, _, e⟩ | ⟨_, _, e, _⟩
  · rw [h1] at e; cases e
  · exact absurd e h2
  · exact e
  · rw [h3] at e; cases e
theorem ym_run_go {n : Nat} {t : Nat → Int32} {f j : Nat} {S : YS} {R : Int32 × Nat × YS} (h : ym_run n t f (tpos n t j) S = some R) (h1 : ym_fits S (tkn n t j).2.1 = true) (h2 : ¬ (tkn n t j).2.1 = 17) (h3 : ym_room S (tkn n t j).2.1 = true) : ∃ g, f = g + 1 ∧ ym_run n t g (tpos n t (j + 1)) (ym_step (tkn n t j).2.1 (tkn n t j).2.2.1 S) = some R := by
  rcases ym_run_inv h with ⟨e, _⟩ | ⟨_, e, _⟩ | ⟨_, _, e, _⟩ | ⟨_, _, _, e⟩
  · rw [h1] at e; cases e
  · exact absurd e h2
  · rw [h3] at e; cases e
  · exact e
theorem ym_room_in {aw sd tk : Nat} {gr : Bool} {wt : List Int32} {out : List YC} {X : YX} {k : Int32} (h : ¬ aw = 0) (hk : k = 15 → ym_dp wt < 6) : ym_room ((aw, sd, tk, gr), (wt, out), X) k = decide (tk < 400) := by
  unfold ym_room
  dsimp only
  rw [if_neg (fun z => h z.1), if_neg (fun z => by have := hk z.1; omega)]
def flt (R : Int32 × Nat × YS) (σ : RS) : Prop := (R.1 = 1 ∨ R.1 = 2) ∧ σ 0 13 = R.1 ∧ σ 0 14 = nI R.2.1 ∧ ∃ i : Nat, i ≤ 400 ∧ σ 0 11 = nI i
theorem flt_ne {R : Int32 × Nat × YS} {σ : RS} (h : flt R σ) : ¬ σ 0 13 = 0 ∧ 0 < σ 0 13 := by
  obtain ⟨h1, h2, -⟩ := h
  rw [h2]
  rcases h1 with e | e <;> rw [e] <;> decide
/-- the state while an expression is read -/
def exI (n : Nat) (t : Nat → Int32) (b f : Nat) (R : Int32 × Nat × YS) (σ0 : RS) (sd : Nat) (gr : Bool) (X : YX) (l : List YC) (aw tk : Nat) (wt : List Int32) (out : List YC) (σ : RS) : Prop :=
  (ym_run n t f (tpos n t tk) ((aw, sd, tk, gr), (wt, out), X) = some R ∧ ym_ok ((aw, sd, tk, gr), (wt, out), X) ∧ ∀ i, i < tk → ¬ (tkn n t i).2.1 = 17) ∧ (σ 0 11 = nI tk ∧ σ 0 13 = 0 ∧ σ 0 12 = nI (ym_dp wt)) ∧ mwt σ wt ∧ mc b σ (l ++ out) ∧ l.length + out.length + wt.length ≤ tk ∧ ents n t σ ∧ xk b σ0 σ
def exG (n : Nat) (t : Nat → Int32) (b f : Nat) (R : Int32 × Nat × YS) (sd : Nat) (gr : Bool) (X : YX) (l : List YC) (σ : RS) : Prop :=
  ∃ f' tk wt out, f' ≤ f ∧ (ym_run n t f' (tpos n t tk) ((3, sd, tk, gr), (wt, out), X) = some R ∧ ym_ok ((3, sd, tk, gr), (wt, out), X) ∧ ∀ i, i < tk → ¬ (tkn n t i).2.1 = 17) ∧ ym_dp wt = 0 ∧ ¬ ((tkn n t tk).2.1 = 8 ∨ (tkn n t tk).2.1 = 9 ∨ (tkn n t tk).2.1 = 10) ∧ (σ 0 11 = nI tk ∧ σ 0 13 = 0 ∧ σ 0 12 = 0) ∧ mc b σ (l ++ ym_fin wt out) ∧ l.length + (ym_fin wt out).length ≤ tk
def exQ (n : Nat) (t : Nat → Int32) (b f : Nat) (R : Int32 × Nat × YS) (σ0 : RS) (τ : TS) (sd : Nat) (gr : Bool) (X : YX) (l : List YC) (v : Option Value) (w : MW) : Prop := v = none ∧ ∃ σ, w = WM σ τ ∧ xk b σ0 σ ∧ (flt R σ ∨ exG n t b f R sd gr X l σ)
def e_push (σ : RS) (x : Int32) : RS := s2 (s1 σ 22 (upd (σ 22) (σ 0 36).toNatClampNeg x)) 0 36 (σ 0 36 + 1)
theorem e_push_rep {b : Nat} {σ : RS} {wt : List Int32} (h : mwt σ wt) (hl : wt.length < 48) (x : Int32) : mwt (e_push σ (wcv x)) (x :: wt) ∧ xk b σ (e_push σ (wcv x)) := by
  have e : (σ 0 36).toNatClampNeg = wt.length := by rw [h.1]; exact nI_clamp (by omega)
  refine ⟨⟨?_, ?_⟩, (xk_22 _).trans (xk_slot _ (by omega))⟩
  · show σ 0 36 + 1 = _
    rw [h.1, nI_1]; rfl
  · show stk (upd (σ 22) (σ 0 36).toNatClampNeg (wcv x)) (wcv x :: wt.map wcv)
    rw [e]
    exact ⟨by rw [List.length_map]; exact upd_same _ _ _, stk_upd _ _ _ (by rw [List.length_map]; exact Nat.le_refl _) h.2⟩
theorem m_fail_ok {σ : RS} {i : Nat} {k : Int32} (h : σ 0 13 = 0) : m_fail' σ i k = s2 (s2 σ 0 13 k) 0 14 (σ 4 i) := by
  unfold m_fail'
  rw [if_neg (by rw [h]; decide)]
theorem m_fail_no {σ : RS} {i : Nat} {k : Int32} (h : 0 < σ 0 13) : m_fail' σ i k = σ := if_pos h
theorem m_is_ok {σ : RS} {i : Nat} {k : Int32} (h : σ 0 13 = 0) : m_is' σ i k = decide (σ 3 i = k) := by
  unfold m_is'
  by_cases e : σ 3 i = k
  · rw [decide_eq_true ⟨h, e⟩, decide_eq_true e]
  · rw [decide_eq_false (fun z => e z.2), decide_eq_false e]
theorem m_is_no {σ : RS} {i : Nat} {k : Int32} (h : ¬ σ 0 13 = 0) : m_is' σ i k = false := decide_eq_false (fun z => h z.1)
theorem xk_fail {b : Nat} {σ : RS} {i : Nat} {k : Int32} : xk b σ (m_fail' σ i k) := by
  unfold m_fail'
  split
  · exact xk.refl b σ
  · exact (xk_slot _ (by omega)).trans (xk_slot _ (by omega))
theorem xk_next {b : Nat} {σ : RS} {i : Nat} : xk b σ (m_next' σ i) := by
  unfold m_next'
  split
  · exact xk_fail
  · exact xk_slot _ (by omega)
/-- a fault: at a token -/
theorem flt_fail {n : Nat} {t : Nat → Int32} {R : Int32 × Nat × YS} {σ : RS} {i : Nat} {k : Int32} {S : YS} (hR : R = (k, (tkn n t i).1, S)) (hk : k = 1 ∨ k = 2) (h13 : σ 0 13 = 0) (h11 : σ 0 11 = nI i) (hi : i ≤ 400) (h4 : σ 4 i = nI (tkn n t i).1) : flt R (m_fail' σ i k) := by
  rw [m_fail_ok h13, hR]
  exact ⟨hk, rfl, h4, i, hi, h11⟩
theorem ex_flt12 {d n : Nat} {t : Nat → Int32} {b f : Nat} {R : Int32 × Nat × YS} {σ0 σ : RS} {τ : TS} {sd : Nat} {gr : Bool} {X : YX} {l : List YC} {x1 x2 : Int32} {z3 z4 : Option Value} (h : flt R σ) (hx : xk b σ0 σ) : Ev (d + 4) M7_expression (exQ n t b f R σ0 τ sd gr X l) 12 [some (.ref 0), some (.int x1), some (.int x2), z3, z4] [] (WM σ τ) := by
  have hn := flt_ne h
  refine ev_iload_n (pc' := 13) dX7_expression_12 rfl rfl ?_
  refine ev_if_eq (tgt := 360) (pc' := 16) dX7_expression_13 (by decide) rfl (fun h_13 => ?_) (fun h_13 => ?_)
  · refine ev_return rfl dX7_expression_360 ?_
    exact ⟨rfl, σ, rfl, hx, Or.inl h⟩
  · refine ev_aload_n (pc' := 17) dX7_expression_16 rfl rfl ?_
    refine ev_getf (pc' := 20) fl_7_200 dX7_expression_17 rfl rfl rfl ?_
    refine ev_if_ne (tgt := 360) (pc' := 23) dX7_expression_20 (by decide) rfl (fun h_20 => ?_) (fun h_20 => ?_)
    · refine ev_return rfl dX7_expression_360 ?_
      exact ⟨rfl, σ, rfl, hx, Or.inl h⟩
    · exact absurd h_20 hn.1 --
theorem ex_flt200 {d n : Nat} {t : Nat → Int32} {b f : Nat} {R : Int32 × Nat × YS} {σ0 σ : RS} {τ : TS} {sd : Nat} {gr : Bool} {X : YX} {l lo : List YC} {x1 x2 x3 : Int32} {wt : List Int32} {z4 : Option Value} (hb : b ≤ 1) (h : flt R σ) (hx : xk b σ0 σ) (hw : ym_wt wt) (hmw : mwt σ wt) (hmc : mc b σ lo) (hl : lo.length + wt.length ≤ 500) (hl2 : wt.length ≤ 48) : Ev (d + 4) M7_expression (exQ n t b f R σ0 τ sd gr X l) 200 [some (.ref 0), some (.int x1), some (.int x2), some (.int x3), z4] [] (WM σ τ) := by
  have hn := flt_ne h
  obtain ⟨i, hi, h11⟩ := h.2.2.2
  have ff : m_fail' σ i 1 = σ := m_fail_no hn.2
  have eo := e_out_rep (b := b) false wt lo σ hw hmw hmc hl
  have e7 : m_is' σ i 7 = false := m_is_no hn.1
  have e8 : m_is' σ i 8 = false := m_is_no hn.1
  have e9 : m_is' σ i 9 = false := m_is_no hn.1
  have e10 : m_is' σ i 10 = false := m_is_no hn.1
  refine ev_aload_n (pc' := 201) dX7_expression_200 rfl rfl ?_
  refine ev_bipush (pc' := 203) (v := 7) dX7_expression_201 rfl (by decide) ?_
  refine ev_cVi1 (pc' := 206) cl_7_218 (m_is σ τ i (by omega) h11 7) dX7_expression_203 rfl rfl rfl rfl ?_
  refine ev_if_eq (tgt := 249) (pc' := 209) dX7_expression_206 (by decide) rfl (fun h_206 => ?_) (fun h_206 => ?_)
  · refine ev_aload_n (pc' := 250) dX7_expression_249 rfl rfl ?_
    refine ev_bipush (pc' := 252) (v := 8) dX7_expression_250 rfl (by decide) ?_
    refine ev_cVi1 (pc' := 255) cl_7_218 (m_is σ τ i (by omega) h11 8) dX7_expression_252 rfl rfl rfl rfl ?_
    refine ev_if_ne (tgt := 276) (pc' := 258) dX7_expression_255 (by decide) rfl (fun h_255 => ?_) (fun h_255 => ?_)
    · rw [e8] at h_255
      exact absurd rfl h_255 --
    · refine ev_aload_n (pc' := 259) dX7_expression_258 rfl rfl ?_
      refine ev_bipush (pc' := 261) (v := 9) dX7_expression_259 rfl (by decide) ?_
      refine ev_cVi1 (pc' := 264) cl_7_218 (m_is σ τ i (by omega) h11 9) dX7_expression_261 rfl rfl rfl rfl ?_
      refine ev_if_ne (tgt := 276) (pc' := 267) dX7_expression_264 (by decide) rfl (fun h_264 => ?_) (fun h_264 => ?_)
      · rw [e9] at h_264
        exact absurd rfl h_264 --
      · refine ev_aload_n (pc' := 268) dX7_expression_267 rfl rfl ?_
        refine ev_bipush (pc' := 270) (v := 10) dX7_expression_268 rfl (by decide) ?_
        refine ev_cVi1 (pc' := 273) cl_7_218 (m_is σ τ i (by omega) h11 10) dX7_expression_270 rfl rfl rfl rfl ?_
        refine ev_if_eq (tgt := 280) (pc' := 276) dX7_expression_273 (by decide) rfl (fun h_273 => ?_) (fun h_273 => ?_)
        · refine ev_iconst (pc' := 281) (v := 0) dX7_expression_280 rfl (by decide) ?_
          refine ev_istore_n (pc' := 282) (ls' := [_, _, _, _, _]) dX7_expression_281 rfl rfl rfl ?_
          refine ev_iload_n (pc' := 283) dX7_expression_282 rfl rfl ?_
          refine ev_if_ne (tgt := 305) (pc' := 286) dX7_expression_283 (by decide) rfl (fun h_283 => ?_) (fun h_283 => ?_)
          · first | exact absurd h_283 (by decide) | exact absurd (by decide) h_283 --
          · refine ev_aload_n (pc' := 287) dX7_expression_286 rfl rfl ?_
            refine ev_getf (pc' := 290) fl_7_227 dX7_expression_287 rfl rfl rfl ?_
            refine ev_iload_n (pc' := 291) dX7_expression_290 rfl rfl ?_
            refine ev_icmp_le (tgt := 299) (pc' := 294) dX7_expression_291 (by decide) rfl (fun h_291 => ?_) (fun h_291 => ?_)
            · try rw [ff]
              refine ev_aload_n (pc' := 300) dX7_expression_299 rfl rfl ?_
              refine ev_iconst (pc' := 301) (v := 0) dX7_expression_300 rfl (by decide) ?_
              refine ev_cVv1 (pc' := 304) cl_7_259 (m_comesOut σ τ false wt.length (500 * b + lo.length) (by omega) (by omega) hmw.1 hmc.1) dX7_expression_301 rfl rfl rfl rfl ?_
              refine ev_return rfl dX7_expression_304 ?_
              dsimp only at eo
              obtain ⟨q1, q2, q3, q4⟩ := eo
              refine ⟨rfl, _, rfl, hx.trans q3, Or.inl ⟨h.1, (q4 13 (by omega) (by omega)).trans h.2.1, (q4 14 (by omega) (by omega)).trans h.2.2.1, i, hi, (q4 11 (by omega) (by omega)).trans h11⟩⟩
            · refine ev_aload_n (pc' := 295) dX7_expression_294 rfl rfl ?_
              refine ev_iconst (pc' := 296) (v := 1) dX7_expression_295 rfl (by decide) ?_
              refine ev_cVv1 (pc' := 299) cl_7_215 (m_fail σ τ i (by omega) h11 1) dX7_expression_296 rfl rfl rfl rfl ?_
              try rw [ff]
              refine ev_aload_n (pc' := 300) dX7_expression_299 rfl rfl ?_
              refine ev_iconst (pc' := 301) (v := 0) dX7_expression_300 rfl (by decide) ?_
              refine ev_cVv1 (pc' := 304) cl_7_259 (m_comesOut σ τ false wt.length (500 * b + lo.length) (by omega) (by omega) hmw.1 hmc.1) dX7_expression_301 rfl rfl rfl rfl ?_
              refine ev_return rfl dX7_expression_304 ?_
              dsimp only at eo
              obtain ⟨q1, q2, q3, q4⟩ := eo
              refine ⟨rfl, _, rfl, hx.trans q3, Or.inl ⟨h.1, (q4 13 (by omega) (by omega)).trans h.2.1, (q4 14 (by omega) (by omega)).trans h.2.2.1, i, hi, (q4 11 (by omega) (by omega)).trans h11⟩⟩
        · rw [e10] at h_273
          exact absurd rfl h_273 --
  · rw [e7] at h_206
    exact absurd rfl h_206 --
theorem ym_ok_wf {aw sd tk : Nat} {gr : Bool} {wt : List Int32} {out : List YC} {X : YX} (h : ym_ok ((aw, sd, tk, gr), (wt, out), X)) : aw = 3 → ym_wf out 0 (ym_no wt + 1) := by
  obtain ⟨⟨done, E, rels⟩, orf, L, op⟩ := X
  exact h.2.2.2.2.2.2.2.2.1.2.2.2.1
theorem ym_close {wt : List Int32} {out : List YC} (hw : ym_wt wt) (hf : ym_wf out 0 (ym_no wt + 1)) (hd : 0 < ym_dp wt) : ∃ r, (ym_set 1 wt out).1 = 15 :: r ∧ ym_dp wt = ym_dp r + 1 ∧ ym_wt r := by
  have hs := ym_set_ok (least := 1) (by decide) wt out hw hf
  have hh := ym_set_head (least := 1) wt out
  generalize ym_set 1 wt out = q at *
  obtain ⟨q1, q2⟩ := q
  dsimp only at *
  cases q1 with
  | nil => rw [← hs.2.2] at hd; exact absurd hd (Nat.lt_irrefl 0)
  | cons x r =>
    have hx : x = 15 := by
      have h5 := hh x rfl
      rcases hs.1.2.1 with rfl | rfl | rfl | rfl
      · rfl
      · exact absurd h5 (by decide)
      · exact absurd h5 (by decide)
      · exact absurd h5 (by decide)
    subst hx
    have := hs.2.2
    rw [ym_dp, if_pos rfl] at this
    exact ⟨r, rfl, this.symm, hs.1.1⟩
theorem ents_xk {n : Nat} {t : Nat → Int32} {b : Nat} {σ σ' : RS} (h : ents n t σ) (hx : xk b σ σ') : ents n t σ' := ents_keep h (hx.1.1 3 (by omega) (by omega)) (hx.1.1 4 (by omega) (by omega)) (hx.1.1 5 (by omega) (by omega))
theorem m_next_go {σ : RS} {i : Nat} (h : i < 400) : m_next' σ i = s2 σ 0 11 (nI (i + 1)) := if_neg (by omega)
theorem m_next_400 {σ : RS} {i : Nat} (h : i = 400) : m_next' σ i = m_fail' σ i 2 := if_pos h
theorem ym_set_le (least : Int32) : ∀ (wt : List Int32) (out : List YC), (ym_set least wt out).1.length ≤ wt.length := by
  intro wt
  induction wt with
  | nil => intro out; exact Nat.le_refl _
  | cons x r ih =>
    intro out
    rw [ym_set]
    split
    · have := ih (out ++ [(x, 0)]); rw [List.length_cons]; omega
    · exact Nat.le_refl _
theorem m_next_36 (σ : RS) (i : Nat) : m_next' σ i 0 36 = σ 0 36 := by
  unfold m_next' m_fail'
  split
  · split
    · rfl
    · rfl
  · rfl
theorem ne_succ {n : Nat} {t : Nat → Int32} {tk : Nat} (h : ∀ i, i < tk → ¬ (tkn n t i).2.1 = 17) (h2 : ¬ (tkn n t tk).2.1 = 17) : ∀ i, i < tk + 1 → ¬ (tkn n t i).2.1 = 17 := fun i hi => by
  by_cases e : i = tk
  · rw [e]; exact h2
  · exact h i (by omega)
theorem ex_loops {d n : Nat} {t : Nat → Int32} {b f0 : Nat} {R : Int32 × Nat × YS} {σ0 : RS} {τ : TS} {sd : Nat} {gr : Bool} {X : YX} {l : List YC} (hb : b ≤ 1) : ∀ f, f ≤ f0 → (∀ (tk : Nat) (wt : List Int32) (out : List YC) (σ : RS) (z3 z4 : Option Value), exI n t b f R σ0 sd gr X l 2 tk wt out σ → Ev (d + 4) M7_expression (exQ n t b f0 R σ0 τ sd gr X l) 12 [some (.ref 0), some (.int 0), some (.int 1), z3, z4] [] (WM σ τ)) ∧ (∀ (tk : Nat) (wt : List Int32) (out : List YC) (σ : RS) (x2 x3 : Int32) (z4 : Option Value), exI n t b f R σ0 sd gr X l 3 tk wt out σ → Ev (d + 4) M7_expression (exQ n t b f0 R σ0 τ sd gr X l) 200 [some (.ref 0), some (.int 0), some (.int x2), some (.int x3), z4] [] (WM σ τ)) := by
  intro f
  induction f using Nat.strongRecOn with
  | ind f ih =>
  intro hf0
  refine ⟨?_, ?_⟩
  · intro tk wt out σ z3 z4 hI
    obtain ⟨⟨hrun, hok, hne⟩, ⟨h11, h13, h12⟩, hmw, hmc, hl, hen, hxk⟩ := hI
    obtain ⟨hw, hd6, h400⟩ := ym_ok_wt hok
    have hwl := ym_wt_len' hw hd6
    obtain ⟨⟨-, t5, ⟨t6, -⟩, ⟨t15, -⟩, -, tv5, -⟩, h4T, h5T⟩ := ents_is hen h400 hne
    obtain ⟨q, hq, hkq, hvp⟩ := x_tok_kind n t (tpos n t tk)
    change (tkn n t tk).2.1 = nI q at hkq
    change (tkn n t tk).2.1 = 5 → vp_in (tkn n t tk).2.2.1 9 at hvp
    generalize hk : (tkn n t tk).2.1 = k at *
    generalize hv : (tkn n t tk).2.2.1 = v at *
    have e6 : m_is' σ tk 6 = decide (k = 15) := by rw [m_is_ok h13]; exact decide_eq_decide.mpr t15
    have e2 : m_is' σ tk 2 = decide (k = 6) := by rw [m_is_ok h13]; exact decide_eq_decide.mpr t6
    have e11 : (σ 0 11).toNatClampNeg = tk := by rw [h11]; exact nI_clamp (by omega)
    have v11 : vp_in (σ 0 11) 403 := by rw [h11]; exact vp_in_nI (by omega) (by omega)
    have hfit : ym_fits ((2, sd, tk, gr), (wt, out), X) k = decide (k = 6 ∨ k = 5 ∨ k = 15) := rfl
    -- an open (
    have kO : k = 15 → ¬ σ 0 12 = 6 → ∀ (z3 z4 : Option Value), Ev (d + 4) M7_expression (exQ n t b f0 R σ0 τ sd gr X l) 12 [some (.ref 0), some (.int 0), some (.int 1), z3, z4] [] (WM (e_push (m_next' (s2 σ 0 12 (σ 0 12 + 1)) tk) 6) τ) := by
      intro hk15 ho z3 z4
      have hd : ym_dp wt < 6 := by
        refine Nat.lt_of_le_of_ne hd6 (fun z => ho ?_)
        rw [h12, z]; rfl
      have hroom : ym_room ((2, sd, tk, gr), (wt, out), X) k = decide (tk < 400) := ym_room_in (by omega) (fun _ => hd)
      have hft : ym_fits ((2, sd, tk, gr), (wt, out), X) k = true := by rw [hfit]; exact decide_eq_true (Or.inr (Or.inr hk15))
      have hk17 : ¬ k = 17 := by rw [hk15]; decide
      by_cases h4 : tk = 400
      · rw [m_next_400 h4]
        have hR := ym_run_full hrun (by rw [hk]; exact hft) (by rw [hk]; exact hk17) (by rw [hk, hroom]; exact decide_eq_false (by omega))
        have hF : flt R (m_fail' (s2 σ 0 12 (σ 0 12 + 1)) tk 2) := flt_fail hR (Or.inr rfl) h13 h11 h400 h4T
        refine ex_flt12 (σ := e_push _ 6) ⟨hF.1, hF.2.1, hF.2.2.1, hF.2.2.2⟩ ?_
        exact ((hxk.trans (xk_slot _ (by omega))).trans xk_fail).trans ((xk_22 _).trans (xk_slot _ (by omega)))
      · rw [m_next_go (by omega)]
        obtain ⟨g, hg, hrun2⟩ := ym_run_go hrun (by rw [hk]; exact hft) (by rw [hk]; exact hk17) (by rw [hk, hroom]; exact decide_eq_true (by omega))
        have hok2 := ym_ok_step (v := v) hok hft (by rw [hroom]; exact decide_eq_true (by omega)) hk17 hvp
        rw [hk, hv] at hrun2
        rw [hk15, ym_sO] at hrun2 hok2
        obtain ⟨g1, g2⟩ := e_push_rep (b := b) (σ := s2 (s2 σ 0 12 (σ 0 12 + 1)) 0 11 (nI (tk + 1))) (wt := wt) hmw (by omega) 15
        refine (ih g (by omega) (by omega)).1 (tk + 1) (15 :: wt) out _ _ _ ⟨⟨hrun2, hok2, ne_succ hne (by rw [hk]; exact hk17)⟩, ⟨rfl, h13, ?_⟩, g1, mc_same hmc rfl rfl rfl, by rw [List.length_cons]; omega, ?_, ?_⟩
        · show σ 0 12 + 1 = _
          rw [h12, nI_1, ym_dp, if_pos rfl]
        · exact ents_xk (b := b) hen (((xk_slot _ (by omega)).trans (xk_slot _ (by omega))).trans g2)
        · exact ((hxk.trans (xk_slot _ (by omega))).trans (xk_slot _ (by omega))).trans g2
    have kO6 : k = 15 → σ 0 12 = 6 → flt R (m_fail' σ tk 2) := by
      intro hk15 ho
      have hd : 6 ≤ ym_dp wt := by
        rw [h12] at ho
        have := (nI_eq (a := ym_dp wt) (b := 6) (by omega) (by omega)).mp ho
        omega
      have hft : ym_fits ((2, sd, tk, gr), (wt, out), X) k = true := by rw [hfit]; exact decide_eq_true (Or.inr (Or.inr hk15))
      have hR := ym_run_full hrun (by rw [hk]; exact hft) (by rw [hk, hk15]; decide) (by
        rw [hk]
        unfold ym_room
        dsimp only
        rw [if_neg (by omega), if_pos ⟨hk15, hd⟩])
      exact flt_fail hR (Or.inr rfl) h13 h11 h400 h4T
    have kB : ¬ k = 15 → ¬ k = 5 → ¬ k = 6 → flt R (m_fail' σ tk 1) := by
      intro a1 a2 a3
      have hR := ym_run_bad hrun (by rw [hk, hfit]; exact decide_eq_false (fun z => z.elim a3 (fun z => z.elim a2 a1)))
      exact flt_fail hR (Or.inl rfl) h13 h11 h400 h4T
    -- a unit
    have kU : (k = 6 ∨ k = 5) → ∀ (x3 : Int32) (z4 : Option Value) (cv' vv : Int32), cv' = cv k → vv = v → Ev (d + 4) M7_expression (exQ n t b f0 R σ0 τ sd gr X l) 200 [some (.ref 0), some (.int 0), some (.int 1), some (.int x3), z4] [] (WM (m_next' (m_emit' σ (500 * b + (l ++ out).length) cv' vv) tk) τ) := by
      intro hu x3 z4 cv' vv h1 h2
      subst h1
      rw [h2]
      have hroom : ym_room ((2, sd, tk, gr), (wt, out), X) k = decide (tk < 400) := ym_room_in (by omega) (fun z => by rcases hu with rfl | rfl <;> exact absurd z (by decide))
      have hft : ym_fits ((2, sd, tk, gr), (wt, out), X) k = true := by rw [hfit]; exact decide_eq_true (hu.elim Or.inl (fun z => Or.inr (Or.inl z)))
      have hk17 : ¬ k = 17 := by rcases hu with rfl | rfl <;> decide
      have hlo : (l ++ out).length = l.length + out.length := List.length_append
      have g1 := mc_emit hmc k v
      have g2 : xk b σ (m_emit' σ (500 * b + (l ++ out).length) (cv k) v) := xk_emit (by omega) _ _
      by_cases h4 : tk = 400
      · rw [m_next_400 h4]
        have hR := ym_run_full hrun (by rw [hk]; exact hft) (by rw [hk]; exact hk17) (by rw [hk, hroom]; exact decide_eq_false (by omega))
        have hF : flt R (m_fail' (m_emit' σ (500 * b + (l ++ out).length) (cv k) v) tk 2) := flt_fail hR (Or.inr rfl) h13 h11 h400 h4T
        refine ex_flt200 hb hF ((hxk.trans g2).trans xk_fail) hw ?_ ?_ ?_ (by omega) (lo := l ++ out ++ [(k, v)])
        · rw [m_fail_ok (show (m_emit' σ (500 * b + (l ++ out).length) (cv k) v) 0 13 = 0 from h13)]; exact hmw
        · rw [m_fail_ok (show (m_emit' σ (500 * b + (l ++ out).length) (cv k) v) 0 13 = 0 from h13)]; exact mc_same g1 rfl rfl rfl
        · rw [List.length_append, List.length_cons, List.length_nil]; omega
      · rw [m_next_go (by omega)]
        obtain ⟨g, hg, hrun2⟩ := ym_run_go hrun (by rw [hk]; exact hft) (by rw [hk]; exact hk17) (by rw [hk, hroom]; exact decide_eq_true (by omega))
        have hok2 := ym_ok_step (v := v) hok hft (by rw [hroom]; exact decide_eq_true (by omega)) hk17 hvp
        rw [hk, hv] at hrun2
        rw [ym_sU hu] at hrun2 hok2
        have g3 := g2.trans (xk_slot (b := b) (σ := m_emit' σ (500 * b + (l ++ out).length) (cv k) v) (j := 11) (nI (tk + 1)) (by omega))
        refine (ih g (by omega) (by omega)).2 (tk + 1) wt (out ++ [(k, v)]) _ _ _ _ ⟨⟨hrun2, hok2, ne_succ hne (by rw [hk]; exact hk17)⟩, ⟨rfl, h13, h12⟩, hmw, ?_, by rw [List.length_append, List.length_cons, List.length_nil]; omega, ents_xk hen g3, hxk.trans g3⟩
        rw [← List.append_assoc]
        exact mc_same g1 rfl rfl rfl
    have k132 : ¬ k = 15 → ∀ (vb : Int32) (z3 z4 : Option Value), (vb = if k = 5 then 1 else 0) → Ev (d + 4) M7_expression (exQ n t b f0 R σ0 τ sd gr X l) 132 [some (.ref 0), some (.int 0), some (.int 1), z3, z4] [.int vb] (WM σ τ) := by
      intro hk15 vb z3 z4 hvb
      have ev0 : (vb = 0) ↔ ¬ k = 5 := by
        rw [hvb]
        split
        · rename_i z; exact ⟨fun q => absurd q (by decide), fun q => absurd z q⟩
        · rename_i z; exact ⟨fun _ => z, fun _ => rfl⟩
      have hlo : (l ++ out).length = l.length + out.length := List.length_append
      refine ev_istore_n (pc' := 133) (ls' := [_, _, _, _, _]) dX7_expression_132 rfl rfl rfl ?_
      refine ev_aload_n (pc' := 134) dX7_expression_133 rfl rfl ?_
      refine ev_iconst (pc' := 135) (v := 2) dX7_expression_134 rfl (by decide) ?_
      refine ev_cVi1 (pc' := 138) cl_7_218 (m_is σ τ tk (by omega) h11 2) dX7_expression_135 rfl rfl rfl rfl ?_
      refine ev_if_ne (tgt := 150) (pc' := 141) dX7_expression_138 (by decide) rfl (fun h_138 => ?_) (fun h_138 => ?_)
      · rw [e2, bI_0, decide_eq_false_iff_not, Classical.not_not] at h_138
        refine ev_aload_n (pc' := 151) dX7_expression_150 rfl rfl ?_
        refine ev_getf (pc' := 154) fl_7_200 dX7_expression_151 rfl rfl rfl ?_
        refine ev_if_le (tgt := 158) (pc' := 157) dX7_expression_154 (by decide) rfl (fun h_154 => ?_) (fun h_154 => ?_)
        · refine ev_iload_n (pc' := 159) dX7_expression_158 rfl rfl ?_
          refine ev_if_eq (tgt := 182) (pc' := 162) dX7_expression_159 (by decide) rfl (fun h_159 => ?_) (fun h_159 => ?_)
          · rw [ev0] at h_159
            refine ev_aload_n (pc' := 183) dX7_expression_182 rfl rfl ?_
            refine ev_iconst (pc' := 184) (v := 0) dX7_expression_183 rfl (by decide) ?_
            refine ev_aload_n (pc' := 185) dX7_expression_184 rfl rfl ?_
            refine ev_getf (pc' := 188) fl_7_27 dX7_expression_185 rfl rfl rfl ?_
            refine ev_aload_n (pc' := 189) dX7_expression_188 rfl rfl ?_
            refine ev_getf (pc' := 192) fl_7_203 dX7_expression_189 rfl rfl rfl ?_
            refine ev_iald (pc' := 193) dX7_expression_192 rfl rfl ?_ ?_
            · exact v11
            rw [e11]
            refine ev_cVv2 (pc' := 196) cl_7_255 (m_emit σ τ (500 * b + (l ++ out).length) (by omega) hmc.1 _ _) dX7_expression_193 rfl rfl rfl rfl ?_
            refine ev_aload_n (pc' := 197) dX7_expression_196 rfl rfl ?_
            refine ev_cVv0 (pc' := 200) cl_7_221 (m_next _ τ tk (by omega) h11) dX7_expression_197 rfl rfl rfl rfl ?_
            first
              | exact kU (Or.inl h_138) _ _ _ _ (by rw [h_138]; rfl) (h5T h_138)
              | exact kU (Or.inr h_159) _ _ _ _ (by rw [h_159]; rfl) (tv5 h_159)
          · rw [ev0, Classical.not_not] at h_159
            exact absurd (h_138.symm.trans h_159) (by decide) --
        · exact absurd (by rw [h13]; decide) h_154 --
      · rw [e2, bI_0, decide_eq_false_iff_not] at h_138
        refine ev_iload_n (pc' := 142) dX7_expression_141 rfl rfl ?_
        refine ev_if_ne (tgt := 150) (pc' := 145) dX7_expression_142 (by decide) rfl (fun h_142 => ?_) (fun h_142 => ?_)
        · rw [ev0, Classical.not_not] at h_142
          refine ev_aload_n (pc' := 151) dX7_expression_150 rfl rfl ?_
          refine ev_getf (pc' := 154) fl_7_200 dX7_expression_151 rfl rfl rfl ?_
          refine ev_if_le (tgt := 158) (pc' := 157) dX7_expression_154 (by decide) rfl (fun h_154 => ?_) (fun h_154 => ?_)
          · refine ev_iload_n (pc' := 159) dX7_expression_158 rfl rfl ?_
            refine ev_if_eq (tgt := 182) (pc' := 162) dX7_expression_159 (by decide) rfl (fun h_159 => ?_) (fun h_159 => ?_)
            · rw [ev0] at h_159
              exact absurd h_142 h_159 --
            · rw [ev0, Classical.not_not] at h_159
              refine ev_aload_n (pc' := 163) dX7_expression_162 rfl rfl ?_
              refine ev_iconst (pc' := 164) (v := 1) dX7_expression_163 rfl (by decide) ?_
              refine ev_aload_n (pc' := 165) dX7_expression_164 rfl rfl ?_
              refine ev_getf (pc' := 168) fl_7_20 dX7_expression_165 rfl rfl rfl ?_
              refine ev_aload_n (pc' := 169) dX7_expression_168 rfl rfl ?_
              refine ev_getf (pc' := 172) fl_7_203 dX7_expression_169 rfl rfl rfl ?_
              refine ev_iald (pc' := 173) dX7_expression_172 rfl rfl ?_ ?_
              · exact v11
              rw [e11]
              refine ev_bipush (pc' := 175) (v := 25) dX7_expression_173 rfl (by decide) ?_
              refine ev_isub (pc' := 176) dX7_expression_175 rfl ?_
              refine ev_cVv2 (pc' := 179) cl_7_255 (m_emit σ τ (500 * b + (l ++ out).length) (by omega) hmc.1 _ _) dX7_expression_176 rfl rfl rfl rfl ?_
              refine ev_goto (tgt := 196) dX7_expression_179 (by decide) ?_
              refine ev_aload_n (pc' := 197) dX7_expression_196 rfl rfl ?_
              refine ev_cVv0 (pc' := 200) cl_7_221 (m_next _ τ tk (by omega) h11) dX7_expression_197 rfl rfl rfl rfl ?_
              first
                | exact kU (Or.inl h_138) _ _ _ _ (by rw [h_138]; rfl) (h5T h_138)
                | exact kU (Or.inr h_159) _ _ _ _ (by rw [h_159]; rfl) (tv5 h_159)
          · exact absurd (by rw [h13]; decide) h_154 --
        · rw [ev0] at h_142
          have hF := kB hk15 h_142 h_138
          refine ev_aload_n (pc' := 146) dX7_expression_145 rfl rfl ?_
          refine ev_iconst (pc' := 147) (v := 1) dX7_expression_146 rfl (by decide) ?_
          refine ev_cVv1 (pc' := 150) cl_7_215 (m_fail σ τ tk (by omega) h11 1) dX7_expression_147 rfl rfl rfl rfl ?_
          refine ev_aload_n (pc' := 151) dX7_expression_150 rfl rfl ?_
          refine ev_getf (pc' := 154) fl_7_200 dX7_expression_151 rfl rfl rfl ?_
          refine ev_if_le (tgt := 158) (pc' := 157) dX7_expression_154 (by decide) rfl (fun h_154 => ?_) (fun h_154 => ?_)
          · exact absurd h_154 (Int32.not_le.mpr (flt_ne hF).2) --
          · refine ev_return rfl dX7_expression_157 ?_
            exact ⟨rfl, _, rfl, hxk.trans xk_fail, Or.inl hF⟩
    have v36 : vp_in (m_next' (s2 σ 0 12 (σ 0 12 + 1)) tk 0 36) 48 := by
      rw [show m_next' (s2 σ 0 12 (σ 0 12 + 1)) tk 0 36 = σ 0 36 from m_next_36 _ _, hmw.1]
      exact vp_in_nI (by omega) (by omega)
    refine ev_iload_n (pc' := 13) dX7_expression_12 rfl rfl ?_
    refine ev_if_eq (tgt := 360) (pc' := 16) dX7_expression_13 (by decide) rfl (fun h_13 => ?_) (fun h_13 => ?_)
    · exact absurd h_13 (by decide) --
    · refine ev_aload_n (pc' := 17) dX7_expression_16 rfl rfl ?_
      refine ev_getf (pc' := 20) fl_7_200 dX7_expression_17 rfl rfl rfl ?_
      refine ev_if_ne (tgt := 360) (pc' := 23) dX7_expression_20 (by decide) rfl (fun h_20 => ?_) (fun h_20 => ?_)
      · exact absurd h13 h_20 --
      · refine ev_aload_n (pc' := 24) dX7_expression_23 rfl rfl ?_
        refine ev_bipush (pc' := 26) (v := 6) dX7_expression_24 rfl (by decide) ?_
        refine ev_cVi1 (pc' := 29) cl_7_218 (m_is σ τ tk (by omega) h11 6) dX7_expression_26 rfl rfl rfl rfl ?_
        refine ev_if_eq (tgt := 92) (pc' := 32) dX7_expression_29 (by decide) rfl (fun h_29 => ?_) (fun h_29 => ?_)
        · rw [e6, bI_0, decide_eq_false_iff_not] at h_29
          refine ev_aload_n (pc' := 93) dX7_expression_92 rfl rfl ?_
          refine ev_getf (pc' := 96) fl_7_200 dX7_expression_93 rfl rfl rfl ?_
          refine ev_if_ne (tgt := 131) (pc' := 99) dX7_expression_96 (by decide) rfl (fun h_96 => ?_) (fun h_96 => ?_)
          · exact absurd h13 h_96 --
          · refine ev_aload_n (pc' := 100) dX7_expression_99 rfl rfl ?_
            refine ev_getf (pc' := 103) fl_7_20 dX7_expression_100 rfl rfl rfl ?_
            refine ev_aload_n (pc' := 104) dX7_expression_103 rfl rfl ?_
            refine ev_getf (pc' := 107) fl_7_203 dX7_expression_104 rfl rfl rfl ?_
            refine ev_iald (pc' := 108) dX7_expression_107 rfl rfl ?_ ?_
            · exact v11
            rw [e11]
            refine ev_bipush (pc' := 110) (v := 25) dX7_expression_108 rfl (by decide) ?_
            refine ev_icmp_lt (tgt := 131) (pc' := 113) dX7_expression_110 (by decide) rfl (fun h_110 => ?_) (fun h_110 => ?_)
            · refine ev_iconst (pc' := 132) (v := 0) dX7_expression_131 rfl (by decide) ?_
              exact k132 h_29 _ _ _ (by first | exact (if_pos (t5.mp ⟨Int32.not_lt.mp h_110, Int32.not_lt.mp h_124⟩)).symm | exact (if_neg (fun z => absurd (t5.mpr z).1 (Int32.not_le.mpr h_110))).symm | exact (if_neg (fun z => absurd (t5.mpr z).2 (Int32.not_le.mpr h_124))).symm)
            · refine ev_aload_n (pc' := 114) dX7_expression_113 rfl rfl ?_
              refine ev_getf (pc' := 117) fl_7_20 dX7_expression_114 rfl rfl rfl ?_
              refine ev_aload_n (pc' := 118) dX7_expression_117 rfl rfl ?_
              refine ev_getf (pc' := 121) fl_7_203 dX7_expression_118 rfl rfl rfl ?_
              refine ev_iald (pc' := 122) dX7_expression_121 rfl rfl ?_ ?_
              · exact v11
              rw [e11]
              refine ev_bipush (pc' := 124) (v := 33) dX7_expression_122 rfl (by decide) ?_
              refine ev_icmp_gt (tgt := 131) (pc' := 127) dX7_expression_124 (by decide) rfl (fun h_124 => ?_) (fun h_124 => ?_)
              · refine ev_iconst (pc' := 132) (v := 0) dX7_expression_131 rfl (by decide) ?_
                exact k132 h_29 _ _ _ (by first | exact (if_pos (t5.mp ⟨Int32.not_lt.mp h_110, Int32.not_lt.mp h_124⟩)).symm | exact (if_neg (fun z => absurd (t5.mpr z).1 (Int32.not_le.mpr h_110))).symm | exact (if_neg (fun z => absurd (t5.mpr z).2 (Int32.not_le.mpr h_124))).symm)
              · refine ev_iconst (pc' := 128) (v := 1) dX7_expression_127 rfl (by decide) ?_
                refine ev_goto (tgt := 132) dX7_expression_128 (by decide) ?_
                exact k132 h_29 _ _ _ (by first | exact (if_pos (t5.mp ⟨Int32.not_lt.mp h_110, Int32.not_lt.mp h_124⟩)).symm | exact (if_neg (fun z => absurd (t5.mpr z).1 (Int32.not_le.mpr h_110))).symm | exact (if_neg (fun z => absurd (t5.mpr z).2 (Int32.not_le.mpr h_124))).symm)
        · rw [e6, bI_0, decide_eq_false_iff_not, Classical.not_not] at h_29
          refine ev_aload_n (pc' := 33) dX7_expression_32 rfl rfl ?_
          refine ev_getf (pc' := 36) fl_7_227 dX7_expression_33 rfl rfl rfl ?_
          refine ev_bipush (pc' := 38) (v := 6) dX7_expression_36 rfl (by decide) ?_
          refine ev_icmp_ne (tgt := 46) (pc' := 41) dX7_expression_38 (by decide) rfl (fun h_38 => ?_) (fun h_38 => ?_)
          · refine ev_aload_n (pc' := 47) dX7_expression_46 rfl rfl ?_
            refine ev_getf (pc' := 50) fl_7_200 dX7_expression_47 rfl rfl rfl ?_
            refine ev_if_le (tgt := 54) (pc' := 53) dX7_expression_50 (by decide) rfl (fun h_50 => ?_) (fun h_50 => ?_)
            · refine ev_aload_n (pc' := 55) dX7_expression_54 rfl rfl ?_
              refine ev_dup (pc' := 56) dX7_expression_55 rfl rfl ?_
              refine ev_getf (pc' := 59) fl_7_227 dX7_expression_56 rfl rfl rfl ?_
              refine ev_iconst (pc' := 60) (v := 1) dX7_expression_59 rfl (by decide) ?_
              refine ev_iadd (pc' := 61) dX7_expression_60 rfl ?_
              refine ev_putf (pc' := 64) fs_7_227 dX7_expression_61 rfl rfl (Nat.le_of_ble_eq_true rfl) (fun _ => rfl) (fun _ => rfl) (WM_p7_12 _ _ _) ?_
              refine ev_aload_n (pc' := 65) dX7_expression_64 rfl rfl ?_
              refine ev_cVv0 (pc' := 68) cl_7_221 (m_next _ τ tk (by omega) h11) dX7_expression_65 rfl rfl rfl rfl ?_
              refine ev_aload_n (pc' := 69) dX7_expression_68 rfl rfl ?_
              refine ev_getf (pc' := 72) fl_7_83 dX7_expression_69 rfl rfl rfl ?_
              refine ev_aload_n (pc' := 73) dX7_expression_72 rfl rfl ?_
              refine ev_getf (pc' := 76) fl_7_252 dX7_expression_73 rfl rfl rfl ?_
              refine ev_bipush (pc' := 78) (v := 6) dX7_expression_76 rfl (by decide) ?_
              refine ev_iast (pc' := 79) dX7_expression_78 rfl rfl ?_ (WM_a22 _ _ _) ?_
              · exact v36
              refine ev_aload_n (pc' := 80) dX7_expression_79 rfl rfl ?_
              refine ev_dup (pc' := 81) dX7_expression_80 rfl rfl ?_
              refine ev_getf (pc' := 84) fl_7_252 dX7_expression_81 rfl rfl rfl ?_
              refine ev_iconst (pc' := 85) (v := 1) dX7_expression_84 rfl (by decide) ?_
              refine ev_iadd (pc' := 86) dX7_expression_85 rfl ?_
              refine ev_putf (pc' := 89) fs_7_252 dX7_expression_86 rfl rfl (Nat.le_of_ble_eq_true rfl) (fun _ => rfl) (fun _ => rfl) (WM_p7_36 _ _ _) ?_
              refine ev_goto (tgt := 12) dX7_expression_89 (by decide) ?_
              exact kO h_29 h_38 _ _
            · exact absurd (by rw [h13]; decide) h_50 --
          · have hF := kO6 h_29 h_38
            refine ev_aload_n (pc' := 42) dX7_expression_41 rfl rfl ?_
            refine ev_iconst (pc' := 43) (v := 2) dX7_expression_42 rfl (by decide) ?_
            refine ev_cVv1 (pc' := 46) cl_7_215 (m_fail σ τ tk (by omega) h11 2) dX7_expression_43 rfl rfl rfl rfl ?_
            refine ev_aload_n (pc' := 47) dX7_expression_46 rfl rfl ?_
            refine ev_getf (pc' := 50) fl_7_200 dX7_expression_47 rfl rfl rfl ?_
            refine ev_if_le (tgt := 54) (pc' := 53) dX7_expression_50 (by decide) rfl (fun h_50 => ?_) (fun h_50 => ?_)
            · exact absurd h_50 (Int32.not_le.mpr (flt_ne hF).2) --
            · refine ev_return rfl dX7_expression_53 ?_
              exact ⟨rfl, _, rfl, hxk.trans xk_fail, Or.inl hF⟩
  · intro tk wt out σ x2 x3 z4 hI
    obtain ⟨⟨hrun, hok, hne⟩, ⟨h11, h13, h12⟩, hmw, hmc, hl, hen, hxk⟩ := hI
    obtain ⟨hw, hd6, h400⟩ := ym_ok_wt hok
    have hwf := ym_ok_wf hok rfl
    have hwl := ym_wt_len' hw hd6
    obtain ⟨⟨-, -, ⟨-, -, t8, t9, t10⟩, ⟨-, t16, -⟩, -⟩, h4T, -⟩ := ents_is hen h400 hne
    obtain ⟨q, hq, hkq, hvp⟩ := x_tok_kind n t (tpos n t tk)
    change (tkn n t tk).2.1 = nI q at hkq
    change (tkn n t tk).2.1 = 5 → vp_in (tkn n t tk).2.2.1 9 at hvp
    generalize hk : (tkn n t tk).2.1 = k at *
    generalize hv : (tkn n t tk).2.2.1 = v at *
    have e7 : m_is' σ tk 7 = decide (k = 16) := by rw [m_is_ok h13]; exact decide_eq_decide.mpr t16
    have e8 : m_is' σ tk 8 = decide (k = 8) := by rw [m_is_ok h13]; exact decide_eq_decide.mpr t8
    have e9 : m_is' σ tk 9 = decide (k = 9) := by rw [m_is_ok h13]; exact decide_eq_decide.mpr t9
    have e10 : m_is' σ tk 10 = decide (k = 10) := by rw [m_is_ok h13]; exact decide_eq_decide.mpr t10
    have e11 : (σ 0 11).toNatClampNeg = tk := by rw [h11]; exact nI_clamp (by omega)
    have v11 : vp_in (σ 0 11) 403 := by rw [h11]; exact vp_in_nI (by omega) (by omega)
    have hlo : (l ++ out).length = l.length + out.length := List.length_append
    have hfitA : (k = 8 ∨ k = 9 ∨ k = 10) → ym_fits ((3, sd, tk, gr), (wt, out), X) k = true := fun z => by
      unfold ym_fits
      dsimp only
      rw [if_neg (by omega), if_neg (by omega), if_neg (by omega), if_pos z]
    have hfitC : ¬ (k = 8 ∨ k = 9 ∨ k = 10) → 0 < ym_dp wt → ym_fits ((3, sd, tk, gr), (wt, out), X) k = decide (k = 16) := fun z z2 => by
      unfold ym_fits
      dsimp only
      rw [if_neg (by omega), if_neg (by omega), if_neg (by omega), if_neg z, if_pos z2]
    have hroom : ¬ k = 15 → ym_room ((3, sd, tk, gr), (wt, out), X) k = decide (tk < 400) := fun z => ym_room_in (by omega) (fun z2 => absurd z2 z)
    -- a ) is taken
    have kC : k = 16 → 0 < ym_dp wt → ∀ (z4 : Option Value), Ev (d + 4) M7_expression (exQ n t b f0 R σ0 τ sd gr X l) 200 [some (.ref 0), some (.int 0), some (.int x2), some (.int x3), z4] [] (WM (m_next' (s2 (s2 (e_out false wt.length (500 * b + (l ++ out).length) σ) 0 36 ((e_out false wt.length (500 * b + (l ++ out).length) σ) 0 36 - 1)) 0 12 ((e_out false wt.length (500 * b + (l ++ out).length) σ) 0 12 - 1)) tk) τ) := by
      intro hk16 hd z4
      obtain ⟨g1, g2, g3, g4⟩ := e_out_rep (b := b) false wt (l ++ out) σ hw hmw hmc (by omega)
      rw [show (if false = true then (5 : Int32) else 1) = 1 from rfl, ym_set_pre] at g1 g2
      dsimp only at g1 g2
      obtain ⟨r, r1, r2, r3⟩ := ym_close hw hwf hd
      have hlen := ym_set_len 1 wt out
      have hle := ym_set_le 1 wt out
      have hft : ym_fits ((3, sd, tk, gr), (wt, out), X) k = true := by rw [hfitC (by rw [hk16]; decide) hd, hk16]; rfl
      have hk17 : ¬ k = 17 := by rw [hk16]; decide
      have hk15 : ¬ k = 15 := by rw [hk16]; decide
      generalize e_out false wt.length (500 * b + (l ++ out).length) σ = C at *
      have c13 : C 0 13 = 0 := (g4 13 (by omega) (by omega)).trans h13
      have c11 : C 0 11 = nI tk := (g4 11 (by omega) (by omega)).trans h11
      have c12 : C 0 12 = nI (ym_dp wt) := (g4 12 (by omega) (by omega)).trans h12
      have c4 : C 4 tk = nI (tkn n t tk).1 := (congrFun (g3.1.1 4 (by omega) (by omega)) tk).trans h4T
      rw [r1] at g1 hlen hle
      rw [List.length_cons] at hlen hle
      have m2 : mwt (s2 (s2 C 0 36 (C 0 36 - 1)) 0 12 (C 0 12 - 1)) r := ⟨by
        show C 0 36 - 1 = _
        rw [g1.1]; exact nI_pred _, g1.2.2⟩
      have x2' : xk b σ (s2 (s2 C 0 36 (C 0 36 - 1)) 0 12 (C 0 12 - 1)) := (g3.trans (xk_slot _ (by omega))).trans (xk_slot _ (by omega))
      by_cases h4 : tk = 400
      · rw [m_next_400 h4]
        have hR := ym_run_full hrun (by rw [hk]; exact hft) (by rw [hk]; exact hk17) (by rw [hk, hroom hk15]; exact decide_eq_false (by omega))
        have hF : flt R (m_fail' (s2 (s2 C 0 36 (C 0 36 - 1)) 0 12 (C 0 12 - 1)) tk 2) := flt_fail hR (Or.inr rfl) c13 c11 h400 c4
        refine ex_flt200 hb hF ((hxk.trans x2').trans xk_fail) r3 ?_ ?_ ?_ (by omega) (lo := l ++ (ym_set 1 wt out).2)
        · rw [m_fail_ok (show (s2 (s2 C 0 36 (C 0 36 - 1)) 0 12 (C 0 12 - 1)) 0 13 = 0 from c13)]; exact m2
        · rw [m_fail_ok (show (s2 (s2 C 0 36 (C 0 36 - 1)) 0 12 (C 0 12 - 1)) 0 13 = 0 from c13)]; exact mc_same g2 rfl rfl rfl
        · rw [List.length_append]; omega
      · rw [m_next_go (by omega)]
        obtain ⟨g, hg, hrun2⟩ := ym_run_go hrun (by rw [hk]; exact hft) (by rw [hk]; exact hk17) (by rw [hk, hroom hk15]; exact decide_eq_true (by omega))
        have hok2 := ym_ok_step (v := v) hok hft (by rw [hroom hk15]; exact decide_eq_true (by omega)) hk17 hvp
        rw [hk, hv] at hrun2
        rw [hk16, ym_sC, r1, List.tail_cons] at hrun2 hok2
        have x3' := x2'.trans (xk_slot (b := b) (σ := s2 (s2 C 0 36 (C 0 36 - 1)) 0 12 (C 0 12 - 1)) (j := 11) (nI (tk + 1)) (by omega))
        refine (ih g (by omega) (by omega)).2 (tk + 1) r (ym_set 1 wt out).2 _ _ _ _ ⟨⟨hrun2, hok2, ne_succ hne (by rw [hk]; exact hk17)⟩, ⟨rfl, c13, ?_⟩, m2, mc_same g2 rfl rfl rfl, by omega, ents_xk hen x3', hxk.trans x3'⟩
        show C 0 12 - 1 = nI (ym_dp r)
        rw [c12, r2, nI_pred]
    -- a sign is taken
    have kA : (k = 8 ∨ k = 9 ∨ k = 10) → ∀ (times : Bool) (z3 z4 : Option Value), (times = true ↔ k = 10) → Ev (d + 4) M7_expression (exQ n t b f0 R σ0 τ sd gr X l) 12 [some (.ref 0), some (.int 0), some (.int 1), z3, z4] [] (WM (m_next' (e_push (e_out times wt.length (500 * b + (l ++ out).length) σ) k) tk) τ) := by
      intro ha times z3 z4 ht
      have hq := ym_arith_not ha
      obtain ⟨g1, g2, g3, g4⟩ := e_out_rep (b := b) times wt (l ++ out) σ hw hmw hmc (by omega)
      have es : ym_set (if times = true then 5 else 1) wt (l ++ out) = ym_set (z_rank k) wt (l ++ out) := by
        rcases ha with rfl | rfl | rfl
        · rw [show times = false by cases times; rfl; exact absurd (ht.mp rfl) (by decide)]
          exact (ym_set_4 _ hw).symm
        · rw [show times = false by cases times; rfl; exact absurd (ht.mp rfl) (by decide)]
          exact (ym_set_4 _ hw).symm
        · rw [ht.mpr rfl]; rfl
      rw [es, ym_set_pre] at g1 g2
      dsimp only at g1 g2
      have hlen := ym_set_len (z_rank k) wt out
      have hle := ym_set_le (z_rank k) wt out
      have hk17 : ¬ k = 17 := by rcases ha with rfl | rfl | rfl <;> decide
      have hkw : wcv k = k := if_neg hq.2.2.2.2.1
      generalize e_out times wt.length (500 * b + (l ++ out).length) σ = C at *
      have c13 : C 0 13 = 0 := (g4 13 (by omega) (by omega)).trans h13
      have c11 : C 0 11 = nI tk := (g4 11 (by omega) (by omega)).trans h11
      have c12 : C 0 12 = nI (ym_dp wt) := (g4 12 (by omega) (by omega)).trans h12
      have c4 : C 4 tk = nI (tkn n t tk).1 := (congrFun (g3.1.1 4 (by omega) (by omega)) tk).trans h4T
      obtain ⟨p1, p2⟩ := e_push_rep (b := b) g1 (by omega) k
      rw [hkw] at p1 p2
      have x2' := g3.trans p2
      by_cases h4 : tk = 400
      · rw [m_next_400 h4]
        have hR := ym_run_full hrun (by rw [hk]; exact hfitA ha) (by rw [hk]; exact hk17) (by rw [hk, hroom hq.2.2.2.2.1]; exact decide_eq_false (by omega))
        have hF : flt R (m_fail' (e_push C k) tk 2) := flt_fail hR (Or.inr rfl) c13 c11 h400 c4
        exact ex_flt12 hF ((hxk.trans x2').trans xk_fail)
      · rw [m_next_go (by omega)]
        obtain ⟨g, hg, hrun2⟩ := ym_run_go hrun (by rw [hk]; exact hfitA ha) (by rw [hk]; exact hk17) (by rw [hk, hroom hq.2.2.2.2.1]; exact decide_eq_true (by omega))
        have hok2 := ym_ok_step (v := v) hok (hfitA ha) (by rw [hroom hq.2.2.2.2.1]; exact decide_eq_true (by omega)) hk17 hvp
        rw [hk, hv] at hrun2
        rw [ym_sA ha] at hrun2 hok2
        have x3' := x2'.trans (xk_slot (b := b) (σ := e_push C k) (j := 11) (nI (tk + 1)) (by omega))
        refine (ih g (by omega) (by omega)).1 (tk + 1) (k :: (ym_set (z_rank k) wt out).1) (ym_set (z_rank k) wt out).2 _ _ _ ⟨⟨hrun2, hok2, ne_succ hne (by rw [hk]; exact hk17)⟩, ⟨rfl, c13, ?_⟩, p1, mc_same g2 rfl rfl rfl, by rw [List.length_cons]; omega, ents_xk hen x3', hxk.trans x3'⟩
        show C 0 12 = _
        rw [c12, ym_dp, if_neg hq.2.2.2.2.1, (ym_set_ok (least := z_rank k) hq.2.2.2.2.2.2.2.2.2 wt out hw hwf).2.2]
        rfl
    -- the end
    have kF : ¬ (k = 8 ∨ k = 9 ∨ k = 10) → 0 < ym_dp wt → ¬ k = 16 → exQ n t b f0 R σ0 τ sd gr X l none (WM (e_out false wt.length (500 * b + (l ++ out).length) (m_fail' σ tk 1)) τ) := by
      intro ha hd hk16
      have hR := ym_run_bad hrun (by rw [hk, hfitC ha hd]; exact decide_eq_false hk16)
      have hF : flt R (m_fail' σ tk 1) := flt_fail hR (Or.inl rfl) h13 h11 h400 h4T
      have w1 : mwt (m_fail' σ tk 1) wt := by rw [m_fail_ok h13]; exact hmw
      have w2 : mc b (m_fail' σ tk 1) (l ++ out) := by rw [m_fail_ok h13]; exact mc_same hmc rfl rfl rfl
      obtain ⟨g1, g2, g3, g4⟩ := e_out_rep (b := b) false wt (l ++ out) _ hw w1 w2 (by omega)
      obtain ⟨i, hi, hi11⟩ := hF.2.2.2
      exact ⟨rfl, _, rfl, (hxk.trans xk_fail).trans g3, Or.inl ⟨hF.1, (g4 13 (by omega) (by omega)).trans hF.2.1, (g4 14 (by omega) (by omega)).trans hF.2.2.1, i, hi, (g4 11 (by omega) (by omega)).trans hi11⟩⟩
    have kS : ¬ (k = 8 ∨ k = 9 ∨ k = 10) → ym_dp wt = 0 → exQ n t b f0 R σ0 τ sd gr X l none (WM (e_out false wt.length (500 * b + (l ++ out).length) σ) τ) := by
      intro ha hd
      obtain ⟨g1, g2, g3, g4⟩ := e_out_rep (b := b) false wt (l ++ out) _ hw hmw hmc (by omega)
      rw [show (if false = true then (5 : Int32) else 1) = 1 from rfl, ym_set_pre] at g2
      have hlen := ym_fin_len (out := out) hw hd
      exact ⟨rfl, _, rfl, hxk.trans g3, Or.inr ⟨f, tk, wt, out, hf0, ⟨hrun, hok, hne⟩, hd, by rw [hk]; exact ha, ⟨(g4 11 (by omega) (by omega)).trans h11, (g4 13 (by omega) (by omega)).trans h13, ((g4 12 (by omega) (by omega)).trans h12).trans (by rw [hd]; rfl)⟩, g2, by omega⟩⟩
    have k249 : ¬ (k = 16 ∧ 0 < ym_dp wt) → Ev (d + 4) M7_expression (exQ n t b f0 R σ0 τ sd gr X l) 249 [some (.ref 0), some (.int 0), some (.int x2), some (.int x3), z4] [] (WM σ τ) := by
      intro hnc
      have k305 : (k = 8 ∨ k = 9 ∨ k = 10) → Ev (d + 4) M7_expression (exQ n t b f0 R σ0 τ sd gr X l) 305 [some (.ref 0), some (.int 0), some (.int 1), some (.int x3), z4] [] (WM σ τ) := by
        intro ha
        have ek : σ 3 tk = k := by
          rcases ha with rfl | rfl | rfl
          · exact t8.mpr rfl
          · exact t9.mpr rfl
          · exact t10.mpr rfl
        have v36 : ∀ times, vp_in ((e_out times wt.length (500 * b + (l ++ out).length) σ) 0 36) 48 := fun times => by
          obtain ⟨g1, -⟩ := e_out_rep (b := b) times wt (l ++ out) σ hw hmw hmc (by omega)
          have := ym_set_len (if times = true then 5 else 1) wt []
          have h2 := ym_set_pre (if times = true then 5 else 1) (l ++ out) wt []
          rw [List.append_nil] at h2
          rw [g1.1, h2]
          refine vp_in_nI ?_ (by omega)
          dsimp only
          rw [List.length_nil] at this
          omega
        have n11 : ∀ times, (e_out times wt.length (500 * b + (l ++ out).length) σ) 0 11 = nI tk := fun times => by
          obtain ⟨-, -, -, g4⟩ := e_out_rep (b := b) times wt (l ++ out) σ hw hmw hmc (by omega)
          exact (g4 11 (by omega) (by omega)).trans h11
        have call : ∀ x : Int32, ∀ times, x = bI times → Ok (d + 3) M7_comesOut [.ref 0, .int x] (WM σ τ) (rt none (WM (e_out times wt.length (500 * b + (l ++ out).length) σ) τ)) := fun x times hx => by
          rw [hx]
          exact m_comesOut σ τ times wt.length (500 * b + (l ++ out).length) (by omega) (by omega) hmw.1 hmc.1
        refine ev_aload_n (pc' := 306) dX7_expression_305 rfl rfl ?_
        refine ev_getf (pc' := 309) fl_7_20 dX7_expression_306 rfl rfl rfl ?_
        refine ev_aload_n (pc' := 310) dX7_expression_309 rfl rfl ?_
        refine ev_getf (pc' := 313) fl_7_203 dX7_expression_310 rfl rfl rfl ?_
        refine ev_iald (pc' := 314) dX7_expression_313 rfl rfl ?_ ?_
        · exact v11
        rw [e11, ek]
        refine ev_istore (pc' := 316) (ls' := [_, _, _, _, _]) dX7_expression_314 rfl rfl rfl ?_
        refine ev_aload_n (pc' := 317) dX7_expression_316 rfl rfl ?_
        refine ev_iload (pc' := 319) dX7_expression_317 rfl rfl ?_
        refine ev_bipush (pc' := 321) (v := 10) dX7_expression_319 rfl (by decide) ?_
        refine ev_icmp_ne (tgt := 328) (pc' := 324) dX7_expression_321 (by decide) rfl (fun h_321 => ?_) (fun h_321 => ?_)
        · have ht : false = true ↔ k = 10 := ⟨(fun z => by cases z), fun z => absurd z h_321⟩
          have cO := call 0 false rfl
          have cN := n11 false
          refine ev_iconst (pc' := 329) (v := 0) dX7_expression_328 rfl (by decide) ?_
          refine ev_cVv1 (pc' := 332) cl_7_259 (cO) dX7_expression_329 rfl rfl rfl rfl ?_
          refine ev_aload_n (pc' := 333) dX7_expression_332 rfl rfl ?_
          refine ev_getf (pc' := 336) fl_7_83 dX7_expression_333 rfl rfl rfl ?_
          refine ev_aload_n (pc' := 337) dX7_expression_336 rfl rfl ?_
          refine ev_getf (pc' := 340) fl_7_252 dX7_expression_337 rfl rfl rfl ?_
          refine ev_iload (pc' := 342) dX7_expression_340 rfl rfl ?_
          refine ev_iast (pc' := 343) dX7_expression_342 rfl rfl ?_ (WM_a22 _ _ _) ?_
          · first | exact v36 true | exact v36 false
          refine ev_aload_n (pc' := 344) dX7_expression_343 rfl rfl ?_
          refine ev_dup (pc' := 345) dX7_expression_344 rfl rfl ?_
          refine ev_getf (pc' := 348) fl_7_252 dX7_expression_345 rfl rfl rfl ?_
          refine ev_iconst (pc' := 349) (v := 1) dX7_expression_348 rfl (by decide) ?_
          refine ev_iadd (pc' := 350) dX7_expression_349 rfl ?_
          refine ev_putf (pc' := 353) fs_7_252 dX7_expression_350 rfl rfl (Nat.le_of_ble_eq_true rfl) (fun _ => rfl) (fun _ => rfl) (WM_p7_36 _ _ _) ?_
          refine ev_aload_n (pc' := 354) dX7_expression_353 rfl rfl ?_
          refine ev_cVv0 (pc' := 357) cl_7_221 (m_next (e_push (e_out _ wt.length (500 * b + (l ++ out).length) σ) k) τ tk (by omega) cN) dX7_expression_354 rfl rfl rfl rfl ?_
          refine ev_goto (tgt := 12) dX7_expression_357 (by decide) ?_
          exact kA ha _ _ _ ht
        · have ht : true = true ↔ k = 10 := ⟨fun _ => h_321, fun _ => rfl⟩
          have cO := call 1 true rfl
          have cN := n11 true
          refine ev_iconst (pc' := 325) (v := 1) dX7_expression_324 rfl (by decide) ?_
          refine ev_goto (tgt := 329) dX7_expression_325 (by decide) ?_
          refine ev_cVv1 (pc' := 332) cl_7_259 (cO) dX7_expression_329 rfl rfl rfl rfl ?_
          refine ev_aload_n (pc' := 333) dX7_expression_332 rfl rfl ?_
          refine ev_getf (pc' := 336) fl_7_83 dX7_expression_333 rfl rfl rfl ?_
          refine ev_aload_n (pc' := 337) dX7_expression_336 rfl rfl ?_
          refine ev_getf (pc' := 340) fl_7_252 dX7_expression_337 rfl rfl rfl ?_
          refine ev_iload (pc' := 342) dX7_expression_340 rfl rfl ?_
          refine ev_iast (pc' := 343) dX7_expression_342 rfl rfl ?_ (WM_a22 _ _ _) ?_
          · first | exact v36 true | exact v36 false
          refine ev_aload_n (pc' := 344) dX7_expression_343 rfl rfl ?_
          refine ev_dup (pc' := 345) dX7_expression_344 rfl rfl ?_
          refine ev_getf (pc' := 348) fl_7_252 dX7_expression_345 rfl rfl rfl ?_
          refine ev_iconst (pc' := 349) (v := 1) dX7_expression_348 rfl (by decide) ?_
          refine ev_iadd (pc' := 350) dX7_expression_349 rfl ?_
          refine ev_putf (pc' := 353) fs_7_252 dX7_expression_350 rfl rfl (Nat.le_of_ble_eq_true rfl) (fun _ => rfl) (fun _ => rfl) (WM_p7_36 _ _ _) ?_
          refine ev_aload_n (pc' := 354) dX7_expression_353 rfl rfl ?_
          refine ev_cVv0 (pc' := 357) cl_7_221 (m_next (e_push (e_out _ wt.length (500 * b + (l ++ out).length) σ) k) τ tk (by omega) cN) dX7_expression_354 rfl rfl rfl rfl ?_
          refine ev_goto (tgt := 12) dX7_expression_357 (by decide) ?_
          exact kA ha _ _ _ ht
      refine ev_aload_n (pc' := 250) dX7_expression_249 rfl rfl ?_
      refine ev_bipush (pc' := 252) (v := 8) dX7_expression_250 rfl (by decide) ?_
      refine ev_cVi1 (pc' := 255) cl_7_218 (m_is σ τ tk (by omega) h11 8) dX7_expression_252 rfl rfl rfl rfl ?_
      refine ev_if_ne (tgt := 276) (pc' := 258) dX7_expression_255 (by decide) rfl (fun h_255 => ?_) (fun h_255 => ?_)
      · rw [e8, bI_0, decide_eq_false_iff_not, Classical.not_not] at h_255
        refine ev_iconst (pc' := 277) (v := 1) dX7_expression_276 rfl (by decide) ?_
        refine ev_goto (tgt := 281) dX7_expression_277 (by decide) ?_
        refine ev_istore_n (pc' := 282) (ls' := [_, _, _, _, _]) dX7_expression_281 rfl rfl rfl ?_
        refine ev_iload_n (pc' := 283) dX7_expression_282 rfl rfl ?_
        refine ev_if_ne (tgt := 305) (pc' := 286) dX7_expression_283 (by decide) rfl (fun h_283 => ?_) (fun h_283 => ?_)
        · exact k305 (by first | exact Or.inl h_255 | exact Or.inr (Or.inl h_264) | exact Or.inr (Or.inr h_273))
        · first | exact absurd h_283 (by decide) | exact absurd (by decide) h_283 --
      · rw [e8, bI_0, decide_eq_false_iff_not] at h_255
        refine ev_aload_n (pc' := 259) dX7_expression_258 rfl rfl ?_
        refine ev_bipush (pc' := 261) (v := 9) dX7_expression_259 rfl (by decide) ?_
        refine ev_cVi1 (pc' := 264) cl_7_218 (m_is σ τ tk (by omega) h11 9) dX7_expression_261 rfl rfl rfl rfl ?_
        refine ev_if_ne (tgt := 276) (pc' := 267) dX7_expression_264 (by decide) rfl (fun h_264 => ?_) (fun h_264 => ?_)
        · rw [e9, bI_0, decide_eq_false_iff_not, Classical.not_not] at h_264
          refine ev_iconst (pc' := 277) (v := 1) dX7_expression_276 rfl (by decide) ?_
          refine ev_goto (tgt := 281) dX7_expression_277 (by decide) ?_
          refine ev_istore_n (pc' := 282) (ls' := [_, _, _, _, _]) dX7_expression_281 rfl rfl rfl ?_
          refine ev_iload_n (pc' := 283) dX7_expression_282 rfl rfl ?_
          refine ev_if_ne (tgt := 305) (pc' := 286) dX7_expression_283 (by decide) rfl (fun h_283 => ?_) (fun h_283 => ?_)
          · exact k305 (by first | exact Or.inl h_255 | exact Or.inr (Or.inl h_264) | exact Or.inr (Or.inr h_273))
          · first | exact absurd h_283 (by decide) | exact absurd (by decide) h_283 --
        · rw [e9, bI_0, decide_eq_false_iff_not] at h_264
          refine ev_aload_n (pc' := 268) dX7_expression_267 rfl rfl ?_
          refine ev_bipush (pc' := 270) (v := 10) dX7_expression_268 rfl (by decide) ?_
          refine ev_cVi1 (pc' := 273) cl_7_218 (m_is σ τ tk (by omega) h11 10) dX7_expression_270 rfl rfl rfl rfl ?_
          refine ev_if_eq (tgt := 280) (pc' := 276) dX7_expression_273 (by decide) rfl (fun h_273 => ?_) (fun h_273 => ?_)
          · rw [e10, bI_0, decide_eq_false_iff_not] at h_273
            have hna : ¬ (k = 8 ∨ k = 9 ∨ k = 10) := fun z => z.elim h_255 (fun z => z.elim h_264 h_273)
            refine ev_iconst (pc' := 281) (v := 0) dX7_expression_280 rfl (by decide) ?_
            refine ev_istore_n (pc' := 282) (ls' := [_, _, _, _, _]) dX7_expression_281 rfl rfl rfl ?_
            refine ev_iload_n (pc' := 283) dX7_expression_282 rfl rfl ?_
            refine ev_if_ne (tgt := 305) (pc' := 286) dX7_expression_283 (by decide) rfl (fun h_283 => ?_) (fun h_283 => ?_)
            · first | exact absurd h_283 (by decide) | exact absurd (by decide) h_283 --
            · refine ev_aload_n (pc' := 287) dX7_expression_286 rfl rfl ?_
              refine ev_getf (pc' := 290) fl_7_227 dX7_expression_287 rfl rfl rfl ?_
              refine ev_iload_n (pc' := 291) dX7_expression_290 rfl rfl ?_
              refine ev_icmp_le (tgt := 299) (pc' := 294) dX7_expression_291 (by decide) rfl (fun h_291 => ?_) (fun h_291 => ?_)
              · have hd0 : ym_dp wt = 0 := by
                  rw [h12, show (0 : Int32) = nI 0 from rfl, nI_leI (by omega) (by omega)] at h_291
                  omega
                have cO := m_comesOut (d := d + 2) σ τ false wt.length (500 * b + (l ++ out).length) (by omega) (by omega) hmw.1 hmc.1
                have kE := kS hna hd0
                refine ev_aload_n (pc' := 300) dX7_expression_299 rfl rfl ?_
                refine ev_iconst (pc' := 301) (v := 0) dX7_expression_300 rfl (by decide) ?_
                refine ev_cVv1 (pc' := 304) cl_7_259 (cO) dX7_expression_301 rfl rfl rfl rfl ?_
                refine ev_return rfl dX7_expression_304 ?_
                exact kE
              · have hd0 : 0 < ym_dp wt := by
                  rw [h12, show (0 : Int32) = nI 0 from rfl, nI_leI (by omega) (by omega)] at h_291
                  omega
                have cO := m_comesOut (d := d + 2) (m_fail' σ tk 1) τ false wt.length (500 * b + (l ++ out).length) (by omega) (by omega) (by rw [m_fail_ok h13]; exact hmw.1) (by rw [m_fail_ok h13]; exact hmc.1)
                have kE := kF hna hd0 (fun z => hnc ⟨z, hd0⟩)
                refine ev_aload_n (pc' := 295) dX7_expression_294 rfl rfl ?_
                refine ev_iconst (pc' := 296) (v := 1) dX7_expression_295 rfl (by decide) ?_
                refine ev_cVv1 (pc' := 299) cl_7_215 (m_fail σ τ tk (by omega) h11 1) dX7_expression_296 rfl rfl rfl rfl ?_
                refine ev_aload_n (pc' := 300) dX7_expression_299 rfl rfl ?_
                refine ev_iconst (pc' := 301) (v := 0) dX7_expression_300 rfl (by decide) ?_
                refine ev_cVv1 (pc' := 304) cl_7_259 (cO) dX7_expression_301 rfl rfl rfl rfl ?_
                refine ev_return rfl dX7_expression_304 ?_
                exact kE
          · rw [e10, bI_0, decide_eq_false_iff_not, Classical.not_not] at h_273
            refine ev_iconst (pc' := 277) (v := 1) dX7_expression_276 rfl (by decide) ?_
            refine ev_goto (tgt := 281) dX7_expression_277 (by decide) ?_
            refine ev_istore_n (pc' := 282) (ls' := [_, _, _, _, _]) dX7_expression_281 rfl rfl rfl ?_
            refine ev_iload_n (pc' := 283) dX7_expression_282 rfl rfl ?_
            refine ev_if_ne (tgt := 305) (pc' := 286) dX7_expression_283 (by decide) rfl (fun h_283 => ?_) (fun h_283 => ?_)
            · exact k305 (by first | exact Or.inl h_255 | exact Or.inr (Or.inl h_264) | exact Or.inr (Or.inr h_273))
            · first | exact absurd h_283 (by decide) | exact absurd (by decide) h_283 --
    refine ev_aload_n (pc' := 201) dX7_expression_200 rfl rfl ?_
    refine ev_bipush (pc' := 203) (v := 7) dX7_expression_201 rfl (by decide) ?_
    refine ev_cVi1 (pc' := 206) cl_7_218 (m_is σ τ tk (by omega) h11 7) dX7_expression_203 rfl rfl rfl rfl ?_
    refine ev_if_eq (tgt := 249) (pc' := 209) dX7_expression_206 (by decide) rfl (fun h_206 => ?_) (fun h_206 => ?_)
    · rw [e7, bI_0, decide_eq_false_iff_not] at h_206
      exact k249 (by first | exact (fun z => h_206 z.1) | exact (fun z => by have := z.2; omega))
    · rw [e7, bI_0, decide_eq_false_iff_not, Classical.not_not] at h_206
      refine ev_aload_n (pc' := 210) dX7_expression_209 rfl rfl ?_
      refine ev_getf (pc' := 213) fl_7_227 dX7_expression_210 rfl rfl rfl ?_
      refine ev_iload_n (pc' := 214) dX7_expression_213 rfl rfl ?_
      refine ev_icmp_le (tgt := 249) (pc' := 217) dX7_expression_214 (by decide) rfl (fun h_214 => ?_) (fun h_214 => ?_)
      · have hd0 : ym_dp wt = 0 := by
          rw [h12, show (0 : Int32) = nI 0 from rfl, nI_leI (by omega) (by omega)] at h_214
          omega
        exact k249 (by first | exact (fun z => h_206 z.1) | exact (fun z => by have := z.2; omega))
      · have hd0 : 0 < ym_dp wt := by
          rw [h12, show (0 : Int32) = nI 0 from rfl, nI_leI (by omega) (by omega)] at h_214
          omega
        have nC11 : k = 16 → (e_out false wt.length (500 * b + (l ++ out).length) σ) 0 11 = nI tk := fun _ => by
          obtain ⟨-, -, -, g4⟩ := e_out_rep (b := b) false wt (l ++ out) σ hw hmw hmc (by omega)
          exact (g4 11 (by omega) (by omega)).trans h11
        refine ev_aload_n (pc' := 218) dX7_expression_217 rfl rfl ?_
        refine ev_iconst (pc' := 219) (v := 0) dX7_expression_218 rfl (by decide) ?_
        refine ev_cVv1 (pc' := 222) cl_7_259 (m_comesOut σ τ false wt.length (500 * b + (l ++ out).length) (by omega) (by omega) hmw.1 hmc.1) dX7_expression_219 rfl rfl rfl rfl ?_
        refine ev_aload_n (pc' := 223) dX7_expression_222 rfl rfl ?_
        refine ev_dup (pc' := 224) dX7_expression_223 rfl rfl ?_
        refine ev_getf (pc' := 227) fl_7_252 dX7_expression_224 rfl rfl rfl ?_
        refine ev_iconst (pc' := 228) (v := 1) dX7_expression_227 rfl (by decide) ?_
        refine ev_isub (pc' := 229) dX7_expression_228 rfl ?_
        refine ev_putf (pc' := 232) fs_7_252 dX7_expression_229 rfl rfl (Nat.le_of_ble_eq_true rfl) (fun _ => rfl) (fun _ => rfl) (WM_p7_36 _ _ _) ?_
        refine ev_aload_n (pc' := 233) dX7_expression_232 rfl rfl ?_
        refine ev_dup (pc' := 234) dX7_expression_233 rfl rfl ?_
        refine ev_getf (pc' := 237) fl_7_227 dX7_expression_234 rfl rfl rfl ?_
        refine ev_iconst (pc' := 238) (v := 1) dX7_expression_237 rfl (by decide) ?_
        refine ev_isub (pc' := 239) dX7_expression_238 rfl ?_
        refine ev_putf (pc' := 242) fs_7_227 dX7_expression_239 rfl rfl (Nat.le_of_ble_eq_true rfl) (fun _ => rfl) (fun _ => rfl) (WM_p7_12 _ _ _) ?_
        refine ev_aload_n (pc' := 243) dX7_expression_242 rfl rfl ?_
        refine ev_cVv0 (pc' := 246) cl_7_221 (m_next _ τ tk (by omega) (nC11 h_206)) dX7_expression_243 rfl rfl rfl rfl ?_
        refine ev_goto (tgt := 200) dX7_expression_246 (by decide) ?_
        exact kC h_206 hd0 _
theorem m_expression {d n : Nat} {t : Nat → Int32} {b f : Nat} {R : Int32 × Nat × YS} {σ : RS} {τ : TS} {sd tk : Nat} {gr : Bool} {X : YX} {l : List YC} (hb : b ≤ 1) (h : exI n t b f R σ sd gr X l 2 tk [] [] (s2 σ 0 36 0)) (h12 : σ 0 12 = 0) : Ok (d + 4) M7_expression [.ref 0] (WM σ τ) (exQ n t b f R σ τ sd gr X l) := by
  refine Ok.of (ls := [some _, none, none, none, none]) (by decide +kernel) (Nat.le_of_ble_eq_true rfl) rfl ?_
  refine ev_aload_n (pc' := 1) dX7_expression_0 rfl rfl ?_
  refine ev_iconst (pc' := 2) (v := 0) dX7_expression_1 rfl (by decide) ?_
  refine ev_putf (pc' := 5) fs_7_252 dX7_expression_2 rfl rfl (Nat.le_of_ble_eq_true rfl) (fun _ => rfl) (fun _ => rfl) (WM_p7_36 _ _ _) ?_
  refine ev_aload_n (pc' := 6) dX7_expression_5 rfl rfl ?_
  refine ev_getf (pc' := 9) fl_7_227 dX7_expression_6 rfl rfl rfl ?_
  show Ev _ _ _ _ _ [.int (σ 0 12)] _
  rw [h12]
  refine ev_istore_n (pc' := 10) (ls' := [_, _, _, _, _]) dX7_expression_9 rfl rfl rfl ?_
  refine ev_iconst (pc' := 11) (v := 1) dX7_expression_10 rfl (by decide) ?_
  refine ev_istore_n (pc' := 12) (ls' := [_, _, _, _, _]) dX7_expression_11 rfl rfl rfl ?_
  exact (ex_loops hb f (Nat.le_refl f)).1 tk [] [] _ _ _ h
