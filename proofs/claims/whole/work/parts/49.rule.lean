/-! The model reads a rule. -/
def mq_rels : List YR → List YC
  | [] => []
  | r :: rs => mq_rels rs ++ r.2.1 ++ r.2.2.2
def mq1 (R : YL) : List YC := R.2.1 ++ mq_rels R.2.2
def mq : List YL → List YC
  | [] => []
  | R :: rest => mq1 R ++ mq rest
def mnr : List YL → Nat
  | [] => 0
  | R :: rest => R.2.2.length + mnr rest
theorem mq_app (a c : List YL) : mq (a ++ c) = mq a ++ mq c := by
  induction a with
  | nil => rfl
  | cons x a ih => rw [List.cons_append, mq, mq, ih, List.append_assoc]
theorem mnr_app (a c : List YL) : mnr (a ++ c) = mnr a + mnr c := by
  induction a with
  | nil => rw [List.nil_append, mnr, Nat.zero_add]
  | cons x a ih => rw [List.cons_append, mnr, mnr, ih, Nat.add_assoc]
/-- relations in the model's rows -/
def mlr (b : Nat) (σ : RS) (q0 c0 : Nat) : List YR → Prop
  | [] => True
  | r :: rs => mlr b σ q0 c0 rs ∧ rlE b σ (200 * b + (q0 + rs.length)) r (c0 + (mq_rels rs).length)
theorem rlE_same {b : Nat} {σ σ' : RS} {i : Nat} {R : YR} {a : Nat} (h : ∀ c, 15 ≤ c → c ≤ 19 → σ' c i = σ c i) (g : rlE b σ i R a) : rlE b σ' i R a := by
  obtain ⟨g1, g2, g3, g4, g5⟩ := g
  exact ⟨by rw [h 15 (by omega) (by omega)]; exact g1, by rw [h 16 (by omega) (by omega)]; exact g2, by rw [h 17 (by omega) (by omega)]; exact g3, by rw [h 18 (by omega) (by omega)]; exact g4, by rw [h 19 (by omega) (by omega)]; exact g5⟩
theorem mlr_same {b : Nat} {σ σ' : RS} {q0 c0 : Nat} : ∀ {l : List YR}, (∀ c j, 15 ≤ c → c ≤ 19 → j < q0 + l.length → σ' c (200 * b + j) = σ c (200 * b + j)) → mlr b σ q0 c0 l → mlr b σ' q0 c0 l := by
  intro l
  induction l with
  | nil => intro _ _; trivial
  | cons r rs ih =>
    intro h g
    rw [List.length_cons] at h
    exact ⟨ih (fun c j h1 h2 h3 => h c j h1 h2 (by omega)) g.1, rlE_same (fun c h1 h2 => h c _ h1 h2 (by omega)) g.2⟩
def mllE (b : Nat) (σ : RS) (r q a : Nat) (R : YL) : Prop := (σ 9 (16 * b + r) = bI R.1 ∧ σ 10 (16 * b + r) = nI (500 * b + a) ∧ σ 11 (16 * b + r) = nI (500 * b + a + R.2.1.length) ∧ σ 12 (16 * b + r) = nI q ∧ σ 13 (16 * b + r) = nI (q + R.2.2.length)) ∧ mlr b σ q (a + R.2.1.length) R.2.2
def mll (b : Nat) (σ : RS) : Nat → Nat → Nat → List YL → Prop
  | _, _, _, [] => True
  | r, q, a, R :: rest => mllE b σ r q a R ∧ mll b σ (r + 1) (q + R.2.2.length) (a + (mq1 R).length) rest
theorem mllE_same {b : Nat} {σ σ' : RS} {r q a : Nat} {R : YL} (h1 : ∀ c, 9 ≤ c → c ≤ 13 → σ' c (16 * b + r) = σ c (16 * b + r)) (h2 : ∀ c j, 15 ≤ c → c ≤ 19 → j < q + R.2.2.length → σ' c (200 * b + j) = σ c (200 * b + j)) (g : mllE b σ r q a R) : mllE b σ' r q a R := by
  obtain ⟨⟨g1, g2, g3, g4, g5⟩, g6⟩ := g
  exact ⟨⟨by rw [h1 9 (by omega) (by omega)]; exact g1, by rw [h1 10 (by omega) (by omega)]; exact g2, by rw [h1 11 (by omega) (by omega)]; exact g3, by rw [h1 12 (by omega) (by omega)]; exact g4, by rw [h1 13 (by omega) (by omega)]; exact g5⟩, mlr_same h2 g6⟩
theorem mll_same {b : Nat} {σ σ' : RS} : ∀ {l : List YL} {r q a : Nat}, (∀ c j, 9 ≤ c → c ≤ 13 → j < r + l.length → σ' c (16 * b + j) = σ c (16 * b + j)) → (∀ c j, 15 ≤ c → c ≤ 19 → j < q + mnr l → σ' c (200 * b + j) = σ c (200 * b + j)) → mll b σ r q a l → mll b σ' r q a l := by
  intro l
  induction l with
  | nil => intro r q a _ _ _; trivial
  | cons R rest ih =>
    intro r q a h1 h2 g
    rw [List.length_cons] at h1
    rw [mnr] at h2
    exact ⟨mllE_same (fun c c1 c2 => h1 c r c1 c2 (by omega)) (fun c j c1 c2 c3 => h2 c j c1 c2 (by omega)) g.1, ih (fun c j c1 c2 c3 => h1 c j c1 c2 (by omega)) (fun c j c1 c2 c3 => h2 c j c1 c2 (by omega)) g.2⟩
theorem mll_snoc {b : Nat} {σ : RS} (R : YL) : ∀ {l : List YL} {r q a : Nat}, mll b σ r q a l → mllE b σ (r + l.length) (q + mnr l) (a + (mq l).length) R → mll b σ r q a (l ++ [R]) := by
  intro l
  induction l with
  | nil => intro r q a _ h; exact ⟨h, trivial⟩
  | cons x l ih =>
    intro r q a h h2
    rw [List.length_cons, mnr, mq, List.length_append] at h2
    refine ⟨h.1, ih h.2 ?_⟩
    rw [show r + 1 + l.length = r + (l.length + 1) by omega, show q + x.2.2.length + mnr l = q + (x.2.2.length + mnr l) by omega, show a + (mq1 x).length + (mq l).length = a + ((mq1 x).length + (mq l).length) by omega]
    exact h2
theorem ym_wf_ne {l : List YC} (h : ym_wf l 0 1) : 1 ≤ l.length := by
  cases l with
  | nil => cases h
  | cons c cs => rw [List.length_cons]; omega
theorem ym_A_len : ∀ {rels : List YR}, (∀ R ∈ rels, ym_okR R) → 3 * rels.length ≤ (ym_A rels).length := by
  intro rels
  induction rels with
  | nil => intro _; exact Nat.zero_le _
  | cons r rs ih =>
    intro h
    have h1 := ih (fun R hR => h R (List.mem_cons_of_mem _ hR))
    obtain ⟨a1, a2, -⟩ := h r List.mem_cons_self
    have b1 := ym_wf_ne a1
    have b2 := ym_wf_ne a2
    have hp : (ym_A rs).length ≤ (ym_pre r.1 rs).length := by
      unfold ym_pre ym_O
      split
      · rw [List.length_append]; omega
      · exact Nat.le_refl _
    rw [ym_A_cons]
    simp only [List.length_append, List.length_cons, List.length_nil]
    omega
theorem ym_flat_len : ∀ {done : List YL}, (∀ R ∈ done, ym_okL R) → 3 * mnr done ≤ (ym_flat done).length := by
  intro done
  induction done with
  | nil => intro _; exact Nat.zero_le _
  | cons R rest ih =>
    intro h
    have h1 := ih (fun S hS => h S (List.mem_cons_of_mem _ hS))
    have h2 := ym_A_len (h R List.mem_cons_self).2.2.1
    rw [mnr, ym_flat, List.length_append]
    unfold ym_flat1 ym_O
    simp only [List.length_append]
    omega
/-- there is room for one more relation -/
theorem ym_rel_room {sd tk : Nat} {gr : Bool} {wt : List Int32} {out : List YC} {done : List YL} {E : List YC} {rels : List YR} {orf : Bool} {L : List YC} {op : Int32} {aw : Nat} (h : ym_ok ((aw, sd, tk, gr), (wt, out), (done, E, rels), (orf, L, op))) (ha : 2 ≤ aw) (hs : ¬ sd = 0) : mnr done + rels.length < 200 := by
  obtain ⟨a1, a2, a3, a4, a5, a6, a7, a8, ⟨c1, c2, c3, c4, c5, c6, c7, c8, c9⟩, a10⟩ := h
  have b1 := ym_flat_len a8
  have b2 := ym_A_len c7
  have hp : (ym_A rels).length ≤ (ym_pre orf rels).length := by
    unfold ym_pre ym_O
    split
    · rw [List.length_append]; omega
    · exact Nat.le_refl _
  rw [ym_len ha] at a10
  unfold ym_X at a10
  rw [if_neg hs] at a10
  split at a10 <;> omega
/-- a token state of the model -/
def gS (n : Nat) (t : Nat → Int32) (f : Nat) (R : Int32 × Nat × YS) (S : YS) (tk : Nat) (σ : RS) : Prop := (ym_run n t f (tpos n t tk) S = some R ∧ ym_ok S ∧ ∀ i, i < tk → ¬ (tkn n t i).2.1 = 17) ∧ (S.1.2.2.1 = tk ∧ tk ≤ 400) ∧ (σ 0 11 = nI tk ∧ σ 0 13 = 0 ∧ σ 0 12 = 0) ∧ ents n t σ
theorem gS.is {n : Nat} {t : Nat → Int32} {f : Nat} {R : Int32 × Nat × YS} {S : YS} {tk : Nat} {σ : RS} (h : gS n t f R S tk σ) : tk_is (tkn n t tk).2.1 (tkn n t tk).2.2.1 (σ 3 tk) := (ents_is h.2.2.2 h.2.1.2 h.1.2.2).1
theorem gS.bad {n : Nat} {t : Nat → Int32} {f : Nat} {R : Int32 × Nat × YS} {S : YS} {tk : Nat} {σ : RS} (h : gS n t f R S tk σ) (hf : ym_fits S (tkn n t tk).2.1 = false) : flt R (m_fail' σ tk 1) := flt_fail (ym_run_bad h.1.1 hf) (Or.inl rfl) h.2.2.1.2.1 h.2.2.1.1 h.2.1.2 (ents_is h.2.2.2 h.2.1.2 h.1.2.2).2.1
theorem gS.full {n : Nat} {t : Nat → Int32} {f : Nat} {R : Int32 × Nat × YS} {S : YS} {tk : Nat} {σ : RS} (h : gS n t f R S tk σ) (hf : ym_fits S (tkn n t tk).2.1 = true) (hk : ¬ (tkn n t tk).2.1 = 17) (hr : ym_room S (tkn n t tk).2.1 = false) : flt R (m_fail' σ tk 2) := flt_fail (ym_run_full h.1.1 hf hk hr) (Or.inr rfl) h.2.2.1.2.1 h.2.2.1.1 h.2.1.2 (ents_is h.2.2.2 h.2.1.2 h.1.2.2).2.1
theorem ym_step_tk (k v : Int32) (S : YS) : (ym_step k v S).1.2.2.1 = S.1.2.2.1 + 1 := by
  obtain ⟨⟨aw, sd, tk, gr⟩, ⟨wt, out⟩, ⟨done, E, rels⟩, orf, L, op⟩ := S
  unfold ym_step
  dsimp only
  iterate 9 (split; · rfl)
  rfl
theorem gS.next {n : Nat} {t : Nat → Int32} {f : Nat} {R : Int32 × Nat × YS} {S : YS} {tk : Nat} {σ : RS} (h : gS n t f R S tk σ) (hf : ym_fits S (tkn n t tk).2.1 = true) (hk : ¬ (tkn n t tk).2.1 = 17) (h15 : ¬ (tkn n t tk).2.1 = 15) (h0 : S.1.1 = 0 → S.2.2.1.1.length < 16) : flt R (m_next' σ tk) ∨ (m_next' σ tk = s2 σ 0 11 (nI (tk + 1)) ∧ ∃ g, f = g + 1 ∧ gS n t g R (ym_step (tkn n t tk).2.1 (tkn n t tk).2.2.1 S) (tk + 1) (s2 σ 0 11 (nI (tk + 1)))) := by
  have hroom : ym_room S (tkn n t tk).2.1 = decide (tk < 400) := by
    unfold ym_room
    rw [if_neg (fun z => by have := h0 z.1; omega), if_neg (fun z => h15 z.1), h.2.1.1]
  have htk := h.2.1.2
  by_cases h4 : tk = 400
  · left
    rw [m_next_400 h4]
    exact h.full hf hk (by rw [hroom]; exact decide_eq_false (by omega))
  · right
    refine ⟨m_next_go (by omega), ?_⟩
    have hr : ym_room S (tkn n t tk).2.1 = true := by rw [hroom]; exact decide_eq_true (by omega)
    obtain ⟨g, hg, hrun⟩ := ym_run_go h.1.1 hf hk hr
    obtain ⟨q, -, -, hvp⟩ := x_tok_kind n t (tpos n t tk)
    exact ⟨g, hg, ⟨hrun, ym_ok_step h.1.2.1 hf hr hk hvp, ne_succ h.1.2.2 hk⟩, ⟨by rw [ym_step_tk, h.2.1.1], by omega⟩, ⟨rfl, h.2.2.1.2⟩, ents_keep h.2.2.2 rfl rfl rfl⟩
theorem gS.same {n : Nat} {t : Nat → Int32} {f : Nat} {R : Int32 × Nat × YS} {S : YS} {tk : Nat} {σ σ' : RS} (h : gS n t f R S tk σ) (h0 : σ' 0 = σ 0) (h3 : σ' 3 = σ 3) (h4 : σ' 4 = σ 4) (h5 : σ' 5 = σ 5) : gS n t f R S tk σ' := ⟨h.1, h.2.1, by rw [h0]; exact h.2.2.1, ents_keep h.2.2.2 h3 h4 h5⟩
/-- rows of a rule -/
theorem pk_row16 {b r : Nat} {σ : RS} {c : Nat} (v : Int32) (hr : r < 16) (h1 : 9 ≤ c) (h2 : c ≤ 13) : pk b σ (s2 σ c (16 * b + r) v) := by
  refine ⟨fun k h3 h4 => s1_ne _ _ (by omega), fun j _ _ _ _ _ _ => by rw [show (s2 σ c (16 * b + r) v) 0 = σ 0 from s1_ne _ _ (by omega)], fun k i h3 h4 h5 => ?_⟩
  by_cases e : k = c
  · subst e
    have hw : pW k = 16 := by unfold pW; rw [if_neg (by omega), if_pos (by omega)]
    rw [hw] at h5
    rw [show (s2 σ k (16 * b + r) v) k = upd (σ k) (16 * b + r) v from s1_same _ _ _]
    exact upd_ne _ _ (by omega)
  · rw [show (s2 σ c (16 * b + r) v) k = σ k from s1_ne _ _ e]
theorem pk_8 {b : Nat} {σ : RS} (v : Int32) : pk b σ (s2 σ 8 b v) := by
  refine ⟨fun k h3 h4 => s1_ne _ _ (by omega), fun j _ _ _ _ _ _ => rfl, fun k i h3 h4 h5 => ?_⟩
  by_cases e : k = 8
  · subst e
    have hw : pW 8 = 1 := rfl
    rw [hw] at h5
    exact upd_ne _ _ (by omega)
  · rw [show (s2 σ 8 b v) k = σ k from s1_ne _ _ e]
