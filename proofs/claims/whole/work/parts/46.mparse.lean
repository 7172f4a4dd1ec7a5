/-! The model's reading: words for its state; what a token is to both. -/
theorem tk_fin5 : ∀ w : Fin 9, (25 ≤ (25 : Int32) + nI w.val ∧ (25 : Int32) + nI w.val ≤ 33) ∧ (25 : Int32) + nI w.val - 25 = nI w.val := by decide +kernel
/-- a token's kind, as the model sees it -/
def tk_is (k v x : Int32) : Prop := ((x = 20 ↔ k = 0) ∧ (x = 21 ↔ k = 1) ∧ (x = 22 ↔ k = 2) ∧ (x = 23 ↔ k = 3) ∧ (x = 24 ↔ k = 4)) ∧ ((25 ≤ x ∧ x ≤ 33) ↔ k = 5) ∧ ((x = 2 ↔ k = 6) ∧ (x = 4 ↔ k = 7) ∧ (x = 8 ↔ k = 8) ∧ (x = 9 ↔ k = 9) ∧ (x = 10 ↔ k = 10)) ∧ ((x = 6 ↔ k = 15) ∧ (x = 7 ↔ k = 16) ∧ (x = 0 ↔ k = 17)) ∧ ((11 ≤ x ∧ x ≤ 14) ↔ z_isRel k = true) ∧ (k = 5 → x - 25 = v) ∧ (z_isRel k = true → x = k)
theorem tk_is_of {k v x : Int32} {q : Nat} (hq : q ≤ 18) (hk : k = nI q) (hv : k = 5 → vp_in v 9) (h : tk_rel k v x) : tk_is k v x := by
  subst hk
  by_cases h5 : q = 5
  · subst h5
    have hv := hv rfl
    rw [vp_in_iff] at hv
    obtain ⟨j, j1, j2⟩ := nI_of (x := v) (fun z => by rw [fa_lt] at z; have e0 : ((0 : Int32).toInt) = 0 := rfl; omega)
    subst j2
    rw [nI_toInt j1] at hv
    have hx : x = 25 + nI j := h
    subst hx
    have hj : j < 9 := by omega
    clear h hv
    have : ∀ w : Fin 9, tk_is (nI 5) (nI w.val) (25 + nI w.val) := by
      unfold tk_is
      decide +kernel
    exact this ⟨j, hj⟩
  · by_cases h18 : q = 18
    · subst h18
      rcases (show x = 1 ∨ x = 3 from h) with rfl | rfl
      · exact ⟨by decide, by decide, by decide, by decide, by decide, fun z => absurd z (by decide), fun z => absurd z (by decide)⟩
      · exact ⟨by decide, by decide, by decide, by decide, by decide, fun z => absurd z (by decide), fun z => absurd z (by decide)⟩
    · have hx : x = tk_map (nI q) v := by
        unfold tk_rel at h
        rwa [if_neg (show ¬ nI q = 18 from fun z => h18 ((nI_eq (a := q) (b := 18) (by omega) (by omega)).mp z))] at h
      have hx : x = tk_map (nI q) 0 := by
        rw [hx]
        unfold tk_map
        have n5 : ¬ nI q = 5 := fun z => h5 ((nI_eq (a := q) (b := 5) (by omega) (by omega)).mp z)
        rw [if_neg n5, if_neg n5]
      subst hx
      have all : ∀ q : Fin 18, ¬ q.val = 5 → tk_is (nI q.val) 0 (tk_map (nI q.val) 0) := by
        unfold tk_is
        decide +kernel
      have := all ⟨q, by omega⟩ h5
      obtain ⟨a1, a2, a3, a4, a5, a6, a7⟩ := this
      exact ⟨a1, a2, a3, a4, a5, fun z => absurd ((nI_eq (a := q) (b := 5) (by omega) (by omega)).mp z) h5, a7⟩
theorem x_sign_kind (n : Nat) (t : Nat → Int32) (i : Nat) (c : Int32) : ∃ q, q ≤ 18 ∧ (x_sign n t i c).1 = nI q ∧ ¬ q = 5 ∧ ¬ q = 17 := by
  unfold x_sign
  split; · exact ⟨7, by omega, rfl, by omega, by omega⟩
  split; · exact ⟨8, by omega, rfl, by omega, by omega⟩
  split; · exact ⟨9, by omega, rfl, by omega, by omega⟩
  split; · exact ⟨10, by omega, rfl, by omega, by omega⟩
  split; · exact ⟨15, by omega, rfl, by omega, by omega⟩
  split; · exact ⟨16, by omega, rfl, by omega, by omega⟩
  split; · dsimp only; split; · exact ⟨11, by omega, rfl, by omega, by omega⟩
           · exact ⟨18, by omega, rfl, by omega, by omega⟩
  split; · dsimp only; split; · exact ⟨12, by omega, rfl, by omega, by omega⟩
           · exact ⟨18, by omega, rfl, by omega, by omega⟩
  split; · dsimp only; split; · exact ⟨14, by omega, rfl, by omega, by omega⟩
           · exact ⟨13, by omega, rfl, by omega, by omega⟩
  exact ⟨18, by omega, rfl, by omega, by omega⟩
theorem wk_kind : ∀ w : Fin 14, ∃ q : Fin 19, x_wk (some w.val) = nI q.val := by decide +kernel
/-- the kinds that a token may have -/
theorem x_tok_kind (n : Nat) (t : Nat → Int32) (i : Nat) : ∃ q, q ≤ 18 ∧ (x_tok n t i).2.1 = nI q ∧ ((x_tok n t i).2.1 = 5 → vp_in (x_tok n t i).2.2.1 9) := by
  unfold x_tok
  generalize x_skip x_blank t (n - i) i = s
  unfold x_tokAt
  split
  · exact ⟨17, by omega, rfl, fun z => absurd (show (17 : Int32) = 5 from z) (by decide)⟩
  · split
    · dsimp only
      cases hf : x_find s (x_skip x_letter t (n - s) s) t 14 0 with
      | none => exact ⟨18, by omega, rfl, fun z => absurd (show (18 : Int32) = 5 from z) (by decide)⟩
      | some w =>
        have hw : w < 14 := by have := x_find_lt _ _ _ _ _ _ hf; omega
        obtain ⟨q, hq⟩ := wk_kind ⟨w, hw⟩
        exact ⟨q.val, by have := q.isLt; omega, hq, wk_fits ⟨w, hw⟩⟩
    · split
      · dsimp only
        split
        · exact ⟨18, by omega, rfl, fun z => absurd z (by decide)⟩
        · exact ⟨6, by omega, rfl, fun z => absurd z (by decide)⟩
      · dsimp only
        obtain ⟨q, q1, q2, q3, q4⟩ := x_sign_kind n t s (x_byte n t s)
        exact ⟨q, q1, q2, fun z => absurd ((nI_eq (a := q) (b := 5) (by omega) (by omega)).mp (q2.symm.trans z)) q3⟩
/-- the run, one token on -/
theorem ym_run_inv {n : Nat} {t : Nat → Int32} {f j : Nat} {S : YS} {R : Int32 × Nat × YS} (h : ym_run n t f (tpos n t j) S = some R) : (ym_fits S (tkn n t j).2.1 = false ∧ R = (1, (tkn n t j).1, S)) ∨ (ym_fits S (tkn n t j).2.1 = true ∧ (tkn n t j).2.1 = 17 ∧ R = (0, (tkn n t j).1, S)) ∨ (ym_fits S (tkn n t j).2.1 = true ∧ ¬ (tkn n t j).2.1 = 17 ∧ ym_room S (tkn n t j).2.1 = false ∧ R = (2, (tkn n t j).1, S)) ∨ (ym_fits S (tkn n t j).2.1 = true ∧ ¬ (tkn n t j).2.1 = 17 ∧ ym_room S (tkn n t j).2.1 = true ∧ ∃ g, f = g + 1 ∧ ym_run n t g (tpos n t (j + 1)) (ym_step (tkn n t j).2.1 (tkn n t j).2.2.1 S) = some R) := by
  cases f with
  | zero => cases h
  | succ f =>
    rw [ym_run] at h
    change (if ym_fits S (tkn n t j).2.1 = true then (if (tkn n t j).2.1 = 17 then some (0, (tkn n t j).1, S) else if ym_room S (tkn n t j).2.1 = true then ym_run n t f (tpos n t (j + 1)) (ym_step (tkn n t j).2.1 (tkn n t j).2.2.1 S) else some (2, (tkn n t j).1, S)) else some (1, (tkn n t j).1, S)) = some R at h
    split at h
    · rename_i h1
      split at h
      · rename_i h2
        exact Or.inr (Or.inl ⟨h1, h2, (Option.some.inj h).symm⟩)
      · rename_i h2
        split at h
        · rename_i h3
          exact Or.inr (Or.inr (Or.inr ⟨h1, h2, h3, f, rfl, h⟩))
        · rename_i h3
          exact Or.inr (Or.inr (Or.inl ⟨h1, h2, Bool.not_eq_true _ ▸ h3, (Option.some.inj h).symm⟩))
    · rename_i h1
      exact Or.inl ⟨Bool.not_eq_true _ ▸ h1, (Option.some.inj h).symm⟩
/-- the tokens stand in the model's rows -/
def ents (n : Nat) (t : Nat → Int32) (σ : RS) : Prop := ∀ j, j ≤ 400 → (∀ i, i < j → ¬ (tkn n t i).2.1 = 17) → tk_ent n t j σ
theorem ents_keep {n : Nat} {t : Nat → Int32} {σ σ' : RS} (h : ents n t σ) (h3 : σ' 3 = σ 3) (h4 : σ' 4 = σ 4) (h5 : σ' 5 = σ 5) : ents n t σ' := fun j hj hi => by
  have := h j hj hi
  unfold tk_ent at this ⊢
  rw [h3, h4, h5]
  exact this
theorem ents_of {σ σ' : RS} {n : Nat} (h : cut_end σ n σ') : ents n (m_bt σ) σ' := fun j hj hi => by
  obtain ⟨J, h1, h2⟩ := h
  rcases h2 with h2 | ⟨q, q1, q2⟩
  · exact h1.2.2.2 j (by omega)
  · by_cases z : j < J
    · exact h1.2.2.2 j z
    · exact absurd q2 (hi q (by omega))
theorem ents_is {n : Nat} {t : Nat → Int32} {σ : RS} (h : ents n t σ) {j : Nat} (hj : j ≤ 400) (hi : ∀ i, i < j → ¬ (tkn n t i).2.1 = 17) : tk_is (tkn n t j).2.1 (tkn n t j).2.2.1 (σ 3 j) ∧ σ 4 j = nI (tkn n t j).1 ∧ ((tkn n t j).2.1 = 6 → σ 5 j = (tkn n t j).2.2.1) := by
  obtain ⟨h1, h2, h3⟩ := h j hj hi
  obtain ⟨q, q1, q2, q3⟩ := x_tok_kind n t (tpos n t j)
  exact ⟨tk_is_of q1 q2 q3 h1, h2, h3⟩
/-- codes in the model's rows, on the side b -/
def cv (k : Int32) : Int32 := if k = 6 then 0 else if k = 5 then 1 else if k = 8 then 2 else if k = 9 then 3 else 4
def mc (b : Nat) (σ : RS) (l : List YC) : Prop := σ 0 32 = nI (500 * b + l.length) ∧ ∀ i c, l[i]? = some c → σ 20 (500 * b + i) = cv c.1 ∧ σ 21 (500 * b + i) = c.2
/-- what reading keeps: all but its own rows' side b -/
def pW (c : Nat) : Nat := if c = 8 ∨ c = 14 then 1 else if c ≤ 13 then 16 else if c ≤ 19 then 200 else 500
def pk (b : Nat) (σ σ' : RS) : Prop := (∀ c, c ≠ 0 → c < 8 ∨ 22 < c → σ' c = σ c) ∧ (∀ j, j ≠ 11 → j ≠ 12 → j ≠ 13 → j ≠ 14 → j ≠ 32 → j ≠ 36 → σ' 0 j = σ 0 j) ∧ ∀ c i, 8 ≤ c → c ≤ 21 → i < pW c * b ∨ pW c * b + pW c ≤ i → σ' c i = σ c i
theorem pk.refl (b : Nat) (σ : RS) : pk b σ σ := ⟨fun _ _ _ => rfl, fun _ _ _ _ _ _ _ => rfl, fun _ _ _ _ _ => rfl⟩
theorem pk.trans {b : Nat} {x y z : RS} (h : pk b x y) (g : pk b y z) : pk b x z := ⟨fun c h1 h2 => (g.1 c h1 h2).trans (h.1 c h1 h2), fun j h1 h2 h3 h4 h5 h6 => (g.2.1 j h1 h2 h3 h4 h5 h6).trans (h.2.1 j h1 h2 h3 h4 h5 h6), fun c i h1 h2 h3 => (g.2.2 c i h1 h2 h3).trans (h.2.2 c i h1 h2 h3)⟩
/-- an expression's reading: of the rows the codes and the signs that wait alone -/
def xk (b : Nat) (σ σ' : RS) : Prop := pk b σ σ' ∧ ∀ c, 8 ≤ c → c ≤ 19 → σ' c = σ c
theorem xk.refl (b : Nat) (σ : RS) : xk b σ σ := ⟨pk.refl b σ, fun _ _ _ => rfl⟩
theorem xk.trans {b : Nat} {x y z : RS} (h : xk b x y) (g : xk b y z) : xk b x z := ⟨h.1.trans g.1, fun c h1 h2 => (g.2 c h1 h2).trans (h.2 c h1 h2)⟩
theorem xk_slot {b : Nat} {σ : RS} {j : Nat} (v : Int32) (hj : j = 11 ∨ j = 12 ∨ j = 13 ∨ j = 14 ∨ j = 32 ∨ j = 36) : xk b σ (s2 σ 0 j v) := ⟨⟨fun c h _ => s1_ne _ _ h, fun i h1 h2 h3 h4 h5 h6 => upd_ne _ _ (by omega), fun c i h1 _ _ => by rw [show (s2 σ 0 j v) c = σ c from s1_ne _ _ (by omega)]⟩, fun c h1 _ => s1_ne _ _ (by omega)⟩
theorem xk_22 {b : Nat} {σ : RS} (f : Nat → Int32) : xk b σ (s1 σ 22 f) := ⟨⟨fun c _ h => s1_ne _ _ (by omega), fun i _ _ _ _ _ _ => rfl, fun c i h1 h2 _ => by rw [show (s1 σ 22 f) c = σ c from s1_ne _ _ (by omega)]⟩, fun c h1 h2 => s1_ne _ _ (by omega)⟩
theorem xk_emit {b : Nat} {σ : RS} {i : Nat} (hi : i < 500) (k v : Int32) : xk b σ (m_emit' σ (500 * b + i) k v) := by
  have h0 : ∀ c, c ≠ 0 → c ≠ 20 → c ≠ 21 → (m_emit' σ (500 * b + i) k v) c = σ c := fun c h1 h2 h3 => by
    unfold m_emit'
    rw [show (s2 (s1 (s1 σ 20 (upd (σ 20) (500 * b + i) k)) 21 (upd (σ 21) (500 * b + i) v)) 0 32 (nI (500 * b + i + 1))) c = (s1 (s1 σ 20 (upd (σ 20) (500 * b + i) k)) 21 (upd (σ 21) (500 * b + i) v)) c from s1_ne _ _ h1, s1_ne _ _ h3, s1_ne _ _ h2]
  refine ⟨⟨fun c h1 h2 => h0 c h1 (by omega) (by omega), fun j _ _ _ _ h5 _ => upd_ne _ _ h5, fun c j h1 h2 h3 => ?_⟩, fun c h1 h2 => h0 c (by omega) (by omega) (by omega)⟩
  by_cases e20 : c = 20
  · subst e20
    have : pW 20 = 500 := rfl
    rw [this] at h3
    exact upd_ne _ _ (by omega)
  · by_cases e21 : c = 21
    · subst e21
      have : pW 21 = 500 := rfl
      rw [this] at h3
      exact upd_ne _ _ (by omega)
    · rw [h0 c (by omega) e20 e21]
theorem mc_emit {b : Nat} {σ : RS} {l : List YC} (h : mc b σ l) (k v : Int32) : mc b (m_emit' σ (500 * b + l.length) (cv k) v) (l ++ [(k, v)]) := by
  refine ⟨?_, fun i c hc => ?_⟩
  · show nI (500 * b + l.length + 1) = _
    rw [List.length_append, List.length_cons, List.length_nil]
    rfl
  · by_cases hi : i < l.length
    · rw [List.getElem?_append_left hi] at hc
      obtain ⟨h1, h2⟩ := h.2 i c hc
      exact ⟨(upd_ne _ _ (by omega)).trans h1, (upd_ne _ _ (by omega)).trans h2⟩
    · have hi2 : i = l.length := by
        have := (List.getElem?_eq_some_iff.mp hc).1
        rw [List.length_append, List.length_cons, List.length_nil] at this
        omega
      subst hi2
      rw [List.getElem?_append_right (Nat.le_refl _), Nat.sub_self] at hc
      cases hc
      exact ⟨upd_same _ _ _, upd_same _ _ _⟩
theorem mc_same {b : Nat} {σ σ' : RS} {l : List YC} (h : mc b σ l) (h0 : σ' 0 32 = σ 0 32) (h1 : σ' 20 = σ 20) (h2 : σ' 21 = σ 21) : mc b σ' l := by
  unfold mc
  rw [h0, h1, h2]
  exact h
/-- signs that wait -/
def wcv (x : Int32) : Int32 := if x = 15 then 6 else x
def mwt (σ : RS) (wt : List Int32) : Prop := σ 0 36 = nI wt.length ∧ stk (σ 22) (wt.map wcv)
theorem ym_set_4 : ∀ {wt : List Int32} (out : List YC), ym_wt wt → ym_set 4 wt out = ym_set 1 wt out := by
  intro wt
  induction wt with
  | nil => intro out _; rfl
  | cons x r ih =>
    intro out h
    rw [ym_set, ym_set]
    rcases h.2.1 with rfl | rfl | rfl | rfl
    · rw [if_neg (by decide), if_neg (by decide)]
    · rw [if_pos (by decide), if_pos (by decide)]; exact ih _ h.1
    · rw [if_pos (by decide), if_pos (by decide)]; exact ih _ h.1
    · rw [if_pos (by decide), if_pos (by decide)]; exact ih _ h.1
theorem e_out_rep {b : Nat} (times : Bool) : ∀ (wt : List Int32) (l : List YC) (σ : RS), ym_wt wt → mwt σ wt → mc b σ l → l.length + wt.length ≤ 500 → let q := ym_set (if times = true then 5 else 1) wt l; let τ := e_out times wt.length (500 * b + l.length) σ; mwt τ q.1 ∧ mc b τ q.2 ∧ xk b σ τ ∧ (∀ j, j ≠ 32 → j ≠ 36 → τ 0 j = σ 0 j) := by
  intro wt
  induction wt with
  | nil => intro l σ _ h1 h2 _; exact ⟨h1, h2, xk.refl b σ, fun _ _ _ => rfl⟩
  | cons x r ih =>
    intro l σ hw h1 h2 hl
    rw [List.length_cons] at hl
    have hx : σ 22 r.length = wcv x := by
      have := h1.2.1
      rwa [List.length_map] at this
    dsimp only
    rw [List.length_cons, e_out, ym_set, hx]
    have hc : (¬ wcv x = 6 ∧ (times = false ∨ wcv x = 10)) ↔ (if times = true then (5 : Int32) else 1) ≤ z_rank x := by
      rcases hw.2.1 with rfl | rfl | rfl | rfl <;> cases times <;> decide
    by_cases hp : (if times = true then (5 : Int32) else 1) ≤ z_rank x
    · rw [if_pos hp, if_pos (hc.mpr hp)]
      have hx15 : ¬ x = 15 := fun e => by rw [e] at hp; cases times <;> exact absurd hp (by decide)
      have e1 : e_op (wcv x) = cv x := by
        rcases hw.2.1 with rfl | rfl | rfl | rfl
        · exact absurd rfl hx15
        · rfl
        · rfl
        · rfl
      rw [e1]
      have g1 : mwt (m_emit' (s2 σ 0 36 (nI r.length)) (500 * b + l.length) (cv x) 0) r := ⟨rfl, h1.2.2⟩
      have g2 : mc b (m_emit' (s2 σ 0 36 (nI r.length)) (500 * b + l.length) (cv x) 0) (l ++ [(x, 0)]) := mc_emit (σ := s2 σ 0 36 (nI r.length)) (mc_same h2 rfl rfl rfl) x 0
      have g3 := ih (l ++ [(x, 0)]) _ hw.1 g1 g2 (by rw [List.length_append, List.length_cons, List.length_nil]; omega)
      dsimp only at g3
      have el : 500 * b + (l ++ [((x, 0) : YC)]).length = 500 * b + l.length + 1 := by rw [List.length_append, List.length_cons, List.length_nil]; omega
      rw [el] at g3
      refine ⟨g3.1, g3.2.1, ((xk_slot _ (by omega)).trans (xk_emit (by omega) _ _)).trans g3.2.2.1, fun j j1 j2 => (g3.2.2.2 j j1 j2).trans ?_⟩
      exact (upd_ne _ _ j1).trans (upd_ne _ _ j2)
    · rw [if_neg hp, if_neg (fun z => hp (hc.mp z))]
      exact ⟨h1, h2, xk.refl b σ, fun _ _ _ => rfl⟩
