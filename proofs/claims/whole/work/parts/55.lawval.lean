/-! The class's codes and the model's: what they are worth. -/
theorem stk_low {f : Nat → Int32} {x : Int32} {r : List Int32} (h : stk f (x :: r)) : f r.length = x ∧ stk f r := h
theorem atF_stk {f : Nat → Int32} {x : Int32} {r : List Int32} (h : stk f (x :: r)) (hl : r.length < 400) : atF 400 f (nI r.length) = x := by
  rw [atF_nI _ hl (by omega)]; exact h.1
theorem vp_nt {v : Int32} {n : Nat} (h : vp_in v n) (hn : n < 2 ^ 31) : ∃ w, w < n ∧ v = nI w := by
  rw [vp_in_iff] at h
  obtain ⟨j, j1, j2⟩ := nI_of (x := v) (fun z => by rw [fa_lt] at z; have e0 : ((0 : Int32).toInt) = 0 := rfl; omega)
  subst j2
  rw [nI_toInt j1] at h
  exact ⟨j, by omega, rfl⟩
theorem w_step_le {σ : RS} {i : Nat} {c : YC} {s : List Int32} {g : Nat → Int32} (hi : i < 400) (h1 : σ 1 i = c.1) (h2 : σ 2 i = c.2) (hl : s.length < 400) (hs : stk g s) (hw : if c.1 = 6 ∨ c.1 = 5 then (c.1 = 5 → vp_in c.2 9) else 2 ≤ s.length) : (w_step σ i (nI s.length, g)).1 = nI (le1 (σ 8) c s).length ∧ stk (w_step σ i (nI s.length, g)).2 (le1 (σ 8) c s) := by
  have e1 : atF 400 (σ 1) (nI i) = c.1 := by rw [atF_nI _ hi (by omega), h1]
  have e2 : atF 400 (σ 2) (nI i) = c.2 := by rw [atF_nI _ hi (by omega), h2]
  unfold w_step le1
  rw [e1, e2]
  dsimp only
  by_cases c6 : c.1 = 6
  · rw [if_pos c6, if_pos c6]
    dsimp only
    rw [putF_nI _ _ hl (by omega), List.length_cons]
    exact ⟨nI_1 _, upd_same _ _ _, stk_upd _ _ _ (Nat.le_refl _) hs⟩
  · rw [if_neg c6, if_neg c6]
    by_cases c5 : c.1 = 5
    · rw [if_pos c5, if_pos c5]
      rw [if_pos (Or.inr c5)] at hw
      obtain ⟨w, w1, w2⟩ := vp_nt (hw c5) (by omega)
      dsimp only
      rw [putF_nI _ _ hl (by omega), List.length_cons, w2, atF_nI _ w1 (by omega), nt_nI (by omega)]
      exact ⟨nI_1 _, upd_same _ _ _, stk_upd _ _ _ (Nat.le_refl _) hs⟩
    · rw [if_neg c5, if_neg c5]
      rw [if_neg (fun z => z.elim c6 c5)] at hw
      cases s with
      | nil => exact absurd hw (by rw [List.length_nil]; omega)
      | cons y s =>
        cases s with
        | nil => exact absurd hw (by rw [List.length_cons, List.length_nil]; omega)
        | cons x r =>
          have hl' : r.length + 1 + 1 < 400 := hl
          show nI (r.length + 1 + 1) - 1 = nI (r.length + 1) ∧ stk (putF 400 g (nI (r.length + 1 + 1) - 1 - 1) (jn c.1 (atF 400 g (nI (r.length + 1 + 1) - 1 - 1)) (atF 400 g (nI (r.length + 1 + 1) - 1)))) (jn c.1 x y :: r)
          rw [nI_pred, nI_pred]
          have a1 : atF 400 g (nI (r.length + 1)) = y := atF_stk (r := x :: r) hs (by rw [List.length_cons]; omega)
          have a2 : atF 400 g (nI r.length) = x := atF_stk hs.2 (by omega)
          rw [a1, a2, putF_nI _ _ (by omega) (by omega)]
          exact ⟨rfl, upd_same _ _ _, stk_upd _ _ _ (Nat.le_refl _) hs.2.2⟩
theorem w_run_le {σ : RS} : ∀ (l : List YC) (i : Nat) (s : List Int32) (g : Nat → Int32) (h' : Nat), (∀ j c, l[j]? = some c → σ 1 (i + j) = c.1 ∧ σ 2 (i + j) = c.2) → i + l.length ≤ 400 → s.length + l.length ≤ 400 → stk g s → yw l s.length h' → stk (w_run σ l.length i (nI s.length, g)).2 (le (σ 8) l s) := by
  intro l
  induction l with
  | nil => intro i s g h' _ _ _ hs _; exact hs
  | cons c cs ih =>
    intro i s g h' hc hi hl hs hw
    rw [List.length_cons] at hi hl
    rw [yw] at hw
    obtain ⟨c1, c2⟩ := hc 0 c rfl
    have hst := w_step_le (σ := σ) (i := i) (c := c) (by omega) c1 c2 (by omega) hs (by
      split
      · rename_i e; rw [if_pos e] at hw; exact hw.1
      · rename_i e; rw [if_neg e] at hw; exact hw.1)
    rw [List.length_cons, w_run, le]
    have hl1 : (le1 (σ 8) c s).length = (if c.1 = 6 ∨ c.1 = 5 then s.length + 1 else s.length - 1) := (le1_up (σ 8) c s [] (fun z => by rw [if_neg z] at hw; exact hw.1)).2
    have e : w_step σ i (nI s.length, g) = (nI (le1 (σ 8) c s).length, (w_step σ i (nI s.length, g)).2) := by rw [← hst.1]
    rw [e]
    refine ih (i + 1) (le1 (σ 8) c s) _ h' (fun j x hx => ?_) (by omega) ?_ hst.2 ?_
    · have := hc (j + 1) x (by rw [List.getElem?_cons_succ]; exact hx)
      rw [show i + (j + 1) = i + 1 + j by omega] at this
      exact this
    · rw [hl1]; split <;> omega
    · rw [hl1]
      split
      · rename_i e; rw [if_pos e] at hw; exact hw.2
      · rename_i e; rw [if_neg e] at hw; exact hw.2
/-- a stretch of the class's codes -/
theorem w_val_le {σ : RS} {l : List YC} {a : Nat} (g : Nat → Int32) (hc : ∀ j c, l[j]? = some c → σ 1 (a + j) = c.1 ∧ σ 2 (a + j) = c.2) (ha : a + l.length ≤ 400) (hw : yw l 0 1) {v : Int32} (hv : le (σ 8) l [] = [v]) : (w_val σ a (a + l.length) g).1 = v := by
  have h := w_run_le l a [] g 1 hc ha (by rw [List.length_nil]; omega) trivial hw
  unfold w_val
  dsimp only
  rw [show a + l.length - a = l.length by omega]
  rw [hv] at h
  exact atF_stk (r := []) h (by rw [List.length_nil]; omega)
def hold1 (vs : Nat → Int32) (R : YL) : Bool := R.2.2.isEmpty || dnf vs R.2.2
/-- the first rule of a sort that holds -/
def frule (vs : Nat → Int32) (gr : Bool) : Nat → List YL → Int32
  | _, [] => -1
  | r, R :: rest => if R.1 = gr ∧ hold1 vs R = true then nI r else frule vs gr (r + 1) rest
/-- the rules in the class's law, with their codes -/
def lzE (σ : RS) (r a : Nat) (R : YL) : Prop := (σ 3 r = bI R.1 ∧ σ 4 r = nI a ∧ σ 5 r = nI (a + R.2.1.length) ∧ σ 6 r = nI (a + (ym_flat1 R).length)) ∧ (∀ j c, (ym_flat1 R)[j]? = some c → σ 1 (a + j) = c.1 ∧ σ 2 (a + j) = c.2) ∧ a + (ym_flat1 R).length ≤ 400
def lzl (σ : RS) : Nat → Nat → List YL → Prop
  | _, _, [] => True
  | r, a, R :: rest => lzE σ r a R ∧ lzl σ (r + 1) (a + (ym_flat1 R).length) rest
theorem app_get_l {α : Type} {a b : List α} {j : Nat} {c : α} (h : a[j]? = some c) : (a ++ b)[j]? = some c := by
  rw [List.getElem?_append_left (List.getElem?_eq_some_iff.mp h).1]; exact h
theorem app_get_r {α : Type} {a b : List α} {j : Nat} {c : α} (h : b[j]? = some c) : (a ++ b)[a.length + j]? = some c := by
  rw [List.getElem?_append_right (by omega), Nat.add_sub_cancel_left]; exact h
theorem lz_holds_eq {σ : RS} {r a : Nat} {R : YL} (h : lzE σ r a R) (hok : ym_okL R) (g : Nat → Int32) : (lz_holds σ r g).1 = hold1 (σ 8) R := by
  obtain ⟨⟨h3, h4, h5, h6⟩, hc, hl⟩ := h
  have e1 : (ym_flat1 R).length = R.2.1.length + (ym_O R.2.2).length := List.length_append
  have eC : lz_C σ r = a + R.2.1.length := by unfold lz_C; rw [h5]; exact nI_clamp (by omega)
  have eE : lz_E σ r = a + R.2.1.length + (ym_O R.2.2).length := by unfold lz_E; rw [h6, e1, ← Nat.add_assoc]; exact nI_clamp (by omega)
  unfold lz_holds hold1
  rw [eC, eE]
  by_cases hn : R.2.2 = []
  · rw [hn, if_pos (by rfl)]
    rfl
  · have hO := le_O (σ 8) [] hok.2.2.2 hok.2.2.1 hn
    have hyw := yw_O hok.2.2.2 hok.2.2.1 hn
    have hpos : 0 < (ym_O R.2.2).length := by
      cases hq : ym_O R.2.2 with
      | nil => rw [hq] at hyw; cases hyw
      | cons x l => rw [List.length_cons]; omega
    rw [if_neg (by omega)]
    have hv := w_val_le (σ := σ) (a := a + R.2.1.length) (l := ym_O R.2.2) g (fun j c hj => by
      have := hc (R.2.1.length + j) c (app_get_r hj)
      rw [← Nat.add_assoc] at this
      exact this) (by omega) hyw hO
    dsimp only
    rw [hv]
    have hne : R.2.2.isEmpty = false := by
      cases hq : R.2.2 with
      | nil => exact absurd hq hn
      | cons x l => rfl
    rw [hne, Bool.false_or]
    cases dnf (σ 8) R.2.2 <;> rfl
theorem bI_inj {a b : Bool} : (bI a = bI b) ↔ a = b := by cases a <;> cases b <;> decide
theorem lz_first_eq {σ : RS} (gr : Bool) : ∀ (rest : List YL) (r a : Nat) (g : Nat → Int32), lzl σ r a rest → (∀ R ∈ rest, ym_okL R) → (lz_first σ (bI gr) rest.length r g).1 = frule (σ 8) gr r rest := by
  intro rest
  induction rest with
  | nil => intro r a g _ _; rfl
  | cons R rest ih =>
    intro r a g h hok
    have hE := lz_holds_eq h.1 (hok R List.mem_cons_self) g
    have h3 := h.1.1.1
    rw [List.length_cons, lz_first, frule, h3, hE]
    have ih' := fun g => ih (r + 1) _ g h.2 (fun S hS => hok S (List.mem_cons_of_mem _ hS))
    by_cases hg : R.1 = gr
    · rw [if_pos (by rw [hg])]
      by_cases hh : hold1 (σ 8) R = true
      · rw [if_pos hh, if_pos ⟨hg, hh⟩]
      · rw [if_neg hh, if_neg (fun z => hh z.2)]
        exact ih' _
    · rw [if_neg (fun z => hg (bI_inj.mp z)), if_neg (fun z => hg z.1)]
      exact ih' _
theorem lzl_get {σ : RS} : ∀ {l : List YL} {r a k : Nat} {R : YL}, lzl σ r a l → l[k]? = some R → ∃ a', lzE σ (r + k) a' R := by
  intro l
  induction l with
  | nil => intro r a k R _ h; cases h
  | cons S l ih =>
    intro r a k R h hk
    cases k with
    | zero => cases hk; exact ⟨a, h.1⟩
    | succ k =>
      rw [List.getElem?_cons_succ] at hk
      obtain ⟨a', ha⟩ := ih h.2 hk
      exact ⟨a', by rw [show r + (k + 1) = r + 1 + k by omega]; exact ha⟩
theorem lz_grow_eq {σ : RS} {r a : Nat} {R : YL} (h : lzE σ r a R) (hw : ym_wf R.2.1 0 1) (g : Nat → Int32) : (lz_grow σ r g).1 = lz_clip (ev1 (σ 8) R.2.1) := by
  obtain ⟨⟨h3, h4, h5, h6⟩, hc, hl⟩ := h
  have e1 : (ym_flat1 R).length = R.2.1.length + (ym_O R.2.2).length := List.length_append
  have eS : lz_S σ r = a := by unfold lz_S; rw [h4]; exact nI_clamp (by omega)
  have eC : lz_C σ r = a + R.2.1.length := by unfold lz_C; rw [h5]; exact nI_clamp (by omega)
  unfold lz_grow
  dsimp only
  rw [eS, eC, w_val_le (σ := σ) (l := R.2.1) g (fun j c hj => hc j c (app_get_l hj)) (by omega) (yw_of_wf hw) (le_ev (σ 8) hw [])]
theorem frule_res (vs : Nat → Int32) (gr : Bool) : ∀ (l : List YL) (r : Nat), frule vs gr r l = -1 ∨ ∃ k R, l[k]? = some R ∧ R.1 = gr ∧ frule vs gr r l = nI (r + k) := by
  intro l
  induction l with
  | nil => intro r; exact Or.inl rfl
  | cons R l ih =>
    intro r
    rw [frule]
    split
    · rename_i h
      exact Or.inr ⟨0, R, rfl, h.1, rfl⟩
    · rcases ih (r + 1) with h | ⟨k, S, h1, h2, h3⟩
      · exact Or.inl h
      · exact Or.inr ⟨k + 1, S, by rw [List.getElem?_cons_succ]; exact h1, h2, by rw [h3]; congr 1; omega⟩
/-- the E of a rule, held to 0 .. 100; 11 without one -/
def growv (vs : Nat → Int32) (A : List YL) (i : Int32) : Int32 := if i = -1 then 11 else match A[nt i]? with
  | some R => lz_clip (ev1 vs R.2.1)
  | none => 0
theorem growv_at {vs : Nat → Int32} {A : List YL} {k : Nat} {R : YL} (h : A[k]? = some R) (hk : k < 2 ^ 31) : growv vs A (nI k) = lz_clip (ev1 vs R.2.1) := by
  unfold growv
  rw [if_neg (fun z => absurd (nI_pos (n := k) hk) (by rw [z]; decide)), nt_nI hk, h]
