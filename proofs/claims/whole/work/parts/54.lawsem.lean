/-! What a law says: one meaning for the class's codes and the model's. -/
def le_op (k : Int32) : List Int32 → List Int32
  | y :: x :: r => jn k x y :: r
  | s => s
def le1 (vs : Nat → Int32) (c : YC) (s : List Int32) : List Int32 := if c.1 = 6 then c.2 :: s else if c.1 = 5 then vs (nt c.2) :: s else le_op c.1 s
def le (vs : Nat → Int32) : List YC → List Int32 → List Int32
  | [], s => s
  | c :: cs, s => le vs cs (le1 vs c s)
/-- codes that take from no pile that is too small -/
def yw : List YC → Nat → Nat → Prop
  | [], h, h' => h = h'
  | c :: cs, h, h' => if c.1 = 6 ∨ c.1 = 5 then (c.1 = 5 → vp_in c.2 9) ∧ yw cs (h + 1) h' else 2 ≤ h ∧ yw cs (h - 1) h'
theorem yw_of_wf : ∀ {l : List YC} {h h' : Nat}, ym_wf l h h' → yw l h h' := by
  intro l
  induction l with
  | nil => intro h h' w; exact w
  | cons c cs ih =>
    intro h h' w
    rw [ym_wf] at w
    rw [yw]
    split
    · rename_i e
      rw [if_pos e] at w
      exact ⟨w.1, ih w.2⟩
    · rename_i e
      rw [if_neg e] at w
      exact ⟨w.1, ih w.2.2⟩
theorem yw_app {a b : List YC} : ∀ {h h1 h2 : Nat}, yw a h h1 → yw b h1 h2 → yw (a ++ b) h h2 := by
  induction a with
  | nil => intro h h1 h2 p q; cases p; exact q
  | cons c cs ih =>
    intro h h1 h2 p q
    rw [yw] at p
    rw [List.cons_append, yw]
    split
    · rename_i h3
      rw [if_pos h3] at p
      exact ⟨p.1, ih p.2 q⟩
    · rename_i h3
      rw [if_neg h3] at p
      exact ⟨p.1, ih p.2 q⟩
theorem yw_up {l : List YC} : ∀ {h h' : Nat} (k : Nat), yw l h h' → yw l (h + k) (h' + k) := by
  induction l with
  | nil => intro h h' k w; rw [yw] at w ⊢; omega
  | cons c cs ih =>
    intro h h' k w
    rw [yw] at w ⊢
    split
    · rename_i e
      rw [if_pos e] at w
      have := ih k w.2
      rw [show h + 1 + k = h + k + 1 by omega] at this
      exact ⟨w.1, this⟩
    · rename_i e
      rw [if_neg e] at w
      have := ih k w.2
      rw [show h - 1 + k = h + k - 1 by omega] at this
      exact ⟨by omega, this⟩
theorem le_app (vs : Nat → Int32) : ∀ (a b : List YC) (s : List Int32), le vs (a ++ b) s = le vs b (le vs a s) := by
  intro a
  induction a with
  | nil => intro b s; rfl
  | cons c cs ih =>
    intro b s
    rw [List.cons_append, le, le]
    exact ih _ _
theorem le1_up (vs : Nat → Int32) (c : YC) (p s : List Int32) (h : ¬ (c.1 = 6 ∨ c.1 = 5) → 2 ≤ p.length) : le1 vs c (p ++ s) = le1 vs c p ++ s ∧ (le1 vs c p).length = (if c.1 = 6 ∨ c.1 = 5 then p.length + 1 else p.length - 1) := by
  unfold le1
  by_cases e6 : c.1 = 6
  · rw [if_pos e6, if_pos e6, if_pos (Or.inl e6)]
    exact ⟨rfl, rfl⟩
  · rw [if_neg e6, if_neg e6]
    by_cases e5 : c.1 = 5
    · rw [if_pos e5, if_pos e5, if_pos (Or.inr e5)]
      exact ⟨rfl, rfl⟩
    · have hn : ¬ (c.1 = 6 ∨ c.1 = 5) := fun z => z.elim e6 e5
      rw [if_neg e5, if_neg e5, if_neg hn]
      have h2 := h hn
      cases p with
      | nil => exact absurd h2 (by rw [List.length_nil]; omega)
      | cons y p =>
        cases p with
        | nil => exact absurd h2 (by rw [List.length_cons, List.length_nil]; omega)
        | cons x r => exact ⟨rfl, rfl⟩
theorem le_up (vs : Nat → Int32) : ∀ {l : List YC} {h' : Nat} (p s : List Int32), yw l p.length h' → le vs l (p ++ s) = le vs l p ++ s ∧ (le vs l p).length = h' := by
  intro l
  induction l with
  | nil => intro h' p s w; exact ⟨rfl, w⟩
  | cons c cs ih =>
    intro h' p s w
    rw [yw] at w
    rw [le, le]
    by_cases e : c.1 = 6 ∨ c.1 = 5
    · rw [if_pos e] at w
      obtain ⟨h1, h2⟩ := le1_up vs c p s (fun z => absurd e z)
      rw [if_pos e] at h2
      rw [h1]
      exact ih (le1 vs c p) s (by rw [h2]; exact w.2)
    · rw [if_neg e] at w
      obtain ⟨h1, h2⟩ := le1_up vs c p s (fun _ => w.1)
      rw [if_neg e] at h2
      rw [h1]
      exact ih (le1 vs c p) s (by rw [h2]; exact w.2)
/-- what an E is worth -/
def ev1 (vs : Nat → Int32) (l : List YC) : Int32 := (le vs l []).headD 0
theorem le_ev (vs : Nat → Int32) {l : List YC} (h : ym_wf l 0 1) (s : List Int32) : le vs l s = ev1 vs l :: s := by
  have w := yw_of_wf h
  obtain ⟨h1, h2⟩ := le_up vs (l := l) [] s w
  rw [List.nil_append] at h1
  rw [h1]
  unfold ev1
  generalize le vs l [] = q at *
  cases q with
  | nil => cases h2
  | cons x r =>
    cases r with
    | nil => rfl
    | cons y r => rw [List.length_cons, List.length_cons] at h2; omega
def cmp1 (op a b : Int32) : Bool := if op = 11 then decide (a = b) else if op = 12 then decide (¬ a = b) else if op = 13 then decide (a < b) else decide (a ≤ b)
theorem jn_cmp {op : Int32} (h : z_isRel op = true) (a b : Int32) : jn op a b = bI (cmp1 op a b) := by
  rcases of_decide_eq_true h with rfl | rfl | rfl | rfl <;> rfl
def relv (vs : Nat → Int32) (r : YR) : Bool := cmp1 r.2.2.1 (ev1 vs r.2.1) (ev1 vs r.2.2.2)
/-- an ALL ahead of the last one holds; the last one does so far -/
def sm (vs : Nat → Int32) : List YR → Bool × Bool
  | [] => (false, false)
  | r :: rs => if r.1 = true then ((sm vs rs).1 || (sm vs rs).2, relv vs r) else ((sm vs rs).1, (sm vs rs).2 && relv vs r)
def dnf (vs : Nat → Int32) (rels : List YR) : Bool := (sm vs rels).1 || (sm vs rels).2
theorem le_rel (vs : Nat → Int32) {r : YR} (h : ym_okR r) (s : List Int32) : le vs (r.2.1 ++ r.2.2.2 ++ [(r.2.2.1, 0)]) s = bI (relv vs r) :: s := by
  obtain ⟨h1, h2, h3⟩ := h
  rw [le_app, le_app, le_ev vs h1, le_ev vs h2]
  have n := ym_rel_not h3
  rw [le, le]
  unfold le1
  rw [if_neg (fun z => n.2.2.2.2.2.2.1 (Or.inl z)), if_neg (fun z => n.2.2.2.2.2.2.1 (Or.inr z))]
  show jn r.2.2.1 (ev1 vs r.2.1) (ev1 vs r.2.2.2) :: s = _
  rw [jn_cmp h3]
  rfl
theorem bI_and (a b : Bool) : bI a &&& bI b = bI (a && b) := by cases a <;> cases b <;> rfl
theorem bI_or (a b : Bool) : bI a ||| bI b = bI (a || b) := by cases a <;> cases b <;> rfl
theorem sm_one (vs : Nat → Int32) : ∀ {rels : List YR}, ym_chain rels → ym_grp rels ≤ 1 → (sm vs rels).1 = false := by
  intro rels
  induction rels with
  | nil => intro _ _; rfl
  | cons r rs ih =>
    intro h hg
    rw [ym_grp] at hg
    rw [sm]
    by_cases hr : r.1 = true
    · rw [if_pos hr]
      rw [if_pos hr] at hg
      have : rs = [] := by
        cases rs with
        | nil => rfl
        | cons x l =>
          have := ym_grp_pos h.2 (by simp)
          omega
      subst this
      rfl
    · rw [if_neg hr]
      rw [if_neg hr] at hg
      exact ih h.2 (by omega)
theorem le_A (vs : Nat → Int32) : ∀ {rels : List YR} (s : List Int32), ym_chain rels → (∀ r ∈ rels, ym_okR r) → ¬ rels = [] → le vs (ym_A rels) s = (if 1 < ym_grp rels then [bI (sm vs rels).2, bI (sm vs rels).1] else [bI (sm vs rels).2]) ++ s := by
  intro rels
  induction rels with
  | nil => intro s _ _ h; exact absurd rfl h
  | cons r rs ih =>
    intro s hc hok _
    have okr := hok r List.mem_cons_self
    have okrs : ∀ r ∈ rs, ym_okR r := fun x hx => hok x (List.mem_cons_of_mem _ hx)
    rw [ym_A_cons]
    by_cases hr : r.1 = true
    · rw [if_pos hr, List.append_nil, List.append_assoc, List.append_assoc, le_app]
      rw [show r.2.1 ++ (r.2.2.2 ++ [(r.2.2.1, 0)]) = r.2.1 ++ r.2.2.2 ++ [(r.2.2.1, 0)] from (List.append_assoc _ _ _).symm, le_rel vs okr]
      rw [sm, if_pos hr, ym_grp, if_pos hr]
      unfold ym_pre
      rw [if_pos hr]
      by_cases hrs : rs = []
      · subst hrs
        rfl
      · have hgp := ym_grp_pos hc.2 hrs
        rw [if_pos (by omega)]
        unfold ym_O
        rw [le_app, ih s hc.2 okrs hrs]
        by_cases hg : 1 < ym_grp rs
        · rw [if_pos hg, if_pos hg]
          show _ :: le vs [(3, 0)] (bI (sm vs rs).2 :: bI (sm vs rs).1 :: s) = _
          have : le vs [(3, 0)] (bI (sm vs rs).2 :: bI (sm vs rs).1 :: s) = (bI (sm vs rs).1 ||| bI (sm vs rs).2) :: s := rfl
          rw [this, bI_or]
          rfl
        · rw [if_neg hg, if_neg hg]
          have e := sm_one vs hc.2 (by omega)
          rw [e]
          rfl
    · have hrs : ¬ rs = [] := fun z => hr (hc.1 z)
      rw [if_neg hr]
      unfold ym_pre
      rw [if_neg hr, sm, if_neg hr, ym_grp, if_neg hr, Nat.add_zero]
      have e : ym_A rs ++ r.2.1 ++ r.2.2.2 ++ [(r.2.2.1, 0)] ++ [(4, 0)] = ym_A rs ++ ((r.2.1 ++ r.2.2.2 ++ [(r.2.2.1, 0)]) ++ [(4, 0)]) := by
        simp only [List.append_assoc]
      rw [e, le_app, ih s hc.2 okrs hrs, le_app, le_rel vs okr]
      have b4 : ∀ (x y : Bool) (l : List Int32), le vs [(4, 0)] (bI y :: bI x :: l) = bI (x && y) :: l := fun x y l => by
        rw [← bI_and]; rfl
      split
      · exact b4 _ _ _
      · exact b4 _ _ _
theorem le_O (vs : Nat → Int32) {rels : List YR} (s : List Int32) (hc : ym_chain rels) (hok : ∀ r ∈ rels, ym_okR r) (hn : ¬ rels = []) : le vs (ym_O rels) s = bI (dnf vs rels) :: s := by
  unfold ym_O dnf
  rw [le_app, le_A vs s hc hok hn]
  by_cases hg : 1 < ym_grp rels
  · rw [if_pos hg, if_pos hg]
    have : le vs [(3, 0)] (bI (sm vs rels).2 :: bI (sm vs rels).1 :: s) = (bI (sm vs rels).1 ||| bI (sm vs rels).2) :: s := rfl
    show le vs [(3, 0)] (bI (sm vs rels).2 :: bI (sm vs rels).1 :: s) = _
    rw [this, bI_or]
  · rw [if_neg hg, if_neg hg, sm_one vs hc (by omega)]
    rfl
theorem yw_rel {r : YR} (h : ym_okR r) (k : Nat) : yw (r.2.1 ++ r.2.2.2 ++ [(r.2.2.1, 0)]) k (k + 1) := by
  obtain ⟨h1, h2, h3⟩ := h
  have n := ym_rel_not h3
  have a := yw_up k (yw_of_wf h1)
  have b := yw_up (k + 1) (yw_of_wf h2)
  rw [Nat.zero_add] at a b
  rw [show 1 + k = k + 1 by omega] at a
  rw [show 1 + (k + 1) = k + 2 by omega] at b
  refine yw_app (yw_app a b) ?_
  rw [yw, if_neg n.2.2.2.2.2.2.1]
  exact ⟨by omega, rfl⟩
theorem yw_A : ∀ {rels : List YR}, ym_chain rels → (∀ r ∈ rels, ym_okR r) → yw (ym_A rels) 0 (if rels = [] then 0 else if 1 < ym_grp rels then 2 else 1) := by
  intro rels
  induction rels with
  | nil => intro _ _; exact rfl
  | cons r rs ih =>
    intro hc hok
    have okr := hok r List.mem_cons_self
    have okrs : ∀ r ∈ rs, ym_okR r := fun x hx => hok x (List.mem_cons_of_mem _ hx)
    have ih := ih hc.2 okrs
    have w3 : ∀ k : Int32, k = 3 ∨ k = 4 → yw [((k, 0) : YC)] 2 1 := fun k hk => by
      rw [yw, if_neg (by rcases hk with rfl | rfl <;> decide)]
      exact ⟨by omega, rfl⟩
    rw [ym_A_cons, if_neg (show ¬ (r :: rs) = [] by simp)]
    by_cases hr : r.1 = true
    · rw [if_pos hr, List.append_nil, List.append_assoc, List.append_assoc, show r.2.1 ++ (r.2.2.2 ++ [(r.2.2.1, 0)]) = r.2.1 ++ r.2.2.2 ++ [(r.2.2.1, 0)] from (List.append_assoc _ _ _).symm]
      unfold ym_pre
      rw [if_pos hr, ym_grp, if_pos hr]
      unfold ym_O
      by_cases hrs : rs = []
      · subst hrs
        exact yw_rel okr 0
      · have hgp := ym_grp_pos hc.2 hrs
        rw [if_neg hrs] at ih
        rw [if_pos (show 1 < ym_grp rs + 1 by omega)]
        by_cases hg : 1 < ym_grp rs
        · rw [if_pos hg] at ih ⊢
          exact yw_app (yw_app ih (w3 3 (Or.inl rfl))) (yw_rel okr 1)
        · rw [if_neg hg] at ih ⊢
          rw [List.append_nil]
          exact yw_app ih (yw_rel okr 1)
    · have hrs : ¬ rs = [] := fun z => hr (hc.1 z)
      rw [if_neg hr]
      unfold ym_pre
      rw [if_neg hr, ym_grp, if_neg hr, Nat.add_zero]
      rw [if_neg hrs] at ih
      have e : ym_A rs ++ r.2.1 ++ r.2.2.2 ++ [(r.2.2.1, 0)] ++ [(4, 0)] = ym_A rs ++ ((r.2.1 ++ r.2.2.2 ++ [(r.2.2.1, 0)]) ++ [(4, 0)]) := by
        simp only [List.append_assoc]
      rw [e]
      by_cases hg : 1 < ym_grp rs
      · rw [if_pos hg] at ih ⊢
        have := yw_up 1 (w3 4 (Or.inr rfl))
        exact yw_app ih (yw_app (yw_rel okr 2) this)
      · rw [if_neg hg] at ih ⊢
        exact yw_app ih (yw_app (yw_rel okr 1) (w3 4 (Or.inr rfl)))
theorem yw_O {rels : List YR} (hc : ym_chain rels) (hok : ∀ r ∈ rels, ym_okR r) (hn : ¬ rels = []) : yw (ym_O rels) 0 1 := by
  have h := yw_A hc hok
  rw [if_neg hn] at h
  unfold ym_O
  by_cases hg : 1 < ym_grp rels
  · rw [if_pos hg] at h ⊢
    refine yw_app h ?_
    rw [yw, if_neg (by decide)]
    exact ⟨by omega, rfl⟩
  · rw [if_neg hg] at h ⊢
    rw [List.append_nil]
    exact h
