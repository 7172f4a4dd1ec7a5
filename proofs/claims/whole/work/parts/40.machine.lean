/-! THE TEXT'S MACHINE: what both readers do, token by token. A code: its kind and its value. A relation: does it begin an ALL, its left side, its sign, its right side. A rule: does it grow, its E, its relations, the latest first. -/
abbrev YC : Type := Int32 × Int32
abbrev YR : Type := Bool × List YC × Int32 × List YC
abbrev YL : Type := Bool × List YC × List YR
/-- (awaited, side, tokens taken, growing), (signs that wait, codes), (rules that are done, E, relations), (begins an ALL, left side, sign) -/
abbrev YS : Type := (Nat × Nat × Nat × Bool) × (List Int32 × List YC) × (List YL × List YC × List YR) × (Bool × List YC × Int32)
def ym_set (least : Int32) : List Int32 → List YC → List Int32 × List YC
  | [], o => ([], o)
  | x :: r, o => if least ≤ z_rank x then ym_set least r (o ++ [(x, 0)]) else (x :: r, o)
def ym_fin (wt : List Int32) (out : List YC) : List YC := (ym_set 1 wt out).2
def ym_dp : List Int32 → Nat
  | [] => 0
  | x :: r => ym_dp r + (if x = 15 then 1 else 0)
def ym_fits (S : YS) (k : Int32) : Bool :=
  if S.1.1 = 0 then decide (k = 0 ∨ k = 2 ∨ k = 17)
  else if S.1.1 = 1 then decide (k = 1)
  else if S.1.1 = 2 then decide (k = 6 ∨ k = 5 ∨ k = 15)
  else if k = 8 ∨ k = 9 ∨ k = 10 then true
  else if 0 < ym_dp S.2.1.1 then decide (k = 16)
  else if S.1.2.1 = 0 then decide (k = 1 ∨ k = 7)
  else if S.1.2.1 = 1 then z_isRel k
  else decide (k = 4 ∨ k = 3 ∨ k = 7)
def ym_room (S : YS) (k : Int32) : Bool :=
  if S.1.1 = 0 ∧ 16 ≤ S.2.2.1.1.length then false else if k = 15 ∧ 6 ≤ ym_dp S.2.1.1 then false else decide (S.1.2.2.1 < 400)
def ym_step (k v : Int32) : YS → YS
  | ((aw, sd, tk, gr), (wt, out), (done, E, rels), (orf, L, op)) =>
    if k = 0 then ((1, sd, tk + 1, false), ([], []), (done, [], []), (true, [], 0))
    else if k = 2 then ((2, 0, tk + 1, true), ([], []), (done, [], []), (true, [], 0))
    else if k = 1 then ((2, 1, tk + 1, gr), ([], []), (done, ym_fin wt out, []), (true, [], 0))
    else if k = 7 then ((0, sd, tk + 1, gr), ([], []), (done ++ [(gr, if sd = 0 then ym_fin wt out else E, if sd = 0 then [] else (orf, L, op, ym_fin wt out) :: rels)], [], []), (true, [], 0))
    else if k = 15 then ((2, sd, tk + 1, gr), (15 :: wt, out), (done, E, rels), (orf, L, op))
    else if k = 16 then ((3, sd, tk + 1, gr), ((ym_set 1 wt out).1.tail, ym_fin wt out), (done, E, rels), (orf, L, op))
    else if k = 6 ∨ k = 5 then ((3, sd, tk + 1, gr), (wt, out ++ [(k, v)]), (done, E, rels), (orf, L, op))
    else if k = 4 ∨ k = 3 then ((2, 1, tk + 1, gr), ([], []), (done, E, (orf, L, op, ym_fin wt out) :: rels), (decide (k = 3), [], 0))
    else if z_isRel k = true then ((2, 2, tk + 1, gr), ([], []), (done, E, rels), (orf, ym_fin wt out, k))
    else ((2, sd, tk + 1, gr), (k :: (ym_set (z_rank k) wt out).1, (ym_set (z_rank k) wt out).2), (done, E, rels), (orf, L, op))
def ym_run (n : Nat) (t : Nat → Int32) : Nat → Nat → YS → Option (Int32 × Nat × YS)
  | 0, _, _ => none
  | f + 1, i, S =>
    if ym_fits S (x_tok n t i).2.1 = true then
      (if (x_tok n t i).2.1 = 17 then some (0, (x_tok n t i).1, S)
       else if ym_room S (x_tok n t i).2.1 = true then ym_run n t f (x_tok n t i).2.2.2 (ym_step (x_tok n t i).2.1 (x_tok n t i).2.2.1 S)
       else some (2, (x_tok n t i).1, S))
    else some (1, (x_tok n t i).1, S)
theorem ym_run_mono (n : Nat) (t : Nat → Int32) : ∀ (f i : Nat) (S : YS) (R : Int32 × Nat × YS), ym_run n t f i S = some R → ym_run n t (f + 1) i S = some R := by
  intro f
  induction f with
  | zero => intro i S R h; cases h
  | succ f ih =>
    intro i S R h
    rw [ym_run] at h ⊢
    split
    · rename_i h1
      rw [if_pos h1] at h
      split
      · rename_i h2
        rw [if_pos h2] at h
        exact h
      · rename_i h2
        rw [if_neg h2] at h
        split
        · rename_i h3
          rw [if_pos h3] at h
          exact ih _ _ _ h
        · rename_i h3
          rw [if_neg h3] at h
          exact h
    · rename_i h1
      rw [if_neg h1] at h
      exact h
theorem ym_run_le (n : Nat) (t : Nat → Int32) {f g i : Nat} {S : YS} {R : Int32 × Nat × YS} (h : ym_run n t f i S = some R) (hg : f ≤ g) : ym_run n t g i S = some R := by
  obtain ⟨k, rfl⟩ := Nat.exists_eq_add_of_le hg
  clear hg
  induction k with
  | zero => exact h
  | succ k ih => exact ym_run_mono n t _ _ _ _ ih
/-- the run's end is one -/
theorem ym_run_one {n : Nat} {t : Nat → Int32} {f g i : Nat} {S : YS} {R Q : Int32 × Nat × YS} (h : ym_run n t f i S = some R) (h2 : ym_run n t g i S = some Q) : R = Q := by
  have a := ym_run_le n t h (Nat.le_add_right f g)
  have b := ym_run_le n t h2 (Nat.le_add_left g f)
  rw [a] at b
  exact Option.some.inj b
def ym_0 : YS := ((0, 0, 0, false), ([], []), ([], [], []), (true, [], 0))
/-- the relations' codes as the class has them, one behind the other: while an ALL goes on, and behind it -/
def ym_grp : List YR → Nat
  | [] => 0
  | r :: rs => ym_grp rs + (if r.1 = true then 1 else 0)
def ym_A : List YR → List YC
  | [] => []
  | r :: rs => (if r.1 = true then ym_A rs ++ (if 1 < ym_grp rs then [(3, 0)] else []) else ym_A rs) ++ r.2.1 ++ r.2.2.2 ++ [(r.2.2.1, 0)] ++ (if r.1 = true then [] else [(4, 0)])
def ym_O (rels : List YR) : List YC := ym_A rels ++ (if 1 < ym_grp rels then [(3, 0)] else [])
def ym_pre (orf : Bool) (rels : List YR) : List YC := if orf = true then ym_O rels else ym_A rels
def ym_cx (orf : Bool) (rels : List YR) : List Int32 := (if orf = true then [] else [4]) ++ (if (if orf = true then 0 < ym_grp rels else 1 < ym_grp rels) then [3] else [])
theorem ym_A_cons (r : YR) (rs : List YR) : ym_A (r :: rs) = ym_pre r.1 rs ++ r.2.1 ++ r.2.2.2 ++ [(r.2.2.1, 0)] ++ (if r.1 = true then [] else [(4, 0)]) := by
  rw [ym_A]; rfl
def ym_flat1 (R : YL) : List YC := R.2.1 ++ ym_O R.2.2
def ym_flat : List YL → List YC
  | [] => []
  | R :: rest => ym_flat1 R ++ ym_flat rest
theorem ym_flat_app (a b : List YL) : ym_flat (a ++ b) = ym_flat a ++ ym_flat b := by
  induction a with
  | nil => rfl
  | cons x a ih => rw [List.cons_append, ym_flat, ym_flat, ih, List.append_assoc]
/-- the class's signs on their pile, the top first; and the codes of the rule that is being read -/
def ym_ops : YS → List Int32
  | ((aw, sd, _, _), (wt, _), (_, _, rels), (orf, _, op)) => if aw ≤ 1 then [] else wt ++ (if sd = 0 then [] else if sd = 1 then ym_cx orf rels else op :: ym_cx orf rels)
def ym_cur : YS → List YC
  | ((aw, sd, _, _), (_, out), (_, E, rels), (orf, L, _)) => if aw ≤ 1 then [] else if sd = 0 then out else if sd = 1 then E ++ ym_pre orf rels ++ out else E ++ ym_pre orf rels ++ L ++ out
def ym_all (S : YS) : List YC := ym_flat S.2.2.1.1 ++ ym_cur S
/-- codes that take from no pile that is too small: from h to h' -/
def ym_wf : List YC → Nat → Nat → Prop
  | [], h, h' => h = h'
  | c :: cs, h, h' => if c.1 = 6 ∨ c.1 = 5 then (c.1 = 5 → vp_in c.2 9) ∧ ym_wf cs (h + 1) h' else 2 ≤ h ∧ (c.1 = 8 ∨ c.1 = 9 ∨ c.1 = 10) ∧ ym_wf cs (h - 1) h'
theorem ym_wf_app {a b : List YC} : ∀ {h h1 h2 : Nat}, ym_wf a h h1 → ym_wf b h1 h2 → ym_wf (a ++ b) h h2 := by
  induction a with
  | nil => intro h h1 h2 p q; cases p; exact q
  | cons c cs ih =>
    intro h h1 h2 p q
    rw [ym_wf] at p
    rw [List.cons_append, ym_wf]
    split
    · rename_i h3
      rw [if_pos h3] at p
      exact ⟨p.1, ih p.2 q⟩
    · rename_i h3
      rw [if_neg h3] at p
      exact ⟨p.1, p.2.1, ih p.2.2 q⟩
def ym_no : List Int32 → Nat
  | [] => 0
  | x :: r => ym_no r + (if x = 15 then 0 else 1)
/-- what may wait: signs of E and open (, of one (no sign that binds as much as that below it -/
def ym_wt : List Int32 → Prop
  | [] => True
  | x :: r => ym_wt r ∧ (x = 15 ∨ x = 8 ∨ x = 9 ∨ x = 10) ∧ (x = 8 ∨ x = 9 → r = [] ∨ r.head? = some 15) ∧ (x = 10 → ¬ r.head? = some 10)
theorem ym_wt_len : ∀ {wt : List Int32}, ym_wt wt → wt.length ≤ 3 * ym_dp wt + (if wt.head? = some 15 ∨ wt = [] then 0 else if wt.head? = some 10 then 2 else 1) := by
  intro wt
  induction wt with
  | nil => intro _; exact Nat.zero_le _
  | cons x r ih =>
    intro h
    obtain ⟨h1, h2, h3, h4⟩ := h
    have ih := ih h1
    rw [List.length_cons, ym_dp]
    have hn : ¬ (x :: r = ([] : List Int32)) := by simp
    rcases h2 with rfl | rfl | rfl | rfl
    · rw [if_pos rfl, if_pos (show (15 :: r).head? = some 15 ∨ (15 :: r) = [] from Or.inl rfl)]
      split at ih
      · omega
      · split at ih <;> omega
    · rw [if_neg (by decide), if_neg (by simp), if_neg (by simp)]
      have h5 := h3 (Or.inl rfl)
      rw [if_pos (h5.elim Or.inr Or.inl)] at ih
      omega
    · rw [if_neg (by decide), if_neg (by simp), if_neg (by simp)]
      have h5 := h3 (Or.inr rfl)
      rw [if_pos (h5.elim Or.inr Or.inl)] at ih
      omega
    · rw [if_neg (by decide), if_neg (by simp), if_pos (by simp)]
      have h5 := h4 rfl
      split at ih
      · omega
      · first | omega | (rw [if_neg h5] at ih; omega)
theorem ym_wt_len' {wt : List Int32} (h : ym_wt wt) (hd : ym_dp wt ≤ 6) : wt.length ≤ 20 := by
  have := ym_wt_len h
  split at this
  · omega
  · split at this <;> omega
theorem zr_15 : z_rank 15 = 0 := by decide
theorem zr_8 : z_rank 8 = 4 := by decide
theorem zr_9 : z_rank 9 = 4 := by decide
theorem zr_10 : z_rank 10 = 5 := by decide
theorem zr_3 : z_rank 3 = 1 := by decide
theorem zr_4 : z_rank 4 = 2 := by decide
theorem zr_rel {k : Int32} (h : z_isRel k = true) : z_rank k = 3 := by
  have h := of_decide_eq_true h
  rcases h with rfl | rfl | rfl | rfl <;> decide
/-- nothing is open: all that waits comes out -/
theorem ym_set_all {least : Int32} (hl : least ≤ 4) : ∀ (wt ctx : List Int32) (out : List YC), ym_wt wt → ym_dp wt = 0 → ym_set least (wt ++ ctx) out = ym_set least ctx (ym_fin wt out) ∧ (ym_set 1 wt out).1 = [] := by
  intro wt
  induction wt with
  | nil => intro ctx out _ _; exact ⟨rfl, rfl⟩
  | cons x r ih =>
    intro ctx out h hd
    obtain ⟨h1, h2, h3, h4⟩ := h
    have hx : ¬ x = 15 := by
      intro e
      rw [ym_dp, if_pos e] at hd
      omega
    have hr : least ≤ z_rank x ∧ (1 : Int32) ≤ z_rank x := by
      rw [fa_le] at hl
      rcases h2 with h | rfl | rfl | rfl
      · exact absurd h hx
      · rw [zr_8, fa_le]; exact ⟨hl, by decide⟩
      · rw [zr_9, fa_le]; exact ⟨hl, by decide⟩
      · rw [zr_10, fa_le]; exact ⟨by have : ((4 : Int32).toInt) = 4 := rfl; have : ((5 : Int32).toInt) = 5 := rfl; omega, by decide⟩
    rw [ym_dp, if_neg hx] at hd
    have := ih ctx (out ++ [(x, 0)]) h1 (by omega)
    rw [List.cons_append, ym_set, if_pos hr.1, this.1]
    unfold ym_fin
    rw [ym_set, if_pos hr.2]
    exact ⟨rfl, this.2⟩
/-- the least rank that the top of a pile has, and what is below it -/
theorem ym_set_stop {least x : Int32} {r : List Int32} {out : List YC} (h : z_rank x < least) : ym_set least (x :: r) out = (x :: r, out) := by
  rw [ym_set, if_neg (Int32.not_le.mpr h)]
theorem ym_set_go {least x : Int32} {r : List Int32} {out : List YC} (h : least ≤ z_rank x) : ym_set least (x :: r) out = ym_set least r (out ++ [(x, 0)]) := by
  rw [ym_set, if_pos h]
theorem ym_set_nil {least : Int32} {out : List YC} : ym_set least [] out = ([], out) := rfl
/-- codes ahead of those that are moved stay -/
theorem ym_set_pre (least : Int32) (p : List YC) : ∀ (wt : List Int32) (out : List YC), ym_set least wt (p ++ out) = ((ym_set least wt out).1, p ++ (ym_set least wt out).2) := by
  intro wt
  induction wt with
  | nil => intro out; rfl
  | cons x r ih =>
    intro out
    rw [ym_set, ym_set]
    split
    · rw [List.append_assoc, ih]
    · rfl
/-- a pile that is long enough: what is behind the part that stops it plays no part -/
theorem ym_set_ctx {least : Int32} (hl : 1 ≤ least) : ∀ (wt ctx : List Int32) (out : List YC), 0 < ym_dp wt → ym_set least (wt ++ ctx) out = ((ym_set least wt out).1 ++ ctx, (ym_set least wt out).2) := by
  intro wt
  induction wt with
  | nil => intro ctx out h; exact absurd h (Nat.lt_irrefl 0)
  | cons x r ih =>
    intro ctx out h
    rw [List.cons_append, ym_set, ym_set]
    by_cases hx : least ≤ z_rank x
    · rw [if_pos hx, if_pos hx]
      refine ih ctx _ ?_
      rw [ym_dp, if_neg (fun e => ?_)] at h
      · omega
      · rw [e, zr_15] at hx
        rw [fa_le] at hx hl
        have e1 : ((1 : Int32).toInt) = 1 := rfl
        have e0 : ((0 : Int32).toInt) = 0 := rfl
        omega
    · rw [if_neg hx, if_neg hx]
      rfl
theorem ym_set_ctx' {least : Int32} {ctx : List Int32} (hc : ∀ x, ctx.head? = some x → z_rank x < least) : ∀ (wt : List Int32) (out : List YC), ym_set least (wt ++ ctx) out = ((ym_set least wt out).1 ++ ctx, (ym_set least wt out).2) := by
  intro wt
  induction wt with
  | nil =>
    intro out
    cases ctx with
    | nil => rfl
    | cons x r => exact ym_set_stop (hc x rfl)
  | cons x r ih =>
    intro out
    rw [List.cons_append, ym_set, ym_set]
    split
    · exact ih _
    · rfl
