/-! What holds of the text's machine at every token. -/
theorem ym_set_len (least : Int32) : ∀ (wt : List Int32) (out : List YC), (ym_set least wt out).1.length + (ym_set least wt out).2.length = wt.length + out.length := by
  intro wt
  induction wt with
  | nil => intro out; rfl
  | cons x r ih =>
    intro out
    rw [ym_set]
    split
    · rw [ih, List.length_append, List.length_cons, List.length_cons, List.length_nil]; omega
    · rfl
theorem one_le_rank {least x : Int32} (hl : 1 ≤ least) (h : least ≤ z_rank x) : ¬ x = 15 := by
  intro e
  rw [e, zr_15] at h
  rw [fa_le] at h hl
  have e1 : ((1 : Int32).toInt) = 1 := rfl
  have e0 : ((0 : Int32).toInt) = 0 := rfl
  omega
theorem ym_set_ok {least : Int32} (hl : 1 ≤ least) : ∀ (wt : List Int32) (out : List YC), ym_wt wt → ym_wf out 0 (ym_no wt + 1) → ym_wt (ym_set least wt out).1 ∧ ym_wf (ym_set least wt out).2 0 (ym_no (ym_set least wt out).1 + 1) ∧ ym_dp (ym_set least wt out).1 = ym_dp wt := by
  intro wt
  induction wt with
  | nil => intro out h1 h2; exact ⟨h1, h2, rfl⟩
  | cons x r ih =>
    intro out h1 h2
    rw [ym_set]
    split
    · rename_i h3
      have hx := one_le_rank hl h3
      rw [ym_no, if_neg hx] at h2
      have h4 := ih (out ++ [(x, 0)]) h1.1 (ym_wf_app h2 (by
        rw [ym_wf, if_neg (by rcases h1.2.1 with e | rfl | rfl | rfl <;> first | exact absurd e hx | decide)]
        exact ⟨by omega, h1.2.1.resolve_left hx, by rw [ym_wf]; omega⟩))
      rw [ym_dp, if_neg hx]
      exact h4
    · exact ⟨h1, h2, rfl⟩
theorem ym_set_head {least : Int32} : ∀ (wt : List Int32) (out : List YC) (x : Int32), (ym_set least wt out).1.head? = some x → z_rank x < least := by
  intro wt
  induction wt with
  | nil => intro out x h; cases h
  | cons y r ih =>
    intro out x h
    rw [ym_set] at h
    split at h
    · exact ih _ _ h
    · rename_i h3
      cases h
      exact Int32.not_le.mp h3
def ym_okR (R : YR) : Prop := ym_wf R.2.1 0 1 ∧ ym_wf R.2.2.2 0 1 ∧ z_isRel R.2.2.1 = true
def ym_chain : List YR → Prop
  | [] => True
  | r :: rs => (rs = [] → r.1 = true) ∧ ym_chain rs
def ym_okE (gr : Bool) (E : List YC) : Prop := if gr = true then ym_wf E 0 1 else E = []
def ym_okL (R : YL) : Prop := ym_okE R.1 R.2.1 ∧ (R.1 = false → ¬ R.2.2 = []) ∧ (∀ r ∈ R.2.2, ym_okR r) ∧ ym_chain R.2.2
def ym_okC (aw sd : Nat) (gr : Bool) (wt : List Int32) (out E : List YC) (rels : List YR) (orf : Bool) (L : List YC) (op : Int32) : Prop :=
  (aw ≤ 1 → wt = [] ∧ out = []) ∧ (aw = 1 → gr = false) ∧ (aw = 2 → ym_wf out 0 (ym_no wt)) ∧ (aw = 3 → ym_wf out 0 (ym_no wt + 1)) ∧ (2 ≤ aw → sd = 0 → gr = true ∧ rels = []) ∧ (2 ≤ aw → ¬ sd = 0 → ym_okE gr E ∧ (rels = [] → orf = true)) ∧ (∀ R ∈ rels, ym_okR R) ∧ ym_chain rels ∧ (2 ≤ aw → sd = 2 → ym_wf L 0 1 ∧ z_isRel op = true)
def ym_ok : YS → Prop
  | ((aw, sd, tk, gr), (wt, out), (done, E, rels), (orf, L, op)) =>
    aw ≤ 3 ∧ sd ≤ 2 ∧ tk ≤ 400 ∧ ym_wt wt ∧ ym_dp wt ≤ 6 ∧ done.length ≤ 16 ∧ (0 < aw → done.length < 16) ∧ (∀ R ∈ done, ym_okL R) ∧ ym_okC aw sd gr wt out E rels orf L op ∧ (ym_all ((aw, sd, tk, gr), (wt, out), (done, E, rels), (orf, L, op))).length + (ym_ops ((aw, sd, tk, gr), (wt, out), (done, E, rels), (orf, L, op))).length ≤ tk
theorem ym_ok_0 : ym_ok ym_0 := by
  refine ⟨by omega, by omega, by omega, trivial, by show (0 : Nat) ≤ 6; omega, by show (0 : Nat) ≤ 16; omega, by omega, fun R h => absurd h List.not_mem_nil, ⟨fun _ => ⟨rfl, rfl⟩, by omega, by omega, by omega, by omega, by omega, fun R h => absurd h List.not_mem_nil, trivial, by omega⟩, by decide⟩
/-- what a token that fits may be -/
theorem ym_cases {S : YS} {k : Int32} (h3 : S.1.1 ≤ 3) (h2 : S.1.2.1 ≤ 2) (h : ym_fits S k = true) :
    (S.1.1 = 0 ∧ (k = 0 ∨ k = 2 ∨ k = 17)) ∨ (S.1.1 = 1 ∧ k = 1) ∨ (S.1.1 = 2 ∧ (k = 6 ∨ k = 5)) ∨ (S.1.1 = 2 ∧ k = 15) ∨ (S.1.1 = 3 ∧ (k = 8 ∨ k = 9 ∨ k = 10)) ∨ (S.1.1 = 3 ∧ 0 < ym_dp S.2.1.1 ∧ k = 16) ∨ (S.1.1 = 3 ∧ ym_dp S.2.1.1 = 0 ∧ S.1.2.1 = 0 ∧ (k = 1 ∨ k = 7)) ∨ (S.1.1 = 3 ∧ ym_dp S.2.1.1 = 0 ∧ S.1.2.1 = 1 ∧ z_isRel k = true) ∨ (S.1.1 = 3 ∧ ym_dp S.2.1.1 = 0 ∧ S.1.2.1 = 2 ∧ (k = 4 ∨ k = 3 ∨ k = 7)) := by
  unfold ym_fits at h
  split at h
  · rename_i a; exact Or.inl ⟨a, of_decide_eq_true h⟩
  · split at h
    · rename_i a; exact Or.inr (Or.inl ⟨a, of_decide_eq_true h⟩)
    · split at h
      · rename_i a
        rcases of_decide_eq_true h with e | e | e
        · exact Or.inr (Or.inr (Or.inl ⟨a, Or.inl e⟩))
        · exact Or.inr (Or.inr (Or.inl ⟨a, Or.inr e⟩))
        · exact Or.inr (Or.inr (Or.inr (Or.inl ⟨a, e⟩)))
      · have a : S.1.1 = 3 := by omega
        split at h
        · rename_i e; exact Or.inr (Or.inr (Or.inr (Or.inr (Or.inl ⟨a, e⟩))))
        · split at h
          · rename_i e; exact Or.inr (Or.inr (Or.inr (Or.inr (Or.inr (Or.inl ⟨a, e, of_decide_eq_true h⟩)))))
          · have d : ym_dp S.2.1.1 = 0 := by omega
            split at h
            · rename_i e; exact Or.inr (Or.inr (Or.inr (Or.inr (Or.inr (Or.inr (Or.inl ⟨a, d, e, of_decide_eq_true h⟩))))))
            · split at h
              · rename_i e; exact Or.inr (Or.inr (Or.inr (Or.inr (Or.inr (Or.inr (Or.inr (Or.inl ⟨a, d, e, h⟩)))))))
              · exact Or.inr (Or.inr (Or.inr (Or.inr (Or.inr (Or.inr (Or.inr (Or.inr ⟨a, d, by omega, of_decide_eq_true h⟩)))))))
theorem ym_rel_not {k : Int32} (h : z_isRel k = true) : ¬ k = 0 ∧ ¬ k = 2 ∧ ¬ k = 1 ∧ ¬ k = 7 ∧ ¬ k = 15 ∧ ¬ k = 16 ∧ ¬ (k = 6 ∨ k = 5) ∧ ¬ (k = 4 ∨ k = 3) := by
  have h := of_decide_eq_true h
  rcases h with rfl | rfl | rfl | rfl <;> decide
theorem ym_arith_not {k : Int32} (h : k = 8 ∨ k = 9 ∨ k = 10) : ¬ k = 0 ∧ ¬ k = 2 ∧ ¬ k = 1 ∧ ¬ k = 7 ∧ ¬ k = 15 ∧ ¬ k = 16 ∧ ¬ (k = 6 ∨ k = 5) ∧ ¬ (k = 4 ∨ k = 3) ∧ ¬ z_isRel k = true ∧ 1 ≤ z_rank k := by
  rcases h with rfl | rfl | rfl <;> decide
/-- the step, kind by kind -/
theorem ym_step_rel {k v : Int32} {aw sd tk : Nat} {gr : Bool} {wt : List Int32} {out : List YC} {done : List YL} {E : List YC} {rels : List YR} {orf : Bool} {L : List YC} {op : Int32} (h : z_isRel k = true) : ym_step k v ((aw, sd, tk, gr), (wt, out), (done, E, rels), (orf, L, op)) = ((2, 2, tk + 1, gr), ([], []), (done, E, rels), (orf, ym_fin wt out, k)) := by
  obtain ⟨a, b, c, d, e, f, g, i⟩ := ym_rel_not h
  unfold ym_step
  dsimp only
  rw [if_neg a, if_neg b, if_neg c, if_neg d, if_neg e, if_neg f, if_neg g, if_neg i, if_pos h]
theorem ym_step_op {k v : Int32} {aw sd tk : Nat} {gr : Bool} {wt : List Int32} {out : List YC} {done : List YL} {E : List YC} {rels : List YR} {orf : Bool} {L : List YC} {op : Int32} (h : k = 8 ∨ k = 9 ∨ k = 10) : ym_step k v ((aw, sd, tk, gr), (wt, out), (done, E, rels), (orf, L, op)) = ((2, sd, tk + 1, gr), (k :: (ym_set (z_rank k) wt out).1, (ym_set (z_rank k) wt out).2), (done, E, rels), (orf, L, op)) := by
  obtain ⟨a, b, c, d, e, f, g, i, j, -⟩ := ym_arith_not h
  unfold ym_step
  dsimp only
  rw [if_neg a, if_neg b, if_neg c, if_neg d, if_neg e, if_neg f, if_neg g, if_neg i, if_neg j]
theorem ym_step_unit {k v : Int32} {aw sd tk : Nat} {gr : Bool} {wt : List Int32} {out : List YC} {done : List YL} {E : List YC} {rels : List YR} {orf : Bool} {L : List YC} {op : Int32} (h : k = 6 ∨ k = 5) : ym_step k v ((aw, sd, tk, gr), (wt, out), (done, E, rels), (orf, L, op)) = ((3, sd, tk + 1, gr), (wt, out ++ [(k, v)]), (done, E, rels), (orf, L, op)) := by
  rcases h with rfl | rfl <;> rfl
theorem ym_step_join {k v : Int32} {aw sd tk : Nat} {gr : Bool} {wt : List Int32} {out : List YC} {done : List YL} {E : List YC} {rels : List YR} {orf : Bool} {L : List YC} {op : Int32} (h : k = 4 ∨ k = 3) : ym_step k v ((aw, sd, tk, gr), (wt, out), (done, E, rels), (orf, L, op)) = ((2, 1, tk + 1, gr), ([], []), (done, E, (orf, L, op, ym_fin wt out) :: rels), (decide (k = 3), [], 0)) := by
  rcases h with rfl | rfl <;> rfl
theorem ym_fin_wf {wt : List Int32} {out : List YC} (h1 : ym_wt wt) (hd : ym_dp wt = 0) (h2 : ym_wf out 0 (ym_no wt + 1)) : ym_wf (ym_fin wt out) 0 1 := by
  have h := ym_set_ok (least := 1) (by decide) wt out h1 h2
  have e := (ym_set_all (least := 1) (by decide) wt [] out h1 hd).2
  rw [e] at h
  exact h.2.1
theorem ym_fin_len {wt : List Int32} {out : List YC} (h1 : ym_wt wt) (hd : ym_dp wt = 0) : (ym_fin wt out).length = wt.length + out.length := by
  have h := ym_set_len 1 wt out
  rw [(ym_set_all (least := 1) (by decide) wt [] out h1 hd).2] at h
  rw [← h]
  unfold ym_fin
  simp
theorem ym_grp_pos : ∀ {rels : List YR}, ym_chain rels → ¬ rels = [] → 0 < ym_grp rels := by
  intro rels
  induction rels with
  | nil => intro _ h; exact absurd rfl h
  | cons r rs ih =>
    intro h _
    rw [ym_grp]
    by_cases e : rs = []
    · rw [if_pos (h.1 e)]; omega
    · have := ih h.2 e; omega
theorem ym_no_dp (wt : List Int32) (h : ym_dp wt = 0) : ym_no wt = wt.length := by
  induction wt with
  | nil => rfl
  | cons x r ih =>
    rw [ym_dp] at h
    by_cases e : x = 15
    · rw [if_pos e] at h; omega
    · rw [if_neg e] at h
      rw [ym_no, if_neg e, ih (by omega), List.length_cons]
theorem ym_room_of {S : YS} {k : Int32} (h : ym_room S k = true) : S.1.2.2.1 < 400 ∧ (S.1.1 = 0 → S.2.2.1.1.length < 16) ∧ (k = 15 → ym_dp S.2.1.1 < 6) := by
  unfold ym_room at h
  split at h
  · cases h
  · split at h
    · cases h
    · rename_i h1 h2
      exact ⟨of_decide_eq_true h, fun e => Nat.lt_of_not_le (fun z => h1 ⟨e, z⟩), fun e => Nat.lt_of_not_le (fun z => h2 ⟨e, z⟩)⟩
def ym_X (sd : Nat) (E : List YC) (rels : List YR) (orf : Bool) (L : List YC) : Nat := if sd = 0 then 0 else if sd = 1 then E.length + (ym_pre orf rels).length + (ym_cx orf rels).length else E.length + (ym_pre orf rels).length + L.length + 1 + (ym_cx orf rels).length
theorem ym_len {aw sd tk : Nat} {gr : Bool} {wt : List Int32} {out : List YC} {done : List YL} {E : List YC} {rels : List YR} {orf : Bool} {L : List YC} {op : Int32} (h : 2 ≤ aw) : (ym_all ((aw, sd, tk, gr), (wt, out), (done, E, rels), (orf, L, op))).length + (ym_ops ((aw, sd, tk, gr), (wt, out), (done, E, rels), (orf, L, op))).length = (ym_flat done).length + out.length + wt.length + ym_X sd E rels orf L := by
  have h' : ¬ aw ≤ 1 := by omega
  unfold ym_all ym_cur ym_ops ym_X
  dsimp only
  rw [if_neg h', if_neg h']
  by_cases e0 : sd = 0
  · rw [if_pos e0, if_pos e0, if_pos e0]
    simp only [List.length_append, List.length_nil]; omega
  · rw [if_neg e0, if_neg e0, if_neg e0]
    by_cases e1 : sd = 1
    · rw [if_pos e1, if_pos e1, if_pos e1]
      simp only [List.length_append]; omega
    · rw [if_neg e1, if_neg e1, if_neg e1]
      simp only [List.length_append, List.length_cons]; omega
theorem ym_ok_step {S : YS} {k v : Int32} (h : ym_ok S) (hf : ym_fits S k = true) (hr : ym_room S k = true) (hk : ¬ k = 17) (hv : k = 5 → vp_in v 9) : ym_ok (ym_step k v S) := by
  obtain ⟨⟨aw, sd, tk, gr⟩, ⟨wt, out⟩, ⟨done, E, rels⟩, orf, L, op⟩ := S
  obtain ⟨a1, a2, a3, a4, a5, a6, a7, a8, ⟨c1, c2, c3, c4, c5, c6, c7, c8, c9⟩, a10⟩ := h
  have hc := ym_cases a1 a2 hf
  obtain ⟨r1, r2, r3⟩ := ym_room_of hr
  dsimp only at hc r1 r2 r3
  rcases hc with ⟨e, hc⟩ | ⟨e, rfl⟩ | ⟨e, hc⟩ | ⟨e, rfl⟩ | ⟨e, hc⟩ | ⟨e, hd, rfl⟩ | ⟨e, hd, es, hc⟩ | ⟨e, hd, es, hc⟩ | ⟨e, hd, es, hc⟩
  · subst e
    have a10 : (ym_flat done).length ≤ tk := by simpa [ym_all, ym_cur, ym_ops] using a10
    rcases hc with rfl | rfl | rfl
    · show ym_ok ((1, sd, tk + 1, false), ([], []), (done, [], []), (true, [], 0))
      exact ⟨by intros; omega, a2, by intros; omega, trivial, Nat.zero_le _, a6, fun _ => r2 rfl, a8, ⟨fun _ => ⟨rfl, rfl⟩, fun _ => rfl, by intros; omega, by intros; omega, by intros; omega, by intros; omega, fun R h => absurd h List.not_mem_nil, trivial, by intros; omega⟩, by simp [ym_all, ym_cur, ym_ops]; omega⟩
    · show ym_ok ((2, 0, tk + 1, true), ([], []), (done, [], []), (true, [], 0))
      exact ⟨by intros; omega, by intros; omega, by intros; omega, trivial, Nat.zero_le _, a6, fun _ => r2 rfl, a8, ⟨by intros; omega, by intros; omega, fun _ => rfl, by intros; omega, fun _ _ => ⟨rfl, rfl⟩, fun _ z => absurd rfl z, fun R h => absurd h List.not_mem_nil, trivial, by intros; omega⟩, by simp [ym_all, ym_cur, ym_ops]; omega⟩
    · exact absurd rfl hk
  · subst e
    have a10 : (ym_flat done).length ≤ tk := by simpa [ym_all, ym_cur, ym_ops] using a10
    obtain ⟨rfl, rfl⟩ := c1 (by omega)
    have hg := c2 rfl
    subst hg
    show ym_ok ((2, 1, tk + 1, false), ([], []), (done, [], []), (true, [], 0))
    exact ⟨by intros; omega, by intros; omega, by intros; omega, trivial, Nat.zero_le _, a6, fun _ => a7 (by intros; omega), a8, ⟨by intros; omega, by intros; omega, fun _ => rfl, by intros; omega, by intros; omega, fun _ _ => ⟨rfl, fun _ => rfl⟩, fun R h => absurd h List.not_mem_nil, trivial, by intros; omega⟩, by simp [ym_all, ym_cur, ym_ops, ym_fin, ym_set, ym_pre, ym_O, ym_A, ym_grp, ym_cx]; omega⟩
  · subst e
    rw [ym_step_unit hc]
    refine ⟨by intros; omega, a2, by intros; omega, a4, a5, a6, fun _ => a7 (by intros; omega), a8, ⟨by intros; omega, by intros; omega, by intros; omega, fun _ => ?_, fun _ => c5 (by intros; omega), fun _ => c6 (by intros; omega), c7, c8, fun _ => c9 (by intros; omega)⟩, ?_⟩
    · refine ym_wf_app (c3 rfl) ?_
      rw [ym_wf, if_pos hc, ym_wf]
      exact ⟨hv, rfl⟩
    · rw [ym_len (by omega)] at a10 ⊢
      simp only [List.length_append, List.length_cons, List.length_nil] at a10 ⊢; omega
  · subst e
    have r3 := r3 rfl
    show ym_ok ((2, sd, tk + 1, gr), (15 :: wt, out), (done, E, rels), (orf, L, op))
    refine ⟨by intros; omega, a2, by intros; omega, ⟨a4, Or.inl rfl, fun z => absurd z (by decide), fun z => absurd z (by decide)⟩, by rw [ym_dp, if_pos rfl]; omega, a6, fun _ => a7 (by intros; omega), a8, ⟨by intros; omega, by intros; omega, fun _ => ?_, by intros; omega, fun _ => c5 (by intros; omega), fun _ => c6 (by intros; omega), c7, c8, fun _ => c9 (by intros; omega)⟩, ?_⟩
    · rw [ym_no, if_pos rfl]; exact c3 rfl
    · rw [ym_len (by omega)] at a10 ⊢
      simp only [List.length_append, List.length_cons, List.length_nil] at a10 ⊢; omega
  · subst e
    have hq := ym_arith_not hc
    have hs := ym_set_ok (least := z_rank k) hq.2.2.2.2.2.2.2.2.2 wt out a4 (c4 rfl)
    have hl := ym_set_len (z_rank k) wt out
    have hh := ym_set_head (least := z_rank k) wt out
    rw [ym_step_op hc]
    generalize ym_set (z_rank k) wt out = q at *
    refine ⟨by intros; omega, a2, by intros; omega, ⟨hs.1, Or.inr hc, fun z => ?_, fun z z2 => ?_⟩, ?_, a6, fun _ => a7 (by intros; omega), a8, ⟨by intros; omega, by intros; omega, fun _ => ?_, by intros; omega, fun _ => c5 (by intros; omega), fun _ => c6 (by intros; omega), c7, c8, fun _ => c9 (by intros; omega)⟩, ?_⟩
    · have hz : z_rank k = 4 := by rcases z with rfl | rfl <;> rfl
      rw [hz] at hh
      have hw := hs.1
      cases hq1 : q.1 with
      | nil => exact Or.inl rfl
      | cons x r =>
        right
        have h5 := hh x (by rw [hq1]; rfl)
        rw [hq1] at hw
        rcases hw.2.1 with rfl | rfl | rfl | rfl
        · rfl
        · exact absurd h5 (by decide)
        · exact absurd h5 (by decide)
        · exact absurd h5 (by decide)
    · have h5 := hh 10 z2
      rw [z] at h5
      exact absurd h5 (by decide)
    · rw [ym_dp, if_neg hq.2.2.2.2.1, hs.2.2]; exact a5
    · rw [ym_no, if_neg hq.2.2.2.2.1]; exact hs.2.1
    · rw [ym_len (by omega)] at a10 ⊢
      simp only [List.length_append, List.length_cons, List.length_nil] at a10 ⊢; omega
  · subst e
    have hs := ym_set_ok (least := 1) (by decide) wt out a4 (c4 rfl)
    have hl := ym_set_len 1 wt out
    have hh := ym_set_head (least := 1) wt out
    show ym_ok ((3, sd, tk + 1, gr), ((ym_set 1 wt out).1.tail, (ym_set 1 wt out).2), (done, E, rels), (orf, L, op))
    generalize ym_set 1 wt out = q at *
    obtain ⟨q1, q2⟩ := q
    dsimp only at *
    cases q1 with
    | nil => rw [← hs.2.2] at hd; exact absurd hd (Nat.lt_irrefl 0)
    | cons x r =>
      obtain ⟨⟨b1, b2, b3, b4⟩, b5, b6⟩ := hs
      have hx : x = 15 := by
        have h5 := hh x rfl
        rcases b2 with rfl | rfl | rfl | rfl
        · rfl
        · exact absurd h5 (by decide)
        · exact absurd h5 (by decide)
        · exact absurd h5 (by decide)
      subst hx
      rw [ym_no, if_pos rfl] at b5
      rw [ym_dp, if_pos rfl] at b6
      refine ⟨by intros; omega, a2, by intros; omega, b1, by show ym_dp r ≤ 6; omega, a6, fun _ => a7 (by intros; omega), a8, ⟨by intros; omega, by intros; omega, by intros; omega, fun _ => b5, fun _ => c5 (by intros; omega), fun _ => c6 (by intros; omega), c7, c8, fun _ => c9 (by intros; omega)⟩, ?_⟩
      rw [ym_len (by omega)] at a10 ⊢
      rw [List.length_cons] at hl
      simp only [List.tail_cons]
      omega
  · subst e
    subst es
    obtain ⟨rfl, rfl⟩ := c5 (by omega) rfl
    have hw := ym_fin_wf a4 hd (c4 rfl)
    have hl := ym_fin_len (out := out) a4 hd
    have a10 : (ym_flat done).length + out.length + wt.length ≤ tk := by simpa [ym_all, ym_cur, ym_ops, Nat.add_assoc] using a10
    rcases hc with rfl | rfl
    · show ym_ok ((2, 1, tk + 1, true), ([], []), (done, ym_fin wt out, []), (true, [], 0))
      refine ⟨by intros; omega, by intros; omega, by intros; omega, trivial, Nat.zero_le _, a6, fun _ => a7 (by intros; omega), a8, ⟨by intros; omega, by intros; omega, fun _ => rfl, by intros; omega, by intros; omega, fun _ _ => ⟨hw, fun _ => rfl⟩, fun R h => absurd h List.not_mem_nil, trivial, by intros; omega⟩, ?_⟩
      simp [ym_all, ym_cur, ym_ops, ym_pre, ym_O, ym_A, ym_grp, ym_cx]; omega
    · have hlen : (done ++ [(true, ym_fin wt out, ([] : List YR))]).length = done.length + 1 := by simp
      have := a7 (by omega)
      show ym_ok ((0, 0, tk + 1, true), ([], []), (done ++ [(true, ym_fin wt out, ([] : List YR))], [], []), (true, [], 0))
      refine ⟨by intros; omega, by intros; omega, by intros; omega, trivial, Nat.zero_le _, by rw [hlen]; omega, by intros; omega, fun R h => ?_, ⟨fun _ => ⟨rfl, rfl⟩, by intros; omega, by intros; omega, by intros; omega, by intros; omega, by intros; omega, fun R h => absurd h List.not_mem_nil, trivial, by intros; omega⟩, ?_⟩
      · rcases List.mem_append.mp h with h | h
        · exact a8 R h
        · rw [List.mem_singleton] at h
          rw [h]
          exact ⟨hw, (fun z => by cases z), fun R h => absurd h List.not_mem_nil, trivial⟩
      · simp [ym_all, ym_cur, ym_ops, ym_flat_app, ym_flat, ym_flat1, ym_O, ym_A, ym_grp]; omega
  · subst e
    subst es
    obtain ⟨d1, d2⟩ := c6 (by omega) (by omega)
    have hw := ym_fin_wf a4 hd (c4 rfl)
    have hl := ym_fin_len (out := out) a4 hd
    rw [ym_step_rel hc]
    refine ⟨by intros; omega, by intros; omega, by intros; omega, trivial, Nat.zero_le _, a6, fun _ => a7 (by intros; omega), a8, ⟨by intros; omega, by intros; omega, fun _ => rfl, by intros; omega, by intros; omega, fun _ _ => ⟨d1, d2⟩, c7, c8, fun _ _ => ⟨hw, hc⟩⟩, ?_⟩
    simp [ym_all, ym_cur, ym_ops] at a10 ⊢; omega
  · subst e
    subst es
    obtain ⟨d1, d2⟩ := c6 (by omega) (by omega)
    obtain ⟨d3, d4⟩ := c9 (by omega) rfl
    have hw := ym_fin_wf a4 hd (c4 rfl)
    have hl := ym_fin_len (out := out) a4 hd
    have hR : ∀ R ∈ (orf, L, op, ym_fin wt out) :: rels, ym_okR R := fun R h => by
      rcases List.mem_cons.mp h with rfl | h
      · exact ⟨d3, hw, d4⟩
      · exact c7 R h
    have hC : ym_chain ((orf, L, op, ym_fin wt out) :: rels) := ⟨d2, c8⟩
    have hA : (ym_A ((orf, L, op, ym_fin wt out) :: rels)).length = (ym_pre orf rels).length + L.length + (wt.length + out.length) + 1 + (if orf = true then 0 else 1) := by
      rw [ym_A_cons]
      cases orf <;> simp [hl] <;> omega
    have hG : ym_grp ((orf, L, op, ym_fin wt out) :: rels) = ym_grp rels + (if orf = true then 1 else 0) := rfl
    have a10 : (ym_flat done).length + E.length + (ym_pre orf rels).length + L.length + out.length + wt.length + 1 + (ym_cx orf rels).length ≤ tk := by
      simp [ym_all, ym_cur, ym_ops] at a10; omega
    have hX : (ym_cx orf rels).length = (if orf = true then 0 else 1) + (if 1 < ym_grp ((orf, L, op, ym_fin wt out) :: rels) then 1 else 0) := by
      rw [hG]
      unfold ym_cx
      cases orf
      · simp; split <;> rfl
      · simp; split <;> rfl
    obtain ⟨r, hr'⟩ : ∃ r, r = (orf, L, op, ym_fin wt out) := ⟨_, rfl⟩
    rw [← hr'] at hR hC hA hG hX
    have h7 : ∀ b : Bool, (ym_O (r :: rels)).length = (ym_A (r :: rels)).length + (if 1 < ym_grp (r :: rels) then 1 else 0) := fun _ => by
      unfold ym_O
      split <;> simp
    rcases hc with rfl | rfl | rfl
    · show ym_ok ((2, 1, tk + 1, gr), ([], []), (done, E, (orf, L, op, ym_fin wt out) :: rels), (false, [], 0))
      rw [← hr']
      refine ⟨by intros; omega, by intros; omega, by intros; omega, trivial, Nat.zero_le _, a6, fun _ => a7 (by intros; omega), a8, ⟨by intros; omega, by intros; omega, fun _ => rfl, by intros; omega, by intros; omega, fun _ _ => ⟨d1, (fun z => by cases z)⟩, hR, hC, by intros; omega⟩, ?_⟩
      have e1 : (ym_cx false (r :: rels)).length = 1 + (if 1 < ym_grp (r :: rels) then 1 else 0) := by
        unfold ym_cx
        simp; split <;> rfl
      show (ym_flat done ++ (E ++ ym_pre false (r :: rels) ++ [])).length + ([] ++ ym_cx false (r :: rels)).length ≤ tk + 1
      simp only [List.length_append, List.length_nil, e1]
      have e2 : ym_pre false (r :: rels) = ym_A (r :: rels) := rfl
      rw [e2, hA]
      omega
    · show ym_ok ((2, 1, tk + 1, gr), ([], []), (done, E, (orf, L, op, ym_fin wt out) :: rels), (true, [], 0))
      rw [← hr']
      refine ⟨by intros; omega, by intros; omega, by intros; omega, trivial, Nat.zero_le _, a6, fun _ => a7 (by intros; omega), a8, ⟨by intros; omega, by intros; omega, fun _ => rfl, by intros; omega, by intros; omega, fun _ _ => ⟨d1, (fun z => by cases z)⟩, hR, hC, by intros; omega⟩, ?_⟩
      have e1 : (ym_cx true (r :: rels)).length ≤ 1 := by
        unfold ym_cx
        simp; split <;> simp
      show (ym_flat done ++ (E ++ ym_pre true (r :: rels) ++ [])).length + ([] ++ ym_cx true (r :: rels)).length ≤ tk + 1
      simp only [List.length_append, List.length_nil]
      have e2 : ym_pre true (r :: rels) = ym_O (r :: rels) := rfl
      rw [e2, h7 true, hA]
      omega
    · have := a7 (by omega)
      show ym_ok ((0, 2, tk + 1, gr), ([], []), (done ++ [(gr, E, (orf, L, op, ym_fin wt out) :: rels)], [], []), (true, [], 0))
      rw [← hr']
      have hlen : (done ++ [(gr, E, r :: rels)]).length = done.length + 1 := by simp
      refine ⟨by intros; omega, by intros; omega, by intros; omega, trivial, Nat.zero_le _, by intros; omega, by intros; omega, fun R h => ?_, ⟨fun _ => ⟨rfl, rfl⟩, by intros; omega, by intros; omega, by intros; omega, by intros; omega, by intros; omega, fun R h => absurd h List.not_mem_nil, trivial, by intros; omega⟩, ?_⟩
      · rcases List.mem_append.mp h with h | h
        · exact a8 R h
        · rw [List.mem_singleton] at h
          rw [h]
          exact ⟨d1, fun _ z => (by cases z), hR, hC⟩
      · show (ym_flat (done ++ [(gr, E, r :: rels)]) ++ []).length + 0 ≤ tk + 1
        rw [ym_flat_app]
        show (ym_flat done ++ ((E ++ ym_O (r :: rels)) ++ []) ++ []).length + 0 ≤ tk + 1
        simp only [List.length_append, List.length_nil, h7 true, hA]
        omega
