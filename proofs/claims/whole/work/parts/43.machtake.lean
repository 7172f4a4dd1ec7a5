/-! A token is taken: the class's reader and the text's machine. -/
def ym_cnd (orf : Bool) (rels : List YR) : Prop := 1 < ym_grp rels + (if orf = true then 1 else 0)
theorem ym_cx_eq (orf : Bool) (rels : List YR) : ym_cx orf rels = (if orf = true then [] else [4]) ++ (if 1 < ym_grp rels + (if orf = true then 1 else 0) then [3] else []) := by
  unfold ym_cx
  cases orf
  · rfl
  · show [] ++ (if 0 < ym_grp rels then [3] else []) = [] ++ (if 1 < ym_grp rels + 1 then [3] else [])
    by_cases h : 0 < ym_grp rels
    · rw [if_pos h, if_pos (by omega)]
    · rw [if_neg h, if_neg (by omega)]
theorem ym_set_cx2 (orf : Bool) (rels : List YR) (o : List YC) : ym_set 2 (ym_cx orf rels) o = (if 1 < ym_grp rels + (if orf = true then 1 else 0) then [3] else [], o ++ (if orf = true then [] else [(4, 0)])) := by
  rw [ym_cx_eq]
  have h3 : z_rank 3 < 2 := by decide
  have h4 : 2 ≤ z_rank 4 := by decide
  cases orf
  · simp only [Bool.false_eq_true, if_false, Nat.add_zero, List.cons_append, List.nil_append]
    rw [ym_set_go h4]
    split
    · exact ym_set_stop h3
    · rfl
  · simp only [if_true, List.nil_append, List.append_nil]
    split
    · exact ym_set_stop h3
    · rfl
theorem ym_set_cx1 (orf : Bool) (rels : List YR) (o : List YC) : ym_set 1 (ym_cx orf rels) o = ([], o ++ (if orf = true then [] else [(4, 0)]) ++ (if 1 < ym_grp rels + (if orf = true then 1 else 0) then [(3, 0)] else [])) := by
  rw [ym_cx_eq]
  have h3 : 1 ≤ z_rank 3 := by decide
  have h4 : 1 ≤ z_rank 4 := by decide
  cases orf
  · simp only [Bool.false_eq_true, if_false, Nat.add_zero, List.cons_append, List.nil_append]
    rw [ym_set_go h4]
    split
    · rw [ym_set_go h3, ym_set_nil]
    · rw [ym_set_nil, List.append_nil]
  · simp only [if_true, List.nil_append, List.append_nil]
    split
    · rw [ym_set_go h3, ym_set_nil]
    · rw [ym_set_nil, List.append_nil]
theorem ym_cx_rank {orf : Bool} {rels : List YR} {x : Int32} (h : (ym_cx orf rels).head? = some x) : z_rank x < 3 := by
  rw [ym_cx_eq] at h
  cases orf
  · cases h; decide
  · simp only [if_true, List.nil_append] at h
    split at h
    · cases h; decide
    · cases h
/-- what the relations' codes become when an ALL goes on, and when it ends -/
theorem ym_A_join (orf : Bool) (L : List YC) (op : Int32) (fin : List YC) (rels : List YR) (p : List YC) : p ++ ym_pre orf rels ++ L ++ (fin ++ [(op, 0)] ++ (if orf = true then [] else [(4, 0)])) = p ++ ym_A ((orf, L, op, fin) :: rels) := by
  rw [ym_A_cons]
  simp only [List.append_assoc]
theorem ym_O_join (orf : Bool) (L : List YC) (op : Int32) (fin : List YC) (rels : List YR) (p : List YC) : p ++ ym_pre orf rels ++ L ++ (fin ++ [(op, 0)] ++ (if orf = true then [] else [(4, 0)]) ++ (if 1 < ym_grp rels + (if orf = true then 1 else 0) then [(3, 0)] else [])) = p ++ ym_O ((orf, L, op, fin) :: rels) := by
  unfold ym_O
  rw [ym_A_cons]
  simp only [List.append_assoc]
  rfl
/-- the codes ahead of those of the E that is being read, and the signs below its own -/
def ym_B (sd : Nat) (done : List YL) (E : List YC) (rels : List YR) (orf : Bool) (L : List YC) : List YC := if sd = 0 then ym_flat done else if sd = 1 then ym_flat done ++ E ++ ym_pre orf rels else ym_flat done ++ E ++ ym_pre orf rels ++ L
def ym_C (sd : Nat) (rels : List YR) (orf : Bool) (op : Int32) : List Int32 := if sd = 0 then [] else if sd = 1 then ym_cx orf rels else op :: ym_cx orf rels
theorem ym_all_B {aw sd tk : Nat} {gr : Bool} {wt : List Int32} {out : List YC} {done : List YL} {E : List YC} {rels : List YR} {orf : Bool} {L : List YC} {op : Int32} (h : 2 ≤ aw) : ym_all ((aw, sd, tk, gr), (wt, out), (done, E, rels), (orf, L, op)) = ym_B sd done E rels orf L ++ out ∧ ym_ops ((aw, sd, tk, gr), (wt, out), (done, E, rels), (orf, L, op)) = wt ++ ym_C sd rels orf op := by
  have h' : ¬ aw ≤ 1 := by omega
  unfold ym_all ym_cur ym_ops ym_B ym_C
  dsimp only
  rw [if_neg h', if_neg h']
  refine ⟨?_, rfl⟩
  by_cases e0 : sd = 0
  · rw [if_pos e0, if_pos e0]
  · rw [if_neg e0, if_neg e0]
    by_cases e1 : sd = 1
    · rw [if_pos e1, if_pos e1]; simp only [List.append_assoc]
    · rw [if_neg e1, if_neg e1]; simp only [List.append_assoc]
theorem ym_C_rank {sd : Nat} {rels : List YR} {orf : Bool} {op x : Int32} (h2 : sd = 2 → z_isRel op = true) (hs : sd ≤ 2) (h : (ym_C sd rels orf op).head? = some x) : z_rank x < 4 := by
  unfold ym_C at h
  split at h
  · cases h
  · split at h
    · have := ym_cx_rank h
      rw [fa_lt] at this ⊢
      have e3 : ((3 : Int32).toInt) = 3 := rfl
      have e4 : ((4 : Int32).toInt) = 4 := rfl
      omega
    · cases h
      rw [zr_rel (h2 (by omega))]
      decide
theorem zv_same {σ τ : RS} {ops : List Int32} {cds : List YC} (h : zv σ ops cds) (h3 : τ 0 3 = σ 0 3) (h1 : τ 1 = σ 1) (h7 : τ 4 7 = σ 4 7) (h5 : τ 5 = σ 5) (h6 : τ 6 = σ 6) : zv τ ops cds := by
  unfold zv
  rw [h3, h1, h7, h5, h6]
  exact h
theorem zr_take {S : YS} {σ : RS} (h : zr S σ) (ho : ym_ok S) (hf : ym_fits S (σ 2 1) = true) (hr : ym_room S (σ 2 1) = true) (hk : ¬ σ 2 1 = 17) : zr (ym_step (σ 2 1) (σ 2 2) S) (z_take (ym_ops S).length S.2.2.1.1.length σ) ∧ (z_take (ym_ops S).length S.2.2.1.1.length σ) 2 = σ 2 ∧ (z_take (ym_ops S).length S.2.2.1.1.length σ) 3 = σ 3 := by
  obtain ⟨⟨aw, sd, tk, gr⟩, ⟨wt, out⟩, ⟨done, E, rels⟩, orf, L, op⟩ := S
  obtain ⟨⟨h4, h5, h6, h7, h8⟩, hv, h48, hzl, hcu, hcc⟩ := h
  obtain ⟨a1, a2, a3, a4, a5, a6, a7, a8, ⟨c1, c2, c3, c4, c5, c6, c7, c8, c9⟩, a10⟩ := ho
  have hc := ym_cases a1 a2 hf
  obtain ⟨r1, r2, r3⟩ := ym_room_of hr
  dsimp only at hc r1 r2 r3 ⊢
  obtain ⟨k, hk'⟩ : ∃ k, k = σ 2 1 := ⟨_, rfl⟩
  obtain ⟨v, hv'⟩ : ∃ v, v = σ 2 2 := ⟨_, rfl⟩
  rw [← hk'] at hc r3 hf hr hk
  obtain ⟨σ1, hs1⟩ : ∃ τ, τ = s2 σ 0 7 (σ 0 7 + 1) := ⟨_, rfl⟩
  have k7 : σ1 0 7 = nI (tk + 1) := by rw [hs1]; show σ 0 7 + 1 = _; rw [h7, nI_1]
  have g4 : σ1 0 4 = nI aw := by rw [hs1]; exact h4
  have g5 : 2 ≤ aw → σ1 0 5 = nI sd := by rw [hs1]; exact h5
  have g6 : σ1 0 6 = nI (ym_dp wt) := by rw [hs1]; exact h6
  have g8 : σ1 0 8 = 0 := by rw [hs1]; exact h8
  have gv : zv σ1 (ym_ops ((aw, sd, tk, gr), (wt, out), (done, E, rels), (orf, L, op))) (ym_all ((aw, sd, tk, gr), (wt, out), (done, E, rels), (orf, L, op))) := by rw [hs1]; exact zv_same hv rfl rfl rfl rfl rfl
  have g48 : σ1 4 8 = nI (done.length + if aw = 0 then 0 else 1) := by rw [hs1]; exact h48
  have gzl : zl σ1 0 0 done := by rw [hs1]; exact zl_keep (fun c _ _ => s1_ne _ _ (by omega)) hzl
  have gcu : 0 < aw → σ1 7 done.length = bI gr ∧ σ1 8 done.length = nI (ym_flat done).length := by rw [hs1]; exact hcu
  have gcc : 2 ≤ aw → ¬ sd = 0 → σ1 9 done.length = nI ((ym_flat done).length + E.length) := by rw [hs1]; exact hcc
  have g22 : σ1 2 = σ 2 := by rw [hs1]; rfl
  have g33 : σ1 3 = σ 3 := by rw [hs1]; rfl
  have gk : σ1 2 1 = k := by rw [g22]; exact hk'.symm
  have gval : σ1 2 2 = v := by rw [g22]; exact hv'.symm
  obtain ⟨τ, hτ⟩ : ∃ τ, τ = z_take (ym_ops ((aw, sd, tk, gr), (wt, out), (done, E, rels), (orf, L, op))).length done.length σ := ⟨_, rfl⟩
  rw [← hτ, ← hk', ← hv', ← g22, ← g33]
  unfold z_take at hτ
  rw [← hs1] at hτ
  dsimp only at hτ
  rw [gk, gval] at hτ
  clear hs1 h4 h5 h6 h7 h8 hv h48 hzl hcu hcc hv' hk' g22 g33 gk gval
  rcases hc with ⟨e, hc⟩ | ⟨e, rfl⟩ | ⟨e, hc⟩ | ⟨e, rfl⟩ | ⟨e, hc⟩ | ⟨e, hd, rfl⟩ | ⟨e, hd, es, hc⟩ | ⟨e, hd, es, hc⟩ | ⟨e, hd, es, hc⟩
  · subst e
    obtain ⟨rfl, rfl⟩ := c1 (by omega)
    have hn := r2 rfl
    have gv : zv σ1 [] (ym_flat done) := by simpa [ym_all, ym_cur, ym_ops] using gv
    have g48 : σ1 4 8 = nI done.length := g48
    have gl : σ1 4 7 = nI (ym_flat done).length := gv.2.2.1
    rcases hc with rfl | rfl | rfl
    · have hτ : τ = s2 (z_begin σ1 done.length 0) 0 4 1 := hτ
      show zr ((1, sd, tk + 1, false), ([], []), (done, [], []), (true, [], 0)) τ ∧ _
      subst hτ
      refine ⟨⟨⟨rfl, fun z => absurd z (by omega), g6, k7, g8⟩, zv_same (cds := ym_flat done ++ []) (by rw [List.append_nil]; exact gv) rfl rfl rfl rfl rfl, ?_, ?_, fun _ => ⟨upd_same _ _ _, ?_⟩, fun z => absurd z (by omega)⟩, rfl, rfl⟩
      · show nI done.length + 1 = _
        exact nI_1 _
      · exact zl_same done 0 0 (fun j hj => ⟨upd_ne _ _ (by omega), upd_ne _ _ (by omega), rfl, rfl⟩) gzl
      · exact (upd_same _ _ _).trans gl
    · have hτ : τ = s2 (s2 (z_begin σ1 done.length 1) 0 5 0) 0 4 2 := hτ
      show zr ((2, 0, tk + 1, true), ([], []), (done, [], []), (true, [], 0)) τ ∧ _
      subst hτ
      refine ⟨⟨⟨rfl, fun _ => rfl, g6, k7, g8⟩, zv_same (cds := ym_flat done ++ []) (by rw [List.append_nil]; exact gv) rfl rfl rfl rfl rfl, ?_, ?_, fun _ => ⟨upd_same _ _ _, ?_⟩, fun _ z => absurd rfl z⟩, rfl, rfl⟩
      · show nI done.length + 1 = _
        exact nI_1 _
      · exact zl_same done 0 0 (fun j hj => ⟨upd_ne _ _ (by omega), upd_ne _ _ (by omega), rfl, rfl⟩) gzl
      · exact (upd_same _ _ _).trans gl
    · exact absurd rfl hk
  · subst e
    obtain ⟨rfl, rfl⟩ := c1 (by omega)
    have hn := a7 (by omega)
    obtain ⟨gc1, gc2⟩ := gcu (by omega)
    have gv : zv σ1 [] (ym_flat done) := by simpa [ym_all, ym_cur, ym_ops] using gv
    have g48 : σ1 4 8 = nI (done.length + 1) := g48
    have gl : σ1 4 7 = nI (ym_flat done).length := gv.2.2.1
    have e9 : σ1 4 8 - 1 = nI done.length := by rw [g48, nI_pred]
    have hτ : τ = s2 (s2 (z_cond σ1) 0 5 1) 0 4 2 := hτ
    have ec : z_cond σ1 = s1 σ1 9 (upd (σ1 9) done.length (nI (ym_flat done).length)) := by
      unfold z_cond
      rw [e9, putF_nI _ _ hn (by omega), gl]
    rw [ec] at hτ
    show zr ((2, 1, tk + 1, gr), ([], []), (done, [], []), (true, [], 0)) τ ∧ _
    subst hτ
    refine ⟨⟨⟨rfl, fun _ => rfl, g6, k7, g8⟩, ?_, g48, ?_, fun _ => ⟨gc1, gc2⟩, fun _ _ => upd_same _ _ _⟩, rfl, rfl⟩
    · show zv _ [] (ym_flat done ++ [])
      rw [List.append_nil]
      exact zv_same gv rfl rfl rfl rfl rfl
    · exact zl_same (σ := σ1) done 0 0 (fun j hj => ⟨rfl, rfl, upd_ne (σ1 9) _ (by omega), rfl⟩) gzl
  · subst e
    have hτ : τ = s2 (z_add σ1 k v) 0 4 3 := by
      rcases hc with rfl | rfl <;> exact hτ
    rw [ym_step_unit hc]
    obtain ⟨b1, b2⟩ := ym_all_B (aw := 2) (sd := sd) (tk := tk) (gr := gr) (wt := wt) (out := out) (done := done) (E := E) (rels := rels) (orf := orf) (L := L) (op := op) (by omega)
    rw [b1, b2] at gv a10
    rw [List.length_append, List.length_append] at a10
    obtain ⟨z1, z2⟩ := zv_add gv (by rw [List.length_append]; omega) k v
    obtain ⟨b3, b4⟩ := ym_all_B (aw := 3) (sd := sd) (tk := tk + 1) (gr := gr) (wt := wt) (out := out ++ [(k, v)]) (done := done) (E := E) (rels := rels) (orf := orf) (L := L) (op := op) (by omega)
    subst hτ
    refine ⟨⟨⟨rfl, fun _ => g5 (by omega), g6, k7, g8⟩, ?_, g48, zl_keep (σ := σ1) (fun c c1 c2 => (s1_ne _ _ (by omega)).trans (z2.1 c (by omega))) gzl, fun _ => gcu (by omega), fun _ => gcc (by omega)⟩, rfl, rfl⟩
    rw [b3, b4, ← List.append_assoc]
    exact zv_same z1 rfl rfl rfl rfl rfl
  · subst e
    have hτ : τ = z_push (s2 σ1 0 6 (σ1 0 6 + 1)) 15 := hτ
    show zr ((2, sd, tk + 1, gr), (15 :: wt, out), (done, E, rels), (orf, L, op)) τ ∧ _
    obtain ⟨b1, b2⟩ := ym_all_B (aw := 2) (sd := sd) (tk := tk) (gr := gr) (wt := wt) (out := out) (done := done) (E := E) (rels := rels) (orf := orf) (L := L) (op := op) (by omega)
    rw [b1, b2] at gv a10
    rw [List.length_append, List.length_append] at a10
    obtain ⟨z1, z2⟩ := zv_push (σ := s2 σ1 0 6 (σ1 0 6 + 1)) (zv_same gv rfl rfl rfl rfl rfl) (by rw [List.length_append]; omega) 15
    obtain ⟨b3, b4⟩ := ym_all_B (aw := 2) (sd := sd) (tk := tk + 1) (gr := gr) (wt := 15 :: wt) (out := out) (done := done) (E := E) (rels := rels) (orf := orf) (L := L) (op := op) (by omega)
    subst hτ
    refine ⟨⟨⟨g4, fun _ => g5 (by omega), ?_, k7, g8⟩, ?_, g48, zl_keep (σ := σ1) (fun c c1 c2 => (z2.1 c (by omega)).trans (s1_ne _ _ (by omega))) gzl, fun _ => gcu (by omega), fun _ => gcc (by omega)⟩, rfl, rfl⟩
    · show σ1 0 6 + 1 = _
      rw [g6, nI_1, ym_dp, if_pos rfl]
    · rw [b3, b4]
      exact z1
  · subst e
    have hq := ym_arith_not hc
    have hτ : τ = s2 (z_push (z_settle (z_rank k) (ym_ops ((3, sd, tk, gr), (wt, out), (done, E, rels), (orf, L, op))).length σ1) k) 0 4 2 := by
      rcases hc with rfl | rfl | rfl <;> exact hτ
    rw [ym_step_op hc]
    obtain ⟨b1, b2⟩ := ym_all_B (aw := 3) (sd := sd) (tk := tk) (gr := gr) (wt := wt) (out := out) (done := done) (E := E) (rels := rels) (orf := orf) (L := L) (op := op) (by omega)
    rw [b2] at hτ
    rw [b1, b2] at gv a10
    obtain ⟨z1, z2⟩ := zv_settle (z_rank k) _ _ _ gv (by omega)
    have hrk : 4 ≤ z_rank k := by rcases hc with rfl | rfl | rfl <;> decide
    have e1 : ym_set (z_rank k) (wt ++ ym_C sd rels orf op) (ym_B sd done E rels orf L ++ out) = ((ym_set (z_rank k) wt out).1 ++ ym_C sd rels orf op, ym_B sd done E rels orf L ++ (ym_set (z_rank k) wt out).2) := by
      rw [ym_set_pre, ym_set_ctx' (fun x hx => Int32.lt_of_lt_of_le (ym_C_rank (fun z => (c9 (by omega) z).2) a2 hx) hrk)]
    have hl := ym_set_len (z_rank k) (wt ++ ym_C sd rels orf op) (ym_B sd done E rels orf L ++ out)
    have hs := ym_set_ok (least := z_rank k) hq.2.2.2.2.2.2.2.2.2 wt out a4 (c4 rfl)
    rw [e1] at z1 hl
    dsimp only at z1 hl
    obtain ⟨z3, z4⟩ := zv_push z1 (by omega) k
    have zz := z2.trans z4
    obtain ⟨b3, b4⟩ := ym_all_B (aw := 2) (sd := sd) (tk := tk + 1) (gr := gr) (wt := k :: (ym_set (z_rank k) wt out).1) (out := (ym_set (z_rank k) wt out).2) (done := done) (E := E) (rels := rels) (orf := orf) (L := L) (op := op) (by omega)
    generalize z_push (z_settle (z_rank k) (wt ++ ym_C sd rels orf op).length σ1) k = τ0 at *
    subst hτ
    refine ⟨⟨⟨rfl, fun _ => (zz.2.1 5 (by omega)).trans (g5 (by omega)), ?_, (zz.2.1 7 (by omega)).trans k7, (zz.2.1 8 (by omega)).trans g8⟩, ?_, (zz.2.2 8 (by omega)).trans g48, zl_keep (σ := σ1) (fun c c1 c2 => (s1_ne _ _ (by omega)).trans (zz.1 c (by omega))) gzl, fun _ => ?_, fun _ q => ?_⟩, zz.1 2 (by omega), zz.1 3 (by omega)⟩
    · rw [ym_dp, if_neg hq.2.2.2.2.1, hs.2.2]
      exact (zz.2.1 6 (by omega)).trans g6
    · rw [b3, b4]
      exact zv_same z3 rfl rfl rfl rfl rfl
    · have := gcu (by omega)
      exact ⟨(congrFun (zz.1 7 (by omega)) _).trans this.1, (congrFun (zz.1 8 (by omega)) _).trans this.2⟩
    · exact (congrFun (zz.1 9 (by omega)) _).trans (gcc (by omega) q)
  · subst e
    have hτ : τ = s2 (s2 (z_settle 1 (ym_ops ((3, sd, tk, gr), (wt, out), (done, E, rels), (orf, L, op))).length σ1) 0 3 ((z_settle 1 (ym_ops ((3, sd, tk, gr), (wt, out), (done, E, rels), (orf, L, op))).length σ1) 0 3 - 1)) 0 6 ((z_settle 1 (ym_ops ((3, sd, tk, gr), (wt, out), (done, E, rels), (orf, L, op))).length σ1) 0 6 - 1) := hτ
    show zr ((3, sd, tk + 1, gr), ((ym_set 1 wt out).1.tail, (ym_set 1 wt out).2), (done, E, rels), (orf, L, op)) τ ∧ _
    obtain ⟨b1, b2⟩ := ym_all_B (aw := 3) (sd := sd) (tk := tk) (gr := gr) (wt := wt) (out := out) (done := done) (E := E) (rels := rels) (orf := orf) (L := L) (op := op) (by omega)
    rw [b2] at hτ
    rw [b1, b2] at gv a10
    obtain ⟨z1, z2⟩ := zv_settle 1 _ _ _ gv (by omega)
    have e1 : ym_set 1 (wt ++ ym_C sd rels orf op) (ym_B sd done E rels orf L ++ out) = ((ym_set 1 wt out).1 ++ ym_C sd rels orf op, ym_B sd done E rels orf L ++ (ym_set 1 wt out).2) := by
      rw [ym_set_pre, ym_set_ctx (by decide) _ _ _ hd]
    have hs := ym_set_ok (least := 1) (by decide) wt out a4 (c4 rfl)
    have hh := ym_set_head (least := 1) wt out
    rw [e1] at z1
    dsimp only at z1
    generalize z_settle 1 (wt ++ ym_C sd rels orf op).length σ1 = τ0 at *
    generalize ym_set 1 wt out = q at *
    obtain ⟨q1, q2⟩ := q
    dsimp only at *
    cases q1 with
    | nil => rw [← hs.2.2] at hd; exact absurd hd (Nat.lt_irrefl 0)
    | cons x r =>
      have hx : x = 15 := by
        have h5 := hh x rfl
        rcases hs.1.2.1 with rfl | rfl | rfl | rfl
        · rfl
        · exact absurd h5 (by decide)
        · exact absurd h5 (by decide)
        · exact absurd h5 (by decide)
      subst hx
      have hdp := hs.2.2
      rw [ym_dp, if_pos rfl] at hdp
      obtain ⟨b3, b4⟩ := ym_all_B (aw := 3) (sd := sd) (tk := tk + 1) (gr := gr) (wt := r) (out := q2) (done := done) (E := E) (rels := rels) (orf := orf) (L := L) (op := op) (by omega)
      have e3 : τ0 0 3 - 1 = nI (r ++ ym_C sd rels orf op).length := by rw [z1.1]; exact nI_pred _
      subst hτ
      refine ⟨⟨⟨(z2.2.1 4 (by omega)).trans g4, fun _ => (z2.2.1 5 (by omega)).trans (g5 (by omega)), ?_, (z2.2.1 7 (by omega)).trans k7, (z2.2.1 8 (by omega)).trans g8⟩, ?_, (z2.2.2 8 (by omega)).trans g48, zl_keep (σ := σ1) (fun c c1 c2 => ((s1_ne _ _ (by omega)).trans (s1_ne _ _ (by omega))).trans (z2.1 c (by omega))) gzl, fun _ => ?_, fun _ q => ?_⟩, z2.1 2 (by omega), z2.1 3 (by omega)⟩
      · show τ0 0 6 - 1 = nI (ym_dp r)
        rw [z2.2.1 6 (by omega), g6, ← hdp, nI_pred]
      · rw [List.tail_cons, b3, b4]
        exact ⟨e3, z1.2.1.2, z1.2.2.1, z1.2.2.2⟩
      · have := gcu (by omega)
        exact ⟨(congrFun (z2.1 7 (by omega)) _).trans this.1, (congrFun (z2.1 8 (by omega)) _).trans this.2⟩
      · exact (congrFun (z2.1 9 (by omega)) _).trans (gcc (by omega) q)
  · subst e
    subst es
    obtain ⟨rfl, rfl⟩ := c5 (by omega) rfl
    have hn := a7 (by omega)
    have g5 := g5 (by omega)
    obtain ⟨gc1, gc2⟩ := gcu (by omega)
    obtain ⟨b1, b2⟩ := ym_all_B (aw := 3) (sd := 0) (tk := tk) (gr := true) (wt := wt) (out := out) (done := done) (E := E) (rels := []) (orf := orf) (L := L) (op := op) (by omega)
    rw [b2] at hτ
    rw [b1, b2] at gv a10
    obtain ⟨z1, z2⟩ := zv_settle 1 _ _ _ gv (by omega)
    have e1 : ym_set 1 (wt ++ ym_C 0 [] orf op) (ym_B 0 done E [] orf L ++ out) = ([], ym_flat done ++ ym_fin wt out) := by
      rw [ym_set_pre, (ym_set_all (by decide) wt (ym_C 0 [] orf op) out a4 hd).1]
      rfl
    rw [e1] at z1
    dsimp only at z1
    have gl : (z_settle 1 (wt ++ ym_C 0 [] orf op).length σ1) 4 7 = nI (ym_flat done ++ ym_fin wt out).length := z1.2.2.1
    have e9 : (z_settle 1 (wt ++ ym_C 0 [] orf op).length σ1) 4 8 - 1 = nI done.length := by rw [z2.2.2 8 (by omega), g48, if_neg (by omega), nI_pred]
    have f5 : (z_settle 1 (wt ++ ym_C 0 [] orf op).length σ1) 0 5 = 0 := (z2.2.1 5 (by omega)).trans g5
    have ec : z_cond (z_settle 1 (wt ++ ym_C 0 [] orf op).length σ1) = s1 (z_settle 1 (wt ++ ym_C 0 [] orf op).length σ1) 9 (upd ((z_settle 1 (wt ++ ym_C 0 [] orf op).length σ1) 9) done.length (nI (ym_flat done ++ ym_fin wt out).length)) := by
      unfold z_cond
      rw [e9, putF_nI _ _ hn (by omega), gl]
    rcases hc with rfl | rfl
    · have hτ : τ = s2 (s2 (z_cond (z_settle 1 (wt ++ ym_C 0 [] orf op).length σ1)) 0 5 1) 0 4 2 := hτ
      rw [ec] at hτ
      generalize z_settle 1 (wt ++ ym_C 0 [] orf op).length σ1 = τ0 at *
      show zr ((2, 1, tk + 1, true), ([], []), (done, ym_fin wt out, []), (true, [], 0)) τ ∧ _
      subst hτ
      refine ⟨⟨⟨rfl, fun _ => rfl, ?_, (z2.2.1 7 (by omega)).trans k7, (z2.2.1 8 (by omega)).trans g8⟩, ?_, (z2.2.2 8 (by omega)).trans g48, ?_, fun _ => ⟨(congrFun (z2.1 7 (by omega)) _).trans gc1, (congrFun (z2.1 8 (by omega)) _).trans gc2⟩, fun _ _ => ?_⟩, z2.1 2 (by omega), z2.1 3 (by omega)⟩
      · show τ0 0 6 = nI 0
        rw [z2.2.1 6 (by omega), g6, hd]
      · show zv _ [] (ym_flat done ++ (ym_fin wt out ++ [] ++ []))
        rw [List.append_nil, List.append_nil]
        exact zv_same z1 rfl rfl rfl rfl rfl
      · exact zl_same (σ := σ1) done 0 0 (fun j hj => ⟨congrFun (z2.1 7 (by omega)) _, congrFun (z2.1 8 (by omega)) _, (upd_ne (τ0 9) _ (by omega)).trans (congrFun (z2.1 9 (by omega)) _), congrFun (z2.1 10 (by omega)) _⟩) gzl
      · show upd (τ0 9) done.length _ done.length = _
        rw [upd_same, List.length_append]
    · have hτ : τ = s2 (z_end (if (z_settle 1 (wt ++ ym_C 0 [] orf op).length σ1) 0 5 = 0 then z_cond (z_settle 1 (wt ++ ym_C 0 [] orf op).length σ1) else z_settle 1 (wt ++ ym_C 0 [] orf op).length σ1)) 0 4 0 := hτ
      rw [if_pos f5, ec] at hτ
      generalize z_settle 1 (wt ++ ym_C 0 [] orf op).length σ1 = τ0 at *
      have ed : z_end (s1 τ0 9 (upd (τ0 9) done.length (nI (ym_flat done ++ ym_fin wt out).length))) = s1 (s1 τ0 9 (upd (τ0 9) done.length (nI (ym_flat done ++ ym_fin wt out).length))) 10 (upd (τ0 10) done.length (nI (ym_flat done ++ ym_fin wt out).length)) := by
        show s1 _ 10 (putF 16 (τ0 10) (τ0 4 8 - 1) (τ0 4 7)) = _
        rw [e9, putF_nI _ _ hn (by omega), gl]
      rw [ed] at hτ
      show zr ((0, 0, tk + 1, true), ([], []), (done ++ [(true, ym_fin wt out, ([] : List YR))], [], []), (true, [], 0)) τ ∧ _
      have ef : ym_flat (done ++ [(true, ym_fin wt out, ([] : List YR))]) = ym_flat done ++ ym_fin wt out := by
        rw [ym_flat_app]
        show ym_flat done ++ (ym_fin wt out ++ [] ++ []) = _
        rw [List.append_nil, List.append_nil]
      have ef1 : (ym_flat1 (true, ym_fin wt out, ([] : List YR))).length = (ym_fin wt out).length := by
        show (ym_fin wt out ++ []).length = _
        rw [List.append_nil]
      subst hτ
      refine ⟨⟨⟨rfl, fun z => absurd z (by omega), ?_, (z2.2.1 7 (by omega)).trans k7, (z2.2.1 8 (by omega)).trans g8⟩, ?_, ?_, ?_, fun z => absurd z (by omega), fun z => absurd z (by omega)⟩, z2.1 2 (by omega), z2.1 3 (by omega)⟩
      · show τ0 0 6 = nI 0
        rw [z2.2.1 6 (by omega), g6, hd]
      · show zv _ [] (ym_flat (done ++ [(true, ym_fin wt out, ([] : List YR))]) ++ [])
        rw [List.append_nil, ef]
        exact zv_same z1 rfl rfl rfl rfl rfl
      · show τ0 4 8 = nI ((done ++ [(true, ym_fin wt out, ([] : List YR))]).length + 0)
        rw [z2.2.2 8 (by omega), g48, if_neg (by omega), List.length_append]; rfl
      · refine zl_snoc _ done 0 0 (zl_same (σ := σ1) done 0 0 (fun j hj => ⟨congrFun (z2.1 7 (by omega)) _, congrFun (z2.1 8 (by omega)) _, (upd_ne (τ0 9) _ (by omega)).trans (congrFun (z2.1 9 (by omega)) _), (upd_ne (τ0 10) _ (by omega)).trans (congrFun (z2.1 10 (by omega)) _)⟩) gzl) ?_
        rw [Nat.zero_add, Nat.zero_add, ef1]
        refine ⟨(congrFun (z2.1 7 (by omega)) _).trans gc1, (congrFun (z2.1 8 (by omega)) _).trans gc2, ?_, ?_⟩
        · show upd (τ0 9) done.length _ done.length = _
          rw [upd_same, List.length_append]
        · show upd (τ0 10) done.length _ done.length = _
          rw [upd_same, List.length_append]
  · subst e
    subst es
    have hτ : τ = s2 (s2 (z_push (z_settle 3 (ym_ops ((3, 1, tk, gr), (wt, out), (done, E, rels), (orf, L, op))).length σ1) k) 0 4 2) 0 5 2 := by
      have h := of_decide_eq_true hc
      rcases h with rfl | rfl | rfl | rfl <;> exact hτ
    rw [ym_step_rel hc]
    obtain ⟨b1, b2⟩ := ym_all_B (aw := 3) (sd := 1) (tk := tk) (gr := gr) (wt := wt) (out := out) (done := done) (E := E) (rels := rels) (orf := orf) (L := L) (op := op) (by omega)
    rw [b2] at hτ
    rw [b1, b2] at gv a10
    obtain ⟨z1, z2⟩ := zv_settle 3 _ _ _ gv (by omega)
    have e1 : ym_set 3 (wt ++ ym_C 1 rels orf op) (ym_B 1 done E rels orf L ++ out) = (ym_cx orf rels, ym_B 1 done E rels orf L ++ ym_fin wt out) := by
      rw [ym_set_pre, (ym_set_all (by decide) wt (ym_C 1 rels orf op) out a4 hd).1]
      have := ym_set_ctx' (least := 3) (ctx := ym_cx orf rels) (fun x hx => ym_cx_rank hx) [] (ym_fin wt out)
      rw [List.nil_append] at this
      rw [show ym_C 1 rels orf op = ym_cx orf rels from rfl, this]
      rfl
    have hl := ym_set_len 3 (wt ++ ym_C 1 rels orf op) (ym_B 1 done E rels orf L ++ out)
    rw [e1] at z1 hl
    dsimp only at z1 hl
    obtain ⟨z3, z4⟩ := zv_push z1 (by omega) k
    have zz := z2.trans z4
    generalize z_push (z_settle 3 (wt ++ ym_C 1 rels orf op).length σ1) k = τ0 at *
    subst hτ
    refine ⟨⟨⟨rfl, fun _ => rfl, ?_, (zz.2.1 7 (by omega)).trans k7, (zz.2.1 8 (by omega)).trans g8⟩, ?_, (zz.2.2 8 (by omega)).trans g48, zl_keep (σ := σ1) (fun c c1 c2 => ((s1_ne _ _ (by omega)).trans (s1_ne _ _ (by omega))).trans (zz.1 c (by omega))) gzl, fun _ => ?_, fun _ q => ?_⟩, zz.1 2 (by omega), zz.1 3 (by omega)⟩
    · show τ0 0 6 = nI 0
      rw [zz.2.1 6 (by omega), g6, hd]
    · show zv _ ([] ++ (k :: ym_cx orf rels)) (ym_flat done ++ (E ++ ym_pre orf rels ++ ym_fin wt out ++ []))
      rw [List.append_nil, List.nil_append, ← List.append_assoc, ← List.append_assoc]
      exact zv_same z3 rfl rfl rfl rfl rfl
    · have := gcu (by omega)
      exact ⟨(congrFun (zz.1 7 (by omega)) _).trans this.1, (congrFun (zz.1 8 (by omega)) _).trans this.2⟩
    · exact (congrFun (zz.1 9 (by omega)) _).trans (gcc (by omega) (by omega))
  · subst e
    subst es
    have hn := a7 (by omega)
    obtain ⟨d1, d2⟩ := c6 (by omega) (by omega)
    obtain ⟨d3, d4⟩ := c9 (by omega) rfl
    have g5 := g5 (by omega)
    have gcc := gcc (by omega) (by omega)
    obtain ⟨gc1, gc2⟩ := gcu (by omega)
    have hC : ym_chain ((orf, L, op, ym_fin wt out) :: rels) := ⟨d2, c8⟩
    have hG : ym_grp ((orf, L, op, ym_fin wt out) :: rels) = ym_grp rels + (if orf = true then 1 else 0) := rfl
    obtain ⟨b1, b2⟩ := ym_all_B (aw := 3) (sd := 2) (tk := tk) (gr := gr) (wt := wt) (out := out) (done := done) (E := E) (rels := rels) (orf := orf) (L := L) (op := op) (by omega)
    rw [b2] at hτ
    rw [b1, b2] at gv a10
    have r3 := zr_rel d4
    have e2 : ym_set 2 (wt ++ ym_C 2 rels orf op) (ym_B 2 done E rels orf L ++ out) = (if 1 < ym_grp ((orf, L, op, ym_fin wt out) :: rels) then [3] else [], ym_flat done ++ E ++ ym_A ((orf, L, op, ym_fin wt out) :: rels)) := by
      rw [ym_set_pre, (ym_set_all (by decide) wt (ym_C 2 rels orf op) out a4 hd).1, show ym_C 2 rels orf op = op :: ym_cx orf rels from rfl, ym_set_go (by rw [r3]; decide), ym_set_cx2, ← ym_A_join]
      rfl
    have e1 : ym_set 1 (wt ++ ym_C 2 rels orf op) (ym_B 2 done E rels orf L ++ out) = ([], ym_flat done ++ E ++ ym_O ((orf, L, op, ym_fin wt out) :: rels)) := by
      rw [ym_set_pre, (ym_set_all (by decide) wt (ym_C 2 rels orf op) out a4 hd).1, show ym_C 2 rels orf op = op :: ym_cx orf rels from rfl, ym_set_go (by rw [r3]; decide), ym_set_cx1, ← ym_O_join]
      rfl
    have hgp := ym_grp_pos hC (by simp)
    rcases hc with rfl | rfl | rfl
    · have hτ : τ = s2 (s2 (z_push (z_settle 2 (wt ++ ym_C 2 rels orf op).length σ1) 4) 0 4 2) 0 5 1 := hτ
      obtain ⟨z1, z2⟩ := zv_settle 2 _ _ _ gv (by omega)
      have hl := ym_set_len 2 (wt ++ ym_C 2 rels orf op) (ym_B 2 done E rels orf L ++ out)
      rw [e2] at z1 hl
      dsimp only at z1 hl
      obtain ⟨z3, z4⟩ := zv_push z1 (by omega) 4
      have zz := z2.trans z4
      generalize z_push (z_settle 2 (wt ++ ym_C 2 rels orf op).length σ1) 4 = τ0 at *
      show zr ((2, 1, tk + 1, gr), ([], []), (done, E, (orf, L, op, ym_fin wt out) :: rels), (false, [], 0)) τ ∧ _
      subst hτ
      refine ⟨⟨⟨rfl, fun _ => rfl, ?_, (zz.2.1 7 (by omega)).trans k7, (zz.2.1 8 (by omega)).trans g8⟩, ?_, (zz.2.2 8 (by omega)).trans g48, zl_keep (σ := σ1) (fun c c1 c2 => ((s1_ne _ _ (by omega)).trans (s1_ne _ _ (by omega))).trans (zz.1 c (by omega))) gzl, fun _ => ⟨(congrFun (zz.1 7 (by omega)) _).trans gc1, (congrFun (zz.1 8 (by omega)) _).trans gc2⟩, fun _ q => (congrFun (zz.1 9 (by omega)) _).trans gcc⟩, zz.1 2 (by omega), zz.1 3 (by omega)⟩
      · show τ0 0 6 = nI 0
        rw [zz.2.1 6 (by omega), g6, hd]
      · show zv _ ([] ++ ym_cx false ((orf, L, op, ym_fin wt out) :: rels)) (ym_flat done ++ (E ++ ym_A ((orf, L, op, ym_fin wt out) :: rels) ++ []))
        rw [List.append_nil, List.nil_append, ← List.append_assoc, ym_cx_eq]
        exact zv_same z3 rfl rfl rfl rfl rfl
    · have hτ : τ = s2 (s2 (z_push (z_settle 1 (wt ++ ym_C 2 rels orf op).length σ1) 3) 0 4 2) 0 5 1 := hτ
      obtain ⟨z1, z2⟩ := zv_settle 1 _ _ _ gv (by omega)
      rw [e1] at z1
      dsimp only at z1
      obtain ⟨z3, z4⟩ := zv_push z1 (by show 0 < 400; omega) 3
      have zz := z2.trans z4
      generalize z_push (z_settle 1 (wt ++ ym_C 2 rels orf op).length σ1) 3 = τ0 at *
      show zr ((2, 1, tk + 1, gr), ([], []), (done, E, (orf, L, op, ym_fin wt out) :: rels), (true, [], 0)) τ ∧ _
      subst hτ
      refine ⟨⟨⟨rfl, fun _ => rfl, ?_, (zz.2.1 7 (by omega)).trans k7, (zz.2.1 8 (by omega)).trans g8⟩, ?_, (zz.2.2 8 (by omega)).trans g48, zl_keep (σ := σ1) (fun c c1 c2 => ((s1_ne _ _ (by omega)).trans (s1_ne _ _ (by omega))).trans (zz.1 c (by omega))) gzl, fun _ => ⟨(congrFun (zz.1 7 (by omega)) _).trans gc1, (congrFun (zz.1 8 (by omega)) _).trans gc2⟩, fun _ q => (congrFun (zz.1 9 (by omega)) _).trans gcc⟩, zz.1 2 (by omega), zz.1 3 (by omega)⟩
      · show τ0 0 6 = nI 0
        rw [zz.2.1 6 (by omega), g6, hd]
      · show zv _ ([] ++ ym_cx true ((orf, L, op, ym_fin wt out) :: rels)) (ym_flat done ++ (E ++ ym_O ((orf, L, op, ym_fin wt out) :: rels) ++ []))
        rw [List.append_nil, List.nil_append, ← List.append_assoc, ym_cx_eq, if_pos rfl, if_pos rfl, if_pos (by omega)]
        exact zv_same z3 rfl rfl rfl rfl rfl
    · obtain ⟨z1, z2⟩ := zv_settle 1 _ _ _ gv (by omega)
      rw [e1] at z1
      dsimp only at z1
      have hτ : τ = s2 (z_end (if (z_settle 1 (wt ++ ym_C 2 rels orf op).length σ1) 0 5 = 0 then z_cond (z_settle 1 (wt ++ ym_C 2 rels orf op).length σ1) else z_settle 1 (wt ++ ym_C 2 rels orf op).length σ1)) 0 4 0 := hτ
      have f5 : ¬ (z_settle 1 (wt ++ ym_C 2 rels orf op).length σ1) 0 5 = 0 := by rw [z2.2.1 5 (by omega), g5]; decide
      rw [if_neg f5] at hτ
      have e9 : (z_settle 1 (wt ++ ym_C 2 rels orf op).length σ1) 4 8 - 1 = nI done.length := by rw [z2.2.2 8 (by omega), g48, if_neg (by omega), nI_pred]
      have gl := z1.2.2.1
      generalize z_settle 1 (wt ++ ym_C 2 rels orf op).length σ1 = τ0 at *
      have ed : z_end τ0 = s1 τ0 10 (upd (τ0 10) done.length (nI (ym_flat done ++ E ++ ym_O ((orf, L, op, ym_fin wt out) :: rels)).length)) := by
        show s1 _ 10 (putF 16 (τ0 10) (τ0 4 8 - 1) (τ0 4 7)) = _
        rw [e9, putF_nI _ _ hn (by omega), gl]
      rw [ed] at hτ
      show zr ((0, 2, tk + 1, gr), ([], []), (done ++ [(gr, E, (orf, L, op, ym_fin wt out) :: rels)], [], []), (true, [], 0)) τ ∧ _
      generalize (orf, L, op, ym_fin wt out) :: rels = R at *
      have ef : ym_flat (done ++ [(gr, E, R)]) = ym_flat done ++ E ++ ym_O R := by
        rw [ym_flat_app]
        show ym_flat done ++ ((E ++ ym_O R) ++ []) = _
        rw [List.append_nil, List.append_assoc]
      subst hτ
      refine ⟨⟨⟨rfl, fun z => absurd z (by omega), ?_, (z2.2.1 7 (by omega)).trans k7, (z2.2.1 8 (by omega)).trans g8⟩, ?_, ?_, ?_, fun z => absurd z (by omega), fun z => absurd z (by omega)⟩, z2.1 2 (by omega), z2.1 3 (by omega)⟩
      · show τ0 0 6 = nI 0
        rw [z2.2.1 6 (by omega), g6, hd]
      · show zv _ [] (ym_flat (done ++ [(gr, E, R)]) ++ [])
        rw [List.append_nil, ef]
        exact zv_same z1 rfl rfl rfl rfl rfl
      · show τ0 4 8 = nI ((done ++ [(gr, E, R)]).length + 0)
        rw [z2.2.2 8 (by omega), g48, if_neg (by omega), List.length_append]; rfl
      · refine zl_snoc _ done 0 0 (zl_same (σ := σ1) done 0 0 (fun j hj => ⟨congrFun (z2.1 7 (by omega)) _, congrFun (z2.1 8 (by omega)) _, congrFun (z2.1 9 (by omega)) _, (upd_ne (τ0 10) _ (by omega)).trans (congrFun (z2.1 10 (by omega)) _)⟩) gzl) ?_
        rw [Nat.zero_add, Nat.zero_add]
        refine ⟨(congrFun (z2.1 7 (by omega)) _).trans gc1, (congrFun (z2.1 8 (by omega)) _).trans gc2, (congrFun (z2.1 9 (by omega)) _).trans gcc, ?_⟩
        show upd (τ0 10) done.length _ done.length = _
        rw [upd_same, List.append_assoc, List.length_append]
        rfl
