theorem entA_mem (adr : Nat → Nat) : ∀ (args : List Value) (pre j : Nat) (u : Value), (args.flatMap (fun v => if v.category = 2 then [some v, none] else [some v]))[j]? = some (some u) → (pre + j, cV adr u) ∈ lv_args pre (args.map (cV adr))
  | [], pre, j, u, h => by simp at h
  | v :: vs, pre, j, u, h => by
    rw [List.flatMap_cons] at h
    show _ ∈ (pre, cV adr v) :: lv_args (if (cV adr v).category = 2 then pre + 2 else pre + 1) (vs.map (cV adr))
    rw [cV_cat]
    by_cases hc : v.category = 2
    · rw [if_pos hc] at h ⊢
      match j, h with
      | 0, h => cases h; exact List.mem_cons_self
      | 1, h => cases h
      | j + 2, h =>
        have := entA_mem adr vs (pre + 2) j u (by simpa using h)
        rw [show pre + (j + 2) = pre + 2 + j by omega]
        exact List.mem_cons_of_mem _ this
    · rw [if_neg hc] at h ⊢
      match j, h with
      | 0, h => cases h; exact List.mem_cons_self
      | j + 1, h =>
        have := entA_mem adr vs (pre + 1) j u (by simpa using h)
        rw [show pre + (j + 1) = pre + 1 + j by omega]
        exact List.mem_cons_of_mem _ this
theorem entL_has {adr : Nat → Nat} {args : List Value} {nL : Nat} : ∀ q ∈ lvl adr (entL nL args), q ∈ lv_args 0 (args.map (cV adr)) := by
  intro q hq
  obtain ⟨u, h1, h2⟩ := mem_lvl.mp hq
  have h3 : (args.flatMap (fun v => if v.category = 2 then [some v, none] else [some v]))[q.1]? = some (some u) := by
    unfold entL at h1
    dsimp only at h1
    rw [List.getElem?_append] at h1
    split at h1
    · exact h1
    · rw [List.getElem?_replicate] at h1
      split at h1 <;> cases h1
  have := entA_mem adr args 0 q.1 u h3
  rw [Nat.zero_add] at this
  rw [show q = (q.1, cV adr u) from Prod.ext rfl h2]
  exact this
theorem lg_len (adr : Nat → Nat) (args : List Value) : (lg_sl (args.map (cV adr))).length = (args.flatMap (fun v => if v.category = 2 then [some v, none] else [some v])).length := by
  induction args with
  | nil => rfl
  | cons v vs ih =>
    have h1 : lg_sl ((v :: vs).map (cV adr)) = (if (cV adr v).category = 2 then [.val (cV adr v), .second] else [.val (cV adr v)]) ++ lg_sl (vs.map (cV adr)) := rfl
    rw [h1, List.flatMap_cons, List.length_append, List.length_append, ih, cV_cat]
    by_cases hc : v.category = 2
    · rw [if_pos hc, if_pos hc]; rfl
    · rw [if_neg hc, if_neg hc]; rfl
/-- a method from its entry -/
theorem Ok.of {d : Nat} {y : MI} {args : List Value} {w : MW} {Q : Option Value → MW → Prop} {ls : List (Option Value)} (hy : plainName y.1.cls = true) (hn : (args.flatMap (fun v => if v.category = 2 then [some v, none] else [some v])).length ≤ y.2.2.1) (hls : entL y.2.2.1 args = ls) (k : Ev d y Q 0 ls [] w) : Ok d y args w Q := by
  intro l dC dI cA adr sz
  subst hls
  refine Met.ofW (cc := y.2.1) (maxL := y.2.2.1) (ret := y.2.2.2) hy rfl ?_
  intro p e s m av below meth c s₁ B hml hv
  obtain ⟨rfl, hsz, hN, hlen, hP, hK, hD, hX⟩ := hv
  have hts := atoms_spec (ws := wsM y) B.pre
  subst hsz
  rw [lg_entry_eq]
  refine k p l e s m _ below meth c dC dI cA adr (va_A (cw cA adr w) s.heap.size) w.length s.heap [] _ ⟨B.exec, B.bytes, B.returns, hml, findClass_of_methodNamed B.named, fun w hw => hts w (List.mem_cons_of_mem _ hw), B.notSynchronized, hK, fun q h => Or.inr h, hN⟩ ⟨rfl, hP, hD, va_S.rf, hX⟩ ?_
  exact lv_has.mono (lv_entry (args.map (cV adr)) (by rw [lg_len]; exact hn)) entL_has

theorem ev_iadd {d : Nat} {y : MI} {Q : Option Value → MW → Prop} {pc pc' : Nat} {ls : List (Option Value)} {st : List Value} {w : MW} {a b : Int32} (hd : decode y.2.1 pc = .ok (.iadd, 1)) (hpc : pc + 1 = pc') (k : Ev d y Q pc' ls (.int (a + b) :: st) w) : Ev d y Q pc ls (.int b :: .int a :: st) w := by
  subst hpc
  intro p l e s m args below meth c dC dI cA adr A n0 H locs L C h hl
  exact lv_iadd C.1 C.2.1 hd (k p l e s m args below meth c dC dI cA adr A n0 H locs L C h hl)

theorem ev_isub {d : Nat} {y : MI} {Q : Option Value → MW → Prop} {pc pc' : Nat} {ls : List (Option Value)} {st : List Value} {w : MW} {a b : Int32} (hd : decode y.2.1 pc = .ok (.isub, 1)) (hpc : pc + 1 = pc') (k : Ev d y Q pc' ls (.int (a - b) :: st) w) : Ev d y Q pc ls (.int b :: .int a :: st) w := by
  subst hpc
  intro p l e s m args below meth c dC dI cA adr A n0 H locs L C h hl
  exact lv_isub C.1 C.2.1 hd (k p l e s m args below meth c dC dI cA adr A n0 H locs L C h hl)

theorem ev_imul {d : Nat} {y : MI} {Q : Option Value → MW → Prop} {pc pc' : Nat} {ls : List (Option Value)} {st : List Value} {w : MW} {a b : Int32} (hd : decode y.2.1 pc = .ok (.imul, 1)) (hpc : pc + 1 = pc') (k : Ev d y Q pc' ls (.int (a * b) :: st) w) : Ev d y Q pc ls (.int b :: .int a :: st) w := by
  subst hpc
  intro p l e s m args below meth c dC dI cA adr A n0 H locs L C h hl
  exact lv_imul C.1 C.2.1 hd (k p l e s m args below meth c dC dI cA adr A n0 H locs L C h hl)

theorem ev_iand {d : Nat} {y : MI} {Q : Option Value → MW → Prop} {pc pc' : Nat} {ls : List (Option Value)} {st : List Value} {w : MW} {a b : Int32} (hd : decode y.2.1 pc = .ok (.iand, 1)) (hpc : pc + 1 = pc') (k : Ev d y Q pc' ls (.int (a &&& b) :: st) w) : Ev d y Q pc ls (.int b :: .int a :: st) w := by
  subst hpc
  intro p l e s m args below meth c dC dI cA adr A n0 H locs L C h hl
  exact lv_iand C.1 C.2.1 hd (k p l e s m args below meth c dC dI cA adr A n0 H locs L C h hl)

theorem ev_ior {d : Nat} {y : MI} {Q : Option Value → MW → Prop} {pc pc' : Nat} {ls : List (Option Value)} {st : List Value} {w : MW} {a b : Int32} (hd : decode y.2.1 pc = .ok (.ior, 1)) (hpc : pc + 1 = pc') (k : Ev d y Q pc' ls (.int (a ||| b) :: st) w) : Ev d y Q pc ls (.int b :: .int a :: st) w := by
  subst hpc
  intro p l e s m args below meth c dC dI cA adr A n0 H locs L C h hl
  exact lv_ior C.1 C.2.1 hd (k p l e s m args below meth c dC dI cA adr A n0 H locs L C h hl)

theorem ev_ixor {d : Nat} {y : MI} {Q : Option Value → MW → Prop} {pc pc' : Nat} {ls : List (Option Value)} {st : List Value} {w : MW} {a b : Int32} (hd : decode y.2.1 pc = .ok (.ixor, 1)) (hpc : pc + 1 = pc') (k : Ev d y Q pc' ls (.int (a ^^^ b) :: st) w) : Ev d y Q pc ls (.int b :: .int a :: st) w := by
  subst hpc
  intro p l e s m args below meth c dC dI cA adr A n0 H locs L C h hl
  exact lv_ixor C.1 C.2.1 hd (k p l e s m args below meth c dC dI cA adr A n0 H locs L C h hl)

theorem ev_ishl {d : Nat} {y : MI} {Q : Option Value → MW → Prop} {pc pc' : Nat} {ls : List (Option Value)} {st : List Value} {w : MW} {a b : Int32} (hd : decode y.2.1 pc = .ok (.ishl, 1)) (hpc : pc + 1 = pc') (k : Ev d y Q pc' ls (.int (a <<< (b &&& 31)) :: st) w) : Ev d y Q pc ls (.int b :: .int a :: st) w := by
  subst hpc
  intro p l e s m args below meth c dC dI cA adr A n0 H locs L C h hl
  exact lv_ishl C.1 C.2.1 hd (k p l e s m args below meth c dC dI cA adr A n0 H locs L C h hl)

theorem ev_ishr {d : Nat} {y : MI} {Q : Option Value → MW → Prop} {pc pc' : Nat} {ls : List (Option Value)} {st : List Value} {w : MW} {a b : Int32} (hd : decode y.2.1 pc = .ok (.ishr, 1)) (hpc : pc + 1 = pc') (k : Ev d y Q pc' ls (.int (a >>> (b &&& 31)) :: st) w) : Ev d y Q pc ls (.int b :: .int a :: st) w := by
  subst hpc
  intro p l e s m args below meth c dC dI cA adr A n0 H locs L C h hl
  exact lv_ishr C.1 C.2.1 hd (k p l e s m args below meth c dC dI cA adr A n0 H locs L C h hl)

theorem ev_idiv {d : Nat} {y : MI} {Q : Option Value → MW → Prop} {pc pc' : Nat} {ls : List (Option Value)} {st : List Value} {w : MW} {a b : Int32} (hd : decode y.2.1 pc = .ok (.idiv, 1)) (hpc : pc + 1 = pc') (hz : ¬ b = 0) (k : Ev d y Q pc' ls (.int (a / b) :: st) w) : Ev d y Q pc ls (.int b :: .int a :: st) w := by
  subst hpc
  intro p l e s m args below meth c dC dI cA adr A n0 H locs L C h hl
  exact lv_idiv C.1 C.2.1 hd hz (k p l e s m args below meth c dC dI cA adr A n0 H locs L C h hl)

theorem ev_irem {d : Nat} {y : MI} {Q : Option Value → MW → Prop} {pc pc' : Nat} {ls : List (Option Value)} {st : List Value} {w : MW} {a b : Int32} (hd : decode y.2.1 pc = .ok (.irem, 1)) (hpc : pc + 1 = pc') (hz : ¬ b = 0) (k : Ev d y Q pc' ls (.int (a - a / b * b) :: st) w) : Ev d y Q pc ls (.int b :: .int a :: st) w := by
  subst hpc
  intro p l e s m args below meth c dC dI cA adr A n0 H locs L C h hl
  exact lv_irem C.1 C.2.1 hd hz (k p l e s m args below meth c dC dI cA adr A n0 H locs L C h hl)

theorem ev_ladd {d : Nat} {y : MI} {Q : Option Value → MW → Prop} {pc pc' : Nat} {ls : List (Option Value)} {st : List Value} {w : MW} {a b : Int64} (hd : decode y.2.1 pc = .ok (.ladd, 1)) (hpc : pc + 1 = pc') (k : Ev d y Q pc' ls (.long (a + b) :: st) w) : Ev d y Q pc ls (.long b :: .long a :: st) w := by
  subst hpc
  intro p l e s m args below meth c dC dI cA adr A n0 H locs L C h hl
  exact lv_ladd C.1 C.2.1 hd (k p l e s m args below meth c dC dI cA adr A n0 H locs L C h hl)

theorem ev_lmul {d : Nat} {y : MI} {Q : Option Value → MW → Prop} {pc pc' : Nat} {ls : List (Option Value)} {st : List Value} {w : MW} {a b : Int64} (hd : decode y.2.1 pc = .ok (.lmul, 1)) (hpc : pc + 1 = pc') (k : Ev d y Q pc' ls (.long (a * b) :: st) w) : Ev d y Q pc ls (.long b :: .long a :: st) w := by
  subst hpc
  intro p l e s m args below meth c dC dI cA adr A n0 H locs L C h hl
  exact lv_lmul C.1 C.2.1 hd (k p l e s m args below meth c dC dI cA adr A n0 H locs L C h hl)

theorem ev_lcmp {d : Nat} {y : MI} {Q : Option Value → MW → Prop} {pc pc' : Nat} {ls : List (Option Value)} {st : List Value} {w : MW} {a b : Int64} (hd : decode y.2.1 pc = .ok (.lcmp, 1)) (hpc : pc + 1 = pc') (k : Ev d y Q pc' ls (.int (lg_cmp a b) :: st) w) : Ev d y Q pc ls (.long b :: .long a :: st) w := by
  subst hpc
  intro p l e s m args below meth c dC dI cA adr A n0 H locs L C h hl
  exact W.lcmp C.1 C.2.1 hd (k p l e s m args below meth c dC dI cA adr A n0 H locs L C h hl)

theorem ev_i2l {d : Nat} {y : MI} {Q : Option Value → MW → Prop} {pc pc' : Nat} {ls : List (Option Value)} {st : List Value} {w : MW} {a : Int32} (hd : decode y.2.1 pc = .ok (.i2l, 1)) (hpc : pc + 1 = pc') (k : Ev d y Q pc' ls (.long a.toInt64 :: st) w) : Ev d y Q pc ls (.int a :: st) w := by
  subst hpc
  intro p l e s m args below meth c dC dI cA adr A n0 H locs L C h hl
  exact lv_i2l C.1 C.2.1 hd rfl (k p l e s m args below meth c dC dI cA adr A n0 H locs L C h hl)

theorem ev_i2c {d : Nat} {y : MI} {Q : Option Value → MW → Prop} {pc pc' : Nat} {ls : List (Option Value)} {st : List Value} {w : MW} {a : Int32} (hd : decode y.2.1 pc = .ok (.i2c, 1)) (hpc : pc + 1 = pc') (k : Ev d y Q pc' ls (.int (a.toUInt32 % 65536).toInt32 :: st) w) : Ev d y Q pc ls (.int a :: st) w := by
  subst hpc
  intro p l e s m args below meth c dC dI cA adr A n0 H locs L C h hl
  exact lv_i2c C.1 C.2.1 hd rfl (k p l e s m args below meth c dC dI cA adr A n0 H locs L C h hl)

theorem ev_i2b {d : Nat} {y : MI} {Q : Option Value → MW → Prop} {pc pc' : Nat} {ls : List (Option Value)} {st : List Value} {w : MW} {a : Int32} (hd : decode y.2.1 pc = .ok (.i2b, 1)) (hpc : pc + 1 = pc') (k : Ev d y Q pc' ls (.int a.toInt8.toInt32 :: st) w) : Ev d y Q pc ls (.int a :: st) w := by
  subst hpc
  intro p l e s m args below meth c dC dI cA adr A n0 H locs L C h hl
  exact lv_i2b C.1 C.2.1 hd rfl (k p l e s m args below meth c dC dI cA adr A n0 H locs L C h hl)

theorem ev_iconst {d : Nat} {y : MI} {Q : Option Value → MW → Prop} {pc pc' : Nat} {ls : List (Option Value)} {st : List Value} {w : MW} {n : Int} {v : Int32} (hd : decode y.2.1 pc = .ok (.iconst n, 1)) (hpc : pc + 1 = pc') (hv : Int32.ofInt n = v) (k : Ev d y Q pc' ls (.int v :: st) w) : Ev d y Q pc ls (st) w := by
  subst hpc
  intro p l e s m args below meth c dC dI cA adr A n0 H locs L C h hl
  exact lv_iconst C.1 C.2.1 hd hv (k p l e s m args below meth c dC dI cA adr A n0 H locs L C h hl)

theorem ev_bipush {d : Nat} {y : MI} {Q : Option Value → MW → Prop} {pc pc' : Nat} {ls : List (Option Value)} {st : List Value} {w : MW} {n : Int} {v : Int32} (hd : decode y.2.1 pc = .ok (.bipush n, 2)) (hpc : pc + 2 = pc') (hv : (Int8.ofInt n).toInt32 = v) (k : Ev d y Q pc' ls (.int v :: st) w) : Ev d y Q pc ls (st) w := by
  subst hpc
  intro p l e s m args below meth c dC dI cA adr A n0 H locs L C h hl
  exact lv_bipush C.1 C.2.1 hd hv (k p l e s m args below meth c dC dI cA adr A n0 H locs L C h hl)

theorem ev_sipush {d : Nat} {y : MI} {Q : Option Value → MW → Prop} {pc pc' : Nat} {ls : List (Option Value)} {st : List Value} {w : MW} {n : Int} {v : Int32} (hd : decode y.2.1 pc = .ok (.sipush n, 3)) (hpc : pc + 3 = pc') (hv : (Int16.ofInt n).toInt32 = v) (k : Ev d y Q pc' ls (.int v :: st) w) : Ev d y Q pc ls (st) w := by
  subst hpc
  intro p l e s m args below meth c dC dI cA adr A n0 H locs L C h hl
  exact lv_sipush C.1 C.2.1 hd hv (k p l e s m args below meth c dC dI cA adr A n0 H locs L C h hl)

theorem ev_lconst {d : Nat} {y : MI} {Q : Option Value → MW → Prop} {pc pc' : Nat} {ls : List (Option Value)} {st : List Value} {w : MW} {n : Fin 2} {v : Int64} (hd : decode y.2.1 pc = .ok (.lconst n, 1)) (hpc : pc + 1 = pc') (hv : Int64.ofNat (n : Nat) = v) (k : Ev d y Q pc' ls (.long v :: st) w) : Ev d y Q pc ls (st) w := by
  subst hpc
  intro p l e s m args below meth c dC dI cA adr A n0 H locs L C h hl
  exact lv_lconst C.1 C.2.1 hd hv (k p l e s m args below meth c dC dI cA adr A n0 H locs L C h hl)

theorem ev_dup {d : Nat} {y : MI} {Q : Option Value → MW → Prop} {pc pc' : Nat} {ls : List (Option Value)} {st : List Value} {w : MW} {a : Value} (hd : decode y.2.1 pc = .ok (.dup, 1)) (hpc : pc + 1 = pc') (ha : a.category = 1) (k : Ev d y Q pc' ls (a :: a :: st) w) : Ev d y Q pc ls (a :: st) w := by
  subst hpc
  intro p l e s m args below meth c dC dI cA adr A n0 H locs L C h hl
  exact lv_dup C.1 C.2.1 hd (by rw [cV_cat]; exact ha) (k p l e s m args below meth c dC dI cA adr A n0 H locs L C h hl)

theorem ev_pop {d : Nat} {y : MI} {Q : Option Value → MW → Prop} {pc pc' : Nat} {ls : List (Option Value)} {st : List Value} {w : MW} {a : Value} (hd : decode y.2.1 pc = .ok (.pop, 1)) (hpc : pc + 1 = pc') (ha : a.category = 1) (k : Ev d y Q pc' ls (st) w) : Ev d y Q pc ls (a :: st) w := by
  subst hpc
  intro p l e s m args below meth c dC dI cA adr A n0 H locs L C h hl
  exact lv_pop C.1 C.2.1 hd (by rw [cV_cat]; exact ha) (k p l e s m args below meth c dC dI cA adr A n0 H locs L C h hl)

theorem ev_dup2 {d : Nat} {y : MI} {Q : Option Value → MW → Prop} {pc pc' : Nat} {ls : List (Option Value)} {st : List Value} {w : MW} {a b : Value} (hd : decode y.2.1 pc = .ok (.dup2, 1)) (hpc : pc + 1 = pc') (ha : a.category = 1) (hb : b.category = 1) (k : Ev d y Q pc' ls (b :: a :: b :: a :: st) w) : Ev d y Q pc ls (b :: a :: st) w := by
  subst hpc
  intro p l e s m args below meth c dC dI cA adr A n0 H locs L C h hl
  exact lv_dup2_11 C.1 C.2.1 hd (by rw [cV_cat]; exact hb) (by rw [cV_cat]; exact ha) (k p l e s m args below meth c dC dI cA adr A n0 H locs L C h hl)

theorem ev_ldc {d : Nat} {y : MI} {Q : Option Value → MW → Prop} {pc pc' : Nat} {ls : List (Option Value)} {st : List Value} {w : MW} {idx : Nat} {v : Int32} (hc : Jvm.Cond.constant y.1.cls idx v ∈ gtbl) (hd : decode y.2.1 pc = .ok (.ldc idx, 2)) (hpc : pc + 2 = pc') (k : Ev d y Q pc' ls (.int v :: st) w) : Ev d y Q pc ls (st) w := by
  subst hpc
  intro p l e s m args below meth c dC dI cA adr A n0 H locs L C h hl
  exact lv_ldc C.1 C.2.1 C.2.2.2.2.1 (C.2.2.2.2.2.1 _ hc) hd (k p l e s m args below meth c dC dI cA adr A n0 H locs L C h hl)

theorem ev_ldc_w {d : Nat} {y : MI} {Q : Option Value → MW → Prop} {pc pc' : Nat} {ls : List (Option Value)} {st : List Value} {w : MW} {idx : Nat} {v : Int32} (hc : Jvm.Cond.constant y.1.cls idx v ∈ gtbl) (hd : decode y.2.1 pc = .ok (.ldc_w idx, 3)) (hpc : pc + 3 = pc') (k : Ev d y Q pc' ls (.int v :: st) w) : Ev d y Q pc ls (st) w := by
  subst hpc
  intro p l e s m args below meth c dC dI cA adr A n0 H locs L C h hl
  exact lv_ldcw C.1 C.2.1 C.2.2.2.2.1 (C.2.2.2.2.2.1 _ hc) hd (k p l e s m args below meth c dC dI cA adr A n0 H locs L C h hl)

theorem ev_ldc2_w {d : Nat} {y : MI} {Q : Option Value → MW → Prop} {pc pc' : Nat} {ls : List (Option Value)} {st : List Value} {w : MW} {idx : Nat} {v : Int64} (hc : Jvm.Cond.constantLong y.1.cls idx v ∈ gtbl) (hd : decode y.2.1 pc = .ok (.ldc2_w idx, 3)) (hpc : pc + 3 = pc') (k : Ev d y Q pc' ls (.long v :: st) w) : Ev d y Q pc ls (st) w := by
  subst hpc
  intro p l e s m args below meth c dC dI cA adr A n0 H locs L C h hl
  exact lv_ldc2 C.1 C.2.1 C.2.2.2.2.1 (C.2.2.2.2.2.1 _ hc) hd (k p l e s m args below meth c dC dI cA adr A n0 H locs L C h hl)

theorem ev_iload_n {d : Nat} {y : MI} {Q : Option Value → MW → Prop} {pc pc' : Nat} {ls : List (Option Value)} {st : List Value} {w : MW} {i : Fin 4} {x : Int32} (hd : decode y.2.1 pc = .ok (.iload_n i, 1)) (hpc : pc + 1 = pc') (hi : ls[(i : Nat)]? = some (some (.int x))) (k : Ev d y Q pc' ls (.int x :: st) w) : Ev d y Q pc ls (st) w := by
  subst hpc
  intro p l e s m args below meth c dC dI cA adr A n0 H locs L C h hl
  exact lv_iload_n C.1 C.2.1 hd rfl (hl.at hi) (k p l e s m args below meth c dC dI cA adr A n0 H locs L C h hl)

theorem ev_iload {d : Nat} {y : MI} {Q : Option Value → MW → Prop} {pc pc' : Nat} {ls : List (Option Value)} {st : List Value} {w : MW} {i : Nat} {x : Int32} (hd : decode y.2.1 pc = .ok (.iload i, 2)) (hpc : pc + 2 = pc') (hi : ls[i]? = some (some (.int x))) (k : Ev d y Q pc' ls (.int x :: st) w) : Ev d y Q pc ls (st) w := by
  subst hpc
  intro p l e s m args below meth c dC dI cA adr A n0 H locs L C h hl
  exact lv_iload C.1 C.2.1 hd (hl.at hi) (k p l e s m args below meth c dC dI cA adr A n0 H locs L C h hl)

theorem ev_aload_n {d : Nat} {y : MI} {Q : Option Value → MW → Prop} {pc pc' : Nat} {ls : List (Option Value)} {st : List Value} {w : MW} {i : Fin 4} {x : Nat} (hd : decode y.2.1 pc = .ok (.aload_n i, 1)) (hpc : pc + 1 = pc') (hi : ls[(i : Nat)]? = some (some (.ref x))) (k : Ev d y Q pc' ls (.ref x :: st) w) : Ev d y Q pc ls (st) w := by
  subst hpc
  intro p l e s m args below meth c dC dI cA adr A n0 H locs L C h hl
  exact lv_aload_n C.1 C.2.1 hd rfl (hl.at hi) (k p l e s m args below meth c dC dI cA adr A n0 H locs L C h hl)

theorem ev_aload {d : Nat} {y : MI} {Q : Option Value → MW → Prop} {pc pc' : Nat} {ls : List (Option Value)} {st : List Value} {w : MW} {i : Nat} {x : Nat} (hd : decode y.2.1 pc = .ok (.aload i, 2)) (hpc : pc + 2 = pc') (hi : ls[i]? = some (some (.ref x))) (k : Ev d y Q pc' ls (.ref x :: st) w) : Ev d y Q pc ls (st) w := by
  subst hpc
  intro p l e s m args below meth c dC dI cA adr A n0 H locs L C h hl
  exact lv_aload C.1 C.2.1 hd (hl.at hi) (k p l e s m args below meth c dC dI cA adr A n0 H locs L C h hl)

theorem ev_lload_n {d : Nat} {y : MI} {Q : Option Value → MW → Prop} {pc pc' : Nat} {ls : List (Option Value)} {st : List Value} {w : MW} {i : Fin 4} {x : Int64} (hd : decode y.2.1 pc = .ok (.lload_n i, 1)) (hpc : pc + 1 = pc') (hi : ls[(i : Nat)]? = some (some (.long x))) (k : Ev d y Q pc' ls (.long x :: st) w) : Ev d y Q pc ls (st) w := by
  subst hpc
  intro p l e s m args below meth c dC dI cA adr A n0 H locs L C h hl
  exact lv_lload_n C.1 C.2.1 hd rfl (hl.at hi) (k p l e s m args below meth c dC dI cA adr A n0 H locs L C h hl)

theorem ev_lload {d : Nat} {y : MI} {Q : Option Value → MW → Prop} {pc pc' : Nat} {ls : List (Option Value)} {st : List Value} {w : MW} {i : Nat} {x : Int64} (hd : decode y.2.1 pc = .ok (.lload i, 2)) (hpc : pc + 2 = pc') (hi : ls[i]? = some (some (.long x))) (k : Ev d y Q pc' ls (.long x :: st) w) : Ev d y Q pc ls (st) w := by
  subst hpc
  intro p l e s m args below meth c dC dI cA adr A n0 H locs L C h hl
  exact lv_lload C.1 C.2.1 hd (hl.at hi) (k p l e s m args below meth c dC dI cA adr A n0 H locs L C h hl)

theorem ev_istore_n {d : Nat} {y : MI} {Q : Option Value → MW → Prop} {pc pc' : Nat} {ls : List (Option Value)} {st : List Value} {w : MW} {i : Fin 4} {x : Int32} {ls' : List (Option Value)} (hd : decode y.2.1 pc = .ok (.istore_n i, 1)) (hpc : pc + 1 = pc') (hc : (ck ls (i : Nat) && decide ((i : Nat) < y.2.2.1)) = true) (hs : ls.set (i : Nat) (some (.int x)) = ls') (k : Ev d y Q pc' ls' (st) w) : Ev d y Q pc ls (.int x :: st) w := by
  subst hpc; subst hs
  rw [Bool.and_eq_true, decide_eq_true_eq] at hc
  intro p l e s m args below meth c dC dI cA adr A n0 H locs L C h hl
  exact lv_istore_n C.1 C.2.1 hd rfl hl hc.2 rfl (fun L' hl' => k p l e s m args below meth c dC dI cA adr A n0 H locs L' C h (lv_has.mono hl' (stl_sub hc.1)))

theorem ev_istore {d : Nat} {y : MI} {Q : Option Value → MW → Prop} {pc pc' : Nat} {ls : List (Option Value)} {st : List Value} {w : MW} {i : Nat} {x : Int32} {ls' : List (Option Value)} (hd : decode y.2.1 pc = .ok (.istore i, 2)) (hpc : pc + 2 = pc') (hc : (ck ls i && decide (i < y.2.2.1)) = true) (hs : ls.set i (some (.int x)) = ls') (k : Ev d y Q pc' ls' (st) w) : Ev d y Q pc ls (.int x :: st) w := by
  subst hpc; subst hs
  rw [Bool.and_eq_true, decide_eq_true_eq] at hc
  intro p l e s m args below meth c dC dI cA adr A n0 H locs L C h hl
  exact lv_istore C.1 C.2.1 hd hl hc.2 rfl (fun L' hl' => k p l e s m args below meth c dC dI cA adr A n0 H locs L' C h (lv_has.mono hl' (stl_sub hc.1)))

theorem ev_astore_n {d : Nat} {y : MI} {Q : Option Value → MW → Prop} {pc pc' : Nat} {ls : List (Option Value)} {st : List Value} {w : MW} {i : Fin 4} {x : Nat} {ls' : List (Option Value)} (hd : decode y.2.1 pc = .ok (.astore_n i, 1)) (hpc : pc + 1 = pc') (hc : (ck ls (i : Nat) && decide ((i : Nat) < y.2.2.1)) = true) (hs : ls.set (i : Nat) (some (.ref x)) = ls') (k : Ev d y Q pc' ls' (st) w) : Ev d y Q pc ls (.ref x :: st) w := by
  subst hpc; subst hs
  rw [Bool.and_eq_true, decide_eq_true_eq] at hc
  intro p l e s m args below meth c dC dI cA adr A n0 H locs L C h hl
  exact lv_astore_n C.1 C.2.1 hd rfl hl hc.2 rfl (fun L' hl' => k p l e s m args below meth c dC dI cA adr A n0 H locs L' C h (lv_has.mono hl' (stl_sub hc.1)))

theorem ev_astore {d : Nat} {y : MI} {Q : Option Value → MW → Prop} {pc pc' : Nat} {ls : List (Option Value)} {st : List Value} {w : MW} {i : Nat} {x : Nat} {ls' : List (Option Value)} (hd : decode y.2.1 pc = .ok (.astore i, 2)) (hpc : pc + 2 = pc') (hc : (ck ls i && decide (i < y.2.2.1)) = true) (hs : ls.set i (some (.ref x)) = ls') (k : Ev d y Q pc' ls' (st) w) : Ev d y Q pc ls (.ref x :: st) w := by
  subst hpc; subst hs
  rw [Bool.and_eq_true, decide_eq_true_eq] at hc
  intro p l e s m args below meth c dC dI cA adr A n0 H locs L C h hl
  exact lv_astore C.1 C.2.1 hd hl hc.2 rfl (fun L' hl' => k p l e s m args below meth c dC dI cA adr A n0 H locs L' C h (lv_has.mono hl' (stl_sub hc.1)))

theorem ev_lstore {d : Nat} {y : MI} {Q : Option Value → MW → Prop} {pc pc' : Nat} {ls : List (Option Value)} {st : List Value} {w : MW} {i : Nat} {x : Int64} {ls' : List (Option Value)} (hd : decode y.2.1 pc = .ok (.lstore i, 2)) (hpc : pc + 2 = pc') (hc : (ck ls i && decide (i + 1 < y.2.2.1)) = true) (hs : (ls.set i (some (.long x))).set (i + 1) none = ls') (k : Ev d y Q pc' ls' (st) w) : Ev d y Q pc ls (.long x :: st) w := by
  subst hpc; subst hs
  rw [Bool.and_eq_true, decide_eq_true_eq] at hc
  intro p l e s m args below meth c dC dI cA adr A n0 H locs L C h hl
  exact lv_lstore C.1 C.2.1 hd hl hc.2 rfl (fun L' hl' => k p l e s m args below meth c dC dI cA adr A n0 H locs L' C h (lv_has.mono hl' (stl2_sub hc.1)))

theorem ev_iinc {d : Nat} {y : MI} {Q : Option Value → MW → Prop} {pc pc' : Nat} {ls : List (Option Value)} {st : List Value} {w : MW} {i : Nat} {n : Int} {x v : Int32} {ls' : List (Option Value)} (hd : decode y.2.1 pc = .ok (.iinc i n, 3)) (hpc : pc + 3 = pc') (hc : (ck ls i && decide (i < y.2.2.1)) = true) (hx : ls[i]? = some (some (.int x))) (hv : x + Int32.ofInt n = v) (hs : ls.set i (some (.int v)) = ls') (k : Ev d y Q pc' ls' (st) w) : Ev d y Q pc ls (st) w := by
  subst hpc; subst hs
  rw [Bool.and_eq_true, decide_eq_true_eq] at hc
  intro p l e s m args below meth c dC dI cA adr A n0 H locs L C h hl
  obtain ⟨j, hj⟩ := List.getElem?_of_mem (mem_lvl (adr := adr) (q := (i, .int x)).mpr ⟨.int x, hx, rfl⟩)
  exact lv_iinc C.1 C.2.1 hd hl hj hv hc.2 rfl (fun L' hl' => k p l e s m args below meth c dC dI cA adr A n0 H locs L' C h (lv_has.mono hl' (stl_sub hc.1)))

theorem ev_icmp_eq {d : Nat} {y : MI} {Q : Option Value → MW → Prop} {pc pc' : Nat} {ls : List (Option Value)} {st : List Value} {w : MW} {a b : Int32} {off : Int} {tgt : Nat} (hd : decode y.2.1 pc = .ok (.if_icmp .eq off, 3)) (ht : (pc : Int) + off = (tgt : Int)) (hpc : pc + 3 = pc') (kt : a = b → Ev d y Q tgt ls (st) w) (kf : ¬ a = b → Ev d y Q pc' ls (st) w) : Ev d y Q pc ls (.int b :: .int a :: st) w := by
  subst hpc
  intro p l e s m args below meth c dC dI cA adr A n0 H locs L C h hl
  exact lv_icmp_eq C.1 C.2.1 hd ht (fun q => kt q p l e s m args below meth c dC dI cA adr A n0 H locs L C h hl) (fun q => kf q p l e s m args below meth c dC dI cA adr A n0 H locs L C h hl)

theorem ev_if_eq {d : Nat} {y : MI} {Q : Option Value → MW → Prop} {pc pc' : Nat} {ls : List (Option Value)} {st : List Value} {w : MW} {a : Int32} {off : Int} {tgt : Nat} (hd : decode y.2.1 pc = .ok (.ifCond .eq off, 3)) (ht : (pc : Int) + off = (tgt : Int)) (hpc : pc + 3 = pc') (kt : a = 0 → Ev d y Q tgt ls (st) w) (kf : ¬ a = 0 → Ev d y Q pc' ls (st) w) : Ev d y Q pc ls (.int a :: st) w := by
  subst hpc
  intro p l e s m args below meth c dC dI cA adr A n0 H locs L C h hl
  exact lv_if_eq C.1 C.2.1 hd ht (fun q => kt q p l e s m args below meth c dC dI cA adr A n0 H locs L C h hl) (fun q => kf q p l e s m args below meth c dC dI cA adr A n0 H locs L C h hl)

theorem ev_icmp_ne {d : Nat} {y : MI} {Q : Option Value → MW → Prop} {pc pc' : Nat} {ls : List (Option Value)} {st : List Value} {w : MW} {a b : Int32} {off : Int} {tgt : Nat} (hd : decode y.2.1 pc = .ok (.if_icmp .ne off, 3)) (ht : (pc : Int) + off = (tgt : Int)) (hpc : pc + 3 = pc') (kt : ¬ a = b → Ev d y Q tgt ls (st) w) (kf : a = b → Ev d y Q pc' ls (st) w) : Ev d y Q pc ls (.int b :: .int a :: st) w := by
  subst hpc
  intro p l e s m args below meth c dC dI cA adr A n0 H locs L C h hl
  exact lv_icmp_ne C.1 C.2.1 hd ht (fun q => kt q p l e s m args below meth c dC dI cA adr A n0 H locs L C h hl) (fun q => kf q p l e s m args below meth c dC dI cA adr A n0 H locs L C h hl)

theorem ev_if_ne {d : Nat} {y : MI} {Q : Option Value → MW → Prop} {pc pc' : Nat} {ls : List (Option Value)} {st : List Value} {w : MW} {a : Int32} {off : Int} {tgt : Nat} (hd : decode y.2.1 pc = .ok (.ifCond .ne off, 3)) (ht : (pc : Int) + off = (tgt : Int)) (hpc : pc + 3 = pc') (kt : ¬ a = 0 → Ev d y Q tgt ls (st) w) (kf : a = 0 → Ev d y Q pc' ls (st) w) : Ev d y Q pc ls (.int a :: st) w := by
  subst hpc
  intro p l e s m args below meth c dC dI cA adr A n0 H locs L C h hl
  exact lv_if_ne C.1 C.2.1 hd ht (fun q => kt q p l e s m args below meth c dC dI cA adr A n0 H locs L C h hl) (fun q => kf q p l e s m args below meth c dC dI cA adr A n0 H locs L C h hl)

theorem ev_icmp_lt {d : Nat} {y : MI} {Q : Option Value → MW → Prop} {pc pc' : Nat} {ls : List (Option Value)} {st : List Value} {w : MW} {a b : Int32} {off : Int} {tgt : Nat} (hd : decode y.2.1 pc = .ok (.if_icmp .lt off, 3)) (ht : (pc : Int) + off = (tgt : Int)) (hpc : pc + 3 = pc') (kt : a < b → Ev d y Q tgt ls (st) w) (kf : ¬ a < b → Ev d y Q pc' ls (st) w) : Ev d y Q pc ls (.int b :: .int a :: st) w := by
  subst hpc
  intro p l e s m args below meth c dC dI cA adr A n0 H locs L C h hl
  exact lv_icmp_lt C.1 C.2.1 hd ht (fun q => kt q p l e s m args below meth c dC dI cA adr A n0 H locs L C h hl) (fun q => kf q p l e s m args below meth c dC dI cA adr A n0 H locs L C h hl)

theorem ev_if_lt {d : Nat} {y : MI} {Q : Option Value → MW → Prop} {pc pc' : Nat} {ls : List (Option Value)} {st : List Value} {w : MW} {a : Int32} {off : Int} {tgt : Nat} (hd : decode y.2.1 pc = .ok (.ifCond .lt off, 3)) (ht : (pc : Int) + off = (tgt : Int)) (hpc : pc + 3 = pc') (kt : a < 0 → Ev d y Q tgt ls (st) w) (kf : ¬ a < 0 → Ev d y Q pc' ls (st) w) : Ev d y Q pc ls (.int a :: st) w := by
  subst hpc
  intro p l e s m args below meth c dC dI cA adr A n0 H locs L C h hl
  exact lv_if_lt C.1 C.2.1 hd ht (fun q => kt q p l e s m args below meth c dC dI cA adr A n0 H locs L C h hl) (fun q => kf q p l e s m args below meth c dC dI cA adr A n0 H locs L C h hl)

theorem ev_icmp_ge {d : Nat} {y : MI} {Q : Option Value → MW → Prop} {pc pc' : Nat} {ls : List (Option Value)} {st : List Value} {w : MW} {a b : Int32} {off : Int} {tgt : Nat} (hd : decode y.2.1 pc = .ok (.if_icmp .ge off, 3)) (ht : (pc : Int) + off = (tgt : Int)) (hpc : pc + 3 = pc') (kt : b ≤ a → Ev d y Q tgt ls (st) w) (kf : ¬ b ≤ a → Ev d y Q pc' ls (st) w) : Ev d y Q pc ls (.int b :: .int a :: st) w := by
  subst hpc
  intro p l e s m args below meth c dC dI cA adr A n0 H locs L C h hl
  exact lv_icmp_ge C.1 C.2.1 hd ht (fun q => kt q p l e s m args below meth c dC dI cA adr A n0 H locs L C h hl) (fun q => kf q p l e s m args below meth c dC dI cA adr A n0 H locs L C h hl)

theorem ev_if_ge {d : Nat} {y : MI} {Q : Option Value → MW → Prop} {pc pc' : Nat} {ls : List (Option Value)} {st : List Value} {w : MW} {a : Int32} {off : Int} {tgt : Nat} (hd : decode y.2.1 pc = .ok (.ifCond .ge off, 3)) (ht : (pc : Int) + off = (tgt : Int)) (hpc : pc + 3 = pc') (kt : 0 ≤ a → Ev d y Q tgt ls (st) w) (kf : ¬ 0 ≤ a → Ev d y Q pc' ls (st) w) : Ev d y Q pc ls (.int a :: st) w := by
  subst hpc
  intro p l e s m args below meth c dC dI cA adr A n0 H locs L C h hl
  exact lv_if_ge C.1 C.2.1 hd ht (fun q => kt q p l e s m args below meth c dC dI cA adr A n0 H locs L C h hl) (fun q => kf q p l e s m args below meth c dC dI cA adr A n0 H locs L C h hl)

theorem ev_icmp_gt {d : Nat} {y : MI} {Q : Option Value → MW → Prop} {pc pc' : Nat} {ls : List (Option Value)} {st : List Value} {w : MW} {a b : Int32} {off : Int} {tgt : Nat} (hd : decode y.2.1 pc = .ok (.if_icmp .gt off, 3)) (ht : (pc : Int) + off = (tgt : Int)) (hpc : pc + 3 = pc') (kt : b < a → Ev d y Q tgt ls (st) w) (kf : ¬ b < a → Ev d y Q pc' ls (st) w) : Ev d y Q pc ls (.int b :: .int a :: st) w := by
  subst hpc
  intro p l e s m args below meth c dC dI cA adr A n0 H locs L C h hl
  exact lv_icmp_gt C.1 C.2.1 hd ht (fun q => kt q p l e s m args below meth c dC dI cA adr A n0 H locs L C h hl) (fun q => kf q p l e s m args below meth c dC dI cA adr A n0 H locs L C h hl)

theorem ev_if_gt {d : Nat} {y : MI} {Q : Option Value → MW → Prop} {pc pc' : Nat} {ls : List (Option Value)} {st : List Value} {w : MW} {a : Int32} {off : Int} {tgt : Nat} (hd : decode y.2.1 pc = .ok (.ifCond .gt off, 3)) (ht : (pc : Int) + off = (tgt : Int)) (hpc : pc + 3 = pc') (kt : 0 < a → Ev d y Q tgt ls (st) w) (kf : ¬ 0 < a → Ev d y Q pc' ls (st) w) : Ev d y Q pc ls (.int a :: st) w := by
  subst hpc
  intro p l e s m args below meth c dC dI cA adr A n0 H locs L C h hl
  exact lv_if_gt C.1 C.2.1 hd ht (fun q => kt q p l e s m args below meth c dC dI cA adr A n0 H locs L C h hl) (fun q => kf q p l e s m args below meth c dC dI cA adr A n0 H locs L C h hl)

theorem ev_icmp_le {d : Nat} {y : MI} {Q : Option Value → MW → Prop} {pc pc' : Nat} {ls : List (Option Value)} {st : List Value} {w : MW} {a b : Int32} {off : Int} {tgt : Nat} (hd : decode y.2.1 pc = .ok (.if_icmp .le off, 3)) (ht : (pc : Int) + off = (tgt : Int)) (hpc : pc + 3 = pc') (kt : a ≤ b → Ev d y Q tgt ls (st) w) (kf : ¬ a ≤ b → Ev d y Q pc' ls (st) w) : Ev d y Q pc ls (.int b :: .int a :: st) w := by
  subst hpc
  intro p l e s m args below meth c dC dI cA adr A n0 H locs L C h hl
  exact lv_icmp_le C.1 C.2.1 hd ht (fun q => kt q p l e s m args below meth c dC dI cA adr A n0 H locs L C h hl) (fun q => kf q p l e s m args below meth c dC dI cA adr A n0 H locs L C h hl)

theorem ev_if_le {d : Nat} {y : MI} {Q : Option Value → MW → Prop} {pc pc' : Nat} {ls : List (Option Value)} {st : List Value} {w : MW} {a : Int32} {off : Int} {tgt : Nat} (hd : decode y.2.1 pc = .ok (.ifCond .le off, 3)) (ht : (pc : Int) + off = (tgt : Int)) (hpc : pc + 3 = pc') (kt : a ≤ 0 → Ev d y Q tgt ls (st) w) (kf : ¬ a ≤ 0 → Ev d y Q pc' ls (st) w) : Ev d y Q pc ls (.int a :: st) w := by
  subst hpc
  intro p l e s m args below meth c dC dI cA adr A n0 H locs L C h hl
  exact lv_if_le C.1 C.2.1 hd ht (fun q => kt q p l e s m args below meth c dC dI cA adr A n0 H locs L C h hl) (fun q => kf q p l e s m args below meth c dC dI cA adr A n0 H locs L C h hl)

theorem ev_goto {d : Nat} {y : MI} {Q : Option Value → MW → Prop} {pc : Nat} {ls : List (Option Value)} {st : List Value} {w : MW} {off : Int} {tgt : Nat} (hd : decode y.2.1 pc = .ok (.goto off, 3)) (ht : (pc : Int) + off = (tgt : Int)) (k : Ev d y Q tgt ls (st) w) : Ev d y Q pc ls (st) w := by
  intro p l e s m args below meth c dC dI cA adr A n0 H locs L C h hl
  exact lv_goto C.1 C.2.1 hd ht (k p l e s m args below meth c dC dI cA adr A n0 H locs L C h hl)

theorem ev_tableIn {d : Nat} {y : MI} {Q : Option Value → MW → Prop} {pc : Nat} {ls : List (Option Value)} {st : List Value} {w : MW} {dflt lo hi : Int} {offs : Array Int} {len : Nat} {x : Int32} {off : Int} {tgt : Nat} (hd : decode y.2.1 pc = .ok (.tableswitch dflt lo hi offs, len)) (h1 : ¬ x.toInt < lo) (h2 : ¬ hi < x.toInt) (ho : offs[(x.toInt - lo).toNat]? = some off) (ht : (pc : Int) + off = (tgt : Int)) (k : Ev d y Q tgt ls (st) w) : Ev d y Q pc ls (.int x :: st) w := by
  intro p l e s m args below meth c dC dI cA adr A n0 H locs L C h hl
  exact lv_tableIn C.1 C.2.1 hd h1 h2 ho ht (k p l e s m args below meth c dC dI cA adr A n0 H locs L C h hl)

theorem ev_tableOut {d : Nat} {y : MI} {Q : Option Value → MW → Prop} {pc : Nat} {ls : List (Option Value)} {st : List Value} {w : MW} {dflt lo hi : Int} {offs : Array Int} {len : Nat} {x : Int32} {tgt : Nat} (hd : decode y.2.1 pc = .ok (.tableswitch dflt lo hi offs, len)) (hx : x.toInt < lo ∨ hi < x.toInt) (ht : (pc : Int) + dflt = (tgt : Int)) (k : Ev d y Q tgt ls (st) w) : Ev d y Q pc ls (.int x :: st) w := by
  intro p l e s m args below meth c dC dI cA adr A n0 H locs L C h hl
  exact lv_tableOut C.1 C.2.1 hd hx ht (k p l e s m args below meth c dC dI cA adr A n0 H locs L C h hl)

theorem ev_lookup {d : Nat} {y : MI} {Q : Option Value → MW → Prop} {pc : Nat} {ls : List (Option Value)} {st : List Value} {w : MW} {dflt : Int} {ps : Array (Int × Int)} {len : Nat} {x : Int32} {off : Int} {tgt : Nat} (hd : decode y.2.1 pc = .ok (.lookupswitch dflt ps, len)) (hp : (ps.toList.zip (ps.toList.drop 1)).all (fun (a, next) => a.1 < next.1) = true) (ho : Op.lookupswitch.offset ps.toList dflt x.toInt = off) (ht : (pc : Int) + off = (tgt : Int)) (k : Ev d y Q tgt ls (st) w) : Ev d y Q pc ls (.int x :: st) w := by
  intro p l e s m args below meth c dC dI cA adr A n0 H locs L C h hl
  exact lv_lookup C.1 C.2.1 hd hp ho ht (k p l e s m args below meth c dC dI cA adr A n0 H locs L C h hl)

def FL (own : String) (idx ci k : Nat) : Prop := ∃ (C : String) (T : u_T) (N : Nat), classes[ci]? = some (C, T, N) ∧ k < N ∧ (∀ w ∈ u_ws C T N, w ∈ gtbl) ∧ Cond.fieldLink own idx (T k).1 (T k).2.1 (T k).2.2.1 ∈ gtbl
def FS (own : String) (idx ci k : Nat) (ty : FieldType) : Prop := ∃ (C : String) (T : u_T) (N : Nat), classes[ci]? = some (C, T, N) ∧ k < N ∧ (∀ w ∈ u_ws C T N, w ∈ gtbl) ∧ Cond.fieldLink own idx (T k).1 (T k).2.1 (T k).2.2.1 ∈ gtbl ∧ (∃ ty0 : Nat → FieldType, ∀ k, k < N → parseFieldDescriptor (T k).2.2.1 = some (ty0 k)) ∧ (∀ a, a < N → ∀ b, b < N → a ≠ b → (T a).2.1 ≠ (T b).2.1) ∧ (T k).2.2.2 = false ∧ parseFieldDescriptor (T k).2.2.1 = some ty
theorem ev_getf {d : Nat} {y : MI} {Q : Option Value → MW → Prop} {pc pc' : Nat} {ls : List (Option Value)} {st : List Value} {w : MW} {idx ci k r : Nat} {fs : List Value} {v : Value} (hf : FL y.1.cls idx ci k) (hd : decode y.2.1 pc = .ok (.getfield idx, 3)) (hpc : pc + 3 = pc') (hr : w[r]? = some (.inr (ci, fs))) (hv : fs[k]? = some v) (kk : Ev d y Q pc' ls (v :: st) w) : Ev d y Q pc ls (.ref r :: st) w := by
  subst hpc
  obtain ⟨C0, T, N, g1, g2, g3, g4⟩ := hf
  intro p l e s m args below meth c dC dI cA adr A n0 H locs L C h hl
  exact va_get C.1 C.2.1 C.2.2.2.2.2.1 g3 C.2.2.2.2.1 C.2.2.2.2.2.2.2.1 h.2.1 r (cw_at hr) g1 k g2 (C.2.2.2.2.2.1 _ g4) (fun _ h => h) (by rw [List.getElem?_map, hv]; rfl) hd (kk p l e s m args below meth c dC dI cA adr A n0 H locs L C h hl)

theorem ev_putf {d : Nat} {y : MI} {Q : Option Value → MW → Prop} {pc pc' : Nat} {ls : List (Option Value)} {st : List Value} {w : MW} {idx ci k r : Nat} {ty : FieldType} {fs : List Value} {v : Value} {w' : MW} (hf : FS y.1.cls idx ci k ty) (hd : decode y.2.1 pc = .ok (.putfield idx, 3)) (hpc : pc + 3 = pc') (hr : w[r]? = some (.inr (ci, fs))) (hk : k < fs.length) (hn : ∀ f, narrow ty (cV f v) = cV f v) (hfit : ∀ f, fits ty (cV f v) = true) (hw : w.set r (.inr (ci, fs.set k v)) = w') (kk : Ev d y Q pc' ls (st) w') : Ev d y Q pc ls (v :: .ref r :: st) w := by
  subst hpc; subst hw
  obtain ⟨C0, T, N, g1, g2, g3, g4, ⟨ty0, g5⟩, g6, g7, g8⟩ := hf
  intro p l e s m args below meth c dC dI cA adr A n0 H locs L C h hl
  refine va_put C.1 C.2.1 C.2.2.2.2.2.1 g3 ty0 g5 g6 C.2.2.2.2.1 C.2.2.2.2.2.2.2.1 h.2.1 h.2.2.1 h.2.2.2.1 r (cw_at hr) g1 k g2 (C.2.2.2.2.2.1 _ g4) (fun _ h => h) g7 g8 (hn adr) (hfit adr) (by rw [List.length_map]; exact hk) hd (fun H1 locs1 hP1 hD1 hS1 => ?_)
  have hset : cw cA adr (w.set r (.inr (ci, fs.set k v))) = (cw cA adr w).set r (adr r, .inr (ci, (fs.map (cV adr)).set k (cV adr v))) := by
    rw [cw_set]; show _ = _; congr 3; show Sum.inr _ = Sum.inr _; rw [← List.map_set]
  exact kk p l e s m args below meth c dC dI cA adr A n0 H1 locs1 L C ⟨by rw [List.length_set]; exact h.1, by rw [hset]; exact hP1, by rw [hset]; exact hD1, hS1, h.2.2.2.2⟩ hl

theorem ev_iald {d : Nat} {y : MI} {Q : Option Value → MW → Prop} {pc pc' : Nat} {ls : List (Option Value)} {st : List Value} {w : MW} {r n : Nat} {f : Nat → Int32} {i : Int32} (hd : decode y.2.1 pc = .ok (.iaload, 1)) (hpc : pc + 1 = pc') (hr : w[r]? = some (.inl (.int, n, .inl f))) (hi : vp_in i n) (k : Ev d y Q pc' ls (.int (f i.toNatClampNeg) :: st) w) : Ev d y Q pc ls (.int i :: .ref r :: st) w := by
  subst hpc
  intro p l e s m args below meth c dC dI cA adr A n0 H locs L C h hl
  exact va_iald C.1 C.2.1 C.2.2.2.2.2.2.2.1 h.2.1 r 0 (cw_at hr) rfl hi hd (k p l e s m args below meth c dC dI cA adr A n0 H locs L C h hl)

theorem ev_bald {d : Nat} {y : MI} {Q : Option Value → MW → Prop} {pc pc' : Nat} {ls : List (Option Value)} {st : List Value} {w : MW} {r n : Nat} {f : Nat → Int32} {i : Int32} (hd : decode y.2.1 pc = .ok (.baload, 1)) (hpc : pc + 1 = pc') (hr : w[r]? = some (.inl (.byte, n, .inl f))) (hi : vp_in i n) (k : Ev d y Q pc' ls (.int (f i.toNatClampNeg) :: st) w) : Ev d y Q pc ls (.int i :: .ref r :: st) w := by
  subst hpc
  intro p l e s m args below meth c dC dI cA adr A n0 H locs L C h hl
  exact va_bald C.1 C.2.1 C.2.2.2.2.2.2.2.1 h.2.1 r 1 (cw_at hr) rfl hi hd (k p l e s m args below meth c dC dI cA adr A n0 H locs L C h hl)

theorem ev_zald {d : Nat} {y : MI} {Q : Option Value → MW → Prop} {pc pc' : Nat} {ls : List (Option Value)} {st : List Value} {w : MW} {r n : Nat} {f : Nat → Int32} {i : Int32} (hd : decode y.2.1 pc = .ok (.baload, 1)) (hpc : pc + 1 = pc') (hr : w[r]? = some (.inl (.boolean, n, .inl f))) (hi : vp_in i n) (k : Ev d y Q pc' ls (.int (f i.toNatClampNeg) :: st) w) : Ev d y Q pc ls (.int i :: .ref r :: st) w := by
  subst hpc
  intro p l e s m args below meth c dC dI cA adr A n0 H locs L C h hl
  exact va_zald C.1 C.2.1 C.2.2.2.2.2.2.2.1 h.2.1 r 3 (cw_at hr) rfl hi hd (k p l e s m args below meth c dC dI cA adr A n0 H locs L C h hl)

theorem ev_lald {d : Nat} {y : MI} {Q : Option Value → MW → Prop} {pc pc' : Nat} {ls : List (Option Value)} {st : List Value} {w : MW} {r n : Nat} {f : Nat → Int64} {i : Int32} (hd : decode y.2.1 pc = .ok (.laload, 1)) (hpc : pc + 1 = pc') (hr : w[r]? = some (.inl (.long, n, .inr (.inl f)))) (hi : vp_in i n) (k : Ev d y Q pc' ls (.long (f i.toNatClampNeg) :: st) w) : Ev d y Q pc ls (.int i :: .ref r :: st) w := by
  subst hpc
  intro p l e s m args below meth c dC dI cA adr A n0 H locs L C h hl
  exact va_lald C.1 C.2.1 C.2.2.2.2.2.2.2.1 h.2.1 r 2 (cw_at hr) rfl hi hd (k p l e s m args below meth c dC dI cA adr A n0 H locs L C h hl)

theorem ev_iast {d : Nat} {y : MI} {Q : Option Value → MW → Prop} {pc pc' : Nat} {ls : List (Option Value)} {st : List Value} {w : MW} {r n : Nat} {f : Nat → Int32} {i x : Int32} {w' : MW} (hd : decode y.2.1 pc = .ok (.iastore, 1)) (hpc : pc + 1 = pc') (hr : w[r]? = some (.inl (.int, n, .inl f))) (hi : vp_in i n) (hw : w.set r (.inl (.int, n, .inl (upd f i.toNatClampNeg x))) = w') (k : Ev d y Q pc' ls (st) w') : Ev d y Q pc ls (.int x :: .int i :: .ref r :: st) w := by
  subst hpc; subst hw
  intro p l e s m args below meth c dC dI cA adr A n0 H locs L C h hl
  refine va_iast C.1 C.2.1 C.2.2.2.2.2.2.2.1 h.2.1 h.2.2.1 h.2.2.2.1 r 0 (cw_at hr) rfl hi hd (fun H1 locs1 hP1 hD1 hS1 => ?_)
  exact k p l e s m args below meth c dC dI cA adr A n0 H1 locs1 L C ⟨by rw [List.length_set]; exact h.1, by rw [cw_set]; exact hP1, by rw [cw_set]; exact hD1, hS1, h.2.2.2.2⟩ hl

theorem ev_bast {d : Nat} {y : MI} {Q : Option Value → MW → Prop} {pc pc' : Nat} {ls : List (Option Value)} {st : List Value} {w : MW} {r n : Nat} {f : Nat → Int32} {i x : Int32} {w' : MW} (hd : decode y.2.1 pc = .ok (.bastore, 1)) (hpc : pc + 1 = pc') (hr : w[r]? = some (.inl (.byte, n, .inl f))) (hi : vp_in i n) (hw : w.set r (.inl (.byte, n, .inl (upd f i.toNatClampNeg (vp_nar .byte x)))) = w') (k : Ev d y Q pc' ls (st) w') : Ev d y Q pc ls (.int x :: .int i :: .ref r :: st) w := by
  subst hpc; subst hw
  intro p l e s m args below meth c dC dI cA adr A n0 H locs L C h hl
  refine va_bast C.1 C.2.1 C.2.2.2.2.2.2.2.1 h.2.1 h.2.2.1 h.2.2.2.1 r 1 (cw_at hr) rfl hi hd (fun H1 locs1 hP1 hD1 hS1 => ?_)
  exact k p l e s m args below meth c dC dI cA adr A n0 H1 locs1 L C ⟨by rw [List.length_set]; exact h.1, by rw [cw_set]; exact hP1, by rw [cw_set]; exact hD1, hS1, h.2.2.2.2⟩ hl

theorem ev_zast {d : Nat} {y : MI} {Q : Option Value → MW → Prop} {pc pc' : Nat} {ls : List (Option Value)} {st : List Value} {w : MW} {r n : Nat} {f : Nat → Int32} {i x : Int32} {w' : MW} (hd : decode y.2.1 pc = .ok (.bastore, 1)) (hpc : pc + 1 = pc') (hr : w[r]? = some (.inl (.boolean, n, .inl f))) (hi : vp_in i n) (hw : w.set r (.inl (.boolean, n, .inl (upd f i.toNatClampNeg (vp_nar .boolean x)))) = w') (k : Ev d y Q pc' ls (st) w') : Ev d y Q pc ls (.int x :: .int i :: .ref r :: st) w := by
  subst hpc; subst hw
  intro p l e s m args below meth c dC dI cA adr A n0 H locs L C h hl
  refine va_zast C.1 C.2.1 C.2.2.2.2.2.2.2.1 h.2.1 h.2.2.1 h.2.2.2.1 r 3 (cw_at hr) rfl hi hd (fun H1 locs1 hP1 hD1 hS1 => ?_)
  exact k p l e s m args below meth c dC dI cA adr A n0 H1 locs1 L C ⟨by rw [List.length_set]; exact h.1, by rw [cw_set]; exact hP1, by rw [cw_set]; exact hD1, hS1, h.2.2.2.2⟩ hl

theorem ev_last {d : Nat} {y : MI} {Q : Option Value → MW → Prop} {pc pc' : Nat} {ls : List (Option Value)} {st : List Value} {w : MW} {r n : Nat} {f : Nat → Int64} {i : Int32} {x : Int64} {w' : MW} (hd : decode y.2.1 pc = .ok (.lastore, 1)) (hpc : pc + 1 = pc') (hr : w[r]? = some (.inl (.long, n, .inr (.inl f)))) (hi : vp_in i n) (hw : w.set r (.inl (.long, n, .inr (.inl (vp_updL f i.toNatClampNeg x)))) = w') (k : Ev d y Q pc' ls (st) w') : Ev d y Q pc ls (.long x :: .int i :: .ref r :: st) w := by
  subst hpc; subst hw
  intro p l e s m args below meth c dC dI cA adr A n0 H locs L C h hl
  refine va_last C.1 C.2.1 C.2.2.2.2.2.2.2.1 h.2.1 h.2.2.1 h.2.2.2.1 r 2 (cw_at hr) rfl hi hd (fun H1 locs1 hP1 hD1 hS1 => ?_)
  exact k p l e s m args below meth c dC dI cA adr A n0 H1 locs1 L C ⟨by rw [List.length_set]; exact h.1, by rw [cw_set]; exact hP1, by rw [cw_set]; exact hD1, hS1, h.2.2.2.2⟩ hl

theorem ev_alen {d : Nat} {y : MI} {Q : Option Value → MW → Prop} {pc pc' : Nat} {ls : List (Option Value)} {st : List Value} {w : MW} {r n : Nat} {ty : FieldType} {t : Nat} {q : (Nat → Int32) ⊕ (Nat → Int64) ⊕ (Nat → UInt32) ⊕ (Nat → UInt64) ⊕ (Nat → Option Nat)} {v : Int32} (hd : decode y.2.1 pc = .ok (.arraylength, 1)) (hpc : pc + 1 = pc') (hr : w[r]? = some (.inl (ty, n, q))) (ht : (tysA (fun _ => 0))[t]? = some (0, ty)) (hv : Int32.ofNat n = v) (k : Ev d y Q pc' ls (.int v :: st) w) : Ev d y Q pc ls (.ref r :: st) w := by
  subst hpc
  intro p l e s m args below meth c dC dI cA adr A n0 H locs L C h hl
  have ht' : (tysA cA)[t]? = some (cA ty, ty) := by
    match t, ht with
    | 0, ht => cases ht; rfl
    | 1, ht => cases ht; rfl
    | 2, ht => cases ht; rfl
    | 3, ht => cases ht; rfl
  exact va_alen C.1 C.2.1 C.2.2.2.2.2.2.2.1 h.2.1 r t (cw_at hr) ht' hv hd (k p l e s m args below meth c dC dI cA adr A n0 H locs L C h hl)

theorem ev_ireturn {d : Nat} {y : MI} {Q : Option Value → MW → Prop} {pc : Nat} {ls : List (Option Value)} {w : MW} {x : Int32} (hr : y.2.2.2 = some .int) (hd : decode y.2.1 pc = .ok (.ireturn, 1)) (k : Q (some (.int x)) w) : Ev d y Q pc ls ([.int x]) w := by
  intro p l e s m args below meth c dC dI cA adr A n0 H locs L C h hl
  exact W.iret C.1 C.2.1 (C.2.2.1.trans hr) (fun t ht hW => ⟨⟨some (.int x), w, rfl, k, h.1, by rw [ht]; exact h.2.1⟩, h.2.2.2.1.F ht⟩) h.2.2.2.1.2.2 hd C.2.2.2.2.2.2.1

theorem ev_zreturn {d : Nat} {y : MI} {Q : Option Value → MW → Prop} {pc : Nat} {ls : List (Option Value)} {w : MW} {x : Int32} (hr : y.2.2.2 = some .boolean) (hn : narrow .boolean (.int x) = .int x) (hd : decode y.2.1 pc = .ok (.ireturn, 1)) (k : Q (some (.int x)) w) : Ev d y Q pc ls ([.int x]) w := by
  intro p l e s m args below meth c dC dI cA adr A n0 H locs L C h hl
  exact W.zret C.1 C.2.1 (C.2.2.1.trans hr) hn (fun t ht hW => ⟨⟨some (.int x), w, rfl, k, h.1, by rw [ht]; exact h.2.1⟩, h.2.2.2.1.F ht⟩) h.2.2.2.1.2.2 hd C.2.2.2.2.2.2.1

theorem ev_nreturn {d : Nat} {y : MI} {Q : Option Value → MW → Prop} {pc : Nat} {ls : List (Option Value)} {w : MW} {x : Int32} {ty : FieldType} (hr : y.2.2.2 = some ty) (hn : narrow ty (.int x) = .int x) (hd : decode y.2.1 pc = .ok (.ireturn, 1)) (k : Q (some (.int x)) w) : Ev d y Q pc ls ([.int x]) w := by
  intro p l e s m args below meth c dC dI cA adr A n0 H locs L C h hl
  exact W.zret C.1 C.2.1 (C.2.2.1.trans hr) hn (fun t ht hW => ⟨⟨some (.int x), w, rfl, k, h.1, by rw [ht]; exact h.2.1⟩, h.2.2.2.1.F ht⟩) h.2.2.2.1.2.2 hd C.2.2.2.2.2.2.1

theorem ev_lreturn {d : Nat} {y : MI} {Q : Option Value → MW → Prop} {pc : Nat} {ls : List (Option Value)} {w : MW} {x : Int64} (hr : y.2.2.2 = some .long) (hd : decode y.2.1 pc = .ok (.lreturn, 1)) (k : Q (some (.long x)) w) : Ev d y Q pc ls ([.long x]) w := by
  intro p l e s m args below meth c dC dI cA adr A n0 H locs L C h hl
  exact W.lret C.1 C.2.1 (C.2.2.1.trans hr) (fun t ht hW => ⟨⟨some (.long x), w, rfl, k, h.1, by rw [ht]; exact h.2.1⟩, h.2.2.2.1.F ht⟩) h.2.2.2.1.2.2 hd C.2.2.2.2.2.2.1

theorem ev_return {d : Nat} {y : MI} {Q : Option Value → MW → Prop} {pc : Nat} {ls : List (Option Value)} {w : MW}  (hr : y.2.2.2 = none) (hd : decode y.2.1 pc = .ok (.return_, 1)) (k : Q none w) : Ev d y Q pc ls ([]) w := by
  intro p l e s m args below meth c dC dI cA adr A n0 H locs L C h hl
  exact W.vret C.1 C.2.1 (C.2.2.1.trans hr) (fun t ht hW => ⟨⟨none, w, rfl, k, h.1, by rw [ht]; exact h.2.1⟩, h.2.2.2.1.F ht⟩) h.2.2.2.1.2.2 hd C.2.2.2.2.2.2.1

theorem ev_areturn {d : Nat} {y : MI} {Q : Option Value → MW → Prop} {pc : Nat} {ls : List (Option Value)} {w : MW} {r : Nat} {rt : FieldType} (hr : y.2.2.2 = some rt) (hrt : (∃ n, rt = .object n) ∨ ∃ t, rt = .array t) (hd : decode y.2.1 pc = .ok (.areturn, 1)) (k : Q (some (.ref r)) w) : Ev d y Q pc ls ([.ref r]) w := by
  intro p l e s m args below meth c dC dI cA adr A n0 H locs L C h hl
  exact W.aret C.1 C.2.1 (C.2.2.1.trans hr) hrt (Or.inr ⟨_, rfl⟩) (fun t ht hW => ⟨⟨some (.ref r), w, rfl, k, h.1, by rw [ht]; exact h.2.1⟩, h.2.2.2.1.F ht⟩) h.2.2.2.1.2.2 hd C.2.2.2.2.2.2.1

theorem ev_post {d : Nat} {y : MI} {Q : Option Value → MW → Prop} {pc : Nat} {ls : List (Option Value)} {st : List Value} {w : MW} {Q' : Option Value → MW → Prop} (hq : ∀ v w', Q' v w' → Q v w') (k : Ev d y Q' pc ls st w) : Ev d y Q pc ls st w := by
  intro p l e s m args below meth c dC dI cA adr A n0 H locs L C h hl T hT X
  obtain ⟨t, a, o, b1, b2, ⟨⟨v, w', b3, b4, b5⟩, b6⟩, b7⟩ := k p l e s m args below meth c dC dI cA adr A n0 H locs L C h hl T hT X
  exact ⟨t, a, o, b1, b2, ⟨⟨v, w', b3, hq _ _ b4, b5⟩, b6⟩, b7⟩

