/-! Calls in worlds that grow: constructors; methods. -/
def rmI (d mc ms : Nat) : Room := { frames := d + 1, cells := mc, slots := ms, locals := 100 * d + 100 }
def QI (wf : MW) (dC : Nat → ClassId) (dI : Nat → Nat → Nat) (cA : FieldType → ClassId) (a0 : Nat → Nat) (A : Nat → Prop) : Array Value → State → Outcome → State → Prop := fun _ st oc t => (oc = .returned none ∧ ∃ adr, agr 1 adr a0 ∧ va_P (dC, dI) classes (cw cA adr wf) t.heap ∧ va_D A (cw cA adr wf)) ∧ va_F A st t
/-- a constructor: its object alone, then what it made behind it -/
def OkI (d mc ms : Nat) (y : MI) (args : List Value) (e0 : ME) (wf : MW) : Prop := ∀ (l : Launch) (dC : Nat → ClassId) (dI : Nat → Nat → Nat) (cA : FieldType → ClassId) (adr : Nat → Nat) (sz : Nat), Met l y.1 (wsM y) (rmI d mc ms) (va_Pc (args.map (cV adr)) (fun U => U.heap.size = sz ∧ PN U ∧ PP dC dI cA adr 1 (va_A (cw cA adr [e0]) sz) [e0] U)) (QI wf dC dI cA adr (va_A (cw cA adr [e0]) sz)) mc ms (va_A (cw cA adr [e0]) sz)
theorem OkI.of {d mc ms : Nat} {y : MI} {args : List Value} {e0 : ME} {wf : MW} {ls : List (Option Value)} (hy : plainName y.1.cls = true) (hi : y.1.name = "<init>") (hn : (args.flatMap (fun v => if v.category = 2 then [some v, none] else [some v])).length ≤ y.2.2.1) (hls : entL y.2.2.1 args = ls) (k : ∀ (X : GX) (a0 : Nat → Nat), X.ok y → X.meth.name = "<init>" → X.R = rmI d mc ms → X.Z = MQ X.below (QI wf X.dC X.dI X.cA a0 X.A) X.args X.s mc ms X.A → GEv X y 1 a0 0 0 0 ls [] [e0]) : OkI d mc ms y args e0 wf := by
  intro l dC dI cA adr sz
  subst hls
  refine Met.ofW (cc := y.2.1) (maxL := y.2.2.1) (ret := y.2.2.2) hy rfl ?_
  intro p e s m av below meth c s₁ B hml hv
  obtain ⟨rfl, hsz, hN, hlen, hP, hK, hD, hX⟩ := hv
  have hts := atoms_spec (ws := wsM y) B.pre
  subst hsz
  rw [lg_entry_eq]
  refine k ((p, l, e), (s, m, _), (below, meth, c), (dC, dI, cA), va_A (cw cA adr [e0]) s.heap.size, rmI d mc ms, MQ below (QI wf dC dI cA adr (va_A (cw cA adr [e0]) s.heap.size)) _ s mc ms (va_A (cw cA adr [e0]) s.heap.size)) adr ⟨B.exec, B.bytes, B.returns, hml, findClass_of_methodNamed B.named, fun w hw => hts w (List.mem_cons_of_mem _ hw), B.notSynchronized, hK, fun q h => Or.inr h, hN⟩ ?_ rfl rfl adr s.heap [] _ (agr.refl 1 adr) ⟨rfl, hP, hD, va_S.rf, hX⟩ ?_
  · exact (name_of_methodNamed B.named B.method).1.trans hi
  · exact lv_has.mono (lv_entry (args.map (cV adr)) (by rw [lg_len]; exact hn)) entL_has
def gad (a a1 : Nat → Nat) (n : Nat) : Nat → Nat := fun k => if k < n ∨ 900 ≤ k then a k else a1 (k - n + 1)
def rh2 (ρ : Nat → Nat) (n : Nat) : Nat → Nat := fun k => if 900 ≤ k then ρ k else if k = 0 then ρ 0 else n + k - 1
theorem gad_agr (a a1 : Nat → Nat) (n : Nat) : agr n (gad a a1 n) a := fun _ hk => if_pos hk
theorem grow_join {dC : Nat → ClassId} {dI : Nat → Nat → Nat} {cA : FieldType → ClassId} {A : Nat → Prop} {adr adr1 ρ : Nat → Nat} {w : MW} {r : Nat} {e0 e1 : ME} {es : List ME} {H H1 : Heap} (hP : va_P (dC, dI) classes (cw cA adr w) H) (hD : va_D A (cw cA adr w)) (hA : ∀ q, H.size ≤ q → A q) (hr : r < w.length) (hlen : w.length + es.length < 900) (hw : w.all (rfE w.length) = true) (hwf : (e1 :: es).all (rfE (e1 :: es).length) = true) (hρ0 : ρ 0 = r) (hρ : ∀ k, 900 ≤ k → ρ k < w.length ∨ 900 ≤ ρ k) (hag : agr 1 adr1 (fun k => adr (ρ k))) (hkeep : ∀ q : Nat, q < H.size → ¬ va_A (cw cA (fun k => adr (ρ k)) [e0]) H.size q → H1[q]? = H[q]?) (hP' : va_P (dC, dI) classes (cw cA adr1 (e1 :: es)) H1) (hD' : va_D (va_A (cw cA (fun k => adr (ρ k)) [e0]) H.size) (cw cA adr1 (e1 :: es))) : va_P (dC, dI) classes (cw cA (gad adr adr1 w.length) (w.set r (renE (rh2 ρ w.length) e1) ++ es.map (renE (rh2 ρ w.length)))) H1 ∧ va_D A (cw cA (gad adr adr1 w.length) (w.set r (renE (rh2 ρ w.length) e1) ++ es.map (renE (rh2 ρ w.length)))) := by
  have hg := gad_agr adr adr1 w.length
  have e10 : adr1 0 = adr r := (hag 0 (by omega)).trans (by show adr (ρ 0) = _; rw [hρ0])
  have ag2 : agr (e1 :: es).length (fun k => gad adr adr1 w.length (rh2 ρ w.length k)) adr1 := by
    intro k hk
    rw [List.length_cons] at hk
    by_cases h9 : 900 ≤ k
    · show gad adr adr1 w.length (rh2 ρ w.length k) = _
      rw [show rh2 ρ w.length k = ρ k from if_pos h9, hg _ (hρ k h9)]
      exact (hag k (by omega)).symm
    · by_cases h0 : k = 0
      · subst h0
        show gad adr adr1 w.length (rh2 ρ w.length 0) = _
        rw [show rh2 ρ w.length 0 = ρ 0 from rfl, hρ0, hg r (by omega), e10]
      · show gad adr adr1 w.length (rh2 ρ w.length k) = _
        have e : rh2 ρ w.length k = w.length + k - 1 := by
          unfold rh2
          rw [if_neg h9, if_neg h0]
        rw [e]
        unfold gad
        rw [if_neg (by omega), show w.length + k - 1 - w.length + 1 = k by omega]
  have hE : ∀ e, e ∈ e1 :: es → cE cA (gad adr adr1 w.length) (renE (rh2 ρ w.length) e) = cE cA adr1 e := fun e he => by
    rw [cE_ren]
    exact rfE_eq ag2 (List.all_eq_true.mp hwf e he)
  have old : ∀ (i : Nat) (e : ME), w[i]? = some e → (cw cA adr w)[i]? = some (gad adr adr1 w.length i, cE cA (gad adr adr1 w.length) e) := fun i e hi => by
    have hlt := (List.getElem?_eq_some_iff.mp hi).1
    rw [cw_at hi, hg i (by omega), rfE_eq hg (List.all_eq_true.mp hw e (List.mem_of_getElem? hi))]
  have key : ∀ (i : Nat) (q : Nat × va_E), (cw cA (gad adr adr1 w.length) (w.set r (renE (rh2 ρ w.length) e1) ++ es.map (renE (rh2 ρ w.length))))[i]? = some q → (i < w.length ∧ i ≠ r ∧ (cw cA adr w)[i]? = some q) ∨ ∃ j, (cw cA adr1 (e1 :: es))[j]? = some q ∧ ((j = 0 ∧ i = r) ∨ (0 < j ∧ i = w.length + j - 1)) := by
    intro i q hq
    obtain ⟨e, g1, rfl⟩ := cw_of hq
    by_cases hi : i < w.length
    · rw [List.getElem?_append_left (by rw [List.length_set]; exact hi)] at g1
      by_cases h : i = r
      · right
        subst h
        rw [List.getElem?_set_self hi] at g1
        cases g1
        refine ⟨0, ?_, Or.inl ⟨rfl, rfl⟩⟩
        rw [hE e1 List.mem_cons_self, hg i (by omega), ← e10]
        exact cw_at rfl
      · left
        rw [List.getElem?_set_ne (fun z => h z.symm)] at g1
        exact ⟨hi, h, old i e g1⟩
    · right
      rw [List.getElem?_append_right (by rw [List.length_set]; omega), List.length_set, List.getElem?_map] at g1
      cases hj : es[i - w.length]? with
      | none => rw [hj] at g1; cases g1
      | some e' =>
        rw [hj] at g1
        cases g1
        have hlt := (List.getElem?_eq_some_iff.mp hj).1
        refine ⟨i - w.length + 1, ?_, Or.inr ⟨by omega, by omega⟩⟩
        rw [hE e' (List.mem_cons_of_mem _ (List.mem_of_getElem? hj)), show gad adr adr1 w.length i = adr1 (i - w.length + 1) from if_neg (by omega)]
        exact cw_at (by rw [List.getElem?_cons_succ]; exact hj)
  have hrr : (cw cA adr w)[r]? = some (adr r, cE cA adr w[r]) := cw_at (List.getElem?_eq_getElem hr)
  have vaA : ∀ q, va_A (cw cA (fun k => adr (ρ k)) [e0]) H.size q → q = adr r ∨ H.size ≤ q := by
    intro q hq
    rcases hq with ⟨j, e', g⟩ | g
    · left
      obtain ⟨e2, g2, g3⟩ := cw_of g
      have hz : j < 1 := (List.getElem?_eq_some_iff.mp g2).1
      have hj : j = 0 := by omega
      subst hj
      cases g3
      show adr (ρ 0) = _
      rw [hρ0]
    · exact Or.inr g
  have apart : ∀ (i : Nat) (q : Nat × va_E), i ≠ r → (cw cA adr w)[i]? = some q → ¬ va_A (cw cA (fun k => adr (ρ k)) [e0]) H.size q.1 := by
    intro i q hi hq hv
    rcases vaA _ hv with h | h
    · exact hi (hD.1 i r q _ hq hrr h)
    · exact absurd (hP i q hq).lt (Nat.not_lt.mpr h)
  refine ⟨fun i q hq => ?_, fun i j q q2 hq hq2 he => ?_, fun i q hq => ?_⟩
  · rcases key i q hq with ⟨h1, h2, h3⟩ | ⟨j, h1, -⟩
    · exact (hP i q h3).kept (hkeep _ (hP i q h3).lt (apart i q h2 h3))
    · exact hP' j q h1
  · rcases key i q hq with ⟨h1, h2, h3⟩ | ⟨j1, h1, h2⟩
    · rcases key j q2 hq2 with ⟨g1, g2, g3⟩ | ⟨j2, g1, g2⟩
      · exact hD.1 i j q q2 h3 g3 he
      · exact absurd (by rw [he]; exact hD'.2 j2 q2 g1) (apart i q h2 h3)
    · rcases key j q2 hq2 with ⟨g1, g2, g3⟩ | ⟨j2, g1, g2⟩
      · exact absurd (by rw [← he]; exact hD'.2 j1 q h1) (apart j q2 g2 g3)
      · have := hD'.1 j1 j2 q q2 h1 g1 he
        omega
  · rcases key i q hq with ⟨h1, h2, h3⟩ | ⟨j, h1, -⟩
    · exact hD.2 i q h3
    · rcases vaA _ (hD'.2 j q h1) with h | h
      · rw [h]; exact hD.2 r _ hrr
      · exact hA _ h
/-- what a call of a constructor needs of the tables' words -/
def CLi (own : String) (idx : Nat) (z : MI) (n : Nat) : Prop := ML z n ∧ Cond.methodLink own idx z.1 ∈ gtbl ∧ Cond.instanceMethod z.1 ∈ gtbl ∧ z.1.name = "<init>" ∧ z.2.2.2 = none
/-- a nest mate's constructor -/
def CLj (own : String) (idx : Nat) (z : MI) (n : Nat) : Prop := ML z n ∧ (∃ host, Cond.methodLinkNest own idx z.1 host ∈ ntbl) ∧ Cond.instanceMethod z.1 ∈ gtbl ∧ z.1.name = "<init>" ∧ z.2.2.2 = none
def OBJ (own : String) (idx : Nat) : Prop := Cond.methodLink own idx Lib.objectInit ∈ gtbl ∧ Cond.instanceMethod Lib.objectInit ∈ gtbl ∧ Cond.code Lib.objectInit ⟨#[0xb1]⟩ 1 none ∈ gtbl
section GCALL
variable {X : GX} {y : MI} {n0 : Nat} {a0 : Nat → Nat} {kc ks pc pc' : Nat} {ls : List (Option Value)} {st : List Value} {w : MW}
theorem g_ret {wf : MW} (C : X.ok y) (hr : y.2.2.2 = none) (hZ : X.Z = MQ X.below (QI wf X.dC X.dI X.cA a0 X.A) X.args X.s kc ks X.A) (hd : decode y.2.1 pc = .ok (.return_, 1)) : GEv X y 1 a0 kc ks pc ls [] wf := by
  intro adr H locs L ha h hl
  rw [hZ]
  exact W.vret C.1 C.2.1 (C.2.2.1.trans hr) (fun t ht hW => ⟨⟨rfl, adr, ha, by rw [ht]; exact h.2.1, h.2.2.1⟩, h.2.2.2.1.F ht⟩) h.2.2.2.1.2.2 hd C.2.2.2.2.2.2.1
theorem g_obj {idx r : Nat} (C : X.ok y) (hm : OBJ y.1.cls idx) (hR : 1 ≤ X.R.frames ∧ 20 ≤ X.R.locals) (hcat : (st.map fun v => v.category).sum ≤ 8) (hd : decode y.2.1 pc = .ok (.invokespecial idx, 3)) (hpc : pc + 3 = pc') (k : GEv X y n0 a0 kc ks pc' ls st w) : GEv X y n0 a0 kc ks pc ls (.ref r :: st) w := by
  subst hpc
  intro adr H locs L ha h hl
  have hts := C.2.2.2.2.2.1
  refine W.objInit C.1 C.2.1 C.2.2.2.2.1 (hts _ hm.1) (hts _ hm.2.1) (hts _ hm.2.2) rfl (by rw [C.2.2.2.1]; exact hl.1) rfl hd hR.1 ?_ (k adr H locs L ha h hl)
  have := lv_room (m := X.m) (pc := pc) (ls := L) (rest := (Value.ref r :: st).map (cV adr)) (st := st.map (cV adr)) (by rw [cat_map]; exact hcat)
  have h2 := hR.2
  exact Nat.le_trans (Nat.add_le_add_right this 12) h2
theorem g_ctor {d mc ms : Nat} {z : MI} {idx n r : Nat} {ρ : Nat → Nat} {As As0 rest : List Value} {e0 e1 : ME} {es : List ME} {w2 : MW} (C : X.ok y) (hcl : clo w ls st = true) (hI : OkI d mc ms z (.ref 0 :: As0) e0 (e1 :: es)) (hz : CLi y.1.cls idx z n ∨ CLj y.1.cls idx z n) (hd : decode y.2.1 pc = .ok (.invokespecial idx, 3)) (hpc : pc + 3 = pc') (hst : st = As.reverse ++ .ref r :: rest) (hAs : Value.ref r :: As = (Value.ref 0 :: As0).map (cV ρ)) (hn : As.length = n) (hρ0 : ρ 0 = r) (hρ : ∀ k, 900 ≤ k → ρ k < w.length ∨ 900 ≤ ρ k) (hρ9 : ∀ k, 997 ≤ k → ρ k = k) (hr : w[r]? = some e0) (he0 : renE ρ e0 = e0) (hcat : (rest.map fun v => v.category).sum ≤ 8) (hR : d + 2 ≤ X.R.frames ∧ 100 * d + 200 ≤ X.R.locals) (hc : kc + mc ≤ X.R.cells ∧ ks + ms ≤ X.R.slots) (hn0 : n0 ≤ w.length) (hlen : w.length + es.length < 900) (hwf : (e1 :: es).all (rfE (e1 :: es).length) = true) (hw2 : w.set r (renE (rh2 ρ w.length) e1) ++ es.map (renE (rh2 ρ w.length)) = w2) (k : GEv X y n0 a0 (kc + mc) (ks + ms) pc' ls rest w2) : GEv X y n0 a0 kc ks pc ls st w := by
  subst hpc; subst hst
  obtain ⟨c1, c2, c3, c4⟩ := clo_len hcl
  have hrl : r < w.length := (List.getElem?_eq_some_iff.mp hr).1
  intro adr H locs L ha h hl
  have hts := C.2.2.2.2.2.1
  have hπ : Part w [r] ρ [e0] := ⟨rfl, ⟨hρ9, fun i k hi => by
    have hlt := (List.getElem?_eq_some_iff.mp hi).1
    rw [List.length_singleton] at hlt
    have : i = 0 := by omega
    subst this
    cases hi
    exact hρ0⟩, by show [w[r]?] = [some (renE ρ e0)]; rw [hr, he0]⟩
  have hF := hπ.free (sz := H.size) h.2.2.1 (fun q hq => C.2.2.2.2.2.2.2.2.1 q (Nat.le_trans h.2.2.2.1.1 hq))
  have hargs : (Value.ref (adr r) :: As.map (cV adr)) = (Value.ref 0 :: As0).map (cV (fun k => adr (ρ k))) := by
    rw [← cV_map_comp adr ρ, ← hAs]; rfl
  have hRR : ∀ k, k ≤ 80 → (rmI d mc ms).frames + 1 ≤ X.R.frames ∧ 8 + (k + 11) + (rmI d mc ms).locals ≤ X.R.locals := fun k hk => ⟨hR.1, by
    show 8 + (k + 11) + (100 * d + 100) ≤ X.R.locals
    have := hR.2
    omega⟩
  have hpre : PreS X.s H (va_Pc ((Value.ref 0 :: As0).map (cV (fun k => adr (ρ k)))) (fun U => U.heap.size = H.size ∧ PN U ∧ PP X.dC X.dI X.cA (fun k => adr (ρ k)) 1 (va_A (cw X.cA (fun k => adr (ρ k)) [e0]) H.size) [e0] U)) (.ref (adr r) :: As.map (cV adr)) := ⟨Part.blind (fun u U h1 h2 h3 => ⟨by rw [h1]; exact h3.1, PN.same h2 h3.2.1, PP.moved h1 h2 h3.2.2⟩), fun U hU hW => ⟨by rw [hargs], hπ.pre C h U hU hW⟩⟩
  have run : va_Run X.p X.l X.e X.R X.s X.m X.args X.below X.meth X.c H locs kc ks mc ms (F0 X.m pc L ((As.reverse ++ .ref r :: rest).map (cV adr))) (rest.map (cV adr)) (QI (e1 :: es) X.dC X.dI X.cA (fun k => adr (ρ k)) (va_A (cw X.cA (fun k => adr (ρ k)) [e0]) H.size) (Value.ref (adr r) :: As.map (cV adr)).toArray) (va_A (cw X.cA (fun k => adr (ρ k)) [e0]) H.size) := by
    rcases hz with ⟨⟨g1, g2, g3, g4, g5⟩, g6, g7, g8, g9⟩ | ⟨⟨g1, g2, g3, g4, g5⟩, ⟨host, g6⟩, g7, g8, g9⟩
    · have hcode : wsM z = Cond.code z.1 z.2.1 z.2.2.1 none :: gtbl := by
        unfold wsM
        rw [g9]
      have hcb := callB_of (R := X.R) (own := y.1.cls) (index := idx) (mc := mc) (ms := ms) (rm := rmI d mc ms) n hts (good_wsM g1) hcode rfl rfl (hts _ g2) (hts _ g6) ⟨g3.1, g3.2, g4⟩ (hRR _ g5)
      exact va_runI (nL := y.2.2.1) (own := y.1.cls) (As := As.map (cV adr)) (b := adr r) ⟨C.1, C.2.1, C.2.2.2.1, C.2.2.2.2.1, hts⟩ (hI X.l X.dC X.dI X.cA (fun k => adr (ρ k)) H.size) ⟨hcb, g8, hts _ g7⟩ hpre rfl (by rw [List.length_map]; exact hn) hl.1 (by rw [List.map_append, List.map_reverse]; rfl) (lv_room (by rw [cat_map]; exact hcat)) hd hc
    · have hcode : wsM z = Cond.code z.1 z.2.1 z.2.2.1 none :: gtbl := by
        unfold wsM
        rw [g9]
      have hcb := va_cnB (R := X.R) (own := y.1.cls) (index := idx) (host := host) (mc := mc) (ms := ms) (rm := rmI d mc ms) n hts (good_wsM g1) hcode rfl rfl (C.2.2.2.2.2.2.2.2.2 _ g6) (hts _ g2) ⟨g3.1, g3.2, g4⟩ (hRR _ g5)
      exact va_runIN (nL := y.2.2.1) (own := y.1.cls) (As := As.map (cV adr)) (b := adr r) ⟨C.1, C.2.1, C.2.2.2.1, C.2.2.2.2.1, hts⟩ (hI X.l X.dC X.dI X.cA (fun k => adr (ρ k)) H.size) ⟨hcb, g8, hts _ g7⟩ hpre rfl (by rw [List.length_map]; exact hn) hl.1 (by rw [List.map_append, List.map_reverse]; rfl) (lv_room (by rw [cat_map]; exact hcat)) hd hc
  have hS := h.2.2.2.1
  intro T hT X0
  obtain ⟨v, st₀, t, T', LL, h0, X', hL, e1', e2, ⟨⟨hv, adr1, hag, hP', hD'⟩, hz', hk⟩, stp⟩ := run T hT X0
  have hv : v = none := by injection hv
  subst hv
  rw [h0] at hz' hk
  have hkeep : ∀ q : Nat, q < H.size → ¬ va_A (cw X.cA (fun k => adr (ρ k)) [e0]) H.size q → T'.heap[q]? = H[q]? := fun q h1 h2 => by rw [e1']; exact hk q h1 h2
  have hS1 : va_S X.A X.s.heap T'.heap (locs ++ LL) := ⟨Nat.le_trans hS.1 (by rw [e1']; exact hz'), fun q h1 h2 => by rw [hkeep q (Nat.lt_of_lt_of_le h1 hS.1) (fun z => h2 (hF q z))]; exact hS.2.1 q h1 h2, fun q hq => by
      rcases List.mem_append.mp hq with h | h
      · exact hS.2.2 q h
      · exact hF _ (hL q h)⟩
  obtain ⟨hP2, hD2⟩ := grow_join h.2.1 h.2.2.1 (fun q hq => C.2.2.2.2.2.2.2.2.1 q (Nat.le_trans hS.1 hq)) hrl hlen c2 hwf hρ0 hρ hag hkeep (by rw [e1']; exact hP') hD'
  rw [hw2] at hP2 hD2
  have hg := gad_agr adr adr1 w.length
  have c5 : rest.all (rfV w.length) = true := List.all_eq_true.mpr (fun v hv => List.all_eq_true.mp c4 v (List.mem_append_right _ (List.mem_cons_of_mem _ hv)))
  obtain ⟨t2, a1, b1⟩ := k (gad adr adr1 w.length) T'.heap (locs ++ LL) L ((hg.mono hn0).trans ha) ⟨rfl, hP2, hD2, hS1, h.2.2.2.2.cong (fun j hj => hg j (by omega))⟩ (by unfold hasL; rw [lvl_agr hg c3]; exact hl) T' rfl X'
  refine ⟨t2, stp t2 ?_, b1⟩
  rw [rfV_map hg c5] at a1
  exact a1
theorem g_back {Q' : Option Value → MW → Prop} {rest st0 : List Value} {adr : Nat → Nat} {H : Heap} {locs : List Loc} {L : Array Slot} {a : Array Value} (C : X.ok y) (ha : agr n0 adr a0) (h : Hp X.dC X.dI X.cA adr w.length X.A X.s H locs w) (hl : hasL adr L y.2.2.1 ls) (hr : va_Run X.p X.l X.e X.R X.s X.m X.args X.below X.meth X.c H locs kc ks 0 0 (F0 X.m pc L st0) (rest.map (cV adr)) (PQ Q' X.dC X.dI X.cA adr w.length (va_A (cw X.cA adr w) H.size) a) (va_A (cw X.cA adr w) H.size)) (kk : ∀ v w', Q' v w' → w'.length = w.length → GEv X y n0 a0 kc ks (pc + 3) ls (v.toList ++ rest) w') : W X.p X.l X.e X.R X.s X.m X.args X.below X.meth X.c H locs kc ks X.Z (F0 X.m pc L st0) := by
  have hπ := Part.self w
  have hF := hπ.free (cA := X.cA) (adr := adr) (sz := H.size) h.2.2.1 (fun q hq => C.2.2.2.2.2.2.2.2.1 q (Nat.le_trans h.2.2.2.1.1 hq))
  have hS := h.2.2.2.1
  intro T hT X0
  obtain ⟨v, st₀, t, T', LL, h0, X', hL, e1, e2, ⟨⟨r, w', hv, hp, hlen, hP'⟩, hz, hk⟩, stp⟩ := hr T hT X0
  have hv' : v = r.map (cV adr) := by injection hv
  subst hv'
  rw [h0] at hz hk
  have hkeep : ∀ q : Nat, q < H.size → ¬ va_A (cw X.cA adr w) H.size q → T'.heap[q]? = H[q]? := fun q h1 h2 => by rw [e1]; exact hk q h1 h2
  have hS1 : va_S X.A X.s.heap T'.heap (locs ++ LL) := ⟨Nat.le_trans hS.1 (by rw [e1]; exact hz), fun q h1 h2 => by rw [hkeep q (Nat.lt_of_lt_of_le h1 hS.1) (fun z => h2 (hF q z))]; exact hS.2.1 q h1 h2, fun q hq => by
      rcases List.mem_append.mp hq with h | h
      · exact hS.2.2 q h
      · exact hF _ (hL q h)⟩
  obtain ⟨hwl, hP1, hD1⟩ := merge h.2.1 h.2.2.1 hπ (H1 := T'.heap) hkeep hlen (by rw [e1]; exact hP')
  rw [wput_self w w' hlen] at hP1 hD1
  obtain ⟨t2, a1, b1⟩ := kk r w' hp hlen adr T'.heap (locs ++ LL) L ha ⟨rfl, hP1, hD1, hS1, h.2.2.2.2⟩ hl T' rfl X'
  refine ⟨t2, stp t2 ?_, b1⟩
  have hst : (r.map (cV adr)).toList ++ rest.map (cV adr) = (r.toList ++ rest).map (cV adr) := by
    rw [List.map_append]
    congr 1
    cases r <;> rfl
  show Steps _ _ _ (T'.setTop { F0 X.m pc L st0 with pc := pc + 3, stack := (r.map (cV adr)).toList ++ rest.map (cV adr) }) _
  rw [hst]
  exact a1
theorem g_callV {d : Nat} {Q' : Option Value → MW → Prop} {rest As : List Value} {z : MI} {idx n r ci : Nat} {fs : List Value} (C : X.ok y) (hcl : CLv y.1.cls idx z n) (hM : Ok d z (.ref r :: As) w Q') (hd : decode y.2.1 pc = .ok (.invokevirtual idx, 3)) (hpc : pc + 3 = pc') (hst : st = As.reverse ++ .ref r :: rest) (hn : As.length = n) (hcat : (rest.map fun v => v.category).sum ≤ 8) (hr : w[r]? = some (.inr (ci, fs))) (hci : (classes[ci]?).map (·.1) = some z.1.cls) (hR : d + 2 ≤ X.R.frames ∧ 100 * d + 200 ≤ X.R.locals) (hc : kc ≤ X.R.cells ∧ ks ≤ X.R.slots) (kk : ∀ v w', Q' v w' → w'.length = w.length → GEv X y n0 a0 kc ks pc' ls (v.toList ++ rest) w') : GEv X y n0 a0 kc ks pc ls st w := by
  subst hpc; subst hst
  obtain ⟨⟨g1, g2, g3, g4, g5⟩, g6, g7, g8⟩ := hcl
  intro adr H locs L ha h hl
  have hts := C.2.2.2.2.2.1
  obtain ⟨q, hq, hqc⟩ : ∃ q, classes[ci]? = some q ∧ q.1 = z.1.cls := by
    cases hc : classes[ci]? with
    | none => rw [hc] at hci; cases hci
    | some q => rw [hc] at hci; exact ⟨q, rfl, Option.some.inj hci⟩
  have hrecv := va_recv C.2.2.2.2.2.2.2.1 h.2.1 hq (cw_at (cA := X.cA) (adr := adr) hr)
  rw [hqc] at hrecv
  have hcb := callB_of (R := X.R) (own := y.1.cls) (index := idx) (mc := 0) (ms := 0) (rm := rmD d) n hts (good_wsM g1) rfl rfl rfl (hts _ g2) (hts _ g6) ⟨g3.1, g3.2, g4⟩ ⟨hR.1, by
    show 8 + (z.2.2.1 + 11) + (100 * d + 100) ≤ X.R.locals
    have := hR.2
    omega⟩
  refine g_back (a := (Value.ref (adr r) :: As.map (cV adr)).toArray) C ha h hl ?_ kk
  refine va_runV (nL := y.2.2.1) (own := y.1.cls) (C := z.1.cls) (As := As.map (cV adr)) (b := adr r) ⟨C.1, C.2.1, C.2.2.2.1, C.2.2.2.2.1, hts⟩ (hM X.l X.dC X.dI X.cA adr H.size) ⟨hcb, hts _ g7, hts _ g8⟩ ⟨?_, hrecv, ?_⟩ rfl (by rw [List.length_map]; exact hn) hl.1 ?_ (lv_room (by rw [cat_map]; exact hcat)) hd hc
  · exact Part.blind (fun u U h1 h2 h3 => ⟨by rw [h1]; exact h3.1, PN.same h2 h3.2.1, PP.moved h1 h2 h3.2.2⟩)
  · intro U hU hW
    exact ⟨rfl, (Part.self w).pre C h U hU hW⟩
  · rw [List.map_append, List.map_reverse]; rfl
theorem g_callS {d : Nat} {Q' : Option Value → MW → Prop} {rest As : List Value} {z : MI} {idx n : Nat} (C : X.ok y) (hcl : CLs y.1.cls idx z n) (hM : Ok d z As w Q') (hd : decode y.2.1 pc = .ok (.invokestatic idx, 3)) (hpc : pc + 3 = pc') (hst : st = As.reverse ++ rest) (hn : As.length = n) (hcat : (rest.map fun v => v.category).sum ≤ 8) (hR : d + 2 ≤ X.R.frames ∧ 100 * d + 200 ≤ X.R.locals) (hc : kc ≤ X.R.cells ∧ ks ≤ X.R.slots) (kk : ∀ v w', Q' v w' → w'.length = w.length → GEv X y n0 a0 kc ks pc' ls (v.toList ++ rest) w') : GEv X y n0 a0 kc ks pc ls st w := by
  subst hpc; subst hst
  obtain ⟨⟨g1, g2, g3, g4, g5⟩, g6, g7⟩ := hcl
  intro adr H locs L ha h hl
  have hts := C.2.2.2.2.2.1
  have hcb := callB_of (R := X.R) (own := y.1.cls) (index := idx) (mc := 0) (ms := 0) (rm := rmD d) n hts (good_wsM g1) rfl rfl rfl (hts _ g2) (hts _ g6) ⟨g3.1, g3.2, g4⟩ ⟨hR.1, by
    show 8 + (z.2.2.1 + 11) + (100 * d + 100) ≤ X.R.locals
    have := hR.2
    omega⟩
  refine g_back (a := (As.map (cV adr)).toArray) C ha h hl ?_ kk
  refine va_runS (nL := y.2.2.1) (own := y.1.cls) (As := As.map (cV adr)) ⟨C.1, C.2.1, C.2.2.2.1, C.2.2.2.2.1, hts⟩ (hM X.l X.dC X.dI X.cA adr H.size) ⟨hcb, hts _ g7⟩ ⟨?_, ?_⟩ rfl (by rw [List.length_map]; exact hn) hl.1 ?_ (lv_room (by rw [cat_map]; exact hcat)) hd hc
  · exact Part.blind (fun u U h1 h2 h3 => ⟨by rw [h1]; exact h3.1, PN.same h2 h3.2.1, PP.moved h1 h2 h3.2.2⟩)
  · intro U hU hW
    exact ⟨rfl, (Part.self w).pre C h U hU hW⟩
  · rw [List.map_append, List.map_reverse]
end GCALL
