/-! CALLS. A callee's world is a part of the caller's: π, its cells' places there; ρ, its names turned. -/
def ρo (π : List Nat) (k : Nat) : Nat := if 997 ≤ k then k else π.getD k 0
/-- the part π of w is the world w0, its names turned -/
def Part (w : MW) (π : List Nat) (ρ : Nat → Nat) (w0 : MW) : Prop := va_nd π = true ∧ ((∀ k, 997 ≤ k → ρ k = k) ∧ ∀ i k : Nat, π[i]? = some k → ρ i = k) ∧ π.map (fun i => w[i]?) = w0.map (fun e => some (renE ρ e))
theorem Part.get {w w0 : MW} {π : List Nat} {ρ : Nat → Nat} (h : Part w π ρ w0) {i k : Nat} (hi : π[i]? = some k) : ∃ e, w0[i]? = some e ∧ w[k]? = some (renE ρ e) := by
  have h1 : (π.map (fun i => w[i]?))[i]? = some (w[k]?) := by rw [List.getElem?_map, hi]; rfl
  rw [h.2.2, List.getElem?_map] at h1
  cases he : w0[i]? with
  | none => rw [he] at h1; cases h1
  | some e => rw [he] at h1; exact ⟨e, rfl, (Option.some.inj h1).symm⟩
theorem Part.len {w w0 : MW} {π : List Nat} {ρ : Nat → Nat} (h : Part w π ρ w0) : π.length = w0.length := by
  have := congrArg List.length h.2.2
  simpa using this
/-- a part by its places -/
theorem Part.of {w w0 : MW} (π : List Nat) (hn : va_nd π = true) (hl : (decide (π.length < 997)) = true) (h : π.map (fun i => w[i]?) = w0.map (fun e => some (renE (ρo π) e))) : Part w π (ρo π) w0 := by
  refine ⟨hn, ⟨fun k hk => if_pos hk, fun i k hk => ?_⟩, h⟩
  have hi : i < π.length := (List.getElem?_eq_some_iff.mp hk).1
  have := of_decide_eq_true hl
  unfold ρo
  rw [if_neg (by omega), List.getD_eq_getElem?_getD, hk]; rfl
theorem cV_id (v : Value) : cV (fun k => k) v = v := by cases v <;> rfl
theorem renE_id (e : ME) : renE (fun k => k) e = e := by
  cases e with
  | inl a => rfl
  | inr o => show Sum.inr (o.1, o.2.map (cV fun k => k)) = _; rw [show cV (fun k => k) = id from funext cV_id, List.map_id]
theorem va_nd_of_nodup : ∀ (l : List Nat), l.Nodup → va_nd l = true
  | [], _ => rfl
  | a :: l, h => by
    have h' := List.nodup_cons.mp h
    show (decide (a ∉ l) && va_nd l) = true
    rw [va_nd_of_nodup l h'.2, decide_eq_true h'.1]; rfl
/-- the whole world -/
theorem Part.self (w : MW) : Part w (List.range w.length) (fun k => k) w := by
  refine ⟨va_nd_of_nodup _ List.nodup_range, ⟨fun _ _ => rfl, fun i k hk => ?_⟩, ?_⟩
  · have hi := (List.getElem?_eq_some_iff.mp hk).1
    rw [List.length_range] at hi
    rw [List.getElem?_range hi] at hk
    exact Option.some.inj hk
  · apply List.ext_getElem?
    intro i
    rw [List.getElem?_map, List.getElem?_map]
    by_cases hi : i < w.length
    · rw [List.getElem?_range hi, List.getElem?_eq_getElem hi]
      show some (w[i]?) = some (some (renE (fun k => k) w[i]))
      rw [renE_id, List.getElem?_eq_getElem hi]
    · rw [List.getElem?_eq_none (by rw [List.length_range]; omega), List.getElem?_eq_none (by omega)]; rfl
theorem wput_self (w w' : MW) (h : w'.length = w.length) : wput w (List.range w.length) (w'.map (renE (fun k => k))) = w' := by
  rw [show renE (fun k => k) = id from funext renE_id, List.map_id]
  apply List.ext_getElem?
  intro i
  by_cases hi : i < w.length
  · exact (wput_in w _ w' (va_nd_of_nodup _ List.nodup_range) (fun k hk => List.mem_range.mp hk) i i w'[i] (List.getElem?_range hi) (List.getElem?_eq_getElem (by omega))).trans (List.getElem?_eq_getElem (by omega)).symm
  · rw [List.getElem?_eq_none (by rw [wput_len]; omega), List.getElem?_eq_none (by omega)]
theorem Part.wc {w w0 : MW} {π : List Nat} {ρ : Nat → Nat} (h : Part w π ρ w0) (cA : FieldType → ClassId) (adr : Nat → Nat) : ∀ (i : Nat) (q : Nat × va_E), (cw cA (fun k => adr (ρ k)) w0)[i]? = some q → ∃ k, π[i]? = some k ∧ (cw cA adr w)[k]? = some q := by
  intro i q hq
  obtain ⟨e, h1, rfl⟩ := cw_of hq
  have hi : i < π.length := by rw [h.len]; exact (List.getElem?_eq_some_iff.mp h1).1
  obtain ⟨k, hk⟩ : ∃ k, π[i]? = some k := ⟨π[i], by rw [List.getElem?_eq_getElem hi]⟩
  obtain ⟨e', h2, h3⟩ := h.get hk
  rw [h1] at h2
  cases h2
  refine ⟨k, hk, ?_⟩
  rw [cw_at h3, cE_ren, h.2.1.2 i k hk]
theorem Part.free {w w0 : MW} {π : List Nat} {ρ : Nat → Nat} (h : Part w π ρ w0) {cA : FieldType → ClassId} {adr : Nat → Nat} {A : Nat → Prop} {sz : Nat} (hD : va_D A (cw cA adr w)) (hA : ∀ q, sz ≤ q → A q) : ∀ q, va_A (cw cA (fun k => adr (ρ k)) w0) sz q → A q := by
  intro q hq
  rcases hq with ⟨k, e, hk⟩ | hq
  · obtain ⟨j, -, hj⟩ := h.wc cA adr k _ hk
    exact hD.2 j _ hj
  · exact hA q hq
section CALLS
variable {d : Nat} {y : MI} {p : Program} {l : Launch} {e : Env} {s : State} {m : MethodId} {args : Array Value} {below : List Frame} {meth : Method} {c : Code} {dC : Nat → ClassId} {dI : Nat → Nat → Nat} {cA : FieldType → ClassId} {adr : Nat → Nat} {A : Nat → Prop} {n0 : Nat} {H : Heap} {locs : List Loc} {L : Array Slot} {w w0 : MW} {π : List Nat} {ρ : Nat → Nat}
/-- the callee's start, out of the caller's world -/
theorem Part.pre (C : Cx y p s m args meth c dC dI cA A) (h : Hp dC dI cA adr n0 A s H locs w) (hπ : Part w π ρ w0) (U : State) (hU : U.heap = H) (hW : s.WarmedH U.vm) : U.heap.size = H.size ∧ PN U ∧ PP dC dI cA (fun k => adr (ρ k)) w0.length (va_A (cw cA (fun k => adr (ρ k)) w0) H.size) w0 U := by
  refine ⟨by rw [hU], C.2.2.2.2.2.2.2.2.2.warm hW, rfl, ?_, va_K.moved hW.alike C.2.2.2.2.2.2.2.1, ?_, ?_⟩
  · rw [hU]
    intro k q hk
    obtain ⟨j, -, hj⟩ := hπ.wc cA adr k q hk
    exact h.2.1 j q hj
  · refine ⟨fun i j x z hi hj hxz => ?_, fun k q hk => va_A.in hk⟩
    obtain ⟨i', g1, g2⟩ := hπ.wc cA adr i x hi
    obtain ⟨j', g3, g4⟩ := hπ.wc cA adr j z hj
    have := h.2.2.1.1 i' j' x z g2 g4 hxz
    subst this
    exact va_nd_inj π hπ.1 i j i' g1 g3
  · rw [hU]
    have h1 : SX (fun k => adr (ρ k)) A s H := (h.2.2.2.2.heap h.2.2.2.1).cong (fun k hk => by rw [hπ.2.1.1 k hk])
    exact (h1.narrow (hπ.free h.2.2.1 (fun q hq => C.2.2.2.2.2.2.2.2.1 q (Nat.le_trans h.2.2.2.1.1 hq)))).warm hW
theorem Part.blind {av : List Value} {Z : State → Prop} (hZ : ∀ u U : State, U.heap = u.heap → U.vm = u.vm → Z u → Z U) : FrameBlind (va_Pc av Z) := by
  intro a U g mk q
  exact ⟨q.1, hZ U _ rfl rfl q.2⟩
theorem PP.moved {B : Nat → Prop} {n1 : Nat} {u U : State} (hh : U.heap = u.heap) (hv : U.vm = u.vm) (h : PP dC dI cA adr n1 B w u) : PP dC dI cA adr n1 B w U := by
  obtain ⟨h1, h2, h3, h4, h5⟩ := h
  refine ⟨h1, by rw [hh]; exact h2, va_K.moved (by rw [hv]; exact Vm.Alike.refl _) h3, h4, ?_⟩
  rw [hh]; exact h5.same hv
/-- a part's new cells put back among the rest -/
theorem merge {w' : MW} {H1 : Heap} (hP : va_P (dC, dI) classes (cw cA adr w) H) (hD : va_D A (cw cA adr w)) (hπ : Part w π ρ w0) (hkeep : ∀ q : Nat, q < H.size → ¬ va_A (cw cA (fun k => adr (ρ k)) w0) H.size q → H1[q]? = H[q]?) (hlen : w'.length = w0.length) (hP' : va_P (dC, dI) classes (cw cA (fun k => adr (ρ k)) w') H1) :
    (wput w π (w'.map (renE ρ))).length = w.length ∧ va_P (dC, dI) classes (cw cA adr (wput w π (w'.map (renE ρ)))) H1 ∧ va_D A (cw cA adr (wput w π (w'.map (renE ρ)))) := by
  have hkl : ∀ k ∈ π, k < w.length := by
    intro k hk
    obtain ⟨i, hi⟩ := List.getElem?_of_mem hk
    obtain ⟨e, -, h2⟩ := hπ.get hi
    exact (List.getElem?_eq_some_iff.mp h2).1
  have hwl : (wput w π (w'.map (renE ρ))).length = w.length := wput_len _ _ _
  refine ⟨hwl, ?_⟩
  -- the new world
  have hget : ∀ (k : Nat) (e : ME), (wput w π (w'.map (renE ρ)))[k]? = some e → (∃ (i : Nat) (e' : ME), π[i]? = some k ∧ w'[i]? = some e' ∧ e = renE ρ e') ∨ (k ∉ π ∧ w[k]? = some e) := by
    intro k e' hk
    by_cases hm : k ∈ π
    · left
      obtain ⟨i, hi⟩ := List.getElem?_of_mem hm
      have hi' : i < w'.length := by rw [hlen, ← hπ.len]; exact (List.getElem?_eq_some_iff.mp hi).1
      have h3 : w'[i]? = some w'[i] := List.getElem?_eq_getElem hi'
      have := wput_in w π (w'.map (renE ρ)) hπ.1 hkl i k (renE ρ w'[i]) hi (by rw [List.getElem?_map, h3]; rfl)
      rw [this] at hk
      exact ⟨i, w'[i], hi, h3, (Option.some.inj hk).symm⟩
    · right
      rw [wput_out _ _ _ _ hm] at hk
      exact ⟨hm, hk⟩
  have hP1 : va_P (dC, dI) classes (cw cA adr (wput w π (w'.map (renE ρ)))) H1 := by
    intro k q hq
    obtain ⟨e', g1, rfl⟩ := cw_of hq
    rcases hget k e' g1 with ⟨i, e0, g2, g3, rfl⟩ | ⟨g2, g3⟩
    · rw [cE_ren]
      have := hP' i _ (cw_at (adr := fun k => adr (ρ k)) g3)
      rw [hπ.2.1.2 i k g2] at this
      exact this
    · have g4 := hP k _ (cw_at (cA := cA) (adr := adr) g3)
      refine g4.kept (hkeep _ g4.lt ?_)
      rintro (⟨j, e2', g5⟩ | g5)
      · obtain ⟨j', g6, g7⟩ := hπ.wc cA adr j _ g5
        have := hD.1 k j' _ _ (cw_at g3) g7 rfl
        subst this
        exact g2 (List.mem_of_getElem? g6)
      · exact absurd g4.lt (Nat.not_lt.mpr g5)
  have hD1 : va_D A (cw cA adr (wput w π (w'.map (renE ρ)))) := by
    have key : ∀ (k : Nat) (q : Nat × va_E), (cw cA adr (wput w π (w'.map (renE ρ))))[k]? = some q → ∃ q0, (cw cA adr w)[k]? = some q0 ∧ q0.1 = q.1 := by
      intro k q hq
      obtain ⟨e', g1, rfl⟩ := cw_of hq
      have hk' : k < w.length := by rw [← hwl]; exact (List.getElem?_eq_some_iff.mp g1).1
      exact ⟨_, cw_at (List.getElem?_eq_getElem hk'), rfl⟩
    refine ⟨fun i j x z hi hj hxz => ?_, fun k q hq => ?_⟩
    · obtain ⟨x0, g1, g2⟩ := key i x hi
      obtain ⟨z0, g3, g4⟩ := key j z hj
      exact hD.1 i j x0 z0 g1 g3 (g2.trans (hxz.trans g4.symm))
    · obtain ⟨q0, g1, g2⟩ := key k q hq
      rw [← g2]; exact hD.2 k q0 g1
  exact ⟨hP1, hD1⟩
/-- behind a call -/
theorem ev_back {Q' Q : Option Value → MW → Prop} {pc : Nat} {ls : List (Option Value)} {rest st0 : List Value} {a : Array Value} (C : Cx y p s m args meth c dC dI cA A) (h : Hp dC dI cA adr n0 A s H locs w) (hl : hasL adr L y.2.2.1 ls) (hπ : Part w π ρ w0)
    (hr : va_Run p l e (rmD (d + 1)) s m args below meth c H locs 0 0 0 0 (F0 m pc L st0) (rest.map (cV adr)) (PQ Q' dC dI cA (fun k => adr (ρ k)) w0.length (va_A (cw cA (fun k => adr (ρ k)) w0) H.size) a) (va_A (cw cA (fun k => adr (ρ k)) w0) H.size))
    (kk : ∀ v w', Q' v w' → w'.length = w0.length → Ev (d + 1) y Q (pc + 3) ls ((v.map (cV ρ)).toList ++ rest) (wput w π (w'.map (renE ρ)))) :
    W p l e (rmD (d + 1)) s m args below meth c H locs 0 0 (MQ below (PQ Q dC dI cA adr n0 A) args s 0 0 A) (F0 m pc L st0) := by
  have hF := hπ.free (sz := H.size) h.2.2.1 (fun q hq => C.2.2.2.2.2.2.2.2.1 q (Nat.le_trans h.2.2.2.1.1 hq))
  have hS := h.2.2.2.1
  intro T hT X
  obtain ⟨v, st₀, t, T', LL, h0, X', hL, e1, e2, ⟨⟨r, w', hv, hp, hlen, hP'⟩, hz, hk⟩, st⟩ := hr T hT X
  have hv' : v = r.map (cV (fun k => adr (ρ k))) := by injection hv
  subst hv'
  rw [h0] at hz hk
  have hkeep : ∀ q : Nat, q < H.size → ¬ va_A (cw cA (fun k => adr (ρ k)) w0) H.size q → T'.heap[q]? = H[q]? := fun q h1 h2 => by rw [e1]; exact hk q h1 h2
  have hS1 : va_S A s.heap T'.heap (locs ++ LL) := ⟨Nat.le_trans hS.1 (by rw [e1]; exact hz), fun q h1 h2 => by rw [hkeep q (Nat.lt_of_lt_of_le h1 hS.1) (fun z => h2 (hF q z))]; exact hS.2.1 q h1 h2, fun q hq => by
      rcases List.mem_append.mp hq with h | h
      · exact hS.2.2 q h
      · exact hF _ (hL q h)⟩
  obtain ⟨hwl, hP1, hD1⟩ := merge h.2.1 h.2.2.1 hπ (H1 := T'.heap) hkeep hlen (by rw [e1]; exact hP')
  obtain ⟨t2, a1, b1⟩ := kk r w' hp hlen p l e s m args below meth c dC dI cA adr A n0 T'.heap (locs ++ LL) L C ⟨by rw [hwl]; exact h.1, hP1, hD1, hS1, h.2.2.2.2⟩ hl T' rfl X'
  refine ⟨t2, st t2 ?_, b1⟩
  have hst : (r.map (cV (fun k => adr (ρ k)))).toList ++ rest.map (cV adr) = ((r.map (cV ρ)).toList ++ rest).map (cV adr) := by
    rw [List.map_append]
    congr 1
    cases r with
    | none => rfl
    | some u => show [cV _ u] = [cV adr (cV ρ u)]; rw [cV_comp]
  show Steps _ _ _ (T'.setTop { F0 m pc L st0 with pc := pc + 3, stack := (r.map (cV (fun k => adr (ρ k)))).toList ++ rest.map (cV adr) }) _
  rw [hst]
  exact a1
end CALLS
/-- a method in a larger world -/
theorem Ok.frame {d : Nat} {z : MI} {args0 args : List Value} {w0 w : MW} {Q0 Q : Option Value → MW → Prop} {π : List Nat} {ρ : Nat → Nat} (hM : Ok d z args0 w0 Q0) (hπ : Part w π ρ w0) (ha : args = args0.map (cV ρ))
    (hQ : ∀ v w', Q0 v w' → w'.length = w0.length → Q (v.map (cV ρ)) (wput w π (w'.map (renE ρ)))) : Ok d z args w Q := by
  intro l dC dI cA adr sz p e h1 h2 h3 s m av below h4 h5 h6 h7
  obtain ⟨rfl, hsz, hN, hlen, hP, hK, hD, hX⟩ := h6
  have hF := hπ.free (sz := sz) hD (fun q hq => Or.inr hq)
  have hargs : args.map (cV adr) = args0.map (cV (fun k => adr (ρ k))) := by rw [ha, cV_map_comp]
  rw [hargs] at h4
  have hpre : va_Pc (args0.map (cV (fun k => adr (ρ k)))) (fun U => U.heap.size = sz ∧ PN U ∧ PP dC dI cA (fun k => adr (ρ k)) w0.length (va_A (cw cA (fun k => adr (ρ k)) w0) sz) w0 U) (args0.map (cV (fun k => adr (ρ k)))).toArray s := by
    refine ⟨rfl, hsz, hN, rfl, ?_, hK, ?_, ?_⟩
    · intro k q hk
      obtain ⟨j, -, hj⟩ := hπ.wc cA adr k q hk
      exact hP j q hj
    · refine ⟨fun i j x z hi hj hxz => ?_, fun k q hk => va_A.in hk⟩
      obtain ⟨i', g1, g2⟩ := hπ.wc cA adr i x hi
      obtain ⟨j', g3, g4⟩ := hπ.wc cA adr j z hj
      have := hD.1 i' j' x z g2 g4 hxz
      subst this
      exact va_nd_inj π hπ.1 i j i' g1 g3
    · exact (hX.cong (fun k hk => by rw [hπ.2.1.1 k hk])).narrow hF
  obtain ⟨n, o, r1, r2, r3, ⟨⟨v, w', g1, g2, g3, g4⟩, g5⟩, LL, g6, g7⟩ := hM l dC dI cA (fun k => adr (ρ k)) sz p e h1 h2 h3 s m _ below h4 h5 hpre h7
  refine ⟨n, o, r1, r2, r3, ⟨⟨v.map (cV ρ), wput w π (w'.map (renE ρ)), ?_, hQ v w' g2 g3, ?_⟩, ?_⟩, LL, g6, fun q hq => hF q.base (g7 q hq)⟩
  · rw [g1]
    cases v with
    | none => rfl
    | some u => show Outcome.returned (some (cV _ u)) = Outcome.returned (some (cV adr (cV ρ u))); rw [cV_comp]
  · have hm := merge hP hD hπ (H1 := (stepsAlone p.tables e n s).heap) (fun q h1 h2 => g5.2 q h1 (by rw [← hsz]; exact h2)) g3 g4
    exact ⟨hm.1, hm.2.1⟩
  · exact ⟨g5.1, fun q h1 h2 => g5.2 q h1 (fun h3 => h2 (hF q h3))⟩
theorem Ok.mono {d : Nat} {z : MI} {args : List Value} {w : MW} {Q0 Q : Option Value → MW → Prop} (hM : Ok d z args w Q0) (hQ : ∀ v w', Q0 v w' → w'.length = w.length → Q v w') : Ok d z args w Q := by
  refine Ok.frame hM (Part.self w) (by rw [show cV (fun k => k) = id from funext cV_id, List.map_id]) (fun v w' h1 h2 => ?_)
  rw [wput_self w w' h2, show v.map (cV (fun k => k)) = v by rw [show cV (fun k => k) = id from funext cV_id]; cases v <;> rfl]
  exact hQ v w' h1 h2
theorem good_tbl : GoodIn gtbl gtbl := fun w hw => ⟨hw, good_of_word (List.mem_filter.mp hw).2⟩
theorem good_wsM {y : MI} (h : Cond.code y.1 y.2.1 y.2.2.1 y.2.2.2 ∈ gtbl) : GoodIn gtbl (wsM y) := by
  intro w hw
  rcases List.mem_cons.mp hw with rfl | hw
  · exact good_tbl _ h
  · exact good_tbl _ hw
/-- what a method's name says, and that its code is among the tables' words -/
def ML (z : MI) (n : Nat) : Prop := Cond.code z.1 z.2.1 z.2.2.1 z.2.2.2 ∈ gtbl ∧ Cond.initialized z.1.cls ∈ gtbl ∧ (z.1.cls ≠ "java/lang/invoke/MethodHandle" ∧ z.1.cls ≠ "java/lang/invoke/VarHandle") ∧ (parseMethodDescriptor z.1.desc).map (fun d => d.parameters.length) = some n ∧ z.2.2.1 ≤ 80
def CLv (own : String) (idx : Nat) (z : MI) (n : Nat) : Prop := ML z n ∧ Cond.methodLink own idx z.1 ∈ gtbl ∧ Cond.instanceMethod z.1 ∈ gtbl ∧ Cond.selects z.1.cls z.1 z.1 ∈ gtbl
def CLs (own : String) (idx : Nat) (z : MI) (n : Nat) : Prop := ML z n ∧ Cond.methodLink own idx z.1 ∈ gtbl ∧ Cond.static z.1 ∈ gtbl
def CLn (own : String) (idx : Nat) (z : MI) (n : Nat) : Prop := ML z n ∧ (∃ host, Cond.methodLinkNest own idx z.1 host ∈ ntbl) ∧ Cond.static z.1 ∈ gtbl
theorem rm_ok (d k : Nat) (h : k ≤ 80) : (rmD d).frames + 1 ≤ (rmD (d + 1)).frames ∧ 8 + (k + 11) + (rmD d).locals ≤ (rmD (d + 1)).locals := by
  refine ⟨Nat.le_refl _, ?_⟩
  show 8 + (k + 11) + (100 * d + 100) ≤ 100 * (d + 1) + 100
  omega
theorem cat_map (adr : Nat → Nat) (rest : List Value) : ((rest.map (cV adr)).map fun v => v.category).sum = (rest.map fun v => v.category).sum := by
  rw [List.map_map]; congr 1; exact List.map_congr_left (fun v _ => cV_cat adr v)
theorem ev_callV {d : Nat} {y : MI} {Q Q' : Option Value → MW → Prop} {pc pc' : Nat} {ls : List (Option Value)} {st rest As As0 : List Value} {w w0 : MW} {π : List Nat} {ρ : Nat → Nat} {z : MI} {idx n r r0 ci : Nat} {fs : List Value} (hcl : CLv y.1.cls idx z n) (hM : Ok d z (.ref r0 :: As0) w0 Q') (hd : decode y.2.1 pc = .ok (.invokevirtual idx, 3)) (hpc : pc + 3 = pc') (hπ : Part w π ρ w0) (hst : st = As.reverse ++ .ref r :: rest) (hAs : .ref r :: As = (.ref r0 :: As0).map (cV ρ)) (hn : As.length = n) (hcat : (rest.map fun v => v.category).sum ≤ 8) (hr : w[r]? = some (.inr (ci, fs))) (hci : (classes[ci]?).map (·.1) = some z.1.cls)
    (kk : ∀ v w', Q' v w' → w'.length = w0.length → Ev (d + 1) y Q pc' ls ((v.map (cV ρ)).toList ++ rest) (wput w π (w'.map (renE ρ)))) : Ev (d + 1) y Q pc ls st w := by
  subst hpc; subst hst
  obtain ⟨⟨g1, g2, g3, g4, g5⟩, g6, g7, g8⟩ := hcl
  intro p l e s m args below meth c dC dI cA adr A n0 H locs L C h hl
  have hargs : (Value.ref (adr r) :: As.map (cV adr)) = (Value.ref r0 :: As0).map (cV (fun k => adr (ρ k))) := by
    rw [← cV_map_comp adr ρ, ← hAs]; rfl
  refine ev_back (ρ := ρ) C h hl hπ (rest := rest) (a := (Value.ref (adr r) :: As.map (cV adr)).toArray) ?_ kk
  have hts := C.2.2.2.2.2.1
  obtain ⟨q, hq, hqc⟩ : ∃ q, classes[ci]? = some q ∧ q.1 = z.1.cls := by
    cases hc : classes[ci]? with
    | none => rw [hc] at hci; cases hci
    | some q => rw [hc] at hci; exact ⟨q, rfl, Option.some.inj hci⟩
  have hrecv := va_recv C.2.2.2.2.2.2.2.1 h.2.1 hq (cw_at (cA := cA) (adr := adr) hr)
  rw [hqc] at hrecv
  have hcb := callB_of (R := rmD (d + 1)) (own := y.1.cls) (index := idx) (mc := 0) (ms := 0) (rm := rmD d) n hts (good_wsM g1) rfl rfl rfl (hts _ g2) (hts _ g6) ⟨g3.1, g3.2, g4⟩ (rm_ok d _ g5)
  refine va_runV (nL := y.2.2.1) (own := y.1.cls) (C := z.1.cls) (As := As.map (cV adr)) (b := adr r) ⟨C.1, C.2.1, C.2.2.2.1, C.2.2.2.2.1, hts⟩ (hM l dC dI cA (fun k => adr (ρ k)) H.size) ⟨hcb, hts _ g7, hts _ g8⟩ ⟨?_, hrecv, ?_⟩ rfl (by rw [List.length_map]; exact hn) hl.1 ?_ (lv_room (by rw [cat_map]; exact hcat)) hd ⟨Nat.zero_le _, Nat.zero_le _⟩
  · exact Part.blind (fun u U h1 h2 h3 => ⟨by rw [h1]; exact h3.1, PN.same h2 h3.2.1, PP.moved h1 h2 h3.2.2⟩)
  · intro U hU hW
    exact ⟨by rw [hargs], hπ.pre C h U hU hW⟩
  · rw [List.map_append, List.map_reverse]; rfl
theorem ev_callT {d : Nat} {y : MI} {Q Q' : Option Value → MW → Prop} {pc pc' : Nat} {ls : List (Option Value)} {st rest As As0 : List Value} {w w0 : MW} {π : List Nat} {ρ : Nat → Nat} {z : MI} {idx n : Nat} (hcl : CLv y.1.cls idx z n) (hM : Ok d z (.ref 999 :: As0) w0 Q') (hd : decode y.2.1 pc = .ok (.invokevirtual idx, 3)) (hpc : pc + 3 = pc') (hπ : Part w π ρ w0) (hst : st = As.reverse ++ .ref 999 :: rest) (hAs : As = As0.map (cV ρ)) (hn : As.length = n) (hcat : (rest.map fun v => v.category).sum ≤ 8) (hzc : z.1.cls = "java/lang/String")
    (kk : ∀ v w', Q' v w' → w'.length = w0.length → Ev (d + 1) y Q pc' ls ((v.map (cV ρ)).toList ++ rest) (wput w π (w'.map (renE ρ)))) : Ev (d + 1) y Q pc ls st w := by
  subst hpc; subst hst
  obtain ⟨⟨g1, g2, g3, g4, g5⟩, g6, g7, g8⟩ := hcl
  intro p l e s m args below meth c dC dI cA adr A n0 H locs L C h hl
  have hargs : (Value.ref (adr 999) :: As.map (cV adr)) = (Value.ref 999 :: As0).map (cV (fun k => adr (ρ k))) := by
    have h9 : ρ 999 = 999 := hπ.2.1.1 999 (by omega)
    rw [← cV_map_comp adr ρ, List.map_cons, ← hAs]
    show _ = Value.ref (adr (ρ 999)) :: _
    rw [h9]
  refine ev_back (ρ := ρ) C h hl hπ (rest := rest) (a := (Value.ref (adr 999) :: As.map (cV adr)).toArray) ?_ kk
  have hts := C.2.2.2.2.2.1
  have hrecv := vk_recv h.2.2.2.2.2.1 (i := 0) (by omega) h.2.2.2.1
  rw [← hzc] at hrecv
  have hcb := callB_of (R := rmD (d + 1)) (own := y.1.cls) (index := idx) (mc := 0) (ms := 0) (rm := rmD d) n hts (good_wsM g1) rfl rfl rfl (hts _ g2) (hts _ g6) ⟨g3.1, g3.2, g4⟩ (rm_ok d _ g5)
  refine va_runV (nL := y.2.2.1) (own := y.1.cls) (C := z.1.cls) (As := As.map (cV adr)) (b := adr 999) ⟨C.1, C.2.1, C.2.2.2.1, C.2.2.2.2.1, hts⟩ (hM l dC dI cA (fun k => adr (ρ k)) H.size) ⟨hcb, hts _ g7, hts _ g8⟩ ⟨?_, hrecv, ?_⟩ rfl (by rw [List.length_map]; exact hn) hl.1 ?_ (lv_room (by rw [cat_map]; exact hcat)) hd ⟨Nat.zero_le _, Nat.zero_le _⟩
  · exact Part.blind (fun u U h1 h2 h3 => ⟨by rw [h1]; exact h3.1, PN.same h2 h3.2.1, PP.moved h1 h2 h3.2.2⟩)
  · intro U hU hW
    exact ⟨by rw [hargs], hπ.pre C h U hU hW⟩
  · rw [List.map_append, List.map_reverse]; rfl
theorem ev_callS {d : Nat} {y : MI} {Q Q' : Option Value → MW → Prop} {pc pc' : Nat} {ls : List (Option Value)} {st rest As As0 : List Value} {w w0 : MW} {π : List Nat} {ρ : Nat → Nat} {z : MI} {idx n : Nat} (hcl : CLs y.1.cls idx z n) (hM : Ok d z As0 w0 Q') (hd : decode y.2.1 pc = .ok (.invokestatic idx, 3)) (hpc : pc + 3 = pc') (hπ : Part w π ρ w0) (hst : st = As.reverse ++ rest) (hAs : As = As0.map (cV ρ)) (hn : As.length = n) (hcat : (rest.map fun v => v.category).sum ≤ 8)
    (kk : ∀ v w', Q' v w' → w'.length = w0.length → Ev (d + 1) y Q pc' ls ((v.map (cV ρ)).toList ++ rest) (wput w π (w'.map (renE ρ)))) : Ev (d + 1) y Q pc ls st w := by
  subst hpc; subst hst
  obtain ⟨⟨g1, g2, g3, g4, g5⟩, g6, g7⟩ := hcl
  intro p l e s m args below meth c dC dI cA adr A n0 H locs L C h hl
  have hargs : As.map (cV adr) = As0.map (cV (fun k => adr (ρ k))) := by
    rw [← cV_map_comp adr ρ, ← hAs]
  refine ev_back (ρ := ρ) C h hl hπ (rest := rest) (a := (As.map (cV adr)).toArray) ?_ kk
  have hts := C.2.2.2.2.2.1
  have hcb := callB_of (R := rmD (d + 1)) (own := y.1.cls) (index := idx) (mc := 0) (ms := 0) (rm := rmD d) n hts (good_wsM g1) rfl rfl rfl (hts _ g2) (hts _ g6) ⟨g3.1, g3.2, g4⟩ (rm_ok d _ g5)
  refine va_runS (nL := y.2.2.1) (own := y.1.cls) (As := As.map (cV adr)) ⟨C.1, C.2.1, C.2.2.2.1, C.2.2.2.2.1, hts⟩ (hM l dC dI cA (fun k => adr (ρ k)) H.size) ⟨hcb, hts _ g7⟩ ⟨?_, ?_⟩ rfl (by rw [List.length_map]; exact hn) hl.1 ?_ (lv_room (by rw [cat_map]; exact hcat)) hd ⟨Nat.zero_le _, Nat.zero_le _⟩
  · exact Part.blind (fun u U h1 h2 h3 => ⟨by rw [h1]; exact h3.1, PN.same h2 h3.2.1, PP.moved h1 h2 h3.2.2⟩)
  · intro U hU hW
    exact ⟨by rw [hargs], hπ.pre C h U hU hW⟩
  · rw [List.map_append, List.map_reverse]
theorem ev_callN {d : Nat} {y : MI} {Q Q' : Option Value → MW → Prop} {pc pc' : Nat} {ls : List (Option Value)} {st rest As As0 : List Value} {w w0 : MW} {π : List Nat} {ρ : Nat → Nat} {z : MI} {idx n : Nat} (hcl : CLn y.1.cls idx z n) (hM : Ok d z As0 w0 Q') (hd : decode y.2.1 pc = .ok (.invokestatic idx, 3)) (hpc : pc + 3 = pc') (hπ : Part w π ρ w0) (hst : st = As.reverse ++ rest) (hAs : As = As0.map (cV ρ)) (hn : As.length = n) (hcat : (rest.map fun v => v.category).sum ≤ 8)
    (kk : ∀ v w', Q' v w' → w'.length = w0.length → Ev (d + 1) y Q pc' ls ((v.map (cV ρ)).toList ++ rest) (wput w π (w'.map (renE ρ)))) : Ev (d + 1) y Q pc ls st w := by
  subst hpc; subst hst
  obtain ⟨⟨g1, g2, g3, g4, g5⟩, ⟨host, g6⟩, g7⟩ := hcl
  intro p l e s m args below meth c dC dI cA adr A n0 H locs L C h hl
  have hargs : As.map (cV adr) = As0.map (cV (fun k => adr (ρ k))) := by
    rw [← cV_map_comp adr ρ, ← hAs]
  refine ev_back (ρ := ρ) C h hl hπ (rest := rest) (a := (As.map (cV adr)).toArray) ?_ kk
  have hts := C.2.2.2.2.2.1
  have hcb := va_cnB (R := rmD (d + 1)) (own := y.1.cls) (index := idx) (host := host) (mc := 0) (ms := 0) (rm := rmD d) n hts (good_wsM g1) rfl rfl rfl (C.2.2.2.2.2.2.2.2.2 _ g6) (hts _ g2) ⟨g3.1, g3.2, g4⟩ (rm_ok d _ g5)
  refine va_runSN (nL := y.2.2.1) (own := y.1.cls) (As := As.map (cV adr)) ⟨C.1, C.2.1, C.2.2.2.1, C.2.2.2.2.1, hts⟩ (hM l dC dI cA (fun k => adr (ρ k)) H.size) ⟨hcb, hts _ g7, trivial⟩ ⟨?_, ?_⟩ rfl (by rw [List.length_map]; exact hn) hl.1 ?_ (lv_room (by rw [cat_map]; exact hcat)) hd ⟨Nat.zero_le _, Nat.zero_le _⟩
  · exact Part.blind (fun u U h1 h2 h3 => ⟨by rw [h1]; exact h3.1, PN.same h2 h3.2.1, PP.moved h1 h2 h3.2.2⟩)
  · intro U hU hW
    exact ⟨by rw [hargs], hπ.pre C h U hU hW⟩
  · rw [List.map_append, List.map_reverse]

def rt (v : Option Value) (w : MW) : Option Value → MW → Prop := fun v' w' => v' = v ∧ w' = w
theorem ev_cVr0 {d : Nat} {y : MI} {Q : Option Value → MW → Prop} {pc pc' : Nat} {ls : List (Option Value)} {rest : List Value} {w : MW} {z : MI} {idx : Nat} {r ci : Nat} {fs : List Value} {Q' : Option Value → MW → Prop} (hcl : CLv y.1.cls idx z 0) (hM : Ok d z [.ref r] w Q') (hd : decode y.2.1 pc = .ok (.invokevirtual idx, 3)) (hpc : pc + 3 = pc') (hcat : (decide ((rest.map fun v => v.category).sum ≤ 8)) = true) (hr : w[r]? = some (.inr (ci, fs))) (hci : (classes[ci]?).map (·.1) = some z.1.cls) (k : ∀ v w', Q' v w' → w'.length = w.length → Ev (d + 1) y Q pc' ls (v.toList ++ rest) w') : Ev (d + 1) y Q pc ls (.ref r :: rest) w := by
  refine ev_callV (As := []) (rest := rest) hcl hM hd hpc (Part.self w) rfl (by rw [show cV (fun k => k) = id from funext cV_id, List.map_id]) rfl (of_decide_eq_true hcat) hr hci (fun v w' hq hl => ?_)
  rw [wput_self w w' hl, show v.map (cV (fun k => k)) = v by rw [show cV (fun k => k) = id from funext cV_id]; cases v <;> rfl]
  exact k v w' hq hl
theorem ev_cVi0 {d : Nat} {y : MI} {Q : Option Value → MW → Prop} {pc pc' : Nat} {ls : List (Option Value)} {rest : List Value} {w : MW} {z : MI} {idx : Nat} {r ci : Nat} {fs : List Value} {u : Value} {w1 : MW} (hcl : CLv y.1.cls idx z 0) (hM : Ok d z [.ref r] w (rt (some u) w1)) (hd : decode y.2.1 pc = .ok (.invokevirtual idx, 3)) (hpc : pc + 3 = pc') (hcat : (decide ((rest.map fun v => v.category).sum ≤ 8)) = true) (hr : w[r]? = some (.inr (ci, fs))) (hci : (classes[ci]?).map (·.1) = some z.1.cls) (k : Ev (d + 1) y Q pc' ls (u :: rest) w1) : Ev (d + 1) y Q pc ls (.ref r :: rest) w :=
  ev_cVr0 hcl hM hd hpc hcat hr hci (fun v w' hq _ => by rw [hq.1, hq.2]; exact k)
theorem ev_cVv0 {d : Nat} {y : MI} {Q : Option Value → MW → Prop} {pc pc' : Nat} {ls : List (Option Value)} {rest : List Value} {w : MW} {z : MI} {idx : Nat} {r ci : Nat} {fs : List Value} {w1 : MW} (hcl : CLv y.1.cls idx z 0) (hM : Ok d z [.ref r] w (rt none w1)) (hd : decode y.2.1 pc = .ok (.invokevirtual idx, 3)) (hpc : pc + 3 = pc') (hcat : (decide ((rest.map fun v => v.category).sum ≤ 8)) = true) (hr : w[r]? = some (.inr (ci, fs))) (hci : (classes[ci]?).map (·.1) = some z.1.cls) (k : Ev (d + 1) y Q pc' ls rest w1) : Ev (d + 1) y Q pc ls (.ref r :: rest) w :=
  ev_cVr0 hcl hM hd hpc hcat hr hci (fun v w' hq _ => by rw [hq.1, hq.2]; exact k)
theorem ev_cVr1 {d : Nat} {y : MI} {Q : Option Value → MW → Prop} {pc pc' : Nat} {ls : List (Option Value)} {rest : List Value} {w : MW} {z : MI} {idx : Nat} {v1 : Value} {r ci : Nat} {fs : List Value} {Q' : Option Value → MW → Prop} (hcl : CLv y.1.cls idx z 1) (hM : Ok d z [.ref r, v1] w Q') (hd : decode y.2.1 pc = .ok (.invokevirtual idx, 3)) (hpc : pc + 3 = pc') (hcat : (decide ((rest.map fun v => v.category).sum ≤ 8)) = true) (hr : w[r]? = some (.inr (ci, fs))) (hci : (classes[ci]?).map (·.1) = some z.1.cls) (k : ∀ v w', Q' v w' → w'.length = w.length → Ev (d + 1) y Q pc' ls (v.toList ++ rest) w') : Ev (d + 1) y Q pc ls (v1 :: .ref r :: rest) w := by
  refine ev_callV (As := [v1]) (rest := rest) hcl hM hd hpc (Part.self w) rfl (by rw [show cV (fun k => k) = id from funext cV_id, List.map_id]) rfl (of_decide_eq_true hcat) hr hci (fun v w' hq hl => ?_)
  rw [wput_self w w' hl, show v.map (cV (fun k => k)) = v by rw [show cV (fun k => k) = id from funext cV_id]; cases v <;> rfl]
  exact k v w' hq hl
theorem ev_cVi1 {d : Nat} {y : MI} {Q : Option Value → MW → Prop} {pc pc' : Nat} {ls : List (Option Value)} {rest : List Value} {w : MW} {z : MI} {idx : Nat} {v1 : Value} {r ci : Nat} {fs : List Value} {u : Value} {w1 : MW} (hcl : CLv y.1.cls idx z 1) (hM : Ok d z [.ref r, v1] w (rt (some u) w1)) (hd : decode y.2.1 pc = .ok (.invokevirtual idx, 3)) (hpc : pc + 3 = pc') (hcat : (decide ((rest.map fun v => v.category).sum ≤ 8)) = true) (hr : w[r]? = some (.inr (ci, fs))) (hci : (classes[ci]?).map (·.1) = some z.1.cls) (k : Ev (d + 1) y Q pc' ls (u :: rest) w1) : Ev (d + 1) y Q pc ls (v1 :: .ref r :: rest) w :=
  ev_cVr1 hcl hM hd hpc hcat hr hci (fun v w' hq _ => by rw [hq.1, hq.2]; exact k)
theorem ev_cVv1 {d : Nat} {y : MI} {Q : Option Value → MW → Prop} {pc pc' : Nat} {ls : List (Option Value)} {rest : List Value} {w : MW} {z : MI} {idx : Nat} {v1 : Value} {r ci : Nat} {fs : List Value} {w1 : MW} (hcl : CLv y.1.cls idx z 1) (hM : Ok d z [.ref r, v1] w (rt none w1)) (hd : decode y.2.1 pc = .ok (.invokevirtual idx, 3)) (hpc : pc + 3 = pc') (hcat : (decide ((rest.map fun v => v.category).sum ≤ 8)) = true) (hr : w[r]? = some (.inr (ci, fs))) (hci : (classes[ci]?).map (·.1) = some z.1.cls) (k : Ev (d + 1) y Q pc' ls rest w1) : Ev (d + 1) y Q pc ls (v1 :: .ref r :: rest) w :=
  ev_cVr1 hcl hM hd hpc hcat hr hci (fun v w' hq _ => by rw [hq.1, hq.2]; exact k)
theorem ev_cVr2 {d : Nat} {y : MI} {Q : Option Value → MW → Prop} {pc pc' : Nat} {ls : List (Option Value)} {rest : List Value} {w : MW} {z : MI} {idx : Nat} {v1 v2 : Value} {r ci : Nat} {fs : List Value} {Q' : Option Value → MW → Prop} (hcl : CLv y.1.cls idx z 2) (hM : Ok d z [.ref r, v1, v2] w Q') (hd : decode y.2.1 pc = .ok (.invokevirtual idx, 3)) (hpc : pc + 3 = pc') (hcat : (decide ((rest.map fun v => v.category).sum ≤ 8)) = true) (hr : w[r]? = some (.inr (ci, fs))) (hci : (classes[ci]?).map (·.1) = some z.1.cls) (k : ∀ v w', Q' v w' → w'.length = w.length → Ev (d + 1) y Q pc' ls (v.toList ++ rest) w') : Ev (d + 1) y Q pc ls (v2 :: v1 :: .ref r :: rest) w := by
  refine ev_callV (As := [v1, v2]) (rest := rest) hcl hM hd hpc (Part.self w) rfl (by rw [show cV (fun k => k) = id from funext cV_id, List.map_id]) rfl (of_decide_eq_true hcat) hr hci (fun v w' hq hl => ?_)
  rw [wput_self w w' hl, show v.map (cV (fun k => k)) = v by rw [show cV (fun k => k) = id from funext cV_id]; cases v <;> rfl]
  exact k v w' hq hl
theorem ev_cVi2 {d : Nat} {y : MI} {Q : Option Value → MW → Prop} {pc pc' : Nat} {ls : List (Option Value)} {rest : List Value} {w : MW} {z : MI} {idx : Nat} {v1 v2 : Value} {r ci : Nat} {fs : List Value} {u : Value} {w1 : MW} (hcl : CLv y.1.cls idx z 2) (hM : Ok d z [.ref r, v1, v2] w (rt (some u) w1)) (hd : decode y.2.1 pc = .ok (.invokevirtual idx, 3)) (hpc : pc + 3 = pc') (hcat : (decide ((rest.map fun v => v.category).sum ≤ 8)) = true) (hr : w[r]? = some (.inr (ci, fs))) (hci : (classes[ci]?).map (·.1) = some z.1.cls) (k : Ev (d + 1) y Q pc' ls (u :: rest) w1) : Ev (d + 1) y Q pc ls (v2 :: v1 :: .ref r :: rest) w :=
  ev_cVr2 hcl hM hd hpc hcat hr hci (fun v w' hq _ => by rw [hq.1, hq.2]; exact k)
theorem ev_cVv2 {d : Nat} {y : MI} {Q : Option Value → MW → Prop} {pc pc' : Nat} {ls : List (Option Value)} {rest : List Value} {w : MW} {z : MI} {idx : Nat} {v1 v2 : Value} {r ci : Nat} {fs : List Value} {w1 : MW} (hcl : CLv y.1.cls idx z 2) (hM : Ok d z [.ref r, v1, v2] w (rt none w1)) (hd : decode y.2.1 pc = .ok (.invokevirtual idx, 3)) (hpc : pc + 3 = pc') (hcat : (decide ((rest.map fun v => v.category).sum ≤ 8)) = true) (hr : w[r]? = some (.inr (ci, fs))) (hci : (classes[ci]?).map (·.1) = some z.1.cls) (k : Ev (d + 1) y Q pc' ls rest w1) : Ev (d + 1) y Q pc ls (v2 :: v1 :: .ref r :: rest) w :=
  ev_cVr2 hcl hM hd hpc hcat hr hci (fun v w' hq _ => by rw [hq.1, hq.2]; exact k)
theorem ev_cVr3 {d : Nat} {y : MI} {Q : Option Value → MW → Prop} {pc pc' : Nat} {ls : List (Option Value)} {rest : List Value} {w : MW} {z : MI} {idx : Nat} {v1 v2 v3 : Value} {r ci : Nat} {fs : List Value} {Q' : Option Value → MW → Prop} (hcl : CLv y.1.cls idx z 3) (hM : Ok d z [.ref r, v1, v2, v3] w Q') (hd : decode y.2.1 pc = .ok (.invokevirtual idx, 3)) (hpc : pc + 3 = pc') (hcat : (decide ((rest.map fun v => v.category).sum ≤ 8)) = true) (hr : w[r]? = some (.inr (ci, fs))) (hci : (classes[ci]?).map (·.1) = some z.1.cls) (k : ∀ v w', Q' v w' → w'.length = w.length → Ev (d + 1) y Q pc' ls (v.toList ++ rest) w') : Ev (d + 1) y Q pc ls (v3 :: v2 :: v1 :: .ref r :: rest) w := by
  refine ev_callV (As := [v1, v2, v3]) (rest := rest) hcl hM hd hpc (Part.self w) rfl (by rw [show cV (fun k => k) = id from funext cV_id, List.map_id]) rfl (of_decide_eq_true hcat) hr hci (fun v w' hq hl => ?_)
  rw [wput_self w w' hl, show v.map (cV (fun k => k)) = v by rw [show cV (fun k => k) = id from funext cV_id]; cases v <;> rfl]
  exact k v w' hq hl
theorem ev_cVi3 {d : Nat} {y : MI} {Q : Option Value → MW → Prop} {pc pc' : Nat} {ls : List (Option Value)} {rest : List Value} {w : MW} {z : MI} {idx : Nat} {v1 v2 v3 : Value} {r ci : Nat} {fs : List Value} {u : Value} {w1 : MW} (hcl : CLv y.1.cls idx z 3) (hM : Ok d z [.ref r, v1, v2, v3] w (rt (some u) w1)) (hd : decode y.2.1 pc = .ok (.invokevirtual idx, 3)) (hpc : pc + 3 = pc') (hcat : (decide ((rest.map fun v => v.category).sum ≤ 8)) = true) (hr : w[r]? = some (.inr (ci, fs))) (hci : (classes[ci]?).map (·.1) = some z.1.cls) (k : Ev (d + 1) y Q pc' ls (u :: rest) w1) : Ev (d + 1) y Q pc ls (v3 :: v2 :: v1 :: .ref r :: rest) w :=
  ev_cVr3 hcl hM hd hpc hcat hr hci (fun v w' hq _ => by rw [hq.1, hq.2]; exact k)
theorem ev_cVv3 {d : Nat} {y : MI} {Q : Option Value → MW → Prop} {pc pc' : Nat} {ls : List (Option Value)} {rest : List Value} {w : MW} {z : MI} {idx : Nat} {v1 v2 v3 : Value} {r ci : Nat} {fs : List Value} {w1 : MW} (hcl : CLv y.1.cls idx z 3) (hM : Ok d z [.ref r, v1, v2, v3] w (rt none w1)) (hd : decode y.2.1 pc = .ok (.invokevirtual idx, 3)) (hpc : pc + 3 = pc') (hcat : (decide ((rest.map fun v => v.category).sum ≤ 8)) = true) (hr : w[r]? = some (.inr (ci, fs))) (hci : (classes[ci]?).map (·.1) = some z.1.cls) (k : Ev (d + 1) y Q pc' ls rest w1) : Ev (d + 1) y Q pc ls (v3 :: v2 :: v1 :: .ref r :: rest) w :=
  ev_cVr3 hcl hM hd hpc hcat hr hci (fun v w' hq _ => by rw [hq.1, hq.2]; exact k)
theorem ev_cVr4 {d : Nat} {y : MI} {Q : Option Value → MW → Prop} {pc pc' : Nat} {ls : List (Option Value)} {rest : List Value} {w : MW} {z : MI} {idx : Nat} {v1 v2 v3 v4 : Value} {r ci : Nat} {fs : List Value} {Q' : Option Value → MW → Prop} (hcl : CLv y.1.cls idx z 4) (hM : Ok d z [.ref r, v1, v2, v3, v4] w Q') (hd : decode y.2.1 pc = .ok (.invokevirtual idx, 3)) (hpc : pc + 3 = pc') (hcat : (decide ((rest.map fun v => v.category).sum ≤ 8)) = true) (hr : w[r]? = some (.inr (ci, fs))) (hci : (classes[ci]?).map (·.1) = some z.1.cls) (k : ∀ v w', Q' v w' → w'.length = w.length → Ev (d + 1) y Q pc' ls (v.toList ++ rest) w') : Ev (d + 1) y Q pc ls (v4 :: v3 :: v2 :: v1 :: .ref r :: rest) w := by
  refine ev_callV (As := [v1, v2, v3, v4]) (rest := rest) hcl hM hd hpc (Part.self w) rfl (by rw [show cV (fun k => k) = id from funext cV_id, List.map_id]) rfl (of_decide_eq_true hcat) hr hci (fun v w' hq hl => ?_)
  rw [wput_self w w' hl, show v.map (cV (fun k => k)) = v by rw [show cV (fun k => k) = id from funext cV_id]; cases v <;> rfl]
  exact k v w' hq hl
theorem ev_cVi4 {d : Nat} {y : MI} {Q : Option Value → MW → Prop} {pc pc' : Nat} {ls : List (Option Value)} {rest : List Value} {w : MW} {z : MI} {idx : Nat} {v1 v2 v3 v4 : Value} {r ci : Nat} {fs : List Value} {u : Value} {w1 : MW} (hcl : CLv y.1.cls idx z 4) (hM : Ok d z [.ref r, v1, v2, v3, v4] w (rt (some u) w1)) (hd : decode y.2.1 pc = .ok (.invokevirtual idx, 3)) (hpc : pc + 3 = pc') (hcat : (decide ((rest.map fun v => v.category).sum ≤ 8)) = true) (hr : w[r]? = some (.inr (ci, fs))) (hci : (classes[ci]?).map (·.1) = some z.1.cls) (k : Ev (d + 1) y Q pc' ls (u :: rest) w1) : Ev (d + 1) y Q pc ls (v4 :: v3 :: v2 :: v1 :: .ref r :: rest) w :=
  ev_cVr4 hcl hM hd hpc hcat hr hci (fun v w' hq _ => by rw [hq.1, hq.2]; exact k)
theorem ev_cVv4 {d : Nat} {y : MI} {Q : Option Value → MW → Prop} {pc pc' : Nat} {ls : List (Option Value)} {rest : List Value} {w : MW} {z : MI} {idx : Nat} {v1 v2 v3 v4 : Value} {r ci : Nat} {fs : List Value} {w1 : MW} (hcl : CLv y.1.cls idx z 4) (hM : Ok d z [.ref r, v1, v2, v3, v4] w (rt none w1)) (hd : decode y.2.1 pc = .ok (.invokevirtual idx, 3)) (hpc : pc + 3 = pc') (hcat : (decide ((rest.map fun v => v.category).sum ≤ 8)) = true) (hr : w[r]? = some (.inr (ci, fs))) (hci : (classes[ci]?).map (·.1) = some z.1.cls) (k : Ev (d + 1) y Q pc' ls rest w1) : Ev (d + 1) y Q pc ls (v4 :: v3 :: v2 :: v1 :: .ref r :: rest) w :=
  ev_cVr4 hcl hM hd hpc hcat hr hci (fun v w' hq _ => by rw [hq.1, hq.2]; exact k)
theorem ev_cVr5 {d : Nat} {y : MI} {Q : Option Value → MW → Prop} {pc pc' : Nat} {ls : List (Option Value)} {rest : List Value} {w : MW} {z : MI} {idx : Nat} {v1 v2 v3 v4 v5 : Value} {r ci : Nat} {fs : List Value} {Q' : Option Value → MW → Prop} (hcl : CLv y.1.cls idx z 5) (hM : Ok d z [.ref r, v1, v2, v3, v4, v5] w Q') (hd : decode y.2.1 pc = .ok (.invokevirtual idx, 3)) (hpc : pc + 3 = pc') (hcat : (decide ((rest.map fun v => v.category).sum ≤ 8)) = true) (hr : w[r]? = some (.inr (ci, fs))) (hci : (classes[ci]?).map (·.1) = some z.1.cls) (k : ∀ v w', Q' v w' → w'.length = w.length → Ev (d + 1) y Q pc' ls (v.toList ++ rest) w') : Ev (d + 1) y Q pc ls (v5 :: v4 :: v3 :: v2 :: v1 :: .ref r :: rest) w := by
  refine ev_callV (As := [v1, v2, v3, v4, v5]) (rest := rest) hcl hM hd hpc (Part.self w) rfl (by rw [show cV (fun k => k) = id from funext cV_id, List.map_id]) rfl (of_decide_eq_true hcat) hr hci (fun v w' hq hl => ?_)
  rw [wput_self w w' hl, show v.map (cV (fun k => k)) = v by rw [show cV (fun k => k) = id from funext cV_id]; cases v <;> rfl]
  exact k v w' hq hl
theorem ev_cVi5 {d : Nat} {y : MI} {Q : Option Value → MW → Prop} {pc pc' : Nat} {ls : List (Option Value)} {rest : List Value} {w : MW} {z : MI} {idx : Nat} {v1 v2 v3 v4 v5 : Value} {r ci : Nat} {fs : List Value} {u : Value} {w1 : MW} (hcl : CLv y.1.cls idx z 5) (hM : Ok d z [.ref r, v1, v2, v3, v4, v5] w (rt (some u) w1)) (hd : decode y.2.1 pc = .ok (.invokevirtual idx, 3)) (hpc : pc + 3 = pc') (hcat : (decide ((rest.map fun v => v.category).sum ≤ 8)) = true) (hr : w[r]? = some (.inr (ci, fs))) (hci : (classes[ci]?).map (·.1) = some z.1.cls) (k : Ev (d + 1) y Q pc' ls (u :: rest) w1) : Ev (d + 1) y Q pc ls (v5 :: v4 :: v3 :: v2 :: v1 :: .ref r :: rest) w :=
  ev_cVr5 hcl hM hd hpc hcat hr hci (fun v w' hq _ => by rw [hq.1, hq.2]; exact k)
theorem ev_cVv5 {d : Nat} {y : MI} {Q : Option Value → MW → Prop} {pc pc' : Nat} {ls : List (Option Value)} {rest : List Value} {w : MW} {z : MI} {idx : Nat} {v1 v2 v3 v4 v5 : Value} {r ci : Nat} {fs : List Value} {w1 : MW} (hcl : CLv y.1.cls idx z 5) (hM : Ok d z [.ref r, v1, v2, v3, v4, v5] w (rt none w1)) (hd : decode y.2.1 pc = .ok (.invokevirtual idx, 3)) (hpc : pc + 3 = pc') (hcat : (decide ((rest.map fun v => v.category).sum ≤ 8)) = true) (hr : w[r]? = some (.inr (ci, fs))) (hci : (classes[ci]?).map (·.1) = some z.1.cls) (k : Ev (d + 1) y Q pc' ls rest w1) : Ev (d + 1) y Q pc ls (v5 :: v4 :: v3 :: v2 :: v1 :: .ref r :: rest) w :=
  ev_cVr5 hcl hM hd hpc hcat hr hci (fun v w' hq _ => by rw [hq.1, hq.2]; exact k)
theorem ev_cVr6 {d : Nat} {y : MI} {Q : Option Value → MW → Prop} {pc pc' : Nat} {ls : List (Option Value)} {rest : List Value} {w : MW} {z : MI} {idx : Nat} {v1 v2 v3 v4 v5 v6 : Value} {r ci : Nat} {fs : List Value} {Q' : Option Value → MW → Prop} (hcl : CLv y.1.cls idx z 6) (hM : Ok d z [.ref r, v1, v2, v3, v4, v5, v6] w Q') (hd : decode y.2.1 pc = .ok (.invokevirtual idx, 3)) (hpc : pc + 3 = pc') (hcat : (decide ((rest.map fun v => v.category).sum ≤ 8)) = true) (hr : w[r]? = some (.inr (ci, fs))) (hci : (classes[ci]?).map (·.1) = some z.1.cls) (k : ∀ v w', Q' v w' → w'.length = w.length → Ev (d + 1) y Q pc' ls (v.toList ++ rest) w') : Ev (d + 1) y Q pc ls (v6 :: v5 :: v4 :: v3 :: v2 :: v1 :: .ref r :: rest) w := by
  refine ev_callV (As := [v1, v2, v3, v4, v5, v6]) (rest := rest) hcl hM hd hpc (Part.self w) rfl (by rw [show cV (fun k => k) = id from funext cV_id, List.map_id]) rfl (of_decide_eq_true hcat) hr hci (fun v w' hq hl => ?_)
  rw [wput_self w w' hl, show v.map (cV (fun k => k)) = v by rw [show cV (fun k => k) = id from funext cV_id]; cases v <;> rfl]
  exact k v w' hq hl
theorem ev_cVi6 {d : Nat} {y : MI} {Q : Option Value → MW → Prop} {pc pc' : Nat} {ls : List (Option Value)} {rest : List Value} {w : MW} {z : MI} {idx : Nat} {v1 v2 v3 v4 v5 v6 : Value} {r ci : Nat} {fs : List Value} {u : Value} {w1 : MW} (hcl : CLv y.1.cls idx z 6) (hM : Ok d z [.ref r, v1, v2, v3, v4, v5, v6] w (rt (some u) w1)) (hd : decode y.2.1 pc = .ok (.invokevirtual idx, 3)) (hpc : pc + 3 = pc') (hcat : (decide ((rest.map fun v => v.category).sum ≤ 8)) = true) (hr : w[r]? = some (.inr (ci, fs))) (hci : (classes[ci]?).map (·.1) = some z.1.cls) (k : Ev (d + 1) y Q pc' ls (u :: rest) w1) : Ev (d + 1) y Q pc ls (v6 :: v5 :: v4 :: v3 :: v2 :: v1 :: .ref r :: rest) w :=
  ev_cVr6 hcl hM hd hpc hcat hr hci (fun v w' hq _ => by rw [hq.1, hq.2]; exact k)
theorem ev_cVv6 {d : Nat} {y : MI} {Q : Option Value → MW → Prop} {pc pc' : Nat} {ls : List (Option Value)} {rest : List Value} {w : MW} {z : MI} {idx : Nat} {v1 v2 v3 v4 v5 v6 : Value} {r ci : Nat} {fs : List Value} {w1 : MW} (hcl : CLv y.1.cls idx z 6) (hM : Ok d z [.ref r, v1, v2, v3, v4, v5, v6] w (rt none w1)) (hd : decode y.2.1 pc = .ok (.invokevirtual idx, 3)) (hpc : pc + 3 = pc') (hcat : (decide ((rest.map fun v => v.category).sum ≤ 8)) = true) (hr : w[r]? = some (.inr (ci, fs))) (hci : (classes[ci]?).map (·.1) = some z.1.cls) (k : Ev (d + 1) y Q pc' ls rest w1) : Ev (d + 1) y Q pc ls (v6 :: v5 :: v4 :: v3 :: v2 :: v1 :: .ref r :: rest) w :=
  ev_cVr6 hcl hM hd hpc hcat hr hci (fun v w' hq _ => by rw [hq.1, hq.2]; exact k)
theorem ev_cVr7 {d : Nat} {y : MI} {Q : Option Value → MW → Prop} {pc pc' : Nat} {ls : List (Option Value)} {rest : List Value} {w : MW} {z : MI} {idx : Nat} {v1 v2 v3 v4 v5 v6 v7 : Value} {r ci : Nat} {fs : List Value} {Q' : Option Value → MW → Prop} (hcl : CLv y.1.cls idx z 7) (hM : Ok d z [.ref r, v1, v2, v3, v4, v5, v6, v7] w Q') (hd : decode y.2.1 pc = .ok (.invokevirtual idx, 3)) (hpc : pc + 3 = pc') (hcat : (decide ((rest.map fun v => v.category).sum ≤ 8)) = true) (hr : w[r]? = some (.inr (ci, fs))) (hci : (classes[ci]?).map (·.1) = some z.1.cls) (k : ∀ v w', Q' v w' → w'.length = w.length → Ev (d + 1) y Q pc' ls (v.toList ++ rest) w') : Ev (d + 1) y Q pc ls (v7 :: v6 :: v5 :: v4 :: v3 :: v2 :: v1 :: .ref r :: rest) w := by
  refine ev_callV (As := [v1, v2, v3, v4, v5, v6, v7]) (rest := rest) hcl hM hd hpc (Part.self w) rfl (by rw [show cV (fun k => k) = id from funext cV_id, List.map_id]) rfl (of_decide_eq_true hcat) hr hci (fun v w' hq hl => ?_)
  rw [wput_self w w' hl, show v.map (cV (fun k => k)) = v by rw [show cV (fun k => k) = id from funext cV_id]; cases v <;> rfl]
  exact k v w' hq hl
theorem ev_cVi7 {d : Nat} {y : MI} {Q : Option Value → MW → Prop} {pc pc' : Nat} {ls : List (Option Value)} {rest : List Value} {w : MW} {z : MI} {idx : Nat} {v1 v2 v3 v4 v5 v6 v7 : Value} {r ci : Nat} {fs : List Value} {u : Value} {w1 : MW} (hcl : CLv y.1.cls idx z 7) (hM : Ok d z [.ref r, v1, v2, v3, v4, v5, v6, v7] w (rt (some u) w1)) (hd : decode y.2.1 pc = .ok (.invokevirtual idx, 3)) (hpc : pc + 3 = pc') (hcat : (decide ((rest.map fun v => v.category).sum ≤ 8)) = true) (hr : w[r]? = some (.inr (ci, fs))) (hci : (classes[ci]?).map (·.1) = some z.1.cls) (k : Ev (d + 1) y Q pc' ls (u :: rest) w1) : Ev (d + 1) y Q pc ls (v7 :: v6 :: v5 :: v4 :: v3 :: v2 :: v1 :: .ref r :: rest) w :=
  ev_cVr7 hcl hM hd hpc hcat hr hci (fun v w' hq _ => by rw [hq.1, hq.2]; exact k)
theorem ev_cVv7 {d : Nat} {y : MI} {Q : Option Value → MW → Prop} {pc pc' : Nat} {ls : List (Option Value)} {rest : List Value} {w : MW} {z : MI} {idx : Nat} {v1 v2 v3 v4 v5 v6 v7 : Value} {r ci : Nat} {fs : List Value} {w1 : MW} (hcl : CLv y.1.cls idx z 7) (hM : Ok d z [.ref r, v1, v2, v3, v4, v5, v6, v7] w (rt none w1)) (hd : decode y.2.1 pc = .ok (.invokevirtual idx, 3)) (hpc : pc + 3 = pc') (hcat : (decide ((rest.map fun v => v.category).sum ≤ 8)) = true) (hr : w[r]? = some (.inr (ci, fs))) (hci : (classes[ci]?).map (·.1) = some z.1.cls) (k : Ev (d + 1) y Q pc' ls rest w1) : Ev (d + 1) y Q pc ls (v7 :: v6 :: v5 :: v4 :: v3 :: v2 :: v1 :: .ref r :: rest) w :=
  ev_cVr7 hcl hM hd hpc hcat hr hci (fun v w' hq _ => by rw [hq.1, hq.2]; exact k)
theorem ev_cSr0 {d : Nat} {y : MI} {Q : Option Value → MW → Prop} {pc pc' : Nat} {ls : List (Option Value)} {rest : List Value} {w : MW} {z : MI} {idx : Nat} {Q' : Option Value → MW → Prop} (hcl : CLs y.1.cls idx z 0) (hM : Ok d z [] w Q') (hd : decode y.2.1 pc = .ok (.invokestatic idx, 3)) (hpc : pc + 3 = pc') (hcat : (decide ((rest.map fun v => v.category).sum ≤ 8)) = true) (k : ∀ v w', Q' v w' → w'.length = w.length → Ev (d + 1) y Q pc' ls (v.toList ++ rest) w') : Ev (d + 1) y Q pc ls (rest) w := by
  refine ev_callS (As := []) (rest := rest) hcl hM hd hpc (Part.self w) rfl (by rw [show cV (fun k => k) = id from funext cV_id, List.map_id]) rfl (of_decide_eq_true hcat) (fun v w' hq hl => ?_)
  rw [wput_self w w' hl, show v.map (cV (fun k => k)) = v by rw [show cV (fun k => k) = id from funext cV_id]; cases v <;> rfl]
  exact k v w' hq hl
theorem ev_cSi0 {d : Nat} {y : MI} {Q : Option Value → MW → Prop} {pc pc' : Nat} {ls : List (Option Value)} {rest : List Value} {w : MW} {z : MI} {idx : Nat} {u : Value} {w1 : MW} (hcl : CLs y.1.cls idx z 0) (hM : Ok d z [] w (rt (some u) w1)) (hd : decode y.2.1 pc = .ok (.invokestatic idx, 3)) (hpc : pc + 3 = pc') (hcat : (decide ((rest.map fun v => v.category).sum ≤ 8)) = true) (k : Ev (d + 1) y Q pc' ls (u :: rest) w1) : Ev (d + 1) y Q pc ls (rest) w :=
  ev_cSr0 hcl hM hd hpc hcat (fun v w' hq _ => by rw [hq.1, hq.2]; exact k)
theorem ev_cSv0 {d : Nat} {y : MI} {Q : Option Value → MW → Prop} {pc pc' : Nat} {ls : List (Option Value)} {rest : List Value} {w : MW} {z : MI} {idx : Nat} {w1 : MW} (hcl : CLs y.1.cls idx z 0) (hM : Ok d z [] w (rt none w1)) (hd : decode y.2.1 pc = .ok (.invokestatic idx, 3)) (hpc : pc + 3 = pc') (hcat : (decide ((rest.map fun v => v.category).sum ≤ 8)) = true) (k : Ev (d + 1) y Q pc' ls rest w1) : Ev (d + 1) y Q pc ls (rest) w :=
  ev_cSr0 hcl hM hd hpc hcat (fun v w' hq _ => by rw [hq.1, hq.2]; exact k)
theorem ev_cSr1 {d : Nat} {y : MI} {Q : Option Value → MW → Prop} {pc pc' : Nat} {ls : List (Option Value)} {rest : List Value} {w : MW} {z : MI} {idx : Nat} {v1 : Value} {Q' : Option Value → MW → Prop} (hcl : CLs y.1.cls idx z 1) (hM : Ok d z [v1] w Q') (hd : decode y.2.1 pc = .ok (.invokestatic idx, 3)) (hpc : pc + 3 = pc') (hcat : (decide ((rest.map fun v => v.category).sum ≤ 8)) = true) (k : ∀ v w', Q' v w' → w'.length = w.length → Ev (d + 1) y Q pc' ls (v.toList ++ rest) w') : Ev (d + 1) y Q pc ls (v1 :: rest) w := by
  refine ev_callS (As := [v1]) (rest := rest) hcl hM hd hpc (Part.self w) rfl (by rw [show cV (fun k => k) = id from funext cV_id, List.map_id]) rfl (of_decide_eq_true hcat) (fun v w' hq hl => ?_)
  rw [wput_self w w' hl, show v.map (cV (fun k => k)) = v by rw [show cV (fun k => k) = id from funext cV_id]; cases v <;> rfl]
  exact k v w' hq hl
theorem ev_cSi1 {d : Nat} {y : MI} {Q : Option Value → MW → Prop} {pc pc' : Nat} {ls : List (Option Value)} {rest : List Value} {w : MW} {z : MI} {idx : Nat} {v1 : Value} {u : Value} {w1 : MW} (hcl : CLs y.1.cls idx z 1) (hM : Ok d z [v1] w (rt (some u) w1)) (hd : decode y.2.1 pc = .ok (.invokestatic idx, 3)) (hpc : pc + 3 = pc') (hcat : (decide ((rest.map fun v => v.category).sum ≤ 8)) = true) (k : Ev (d + 1) y Q pc' ls (u :: rest) w1) : Ev (d + 1) y Q pc ls (v1 :: rest) w :=
  ev_cSr1 hcl hM hd hpc hcat (fun v w' hq _ => by rw [hq.1, hq.2]; exact k)
theorem ev_cSv1 {d : Nat} {y : MI} {Q : Option Value → MW → Prop} {pc pc' : Nat} {ls : List (Option Value)} {rest : List Value} {w : MW} {z : MI} {idx : Nat} {v1 : Value} {w1 : MW} (hcl : CLs y.1.cls idx z 1) (hM : Ok d z [v1] w (rt none w1)) (hd : decode y.2.1 pc = .ok (.invokestatic idx, 3)) (hpc : pc + 3 = pc') (hcat : (decide ((rest.map fun v => v.category).sum ≤ 8)) = true) (k : Ev (d + 1) y Q pc' ls rest w1) : Ev (d + 1) y Q pc ls (v1 :: rest) w :=
  ev_cSr1 hcl hM hd hpc hcat (fun v w' hq _ => by rw [hq.1, hq.2]; exact k)
theorem ev_cSr2 {d : Nat} {y : MI} {Q : Option Value → MW → Prop} {pc pc' : Nat} {ls : List (Option Value)} {rest : List Value} {w : MW} {z : MI} {idx : Nat} {v1 v2 : Value} {Q' : Option Value → MW → Prop} (hcl : CLs y.1.cls idx z 2) (hM : Ok d z [v1, v2] w Q') (hd : decode y.2.1 pc = .ok (.invokestatic idx, 3)) (hpc : pc + 3 = pc') (hcat : (decide ((rest.map fun v => v.category).sum ≤ 8)) = true) (k : ∀ v w', Q' v w' → w'.length = w.length → Ev (d + 1) y Q pc' ls (v.toList ++ rest) w') : Ev (d + 1) y Q pc ls (v2 :: v1 :: rest) w := by
  refine ev_callS (As := [v1, v2]) (rest := rest) hcl hM hd hpc (Part.self w) rfl (by rw [show cV (fun k => k) = id from funext cV_id, List.map_id]) rfl (of_decide_eq_true hcat) (fun v w' hq hl => ?_)
  rw [wput_self w w' hl, show v.map (cV (fun k => k)) = v by rw [show cV (fun k => k) = id from funext cV_id]; cases v <;> rfl]
  exact k v w' hq hl
theorem ev_cSi2 {d : Nat} {y : MI} {Q : Option Value → MW → Prop} {pc pc' : Nat} {ls : List (Option Value)} {rest : List Value} {w : MW} {z : MI} {idx : Nat} {v1 v2 : Value} {u : Value} {w1 : MW} (hcl : CLs y.1.cls idx z 2) (hM : Ok d z [v1, v2] w (rt (some u) w1)) (hd : decode y.2.1 pc = .ok (.invokestatic idx, 3)) (hpc : pc + 3 = pc') (hcat : (decide ((rest.map fun v => v.category).sum ≤ 8)) = true) (k : Ev (d + 1) y Q pc' ls (u :: rest) w1) : Ev (d + 1) y Q pc ls (v2 :: v1 :: rest) w :=
  ev_cSr2 hcl hM hd hpc hcat (fun v w' hq _ => by rw [hq.1, hq.2]; exact k)
theorem ev_cSv2 {d : Nat} {y : MI} {Q : Option Value → MW → Prop} {pc pc' : Nat} {ls : List (Option Value)} {rest : List Value} {w : MW} {z : MI} {idx : Nat} {v1 v2 : Value} {w1 : MW} (hcl : CLs y.1.cls idx z 2) (hM : Ok d z [v1, v2] w (rt none w1)) (hd : decode y.2.1 pc = .ok (.invokestatic idx, 3)) (hpc : pc + 3 = pc') (hcat : (decide ((rest.map fun v => v.category).sum ≤ 8)) = true) (k : Ev (d + 1) y Q pc' ls rest w1) : Ev (d + 1) y Q pc ls (v2 :: v1 :: rest) w :=
  ev_cSr2 hcl hM hd hpc hcat (fun v w' hq _ => by rw [hq.1, hq.2]; exact k)
theorem ev_cSr3 {d : Nat} {y : MI} {Q : Option Value → MW → Prop} {pc pc' : Nat} {ls : List (Option Value)} {rest : List Value} {w : MW} {z : MI} {idx : Nat} {v1 v2 v3 : Value} {Q' : Option Value → MW → Prop} (hcl : CLs y.1.cls idx z 3) (hM : Ok d z [v1, v2, v3] w Q') (hd : decode y.2.1 pc = .ok (.invokestatic idx, 3)) (hpc : pc + 3 = pc') (hcat : (decide ((rest.map fun v => v.category).sum ≤ 8)) = true) (k : ∀ v w', Q' v w' → w'.length = w.length → Ev (d + 1) y Q pc' ls (v.toList ++ rest) w') : Ev (d + 1) y Q pc ls (v3 :: v2 :: v1 :: rest) w := by
  refine ev_callS (As := [v1, v2, v3]) (rest := rest) hcl hM hd hpc (Part.self w) rfl (by rw [show cV (fun k => k) = id from funext cV_id, List.map_id]) rfl (of_decide_eq_true hcat) (fun v w' hq hl => ?_)
  rw [wput_self w w' hl, show v.map (cV (fun k => k)) = v by rw [show cV (fun k => k) = id from funext cV_id]; cases v <;> rfl]
  exact k v w' hq hl
theorem ev_cSi3 {d : Nat} {y : MI} {Q : Option Value → MW → Prop} {pc pc' : Nat} {ls : List (Option Value)} {rest : List Value} {w : MW} {z : MI} {idx : Nat} {v1 v2 v3 : Value} {u : Value} {w1 : MW} (hcl : CLs y.1.cls idx z 3) (hM : Ok d z [v1, v2, v3] w (rt (some u) w1)) (hd : decode y.2.1 pc = .ok (.invokestatic idx, 3)) (hpc : pc + 3 = pc') (hcat : (decide ((rest.map fun v => v.category).sum ≤ 8)) = true) (k : Ev (d + 1) y Q pc' ls (u :: rest) w1) : Ev (d + 1) y Q pc ls (v3 :: v2 :: v1 :: rest) w :=
  ev_cSr3 hcl hM hd hpc hcat (fun v w' hq _ => by rw [hq.1, hq.2]; exact k)
theorem ev_cSv3 {d : Nat} {y : MI} {Q : Option Value → MW → Prop} {pc pc' : Nat} {ls : List (Option Value)} {rest : List Value} {w : MW} {z : MI} {idx : Nat} {v1 v2 v3 : Value} {w1 : MW} (hcl : CLs y.1.cls idx z 3) (hM : Ok d z [v1, v2, v3] w (rt none w1)) (hd : decode y.2.1 pc = .ok (.invokestatic idx, 3)) (hpc : pc + 3 = pc') (hcat : (decide ((rest.map fun v => v.category).sum ≤ 8)) = true) (k : Ev (d + 1) y Q pc' ls rest w1) : Ev (d + 1) y Q pc ls (v3 :: v2 :: v1 :: rest) w :=
  ev_cSr3 hcl hM hd hpc hcat (fun v w' hq _ => by rw [hq.1, hq.2]; exact k)
theorem ev_cSr4 {d : Nat} {y : MI} {Q : Option Value → MW → Prop} {pc pc' : Nat} {ls : List (Option Value)} {rest : List Value} {w : MW} {z : MI} {idx : Nat} {v1 v2 v3 v4 : Value} {Q' : Option Value → MW → Prop} (hcl : CLs y.1.cls idx z 4) (hM : Ok d z [v1, v2, v3, v4] w Q') (hd : decode y.2.1 pc = .ok (.invokestatic idx, 3)) (hpc : pc + 3 = pc') (hcat : (decide ((rest.map fun v => v.category).sum ≤ 8)) = true) (k : ∀ v w', Q' v w' → w'.length = w.length → Ev (d + 1) y Q pc' ls (v.toList ++ rest) w') : Ev (d + 1) y Q pc ls (v4 :: v3 :: v2 :: v1 :: rest) w := by
  refine ev_callS (As := [v1, v2, v3, v4]) (rest := rest) hcl hM hd hpc (Part.self w) rfl (by rw [show cV (fun k => k) = id from funext cV_id, List.map_id]) rfl (of_decide_eq_true hcat) (fun v w' hq hl => ?_)
  rw [wput_self w w' hl, show v.map (cV (fun k => k)) = v by rw [show cV (fun k => k) = id from funext cV_id]; cases v <;> rfl]
  exact k v w' hq hl
theorem ev_cSi4 {d : Nat} {y : MI} {Q : Option Value → MW → Prop} {pc pc' : Nat} {ls : List (Option Value)} {rest : List Value} {w : MW} {z : MI} {idx : Nat} {v1 v2 v3 v4 : Value} {u : Value} {w1 : MW} (hcl : CLs y.1.cls idx z 4) (hM : Ok d z [v1, v2, v3, v4] w (rt (some u) w1)) (hd : decode y.2.1 pc = .ok (.invokestatic idx, 3)) (hpc : pc + 3 = pc') (hcat : (decide ((rest.map fun v => v.category).sum ≤ 8)) = true) (k : Ev (d + 1) y Q pc' ls (u :: rest) w1) : Ev (d + 1) y Q pc ls (v4 :: v3 :: v2 :: v1 :: rest) w :=
  ev_cSr4 hcl hM hd hpc hcat (fun v w' hq _ => by rw [hq.1, hq.2]; exact k)
theorem ev_cSv4 {d : Nat} {y : MI} {Q : Option Value → MW → Prop} {pc pc' : Nat} {ls : List (Option Value)} {rest : List Value} {w : MW} {z : MI} {idx : Nat} {v1 v2 v3 v4 : Value} {w1 : MW} (hcl : CLs y.1.cls idx z 4) (hM : Ok d z [v1, v2, v3, v4] w (rt none w1)) (hd : decode y.2.1 pc = .ok (.invokestatic idx, 3)) (hpc : pc + 3 = pc') (hcat : (decide ((rest.map fun v => v.category).sum ≤ 8)) = true) (k : Ev (d + 1) y Q pc' ls rest w1) : Ev (d + 1) y Q pc ls (v4 :: v3 :: v2 :: v1 :: rest) w :=
  ev_cSr4 hcl hM hd hpc hcat (fun v w' hq _ => by rw [hq.1, hq.2]; exact k)
theorem ev_cSr5 {d : Nat} {y : MI} {Q : Option Value → MW → Prop} {pc pc' : Nat} {ls : List (Option Value)} {rest : List Value} {w : MW} {z : MI} {idx : Nat} {v1 v2 v3 v4 v5 : Value} {Q' : Option Value → MW → Prop} (hcl : CLs y.1.cls idx z 5) (hM : Ok d z [v1, v2, v3, v4, v5] w Q') (hd : decode y.2.1 pc = .ok (.invokestatic idx, 3)) (hpc : pc + 3 = pc') (hcat : (decide ((rest.map fun v => v.category).sum ≤ 8)) = true) (k : ∀ v w', Q' v w' → w'.length = w.length → Ev (d + 1) y Q pc' ls (v.toList ++ rest) w') : Ev (d + 1) y Q pc ls (v5 :: v4 :: v3 :: v2 :: v1 :: rest) w := by
  refine ev_callS (As := [v1, v2, v3, v4, v5]) (rest := rest) hcl hM hd hpc (Part.self w) rfl (by rw [show cV (fun k => k) = id from funext cV_id, List.map_id]) rfl (of_decide_eq_true hcat) (fun v w' hq hl => ?_)
  rw [wput_self w w' hl, show v.map (cV (fun k => k)) = v by rw [show cV (fun k => k) = id from funext cV_id]; cases v <;> rfl]
  exact k v w' hq hl
theorem ev_cSi5 {d : Nat} {y : MI} {Q : Option Value → MW → Prop} {pc pc' : Nat} {ls : List (Option Value)} {rest : List Value} {w : MW} {z : MI} {idx : Nat} {v1 v2 v3 v4 v5 : Value} {u : Value} {w1 : MW} (hcl : CLs y.1.cls idx z 5) (hM : Ok d z [v1, v2, v3, v4, v5] w (rt (some u) w1)) (hd : decode y.2.1 pc = .ok (.invokestatic idx, 3)) (hpc : pc + 3 = pc') (hcat : (decide ((rest.map fun v => v.category).sum ≤ 8)) = true) (k : Ev (d + 1) y Q pc' ls (u :: rest) w1) : Ev (d + 1) y Q pc ls (v5 :: v4 :: v3 :: v2 :: v1 :: rest) w :=
  ev_cSr5 hcl hM hd hpc hcat (fun v w' hq _ => by rw [hq.1, hq.2]; exact k)
theorem ev_cSv5 {d : Nat} {y : MI} {Q : Option Value → MW → Prop} {pc pc' : Nat} {ls : List (Option Value)} {rest : List Value} {w : MW} {z : MI} {idx : Nat} {v1 v2 v3 v4 v5 : Value} {w1 : MW} (hcl : CLs y.1.cls idx z 5) (hM : Ok d z [v1, v2, v3, v4, v5] w (rt none w1)) (hd : decode y.2.1 pc = .ok (.invokestatic idx, 3)) (hpc : pc + 3 = pc') (hcat : (decide ((rest.map fun v => v.category).sum ≤ 8)) = true) (k : Ev (d + 1) y Q pc' ls rest w1) : Ev (d + 1) y Q pc ls (v5 :: v4 :: v3 :: v2 :: v1 :: rest) w :=
  ev_cSr5 hcl hM hd hpc hcat (fun v w' hq _ => by rw [hq.1, hq.2]; exact k)
theorem ev_cSr6 {d : Nat} {y : MI} {Q : Option Value → MW → Prop} {pc pc' : Nat} {ls : List (Option Value)} {rest : List Value} {w : MW} {z : MI} {idx : Nat} {v1 v2 v3 v4 v5 v6 : Value} {Q' : Option Value → MW → Prop} (hcl : CLs y.1.cls idx z 6) (hM : Ok d z [v1, v2, v3, v4, v5, v6] w Q') (hd : decode y.2.1 pc = .ok (.invokestatic idx, 3)) (hpc : pc + 3 = pc') (hcat : (decide ((rest.map fun v => v.category).sum ≤ 8)) = true) (k : ∀ v w', Q' v w' → w'.length = w.length → Ev (d + 1) y Q pc' ls (v.toList ++ rest) w') : Ev (d + 1) y Q pc ls (v6 :: v5 :: v4 :: v3 :: v2 :: v1 :: rest) w := by
  refine ev_callS (As := [v1, v2, v3, v4, v5, v6]) (rest := rest) hcl hM hd hpc (Part.self w) rfl (by rw [show cV (fun k => k) = id from funext cV_id, List.map_id]) rfl (of_decide_eq_true hcat) (fun v w' hq hl => ?_)
  rw [wput_self w w' hl, show v.map (cV (fun k => k)) = v by rw [show cV (fun k => k) = id from funext cV_id]; cases v <;> rfl]
  exact k v w' hq hl
theorem ev_cSi6 {d : Nat} {y : MI} {Q : Option Value → MW → Prop} {pc pc' : Nat} {ls : List (Option Value)} {rest : List Value} {w : MW} {z : MI} {idx : Nat} {v1 v2 v3 v4 v5 v6 : Value} {u : Value} {w1 : MW} (hcl : CLs y.1.cls idx z 6) (hM : Ok d z [v1, v2, v3, v4, v5, v6] w (rt (some u) w1)) (hd : decode y.2.1 pc = .ok (.invokestatic idx, 3)) (hpc : pc + 3 = pc') (hcat : (decide ((rest.map fun v => v.category).sum ≤ 8)) = true) (k : Ev (d + 1) y Q pc' ls (u :: rest) w1) : Ev (d + 1) y Q pc ls (v6 :: v5 :: v4 :: v3 :: v2 :: v1 :: rest) w :=
  ev_cSr6 hcl hM hd hpc hcat (fun v w' hq _ => by rw [hq.1, hq.2]; exact k)
theorem ev_cSv6 {d : Nat} {y : MI} {Q : Option Value → MW → Prop} {pc pc' : Nat} {ls : List (Option Value)} {rest : List Value} {w : MW} {z : MI} {idx : Nat} {v1 v2 v3 v4 v5 v6 : Value} {w1 : MW} (hcl : CLs y.1.cls idx z 6) (hM : Ok d z [v1, v2, v3, v4, v5, v6] w (rt none w1)) (hd : decode y.2.1 pc = .ok (.invokestatic idx, 3)) (hpc : pc + 3 = pc') (hcat : (decide ((rest.map fun v => v.category).sum ≤ 8)) = true) (k : Ev (d + 1) y Q pc' ls rest w1) : Ev (d + 1) y Q pc ls (v6 :: v5 :: v4 :: v3 :: v2 :: v1 :: rest) w :=
  ev_cSr6 hcl hM hd hpc hcat (fun v w' hq _ => by rw [hq.1, hq.2]; exact k)
theorem ev_cSr7 {d : Nat} {y : MI} {Q : Option Value → MW → Prop} {pc pc' : Nat} {ls : List (Option Value)} {rest : List Value} {w : MW} {z : MI} {idx : Nat} {v1 v2 v3 v4 v5 v6 v7 : Value} {Q' : Option Value → MW → Prop} (hcl : CLs y.1.cls idx z 7) (hM : Ok d z [v1, v2, v3, v4, v5, v6, v7] w Q') (hd : decode y.2.1 pc = .ok (.invokestatic idx, 3)) (hpc : pc + 3 = pc') (hcat : (decide ((rest.map fun v => v.category).sum ≤ 8)) = true) (k : ∀ v w', Q' v w' → w'.length = w.length → Ev (d + 1) y Q pc' ls (v.toList ++ rest) w') : Ev (d + 1) y Q pc ls (v7 :: v6 :: v5 :: v4 :: v3 :: v2 :: v1 :: rest) w := by
  refine ev_callS (As := [v1, v2, v3, v4, v5, v6, v7]) (rest := rest) hcl hM hd hpc (Part.self w) rfl (by rw [show cV (fun k => k) = id from funext cV_id, List.map_id]) rfl (of_decide_eq_true hcat) (fun v w' hq hl => ?_)
  rw [wput_self w w' hl, show v.map (cV (fun k => k)) = v by rw [show cV (fun k => k) = id from funext cV_id]; cases v <;> rfl]
  exact k v w' hq hl
theorem ev_cSi7 {d : Nat} {y : MI} {Q : Option Value → MW → Prop} {pc pc' : Nat} {ls : List (Option Value)} {rest : List Value} {w : MW} {z : MI} {idx : Nat} {v1 v2 v3 v4 v5 v6 v7 : Value} {u : Value} {w1 : MW} (hcl : CLs y.1.cls idx z 7) (hM : Ok d z [v1, v2, v3, v4, v5, v6, v7] w (rt (some u) w1)) (hd : decode y.2.1 pc = .ok (.invokestatic idx, 3)) (hpc : pc + 3 = pc') (hcat : (decide ((rest.map fun v => v.category).sum ≤ 8)) = true) (k : Ev (d + 1) y Q pc' ls (u :: rest) w1) : Ev (d + 1) y Q pc ls (v7 :: v6 :: v5 :: v4 :: v3 :: v2 :: v1 :: rest) w :=
  ev_cSr7 hcl hM hd hpc hcat (fun v w' hq _ => by rw [hq.1, hq.2]; exact k)
theorem ev_cSv7 {d : Nat} {y : MI} {Q : Option Value → MW → Prop} {pc pc' : Nat} {ls : List (Option Value)} {rest : List Value} {w : MW} {z : MI} {idx : Nat} {v1 v2 v3 v4 v5 v6 v7 : Value} {w1 : MW} (hcl : CLs y.1.cls idx z 7) (hM : Ok d z [v1, v2, v3, v4, v5, v6, v7] w (rt none w1)) (hd : decode y.2.1 pc = .ok (.invokestatic idx, 3)) (hpc : pc + 3 = pc') (hcat : (decide ((rest.map fun v => v.category).sum ≤ 8)) = true) (k : Ev (d + 1) y Q pc' ls rest w1) : Ev (d + 1) y Q pc ls (v7 :: v6 :: v5 :: v4 :: v3 :: v2 :: v1 :: rest) w :=
  ev_cSr7 hcl hM hd hpc hcat (fun v w' hq _ => by rw [hq.1, hq.2]; exact k)
theorem ev_cNr2 {d : Nat} {y : MI} {Q : Option Value → MW → Prop} {pc pc' : Nat} {ls : List (Option Value)} {rest : List Value} {w : MW} {z : MI} {idx : Nat} {v1 v2 : Value} {Q' : Option Value → MW → Prop} (hcl : CLn y.1.cls idx z 2) (hM : Ok d z [v1, v2] w Q') (hd : decode y.2.1 pc = .ok (.invokestatic idx, 3)) (hpc : pc + 3 = pc') (hcat : (decide ((rest.map fun v => v.category).sum ≤ 8)) = true) (k : ∀ v w', Q' v w' → w'.length = w.length → Ev (d + 1) y Q pc' ls (v.toList ++ rest) w') : Ev (d + 1) y Q pc ls (v2 :: v1 :: rest) w := by
  refine ev_callN (As := [v1, v2]) (rest := rest) hcl hM hd hpc (Part.self w) rfl (by rw [show cV (fun k => k) = id from funext cV_id, List.map_id]) rfl (of_decide_eq_true hcat) (fun v w' hq hl => ?_)
  rw [wput_self w w' hl, show v.map (cV (fun k => k)) = v by rw [show cV (fun k => k) = id from funext cV_id]; cases v <;> rfl]
  exact k v w' hq hl
theorem ev_cNi2 {d : Nat} {y : MI} {Q : Option Value → MW → Prop} {pc pc' : Nat} {ls : List (Option Value)} {rest : List Value} {w : MW} {z : MI} {idx : Nat} {v1 v2 : Value} {u : Value} {w1 : MW} (hcl : CLn y.1.cls idx z 2) (hM : Ok d z [v1, v2] w (rt (some u) w1)) (hd : decode y.2.1 pc = .ok (.invokestatic idx, 3)) (hpc : pc + 3 = pc') (hcat : (decide ((rest.map fun v => v.category).sum ≤ 8)) = true) (k : Ev (d + 1) y Q pc' ls (u :: rest) w1) : Ev (d + 1) y Q pc ls (v2 :: v1 :: rest) w :=
  ev_cNr2 hcl hM hd hpc hcat (fun v w' hq _ => by rw [hq.1, hq.2]; exact k)
theorem ev_cNv2 {d : Nat} {y : MI} {Q : Option Value → MW → Prop} {pc pc' : Nat} {ls : List (Option Value)} {rest : List Value} {w : MW} {z : MI} {idx : Nat} {v1 v2 : Value} {w1 : MW} (hcl : CLn y.1.cls idx z 2) (hM : Ok d z [v1, v2] w (rt none w1)) (hd : decode y.2.1 pc = .ok (.invokestatic idx, 3)) (hpc : pc + 3 = pc') (hcat : (decide ((rest.map fun v => v.category).sum ≤ 8)) = true) (k : Ev (d + 1) y Q pc' ls rest w1) : Ev (d + 1) y Q pc ls (v2 :: v1 :: rest) w :=
  ev_cNr2 hcl hM hd hpc hcat (fun v w' hq _ => by rw [hq.1, hq.2]; exact k)
theorem ev_cNr3 {d : Nat} {y : MI} {Q : Option Value → MW → Prop} {pc pc' : Nat} {ls : List (Option Value)} {rest : List Value} {w : MW} {z : MI} {idx : Nat} {v1 v2 v3 : Value} {Q' : Option Value → MW → Prop} (hcl : CLn y.1.cls idx z 3) (hM : Ok d z [v1, v2, v3] w Q') (hd : decode y.2.1 pc = .ok (.invokestatic idx, 3)) (hpc : pc + 3 = pc') (hcat : (decide ((rest.map fun v => v.category).sum ≤ 8)) = true) (k : ∀ v w', Q' v w' → w'.length = w.length → Ev (d + 1) y Q pc' ls (v.toList ++ rest) w') : Ev (d + 1) y Q pc ls (v3 :: v2 :: v1 :: rest) w := by
  refine ev_callN (As := [v1, v2, v3]) (rest := rest) hcl hM hd hpc (Part.self w) rfl (by rw [show cV (fun k => k) = id from funext cV_id, List.map_id]) rfl (of_decide_eq_true hcat) (fun v w' hq hl => ?_)
  rw [wput_self w w' hl, show v.map (cV (fun k => k)) = v by rw [show cV (fun k => k) = id from funext cV_id]; cases v <;> rfl]
  exact k v w' hq hl
theorem ev_cNi3 {d : Nat} {y : MI} {Q : Option Value → MW → Prop} {pc pc' : Nat} {ls : List (Option Value)} {rest : List Value} {w : MW} {z : MI} {idx : Nat} {v1 v2 v3 : Value} {u : Value} {w1 : MW} (hcl : CLn y.1.cls idx z 3) (hM : Ok d z [v1, v2, v3] w (rt (some u) w1)) (hd : decode y.2.1 pc = .ok (.invokestatic idx, 3)) (hpc : pc + 3 = pc') (hcat : (decide ((rest.map fun v => v.category).sum ≤ 8)) = true) (k : Ev (d + 1) y Q pc' ls (u :: rest) w1) : Ev (d + 1) y Q pc ls (v3 :: v2 :: v1 :: rest) w :=
  ev_cNr3 hcl hM hd hpc hcat (fun v w' hq _ => by rw [hq.1, hq.2]; exact k)
theorem ev_cNv3 {d : Nat} {y : MI} {Q : Option Value → MW → Prop} {pc pc' : Nat} {ls : List (Option Value)} {rest : List Value} {w : MW} {z : MI} {idx : Nat} {v1 v2 v3 : Value} {w1 : MW} (hcl : CLn y.1.cls idx z 3) (hM : Ok d z [v1, v2, v3] w (rt none w1)) (hd : decode y.2.1 pc = .ok (.invokestatic idx, 3)) (hpc : pc + 3 = pc') (hcat : (decide ((rest.map fun v => v.category).sum ≤ 8)) = true) (k : Ev (d + 1) y Q pc' ls rest w1) : Ev (d + 1) y Q pc ls (v3 :: v2 :: v1 :: rest) w :=
  ev_cNr3 hcl hM hd hpc hcat (fun v w' hq _ => by rw [hq.1, hq.2]; exact k)
