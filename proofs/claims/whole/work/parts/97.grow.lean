/-! WORLDS THAT GROW: the machine goes on from here; new cells come behind the others. The places from 900 on stay. -/
abbrev GX : Type := (Program × Launch × Env) × (State × MethodId × Array Value) × (List Frame × Method × Code) × ((Nat → ClassId) × (Nat → Nat → Nat) × (FieldType → ClassId)) × (Nat → Prop) × Room × (State → Prop)
abbrev GX.p (X : GX) : Program := X.1.1
abbrev GX.l (X : GX) : Launch := X.1.2.1
abbrev GX.e (X : GX) : Env := X.1.2.2
abbrev GX.s (X : GX) : State := X.2.1.1
abbrev GX.m (X : GX) : MethodId := X.2.1.2.1
abbrev GX.args (X : GX) : Array Value := X.2.1.2.2
abbrev GX.below (X : GX) : List Frame := X.2.2.1.1
abbrev GX.meth (X : GX) : Method := X.2.2.1.2.1
abbrev GX.c (X : GX) : Code := X.2.2.1.2.2
abbrev GX.dC (X : GX) : Nat → ClassId := X.2.2.2.1.1
abbrev GX.dI (X : GX) : Nat → Nat → Nat := X.2.2.2.1.2.1
abbrev GX.cA (X : GX) : FieldType → ClassId := X.2.2.2.1.2.2
abbrev GX.A (X : GX) : Nat → Prop := X.2.2.2.2.1
abbrev GX.R (X : GX) : Room := X.2.2.2.2.2.1
abbrev GX.Z (X : GX) : State → Prop := X.2.2.2.2.2.2
abbrev GX.ok (X : GX) (y : MI) : Prop := Cx y X.p X.s X.m X.args X.meth X.c X.dC X.dI X.cA X.A
def agr (n0 : Nat) (a b : Nat → Nat) : Prop := ∀ k, k < n0 ∨ 900 ≤ k → a k = b k
theorem agr.refl (n0 : Nat) (a : Nat → Nat) : agr n0 a a := fun _ _ => rfl
theorem agr.trans {n0 : Nat} {a b c : Nat → Nat} (h : agr n0 a b) (g : agr n0 b c) : agr n0 a c := fun k hk => (h k hk).trans (g k hk)
theorem agr.mono {n0 n1 : Nat} {a b : Nat → Nat} (h : agr n1 a b) (hn : n0 ≤ n1) : agr n0 a b := fun k hk => h k (by omega)
def GEv (X : GX) (y : MI) (n0 : Nat) (a0 : Nat → Nat) (kc ks pc : Nat) (ls : List (Option Value)) (st : List Value) (w : MW) : Prop := ∀ (adr : Nat → Nat) (H : Heap) (locs : List Loc) (L : Array Slot), agr n0 adr a0 → Hp X.dC X.dI X.cA adr w.length X.A X.s H locs w → hasL adr L y.2.2.1 ls → W X.p X.l X.e X.R X.s X.m X.args X.below X.meth X.c H locs kc ks X.Z (F0 X.m pc L (st.map (cV adr)))
/-- no place named but those that are there -/
def rfV (n : Nat) : Value → Bool
  | .ref k => decide (k < n) || decide (900 ≤ k)
  | _ => true
def rfE (n : Nat) : ME → Bool
  | .inl _ => true
  | .inr o => o.2.all (rfV n)
def rfO (n : Nat) : Option Value → Bool
  | some v => rfV n v
  | none => true
def clo (w : MW) (ls : List (Option Value)) (st : List Value) : Bool := decide (w.length < 900) && w.all (rfE w.length) && ls.all (rfO w.length) && st.all (rfV w.length)
theorem rfV_eq {n : Nat} {a b : Nat → Nat} (h : agr n a b) {v : Value} (hv : rfV n v = true) : cV a v = cV b v := by
  cases v with
  | ref k =>
    have : k < n ∨ 900 ≤ k := by
      unfold rfV at hv
      rw [Bool.or_eq_true, decide_eq_true_eq, decide_eq_true_eq] at hv
      exact hv
    exact congrArg Value.ref (h k this)
  | _ => rfl
theorem rfV_map {n : Nat} {a b : Nat → Nat} (h : agr n a b) {l : List Value} (hl : l.all (rfV n) = true) : l.map (cV a) = l.map (cV b) := List.map_congr_left (fun v hv => rfV_eq h (List.all_eq_true.mp hl v hv))
theorem rfE_eq {n : Nat} {a b : Nat → Nat} (h : agr n a b) {cA : FieldType → ClassId} {e : ME} (he : rfE n e = true) : cE cA a e = cE cA b e := by
  cases e with
  | inl x => rfl
  | inr o =>
    show Sum.inr _ = Sum.inr _
    rw [rfV_map h he]
theorem cw_agr {n : Nat} {a b : Nat → Nat} (h : agr n a b) (cA : FieldType → ClassId) {w : MW} (hn : w.length ≤ n) (hw : w.all (rfE n) = true) : cw cA a w = cw cA b w := by
  apply List.ext_getElem?
  intro i
  rw [cw_get, cw_get]
  cases hi : w[i]? with
  | none => rfl
  | some e =>
    have hlt := (List.getElem?_eq_some_iff.mp hi).1
    show some (a i, cE cA a e) = some (b i, cE cA b e)
    rw [rfE_eq h (List.all_eq_true.mp hw e (List.mem_of_getElem? hi)), h i (by omega)]
theorem lvl_agr {n : Nat} {a b : Nat → Nat} (h : agr n a b) {ls : List (Option Value)} (hl : ls.all (rfO n) = true) : lvl a ls = lvl b ls := by
  have key : ∀ i : Nat, (match ls[i]? with | some (some v) => some (i, cV a v) | _ => none) = (match ls[i]? with | some (some v) => some (i, cV b v) | _ => none) := by
    intro i
    cases hi : ls[i]? with
    | none => rfl
    | some o =>
      cases o with
      | none => rfl
      | some v =>
        show some (i, cV a v) = some (i, cV b v)
        rw [rfV_eq h (List.all_eq_true.mp hl (some v) (List.mem_of_getElem? hi))]
  unfold lvl
  exact congrArg (fun f => List.filterMap f (List.range ls.length)) (funext key)
def nad (a : Nat → Nat) (n q : Nat) : Nat → Nat := fun k => if k = n then q else a k
theorem nad_agr (a : Nat → Nat) {n : Nat} (q : Nat) (hn : n < 900) : agr n (nad a n q) a := fun k hk => if_neg (by omega)
theorem cw_snoc {cA : FieldType → ClassId} {a : Nat → Nat} {w : MW} (q : Nat) (e : ME) (hn : w.length < 900) (hw : w.all (rfE w.length) = true) (he : rfE w.length e = true) : cw cA (nad a w.length q) (w ++ [e]) = cw cA a w ++ [(q, cE cA a e)] := by
  have h := nad_agr a q hn
  have e1 : cw cA (nad a w.length q) (w ++ [e]) = cw cA (nad a w.length q) w ++ [(nad a w.length q w.length, cE cA (nad a w.length q) e)] := by
    unfold cw
    rw [List.mapIdx_append]
    show _ ++ [(nad a w.length q (0 + w.length), cE cA (nad a w.length q) e)] = _
    rw [Nat.zero_add]
  rw [e1, cw_agr h cA (Nat.le_refl _) hw, rfE_eq h he]
  show _ ++ [(if w.length = w.length then q else a w.length, _)] = _
  rw [if_pos rfl]
section GEN
variable {X : GX} {y : MI} {n0 : Nat} {a0 : Nat → Nat} {kc ks pc pc' : Nat} {ls : List (Option Value)} {st : List Value} {w : MW}
theorem GEv.world {w' : MW} (e : w = w') (k : GEv X y n0 a0 kc ks pc ls st w') : GEv X y n0 a0 kc ks pc ls st w := by rw [e]; exact k
theorem g_iconst {n : Int} {v : Int32} (C : X.ok y) (hd : decode y.2.1 pc = .ok (.iconst n, 1)) (hpc : pc + 1 = pc') (hv : Int32.ofInt n = v) (k : GEv X y n0 a0 kc ks pc' ls (.int v :: st) w) : GEv X y n0 a0 kc ks pc ls st w := by
  subst hpc
  intro adr H locs L ha h hl
  exact lv_iconst C.1 C.2.1 hd hv (k adr H locs L ha h hl)
theorem g_bipush {n : Int} {v : Int32} (C : X.ok y) (hd : decode y.2.1 pc = .ok (.bipush n, 2)) (hpc : pc + 2 = pc') (hv : (Int8.ofInt n).toInt32 = v) (k : GEv X y n0 a0 kc ks pc' ls (.int v :: st) w) : GEv X y n0 a0 kc ks pc ls st w := by
  subst hpc
  intro adr H locs L ha h hl
  exact lv_bipush C.1 C.2.1 hd hv (k adr H locs L ha h hl)
theorem g_sipush {n : Int} {v : Int32} (C : X.ok y) (hd : decode y.2.1 pc = .ok (.sipush n, 3)) (hpc : pc + 3 = pc') (hv : (Int16.ofInt n).toInt32 = v) (k : GEv X y n0 a0 kc ks pc' ls (.int v :: st) w) : GEv X y n0 a0 kc ks pc ls st w := by
  subst hpc
  intro adr H locs L ha h hl
  exact lv_sipush C.1 C.2.1 hd hv (k adr H locs L ha h hl)
theorem g_dup {a : Value} (C : X.ok y) (hd : decode y.2.1 pc = .ok (.dup, 1)) (hpc : pc + 1 = pc') (ha : a.category = 1) (k : GEv X y n0 a0 kc ks pc' ls (a :: a :: st) w) : GEv X y n0 a0 kc ks pc ls (a :: st) w := by
  subst hpc
  intro adr H locs L hg h hl
  exact lv_dup C.1 C.2.1 hd (by rw [cV_cat]; exact ha) (k adr H locs L hg h hl)
theorem g_aload_n {i : Fin 4} {x : Nat} (C : X.ok y) (hd : decode y.2.1 pc = .ok (.aload_n i, 1)) (hpc : pc + 1 = pc') (hi : ls[(i : Nat)]? = some (some (.ref x))) (k : GEv X y n0 a0 kc ks pc' ls (.ref x :: st) w) : GEv X y n0 a0 kc ks pc ls st w := by
  subst hpc
  intro adr H locs L ha h hl
  exact lv_aload_n C.1 C.2.1 hd rfl (hl.at hi) (k adr H locs L ha h hl)
theorem g_iload_n {i : Fin 4} {x : Int32} (C : X.ok y) (hd : decode y.2.1 pc = .ok (.iload_n i, 1)) (hpc : pc + 1 = pc') (hi : ls[(i : Nat)]? = some (some (.int x))) (k : GEv X y n0 a0 kc ks pc' ls (.int x :: st) w) : GEv X y n0 a0 kc ks pc ls st w := by
  subst hpc
  intro adr H locs L ha h hl
  exact lv_iload_n C.1 C.2.1 hd rfl (hl.at hi) (k adr H locs L ha h hl)
theorem g_astore_n {i : Fin 4} {x : Nat} {ls' : List (Option Value)} (C : X.ok y) (hd : decode y.2.1 pc = .ok (.astore_n i, 1)) (hpc : pc + 1 = pc') (hc : (ck ls (i : Nat) && decide ((i : Nat) < y.2.2.1)) = true) (hs : ls.set (i : Nat) (some (.ref x)) = ls') (k : GEv X y n0 a0 kc ks pc' ls' st w) : GEv X y n0 a0 kc ks pc ls (.ref x :: st) w := by
  subst hpc; subst hs
  rw [Bool.and_eq_true, decide_eq_true_eq] at hc
  intro adr H locs L ha h hl
  exact lv_astore_n C.1 C.2.1 hd rfl hl hc.2 rfl (fun L' hl' => k adr H locs L' ha h (lv_has.mono hl' (stl_sub hc.1)))
theorem g_istore_n {i : Fin 4} {x : Int32} {ls' : List (Option Value)} (C : X.ok y) (hd : decode y.2.1 pc = .ok (.istore_n i, 1)) (hpc : pc + 1 = pc') (hc : (ck ls (i : Nat) && decide ((i : Nat) < y.2.2.1)) = true) (hs : ls.set (i : Nat) (some (.int x)) = ls') (k : GEv X y n0 a0 kc ks pc' ls' st w) : GEv X y n0 a0 kc ks pc ls (.int x :: st) w := by
  subst hpc; subst hs
  rw [Bool.and_eq_true, decide_eq_true_eq] at hc
  intro adr H locs L ha h hl
  exact lv_istore_n C.1 C.2.1 hd rfl hl hc.2 rfl (fun L' hl' => k adr H locs L' ha h (lv_has.mono hl' (stl_sub hc.1)))
theorem g_iinc {i : Nat} {n : Int} {x v : Int32} {ls' : List (Option Value)} (C : X.ok y) (hd : decode y.2.1 pc = .ok (.iinc i n, 3)) (hpc : pc + 3 = pc') (hc : (ck ls i && decide (i < y.2.2.1)) = true) (hx : ls[i]? = some (some (.int x))) (hv : x + Int32.ofInt n = v) (hs : ls.set i (some (.int v)) = ls') (k : GEv X y n0 a0 kc ks pc' ls' st w) : GEv X y n0 a0 kc ks pc ls st w := by
  subst hpc; subst hs
  rw [Bool.and_eq_true, decide_eq_true_eq] at hc
  intro adr H locs L ha h hl
  obtain ⟨j, hj⟩ := List.getElem?_of_mem (mem_lvl (adr := adr) (q := (i, .int x)).mpr ⟨.int x, hx, rfl⟩)
  exact lv_iinc C.1 C.2.1 hd hl hj hv hc.2 rfl (fun L' hl' => k adr H locs L' ha h (lv_has.mono hl' (stl_sub hc.1)))
theorem g_iadd {a b : Int32} (C : X.ok y) (hd : decode y.2.1 pc = .ok (.iadd, 1)) (hpc : pc + 1 = pc') (k : GEv X y n0 a0 kc ks pc' ls (.int (a + b) :: st) w) : GEv X y n0 a0 kc ks pc ls (.int b :: .int a :: st) w := by
  subst hpc
  intro adr H locs L ha h hl
  exact lv_iadd C.1 C.2.1 hd (k adr H locs L ha h hl)
theorem g_isub {a b : Int32} (C : X.ok y) (hd : decode y.2.1 pc = .ok (.isub, 1)) (hpc : pc + 1 = pc') (k : GEv X y n0 a0 kc ks pc' ls (.int (a - b) :: st) w) : GEv X y n0 a0 kc ks pc ls (.int b :: .int a :: st) w := by
  subst hpc
  intro adr H locs L ha h hl
  exact lv_isub C.1 C.2.1 hd (k adr H locs L ha h hl)
theorem g_iand {a b : Int32} (C : X.ok y) (hd : decode y.2.1 pc = .ok (.iand, 1)) (hpc : pc + 1 = pc') (k : GEv X y n0 a0 kc ks pc' ls (.int (a &&& b) :: st) w) : GEv X y n0 a0 kc ks pc ls (.int b :: .int a :: st) w := by
  subst hpc
  intro adr H locs L ha h hl
  exact lv_iand C.1 C.2.1 hd (k adr H locs L ha h hl)
theorem g_icmp_gt {a b : Int32} {off : Int} {tgt : Nat} (C : X.ok y) (hd : decode y.2.1 pc = .ok (.if_icmp .gt off, 3)) (ht : (pc : Int) + off = (tgt : Int)) (hpc : pc + 3 = pc') (kt : b < a → GEv X y n0 a0 kc ks tgt ls st w) (kf : ¬ b < a → GEv X y n0 a0 kc ks pc' ls st w) : GEv X y n0 a0 kc ks pc ls (.int b :: .int a :: st) w := by
  subst hpc
  intro adr H locs L ha h hl
  exact lv_icmp_gt C.1 C.2.1 hd ht (fun q => kt q adr H locs L ha h hl) (fun q => kf q adr H locs L ha h hl)
theorem g_icmp_eq {a b : Int32} {off : Int} {tgt : Nat} (C : X.ok y) (hd : decode y.2.1 pc = .ok (.if_icmp .eq off, 3)) (ht : (pc : Int) + off = (tgt : Int)) (hpc : pc + 3 = pc') (kt : a = b → GEv X y n0 a0 kc ks tgt ls st w) (kf : ¬ a = b → GEv X y n0 a0 kc ks pc' ls st w) : GEv X y n0 a0 kc ks pc ls (.int b :: .int a :: st) w := by
  subst hpc
  intro adr H locs L ha h hl
  exact lv_icmp_eq C.1 C.2.1 hd ht (fun q => kt q adr H locs L ha h hl) (fun q => kf q adr H locs L ha h hl)
theorem g_if_eq {a : Int32} {off : Int} {tgt : Nat} (C : X.ok y) (hd : decode y.2.1 pc = .ok (.ifCond .eq off, 3)) (ht : (pc : Int) + off = (tgt : Int)) (hpc : pc + 3 = pc') (kt : a = 0 → GEv X y n0 a0 kc ks tgt ls st w) (kf : ¬ a = 0 → GEv X y n0 a0 kc ks pc' ls st w) : GEv X y n0 a0 kc ks pc ls (.int a :: st) w := by
  subst hpc
  intro adr H locs L ha h hl
  exact lv_if_eq C.1 C.2.1 hd ht (fun q => kt q adr H locs L ha h hl) (fun q => kf q adr H locs L ha h hl)
theorem g_goto {off : Int} {tgt : Nat} (C : X.ok y) (hd : decode y.2.1 pc = .ok (.goto off, 3)) (ht : (pc : Int) + off = (tgt : Int)) (k : GEv X y n0 a0 kc ks tgt ls st w) : GEv X y n0 a0 kc ks pc ls st w := by
  intro adr H locs L ha h hl
  exact lv_goto C.1 C.2.1 hd ht (k adr H locs L ha h hl)
theorem g_tableIn {dflt lo hi : Int} {offs : Array Int} {len : Nat} {x : Int32} {off : Int} {tgt : Nat} (C : X.ok y) (hd : decode y.2.1 pc = .ok (.tableswitch dflt lo hi offs, len)) (h1 : ¬ x.toInt < lo) (h2 : ¬ hi < x.toInt) (ho : offs[(x.toInt - lo).toNat]? = some off) (ht : (pc : Int) + off = (tgt : Int)) (k : GEv X y n0 a0 kc ks tgt ls st w) : GEv X y n0 a0 kc ks pc ls (.int x :: st) w := by
  intro adr H locs L ha h hl
  exact lv_tableIn C.1 C.2.1 hd h1 h2 ho ht (k adr H locs L ha h hl)
theorem g_tableOut {dflt lo hi : Int} {offs : Array Int} {len : Nat} {x : Int32} {tgt : Nat} (C : X.ok y) (hd : decode y.2.1 pc = .ok (.tableswitch dflt lo hi offs, len)) (hx : x.toInt < lo ∨ hi < x.toInt) (ht : (pc : Int) + dflt = (tgt : Int)) (k : GEv X y n0 a0 kc ks tgt ls st w) : GEv X y n0 a0 kc ks pc ls (.int x :: st) w := by
  intro adr H locs L ha h hl
  exact lv_tableOut C.1 C.2.1 hd hx ht (k adr H locs L ha h hl)
theorem g_getf {idx ci k r : Nat} {fs : List Value} {v : Value} (C : X.ok y) (hf : FL y.1.cls idx ci k) (hd : decode y.2.1 pc = .ok (.getfield idx, 3)) (hpc : pc + 3 = pc') (hr : w[r]? = some (.inr (ci, fs))) (hv : fs[k]? = some v) (kk : GEv X y n0 a0 kc ks pc' ls (v :: st) w) : GEv X y n0 a0 kc ks pc ls (.ref r :: st) w := by
  subst hpc
  obtain ⟨C0, T, N, g1, g2, g3, g4⟩ := hf
  intro adr H locs L ha h hl
  exact va_get C.1 C.2.1 C.2.2.2.2.2.1 g3 C.2.2.2.2.1 C.2.2.2.2.2.2.2.1 h.2.1 r (cw_at hr) g1 k g2 (C.2.2.2.2.2.1 _ g4) (fun _ h => h) (by rw [List.getElem?_map, hv]; rfl) hd (kk adr H locs L ha h hl)
theorem g_putf {idx ci k r : Nat} {ty : FieldType} {fs : List Value} {v : Value} {w' : MW} (C : X.ok y) (hf : FS y.1.cls idx ci k ty) (hd : decode y.2.1 pc = .ok (.putfield idx, 3)) (hpc : pc + 3 = pc') (hr : w[r]? = some (.inr (ci, fs))) (hk : k < fs.length) (hn : ∀ f, narrow ty (cV f v) = cV f v) (hfit : ∀ f, fits ty (cV f v) = true) (hw : w.set r (.inr (ci, fs.set k v)) = w') (kk : GEv X y n0 a0 kc ks pc' ls st w') : GEv X y n0 a0 kc ks pc ls (v :: .ref r :: st) w := by
  subst hpc; subst hw
  obtain ⟨C0, T, N, g1, g2, g3, g4, ⟨ty0, g5⟩, g6, g7, g8⟩ := hf
  intro adr H locs L ha h hl
  refine va_put C.1 C.2.1 C.2.2.2.2.2.1 g3 ty0 g5 g6 C.2.2.2.2.1 C.2.2.2.2.2.2.2.1 h.2.1 h.2.2.1 h.2.2.2.1 r (cw_at hr) g1 k g2 (C.2.2.2.2.2.1 _ g4) (fun _ h => h) g7 g8 (hn adr) (hfit adr) (by rw [List.length_map]; exact hk) hd (fun H1 locs1 hP1 hD1 hS1 => ?_)
  have hset : cw X.cA adr (w.set r (.inr (ci, fs.set k v))) = (cw X.cA adr w).set r (adr r, .inr (ci, (fs.map (cV adr)).set k (cV adr v))) := by
    rw [cw_set]; show _ = _; congr 3; show Sum.inr _ = Sum.inr _; rw [← List.map_set]
  exact kk adr H1 locs1 L ha ⟨rfl, by rw [hset]; exact hP1, by rw [hset]; exact hD1, hS1, h.2.2.2.2⟩ hl
/-- a final field, in a constructor -/
def FF9 (own : String) (idx ci k : Nat) (ty : FieldType) : Prop := ∃ C T N, classes[ci]? = some (C, T, N) ∧ k < N ∧ (∀ w ∈ u_ws C T N, w ∈ gtbl) ∧ Cond.fieldLink own idx (T k).1 (T k).2.1 (T k).2.2.1 ∈ gtbl ∧ (∃ ty0 : Nat → FieldType, ∀ k, k < N → parseFieldDescriptor (T k).2.2.1 = some (ty0 k)) ∧ (∀ a, a < N → ∀ b, b < N → a ≠ b → (T a).2.1 ≠ (T b).2.1) ∧ (T k).2.2.2 = true ∧ (T k).1 = own ∧ parseFieldDescriptor (T k).2.2.1 = some ty
theorem g_putF {idx ci k r : Nat} {ty : FieldType} {fs : List Value} {v : Value} {w' : MW} (C : X.ok y) (hin : X.meth.name = "<init>") (hf : FF9 y.1.cls idx ci k ty) (hd : decode y.2.1 pc = .ok (.putfield idx, 3)) (hpc : pc + 3 = pc') (hr : w[r]? = some (.inr (ci, fs))) (hk : k < fs.length) (hn : ∀ f, narrow ty (cV f v) = cV f v) (hfit : ∀ f, fits ty (cV f v) = true) (hw : w.set r (.inr (ci, fs.set k v)) = w') (kk : GEv X y n0 a0 kc ks pc' ls st w') : GEv X y n0 a0 kc ks pc ls (v :: .ref r :: st) w := by
  subst hpc; subst hw
  obtain ⟨C0, T, N, g1, g2, g3, g4, ⟨ty0, g5⟩, g6, g7, g8, g9⟩ := hf
  intro adr H locs L ha h hl
  refine va_putF C.1 C.2.1 C.2.2.2.2.2.1 g3 ty0 g5 g6 C.2.2.2.2.1 C.2.2.2.2.2.2.2.1 h.2.1 h.2.2.1 h.2.2.2.1 r (cw_at hr) g1 k g2 (C.2.2.2.2.2.1 _ g4) (fun _ h => h) g7 hin g8 g9 (hn adr) (hfit adr) (by rw [List.length_map]; exact hk) hd (fun H1 locs1 hP1 hD1 hS1 => ?_)
  have hset : cw X.cA adr (w.set r (.inr (ci, fs.set k v))) = (cw X.cA adr w).set r (adr r, .inr (ci, (fs.map (cV adr)).set k (cV adr v))) := by
    rw [cw_set]; show _ = _; congr 3; show Sum.inr _ = Sum.inr _; rw [← List.map_set]
  exact kk adr H1 locs1 L ha ⟨rfl, by rw [hset]; exact hP1, by rw [hset]; exact hD1, hS1, h.2.2.2.2⟩ hl
theorem g_last {r n : Nat} {f : Nat → Int64} {i : Int32} {x : Int64} {w' : MW} (C : X.ok y) (hd : decode y.2.1 pc = .ok (.lastore, 1)) (hpc : pc + 1 = pc') (hr : w[r]? = some (.inl (.long, n, .inr (.inl f)))) (hi : vp_in i n) (hw : w.set r (.inl (.long, n, .inr (.inl (vp_updL f i.toNatClampNeg x)))) = w') (k : GEv X y n0 a0 kc ks pc' ls st w') : GEv X y n0 a0 kc ks pc ls (.long x :: .int i :: .ref r :: st) w := by
  subst hpc; subst hw
  intro adr H locs L ha h hl
  refine va_last C.1 C.2.1 C.2.2.2.2.2.2.2.1 h.2.1 h.2.2.1 h.2.2.2.1 r 2 (cw_at hr) rfl hi hd (fun H1 locs1 hP1 hD1 hS1 => ?_)
  exact k adr H1 locs1 L ha ⟨rfl, by rw [cw_set]; exact hP1, by rw [cw_set]; exact hD1, hS1, h.2.2.2.2⟩ hl
theorem clo_len (h : clo w ls st = true) : w.length < 900 ∧ w.all (rfE w.length) = true ∧ ls.all (rfO w.length) = true ∧ st.all (rfV w.length) = true := by
  unfold clo at h
  rw [Bool.and_eq_true, Bool.and_eq_true, Bool.and_eq_true, decide_eq_true_eq] at h
  exact ⟨h.1.1.1, h.1.1.2, h.1.2, h.2⟩
/-- a new cell -/
theorem g_fresh {e : ME} {x : va_E} {k1 k2 npc q : Nat} {H1 : Heap} {locs : List Loc} {L : Array Slot} {adr : Nat → Nat} (hcl : clo w ls st = true) (hn0 : n0 ≤ w.length) (he : rfE w.length e = true) (hx : ∀ a, cE X.cA a e = x) (ha : agr n0 adr a0) (hX : SX adr X.A X.s X.s.heap) (hl : hasL adr L y.2.2.1 ls) (hP : va_P (X.dC, X.dI) classes (cw X.cA adr w ++ [(q, x)]) H1) (hD : va_D X.A (cw X.cA adr w ++ [(q, x)])) (hS : va_S X.A X.s.heap H1 locs) (k : GEv X y n0 a0 k1 k2 npc ls (.ref w.length :: st) (w ++ [e])) : W X.p X.l X.e X.R X.s X.m X.args X.below X.meth X.c H1 locs k1 k2 X.Z (F0 X.m npc L (.ref q :: st.map (cV adr))) := by
  obtain ⟨c1, c2, c3, c4⟩ := clo_len hcl
  have hg := nad_agr adr q c1
  have ew := cw_snoc (cA := X.cA) (a := adr) q e c1 c2 he
  rw [hx] at ew
  have := k (nad adr w.length q) H1 locs L ((hg.mono hn0).trans ha) ⟨rfl, by rw [ew]; exact hP, by rw [ew]; exact hD, hS, hX.cong (fun j hj => hg j (by omega))⟩ (by unfold hasL; rw [lvl_agr hg c3]; exact hl)
  have es : (Value.ref w.length :: st).map (cV (nad adr w.length q)) = .ref q :: st.map (cV adr) := by
    rw [List.map_cons, rfV_map hg c4]
    show Value.ref (if w.length = w.length then q else adr w.length) :: _ = _
    rw [if_pos rfl]
  rw [es] at this
  exact this
def NW (own : String) (idx ci N : Nat) (fs : List Value) : Prop := ∃ C T, classes[ci]? = some (C, T, N) ∧ (∀ w ∈ u_ws C T N, w ∈ gtbl) ∧ (∃ ty : Nat → FieldType, (∀ k, k < N → parseFieldDescriptor (T k).2.2.1 = some (ty k)) ∧ ∀ j, j < N → defaultValue (ty j) = vp_V fs j) ∧ Cond.classLink own idx C ∈ gtbl ∧ Cond.instantiable C N ∈ gtbl ∧ Cond.initialized C ∈ gtbl ∧ (∀ a : Nat → Nat, fs.map (cV a) = fs) ∧ ∀ n, fs.all (rfV n) = true
theorem g_new {idx ci N : Nat} {fs : List Value} (C : X.ok y) (hf : NW y.1.cls idx ci N fs) (hd : decode y.2.1 pc = .ok (.new idx, 3)) (hpc : pc + 3 = pc') (hcl : clo w ls st = true) (hn0 : n0 ≤ w.length) (hc : kc + 1 ≤ X.R.cells) (hs : ks + N ≤ X.R.slots) (k : GEv X y n0 a0 (kc + 1) (ks + N) pc' ls (.ref w.length :: st) (w ++ [.inr (ci, fs)])) : GEv X y n0 a0 kc ks pc ls st w := by
  subst hpc
  obtain ⟨C0, T, g1, g2, ⟨ty, g3, g4⟩, g5, g6, g7, g8, g9⟩ := hf
  intro adr H locs L ha h hl
  have hts := C.2.2.2.2.2.1
  refine va_new C.1 C.2.1 hts g2 ty g3 C.2.2.2.2.1 (hts _ g5) (hts _ g6) (hts _ g7) C.2.2.2.2.2.2.2.1 h.2.1 h.2.2.1 h.2.2.2.1 (fun q hq => C.2.2.2.2.2.2.2.2.1 q hq) g1 g4 hc hs hd (fun q H1 hP1 hD1 hS1 => ?_)
  exact g_fresh (e := .inr (ci, fs)) hcl hn0 (g9 _) (fun a => congrArg (fun z => Sum.inr (ci, z)) (g8 a)) ha h.2.2.2.2 hl hP1 hD1 hS1 k
theorem g_newa {atype : ArrayType} {ty : FieldType} {N : Nat} {v : Int32} {a1 : vp_A} (C : X.ok y) (hw : Cond.arrayClass (newarray.typeOf atype) ∈ gtbl) (hty : newarray.typeOf atype = ty) (ht : ∃ t : Nat, ∀ cA : FieldType → ClassId, (tysA cA)[t]? = some (cA ty, ty)) (hnm : ∀ (U : State) (cB : ClassId), va_RA U cB ty → U.vm.findClass ("[" ++ ty.toString) = some cB) (h1 : ∀ cA : ClassId, vp_cell cA a1 = arrV cA N (fun _ => defaultValue ty)) (hn : ¬ v < 0) (hN : v.toNatClampNeg = N) (hb : N * componentBytes ty ≤ 536870912) (hd : decode y.2.1 pc = .ok (.newarray atype, 2)) (hpc : pc + 2 = pc') (hcl : clo w ls st = true) (hn0 : n0 ≤ w.length) (hc : kc + 1 ≤ X.R.cells) (hs : ks + N ≤ X.R.slots) (k : GEv X y n0 a0 (kc + 1) (ks + N) pc' ls (.ref w.length :: st) (w ++ [.inl (ty, a1)])) : GEv X y n0 a0 kc ks pc ls (.int v :: st) w := by
  subst hpc
  obtain ⟨t, ht⟩ := ht
  intro adr H locs L ha h hl
  have hts := C.2.2.2.2.2.1
  have hK := C.2.2.2.2.2.2.2.1
  refine va_newa C.1 C.2.1 (hts _ hw) hty hK h.2.1 h.2.2.1 h.2.2.2.1 (fun q hq => C.2.2.2.2.2.2.2.2.1 q hq) h1 hn hN hb hc hs hd (fun q cB H1 hK1 hP1 hD1 hS1 => ?_)
  have e1 := hnm _ _ (hK.2 t _ (ht X.cA)).2
  have hlen : (tysA X.cA ++ [(cB, ty)])[4]? = some (cB, ty) := rfl
  have e2 := hnm _ _ (hK1.2 4 _ hlen).2
  have e : cB = X.cA ty := Option.some.inj (e2.symm.trans e1)
  rw [e] at hP1 hD1
  exact g_fresh (e := .inl (ty, a1)) hcl hn0 rfl (fun _ => rfl) ha h.2.2.2.2 hl hP1 hD1 hS1 k
end GEN
