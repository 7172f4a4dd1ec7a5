/-! THE JUDGEMENT. A small machine over a world without addresses: a cell is named by its place in a list; adr says where it lies. Ev: from this place of this method, with these locals, this stack and this world, the method returns with Q. Ok: a whole method. -/
abbrev ME : Type := (FieldType × vp_A) ⊕ (Nat × List Value)
abbrev MW : Type := List ME
abbrev MI : Type := MethodName × ByteArray × Nat × Option FieldType
abbrev classes : List vw_C := [(RX0, TX0, 10), (RX1, TX1, 14), (RX2, TX2, 9), (RX3, TX3, 6), (RX4, TX4, 9), (RX5, TX5, 7), (RX6, TX6, 11), (RX7, TX7, 67)]
def cV (adr : Nat → Nat) : Value → Value
  | .ref k => .ref (adr k)
  | v => v
def cE (cA : FieldType → ClassId) (adr : Nat → Nat) : ME → va_E
  | .inl a => .inl (cA a.1, a.2)
  | .inr o => .inr (o.1, o.2.map (cV adr))
def cw (cA : FieldType → ClassId) (adr : Nat → Nat) (w : MW) : va_W := w.mapIdx (fun k e => (adr k, cE cA adr e))
def renE (ρ : Nat → Nat) : ME → ME
  | .inl a => .inl a
  | .inr o => .inr (o.1, o.2.map (cV ρ))
theorem cV_comp (f g : Nat → Nat) (v : Value) : cV f (cV g v) = cV (fun k => f (g k)) v := by cases v <;> rfl
theorem cV_map_comp (f g : Nat → Nat) (vs : List Value) : (vs.map (cV g)).map (cV f) = vs.map (cV (fun k => f (g k))) := by
  rw [List.map_map]; exact List.map_congr_left (fun v _ => cV_comp f g v)
theorem cV_cat (f : Nat → Nat) (v : Value) : (cV f v).category = v.category := by cases v <;> rfl
theorem cE_ren (cA : FieldType → ClassId) (adr ρ : Nat → Nat) (e : ME) : cE cA adr (renE ρ e) = cE cA (fun k => adr (ρ k)) e := by
  cases e with
  | inl a => rfl
  | inr o => show Sum.inr _ = Sum.inr _; rw [cV_map_comp]
theorem cw_get (cA : FieldType → ClassId) (adr : Nat → Nat) (w : MW) (k : Nat) : (cw cA adr w)[k]? = (w[k]?).map (fun e => (adr k, cE cA adr e)) := by
  unfold cw; rw [List.getElem?_mapIdx]
theorem cw_at {cA : FieldType → ClassId} {adr : Nat → Nat} {w : MW} {k : Nat} {e : ME} (h : w[k]? = some e) : (cw cA adr w)[k]? = some (adr k, cE cA adr e) := by
  rw [cw_get, h]; rfl
theorem cw_of {cA : FieldType → ClassId} {adr : Nat → Nat} {w : MW} {k : Nat} {q : Nat × va_E} (h : (cw cA adr w)[k]? = some q) : ∃ e, w[k]? = some e ∧ q = (adr k, cE cA adr e) := by
  rw [cw_get] at h
  cases hw : w[k]? with
  | none => rw [hw] at h; cases h
  | some e => rw [hw] at h; exact ⟨e, rfl, (Option.some.inj h).symm⟩
theorem cw_set (cA : FieldType → ClassId) (adr : Nat → Nat) (w : MW) (k : Nat) (e : ME) : cw cA adr (w.set k e) = (cw cA adr w).set k (adr k, cE cA adr e) := by
  apply List.ext_getElem?
  intro i
  rw [cw_get, List.getElem?_set, List.getElem?_set, cw_get]
  have hl : (cw cA adr w).length = w.length := by unfold cw; rw [List.length_mapIdx]
  rw [hl]
  by_cases h : k = i
  · subst h
    simp only [if_true]
    by_cases h2 : k < w.length
    · simp [h2]
    · simp [h2]
  · simp only [h, if_false]
def lvl (adr : Nat → Nat) (ls : List (Option Value)) : List (Nat × Value) := (List.range ls.length).filterMap (fun i => match ls[i]? with | some (some v) => some (i, cV adr v) | _ => none)
theorem mem_lvl {adr : Nat → Nat} {ls : List (Option Value)} {q : Nat × Value} : q ∈ lvl adr ls ↔ ∃ u, ls[q.1]? = some (some u) ∧ q.2 = cV adr u := by
  unfold lvl
  rw [List.mem_filterMap]
  constructor
  · rintro ⟨i, hi, h⟩
    split at h
    · rename_i v hv
      cases h
      exact ⟨v, hv, rfl⟩
    · cases h
  · rintro ⟨u, h1, h2⟩
    refine ⟨q.1, List.mem_range.mpr ?_, ?_⟩
    · exact (List.getElem?_eq_some_iff.mp h1).1
    · rw [h1]; show some (q.1, cV adr u) = some q; rw [← h2]
abbrev hasL (adr : Nat → Nat) (L : Array Slot) (nL : Nat) (ls : List (Option Value)) : Prop := lv_has L nL (lvl adr ls)
theorem hasL.at {adr : Nat → Nat} {L : Array Slot} {nL : Nat} {ls : List (Option Value)} (h : hasL adr L nL ls) {i : Nat} {v : Value} (hi : ls[i]? = some (some v)) : L[i]? = some (.val (cV adr v)) :=
  h.2.2 (i, cV adr v) (mem_lvl.mpr ⟨v, hi, rfl⟩)
theorem lv_has.mono {L : Array Slot} {nL : Nat} {l l' : List (Nat × Value)} (h : lv_has L nL l) (hs : ∀ q ∈ l', q ∈ l) : lv_has L nL l' := ⟨h.1, h.2.1, fun q hq => h.2.2 q (hs q hq)⟩
/-- the local ahead of i is no half of a wide one -/
def ck (ls : List (Option Value)) : Nat → Bool
  | 0 => true
  | j + 1 => match ls[j]? with
    | some (some (.long _)) => false
    | some (some (.double _)) => false
    | _ => true
theorem ck_cat {ls : List (Option Value)} {i : Nat} (h : ck ls i = true) {j : Nat} {u : Value} (hj : ls[j]? = some (some u)) (e : j + 1 = i) : u.category ≠ 2 := by
  subst e
  cases u <;> simp_all [ck, Value.category]
theorem stl_sub {adr : Nat → Nat} {ls : List (Option Value)} {i : Nat} {x : Value} (hc : ck ls i = true) : ∀ q ∈ lvl adr (ls.set i (some x)), q ∈ (i, cV adr x) :: (lvl adr ls).filter (fun q => !(q.1 == i) && !(q.1 + 1 == i && q.2.category == 2)) := by
  intro q hq
  obtain ⟨u, h1, h2⟩ := mem_lvl.mp hq
  by_cases hi : i = q.1
  · subst hi
    rw [List.getElem?_set] at h1
    simp only [if_true] at h1
    split at h1
    · cases h1
      rw [List.mem_cons]; left
      exact Prod.ext rfl h2
    · cases h1
  · rw [List.getElem?_set_ne hi] at h1
    refine List.mem_cons_of_mem _ (List.mem_filter.mpr ⟨mem_lvl.mpr ⟨u, h1, h2⟩, ?_⟩)
    have g1 : (q.1 == i) = false := by simp; exact fun e => hi e.symm
    rw [g1]
    by_cases g2 : q.1 + 1 = i
    · have := ck_cat hc h1 g2
      rw [h2, cV_cat]
      simp [this]
    · simp [g2]
theorem stl2_sub {adr : Nat → Nat} {ls : List (Option Value)} {i : Nat} {x : Value} (hc : ck ls i = true) : ∀ q ∈ lvl adr ((ls.set i (some x)).set (i + 1) none), q ∈ (i, cV adr x) :: (lvl adr ls).filter (fun q => !(q.1 == i) && (!(q.1 == i + 1) && !(q.1 + 1 == i && q.2.category == 2))) := by
  intro q hq
  obtain ⟨u, h1, h2⟩ := mem_lvl.mp hq
  by_cases hi1 : i + 1 = q.1
  · rw [← hi1, List.getElem?_set] at h1
    simp only [if_true] at h1
    split at h1
    · cases h1
    · cases h1
  · rw [List.getElem?_set_ne hi1] at h1
    have := stl_sub (adr := adr) (x := x) hc q (mem_lvl.mpr ⟨u, h1, h2⟩)
    rcases List.mem_cons.mp this with h | h
    · rw [h]; exact List.mem_cons_self
    · refine List.mem_cons_of_mem _ (List.mem_filter.mpr ⟨(List.mem_filter.mp h).1, ?_⟩)
      have h3 := (List.mem_filter.mp h).2
      have g1 : (q.1 == i + 1) = false := by simp; exact fun e => hi1 e.symm
      rw [g1]
      simpa using h3
def wput : MW → List Nat → List ME → MW
  | w, k :: ks, e :: es => wput (w.set k e) ks es
  | w, _, _ => w
theorem wput_len (w : MW) (ks : List Nat) (es : List ME) : (wput w ks es).length = w.length := by
  induction ks generalizing w es with
  | nil => cases es <;> rfl
  | cons k ks ih =>
    cases es with
    | nil => rfl
    | cons e es => show (wput (w.set k e) ks es).length = _; rw [ih, List.length_set]
theorem wput_out (w : MW) (ks : List Nat) (es : List ME) (k : Nat) (h : k ∉ ks) : (wput w ks es)[k]? = w[k]? := by
  induction ks generalizing w es with
  | nil => cases es <;> rfl
  | cons a ks ih =>
    cases es with
    | nil => rfl
    | cons e es =>
      show (wput (w.set a e) ks es)[k]? = _
      rw [ih _ _ (fun h' => h (List.mem_cons_of_mem _ h')), List.getElem?_set_ne (fun e => h (by rw [e]; exact List.mem_cons_self))]
theorem wput_in (w : MW) (ks : List Nat) (es : List ME) (hn : va_nd ks = true) (hk : ∀ k ∈ ks, k < w.length) (i k : Nat) (e : ME) (h1 : ks[i]? = some k) (h2 : es[i]? = some e) : (wput w ks es)[k]? = some e := by
  induction ks generalizing w es i with
  | nil => cases h1
  | cons a ks ih =>
    have hn' : a ∉ ks ∧ va_nd ks = true := by
      simpa [va_nd] using hn
    cases es with
    | nil => cases h2
    | cons e0 es =>
      show (wput (w.set a e0) ks es)[k]? = _
      cases i with
      | zero =>
        cases h1; cases h2
        rw [wput_out _ _ _ _ hn'.1, List.getElem?_set_self (hk _ List.mem_cons_self)]
      | succ i =>
        exact ih _ es hn'.2 (fun k hk' => by rw [List.length_set]; exact hk k (List.mem_cons_of_mem _ hk')) i h1 h2
/-- the text constant of the class, at the place 999 -/
def TXT : String := "ban  if   growsor   and  givestakesfeastaheadchainown  owes all  age  "
def BYT : List Int32 := [98, 97, 110, 32, 32, 105, 102, 32, 32, 32, 103, 114, 111, 119, 115, 111, 114, 32, 32, 32, 97, 110, 100, 32, 32, 103, 105, 118, 101, 115, 116, 97, 107, 101, 115, 102, 101, 97, 115, 116, 97, 104, 101, 97, 100, 99, 104, 97, 105, 110, 111, 119, 110, 32, 32, 111, 119, 101, 115, 32, 97, 108, 108, 32, 32, 97, 103, 101, 32, 32]
def FMT : String := "jdk/internal/util/Preconditions"
def FMTd : String := "Ljava/util/function/BiFunction;"
/-- what stands outside the world: the text constant (999), its bytes (998), two statics of the JDK's (997: the formatter, if there is one) -/
def SX (adr : Nat → Nat) (A : Nat → Prop) (s : State) (H : Heap) : Prop :=
  vk_R "DayTown$Lexer" 71 TXT (adr 999) s ∧ vk_S 1 [70] [BYT] (fun _ => adr 999) (fun _ => adr 998) A s H ∧ va_Z "java/lang/String" "COMPACT_STRINGS" "Z" (.int 1) A s H ∧ (va_Z FMT "SIOOBE_FORMATTER" FMTd .null A s H ∨ va_Z FMT "SIOOBE_FORMATTER" FMTd (.ref (adr 997)) A s H)
theorem SX.narrow {a : Nat → Nat} {A B : Nat → Prop} {s : State} {H : Heap} (h : SX a A s H) (hAB : ∀ q, B q → A q) : SX a B s H :=
  ⟨h.1, h.2.1.narrow hAB, h.2.2.1.narrow hAB, h.2.2.2.imp (fun z => z.narrow hAB) (fun z => z.narrow hAB)⟩
theorem SX.kept {a : Nat → Nat} {A : Nat → Prop} {s : State} {H H1 : Heap} (h : SX a A s H) (hq : ∀ q : Nat, q < H.size → ¬ A q → H1[q]? = H[q]?) : SX a A s H1 :=
  ⟨h.1, h.2.1.kept hq, h.2.2.1.kept hq, h.2.2.2.imp (fun z => z.kept hq) (fun z => z.kept hq)⟩
theorem SX.warm {a : Nat → Nat} {A : Nat → Prop} {s U : State} {H : Heap} (hW : s.WarmedH U.vm) (h : SX a A s H) : SX a A U H :=
  ⟨h.1.warm hW, h.2.1.moved hW.alike, h.2.2.1.moved hW.alike, h.2.2.2.imp (fun z => z.moved hW.alike) (fun z => z.moved hW.alike)⟩
theorem SX.same {a : Nat → Nat} {A : Nat → Prop} {u U : State} {H : Heap} (hv : U.vm = u.vm) (h : SX a A u H) : SX a A U H := by
  have hA : u.vm.Alike U.vm := by rw [hv]; exact Vm.Alike.refl _
  exact ⟨h.1.same hv, h.2.1.moved hA, h.2.2.1.moved hA, h.2.2.2.imp (fun z => z.moved hA) (fun z => z.moved hA)⟩
theorem SX.heap {a : Nat → Nat} {A : Nat → Prop} {s : State} {H H1 : Heap} {locs : List Loc} (h : SX a A s H) (hS : va_S A H H1 locs) : SX a A s H1 := h.kept hS.2.1
theorem SX.cong {a a' : Nat → Nat} {A : Nat → Prop} {s : State} {H : Heap} (h : SX a A s H) (he : ∀ k, 997 ≤ k → a' k = a k) : SX a' A s H := by
  unfold SX
  rw [he 999 (by omega), he 998 (by omega), he 997 (by omega)]
  exact h
abbrev tysA (cA : FieldType → ClassId) : List (ClassId × FieldType) := [(cA .int, .int), (cA .byte, .byte), (cA .long, .long), (cA .boolean, .boolean)]
def rmD (d : Nat) : Room := { frames := d + 1, cells := 0, slots := 0, locals := 100 * d + 100 }
/-- the words that stay good wherever the machine goes on; and those of nest mates, which are carried by themselves -/
def gtbl : List Cond := lw_tbl.filter goodWord
def nestB : Cond → Bool
  | .methodLinkNest _ _ _ _ => true
  | _ => false
def ntbl : List Cond := lw_tbl.filter nestB
def PN (s : State) : Prop := ∀ w ∈ ntbl, va_Nw w s
theorem PN.warm {s U : State} (hW : s.WarmedH U.vm) (h : PN s) : PN U := by
  intro w hw
  have h1 := h w hw
  have h2 := (List.mem_filter.mp hw).2
  cases w with
  | methodLinkNest a i x b => exact va_Nw.warmM hW h1
  | _ => cases h2
theorem PN.same {u U : State} (hv : U.vm = u.vm) (h : PN u) : PN U := by
  intro w hw
  have h1 := h w hw
  have h2 := (List.mem_filter.mp hw).2
  cases w with
  | methodLinkNest a i x b => exact va_Nw.same rfl hv.symm h1
  | _ => cases h2
def wsM (y : MI) : List Cond := .code y.1 y.2.1 y.2.2.1 y.2.2.2 :: gtbl
def PP (dC : Nat → ClassId) (dI : Nat → Nat → Nat) (cA : FieldType → ClassId) (adr : Nat → Nat) (n0 : Nat) (A : Nat → Prop) (w : MW) (U : State) : Prop :=
  w.length = n0 ∧ va_P (dC, dI) classes (cw cA adr w) U.heap ∧ va_K (dC, dI) classes (tysA cA) U ∧ va_D A (cw cA adr w) ∧ SX adr A U U.heap
def PQ (Q : Option Value → MW → Prop) (dC : Nat → ClassId) (dI : Nat → Nat → Nat) (cA : FieldType → ClassId) (adr : Nat → Nat) (n0 : Nat) (A : Nat → Prop) : Array Value → State → Outcome → State → Prop :=
  fun _ st oc t => (∃ (v : Option Value) (w' : MW), oc = .returned (v.map (cV adr)) ∧ Q v w' ∧ w'.length = n0 ∧ va_P (dC, dI) classes (cw cA adr w') t.heap) ∧ va_F A st t
def Ok (d : Nat) (y : MI) (args : List Value) (w : MW) (Q : Option Value → MW → Prop) : Prop :=
  ∀ (l : Launch) (dC : Nat → ClassId) (dI : Nat → Nat → Nat) (cA : FieldType → ClassId) (adr : Nat → Nat) (sz : Nat),
    Met l y.1 (wsM y) (rmD d) (va_Pc (args.map (cV adr)) (fun U => U.heap.size = sz ∧ PN U ∧ PP dC dI cA adr w.length (va_A (cw cA adr w) sz) w U)) (PQ Q dC dI cA adr w.length (va_A (cw cA adr w) sz)) 0 0 (va_A (cw cA adr w) sz)
def Cx (y : MI) (p : Program) (s : State) (m : MethodId) (args : Array Value) (meth : Method) (c : Code) (dC : Nat → ClassId) (dI : Nat → Nat → Nat) (cA : FieldType → ClassId) (A : Nat → Prop) : Prop :=
  p.tables.exec = Jvm.exec ∧ c.code = y.2.1 ∧ meth.sig.returnType = y.2.2.2 ∧ c.maxLocals = y.2.2.1 ∧ s.vm.findClass y.1.cls = some m.cls ∧ (∀ w ∈ gtbl, w.before args s = true) ∧ meth.locks = false ∧ va_K (dC, dI) classes (tysA cA) s ∧ (∀ q, s.heap.size ≤ q → A q) ∧ PN s
def Hp (dC : Nat → ClassId) (dI : Nat → Nat → Nat) (cA : FieldType → ClassId) (adr : Nat → Nat) (n0 : Nat) (A : Nat → Prop) (s : State) (H : Heap) (locs : List Loc) (w : MW) : Prop :=
  w.length = n0 ∧ va_P (dC, dI) classes (cw cA adr w) H ∧ va_D A (cw cA adr w) ∧ va_S A s.heap H locs ∧ SX adr A s s.heap
def Ev (d : Nat) (y : MI) (Q : Option Value → MW → Prop) (pc : Nat) (ls : List (Option Value)) (st : List Value) (w : MW) : Prop :=
  ∀ (p : Program) (l : Launch) (e : Env) (s : State) (m : MethodId) (args : Array Value) (below : List Frame) (meth : Method) (c : Code) (dC : Nat → ClassId) (dI : Nat → Nat → Nat) (cA : FieldType → ClassId) (adr : Nat → Nat) (A : Nat → Prop) (n0 : Nat) (H : Heap) (locs : List Loc) (L : Array Slot),
    Cx y p s m args meth c dC dI cA A → Hp dC dI cA adr n0 A s H locs w → hasL adr L y.2.2.1 ls →
    W p l e (rmD d) s m args below meth c H locs 0 0 (MQ below (PQ Q dC dI cA adr n0 A) args s 0 0 A) (F0 m pc L (st.map (cV adr)))
def entL (nL : Nat) (args : List Value) : List (Option Value) := let l := args.flatMap (fun v => if v.category = 2 then [some v, none] else [some v]); l ++ List.replicate (nL - l.length) none
