/-! The law from its entry. -/
theorem g_perm {X : GX} {y : MI} {a0 : Nat → Nat} {kc ks pc : Nat} {ls : List (Option Value)} {w w' : MW} {π : List Nat} {ρ : Nat → Nat} (hπ : Part w π ρ w') (h9 : ∀ k, 900 ≤ k → ρ k = k) (hls : ∀ f : Nat → Nat, lvl (fun k => f (ρ k)) ls = lvl f ls) (k : GEv X y 0 a0 kc ks pc ls [] w') : GEv X y 0 a0 kc ks pc ls [] w := by
  intro adr H locs L ha h hl
  refine k (fun k => adr (ρ k)) H locs L (fun k hk => ?_) ⟨rfl, fun i q hq => ?_, ⟨fun i j x z hi hj hxz => ?_, fun i q hq => ?_⟩, h.2.2.2.1, h.2.2.2.2.cong (fun j hj => ?_)⟩ ?_
  · show adr (ρ k) = a0 k
    rw [h9 k (by omega)]
    exact ha k (by omega)
  · obtain ⟨j, -, hj⟩ := hπ.wc X.cA adr i q hq
    exact h.2.1 j q hj
  · obtain ⟨i', g1, g2⟩ := hπ.wc X.cA adr i x hi
    obtain ⟨j', g3, g4⟩ := hπ.wc X.cA adr j z hj
    have := h.2.2.1.1 i' j' x z g2 g4 hxz
    subst this
    exact va_nd_inj π hπ.1 i j i' g1 g3
  · obtain ⟨j, -, hj⟩ := hπ.wc X.cA adr i q hq
    exact h.2.2.1.2 j q hj
  · show adr (ρ j) = adr j
    rw [h9 j (by omega)]
  · unfold hasL
    rw [hls]
    exact hl
def wT : MW := [.inr (6, [.ref 1, .ref 9, .int 0, .ref 10, .ref 18, .ref 26, .int (-1), .int 0, .ref 34, .ref 44, .int 1]), .inr (0, [.ref 2, .ref 3, .ref 4, .ref 5, .ref 6, .ref 7, .ref 8, .int 0, .int 0, .int 0]), .inl (.int, 8, .inl (fun _ => 0)), .inl (.int, 120, .inl (fun _ => 0)), .inl (.int, 120, .inl (fun _ => 0)), .inl (.int, 120, .inl (fun _ => 0)), .inl (.int, 120, .inl (fun _ => 0)), .inl (.int, 120, .inl (fun _ => 0)), .inl (.int, 120, .inl (fun _ => 0)), .inl (.int, 2000, .inl (fun _ => 0)), .inr (2, [.ref 11, .ref 12, .ref 13, .ref 14, .ref 15, .ref 16, .ref 17, .int 0, .int 0]), .inl (.int, 400, .inl (fun _ => 0)), .inl (.int, 400, .inl (fun _ => 0)), .inl (.boolean, 16, .inl (fun _ => 0)), .inl (.int, 16, .inl (fun _ => 0)), .inl (.int, 16, .inl (fun _ => 0)), .inl (.int, 16, .inl (fun _ => 0)), .inl (.int, 400, .inl (fun _ => 0)), .inr (2, [.ref 19, .ref 20, .ref 21, .ref 22, .ref 23, .ref 24, .ref 25, .int 0, .int 0]), .inl (.int, 400, .inl (fun _ => 0)), .inl (.int, 400, .inl (fun _ => 0)), .inl (.boolean, 16, .inl (fun _ => 0)), .inl (.int, 16, .inl (fun _ => 0)), .inl (.int, 16, .inl (fun _ => 0)), .inl (.int, 16, .inl (fun _ => 0)), .inl (.int, 400, .inl (fun _ => 0)), .inr (4, [.ref 27, .ref 29, .ref 18, .int 0, .int 0, .int 0, .int 0, .int 0, .int 0]), .inr (3, [.int 0, .int 17, .int 0, .ref 28, .int 0, .int 0]), .inl (.int, 0, .inl (fun _ => 0)), .inl (.int, 400, .inl (fun _ => 0)), .inr (5, [.ref 31, .ref 32, .ref 33, .int 0, .int 0, .int 0, .int 0]), .inl (.int, 64, .inl (fun _ => 0)), .inl (.int, 8, .inl (fun _ => 0)), .inl (.int, 8, .inl (fun _ => 0)), .inr (1, [.ref 1, .ref 30, .ref 35, .ref 36, .ref 37, .ref 38, .ref 39, .ref 40, .ref 41, .ref 42, .ref 43, .int (-1), .int (-1), .int 0]), .inl (.int, 120, .inl (fun _ => 0)), .inl (.int, 120, .inl (fun _ => 0)), .inl (.int, 120, .inl (fun _ => 0)), .inl (.int, 120, .inl (fun _ => 0)), .inl (.int, 120, .inl (fun _ => 0)), .inl (.int, 120, .inl (fun _ => 0)), .inl (.int, 7744, .inl (fun _ => 0)), .inl (.int, 9, .inl (fun _ => 0)), .inl (.int, 8, .inl (fun _ => 0)), .inr (1, [.ref 1, .ref 30, .ref 45, .ref 46, .ref 47, .ref 48, .ref 49, .ref 50, .ref 51, .ref 52, .ref 53, .int (-1), .int (-1), .int 0]), .inl (.int, 120, .inl (fun _ => 0)), .inl (.int, 120, .inl (fun _ => 0)), .inl (.int, 120, .inl (fun _ => 0)), .inl (.int, 120, .inl (fun _ => 0)), .inl (.int, 120, .inl (fun _ => 0)), .inl (.int, 120, .inl (fun _ => 0)), .inl (.int, 7744, .inl (fun _ => 0)), .inl (.int, 9, .inl (fun _ => 0)), .inl (.int, 8, .inl (fun _ => 0))]
def wN : MW := kW7 (kG14) [.int 0, .ref 1, .int 0, .ref 2, .int 0, .ref 3, .ref 4, .ref 5, .ref 6, .ref 7, .int 0, .int 0, .int 0, .int 0, .int 0, .int 0, .int 0, .int (-1), .int 0, .int 0, .ref 8, .ref 9, .ref 10, .ref 11, .ref 12, .ref 13, .ref 14, .ref 15, .ref 16, .ref 17, .ref 18, .ref 19, .int 0, .ref 20, .ref 21, .ref 22, .int 0, .int 0, .ref 23, .int 0, .ref 24, .ref 25, .ref 26, .ref 27, .ref 28, .ref 29, .ref 30, .int (-1), .int 0, .ref 31, .ref 32, .ref 33, .ref 34, .ref 35, .ref 36, .ref 37, .ref 38, .ref 39, .ref 40, .int 0, .int 0, .int 0, .ref 41, .ref 42, .ref 43, .ref 44, .ref 45] 45
set_option maxRecDepth 100000 in
set_option maxHeartbeats 4000000 in
theorem wN_eq : wN = WM sm0 tm0 := rfl
set_option maxRecDepth 100000 in
set_option maxHeartbeats 4000000 in
theorem part0 (V : MW) : Part (wT ++ (WM sm0 tm0).map (renE (sh 54))) (pi0 ++ List.range' 54 46) rho0 (LW st0 10 18 18 29 sm0 tm0) := by
  refine ⟨by decide +kernel, ⟨fun k hk => if_pos (by omega), fun i k hi => ?_⟩, rfl⟩
  have hlt := (List.getElem?_eq_some_iff.mp hi).1
  have key : ∀ i : Nat, i < 100 → (pi0 ++ List.range' 54 46)[i]? = some (rho0 i) := by decide +kernel
  have := key i hlt
  rw [hi] at this
  exact (Option.some.inj this).symm
/-! THE CLAIM OUT OF ONE WALK OF THE LAW'S BODY. Your part is whole_start (and what it stands on); all else here is the same for every law, but numbers. -/
def R_law : String := "DayTownLaw"
def lw_P (b : Addr) (xs : List Int32) (args : Array Value) (s : State) : Prop := args = #[.ref b] ∧ s.IntsAt b xs ∧ xs.length ≤ 3072 ∧ (Jvm.Cond.and given_1 narrow_1).before args s = true
def lw_Q (_ : Array Value) (s : State) (o : Outcome) (t : State) : Prop := o = .returned (some (.int 1)) ∧ Framed s o t [] 600000 7302250
def lw_Z (below : List Frame) (a : Array Value) (s : State) : State → Prop := fun t => ∃ o, t.status = .running ∧ Ended t below o ∧ lw_Q a s o t
/-- the law's own end, with 1 on the stack, nothing written that was there before, its room as the claim has it -/
theorem lw_ret {p : Program} {l : Launch} {e : Env} {s : State} {m : MethodId} {below : List Frame} {meth : Method} {c : Code} {b : Nat} (hx : p.tables.exec = Jvm.exec) (hb : c.code = code) (hr : meth.sig.returnType = ret) (hlocks : meth.locks = false) {pc : Nat} {H : Heap} {ls : Array Slot} (hdg : decode code pc = .ok (.ireturn, 1)) : W p l e room_1 s m #[Value.ref b] below meth c H [] 600000 7302250 (lw_Z below #[Value.ref b] s) (F0 m pc ls [.int 1]) := by
  intro T hT X
  obtain ⟨fs, hret, hrun, hended, hW, hframe⟩ := X.leave (v := some (.int 1)) (hlocks := hlocks) (fun h => by rw [hr] at h; cases h)
  have hmeth' : T.vm.method? m = some meth := X.method'
  refine ⟨T.setFrames fs, ?_, .returned (some (.int 1)), hrun, hended, rfl, ⟨_, rfl⟩, hW, hframe⟩
  jvm_step X.here [X.here.top, hx, hb, hdg, hmeth', hr, ret, narrow_b1]
  (try refine ⟨rfl, ?_⟩); (try refine ⟨rfl, ?_⟩)
  first | (intro acts; rw [hret _ acts rfl rfl rfl]) | rw [hret _ _ rfl rfl rfl]
  exact Steps.refl _
/-- what holds at the law's entry: the machine, the code, the tables' words (any of lw_tbl by 'hts w (by decide +kernel)'), the script of L ints xs at the cell b, what the Statement gives of the start (any of its parts by flat_of_before) -/
def lw_At (p : Program) (s : State) (m : MethodId) (meth : Method) (c : Code) (b L : Nat) (xs : Nat → Int32) : Prop :=
  p.tables.exec = Jvm.exec ∧ c.code = code ∧ meth.sig.returnType = ret ∧ c.maxLocals = 4 ∧ s.vm.findClass R_law = some m.cls ∧ (∀ w ∈ lw_tbl, w.before #[Value.ref b] s = true) ∧ va_X b L xs s s.heap ∧ b < s.heap.size ∧ meth.locks = false ∧ (Jvm.Cond.and given_1 narrow_1).before #[Value.ref b] s = true
/-! the law's end, and its beginning -/
theorem g_end {X : GX} {a0 : Nat → Nat} {b L : Nat} {xs : Nat → Int32} {kc ks i : Nat} {w : MW} (E : lawE X a0 b L xs) (hA : ∀ q, X.A q → X.s.heap.size ≤ q) (hargs : X.args = #[Value.ref b]) (hZ : X.Z = lw_Z X.below #[Value.ref b] X.s) (hc : kc ≤ 600000 ∧ ks ≤ 7302250) : GEv X MLaw 0 a0 kc ks 1152 (lsL i) [] w := by
  refine g_iconst (pc' := 1153) (v := 1) E.1 dL_law_1152 rfl (by decide) ?_
  intro adr H locs L' ha h hl
  rw [hZ, hargs, E.2.1]
  refine va_forget (fun q hq => hA _ (h.2.2.2.1.2.2 q hq)) ?_
  refine W.widen (k := 600000) (n := 7302250) hc.1 hc.2 ?_
  exact lw_ret E.1.1 E.1.2.1 E.1.2.2.1 E.1.2.2.2.2.2.2.1 dL_law_1153
set_option maxRecDepth 100000 in
set_option maxHeartbeats 4000000 in
theorem law_start {X : GX} {a0 : Nat → Nat} {b L : Nat} {xs : Nat → Int32} (E : lawE X a0 b L xs) (hR : X.R = room_1) (hA : ∀ q, X.A q → X.s.heap.size ≤ q) (hargs : X.args = #[Value.ref b]) (hZ : X.Z = lw_Z X.below #[Value.ref b] X.s) : GEv X MLaw 0 a0 0 0 0 [some (.ref 996), none, none, none] [] [] := by
  have C := E.1
  refine g_new (pc' := 3) C nw_L_7 dL_law_0 rfl rfl (Nat.le_refl _) (by rw [hR]; exact Nat.le_of_ble_eq_true rfl) (by rw [hR]; exact Nat.le_of_ble_eq_true rfl) ?_
  refine GEv.world (w' := [.inr (6, [.null, .null, .int 0, .null, .null, .null, .int 0, .int 0, .null, .null, .int 0])]) rfl ?_
  refine g_dup (pc' := 4) C dL_law_3 rfl rfl ?_
  refine g_ctor (pc' := 7) (ρ := rho 0 0 0) (As := []) (As0 := []) (rest := [.ref 0]) (w2 := wT) C rfl (k_init6 (d := 0)) (Or.inl ci_L_9) dL_law_4 rfl rfl rfl rfl rfl (rho_ok rfl rfl rfl) rho_9 rfl rfl (by decide) (by rw [hR]; exact ⟨Nat.le_of_ble_eq_true rfl, Nat.le_of_ble_eq_true rfl⟩) ⟨by rw [hR]; exact Nat.le_of_ble_eq_true rfl, by rw [hR]; exact Nat.le_of_ble_eq_true rfl⟩ (Nat.zero_le _) (Nat.le_of_ble_eq_true rfl) rfl rfl ?_
  refine g_astore_n (pc' := 8) (ls' := [some (.ref 996), some (.ref 0), none, none]) C dL_law_7 rfl rfl rfl ?_
  refine g_new (pc' := 11) C nw_L_10 dL_law_8 rfl rfl (Nat.zero_le _) (by rw [hR]; exact Nat.le_of_ble_eq_true rfl) (by rw [hR]; exact Nat.le_of_ble_eq_true rfl) ?_
  refine GEv.world (w' := wT ++ [.inr (7, [.int 0, .null, .int 0, .null, .int 0, .null, .null, .null, .null, .null, .int 0, .int 0, .int 0, .int 0, .int 0, .int 0, .int 0, .int 0, .int 0, .int 0, .null, .null, .null, .null, .null, .null, .null, .null, .null, .null, .null, .null, .int 0, .null, .null, .null, .int 0, .int 0, .null, .int 0, .null, .null, .null, .null, .null, .null, .null, .int 0, .int 0, .null, .null, .null, .null, .null, .null, .null, .null, .null, .null, .int 0, .int 0, .int 0, .null, .null, .null, .null, .null])]) rfl ?_
  refine g_dup (pc' := 12) C dL_law_11 rfl rfl ?_
  refine g_ctor (pc' := 15) (ρ := rho 54 0 0) (As := []) (As0 := []) (rest := [.ref 54]) (w2 := wT ++ wN.map (renE (sh 54))) C rfl (k_init7 (d := 0)) (Or.inl ci_L_12) dL_law_12 rfl rfl rfl rfl rfl (rho_ok rfl rfl rfl) rho_9 rfl rfl (by decide) (by rw [hR]; exact ⟨Nat.le_of_ble_eq_true rfl, Nat.le_of_ble_eq_true rfl⟩) ⟨by rw [hR]; exact Nat.le_of_ble_eq_true rfl, by rw [hR]; exact Nat.le_of_ble_eq_true rfl⟩ (Nat.zero_le _) (Nat.le_of_ble_eq_true rfl) rfl rfl ?_
  refine g_astore_n (pc' := 16) (ls' := [some (.ref 996), some (.ref 0), some (.ref 54), none]) C dL_law_15 rfl rfl rfl ?_
  refine g_iconst (pc' := 17) (v := 0) C dL_law_16 rfl (by decide) ?_
  refine g_istore_n (pc' := 18) (ls' := lsL 0) C dL_law_17 rfl rfl rfl ?_
  rw [wN_eq]
  refine g_perm (part0 []) (fun k hk => if_pos hk) (fun _ => rfl) ?_
  exact law_loop E ⟨Nat.le_of_ble_eq_true rfl, Nat.le_of_ble_eq_true rfl⟩ (fun i w => g_end E hA hargs hZ ⟨Nat.le_of_ble_eq_true rfl, Nat.le_of_ble_eq_true rfl⟩) (L + 1) 0 _ _ _ _ _ _ _ _ _ _ _ _ _ _ _ (by omega) (by omega) inv0
theorem whole_start {p : Program} {e : Env} {s : State} {m : MethodId} {below : List Frame} {meth : Method} {c : Code} (l : Launch) (hflags : l.flags = flags0) {b L : Nat} {xs : Nat → Int32} (hL : L ≤ 3072) (C0 : lw_At p s m meth c b L xs) : W p l e room_1 s m #[Value.ref b] below meth c s.heap [] 0 0 (lw_Z below #[Value.ref b] s) (entryFrame m ([Value.ref b] : List Value).toArray 4) := by
  obtain ⟨hx, hb, hr, hml, hown, hts, hX, hbl, hlocks, hgv⟩ := C0
  obtain ⟨a0, h996, hSX⟩ := start_SX hts hgv
  have htg : ∀ w ∈ gtbl, w.before #[Value.ref b] s = true := fun w hw => hts w (List.mem_filter.mp hw).1
  obtain ⟨dC, dI, cA, hK⟩ := start_K htg
  have hPN : PN s := by
    intro w hw
    have h1 := hts w (List.mem_filter.mp hw).1
    have h2 := (List.mem_filter.mp hw).2
    cases w with
    | methodLinkNest a i x b => exact va_tabs rfl rfl h1
    | _ => cases h2
  have E : lawE ((p, l, e), (s, m, #[Value.ref b]), (below, meth, c), (dC, dI, cA), (fun q => s.heap.size ≤ q), room_1, lw_Z below #[Value.ref b] s) a0 b L xs := ⟨⟨hx, hb, hr, hml, hown, htg, hlocks, hK, fun q hq => hq, hPN⟩, rfl, h996, hX, hbl, Nat.not_le.mpr hbl, hL⟩
  have k := law_start E rfl (fun q hq => hq) rfl rfl
  rw [lg_entry_eq]
  refine k a0 s.heap [] _ (agr.refl 0 a0) ⟨rfl, fun k q h => ?_, ⟨fun i j p q h => ?_, fun k q h => ?_⟩, va_S.rf, hSX⟩ ?_
  · exact absurd (List.getElem?_eq_some_iff.mp h).1 (Nat.not_lt_zero k)
  · exact absurd (List.getElem?_eq_some_iff.mp h).1 (Nat.not_lt_zero i)
  · exact absurd (List.getElem?_eq_some_iff.mp h).1 (Nat.not_lt_zero k)
  · have hen : (Value.ref b :: []) = [Value.ref 996].map (cV a0) := by
      show [Value.ref b] = [Value.ref (a0 996)]
      rw [h996]
    rw [hen]
    exact lv_has.mono (lv_entry ([Value.ref 996].map (cV a0)) (by rw [lg_len]; decide)) (entL_has (args := [Value.ref 996]) (nL := 4))
set_option maxHeartbeats 4000000 in
theorem lw_walk (l : Launch) (hflags : l.flags = flags0) (b : Addr) (xs : List Int32) : MetFree l x (headSpec (Jvm.Cond.code x code maxLocals ret :: tables_1) room_1) (lw_P b xs) (fun _ _ _ _ _ => True) lw_Q := by
  refine MetFree.of_bodyS (code := code) (maxLocals := maxLocals) (ret := ret) (by decide) ?_ ?_
  · intro args s m h hn
    obtain ⟨meth, c, h1, h2, h3, h4, h5, h6, -, -⟩ := Cond.code_spec hn (atoms_spec (ws := Jvm.Cond.code x code maxLocals ret :: tables_1) h _ List.mem_cons_self)
    exact ⟨meth, c, h1, h2, h3, h4, h5, h6⟩
  · intro p e s m args below meth c s₁ B hml0 hP _
    obtain ⟨rfl, hx, hbd, hgv⟩ := hP
    obtain ⟨scr, harrAt, hlist, hof, hsmall⟩ := hx
    obtain ⟨hcb, hkn, -, -⟩ := State.arrayAt?_spec harrAt
    have hown : s.vm.findClass R_law = some m.cls := findClass_of_methodNamed B.named
    have hts0 : ∀ c ∈ (Jvm.Cond.code x code maxLocals ret :: tables_1), c.before #[Value.ref b] s = true := atoms_spec (ws := Jvm.Cond.code x code maxLocals ret :: tables_1) B.pre
    have hts : ∀ w ∈ lw_tbl, w.before #[Value.ref b] s = true := k2_hts_sels lw_privs (fun w hw => hts0 w (List.mem_cons_of_mem _ hw)) lw_privs_ok
    have hml : c.maxLocals = 4 := B.maxLocals_eq (hts0 _ List.mem_cons_self)
    have X₀ : Stand p l e room_1 s m #[Value.ref b] below meth c s₁ [] 0 0 := Stand.of_body B
    have hh0 : s₁.heap = s.heap := by rw [B.state]; rfl
    have hsz : scr.slots.size = xs.length := by rw [← Array.length_toList, hlist, List.length_map]
    have hval : ∀ j : Nat, j < xs.length → scr.slots[j]? = some (.int (xs.getD j 0)) := fun j hj => by
      rw [← Array.getElem?_toList, hlist]
      simp [hj]
    have hbl : b < s.heap.size := (Array.getElem?_eq_some_iff.mp hcb).1
    have hX : va_X b xs.length (fun j => xs.getD j 0) s s.heap := ⟨scr, hcb, hof, hkn, hsz, hval⟩
    have K : W p l e room_1 s m #[Value.ref b] below meth c s₁.heap [] 0 0 (lw_Z below #[Value.ref b] s) (entryFrame m ([Value.ref b] : List Value).toArray 4) := by
      rw [hh0]
      exact whole_start l hflags hbd ⟨B.exec, B.bytes, B.returns, hml, hown, hts, hX, hbl, B.notSynchronized, hgv⟩
    obtain ⟨t, a1, o, b1, b2, b3⟩ := K s₁ rfl X₀
    exact ⟨t, o, a1, b1, b2, b3⟩
theorem lw_pre_spec {args : Array Value} {s : State} (h : (Jvm.Cond.and given_1 narrow_1).before args s = true) (hr : rest_1_c.before args s = true) : ∃ (b : Addr) (xs : List Int32), lw_P b xs args s := by
  have hs := flat_of_before _ h
  have hq := flat_of_before _ hr
  have hc : (Cond.count 1).before args s = true := hs _ (by decide +kernel)
  have harr : (Cond.arrayOf (.arg 0) .int).before args s = true := hs _ (by decide +kernel)
  have hle : (Cond.le (.length (.arg 0)) (.int 3072)).before args s = true := hs _ (by decide +kernel)
  have hlen : (Cond.isInt (.length (.arg 0))).before args s = true := hq _ (by decide +kernel)
  have hall : (Cond.all (.arg 0) (.isInt (.elem (.arg 0) (.index 0)))).before args s = true := hq _ (by decide +kernel)
  obtain ⟨b, xs, hb, hx⟩ := State.ints_of_pre rfl harr hlen hall
  have hsm : xs.length < 2 ^ 31 := hx.choose_spec.2.2.2
  have hev : (Term.length (.arg 0)).eval args s none [] s = some (.int xs.length.toInt32) := hx.length_eval hb
  have hv := Cond.le_ints hev (show (Term.int 3072).eval args s none [] s = some (.int 3072) from rfl)
  have hd : xs.length.toInt32 ≤ 3072 := by
    simpa [Cond.before, Cond.holds, hv] using hle
  have hN : xs.length ≤ 3072 := (Int32.ofNat_le_ofNat hsm (by decide)).mp (show Int32.ofNat xs.length ≤ Int32.ofNat 3072 from hd)
  exact ⟨b, xs, Cond.one_arg hc (show args[0]? = some (.ref b) from hb), hx, hN, h⟩
theorem lw_comes (l : Launch) (hflags : l.flags = flags0) : Comes l x (Jvm.Cond.code x code maxLocals ret :: tables_1) room_1 (fun tb e args s => Calls_1 tb e args s ∧ rest_1 tb e args s ∧ Pre_1 tb e args s)
    (fun _ _ args s o t => lw_Q args s o t) := by
  intro p e ha hc hk s m args below hf hfit hheap happ hpre
  obtain ⟨b, xs, hP⟩ := lw_pre_spec hpre.2.2 hpre.2.1
  obtain ⟨k, o, h1, h2, h3, hQ⟩ := lw_walk l hflags b xs p e ha hc hk s m args below hf ((Spec.applies_iff_loose hf).mp happ).1 hP trivial
  exact ⟨k, o, h1, h2, h3, hQ⟩
theorem lw_frame {s t : State} {o : Outcome} {args : Array Value} (h : Framed s o t [] 600000 7302250) :
    Framed s o t (fieldLocs frame_1_writes args s ++ arrayLocs frame_1_arrays args s ++ staticLocs frame_1_statics s) 600000 7302250 := h
theorem lw_limb (L : Cond) (hL : ∀ (args : Array Value) (s t : State), L.after args s (.returned (some (.int 1))) t = true) :
    ArmFor flags0 classFile x code maxLocals ret World_1 tables_1 room_1 Calls_1 rest_1 Pre_1
      (fun tb e a s o t => postC L tb e a s o t ∧ Framed s o t (fieldLocs frame_1_writes a s ++ arrayLocs frame_1_arrays a s ++ staticLocs frame_1_statics s) 600000 7302250) := by
  intro l hflags _ _ p e ha hc hk s m args below hf hfit hheap happ hpre
  obtain ⟨k, o, h1, h2, h3, rfl, hF⟩ := lw_comes l hflags p e ha hc hk s m args below hf hfit hheap happ hpre
  exact ⟨k, _, h1, h2, h3, hL args s _, lw_frame hF⟩
theorem i_vc : Claimed_1_1 ∧ Claimed_1_2 := ⟨lw_limb limb_1_1 (fun args s t => by simp [limb_1_1, Cond.after, Cond.holds, Cond.value]), lw_limb limb_1_2 (fun args s t => Cond.after_iff.mpr (by
  first | (rw [show limb_1_2 = Cond.eq .result (.int 1) from rfl, Cond.eq_ints (x := 1) (y := 1) rfl rfl]; simp; done) | (simp [limb_1_2, Cond.value, Term.eval]; done)))⟩
