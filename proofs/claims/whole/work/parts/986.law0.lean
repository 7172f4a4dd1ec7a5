/-! THE LAW: both worlds side by side. -/
abbrev MLaw : MI := (⟨RL, "law", "([I)Z"⟩, cL_law, 4, some .boolean)
def sh (n : Nat) : Nat → Nat := fun k => if 900 ≤ k then k else n + k
theorem wput_l {U V w' : MW} (h : w'.length = U.length) : wput (U ++ V) (List.range U.length) w' = w' ++ V := by
  apply List.ext_getElem?
  intro i
  by_cases hi : i < U.length
  · rw [List.getElem?_append_left (by omega)]
    exact (wput_in (U ++ V) _ w' (va_nd_of_nodup _ List.nodup_range) (fun k hk => by rw [List.length_append]; have := List.mem_range.mp hk; omega) i i w'[i] (List.getElem?_range hi) (List.getElem?_eq_getElem (by omega))).trans (List.getElem?_eq_getElem (by omega)).symm
  · rw [wput_out _ _ _ _ (fun z => hi (List.mem_range.mp z)), List.getElem?_append_right (by omega), List.getElem?_append_right (by omega), h]
theorem wput_r {U V v' : MW} (h : v'.length = V.length) : wput (U ++ V) (List.range' U.length V.length) v' = U ++ v' := by
  have hg : ∀ j, j < V.length → (List.range' U.length V.length)[j]? = some (U.length + j) := fun j hj => by
    rw [List.getElem?_range' hj, Nat.one_mul]
  apply List.ext_getElem?
  intro i
  by_cases hi : i < U.length
  · rw [wput_out _ _ _ _ (fun z => by have := List.mem_range'_1.mp z; omega), List.getElem?_append_left hi, List.getElem?_append_left hi]
  · by_cases h2 : i < U.length + V.length
    · rw [List.getElem?_append_right (by omega)]
      have hj : i - U.length < V.length := by omega
      have e : (List.range' U.length V.length)[i - U.length]? = some i := by
        rw [hg _ hj, show U.length + (i - U.length) = i by omega]
      exact (wput_in (U ++ V) _ v' (va_nd_of_nodup _ (List.nodup_range' (h := by omega))) (fun k hk => by rw [List.length_append]; have := List.mem_range'_1.mp hk; omega) (i - U.length) i v'[i - U.length] e (List.getElem?_eq_getElem (by omega))).trans (List.getElem?_eq_getElem (by omega)).symm
    · rw [List.getElem?_eq_none (by rw [wput_len, List.length_append]; omega), List.getElem?_eq_none (by rw [List.length_append]; omega)]
theorem okL {d : Nat} {z : MI} {args : List Value} {U : MW} {Q : Option Value → MW → Prop} (V : MW) (hM : Ok d z args U Q) : Ok d z args (U ++ V) (fun v w => ∃ w1, Q v w1 ∧ w1.length = U.length ∧ w = w1 ++ V) := by
  have hπ : Part (U ++ V) (List.range U.length) (fun k => k) U := by
    refine ⟨va_nd_of_nodup _ List.nodup_range, ⟨fun _ _ => rfl, fun i k hk => ?_⟩, ?_⟩
    · have hi := (List.getElem?_eq_some_iff.mp hk).1
      rw [List.length_range] at hi
      rw [List.getElem?_range hi] at hk
      exact Option.some.inj hk
    · apply List.ext_getElem?
      intro i
      rw [List.getElem?_map, List.getElem?_map]
      by_cases hi : i < U.length
      · rw [List.getElem?_range hi, List.getElem?_eq_getElem hi]
        show some ((U ++ V)[i]?) = some (some (renE (fun k => k) U[i]))
        rw [renE_id, List.getElem?_append_left hi, List.getElem?_eq_getElem hi]
      · rw [List.getElem?_eq_none (by rw [List.length_range]; omega), List.getElem?_eq_none (by omega)]; rfl
  refine Ok.frame hM hπ (by rw [show cV (fun k => k) = id from funext cV_id, List.map_id]) (fun v w' h1 h2 => ⟨w', ?_, h2, ?_⟩)
  · rw [show v.map (cV (fun k => k)) = v by rw [show cV (fun k => k) = id from funext cV_id]; cases v <;> rfl]
    exact h1
  · rw [show renE (fun k => k) = id from funext renE_id, List.map_id]
    exact wput_l h2
theorem okR {d : Nat} {z : MI} {args0 : List Value} {V0 : MW} {Q : Option Value → MW → Prop} (U : MW) (hl : V0.length < 900) (hM : Ok d z args0 V0 Q) : Ok d z (args0.map (cV (sh U.length))) (U ++ V0.map (renE (sh U.length))) (fun v w => ∃ v1 w1, Q v1 w1 ∧ w1.length = V0.length ∧ v = v1.map (cV (sh U.length)) ∧ w = U ++ w1.map (renE (sh U.length))) := by
  have hlm : (V0.map (renE (sh U.length))).length = V0.length := List.length_map ..
  have hπ : Part (U ++ V0.map (renE (sh U.length))) (List.range' U.length V0.length) (sh U.length) V0 := by
    refine ⟨va_nd_of_nodup _ (List.nodup_range' (h := by omega)), ⟨fun k hk => if_pos (by omega), fun i k hk => ?_⟩, ?_⟩
    · have hi := (List.getElem?_eq_some_iff.mp hk).1
      rw [List.length_range'] at hi
      rw [List.getElem?_range' hi, Nat.one_mul] at hk
      exact (if_neg (by omega)).trans (Option.some.inj hk)
    · apply List.ext_getElem?
      intro i
      rw [List.getElem?_map, List.getElem?_map]
      by_cases hi : i < V0.length
      · rw [List.getElem?_range' hi, List.getElem?_eq_getElem hi, Nat.one_mul]
        show some ((U ++ V0.map (renE (sh U.length)))[U.length + i]?) = some (some (renE (sh U.length) V0[i]))
        rw [List.getElem?_append_right (by omega), show U.length + i - U.length = i by omega, List.getElem?_map, List.getElem?_eq_getElem hi]
        rfl
      · rw [List.getElem?_eq_none (by rw [List.length_range']; omega), List.getElem?_eq_none (by omega)]; rfl
  refine Ok.frame hM hπ rfl (fun v w' h1 h2 => ⟨v, w', h1, h2, rfl, ?_⟩)
  have := wput_r (U := U) (V := V0.map (renE (sh U.length))) (v' := w'.map (renE (sh U.length))) (by rw [List.length_map, List.length_map, h2])
  rwa [hlm] at this
abbrev LW (σ : RS) (la sp rl tx : Nat) (σm : RS) (τ : TS) : MW := WD σ la sp rl tx ++ (WM σm τ).map (renE (sh 54))
def lsL (i : Nat) : List (Option Value) := [some (.ref 996), some (.ref 0), some (.ref 54), some (.int (nI i))]
/-- where the law walks: its script, its room -/
def lawE (X : GX) (a0 : Nat → Nat) (b L : Nat) (xs : Nat → Int32) : Prop := X.ok MLaw ∧ X.R = room_1 ∧ a0 996 = b ∧ va_X b L xs X.s X.s.heap ∧ b < X.s.heap.size ∧ ¬ X.A b ∧ L ≤ 3072
section LAWROWS
variable {X : GX} {a0 : Nat → Nat} {b L : Nat} {xs : Nat → Int32} {n0 kc ks pc pc' : Nat} {ls : List (Option Value)} {st : List Value} {w : MW}
theorem g_sld (E : lawE X a0 b L xs) {i : Int32} (hin : vp_in i L) (hd : decode cL_law pc = .ok (.iaload, 1)) (hpc : pc + 1 = pc') (k : GEv X MLaw n0 a0 kc ks pc' ls (.int (xs i.toNatClampNeg) :: st) w) : GEv X MLaw n0 a0 kc ks pc ls (.int i :: .ref 996 :: st) w := by
  subst hpc
  obtain ⟨C, hR, h996, hX, hb, hA, hL⟩ := E
  intro adr H locs L' ha h hl
  have e : adr 996 = b := (ha 996 (by omega)).trans h996
  show W X.p X.l X.e X.R X.s X.m X.args X.below X.meth X.c H locs kc ks X.Z (F0 X.m pc L' (.int i :: .ref (adr 996) :: st.map (cV adr)))
  rw [e]
  exact va_sld C.1 C.2.1 hX hb hA h.2.2.2.1 hin hd (k adr H locs L' ha h hl)
theorem g_slen (E : lawE X a0 b L xs) (hd : decode cL_law pc = .ok (.arraylength, 1)) (hpc : pc + 1 = pc') (k : GEv X MLaw n0 a0 kc ks pc' ls (.int (nI L) :: st) w) : GEv X MLaw n0 a0 kc ks pc ls (.ref 996 :: st) w := by
  subst hpc
  obtain ⟨C, hR, h996, hX, hb, hA, hL⟩ := E
  intro adr H locs L' ha h hl
  have e : adr 996 = b := (ha 996 (by omega)).trans h996
  show W X.p X.l X.e X.R X.s X.m X.args X.below X.meth X.c H locs kc ks X.Z (F0 X.m pc L' (.ref (adr 996) :: st.map (cV adr)))
  rw [e]
  exact va_slen C.1 C.2.1 hX hb hA h.2.2.2.1 hd (k adr H locs L' ha h hl)
/-- an argument out of the script -/
theorem g_arg {i k : Nat} {c : Int} (E : lawE X a0 b L xs) (hi : i + k < L) (hc : Int32.ofInt c = nI k) (d0 : decode cL_law pc = .ok (.aload_n 0, 1)) (d1 : decode cL_law (pc + 1) = .ok (.iload_n 3, 1)) (d2 : decode cL_law (pc + 2) = .ok (.iconst c, 1)) (d3 : decode cL_law (pc + 3) = .ok (.iadd, 1)) (d4 : decode cL_law (pc + 4) = .ok (.iaload, 1)) (hpc : pc + 5 = pc') (K : GEv X MLaw n0 a0 kc ks pc' (lsL i) (.int (xs (i + k)) :: st) w) : GEv X MLaw n0 a0 kc ks pc (lsL i) st w := by
  have hL := E.2.2.2.2.2.2
  refine g_aload_n (pc' := pc + 1) E.1 d0 rfl rfl ?_
  refine g_iload_n (pc' := pc + 2) E.1 d1 rfl rfl ?_
  refine g_iconst (pc' := pc + 3) E.1 d2 rfl hc ?_
  refine g_iadd (pc' := pc + 4) E.1 d3 rfl ?_
  rw [nI_add]
  refine g_sld (pc' := pc') E (vp_in_nI hi (by omega)) d4 hpc ?_
  rw [nI_clamp (by omega)]
  exact K
theorem l_callC {z : MI} {idx n : Nat} {As rest : List Value} {U V : MW} {fs : List Value} {Q : Option Value → MW → Prop} (E : lawE X a0 b L xs) (hcl : CLv RL idx z n) (hM : Ok 21 z (.ref 0 :: As) U Q) (hU : U[0]? = some (.inr (6, fs))) (hz : (classes[6]?).map (·.1) = some z.1.cls) (hd : decode cL_law pc = .ok (.invokevirtual idx, 3)) (hpc : pc + 3 = pc') (hst : st = As.reverse ++ .ref 0 :: rest) (hn : As.length = n) (hcat : (rest.map fun v => v.category).sum ≤ 8) (hc : kc ≤ 600000 ∧ ks ≤ 7302250) (kk : ∀ v w1, Q v w1 → w1.length = U.length → GEv X MLaw n0 a0 kc ks pc' ls (v.toList ++ rest) (w1 ++ V)) : GEv X MLaw n0 a0 kc ks pc ls st (U ++ V) := by
  refine g_callV (fs := fs) E.1 hcl (okL V hM) hd hpc hst hn hcat (by rw [List.getElem?_append_left (List.getElem?_eq_some_iff.mp hU).1]; exact hU) hz (by rw [E.2.1]; exact ⟨Nat.le_of_ble_eq_true rfl, Nat.le_of_ble_eq_true rfl⟩) (by rw [E.2.1]; exact hc) ?_
  rintro v w' ⟨w1, h1, h2, rfl⟩ -
  exact kk v w1 h1 h2
theorem l_callM {z : MI} {idx n : Nat} {As rest : List Value} {U : MW} {σm : RS} {τ : TS} {Q : Option Value → MW → Prop} (E : lawE X a0 b L xs) (hcl : CLv RL idx z n) (hU : U.length = 54) (hM : Ok 21 z (.ref 0 :: As) (WM σm τ) Q) (hAs : As.map (cV (sh 54)) = As) (hz : (classes[7]?).map (·.1) = some z.1.cls) (hd : decode cL_law pc = .ok (.invokevirtual idx, 3)) (hpc : pc + 3 = pc') (hst : st = As.reverse ++ .ref 54 :: rest) (hn : As.length = n) (hcat : (rest.map fun v => v.category).sum ≤ 8) (hc : kc ≤ 600000 ∧ ks ≤ 7302250) (kk : ∀ v w1, Q v w1 → GEv X MLaw n0 a0 kc ks pc' ls ((v.map (cV (sh 54))).toList ++ rest) (U ++ w1.map (renE (sh 54)))) : GEv X MLaw n0 a0 kc ks pc ls st (U ++ (WM σm τ).map (renE (sh 54))) := by
  have h := okR U (Nat.le_of_ble_eq_true rfl) hM
  rw [hU] at h
  have ha : (Value.ref 0 :: As).map (cV (sh 54)) = .ref 54 :: As := by
    rw [List.map_cons, hAs]
    rfl
  rw [ha] at h
  obtain ⟨fs, hfs⟩ : ∃ fs, ((WM σm τ).map (renE (sh 54)))[0]? = some (.inr (7, fs)) := ⟨_, rfl⟩
  refine g_callV (fs := fs) (ci := 7) E.1 hcl h hd hpc hst hn hcat (by rw [List.getElem?_append_right (by omega), hU]; exact hfs) hz (by rw [E.2.1]; exact ⟨Nat.le_of_ble_eq_true rfl, Nat.le_of_ble_eq_true rfl⟩) (by rw [E.2.1]; exact hc) ?_
  rintro v w' ⟨v1, w1, h1, h2, rfl, rfl⟩ -
  exact kk v1 w1 h1
end LAWROWS
/-! Both go on alike. -/
def LInv (i : Nat) (F : FF) (lv : Nat → Int32) (A : List YL) (P N r la sp b T : Nat) (σ σm : RS) (τ : TS) : Prop := cI F lv A P N r la σ ∧ twoLaws la sp ∧ σ 2 9 = sp_papers F N ∧ (tR T σ σm ∧ T ≤ 2000) ∧ σ 0 6 = σm 0 17 ∧ (mBase F lv A P N b σm ∧ mCache F lv A N σm) ∧ keysok τ ∧ r ≤ i
def NXT (i : Nat) (G : MW → Prop) : Prop := ∀ F lv A P N r la sp rl tx b T σ σm τ, LInv (i + 6) F lv A P N r la sp b T σ σm τ → G (LW σ la sp rl tx σm τ)
/-- two contracts that answer alike, and whose worlds go on -/
def FIN (G : MW → Prop) (Q1 Q2 : Option Value → MW → Prop) : Prop := (∀ v w, Q1 v w → ∃ x, v = some (.int x)) ∧ (∀ v w, Q2 v w → ∃ x, v = some (.int x)) ∧ ∀ x w1 y w2, Q1 (some (.int x)) w1 → Q2 (some (.int y)) w2 → x = y ∧ G (w1 ++ w2.map (renE (sh 54)))
section FINS
variable {i : Nat} {F : FF} {lv : Nat → Int32} {A : List YL} {P N r la sp b T : Nat} {σ σm : RS} {τ : TS} {G : MW → Prop}
theorem some_int {x y : Int32} (h : some (Value.int x) = some (Value.int y)) : x = y := by
  injection h with h
  injection h
theorem fin_q (rl tx : Nat) (I : LInv i F lv A P N r la sp b T σ σm τ) (K : NXT i G) (ans : Int32) : FIN G (qd F lv A P N r la σ sp rl tx ans) (qm F lv A P N b σm τ ans) := by
  refine ⟨fun v w h => ⟨_, h.1⟩, fun v w h => ⟨_, h.1⟩, fun x w1 y w2 h1 h2 => ?_⟩
  obtain ⟨e1, σ', rfl, c1, c2⟩ := h1
  obtain ⟨e2, σm', rfl, m1, m2, m3⟩ := h2
  refine ⟨(some_int e1).trans (some_int e2).symm, K F lv A P N r la sp rl tx b T σ' σm' τ ?_⟩
  obtain ⟨hI, h2L, hp, ⟨⟨t1, t2, t3⟩, hT⟩, hpl, hm, hk, hr⟩ := I
  have hla : la = 10 ∨ la = 18 := hI.1
  exact ⟨c1, h2L, by rw [c2.2 2 (by omega) (by omega) (by omega)]; exact hp, ⟨⟨by rw [c2.1 2 (by omega)]; exact t1, by rw [m3.2.1]; exact t2, by rw [c2.2 1 (by omega) (by omega) (by omega), m3.1]; exact t3⟩, hT⟩, by rw [c2.1 6 (by omega), m3.2.2]; exact hpl, ⟨m1, m2⟩, hk, by omega⟩
theorem fin_t (rl tx : Nat) (I : LInv i F lv A P N r la sp b T σ σm τ) (K : NXT i G) (R : Option (Nat → Nat)) : FIN G (tdQ F lv A P N r la σ sp rl tx R) (tmQ F lv A P N b σm τ R) := by
  refine ⟨fun v w h => tdQ_v h, fun v w h => by cases R <;> exact ⟨_, h.1⟩, fun x w1 y w2 h1 h2 => ?_⟩
  obtain ⟨hI, h2L, hp, ⟨⟨t1, t2, t3⟩, hT⟩, hpl, hm, hk, hr⟩ := I
  cases R with
  | none =>
    obtain ⟨e1, rfl⟩ := h1
    obtain ⟨e2, rfl⟩ := h2
    exact ⟨(some_int e1).trans (some_int e2).symm, K F lv A P N r la sp rl tx b T σ σm τ ⟨hI, h2L, hp, ⟨⟨t1, t2, t3⟩, hT⟩, hpl, hm, hk, by omega⟩⟩
  | some q =>
    obtain ⟨e1, ho, hn, σ', rfl, c1, c2, c3, c4⟩ := h1
    obtain ⟨e2, σm', rfl, m1, m2, m3⟩ := h2
    exact ⟨(some_int e1).trans (some_int e2).symm, K (fnew N q F) lv A P (N + 1) r la sp rl tx b T σ' σm' τ ⟨c1, h2L, c2, ⟨⟨by rw [c3]; exact t1, by rw [m3.2.1]; exact t2, by rw [c4, m3.1]; exact t3⟩, hT⟩, by rw [c3, m3.2.2]; exact hpl, ⟨m1, m2⟩, hk, by omega⟩⟩
theorem fin_p (rl tx : Nat) (I : LInv i F lv A P N r la sp b T σ σm τ) (K : NXT i G) (z : Int32) : FIN G (pdQ F lv A P N r la σ sp rl tx z) (pmQ F lv A P N b σm τ z) := by
  obtain ⟨hI, h2L, hp, ⟨⟨t1, t2, t3⟩, hT⟩, hpl, hm, hk, hr⟩ := I
  unfold pdQ pmQ
  by_cases g : P = 8 ∨ z < 0 ∨ 40000 < z
  · rw [if_pos g, if_pos g]
    refine ⟨fun v w h => ⟨_, h.1⟩, fun v w h => ⟨_, h.1⟩, fun x w1 y w2 h1 h2 => ?_⟩
    obtain ⟨e1, rfl⟩ := h1
    obtain ⟨e2, rfl⟩ := h2
    exact ⟨(some_int e1).trans (some_int e2).symm, K F lv A P N r la sp rl tx b T σ σm τ ⟨hI, h2L, hp, ⟨⟨t1, t2, t3⟩, hT⟩, hpl, hm, hk, by omega⟩⟩
  · rw [if_neg g, if_neg g]
    refine ⟨fun v w h => ⟨_, h.1⟩, fun v w h => ⟨_, h.1⟩, fun x w1 y w2 h1 h2 => ?_⟩
    obtain ⟨e1, σ', rfl, c1, c2, c3, c4⟩ := h1
    obtain ⟨e2, σm', rfl, m1, m2, m3⟩ := h2
    exact ⟨(some_int e1).trans (some_int e2).symm, K F (upd lv P z) A (P + 1) N r la sp rl tx b T σ' σm' τ ⟨c1, h2L, by rw [c2]; exact hp, ⟨⟨by rw [c3]; exact t1, by rw [m3.2.1]; exact t2, by rw [c4, m3.1]; exact t3⟩, hT⟩, by rw [c3, m3.2.2]; exact hpl, ⟨m1, m2⟩, hk, by omega⟩⟩
theorem mBase_tape {σm' : RS} (h : mBase F lv A P N b σm) (hc : mCache F lv A N σm) (k : tK σm σm') : mBase F lv A P N b σm' ∧ mCache F lv A N σm' := by
  obtain ⟨hok, h37, h39, hF, hl, hlv⟩ := h
  exact ⟨⟨hok, (k.2 37 (by omega)).trans h37, (k.2 39 (by omega)).trans h39, mF_keep hF (fun c c1 c2 => k.1 c (by omega) (by omega)), mlaw_same ⟨fun c c1 c2 => k.1 c (by omega) (by omega), k.2 18 (by omega)⟩ hl, by rw [k.1 23 (by omega) (by omega)]; exact hlv⟩, mCache_ag (Nat.le_refl N) (fun _ _ _ => rfl) (fun _ _ _ => rfl) hc ⟨k.2 47 (by omega), k.2 48 (by omega)⟩ (fun c c1 c2 => k.1 c (by omega) (by omega))⟩
theorem LInv.tape {T' : Nat} {σ' σm' : RS} (I : LInv i F lv A P N r la sp b T σ σm τ) (ht : tR T' σ' σm') (hT : T' ≤ 2000) (k1 : tK σ σ') (k2 : tK σm σm') : LInv (i + 6) F lv A P N r la sp b T' σ' σm' τ := by
  obtain ⟨hI, h2L, hp, -, hpl, hm, hk, hr⟩ := I
  exact ⟨cI_tape hI k1, h2L, by rw [k1.1 2 (by omega) (by omega)]; exact hp, ⟨ht, hT⟩, by rw [k1.2 6 (by omega), k2.2 17 (by omega)]; exact hpl, mBase_tape hm.1 hm.2 k2, hk, by omega⟩
theorem LInv.next (I : LInv i F lv A P N r la sp b T σ σm τ) : LInv (i + 6) F lv A P N r la sp b T σ σm τ := I.tape I.2.2.2.1.1 I.2.2.2.1.2 (tK.refl _) (tK.refl _)
theorem fin_feed (rl tx : Nat) (I : LInv i F lv A P N r la sp b T σ σm τ) (K : NXT i G) (x1 x2 x3 x4 x5 : Int32) : FIN G (if 2000 < T + 20 then rt (some (.int (-1))) (WD σ la sp rl tx) else rt (some (.int (nI (T + 20)))) (WD (d_feed' σ x1 x2 x3 x4 x5) la sp rl tx)) (if 2000 < T + 20 then rt (some (.int (-1))) (WM σm τ) else rt (some (.int (nI (T + 20)))) (WM (m_feed' σm x1 x2 x3 x4 x5) τ)) := by
  by_cases g : 2000 < T + 20
  · rw [if_pos g, if_pos g]
    refine ⟨fun v w h => ⟨_, h.1⟩, fun v w h => ⟨_, h.1⟩, fun x w1 y w2 h1 h2 => ?_⟩
    obtain ⟨e1, rfl⟩ := h1
    obtain ⟨e2, rfl⟩ := h2
    exact ⟨(some_int e1).trans (some_int e2).symm, K F lv A P N r la sp rl tx b T σ σm τ I.next⟩
  · rw [if_neg g, if_neg g]
    refine ⟨fun v w h => ⟨_, h.1⟩, fun v w h => ⟨_, h.1⟩, fun x w1 y w2 h1 h2 => ?_⟩
    obtain ⟨e1, rfl⟩ := h1
    obtain ⟨e2, rfl⟩ := h2
    obtain ⟨f1, f2, f3⟩ := feed_R I.2.2.2.1.1 (by omega) x1 x2 x3 x4 x5
    exact ⟨(some_int e1).trans (some_int e2).symm, K F lv A P N r la sp rl tx b (T + 20) _ _ τ (I.tape f1 (by omega) f2 f3)⟩
theorem tK_len (σ : RS) (x : Int32) : tK σ (s2 σ 0 2 x) := ⟨fun c h0 _ => s1_ne _ _ h0, fun j hj => upd_ne _ _ hj⟩
theorem fin_back (rl tx : Nat) (I : LInv i F lv A P N r la sp b T σ σm τ) (K : NXT i G) (n : Int32) : FIN G (if n < 0 ∨ σ 0 2 < n then rt (some (.int (-1))) (WD σ la sp rl tx) else rt (some (.int (σ 0 2 - n))) (WD (s2 σ 0 2 (σ 0 2 - n)) la sp rl tx)) (if n < 0 ∨ σm 0 2 < n then rt (some (.int (-1))) (WM σm τ) else rt (some (.int (σm 0 2 - n))) (WM (s2 σm 0 2 (σm 0 2 - n)) τ)) := by
  obtain ⟨t1, t2, t3⟩ := I.2.2.2.1.1
  have hT := I.2.2.2.1.2
  rw [t1, t2]
  by_cases g : n < 0 ∨ nI T < n
  · rw [if_pos g, if_pos g]
    refine ⟨fun v w h => ⟨_, h.1⟩, fun v w h => ⟨_, h.1⟩, fun x w1 y w2 h1 h2 => ?_⟩
    obtain ⟨e1, rfl⟩ := h1
    obtain ⟨e2, rfl⟩ := h2
    exact ⟨(some_int e1).trans (some_int e2).symm, K F lv A P N r la sp rl tx b T σ σm τ I.next⟩
  · rw [if_neg g, if_neg g]
    obtain ⟨k, k1, rfl⟩ := nI_of (fun z => g (Or.inl z))
    have hk : k ≤ T := by
      rcases Nat.lt_or_ge T k with q | q
      · exact absurd (Or.inr ((nI_ltI (by omega) k1).mpr q)) g
      · exact q
    rw [nI_sub hk]
    refine ⟨fun v w h => ⟨_, h.1⟩, fun v w h => ⟨_, h.1⟩, fun x w1 y w2 h1 h2 => ?_⟩
    obtain ⟨e1, rfl⟩ := h1
    obtain ⟨e2, rfl⟩ := h2
    refine ⟨(some_int e1).trans (some_int e2).symm, K F lv A P N r la sp rl tx b (T - k) _ _ τ (I.tape ⟨rfl, rfl, fun j hj => t3 j (by omega)⟩ (by omega) (tK_len _ _) (tK_len _ _))⟩
theorem fin_place (rl tx : Nat) (I : LInv i F lv A P N r la sp b T σ σm τ) (K : NXT i G) : FIN G (rt (some (.int (σ 0 6))) (WD σ la sp rl tx)) (rt (some (.int (σm 0 17))) (WM σm τ)) := by
  refine ⟨fun v w h => ⟨_, h.1⟩, fun v w h => ⟨_, h.1⟩, fun x w1 y w2 h1 h2 => ?_⟩
  obtain ⟨e1, rfl⟩ := h1
  obtain ⟨e2, rfl⟩ := h2
  exact ⟨(some_int e1).trans (I.2.2.2.2.1.trans (some_int e2).symm), K F lv A P N r la sp rl tx b T σ σm τ I.next⟩
theorem fin_r (rl tx : Nat) (I : LInv i F lv A P N r la sp b T σ σm τ) (K : NXT i G) (R : Int32 × Nat × YS) : FIN G (drQ F lv A P N r la sp R σ) (mrQ F lv A P N b R σm τ) := by
  refine ⟨fun v w h => ⟨_, h.1⟩, fun v w h => ⟨_, h.1⟩, fun x w1 y w2 h1 h2 => ?_⟩
  obtain ⟨hI, h2L, hp, ⟨⟨t1, t2, t3⟩, hT⟩, hpl, hm, hk, hr⟩ := I
  obtain ⟨e1, σ', la', sp', rfl, c1, c2, c3, hc⟩ := h1
  obtain ⟨e2, σm', τ', rfl, m1, m2, m3, hd⟩ := h2
  refine ⟨(some_int e1).trans (some_int e2).symm, ?_⟩
  have hk' : keysok τ' := fun w hw => by rw [m1]; exact hk w hw
  have ht : tR 0 σ' σm' := ⟨c2, m2, fun j hj => absurd hj (Nat.not_lt_zero j)⟩
  rcases hc with ⟨n1, -, n2, n3⟩ | ⟨n1, n2, n3⟩
  · rcases hd with ⟨p1, p2, p3, p4⟩ | ⟨p1, -⟩
    · exact K F lv A P N r la' sp' sp 1 b 0 σ' σm' τ' ⟨n3, c1, by rw [c3]; exact hp, ⟨ht, by omega⟩, n2.trans p2.symm, ⟨p3, p4⟩, hk', by omega⟩
    · exact absurd p1 n1
  · rcases hd with ⟨p1, -⟩ | ⟨p1, p2, p3, p4⟩
    · exact absurd n1 p1
    · exact K F lv R.2.2.2.2.1.1 P N (r + 1) la' sp' sp 1 (1 - b) 0 σ' σm' τ' ⟨n3, c1, by rw [c3]; exact hp, ⟨ht, by omega⟩, n2.trans p2.symm, ⟨p3, p4⟩, hk', by omega⟩
end FINS
