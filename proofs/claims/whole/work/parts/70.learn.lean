/-! The class learns: what it holds then. -/
def cS (F : FF) (lv : Nat → Int32) (A : List YL) (n i : Nat) : SS := sp_run F lv A n ((mlist F n 399).take i) ss0
def cO (F : FF) (n : Nat) (σ : RS) : Prop := σ 0 13 = nI (mlist F n 399).length ∧ ∀ i f, (mlist F n 399)[i]? = some f → σ 3 i = nI f
def cL (F : FF) (lv : Nat → Int32) (A : List YL) (n i : Nat) (σ : RS) : Prop :=
  (∀ i', i' ≤ i → ∀ j, j < 64 → σ 7 (i' * 64 + j) = (cS F lv A n i').2.2.1 j) ∧ lvR (cS F lv A n i).1 (cS F lv A n i).2.1 (σ 4) (σ 5) (σ 6) i ∧ (∀ f, f ∈ (mlist F n 399).take i → σ 1 f = (cS F lv A n i).2.2.2.1 f ∧ (F 0 f = 0 → (cS F lv A n i).2.2.2.1 f = 4 ∨ (cS F lv A n i).2.2.2.1 f = 0 → σ 2 f = (cS F lv A n i).2.2.2.2 f)) ∧ (∀ f, f < n → F 0 f ≤ 2 → f ∉ (mlist F n 399).take i → σ 1 f = bI (sforged F f n)) ∧ ∀ i' f, i' < i → (mlist F n 399)[i']? = some f → σ 4 i' = (if (cS F lv A n i).2.2.2.1 f = 0 ∧ F 0 f ≤ 1 then nI (F 4 f * 400 + F 5 f) else -1) ∧ σ 6 i' = σ 17 f
theorem take_succ_get {α : Type} {l : List α} {i : Nat} {x : α} (h : l[i]? = some x) : l.take (i + 1) = l.take i ++ [x] := by
  obtain ⟨h1, h2⟩ := List.getElem?_eq_some_iff.mp h
  rw [List.take_succ, h]
  rfl
theorem cS_succ {F : FF} {lv : Nat → Int32} {A : List YL} {n i f : Nat} (h : (mlist F n 399)[i]? = some f) : cS F lv A n (i + 1) = sp_step F lv A n f (cS F lv A n i) := by
  unfold cS
  rw [take_succ_get h, sp_run_app]
  rfl
theorem mlist_ok (F : FF) (n : Nat) : (mlist F n 399).Pairwise (ltF F) := mall_ok F n 400 0
theorem mlist_mem {F : FF} {n : Nat} (z : Nat) : z ∈ mlist F n 399 ↔ (z < n ∧ F 0 z ≤ 2 ∧ F 1 z < 400) := by
  unfold mlist
  rw [mall_mem]
  omega
/-- a paper stands once -/
theorem mlist_not {F : FF} {n i f : Nat} (h : (mlist F n 399)[i]? = some f) : f ∉ (mlist F n 399).take i := by
  intro hm
  have hp := mlist_ok F n
  obtain ⟨h1, h2⟩ := List.getElem?_eq_some_iff.mp h
  have e : mlist F n 399 = (mlist F n 399).take i ++ (mlist F n 399).drop i := (List.take_append_drop i _).symm
  rw [e] at hp
  have hd : f ∈ (mlist F n 399).drop i := by
    rw [List.drop_eq_getElem_cons h1, h2]
    exact List.mem_cons_self
  have := (List.pairwise_append.mp hp).2.2 f hm f hd
  unfold ltF at this
  omega
theorem mlist_len {F : FF} {n : Nat} (hF : ∀ k, k < n → F 1 k < 400) : (mlist F n 399).length ≤ n := by
  have e := ordR_eq hF
  rw [← e, List.length_reverse]
  have : ∀ c x l, (ordR F c x l).length ≤ l.length + c := by
    intro c
    induction c with
    | zero => intro x l; exact Nat.le_refl _
    | succ c ih =>
      intro x l
      rw [ordR]
      have := ih (x + 1) (if F 0 x ≤ 2 then insR F x l else l)
      split at this
      · rename_i h
        rw [if_pos h]
        rw [insR_len] at this
        omega
      · rename_i h
        rw [if_neg h]
        omega
  have := this n 0 []
  rw [List.length_nil] at this
  omega
theorem cS_inv {F : FF} {lv : Nat → Int32} {A : List YL} {P N n : Nat} (hP : P ≤ 8) (hn : n ≤ N) (hN : N ≤ 120) (hok : ∀ k, k < N → okF P F k) : ∀ i, i ≤ (mlist F n 399).length → sInv P i (cS F lv A n i) := by
  intro i
  induction i with
  | zero => intro _; exact sInv_0 P
  | succ i ih =>
    intro hi
    have hlt : i < (mlist F n 399).length := by omega
    have hget := List.getElem?_eq_getElem hlt
    rw [cS_succ hget]
    have hm := (mlist_mem (F := F) (n := n) _).mp (List.getElem_mem hlt)
    have hl := mlist_len (F := F) (n := n) (fun k hk => (hok k (by omega)).1.2.1)
    exact sInv_step hP (hok _ (by omega)) hm.2.1 (ih (by omega)) (by omega)
theorem cO_same {F : FF} {n : Nat} {σ τ : RS} (h : cO F n σ) (g : kn_same σ τ) : cO F n τ := ⟨by rw [g.1]; exact h.1, fun i f hf => by rw [g.2.1]; exact h.2 i f hf⟩
theorem kn_same.trans' {σ τ υ : RS} (h : kn_same σ τ) (g : kn_same τ υ) : kn_same σ υ := ⟨g.1.trans h.1, g.2.1.trans h.2.1, fun j h1 h2 => (g.2.2.1 j h1 h2).trans (h.2.2.1 j h1 h2), fun j h1 => (g.2.2.2 j h1).trans (h.2.2.2 j h1)⟩
theorem cL_step {F : FF} {lv : Nat → Int32} {A : List YL} {P N n i f : Nat} {σ : RS} {g : Nat → Int32} (hT : cT F lv A P N n σ) (hO : cO F n σ) (hf : (mlist F n 399)[i]? = some f) (h : cL F lv A n i σ) : cL F lv A n (i + 1) (kn_lrn1 σ i n A.length g).1 ∧ kn_same σ (kn_lrn1 σ i n A.length g).1 := by
  obtain ⟨hP, hN, hn, hok⟩ := hT.1
  have hlt := (List.getElem?_eq_some_iff.mp hf).1
  have hl := mlist_len (F := F) (n := n) (fun k hk => (hok k (by omega)).1.2.1)
  have hm := (mlist_mem (F := F) (n := n) f).mp (List.mem_of_getElem? hf)
  have hnot := mlist_not hf
  obtain ⟨hr, hlv, hdn, htd, hgf⟩ := h
  have hI := cS_inv (lv := lv) (A := A) hP hn hN hok i (by omega)
  obtain ⟨⟨p1, p2, p2f⟩, ⟨p4, p5, p6⟩, p7o, p7n, psm, plv, pk⟩ := c_step (g := g) hT (hO.2 i f hf) hm.1 hm.2.1 (by omega) hI hlv (hr i (Nat.le_refl i)) (htd f hm.1 hm.2.1 hnot)
  rw [← cS_succ hf] at p1 p2f p4 p7n plv pk
  generalize (kn_lrn1 σ i n A.length g).1 = τ at *
  have hmem : ∀ z, z ∈ (mlist F n 399).take (i + 1) ↔ z ∈ (mlist F n 399).take i ∨ z = f := fun z => by
    rw [take_succ_get hf, List.mem_append, List.mem_singleton]
  refine ⟨⟨fun i' hi' j hj => ?_, plv, fun z hz => ?_, fun z z1 z2 z3 => ?_, fun i' z hi' hz => ?_⟩, psm⟩
  · by_cases e : i' = i + 1
    · rw [e]; exact p7n j hj
    · rw [p7o _ (by omega)]
      exact hr i' (by omega) j hj
  · rw [p1]
    by_cases e : z = f
    · rw [e, upd_same]
      exact ⟨rfl, p2f⟩
    · obtain ⟨k1, k2⟩ := pk z e
      rw [upd_ne _ _ e, p2 z e, k1, k2]
      exact hdn z (((hmem z).mp hz).resolve_right e)
  · have e : z ≠ f := fun e => z3 ((hmem z).mpr (Or.inr e))
    rw [p1, upd_ne _ _ e]
    exact htd z z1 z2 (fun q => z3 ((hmem z).mpr (Or.inl q)))
  · rw [p4, p6]
    by_cases e : i' = i
    · subst e
      rw [hf] at hz
      cases hz
      rw [upd_same, upd_same]
      exact ⟨rfl, by rw [psm.2.2.1 17 (by omega) (by omega)]⟩
    · have hzf : z ≠ f := by
        intro q
        have hz2 : z ∈ (mlist F n 399).take i := by
          have hlt2 : i' < i := by omega
          have : ((mlist F n 399).take i)[i']? = some z := by rw [List.getElem?_take_of_lt hlt2]; exact hz
          exact List.mem_of_getElem? this
        rw [q] at hz2
        exact hnot hz2
      rw [upd_ne _ _ e, upd_ne _ _ e, (pk z hzf).1, psm.2.2.1 17 (by omega) (by omega)]
      exact hgf i' z (by omega) hz
theorem cL_loop {F : FF} {lv : Nat → Int32} {A : List YL} {P N n : Nat} : ∀ (c k : Nat) (σ : RS) (g : Nat → Int32), k + c = (mlist F n 399).length → cT F lv A P N n σ → cO F n σ → cL F lv A n k σ → cL F lv A n (mlist F n 399).length (kn_lrn n A.length c k (σ, g)).1 ∧ kn_same σ (kn_lrn n A.length c k (σ, g)).1 := by
  intro c
  induction c with
  | zero =>
    intro k σ g hk hT hO h
    have hk : k = (mlist F n 399).length := by omega
    subst hk
    exact ⟨h, kn_same.refl σ⟩
  | succ c ih =>
    intro k σ g hk hT hO h
    have hget := List.getElem?_eq_getElem (show k < (mlist F n 399).length by omega)
    obtain ⟨h1, h2⟩ := cL_step (g := g) hT hO hget h
    obtain ⟨h3, h4⟩ := ih (k + 1) _ (kn_lrn1 σ k n A.length g).2 (by omega) (cT_same hT h2) (cO_same hO h2) h1
    exact ⟨h3, h2.trans' h4⟩
/-- what is known by n -/
def kGood (F : FF) (lv : Nat → Int32) (A : List YL) (n : Nat) (σ : RS) : Prop := σ 0 11 = nI n ∧ cO F n σ ∧ cL F lv A n (mlist F n 399).length σ
theorem c_learn {F : FF} {lv : Nat → Int32} {A : List YL} {P N n : Nat} {σ : RS} {g : Nat → Int32} {num : Int32} (hP : P ≤ 8) (hN : N ≤ 120) (hn : n ≤ N) (hok : ∀ k, k < N → okF P F k) (h8 : σ 10 8 = nI N) (hF : cFacts N F σ) (hlv : ∀ p, p < P → σ 11 p = lv p) (hA : claw (lw σ) A) (h0 : ∀ j, j < 64 → σ 7 j = 0) : kGood F lv A n (kn_learn σ n A.length num g).1 ∧ (kn_learn σ n A.length num g).1 0 12 = num ∧ (∀ j, 10 ≤ j → j < 18 → (kn_learn σ n A.length num g).1 j = σ j) ∧ ∀ j, 22 ≤ j → (kn_learn σ n A.length num g).1 j = σ j := by
  obtain ⟨o, ho⟩ : ∃ o, o = kn_arr (kn_new σ n num) n 0 0 (kn_new σ n num 3) := ⟨_, rfl⟩
  have hFn : cFacts N F (kn_new σ n num) := hF
  have hFk : ∀ k, k < n → F 1 k < 400 := fun k hk => (hok k (by omega)).1.2.1
  have e0 := ordR_eq hFk
  have hl := mlist_len hFk
  obtain ⟨a1, a2⟩ := arr_rep hFn (fun k hk => ⟨(hok k hk).1.1, (hok k hk).1.2.1⟩) (show (kn_new σ n num) 10 8 = nI N from h8) hN n 0 [] (kn_new σ n num 3) (by omega) (fun z hz => absurd hz List.not_mem_nil) trivial
  rw [List.length_nil] at a1 a2
  rw [← ho] at a1 a2
  have ez : o.1 = (mlist F n 399).length := by rw [a1, ← e0, List.length_reverse]
  obtain ⟨σs, hs⟩ : ∃ τ, τ = kn_start σ n num := ⟨_, rfl⟩
  have s3 : σs 3 = o.2 := by rw [hs, ho]; rfl
  have s0 : σs 0 13 = nI o.1 := by rw [hs, ho]; rfl
  have s11 : σs 0 11 = nI n := by rw [hs]; rfl
  have s12 : σs 0 12 = num := by rw [hs]; rfl
  have sne : ∀ c, c ≠ 0 → c ≠ 1 → c ≠ 3 → σs c = σ c := fun c c0 c1 c3 => by
    rw [hs]
    show (s1 (s2 (s1 (s2 (s2 σ 0 11 (nI n)) 0 12 num) 3 _) 0 13 _) 1 _) c = _
    rw [s1_ne _ _ c1]
    unfold s2
    rw [s1_ne _ _ c0, s1_ne _ _ c3, s1_ne _ _ c0, s1_ne _ _ c0]
  have hO : cO F n σs := by
    refine ⟨by rw [s0, ez], fun i f hf => ?_⟩
    rw [s3]
    refine stk_get a2 ?_
    rw [← List.map_reverse, e0, List.getElem?_map, hf]
    rfl
  have hT : cT F lv A P N n σs := by
    refine ⟨⟨hP, hN, hn, hok⟩, s11, by rw [sne 10 (by decide) (by decide) (by decide)]; exact h8, fun k hk => ?_, fun p hp => by rw [sne 11 (by decide) (by decide) (by decide)]; exact hlv p hp, lw_claw hA (fun j hj => sne j (by omega) (by omega) (by omega))⟩
    rw [sne 12 (by decide) (by decide) (by decide), sne 13 (by decide) (by decide) (by decide), sne 14 (by decide) (by decide) (by decide), sne 15 (by decide) (by decide) (by decide), sne 16 (by decide) (by decide) (by decide), sne 17 (by decide) (by decide) (by decide)]
    exact hF k hk
  have hFs : cFacts N F (kn_sorted σ n num) := hF
  have s1' : ∀ j, j < 120 → σs 1 j = bI (sforged F j n) := fun j hj => by
    have h := forge_rep hFs (fun k hk => ⟨(hok k hk).1.1, (hok k hk).1.2.2.2.2.2.2⟩) (show (kn_sorted σ n num) 10 8 = nI N from h8) hN n 0 (fillTo (kn_sorted σ n num 1) 0 120) (by omega) (fun j hj => if_pos hj) j hj
    rw [Nat.zero_add] at h
    rw [hs]
    exact h
  have hL : cL F lv A n 0 σs := by
    refine ⟨fun i' hi' j hj => ?_, lvR_0 _ _ _, fun f hf => absurd hf (by rw [List.take_zero]; exact List.not_mem_nil), fun f f1 f2 _ => s1' f (by omega), fun i' f hi' _ => absurd hi' (Nat.not_lt_zero _)⟩
    have : i' = 0 := by omega
    subst this
    rw [Nat.zero_mul, Nat.zero_add, sne 7 (by decide) (by decide) (by decide)]
    exact h0 j hj
  obtain ⟨r1, r2⟩ := cL_loop (lv := lv) (A := A) (P := P) (N := N) (mlist F n 399).length 0 σs g (by omega) hT hO hL
  have er : kn_learn σ n A.length num g = kn_lrn n A.length (mlist F n 399).length 0 (σs, g) := by
    unfold kn_learn
    rw [← ho, ez, ← hs]
  rw [er]
  refine ⟨⟨by rw [r2.1]; exact s11, cO_same hO r2, r1⟩, by rw [r2.1]; exact s12, fun j j1 j2 => ?_, fun j j1 => ?_⟩
  · rw [r2.2.2.1 j j1 j2]; exact sne j (by omega) (by omega) (by omega)
  · rw [r2.2.2.2 j j1]; exact sne j (by omega) (by omega) (by omega)
