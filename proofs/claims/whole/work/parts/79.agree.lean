/-! What was told later, and who came later, changes nothing of what was known before. -/
def agF (n : Nat) (F F' : FF) : Prop := ∀ i k, k < n → F i k = F' i k
theorem agF.mono {n m : Nat} {F F' : FF} (h : agF n F F') (hm : m ≤ n) : agF m F F' := fun i k hk => h i k (by omega)
theorem sfeast_ag {F F' : FF} (y : Nat) : ∀ n, agF n F F' → sfeast F y n = sfeast F' y n := by
  intro n
  induction n with
  | zero => intro _; rfl
  | succ n ih => intro h; rw [sfeast, sfeast, h 0 n (by omega), h 1 n (by omega), h 6 n (by omega), ih (h.mono (by omega))]
theorem sforged_ag {F F' : FF} (y : Nat) : ∀ n, agF n F F' → sforged F y n = sforged F' y n := by
  intro n
  induction n with
  | zero => intro _; rfl
  | succ n ih => intro h; rw [sforged, sforged, h 0 n (by omega), h 6 n (by omega), ih (h.mono (by omega))]
theorem vars_ag {F F' : FF} {lv lv' : Nat → Int32} {n k : Nat} (h : agF n F F') (hk : k < n) (hl : lv (F 3 k) = lv' (F 3 k)) (S : SS) (w : Nat) : sp_vars F lv n k S w = sp_vars F' lv' n k S w := by
  unfold sp_vars fLeaf fba
  rw [sfeast_ag _ n h, h 1 k hk, h 2 k hk, h 4 k hk, h 5 k hk, hl, h 3 k hk]
theorem step_ag {F F' : FF} {lv lv' : Nat → Int32} {A : List YL} {n k : Nat} (h : agF n F F') (hk : k < n) (hl : F 0 k ≤ 1 → lv (F 3 k) = lv' (F 3 k)) (h2 : F 0 k ≤ 2) (S : SS) : sp_step F lv A n k S = sp_step F' lv' A n k S := by
  by_cases h1 : F 0 k ≤ 1
  · have hv : sp_vars F lv n k S = sp_vars F' lv' n k S := funext (vars_ag h hk (hl h1) S)
    unfold sp_step fLeaf fab fba
    rw [sforged_ag _ n h, h 0 k hk, h 1 k hk, h 2 k hk, h 3 k hk, h 4 k hk, h 5 k hk, hv]
  · have h2 : F 0 k = 2 := by omega
    have h2' : F' 0 k = 2 := by rw [← h 0 k hk]; exact h2
    unfold sp_step
    rw [sforged_ag _ n h, if_pos h2, if_pos h2']
theorem run_ag {F F' : FF} {lv lv' : Nat → Int32} {A : List YL} {n : Nat} (h : agF n F F') (hl : ∀ k, k < n → F 0 k ≤ 1 → lv (F 3 k) = lv' (F 3 k)) : ∀ (l : List Nat) (S : SS), (∀ k, k ∈ l → k < n ∧ F 0 k ≤ 2) → sp_run F lv A n l S = sp_run F' lv' A n l S := by
  intro l
  induction l with
  | nil => intro S _; rfl
  | cons k l ih =>
    intro S hm
    obtain ⟨k1, k2⟩ := hm k List.mem_cons_self
    rw [sp_run, sp_run, step_ag h k1 (hl k k1) k2, ih _ (fun z hz => hm z (List.mem_cons_of_mem _ hz))]
theorem mday_ag {F F' : FF} {n : Nat} (h : agF n F F') (d : Nat) : ∀ c k, k + c ≤ n → mday F d c k = mday F' d c k := by
  intro c
  induction c with
  | zero => intro k _; rfl
  | succ c ih => intro k hk; rw [mday, mday, h 0 k (by omega), h 1 k (by omega), ih (k + 1) (by omega)]
theorem mall_ag {F F' : FF} {n : Nat} (h : agF n F F') : ∀ c d, mall F n c d = mall F' n c d := by
  intro c
  induction c with
  | zero => intro d; rfl
  | succ c ih => intro d; rw [mall, mall, mday_ag h d n 0 (by omega), ih (d + 1)]
theorem mlist_ag {F F' : FF} {n : Nat} (h : agF n F F') (y : Nat) : mlist F n y = mlist F' n y := mall_ag h _ _
theorem mlist_in {F : FF} {n y z : Nat} (h : z ∈ mlist F n y) : z < n ∧ F 0 z ≤ 2 := by
  have := (mall_mem F n _ _ z).mp h
  exact ⟨this.1, this.2.1⟩
theorem cS_ag {F F' : FF} {lv lv' : Nat → Int32} {A : List YL} {n : Nat} (h : agF n F F') (hl : ∀ k, k < n → F 0 k ≤ 1 → lv (F 3 k) = lv' (F 3 k)) (i : Nat) : cS F lv A n i = cS F' lv' A n i := by
  unfold cS
  rw [← mlist_ag h]
  exact run_ag h hl _ _ (fun k hk => mlist_in (List.mem_of_mem_take hk))
theorem dU_ag {F F' : FF} {lv lv' : Nat → Int32} {A : List YL} {n : Nat} (h : agF n F F') (hl : ∀ k, k < n → F 0 k ≤ 1 → lv (F 3 k) = lv' (F 3 k)) (y : Nat) : dU F lv A n y = dU F' lv' A n y := by
  unfold dU
  rw [← mlist_ag h]
  exact run_ag h hl _ _ (fun k hk => mlist_in hk)
theorem kGood_ag {F F' : FF} {lv lv' : Nat → Int32} {A : List YL} {n : Nat} {τ : RS} (h : agF n F F') (hl : ∀ k, k < n → F 0 k ≤ 1 → lv (F 3 k) = lv' (F 3 k)) (g : kGood F lv A n τ) : kGood F' lv' A n τ := by
  obtain ⟨g1, ⟨o1, o2⟩, g3⟩ := g
  have em := mlist_ag h 399
  obtain ⟨l1, l2, l3, l4, l5⟩ := g3
  have ec : cS F lv A n = cS F' lv' A n := funext (cS_ag h hl)
  rw [em] at o1 o2 l1 l2 l3 l4 l5
  rw [ec] at l1 l2 l3 l5
  refine ⟨g1, ⟨o1, o2⟩, l1, l2, fun f hf => ?_, fun f f1 f2 f3 => ?_, fun i f hi hf => ?_⟩
  · have hm := mlist_in (List.mem_of_mem_take hf)
    rw [← h 0 f hm.1]
    exact l3 f hf
  · rw [← sforged_ag f n h]
    exact l4 f f1 (by rw [h 0 f f1]; exact f2) f3
  · have hm := mlist_in (List.mem_of_getElem? hf)
    rw [← h 0 f hm.1, ← h 4 f hm.1, ← h 5 f hm.1]
    exact l5 i f hi hf
theorem mGone_ag {F F' : FF} {lv lv' : Nat → Int32} {A : List YL} {n y : Nat} {σ : RS} (h : agF n F F') (hl : ∀ k, k < n → F 0 k ≤ 1 → lv (F 3 k) = lv' (F 3 k)) (g : mGone F lv A n y σ) : mGone F' lv' A n y σ := by
  obtain ⟨pr, p1, p2, p3, p4⟩ := g
  have ed := dU_ag (A := A) h hl y
  unfold dU at ed
  rw [ed] at p2 p3 p4
  refine ⟨mlist F' n y, fun _ hk => hk, p2, p3, fun k hk => ?_⟩
  rw [← mlist_ag h] at hk
  rw [← h 0 k (mlist_in hk).1]
  exact p4 k (p1 k hk)
theorem mGone_same {F : FF} {lv : Nat → Int32} {A : List YL} {n y : Nat} {σ σ' : RS} (g : mGone F lv A n y σ) (e : ∀ c, 31 ≤ c → c ≤ 36 → σ' c = σ c) : mGone F lv A n y σ' := by
  obtain ⟨pr, p1, p2, p3, p4⟩ := g
  refine ⟨pr, p1, fun j hj => ?_, ?_, fun k hk => ?_⟩
  · rw [e 31 (by omega) (by omega), e 32 (by omega) (by omega)]; exact p2 j hj
  · rw [e 33 (by omega) (by omega)]; exact p3
  · rw [e 34 (by omega) (by omega), e 35 (by omega) (by omega), e 36 (by omega) (by omega)]; exact p4 k hk
theorem mCache_ag {F F' : FF} {lv lv' : Nat → Int32} {A : List YL} {N N' : Nat} {σ σ' : RS} (hN : N ≤ N') (h : agF N F F') (hl : ∀ k, k < N → F 0 k ≤ 1 → lv (F 3 k) = lv' (F 3 k)) (g : mCache F lv A N σ) (e0 : σ' 0 47 = σ 0 47 ∧ σ' 0 48 = σ 0 48) (e : ∀ c, 31 ≤ c → c ≤ 36 → σ' c = σ c) : mCache F' lv' A N' σ' := by
  rcases g with g | ⟨n, y, g1, g2, g3, g4, g5⟩
  · exact Or.inl (e0.1.trans g)
  · exact Or.inr ⟨n, y, by omega, g2, e0.1.trans g3, e0.2.trans g4, mGone_same (mGone_ag (h.mono g1) (fun k hk => hl k (by omega)) g5) e⟩
