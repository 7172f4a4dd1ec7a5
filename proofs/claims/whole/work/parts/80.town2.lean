/-! A Known in the town. -/
theorem Part.put {w w0 : MW} {π : List Nat} {ρ : Nat → Nat} (h : Part w π ρ w0) : wput w π (w0.map (renE ρ)) = w := by
  have hkl : ∀ k ∈ π, k < w.length := by
    intro k hk
    obtain ⟨i, hi⟩ := List.getElem?_of_mem hk
    obtain ⟨e, -, h2⟩ := h.get hi
    exact (List.getElem?_eq_some_iff.mp h2).1
  apply List.ext_getElem?
  intro k
  by_cases hm : k ∈ π
  · obtain ⟨i, hi⟩ := List.getElem?_of_mem hm
    obtain ⟨e, h1, h2⟩ := h.get hi
    rw [wput_in w π _ h.1 hkl i k (renE ρ e) hi (by rw [List.getElem?_map, h1]; rfl), h2]
  · rw [wput_out _ _ _ _ hm]
theorem Ok.roP {d : Nat} {z : MI} {args0 args : List Value} {w0 w : MW} {π : List Nat} {ρ : Nat → Nat} {x : Int32} (hM : Ok d z args0 w0 (rt (some (.int x)) w0)) (hπ : Part w π ρ w0) (ha : args = args0.map (cV ρ)) : Ok d z args w (rt (some (.int x)) w) := Ok.ro hM hπ ha hπ.put
def TL (T : RS) (g : Nat → Int32) : List (Nat → Int32) := [T 0, T 1, T 2, T 3, T 4, T 5, T 6, T 7, T 8, T 9, T 10, T 11, T 12, T 13, T 14, T 15, T 16, T 17, T 18, T 19, T 20, T 21, T 22, T 23, T 24, T 25, T 26, T 27, T 28, g]
def kb_ok (kb : Nat) : Prop := kb = 30 ∨ kb = 40
def la_ok (la : Nat) : Prop := la = 10 ∨ la = 18
theorem TL_at (T : RS) (g : Nat → Int32) : ∀ i : Nat, i < 29 → (TL T g)[i]? = some (T i) := by
  intro i hi
  match i, hi with
  | 0, _ => rfl
  | 1, _ => rfl
  | 2, _ => rfl
  | 3, _ => rfl
  | 4, _ => rfl
  | 5, _ => rfl
  | 6, _ => rfl
  | 7, _ => rfl
  | 8, _ => rfl
  | 9, _ => rfl
  | 10, _ => rfl
  | 11, _ => rfl
  | 12, _ => rfl
  | 13, _ => rfl
  | 14, _ => rfl
  | 15, _ => rfl
  | 16, _ => rfl
  | 17, _ => rfl
  | 18, _ => rfl
  | 19, _ => rfl
  | 20, _ => rfl
  | 21, _ => rfl
  | 22, _ => rfl
  | 23, _ => rfl
  | 24, _ => rfl
  | 25, _ => rfl
  | 26, _ => rfl
  | 27, _ => rfl
  | 28, _ => rfl
  | n + 29, h => exact absurd h (by omega)
theorem kπ_at (kb lb : Nat) : ∀ i : Nat, i < 30 → (kπ kb lb)[i]? = some (pkk kb lb i) := by
  intro i hi
  match i, hi with
  | 0, _ => rfl
  | 1, _ => rfl
  | 2, _ => rfl
  | 3, _ => rfl
  | 4, _ => rfl
  | 5, _ => rfl
  | 6, _ => rfl
  | 7, _ => rfl
  | 8, _ => rfl
  | 9, _ => rfl
  | 10, _ => rfl
  | 11, _ => rfl
  | 12, _ => rfl
  | 13, _ => rfl
  | 14, _ => rfl
  | 15, _ => rfl
  | 16, _ => rfl
  | 17, _ => rfl
  | 18, _ => rfl
  | 19, _ => rfl
  | 20, _ => rfl
  | 21, _ => rfl
  | 22, _ => rfl
  | 23, _ => rfl
  | 24, _ => rfl
  | 25, _ => rfl
  | 26, _ => rfl
  | 27, _ => rfl
  | 28, _ => rfl
  | 29, _ => rfl
  | n + 30, h => exact absurd h (by omega)
theorem kπ_nd {kb lb : Nat} (hk : kb_ok kb) (hl : la_ok lb) : va_nd (kπ kb lb) = true := by
  rcases hk with rfl | rfl <;> rcases hl with rfl | rfl <;> rfl
/-- the town behind a method of the Known at kb, with the law at lb -/
def du (kb lb : Nat) (T : RS) (g : Nat → Int32) (σ : RS) : RS := pl (kπ kb lb) (TL T g) σ
theorem du_in {kb lb : Nat} (hk : kb_ok kb) (hl : la_ok lb) (T : RS) (g : Nat → Int32) (σ : RS) {i : Nat} (hi : i < 29) : du kb lb T g σ (pkk kb lb i) = T i := pl_in _ _ _ i _ _ (kπ_nd hk hl) (kπ_at kb lb i (by omega)) (TL_at T g i hi)
theorem du_stack {kb lb : Nat} (hk : kb_ok kb) (hl : la_ok lb) (T : RS) (g : Nat → Int32) (σ : RS) : du kb lb T g σ (lb + 7) = g := pl_in _ _ _ 29 _ _ (kπ_nd hk hl) (kπ_at kb lb 29 (by omega)) rfl
theorem kπ_mem {kb lb c : Nat} (h : c ∈ kπ kb lb) : (kb ≤ c ∧ c < kb + 10) ∨ (2 ≤ c ∧ c < 10) ∨ (50 ≤ c ∧ c < 54) ∨ (lb ≤ c ∧ c < lb + 8) := by
  unfold kπ at h
  simp only [List.mem_cons, List.not_mem_nil, or_false] at h
  omega
theorem du_out (kb lb : Nat) (T : RS) (g : Nat → Int32) (σ : RS) {c : Nat} (h1 : c < kb ∨ kb + 10 ≤ c) (h2 : c < 2 ∨ 10 ≤ c) (h3 : c < 50 ∨ 54 ≤ c) (h4 : c < lb ∨ lb + 8 ≤ c) : du kb lb T g σ c = σ c := pl_out _ _ _ _ (fun z => by have := kπ_mem z; omega)
theorem PD_w1a (σ τ : RS) (g : Nat → Int32) (la sp rl tx : Nat) : wput (WD σ la sp rl tx) (kπ 30 10) ((WK τ g).map (renE (ρo (kπ 30 10)))) = WD (du 30 10 τ g σ) la sp rl tx := PD_u1a σ τ g la sp rl tx
theorem PD_w1b (σ τ : RS) (g : Nat → Int32) (la sp rl tx : Nat) : wput (WD σ la sp rl tx) (kπ 30 18) ((WK τ g).map (renE (ρo (kπ 30 18)))) = WD (du 30 18 τ g σ) la sp rl tx := PD_u1b σ τ g la sp rl tx
theorem PD_w2a (σ τ : RS) (g : Nat → Int32) (la sp rl tx : Nat) : wput (WD σ la sp rl tx) (kπ 40 10) ((WK τ g).map (renE (ρo (kπ 40 10)))) = WD (du 40 10 τ g σ) la sp rl tx := PD_u2a σ τ g la sp rl tx
theorem PD_w2b (σ τ : RS) (g : Nat → Int32) (la sp rl tx : Nat) : wput (WD σ la sp rl tx) (kπ 40 18) ((WK τ g).map (renE (ρo (kπ 40 18)))) = WD (du 40 18 τ g σ) la sp rl tx := PD_u2b σ τ g la sp rl tx
theorem kD_isOf {d : Nat} (σ : RS) (la sp rl tx kb : Nat) (hk : kb_ok kb) (n m : Int32) : Ok d M1_isOf [.ref kb, .int n, .int m] (WD σ la sp rl tx) (rt (some (.int (bI (decide (σ kb 11 = n ∧ σ kb 12 = m))))) (WD σ la sp rl tx)) := by
  rcases hk with rfl | rfl
  · exact Ok.roP (k_isOf (dk 30 10 σ) _ n m) (PD_k1a σ la sp rl tx) rfl
  · exact Ok.roP (k_isOf (dk 40 10 σ) _ n m) (PD_k2a σ la sp rl tx) rfl
theorem kD_reasonOf {d : Nat} (σ : RS) (la sp rl tx kb : Nat) (hk : kb_ok kb) (x : Int32) : Ok (d + 1) M1_reasonOf [.ref kb, .int x] (WD σ la sp rl tx) (rt (some (.int (atF 120 (σ (kb + 1)) x))) (WD σ la sp rl tx)) := by
  rcases hk with rfl | rfl
  · exact Ok.roP (k_reasonOf (dk 30 10 σ) _ x) (PD_k1a σ la sp rl tx) rfl
  · exact Ok.roP (k_reasonOf (dk 40 10 σ) _ x) (PD_k2a σ la sp rl tx) rfl
theorem kD_growsRule {d : Nat} (σ : RS) (la sp rl tx kb : Nat) (hk : kb_ok kb) (x : Int32) : Ok (d + 2) M1_growsRule [.ref kb, .int x] (WD σ la sp rl tx) (rt (some (.int (kn_grows (dk kb 10 σ) x))) (WD σ la sp rl tx)) := by
  rcases hk with rfl | rfl
  · exact Ok.roP (k_growsRule (dk 30 10 σ) _ x) (PD_k1a σ la sp rl tx) rfl
  · exact Ok.roP (k_growsRule (dk 40 10 σ) _ x) (PD_k2a σ la sp rl tx) rfl
theorem kD_banRule {d : Nat} (σ : RS) (la sp rl tx kb : Nat) (hk : kb_ok kb) (x : Int32) : Ok (d + 2) M1_banRule [.ref kb, .int x] (WD σ la sp rl tx) (rt (some (.int (kn_ban (dk kb 10 σ) x))) (WD σ la sp rl tx)) := by
  rcases hk with rfl | rfl
  · exact Ok.roP (k_banRule (dk 30 10 σ) _ x) (PD_k1a σ la sp rl tx) rfl
  · exact Ok.roP (k_banRule (dk 40 10 σ) _ x) (PD_k2a σ la sp rl tx) rfl
theorem kD_holderOf {d : Nat} (σ : RS) (la sp rl tx kb : Nat) (hk : kb_ok kb) (z : Nat) (hz : z ≤ 120) (h13 : σ kb 13 = nI z) (p y : Int32) : Ok (d + 2) M1_holderOf [.ref kb, .int p, .int y] (WD σ la sp rl tx) (rt (some (.int (kn_hold (σ (kb + 4)) (σ (kb + 6)) (p * 400 + y) p z))) (WD σ la sp rl tx)) := by
  rcases hk with rfl | rfl
  · exact Ok.roP (k_holderOf (dk 30 10 σ) _ p y z hz h13) (PD_k1a σ la sp rl tx) rfl
  · exact Ok.roP (k_holderOf (dk 40 10 σ) _ p y z hz h13) (PD_k2a σ la sp rl tx) rfl
theorem kD_linkOf {d : Nat} (σ : RS) (la sp rl tx kb : Nat) (hk : kb_ok kb) (z : Nat) (hz : z ≤ 120) (h13 : σ kb 13 = nI z) (p y i : Int32) : Ok (d + 1) M1_linkOf [.ref kb, .int p, .int y, .int i] (WD σ la sp rl tx) (rt (some (.int (kn_linkV (dk kb 10 σ) p y i z))) (WD σ la sp rl tx)) := by
  rcases hk with rfl | rfl
  · exact Ok.roP (k_linkOf (dk 30 10 σ) _ p y i z hz h13) (PD_k1a σ la sp rl tx) rfl
  · exact Ok.roP (k_linkOf (dk 40 10 σ) _ p y i z hz h13) (PD_k2a σ la sp rl tx) rfl
theorem kD_timesAwake {d : Nat} (σ : RS) (la sp rl tx kb : Nat) (hk : kb_ok kb) (z : Nat) (hz : z ≤ 120) (h13 : σ kb 13 = nI z) (p y : Int32) : Ok (d + 2) M1_timesAwake [.ref kb, .int p, .int y] (WD σ la sp rl tx) (rt (some (.int (kn_awake (dk kb 10 σ) p y z))) (WD σ la sp rl tx)) := by
  rcases hk with rfl | rfl
  · exact Ok.roP (k_timesAwake (dk 30 10 σ) _ p y z hz h13) (PD_k1a σ la sp rl tx) rfl
  · exact Ok.roP (k_timesAwake (dk 40 10 σ) _ p y z hz h13) (PD_k2a σ la sp rl tx) rfl
theorem kD_ageOf {d : Nat} (σ : RS) (la sp rl tx kb : Nat) (hk : kb_ok kb) (z : Nat) (hz : z ≤ 120) (h13 : σ kb 13 = nI z) (p y : Int32) : Ok (d + 3) M1_ageOf [.ref kb, .int p, .int y] (WD σ la sp rl tx) (rt (some (.int (kn_age (dk kb 10 σ) p y z))) (WD σ la sp rl tx)) := by
  rcases hk with rfl | rfl
  · exact Ok.roP (k_ageOf (dk 30 10 σ) _ p y z hz h13) (PD_k1a σ la sp rl tx) rfl
  · exact Ok.roP (k_ageOf (dk 40 10 σ) _ p y z hz h13) (PD_k2a σ la sp rl tx) rfl
theorem kD_papersUpTo {d : Nat} (σ : RS) (la sp rl tx kb : Nat) (hk : kb_ok kb) (z : Nat) (hz : z ≤ 120) (h13 : σ kb 13 = nI z) (y : Int32) : Ok (d + 2) M1_papersUpTo [.ref kb, .int y] (WD σ la sp rl tx) (rt (some (.int (nI (kn_upTo (σ 5) (σ (kb + 3)) y z 0)))) (WD σ la sp rl tx)) := by
  rcases hk with rfl | rfl
  · exact Ok.roP (k_papersUpTo (dk 30 10 σ) _ y z hz h13) (PD_k1a σ la sp rl tx) rfl
  · exact Ok.roP (k_papersUpTo (dk 40 10 σ) _ y z hz h13) (PD_k2a σ la sp rl tx) rfl
theorem kD_seenCounts {d : Nat} (σ : RS) (la sp rl tx kb : Nat) (hk : kb_ok kb) (z : Nat) (hz : z ≤ 120) (h13 : σ kb 13 = nI z) (x : Int32) : Ok (d + 3) M1_seenCounts [.ref kb, .int x] (WD σ la sp rl tx) (rt (some (.int (bI (kn_counts (dk kb 10 σ) x z)))) (WD σ la sp rl tx)) := by
  rcases hk with rfl | rfl
  · exact Ok.roP (k_seenCounts (dk 30 10 σ) _ x z hz h13) (PD_k1a σ la sp rl tx) rfl
  · exact Ok.roP (k_seenCounts (dk 40 10 σ) _ x z hz h13) (PD_k2a σ la sp rl tx) rfl
theorem kD_debt {d : Nat} (σ : RS) (la sp rl tx kb : Nat) (hk : kb_ok kb) (n a b : Int32) : Ok (d + 1) M1_debt [.ref kb, .int n, .int a, .int b] (WD σ la sp rl tx) (rt (some (.int (kn_debt (dk kb 10 σ) n a b))) (WD σ la sp rl tx)) := by
  rcases hk with rfl | rfl
  · exact Ok.roP (k_debt (dk 30 10 σ) _ n a b) (PD_k1a σ la sp rl tx) rfl
  · exact Ok.roP (k_debt (dk 40 10 σ) _ n a b) (PD_k2a σ la sp rl tx) rfl
theorem kD_owedBy {d : Nat} (σ : RS) (la sp rl tx kb : Nat) (hk : kb_ok kb) (n p : Int32) : Ok (d + 2) M1_owedBy [.ref kb, .int n, .int p] (WD σ la sp rl tx) (rt (some (.int (sumTo (fun o => kn_debt (dk kb 10 σ) n p (nI o)) 8))) (WD σ la sp rl tx)) := by
  rcases hk with rfl | rfl
  · exact Ok.roP (k_owedBy (dk 30 10 σ) _ n p) (PD_k1a σ la sp rl tx) rfl
  · exact Ok.roP (k_owedBy (dk 40 10 σ) _ n p) (PD_k2a σ la sp rl tx) rfl
theorem kD_owedTo {d : Nat} (σ : RS) (la sp rl tx kb : Nat) (hk : kb_ok kb) (n p : Int32) : Ok (d + 2) M1_owedTo [.ref kb, .int n, .int p] (WD σ la sp rl tx) (rt (some (.int (sumTo (fun o => kn_debt (dk kb 10 σ) n (nI o) p) 8))) (WD σ la sp rl tx)) := by
  rcases hk with rfl | rfl
  · exact Ok.roP (k_owedTo (dk 30 10 σ) _ n p) (PD_k1a σ la sp rl tx) rfl
  · exact Ok.roP (k_owedTo (dk 40 10 σ) _ n p) (PD_k2a σ la sp rl tx) rfl
