/-! The reader in the town (class 4): readText. -/
theorem x_tok_lt (n : Nat) (t : Nat → Int32) (i : Nat) (hi : i ≤ n) (hk : ¬ (x_tok n t i).2.1 = 17) : i < (x_tok n t i).2.2.2 := by
  have hx := x_skip_le x_blank t (n - i) i
  unfold x_tok at hk ⊢
  generalize hs : x_skip x_blank t (n - i) i = s at hx hk ⊢
  unfold x_tokAt at hk ⊢
  by_cases h1 : x_byte n t s = -1
  · rw [if_pos h1] at hk
    exact absurd rfl hk
  · rw [if_neg h1]
    have hsn : s < n := Nat.lt_of_not_le (fun z => h1 (if_neg (by omega)))
    have eb : x_byte n t s = t s := if_pos hsn
    have one : ∀ p : Int32 → Bool, p (t s) = true → s < x_skip p t (n - s) s := fun p hp => by
      rw [show n - s = (n - s - 1) + 1 by omega, x_skip, if_pos hp]
      have := x_skip_le p t (n - s - 1) (s + 1)
      omega
    by_cases h2 : x_letter (x_byte n t s) = true
    · rw [if_pos h2]
      rw [eb] at h2
      have := one x_letter h2
      show i < x_skip x_letter t (n - s) s
      omega
    · rw [if_neg h2]
      by_cases h3 : x_digit (x_byte n t s) = true
      · rw [if_pos h3]
        rw [eb] at h3
        have := one x_digit h3
        show i < x_skip x_digit t (n - s) s
        omega
      · rw [if_neg h3]
        have := x_sign_pos n t s (x_byte n t s) hsn
        show i < s + (x_sign n t s (x_byte n t s)).2
        omega
/-- each text's run ends -/
theorem ym_run_ex (n : Nat) (t : Nat → Int32) : ∀ (c i : Nat) (S : YS), i ≤ n → n - i ≤ c → ∃ f R, ym_run n t f i S = some R := by
  intro c
  induction c with
  | zero =>
    intro i S hi hc
    by_cases hk : (x_tok n t i).2.1 = 17
    · refine ⟨1, ?_⟩
      rw [ym_run, hk]
      split
      · exact ⟨_, if_pos rfl⟩
      · exact ⟨_, rfl⟩
    · have := x_tok_lt n t i hi hk
      have := (x_tok_le n t i hi).2.2
      omega
  | succ c ih =>
    intro i S hi hc
    by_cases hk : (x_tok n t i).2.1 = 17
    · refine ⟨1, ?_⟩
      rw [ym_run, hk]
      split
      · exact ⟨_, if_pos rfl⟩
      · exact ⟨_, rfl⟩
    · have h1 := x_tok_lt n t i hi hk
      have h2 := (x_tok_le n t i hi).2.2
      obtain ⟨f, R, hR⟩ := ih (x_tok n t i).2.2.2 (ym_step (x_tok n t i).2.1 (x_tok n t i).2.2.1 S) h2 (by omega)
      refine ⟨f + 1, ?_⟩
      rw [ym_run]
      by_cases h3 : ym_fits S (x_tok n t i).2.1 = true
      · rw [if_pos h3, if_neg hk]
        by_cases h4 : ym_room S (x_tok n t i).2.1 = true
        · rw [if_pos h4]; exact ⟨R, hR⟩
        · rw [if_neg h4]; exact ⟨_, rfl⟩
      · rw [if_neg h3]; exact ⟨_, rfl⟩
def pz (sp c : Nat) : Nat := if c = 3 then 1 else if c < 3 then 26 + c else sp + (c - 4)
def zd (sp : Nat) (σ : RS) : RS := fun c => σ (pz sp c)
def zπ (sp : Nat) : List Nat := [26, 27, 28, 1, sp, sp + 1, sp + 2, sp + 3, sp + 4, sp + 5, sp + 6, sp + 7]
def ZL (T : RS) (g : Nat → Int32) : List (Nat → Int32) := [T 0, T 1, T 2, T 3, T 4, T 5, T 6, T 7, T 8, T 9, T 10, g]
def dz (sp : Nat) (T : RS) (g : Nat → Int32) (σ : RS) : RS := pl (zπ sp) (ZL T g) σ
theorem WD_o26 (σ : RS) (la sp rl tx : Nat) (f : Nat → Int32) : (WD σ la sp rl tx).set 26 (.inr (4, [.ref 28, .ref 27, .ref rl, .int (f 3), .int (f 4), .int (f 5), .int (f 6), .int (f 7), .int (f 8)])) = WD (s1 σ 26 f) la sp rl tx := rfl
theorem WD_o28 (σ : RS) (la sp rl tx : Nat) (f : Nat → Int32) : (WD σ la sp rl tx).set 28 (.inr (3, [.int (f 0), .int (f 1), .int (f 2), .ref tx, .int (f 4), .int (f 5)])) = WD (s1 σ 28 f) la sp rl tx := rfl
theorem PZ_a (σ : RS) (la : Nat) : Part (WD σ la 10 10 1) (zπ 10) (ρo (zπ 10)) (WZ (zd 10 σ) (σ 17)) := Part.of _ rfl rfl rfl
theorem PZ_wa (σ τ : RS) (g : Nat → Int32) (la : Nat) : wput (WD σ la 10 10 1) (zπ 10) ((WZ τ g).map (renE (ρo (zπ 10)))) = WD (dz 10 τ g σ) la 10 10 1 := by
  refine wput_cons (WD_o26 _ la 10 10 1 (τ 0)) ?_
  refine wput_cons (WD_a27 _ la 10 10 1 (τ 1)) ?_
  refine wput_cons (WD_o28 _ la 10 10 1 (τ 2)) ?_
  refine wput_cons (WD_a1 _ la 10 10 1 (τ 3)) ?_
  refine wput_cons (WD_o10 _ la 10 10 1 (τ 4)) ?_
  refine wput_cons (WD_a11 _ la 10 10 1 (τ 5)) ?_
  refine wput_cons (WD_a12 _ la 10 10 1 (τ 6)) ?_
  refine wput_cons (WD_a13 _ la 10 10 1 (τ 7)) ?_
  refine wput_cons (WD_a14 _ la 10 10 1 (τ 8)) ?_
  refine wput_cons (WD_a15 _ la 10 10 1 (τ 9)) ?_
  refine wput_cons (WD_a16 _ la 10 10 1 (τ 10)) ?_
  refine wput_cons (WD_a17 _ la 10 10 1 g) ?_
  rfl
theorem PZ_b (σ : RS) (la : Nat) : Part (WD σ la 18 18 1) (zπ 18) (ρo (zπ 18)) (WZ (zd 18 σ) (σ 25)) := Part.of _ rfl rfl rfl
theorem PZ_wb (σ τ : RS) (g : Nat → Int32) (la : Nat) : wput (WD σ la 18 18 1) (zπ 18) ((WZ τ g).map (renE (ρo (zπ 18)))) = WD (dz 18 τ g σ) la 18 18 1 := by
  refine wput_cons (WD_o26 _ la 18 18 1 (τ 0)) ?_
  refine wput_cons (WD_a27 _ la 18 18 1 (τ 1)) ?_
  refine wput_cons (WD_o28 _ la 18 18 1 (τ 2)) ?_
  refine wput_cons (WD_a1 _ la 18 18 1 (τ 3)) ?_
  refine wput_cons (WD_o18 _ la 18 18 1 (τ 4)) ?_
  refine wput_cons (WD_a19 _ la 18 18 1 (τ 5)) ?_
  refine wput_cons (WD_a20 _ la 18 18 1 (τ 6)) ?_
  refine wput_cons (WD_a21 _ la 18 18 1 (τ 7)) ?_
  refine wput_cons (WD_a22 _ la 18 18 1 (τ 8)) ?_
  refine wput_cons (WD_a23 _ la 18 18 1 (τ 9)) ?_
  refine wput_cons (WD_a24 _ la 18 18 1 (τ 10)) ?_
  refine wput_cons (WD_a25 _ la 18 18 1 g) ?_
  rfl
theorem ZL_at (T : RS) (g : Nat → Int32) : ∀ i : Nat, i < 11 → (ZL T g)[i]? = some (T i) := by
  intro i hi
  match i, hi with
  | 0, _ => rfl
  | 1, _ => rfl
  | 2, _ => rfl
  | 3, _ => rfl
  | 4, _ => rfl
  | 5, _ => rfl
  | 6, _ => rfl
  | 7, _ => rfl
  | 8, _ => rfl
  | 9, _ => rfl
  | 10, _ => rfl
  | n + 11, h => exact absurd h (by omega)
theorem zπ_at (sp : Nat) : ∀ i : Nat, i < 12 → (zπ sp)[i]? = some (pz sp i) := by
  intro i hi
  match i, hi with
  | 0, _ => rfl
  | 1, _ => rfl
  | 2, _ => rfl
  | 3, _ => rfl
  | 4, _ => rfl
  | 5, _ => rfl
  | 6, _ => rfl
  | 7, _ => rfl
  | 8, _ => rfl
  | 9, _ => rfl
  | 10, _ => rfl
  | 11, _ => rfl
  | n + 12, h => exact absurd h (by omega)
theorem zπ_nd {sp : Nat} (h : la_ok sp) : va_nd (zπ sp) = true := by rcases h with rfl | rfl <;> rfl
theorem dz_in {sp : Nat} (h : la_ok sp) (T : RS) (g : Nat → Int32) (σ : RS) {i : Nat} (hi : i < 11) : dz sp T g σ (pz sp i) = T i := pl_in _ _ _ i _ _ (zπ_nd h) (zπ_at sp i (by omega)) (ZL_at T g i hi)
theorem dz_out (sp : Nat) (T : RS) (g : Nat → Int32) (σ : RS) {c : Nat} (h1 : c ≠ 26 ∧ c ≠ 27 ∧ c ≠ 28 ∧ c ≠ 1) (h2 : c < sp ∨ sp + 8 ≤ c) : dz sp T g σ c = σ c := pl_out _ _ _ _ (fun z => by
  unfold zπ at z
  simp only [List.mem_cons, List.not_mem_nil, or_false] at z
  omega)
/-- what a reading leaves -/
def zK (sp : Nat) (σ σ' : RS) : Prop := ∀ c, c ≠ 26 → c ≠ 27 → c ≠ 28 → (c < sp ∨ sp + 8 ≤ c) → σ' c = σ c
theorem zK.refl (sp : Nat) (σ : RS) : zK sp σ σ := fun _ _ _ _ _ => rfl
theorem zK.trans {sp : Nat} {a b c : RS} (h : zK sp a b) (g : zK sp b c) : zK sp a c := fun k h1 h2 h3 h4 => (g k h1 h2 h3 h4).trans (h k h1 h2 h3 h4)
theorem zK_s1 {sp c : Nat} (σ : RS) (f : Nat → Int32) (h : c = 26 ∨ c = 27 ∨ c = 28 ∨ (sp ≤ c ∧ c < sp + 8)) : zK sp σ (s1 σ c f) := fun k h1 h2 h3 h4 => s1_ne _ _ (by omega)
/-- the lexer goes on -/
def xcut (n i : Nat) (σ : RS) : RS := s1 σ 28 (fun k => if k = 0 then nI (x_tok n (σ 1) i).1 else if k = 1 then (x_tok n (σ 1) i).2.1 else if k = 2 then (x_tok n (σ 1) i).2.2.1 else if k = 5 then nI (x_tok n (σ 1) i).2.2.2 else σ 28 k)
theorem PX (σ : RS) (la sp rl : Nat) : Part (WD σ la sp rl 1) [28, 1] (ρo [28, 1]) (WX (σ 28 0) (σ 28 1) (σ 28 2) (σ 28 4) (σ 28 5) (σ 1)) := Part.of _ rfl rfl rfl
theorem kD_cutToken {d : Nat} (σ : RS) (la sp rl n i : Nat) (hn : n ≤ 2000) (ht : ∀ j, j < n → ¬ σ 1 j = -1) (hi : i ≤ n) (h4 : σ 28 4 = nI n) (h5 : σ 28 5 = nI i) : Ok (d + 6) M3_cutToken [.ref 28] (WD σ la sp rl 1) (rt none (WD (xcut n i σ) la sp rl 1)) := by
  have hM := k_cutToken (d := d) (sa := σ 28 0) (kd := σ 28 1) (va := σ 28 2) hn ht i hi
  rw [← h4, ← h5] at hM
  exact Ok.wr hM (PX σ la sp rl) rfl rfl rfl
theorem kD_fits {d : Nat} (σ : RS) (la sp : Nat) (hs : la_ok sp) : Ok (d + 2) M4_fits [.ref 26] (WD σ la sp sp 1) (rt (some (.int (bI (z_fits (zd sp σ))))) (WD σ la sp sp 1)) := by
  rcases hs with rfl | rfl
  · exact Ok.roP (k_fits (zd 10 σ) (σ 17)) (PZ_a σ la) rfl
  · exact Ok.roP (k_fits (zd 18 σ) (σ 25)) (PZ_b σ la) rfl
theorem kD_faultOfToken {d : Nat} (σ : RS) (la sp : Nat) (hs : la_ok sp) : Ok (d + 3) M4_faultOfToken [.ref 26] (WD σ la sp sp 1) (rt (some (.int (z_fault (zd sp σ)))) (WD σ la sp sp 1)) := by
  rcases hs with rfl | rfl
  · exact Ok.roP (k_faultOfToken (zd 10 σ) (σ 17)) (PZ_a σ la) rfl
  · exact Ok.roP (k_faultOfToken (zd 18 σ) (σ 25)) (PZ_b σ la) rfl
def dTake (sp h r : Nat) (σ : RS) : RS := dz sp (z_take h r (zd sp σ)) (σ (sp + 7)) σ
theorem kD_take {d : Nat} (σ : RS) (la sp : Nat) (hs : la_ok sp) (h r : Nat) (hh : h ≤ 400) (h3 : σ 26 3 = nI h) (hr : σ 28 1 = 0 ∨ σ 28 1 = 2 → r < 16 ∧ σ sp 8 = nI r) : Ok (d + 4) M4_take [.ref 26] (WD σ la sp sp 1) (rt none (WD (dTake sp h r σ) la sp sp 1)) := by
  rcases hs with rfl | rfl
  · exact Ok.wr (k_take (zd 10 σ) (σ 17) h r hh h3 hr) (PZ_a σ la) rfl rfl (PZ_wa σ _ _ la)
  · exact Ok.wr (k_take (zd 18 σ) (σ 25) h r hh h3 hr) (PZ_b σ la) rfl rfl (PZ_wb σ _ _ la)
