/-! Tokens: the model's and the class's are alike. -/
def tk_map (k v : Int32) : Int32 := if k = 5 then 25 + v else if k < 5 then 20 + k else if k = 6 then 2 else if k = 7 then 4 else if k = 15 then 6 else if k = 16 then 7 else if k = 17 then 0 else k
def tk_rel (k v x : Int32) : Prop := if k = 18 then (x = 1 ∨ x = 3) else x = tk_map k v
def BF (i : Nat) : Int32 := BYT.getD i 0
def wl (w : Nat) : Nat := [3, 2, 5, 2, 3, 5, 5, 5, 5, 5, 3, 4, 3, 3].getD w 0
theorem BF_ok : ∀ w : Fin 14, ∀ i : Fin 5, (i.val < wl w.val → 97 ≤ BF (w.val * 5 + i.val) ∧ BF (w.val * 5 + i.val) ≤ 122) ∧ (wl w.val ≤ i.val → BF (w.val * 5 + i.val) = 32) := by decide +kernel
theorem wl_ok : ∀ w : Fin 14, 1 ≤ wl w.val ∧ wl w.val ≤ 5 := by decide +kernel
/-- letters as digits, the last one first; and their number -/
def tlf (f : Nat → Int32) (s : Nat) : Nat → List Nat
  | 0 => []
  | n + 1 => (nt (f (s + n)) - 96) :: tlf f s n
def nvr : List Nat → Nat
  | [] => 0
  | d :: l => 27 * nvr l + d
def dgs : List Nat → Prop
  | [] => True
  | d :: l => (1 ≤ d ∧ d ≤ 26) ∧ dgs l
theorem nvr_inj : ∀ {a b : List Nat}, dgs a → dgs b → nvr a = nvr b → a = b := by
  intro a
  induction a with
  | nil =>
    intro b _ hb h
    cases b with
    | nil => rfl
    | cons d l => rw [nvr, nvr] at h; have := hb.1; omega
  | cons x l ih =>
    intro b ha hb h
    cases b with
    | nil => rw [nvr, nvr] at h; have := ha.1; omega
    | cons d m =>
      rw [nvr, nvr] at h
      have h1 := ha.1
      have h2 := hb.1
      have e : x = d := by omega
      subst e
      rw [ih ha.2 hb.2 (by omega)]
theorem nvr_lt : ∀ {a : List Nat} {n : Nat}, dgs a → a.length ≤ n → nvr a < 27 ^ n := by
  intro a
  induction a with
  | nil => intro n _ _; exact Nat.pow_pos (by omega)
  | cons d l ih =>
    intro n h hn
    cases n with
    | zero => rw [List.length_cons] at hn; omega
    | succ n =>
      rw [List.length_cons] at hn
      have := ih (n := n) h.2 (by omega)
      have h1 := h.1
      rw [nvr, Nat.pow_succ]
      omega
theorem tlf_len (f : Nat → Int32) (s : Nat) : ∀ n, (tlf f s n).length = n := by
  intro n
  induction n with
  | zero => rfl
  | succ n ih => rw [tlf, List.length_cons, ih]
theorem letter_nt {x : Int32} (h : x_letter x = true) : ∃ d : Nat, 1 ≤ d ∧ d ≤ 26 ∧ x = nI (96 + d) ∧ nt x = 96 + d := by
  obtain ⟨h1, h2⟩ := of_decide_eq_true h
  obtain ⟨j, j1, j2⟩ := nI_of (x := x) (fun z => by rw [fa_lt] at z; rw [fa_le] at h1; have e : ((97 : Int32).toInt) = 97 := rfl; have e0 : ((0 : Int32).toInt) = 0 := rfl; omega)
  rw [j2, show (97 : Int32) = nI 97 from rfl, nI_leI (by omega) (by omega)] at h1
  rw [j2, show (122 : Int32) = nI 122 from rfl, nI_leI (by omega) (by omega)] at h2
  exact ⟨j - 96, by omega, by omega, by rw [j2]; congr 1; omega, by rw [j2, nt_nI j1]; omega⟩
theorem tlf_dgs (f : Nat → Int32) (s : Nat) : ∀ n, (∀ i, i < n → x_letter (f (s + i)) = true) → dgs (tlf f s n) := by
  intro n
  induction n with
  | zero => intro _; trivial
  | succ n ih =>
    intro h
    obtain ⟨d, h1, h2, h3, h4⟩ := letter_nt (h n (by omega))
    exact ⟨⟨by omega, by omega⟩, ih (fun i hi => h i (by omega))⟩
theorem tlf_inj (f g : Nat → Int32) (s r : Nat) : ∀ n, tlf f s n = tlf g r n → ∀ i, i < n → nt (f (s + i)) - 96 = nt (g (r + i)) - 96 := by
  intro n
  induction n with
  | zero => intro _ i hi; omega
  | succ n ih =>
    intro h i hi
    rw [tlf, tlf] at h
    obtain ⟨h1, h2⟩ := List.cons.inj h
    by_cases e : i = n
    · rw [e]; exact h1
    · exact ih h2 i (by omega)
theorem tlf_same (f g : Nat → Int32) (s r : Nat) : ∀ n, (∀ i, i < n → f (s + i) = g (r + i)) → tlf f s n = tlf g r n := by
  intro n
  induction n with
  | zero => intro _; rfl
  | succ n ih => intro h; rw [tlf, tlf, h n (by omega), ih (fun i hi => h i (by omega))]
def kd (w : Nat) : List Nat := tlf BF (w * 5) (wl w)
theorem x_match_iff (s e : Nat) (t : Nat → Int32) (w : Nat) : ∀ (c i : Nat), x_match s e t w c i = true ↔ ∀ j, i ≤ j → j < i + c → BF (w * 5 + j) = x_let s e t j := by
  intro c
  induction c with
  | zero => intro i; exact ⟨fun _ j h1 h2 => by omega, fun _ => rfl⟩
  | succ c ih =>
    intro i
    rw [x_match]
    split
    · rename_i h
      rw [ih]
      refine ⟨fun z j h1 h2 => ?_, fun z j h1 h2 => z j (by omega) (by omega)⟩
      by_cases e : j = i
      · rw [e]; exact h
      · exact z j (by omega) (by omega)
    · rename_i h
      exact ⟨(fun z => by cases z), fun z => absurd (z i (Nat.le_refl _) (by omega)) h⟩
theorem word_iff {s m w : Nat} {t : Nat → Int32} (hw : w < 14) (hl : ∀ i, i < m → x_letter (t (s + i)) = true) : x_isWord s (s + m) t w = true ↔ tlf t s m = kd w := by
  have hwl := wl_ok ⟨w, hw⟩
  have hwl : 1 ≤ wl w ∧ wl w ≤ 5 := hwl
  have hB : ∀ i, i < 5 → (i < wl w → x_letter (BF (w * 5 + i)) = true) ∧ (wl w ≤ i → BF (w * 5 + i) = 32) := fun i hi => by
    have := BF_ok ⟨w, hw⟩ ⟨i, hi⟩
    exact ⟨fun z => decide_eq_true (this.1 z), this.2⟩
  have n32 : ¬ x_letter 32 = true := by decide
  unfold x_isWord kd
  rw [show s + m - s = m by omega]
  constructor
  · intro h
    split at h
    · cases h
    · rename_i h5
      have h := (x_match_iff s (s + m) t w 5 0).mp h
      have em : m = wl w := by
        apply Nat.le_antisymm
        · refine Nat.le_of_not_lt (fun z => ?_)
          have h1 := h (wl w) (by omega) (by omega)
          rw [(hB (wl w) (by omega)).2 (Nat.le_refl _), x_let, if_pos (by omega)] at h1
          exact n32 (by rw [h1]; exact hl _ z)
        · refine Nat.le_of_not_lt (fun z => ?_)
          have h1 := h m (by omega) (by omega)
          rw [x_let, if_neg (by omega)] at h1
          exact n32 (by rw [← h1]; exact (hB m (by omega)).1 z)
      rw [← em]
      refine tlf_same _ _ _ _ _ (fun i hi => ?_)
      have h1 := h i (by omega) (by omega)
      rw [x_let, if_pos (by omega)] at h1
      exact h1.symm
  · intro h
    have em : m = wl w := by
      have := congrArg List.length h
      rwa [tlf_len, tlf_len] at this
    rw [← em] at h
    rw [if_neg (by omega)]
    refine (x_match_iff s (s + m) t w 5 0).mpr (fun j _ hj => ?_)
    by_cases hjm : j < m
    · have h1 := tlf_inj _ _ _ _ _ h j hjm
      obtain ⟨d, d1, d2, d3, d4⟩ := letter_nt (hl j hjm)
      obtain ⟨c, c1, c2, c3, c4⟩ := letter_nt ((hB j (by omega)).1 (by omega))
      rw [x_let, if_pos (by omega), d3, c3]
      congr 1
      omega
    · rw [x_let, if_neg (by omega), (hB j (by omega)).2 (by omega)]
theorem kd_ok : ∀ w : Fin 14, ∀ v : Fin 14, kd w.val = kd v.val → w = v := by decide +kernel
theorem kd_dgs {w : Nat} (hw : w < 14) : dgs (kd w) := tlf_dgs _ _ _ (fun i hi => decide_eq_true ((BF_ok ⟨w, hw⟩ ⟨i, by have : wl w ≤ 5 := (wl_ok ⟨w, hw⟩).2; omega⟩).1 hi))
theorem kd_lt {w : Nat} (hw : w < 14) : nvr (kd w) < 2 ^ 63 := by
  have h1 : wl w ≤ 5 := (wl_ok ⟨w, hw⟩).2
  have := nvr_lt (n := 5) (kd_dgs hw) (by unfold kd; rw [tlf_len]; exact h1)
  omega
/-- the model's keys are the class's words -/
def keysok (τ : TS) : Prop := ∀ w, w < 14 → τ 7 w = lN (nvr (kd w))
theorem key_iff {τ : TS} (hk : keysok τ) {s m w : Nat} {t : Nat → Int32} (hw : w < 14) (hm : m ≤ 7) (hl : ∀ i, i < m → x_letter (t (s + i)) = true) : τ 7 w = lN (nvr (tlf t s m)) ↔ x_isWord s (s + m) t w = true := by
  have hd := tlf_dgs t s m hl
  have hlt : nvr (tlf t s m) < 2 ^ 63 := by
    have := nvr_lt (n := 7) hd (by rw [tlf_len]; exact hm)
    omega
  rw [hk w hw, pk_lEQ (kd_lt hw) hlt, word_iff hw hl]
  exact ⟨fun z => (nvr_inj (kd_dgs hw) hd z).symm, fun z => by rw [z]⟩
def mw_find (τ : TS) (nm : Int64) : Nat → Nat → Int32 → Int32
  | 0, _, x => x
  | c + 1, k, x => mw_find τ nm c (k + 1) (if τ 7 k = nm then 20 + nI k else x)
theorem mw_find_eq {τ : TS} (hk : keysok τ) {s m : Nat} {t : Nat → Int32} (hm : m ≤ 7) (hl : ∀ i, i < m → x_letter (t (s + i)) = true) : ∀ (c k : Nat) (x : Int32), k + c = 14 → mw_find τ (lN (nvr (tlf t s m))) c k x = match x_find s (s + m) t c k with | some w => 20 + nI w | none => x := by
  have none_after : ∀ (c k w : Nat) (x : Int32), k + c = 14 → w < k → x_isWord s (s + m) t w = true → mw_find τ (lN (nvr (tlf t s m))) c k x = x := by
    intro c
    induction c with
    | zero => intro k w x _ _ _; rfl
    | succ c ih =>
      intro k w x hc hw h
      rw [mw_find, if_neg, ih (k + 1) w x (by omega) (by omega) h]
      intro z
      have h1 := (key_iff hk (by omega) hm hl).mp z
      have h2 := (word_iff (by omega) hl).mp h1
      have h3 := (word_iff (by omega) hl).mp h
      have h4 := kd_ok ⟨w, by omega⟩ ⟨k, by omega⟩ (h3.symm.trans h2)
      have h5 : w = k := congrArg Fin.val h4
      omega
  intro c
  induction c with
  | zero => intro k x _; rfl
  | succ c ih =>
    intro k x hc
    rw [mw_find, x_find]
    by_cases h : x_isWord s (s + m) t k = true
    · rw [if_pos ((key_iff hk (by omega) hm hl).mpr h), if_pos h, none_after c (k + 1) k _ (by omega) (by omega) h]
    · rw [if_neg (fun z => h ((key_iff hk (by omega) hm hl).mp z)), if_neg h]
      exact ih (k + 1) x (by omega)
theorem x_find_lt (s e : Nat) (t : Nat → Int32) : ∀ (c k w : Nat), x_find s e t c k = some w → k ≤ w ∧ w < k + c := by
  intro c
  induction c with
  | zero => intro k w h; cases h
  | succ c ih =>
    intro k w h
    rw [x_find] at h
    split at h
    · cases h; omega
    · have := ih _ _ h; omega
theorem x_find_long {s e : Nat} (t : Nat → Int32) (h : 5 < e - s) : ∀ (c k : Nat), x_find s e t c k = none := by
  intro c
  induction c with
  | zero => intro k; rfl
  | succ c ih =>
    intro k
    rw [x_find, if_neg, ih]
    unfold x_isWord
    rw [if_pos h]
    decide
theorem wk_rel : ∀ w : Fin 14, tk_rel (x_wk (some w.val)) (x_wv 0 (some w.val)) (20 + nI w.val) := by
  intro w
  have : ∀ w : Fin 14, ¬ x_wk (some w.val) = 18 ∧ 20 + nI w.val = tk_map (x_wk (some w.val)) (x_wv 0 (some w.val)) := by decide +kernel
  unfold tk_rel
  rw [if_neg (this w).1]
  exact (this w).2
theorem wk_fits : ∀ w : Fin 14, x_wk (some w.val) = 5 → vp_in (x_wv 0 (some w.val)) 9 := by
  have : ∀ w : Fin 14, x_wk (some w.val) = 5 → (decide (0 ≤ (x_wv 0 (some w.val)).toInt ∧ (x_wv 0 (some w.val)).toInt < 9)) = true := by decide +kernel
  intro w h
  exact vp_in_iff.mpr (of_decide_eq_true (this w h))
/-- a word's kind: what the model finds -/
theorem word_rel {τ : TS} (hk : keysok τ) {s m : Nat} {t : Nat → Int32} (hm : m ≤ 7) (hl : ∀ i, i < m → x_letter (t (s + i)) = true) : tk_rel (x_wk (x_find s (s + m) t 14 0)) (x_wv 0 (x_find s (s + m) t 14 0)) (mw_find τ (lN (nvr (tlf t s m))) 14 0 1) := by
  rw [mw_find_eq hk hm hl 14 0 1 rfl]
  cases hf : x_find s (s + m) t 14 0 with
  | none => exact Or.inl rfl
  | some w => exact wk_rel ⟨w, by have := x_find_lt _ _ _ _ _ _ hf; omega⟩
/-- signs -/
theorem sign_rel (n : Nat) (t : Nat → Int32) (i : Nat) (c e : Int32) (he : (e = 61) ↔ x_eq n t (i + 1) = true) : tk_rel (x_sign n t i c).1 0 (sg_kind c e) ∧ (x_sign n t i c).2 = (if 0 < sg_two c e then 2 else 1) ∧ (¬ (x_sign n t i c).1 = 17 ∧ ¬ (x_sign n t i c).1 = 5 ∧ ¬ (x_sign n t i c).1 = 6) := by
  have hx : x_eq n t (i + 1) = decide (e = 61) := by
    by_cases h : e = 61
    · rw [decide_eq_true h]; exact he.mp h
    · rw [decide_eq_false h]
      cases hb : x_eq n t (i + 1)
      · rfl
      · exact absurd (he.mpr hb) h
  unfold x_sign sg_kind sg_two sg_one tk_rel
  rw [hx]
  by_cases h1 : c = 59
  · subst h1; by_cases h : e = 61 <;> simp [h, tk_map]
  by_cases h2 : c = 43
  · subst h2; by_cases h : e = 61 <;> simp [h, tk_map]
  by_cases h3 : c = 45
  · subst h3; by_cases h : e = 61 <;> simp [h, tk_map]
  by_cases h4 : c = 42
  · subst h4; by_cases h : e = 61 <;> simp [h, tk_map]
  by_cases h5 : c = 40
  · subst h5; by_cases h : e = 61 <;> simp [h, tk_map]
  by_cases h6 : c = 41
  · subst h6; by_cases h : e = 61 <;> simp [h, tk_map]
  by_cases h7 : c = 61
  · subst h7; by_cases h : e = 61 <;> simp [h, tk_map]
  by_cases h8 : c = 33
  · subst h8; by_cases h : e = 61 <;> simp [h, tk_map]
  by_cases h9 : c = 60
  · subst h9; by_cases h : e = 61 <;> simp [h, tk_map]
  simp [h1, h2, h3, h4, h5, h6, h7, h8, h9]
