/-! The papers as such: what is held behind each. Facts: sort 0, made 1, from 2, to 3, leaf's person 4, leaf's day 5, about 6. A state: holders, times given, debts, why void, the rule. -/
abbrev FF : Type := Nat → Nat → Nat
abbrev SS : Type := (Nat → Int32) × (Nat → Int32) × (Nat → Int32) × (Nat → Int32) × (Nat → Int32)
def okF (P : Nat) (F : FF) (k : Nat) : Prop := (F 0 k ≤ 5 ∧ F 1 k < 400 ∧ F 2 k < 8 ∧ F 3 k < 8 ∧ F 4 k < 8 ∧ F 5 k < 400 ∧ F 6 k < 120) ∧ (F 0 k ≤ 1 → F 2 k < P ∧ F 3 k < P ∧ F 4 k < P ∧ ¬ F 2 k = F 3 k) ∧ (F 0 k = 3 → F 6 k < k ∧ F 0 (F 6 k) ≤ 2) ∧ (F 0 k = 4 → F 6 k ≤ 1) ∧ (F 0 k = 5 → F 2 k < P ∧ F 3 k < P)
def fLeaf (F : FF) (k : Nat) : Nat := 400 * F 4 k + F 5 k
def fab (F : FF) (k : Nat) : Nat := 8 * F 2 k + F 3 k
def fba (F : FF) (k : Nat) : Nat := 8 * F 3 k + F 2 k
/-- by the facts before n -/
def sfeast (F : FF) (y : Nat) : Nat → Bool
  | 0 => false
  | n + 1 => if F 0 n = 4 ∧ F 1 n = y then decide (F 6 n = 1) else sfeast F y n
def sforged (F : FF) (k : Nat) : Nat → Bool
  | 0 => false
  | n + 1 => if F 0 n = 3 ∧ F 6 n = k then true else sforged F k n
def sp_vars (F : FF) (lv : Nat → Int32) (n k : Nat) (S : SS) (w : Nat) : Int32 :=
  if w = 0 then nI (F 2 k) else if w = 1 then nI (F 3 k) else if w = 2 then bI (sfeast F (F 5 k) n) else if w = 3 then nI (F 5 k) - nI (F 1 k) else if w = 4 then S.2.1 (fLeaf F k) else if w = 5 then bI (decide (F 4 k = F 2 k)) else if w = 6 then S.2.2.1 (fba F k) else if w = 7 then sumTo (fun o => S.2.2.1 (8 * F 3 k + o)) 8 else m_ageOut S.1 (nI (F 3 k)) (F 1 k) (lv (F 3 k)) 8
def pay (x : Int32) : Int32 := if x - 10 < 0 then 0 else x - 10
def ss_why (S : SS) (k : Nat) (x : Int32) : SS := (S.1, S.2.1, S.2.2.1, upd S.2.2.2.1 k x, S.2.2.2.2)
def ss_move (S : SS) (j : Nat) (x : Int32) : SS := (upd S.1 j x, upd S.2.1 j (S.2.1 j + 1), S.2.2.1, S.2.2.2.1, S.2.2.2.2)
def ss_owes (S : SS) (o : Nat → Int32) : SS := (S.1, S.2.1, o, S.2.2.2.1, S.2.2.2.2)
def ss_rule (S : SS) (k : Nat) (x : Int32) : SS := (S.1, S.2.1, S.2.2.1, S.2.2.2.1, upd S.2.2.2.2 k x)
def sp_step (F : FF) (lv : Nat → Int32) (A : List YL) (n k : Nat) (S : SS) : SS :=
  if sforged F k n = true then ss_why S k 1
  else if F 0 k = 2 then ss_why (ss_owes S (mtS 64 S.2.2.1)) k 0
  else if ¬ S.1 (fLeaf F k) = nI (F 2 k) then ss_why S k 2
  else if F 5 k ≤ F 1 k then ss_why S k 3
  else if F 0 k = 1 then (if S.2.2.1 (fab F k) = 0 then ss_why S k 5 else ss_why (ss_owes (ss_move S (fLeaf F k) (nI (F 3 k))) (upd S.2.2.1 (fab F k) (pay (S.2.2.1 (fab F k))))) k 0)
  else if ¬ frule (sp_vars F lv n k S) false 0 A = -1 then ss_rule (ss_why S k 4) k (frule (sp_vars F lv n k S) false 0 A)
  else ss_rule (ss_why (ss_owes (ss_move S (fLeaf F k) (nI (F 3 k))) (upd S.2.2.1 (fba F k) (S.2.2.1 (fba F k) + growv (sp_vars F lv n k S) A (frule (sp_vars F lv n k S) true 0 A)))) k 0) k (frule (sp_vars F lv n k S) true 0 A)
/-- what holds of a state behind i papers -/
def sInv (P i : Nat) (S : SS) : Prop := obd (100 * i) P S.2.2.1 ∧ ∀ o d, o < 8 → d < 400 → ∃ h, h < 8 ∧ S.1 (400 * o + d) = nI h ∧ (P ≤ o → h = o)
theorem le1_congr {vs vs' : Nat → Int32} (h : ∀ w, w < 9 → vs w = vs' w) {c : YC} (hv : c.1 = 5 → vp_in c.2 9) (s : List Int32) : le1 vs c s = le1 vs' c s := by
  unfold le1
  by_cases e6 : c.1 = 6
  · rw [if_pos e6, if_pos e6]
  · rw [if_neg e6, if_neg e6]
    by_cases e5 : c.1 = 5
    · rw [if_pos e5, if_pos e5]
      obtain ⟨w, w1, w2⟩ := vp_nt (hv e5) (by omega)
      rw [w2, nt_nI (by omega), h w w1]
    · rw [if_neg e5, if_neg e5]
theorem le_congr {vs vs' : Nat → Int32} (h : ∀ w, w < 9 → vs w = vs' w) : ∀ {l : List YC} {a b : Nat} (s : List Int32), ym_wf l a b → le vs l s = le vs' l s := by
  intro l
  induction l with
  | nil => intro a b s _; rfl
  | cons c cs ih =>
    intro a b s w
    rw [ym_wf] at w
    rw [le, le]
    by_cases e : c.1 = 6 ∨ c.1 = 5
    · rw [if_pos e] at w
      rw [le1_congr h w.1]
      exact ih _ w.2
    · rw [if_neg e] at w
      rw [le1_congr h (fun z => absurd (Or.inr z) e)]
      exact ih _ w.2.2
theorem ev1_congr {vs vs' : Nat → Int32} (h : ∀ w, w < 9 → vs w = vs' w) {l : List YC} (hw : ym_wf l 0 1) : ev1 vs l = ev1 vs' l := by
  unfold ev1; rw [le_congr h _ hw]
theorem sm_congr {vs vs' : Nat → Int32} (h : ∀ w, w < 9 → vs w = vs' w) : ∀ {l : List YR}, (∀ r ∈ l, ym_okR r) → sm vs l = sm vs' l := by
  intro l
  induction l with
  | nil => intro _; rfl
  | cons r rs ih =>
    intro hk
    have hr := hk r List.mem_cons_self
    have e : relv vs r = relv vs' r := by unfold relv; rw [ev1_congr h hr.1, ev1_congr h hr.2.1]
    rw [sm, sm, e, ih (fun x hx => hk x (List.mem_cons_of_mem _ hx))]
theorem frule_congr {vs vs' : Nat → Int32} (h : ∀ w, w < 9 → vs w = vs' w) (gr : Bool) : ∀ {l : List YL} (r : Nat), (∀ R ∈ l, ym_okL R) → frule vs gr r l = frule vs' gr r l := by
  intro l
  induction l with
  | nil => intro r _; rfl
  | cons R l ih =>
    intro r hk
    have hR := hk R List.mem_cons_self
    have e : hold1 vs R = hold1 vs' R := by unfold hold1 dnf; rw [sm_congr h hR.2.2.1]
    rw [frule, frule, e, ih (r + 1) (fun x hx => hk x (List.mem_cons_of_mem _ hx))]
theorem growv_none (vs : Nat → Int32) (A : List YL) : growv vs A (-1) = 11 := by unfold growv; exact if_pos rfl
theorem growv_congr {vs vs' : Nat → Int32} (h : ∀ w, w < 9 → vs w = vs' w) {A : List YL} (hl : A.length ≤ 16) (hA : ∀ R ∈ A, ym_okL R) : growv vs A (frule vs true 0 A) = growv vs' A (frule vs true 0 A) := by
  rcases frule_res vs true A 0 with e | ⟨k, R, h1, h2, h3⟩
  · rw [e, growv_none, growv_none]
  · have hlen := (List.getElem?_eq_some_iff.mp h1).1
    rw [h3, Nat.zero_add, growv_at h1 (by omega), growv_at h1 (by omega), ev1_congr h (ym_okE_ev (hA R (List.mem_of_getElem? h1)).1 h2)]
theorem age_few {hf : Nat → Int32} {b y P : Nat} (hy : y < 400) (hP : P ≤ 8) (hb : b < P) (a : Int32) (h : ∀ o d, P ≤ o → o < 8 → d < 400 → hf (400 * o + d) = nI o) : m_ageOut hf (nI b) y a 8 = m_ageOut hf (nI b) y a P := by
  have hin : ∀ o, P ≤ o → o < 8 → ∀ c a, c ≤ 400 → m_ageIn hf (nI b) o a c = a := by
    intro o h1 h2 c
    induction c with
    | zero => intro a _; rfl
    | succ c ih =>
      intro a hc
      rw [m_ageIn, if_neg, ih a (by omega)]
      rw [h o c h1 h2 (by omega), nI_eq (by omega) (by omega)]
      omega
  have : ∀ c, P + c ≤ 8 → m_ageOut hf (nI b) y a (P + c) = m_ageOut hf (nI b) y a P := by
    intro c
    induction c with
    | zero => intro _; rfl
    | succ c ih =>
      intro hc
      rw [show P + (c + 1) = (P + c) + 1 by omega, m_ageOut, hin (P + c) (by omega) (by omega) _ _ (by omega), ih (by omega)]
  have h8 := this (8 - P) (by omega)
  rwa [show P + (8 - P) = 8 by omega] at h8
theorem age_like {hf hg : Nat → Int32} {b : Int32} {y : Nat} (hy : y < 400) (a : Int32) (h : ∀ j, j < 3200 → hf j = hg j) : ∀ o, o ≤ 8 → m_ageOut hf b y a o = m_ageOut hg b y a o := by
  have hin : ∀ o, o < 8 → ∀ c a, c ≤ 400 → m_ageIn hf b o a c = m_ageIn hg b o a c := by
    intro o ho c
    induction c with
    | zero => intro a _; rfl
    | succ c ih => intro a hc; rw [m_ageIn, m_ageIn, h _ (by omega), ih a (by omega)]
  intro o
  induction o with
  | zero => intro _; rfl
  | succ o ih => intro ho; rw [m_ageOut, m_ageOut, ih (by omega), hin o (by omega) _ _ (by omega)]
theorem sum_like {f g : Nat → Int32} : ∀ k, (∀ i, i < k → f i = g i) → sumTo f k = sumTo g k := by
  intro k
  induction k with
  | zero => intro _; rfl
  | succ k ih => intro h; rw [sumTo, sumTo, h k (by omega), ih (fun i hi => h i (by omega))]
/-- facts in the model's rows -/
def mF (N : Nat) (F : FF) (σ : RS) : Prop := ∀ k, k < N → σ 24 k = nI (F 0 k) ∧ σ 25 k = nI (F 1 k) ∧ σ 26 k = nI (F 2 k) ∧ σ 27 k = nI (F 3 k) ∧ σ 28 k = nI (F 4 k) ∧ σ 29 k = nI (F 5 k) ∧ σ 30 k = nI (F 6 k)
theorem mF_p {N P : Nat} {F : FF} {σ : RS} (h : mF N F σ) (hk : ∀ k, k < N → okF P F k) {k : Nat} (hkN : k < N) : p_fact σ k (F 0 k) (F 1 k) (F 2 k) (F 3 k) (F 4 k) (F 5 k) (F 6 k) := ⟨(hk k hkN).1, h k hkN⟩
theorem mF_facts {N P : Nat} {F : FF} {σ : RS} (h : mF N F σ) (hk : ∀ k, k < N → okF P F k) : p_facts σ N := fun k hkN => ⟨_, _, _, _, _, _, _, mF_p h hk hkN⟩
theorem mF_keep {N : Nat} {F : FF} {σ σ' : RS} (h : mF N F σ) (e : ∀ c, 24 ≤ c → c ≤ 30 → σ' c = σ c) : mF N F σ' := fun k hk => by
  rw [e 24 (by omega) (by omega), e 25 (by omega) (by omega), e 26 (by omega) (by omega), e 27 (by omega) (by omega), e 28 (by omega) (by omega), e 29 (by omega) (by omega), e 30 (by omega) (by omega)]
  exact h k hk
/-- the model's standing data, for the first n of N facts -/
def mT (F : FF) (lv : Nat → Int32) (A : List YL) (P N n b : Nat) (σ : RS) : Prop := (P ≤ 8 ∧ N ≤ 120 ∧ n ≤ N ∧ ∀ k, k < N → okF P F k) ∧ (σ 0 37 = nI P ∧ mF N F σ ∧ mlaw b σ A ∧ ∀ p, p < P → σ 23 p = lv p) ∧ (∀ y, y < 400 → (σ 37 y = 0 ↔ sfeast F y n = false)) ∧ ∀ k, k < 120 → (σ 38 k = 0 ↔ sforged F k n = false)
/-- the model's rows hold a state; pr: the papers that were gone over -/
def mH (F : FF) (pr : List Nat) (S : SS) (σ : RS) : Prop := (∀ j, j < 3200 → σ 31 j = S.1 j ∧ σ 32 j = S.2.1 j) ∧ like64 (σ 33) S.2.2.1 ∧ ∀ k, k ∈ pr → σ 34 k = S.2.2.2.1 k ∧ (F 0 k = 0 → (S.2.2.2.1 k = 4 → σ 35 k = S.2.2.2.2 k) ∧ (S.2.2.2.1 k = 0 → σ 36 k = S.2.2.2.2 k))
theorem mT_kc {F : FF} {lv : Nat → Int32} {A : List YL} {P N n b : Nat} {σ σ' : RS} (h : mT F lv A P N n b σ) (g : kc σ σ') : mT F lv A P N n b σ' := by
  obtain ⟨h1, ⟨h2, h3, h4, h5⟩, h6, h7⟩ := h
  exact ⟨h1, ⟨(g.2.2.2 37 (by omega)).trans h2, mF_keep h3 (fun c c1 c2 => g.1 c (by omega) c2), mlaw_same g.lsame h4, fun p hp => by rw [g.1 23 (by omega) (by omega)]; exact h5 p hp⟩, fun y hy => by rw [g.2.1]; exact h6 y hy, fun k hk => by rw [g.2.2.1]; exact h7 k hk⟩
theorem fLeaf_lt {P : Nat} {F : FF} {k : Nat} (h : okF P F k) : fLeaf F k < 3200 ∧ fab F k < 64 ∧ fba F k < 64 := by
  obtain ⟨⟨h0, h1, h2, h3, h4, h5, h6⟩, -⟩ := h
  unfold fLeaf fab fba
  omega
