/-! What the model answers, fourth part: what turned; how many. -/
theorem p_paper_45 (P l m : Nat) (σ : RS) (k : Nat) : (p_paper P l m σ k) 45 = σ 45 := by
  have h0 : (p_clear σ k) 45 = σ 45 := p_clear_oc σ k 45 (by decide)
  have hm : ∀ (c : Nat) (τ : RS), (g_meets P c τ) 45 = τ 45 := by
    intro c
    induction c with
    | zero => intro τ; rfl
    | succ c ih =>
      intro τ
      rw [g_meets]
      split
      · rw [ih, (f_kp_find P _).1 45 (by decide) (by decide) (by decide) (by decide)]
        exact g_meetR_at _ _ _ _ _ 45 (by decide)
      · rfl
  unfold p_paper
  split
  · exact h0
  · split
    · rw [hm, (f_kp_find P _).1 45 (by decide) (by decide) (by decide) (by decide)]
      exact h0
    · have h1 := (p_why_oc P l m (p_clear σ k) k 45 (by decide)).trans h0
      split
      · exact h1
      · exact (p_owe_oc l _ k 45 (by decide)).trans ((p_move_oc _ k 45 (by decide)).trans h1)
theorem r_for_45 {g : Nat → RS → RS} (h : ∀ k σ, (g k σ) 45 = σ 45) : ∀ (c k : Nat) (σ : RS), (r_for g c k σ) 45 = σ 45 := by
  intro c
  induction c with
  | zero => intro k σ; rfl
  | succ c ih => intro k σ; exact (ih (k + 1) _).trans (h k σ)
theorem g_gone_45 (P l m n day : Nat) (σ : RS) : (g_gone P l m n day σ) 45 = σ 45 := by
  unfold g_gone
  split
  · rfl
  · have h1 : ∀ d k (σ : RS), (d_one P l m d k σ) 45 = σ 45 := fun d k σ => by
      unfold d_one
      split
      · exact p_paper_45 P l m σ k
      · rfl
    have h2 := r_for_45 (g := d_day P l m n) (fun d σ => r_for_45 (h1 d) n 0 σ) (day + 1) 0 (r_for k_mark n 0 (g_init σ n day))
    rw [h2, r_for_oc k_mark_oc n 0 (g_init σ n day) 45 (by decide)]
    rfl
/-- the first paper that turned -/
def sp_turn (F : FF) (w1 w2 : Nat → Int32) : Nat → Nat → Int32
  | 0, _ => -1
  | c + 1, k => if F 0 k ≤ 2 ∧ ¬ (w1 k = 0 ↔ w2 k = 0) then nI k else sp_turn F w1 w2 c (k + 1)
theorem turn_find {F : FF} {N : Nat} {G : RS} {w1 w2 : Nat → Int32} (hF : mF N F G) (hb : ∀ k, k < N → F 0 k ≤ 5) (hw : ∀ k, wok (w1 k) ∧ wok (w2 k)) : ∀ (c k : Nat), k + c ≤ N → (∀ j, k ≤ j → j < k + c → F 0 j ≤ 2 → G 45 j = bI (decide (0 < w1 j)) ∧ G 34 j = w2 j) → t_find G c k = sp_turn F w1 w2 c k := by
  intro c
  induction c with
  | zero => intro k _ _; rfl
  | succ c ih =>
    intro k hk h
    have b0 := hb k (by omega)
    have e24 : (G 24 k ≤ 2) ↔ F 0 k ≤ 2 := by rw [(hF k (by omega)).1]; exact nI_leI (b := 2) (by omega) (by omega)
    rw [t_find, sp_turn, ih (k + 1) (by omega) (fun j h1 h2 => h j (by omega) (by omega))]
    by_cases h2 : F 0 k ≤ 2
    · obtain ⟨q1, q2⟩ := h k (Nat.le_refl k) (by omega) h2
      rw [q1, q2]
      have c1 := (hw k).1.pos
      have c2 := (hw k).2.pos
      have key : (¬ bI (decide (0 < w1 k)) = bI (decide (0 < w2 k))) ↔ ¬ (w1 k = 0 ↔ w2 k = 0) := by
        by_cases z1 : w1 k = 0
        · have n1 : ¬ 0 < w1 k := fun z => c1.mp z z1
          by_cases z2 : w2 k = 0
          · have n2 : ¬ 0 < w2 k := fun z => c2.mp z z2
            rw [decide_eq_false n1, decide_eq_false n2]
            exact ⟨fun z => absurd rfl z, fun z => absurd ⟨fun _ => z2, fun _ => z1⟩ z⟩
          · rw [decide_eq_false n1, decide_eq_true (c2.mpr z2)]
            exact ⟨fun _ z => z2 (z.mp z1), fun _ => by decide⟩
        · by_cases z2 : w2 k = 0
          · have n2 : ¬ 0 < w2 k := fun z => c2.mp z z2
            rw [decide_eq_true (c1.mpr z1), decide_eq_false n2]
            exact ⟨fun _ z => z1 (z.mpr z2), fun _ => by decide⟩
          · rw [decide_eq_true (c1.mpr z1), decide_eq_true (c2.mpr z2)]
            exact ⟨fun z => absurd rfl z, fun z => absurd ⟨fun q => absurd q z1, fun q => absurd q z2⟩ z⟩
      by_cases e : ¬ (w1 k = 0 ↔ w2 k = 0)
      · rw [if_pos ⟨e24.mpr h2, key.mpr e⟩, if_pos ⟨h2, e⟩]
      · rw [if_neg (fun z => e (key.mp z.2)), if_neg (fun z => e z.2)]
    · rw [if_neg (fun z => h2 (e24.mp z.1)), if_neg (fun z => h2 z.1)]
theorem m_turn {F : FF} {lv : Nat → Int32} {A : List YL} {P N n q b : Nat} {σ : RS} (h : mBase F lv A P N b σ) (hc : mCache F lv A N σ) (hn : n ≤ N) (hq : q ≤ N) : t_find (g_gone P b A.length q 399 (t_one P b A.length n σ (min n q))) (min n q) 0 = sp_turn F (dS F lv A n).2.2.2.1 (dS F lv A q).2.2.2.1 (min n q) 0 ∧ MB F lv A P N q 399 b (g_gone P b A.length q 399 (t_one P b A.length n σ (min n q))) ∧ (g_gone P b A.length q 399 (t_one P b A.length n σ (min n q))) 0 47 = nI q ∧ (g_gone P b A.length q 399 (t_one P b A.length n σ (min n q))) 0 48 = nI 399 := by
  have hM1 := MB.of (y := 399) h hc hn (by omega)
  obtain ⟨-, c1, c2⟩ := m_gone (day := 399) h hc hn (by omega)
  have hlen : min n q ≤ n ∧ min n q ≤ q := ⟨Nat.min_le_left _ _, Nat.min_le_right _ _⟩
  generalize min n q = L at *
  have hT : t_one P b A.length n σ L = s1 (g_gone P b A.length n 399 σ) 45 (cpyTo (t_void (g_gone P b A.length n 399 σ)) ((g_gone P b A.length n 399 σ) 45) L) := rfl
  generalize g_gone P b A.length n 399 σ = G1 at *
  have hM2 : MB F lv A P N n 399 b (t_one P b A.length n σ L) := by rw [hT]; exact hM1.set1 (by omega) _
  have hc2 : mCache F lv A N (t_one P b A.length n σ L) := Or.inr ⟨n, 399, hn, by omega, by rw [hT, s1_ne _ _ (by decide)]; exact c1, by rw [hT, s1_ne _ _ (by decide)]; exact c2, hM2.2.2.2⟩
  have e45 : (t_one P b A.length n σ L) 45 = cpyTo (t_void G1) (G1 45) L := by rw [hT, s1_same]
  generalize t_one P b A.length n σ L = σ1 at *
  have hM3 := MB.of (y := 399) hM2.1 hc2 hq (by omega)
  obtain ⟨-, d1, d2⟩ := m_gone (day := 399) hM2.1 hc2 hq (by omega)
  have e45' := (g_gone_45 P b A.length q 399 σ1).trans e45
  refine ⟨?_, hM3, d1, d2⟩
  refine turn_find hM3.1.2.2.2.1 (fun k hk => (h.1.2.2 k hk).1.1) (fun k => ⟨wok_dS F lv A n k, wok_dS F lv A q k⟩) L 0 (by omega) (fun j _ hj h2 => ⟨?_, (hM3.why (by omega) h2).1⟩)
  rw [e45', show cpyTo (t_void G1) (G1 45) L j = t_void G1 j from if_pos (by omega)]
  unfold t_void
  rw [(hM1.why (by omega) h2).1]
  congr 1
  refine decide_eq_decide.mpr ⟨fun z => z.2, fun z => ⟨?_, z⟩⟩
  rw [(hM1.1.2.2.2.1 j (by omega)).1]
  exact nI_le (b := 2) h2 (by omega)
