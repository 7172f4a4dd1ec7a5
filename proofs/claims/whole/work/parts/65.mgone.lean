/-! The model goes over the papers: what it holds then. -/
def mBase (F : FF) (lv : Nat → Int32) (A : List YL) (P N b : Nat) (σ : RS) : Prop := (P ≤ 8 ∧ N ≤ 120 ∧ ∀ k, k < N → okF P F k) ∧ σ 0 37 = nI P ∧ σ 0 39 = nI N ∧ mF N F σ ∧ mlaw b σ A ∧ ∀ p, p < P → σ 23 p = lv p
def mGone (F : FF) (lv : Nat → Int32) (A : List YL) (n day : Nat) (σ : RS) : Prop := ∃ pr, (∀ k, k ∈ mlist F n day → k ∈ pr) ∧ mH F pr (sp_run F lv A n (mlist F n day) ss0) σ
def mCache (F : FF) (lv : Nat → Int32) (A : List YL) (N : Nat) (σ : RS) : Prop := σ 0 47 = -1 ∨ ∃ n day, n ≤ N ∧ day < 400 ∧ σ 0 47 = nI n ∧ σ 0 48 = nI day ∧ mGone F lv A n day σ
theorem mBase.mS {F : FF} {lv : Nat → Int32} {A : List YL} {P N b : Nat} {σ : RS} (h : mBase F lv A P N b σ) : mS P N b A.length σ := ⟨h.1.1, h.1.2.1, h.2.1, h.2.2.1, mlaw_ok h.2.2.2.2.1, mF_facts h.2.2.2.1 h.1.2.2⟩
theorem mBase.gk {F : FF} {lv : Nat → Int32} {A : List YL} {P N b : Nat} {σ σ' : RS} (h : mBase F lv A P N b σ) (g : gk σ σ') : mBase F lv A P N b σ' := by
  obtain ⟨h1, h2, h3, h4, h5, h6⟩ := h
  exact ⟨h1, (g.2 37 (by omega) (by omega) (by omega)).trans h2, (g.2 39 (by omega) (by omega) (by omega)).trans h3, mF_keep h4 (fun c c1 c2 => g.1 c (by omega) c2), mlaw_same g.lsame h5, fun p hp => by rw [g.1 23 (by omega) (by omega)]; exact h6 p hp⟩
/-- feasts and forged ones, by the facts before k -/
def mMark (F : FF) (k : Nat) (σ : RS) : Prop := (∀ y, y < 400 → (σ 37 y = 0 ↔ sfeast F y k = false)) ∧ ∀ j, j < 120 → (σ 38 j = 0 ↔ sforged F j k = false)
theorem mark_one {F : FF} {P N k : Nat} {σ : RS} (hF : mF N F σ) (hok : ∀ k, k < N → okF P F k) (hk : k < N) (hN : N ≤ 120) (h : mMark F k σ) : mMark F (k + 1) (k_mark k σ) := by
  obtain ⟨q24, q25, -, -, -, -, q30⟩ := hF k hk
  obtain ⟨⟨b0, b1, b2, b3, b4, b5, b6⟩, -, c3, c4, -⟩ := hok k hk
  have e24 : ∀ j, j < 6 → ((nI (F 0 k) = nI j) ↔ F 0 k = j) := fun j hj => nI_eq (by omega) (by omega)
  have e3 : (nI (F 0 k) = 3) ↔ F 0 k = 3 := e24 3 (by omega)
  have e4 : (nI (F 0 k) = 4) ↔ F 0 k = 4 := e24 4 (by omega)
  unfold k_mark
  rw [q24, q30, nt_nI (by omega)]
  by_cases h3 : F 0 k = 3
  · rw [if_pos (e3.mpr h3)]
    have n4 : ¬ (s2 σ 38 (F 6 k) 1) 24 k = 4 := by
      show ¬ σ 24 k = 4
      rw [q24]
      intro z
      have := e4.mp z
      omega
    dsimp only
    rw [if_neg n4]
    refine ⟨fun y hy => ?_, fun j hj => ?_⟩
    · rw [sfeast, if_neg (by omega)]
      exact h.1 y hy
    · rw [sforged]
      show upd (σ 38) (F 6 k) 1 j = 0 ↔ _
      by_cases e : j = F 6 k
      · rw [e, upd_same, if_pos ⟨h3, rfl⟩]; decide
      · rw [upd_ne _ _ e, if_neg (fun z => e z.2.symm)]
        exact h.2 j hj
  · rw [if_neg (fun z => h3 (e3.mp z))]
    dsimp only
    rw [q24, q25, q30]
    have f38 : ∀ j, j < 120 → (σ 38 j = 0 ↔ sforged F j (k + 1) = false) := fun j hj => by
      rw [sforged, if_neg (fun z => h3 z.1)]
      exact h.2 j hj
    by_cases h4 : F 0 k = 4
    · rw [if_pos (e4.mpr h4), nt_nI (by omega)]
      refine ⟨fun y hy => ?_, f38⟩
      rw [sfeast]
      show upd (σ 37) (F 1 k) _ y = 0 ↔ _
      by_cases e : y = F 1 k
      · have hcond : F 0 k = 4 ∧ F 1 k = F 1 k := ⟨h4, rfl⟩
        rw [e, upd_same, if_pos hcond]
        by_cases w : F 6 k = 1
        · have e6 : nI (F 6 k) = 1 := by rw [w]; rfl
          rw [if_pos e6, decide_eq_true w]; decide
        · have n6 : ¬ nI (F 6 k) = 1 := fun z => w ((nI_eq (a := F 6 k) (b := 1) (by omega) (by omega)).mp z)
          rw [if_neg n6, decide_eq_false w]; decide
      · rw [upd_ne _ _ e, if_neg (fun z => e z.2.symm)]
        exact h.1 y hy
    · rw [if_neg (fun z => h4 (e4.mp z))]
      refine ⟨fun y hy => ?_, f38⟩
      rw [sfeast, if_neg (fun z => h4 z.1)]
      exact h.1 y hy
theorem mark_all {F : FF} {P N : Nat} (hok : ∀ k, k < N → okF P F k) (hN : N ≤ 120) : ∀ (c k : Nat) (σ : RS), k + c ≤ N → mF N F σ → mMark F k σ → mMark F (k + c) (r_for k_mark c k σ) := by
  intro c
  induction c with
  | zero => intro k σ _ _ h; exact h
  | succ c ih =>
    intro k σ hk hF h
    have := ih (k + 1) (k_mark k σ) (by omega) (mF_keep hF (fun c' _ c2 => k_mark_keep k σ c' c2)) (mark_one hF hok (by omega) hN h)
    rwa [show k + 1 + c = k + (c + 1) by omega] at this
theorem m_gone {F : FF} {lv : Nat → Int32} {A : List YL} {P N b n day : Nat} {σ : RS} (h : mBase F lv A P N b σ) (hc : mCache F lv A N σ) (hn : n ≤ N) (hd : day < 400) : mGone F lv A n day (g_gone P b A.length n day σ) ∧ (g_gone P b A.length n day σ) 0 47 = nI n ∧ (g_gone P b A.length n day σ) 0 48 = nI day := by
  obtain ⟨⟨hP, hN, hok⟩, h37, h39, hF, hl, hlv⟩ := h
  unfold g_gone
  by_cases hh : σ 0 47 = nI n ∧ σ 0 48 = nI day
  · rw [if_pos hh]
    refine ⟨?_, hh⟩
    rcases hc with hc | ⟨n', day', h1, h2, h3, h4, h5⟩
    · rw [hh.1] at hc
      exact absurd hc (fun z => absurd (nI_pos (n := n) (by omega)) (by rw [z]; decide))
    · have e1 : n = n' := (nI_eq (by omega) (by omega)).mp (hh.1.symm.trans h3)
      have e2 : day = day' := (nI_eq (by omega) (by omega)).mp (hh.2.symm.trans h4)
      rw [e1, e2]; exact h5
  · rw [if_neg hh]
    have k0 : ∀ c, 1 ≤ c → c ≤ 30 → (g_init σ n day) c = σ c := fun c c1 c2 => g_init_keep σ n day c c1 c2
    have s0 : ∀ j, j ≠ 47 → j ≠ 48 → (g_init σ n day) 0 j = σ 0 j := g_init_0 σ n day
    have oM := r_for_oc (L := [37, 38]) k_mark_oc n 0 (g_init σ n day)
    have hM : mMark F n (r_for k_mark n 0 (g_init σ n day)) := by
      have := mark_all hok hN n 0 (g_init σ n day) (by omega) (mF_keep hF (fun c c1 c2 => k0 c (by omega) c2)) ⟨fun y hy => ⟨fun _ => rfl, fun _ => if_pos hy⟩, fun j hj => ⟨fun _ => rfl, fun _ => if_pos hj⟩⟩
      rwa [Nat.zero_add] at this
    generalize hM2 : r_for k_mark n 0 (g_init σ n day) = σM at *
    have m0 : σM 0 = (g_init σ n day) 0 := oM 0 (by decide)
    have hT : mT F lv A P N n b σM := by
      refine ⟨⟨hP, hN, hn, hok⟩, ⟨?_, ?_, ?_, ?_⟩, hM.1, hM.2⟩
      · rw [m0, s0 37 (by omega) (by omega)]; exact h37
      · exact mF_keep hF (fun c c1 c2 => (oM c (by simp; omega)).trans (k0 c (by omega) c2))
      · exact mlaw_same ⟨fun c c1 c2 => (oM c (by simp; omega)).trans (k0 c (by omega) (by omega)), by rw [m0, s0 18 (by omega) (by omega)]⟩ hl
      · intro p hp
        rw [oM 23 (by decide), k0 23 (by omega) (by omega)]; exact hlv p hp
    have hH : mH F [] ss0 σM := by
      refine ⟨fun j hj => ?_, fun j hj => ?_, fun k hk => absurd hk List.not_mem_nil⟩
      · rw [oM 31 (by decide), oM 32 (by decide)]
        exact ⟨if_pos hj, if_pos hj⟩
      · rw [oM 33 (by decide)]
        exact if_pos hj
    have hlen : (day + 1) * n ≤ 400 * 120 := Nat.mul_le_mul (by omega) (by omega)
    obtain ⟨⟨pr, p1, p2⟩, -⟩ := m_days_sim (day + 1) 0 σM [] ss0 0 (by omega) (by omega) hT hH (sInv_0 P)
    have hkc := r_for_kc (fun d σ => r_for_kc (fun k σ => d_one_kc P b A.length d k σ) n 0 σ) (day + 1) 0 σM
    refine ⟨⟨pr, fun k hk => p1 k (Or.inr hk), p2⟩, ?_, ?_⟩
    · refine (hkc.2.2.2 47 (by omega)).trans ?_
      rw [m0]
      rfl
    · refine (hkc.2.2.2 48 (by omega)).trans ?_
      rw [m0]
      rfl
