/-! The papers one behind the other: the model's days. -/
theorem obd.mono {B C P : Nat} {o : Nat → Int32} (h : obd B P o) (hBC : B ≤ C) : obd C P o := ⟨h.1.mono hBC, h.2⟩
theorem obd.upd {B P : Nat} {o : Nat → Int32} (h : obd B P o) {a b v : Nat} (ha : a < P) (hb : b < P) (hP : P ≤ 8) (hab : ¬ a = b) (hv : v ≤ B) {x : Int32} (hx : x = nI v) : obd B P (upd o (8 * a + b) x) := by
  refine ⟨h.1.upd (fun _ => hv) (fun _ => hx), fun i hi => ?_, fun i j hi hj hz => ?_⟩
  · rw [upd_ne _ _ (by omega)]; exact h.2.1 i hi
  · rw [upd_ne _ _ (by omega)]; exact h.2.2 i j hi hj hz
theorem obd_mtS {B P : Nat} (hB : B ≤ 5000000) (hP : P ≤ 8) (c : Nat) {o : Nat → Int32} (h : obd B P o) : obd B P (mtS c o) := by
  have := (meetc_mtS hB hP c (s1 (fun _ _ => 0) 1 o) (by rw [s1_same]; exact h)).2
  rwa [s1_same] at this
theorem clip_100 (x : Int32) : ∃ v : Nat, v ≤ 100 ∧ lz_clip x = nI v := clamp_100 x
theorem growv_100 (vs : Nat → Int32) (A : List YL) (i : Int32) : ∃ v : Nat, v ≤ 100 ∧ growv vs A i = nI v := by
  unfold growv
  split
  · exact ⟨11, by omega, rfl⟩
  · split
    · exact clip_100 _
    · exact ⟨0, by omega, rfl⟩
theorem sInv_step {F : FF} {lv : Nat → Int32} {A : List YL} {P n k i : Nat} {S : SS} (hP : P ≤ 8) (hk : okF P F k) (hs : F 0 k ≤ 2) (hI : sInv P i S) (hi : i ≤ 49999) : sInv P (i + 1) (sp_step F lv A n k S) := by
  have hm := hI.1.mono (show 100 * i ≤ 100 * (i + 1) by omega)
  have keep : ∀ x, sInv P (i + 1) (ss_why S k x) := fun x => ⟨hm, hI.2⟩
  obtain ⟨⟨b0, b1, b2, b3, b4, b5, b6⟩, c1, -⟩ := hk
  unfold sp_step
  split
  · exact keep _
  · split
    · exact ⟨(obd_mtS (by omega) hP 64 hI.1).mono (by omega), hI.2⟩
    · rename_i hn2
      split
      · exact keep _
      · split
        · exact keep _
        · have hold : (F 0 k ≤ 1) → ∀ o d, o < 8 → d < 400 → ∃ h, h < 8 ∧ (upd S.1 (fLeaf F k) (nI (F 3 k))) (400 * o + d) = nI h ∧ (P ≤ o → h = o) := by
            intro hk1 o d ho hd
            obtain ⟨d1, d2, d3, d4⟩ := c1 hk1
            by_cases e : 400 * o + d = fLeaf F k
            · refine ⟨F 3 k, b3, by rw [e]; exact upd_same _ _ _, fun z => ?_⟩
              unfold fLeaf at e
              omega
            · obtain ⟨h, h1, h2, h3⟩ := hI.2 o d ho hd
              exact ⟨h, h1, (upd_ne _ _ e).trans h2, h3⟩
          split
          · rename_i h1
            split
            · exact keep _
            · obtain ⟨d1, d2, d3, d4⟩ := c1 (by omega)
              refine ⟨?_, hold (by omega)⟩
              obtain ⟨o1, o2⟩ := hm.1.at (by omega) (i := fab F k) (by unfold fab; omega)
              refine hm.upd d1 d2 hP d4 (v := nt (S.2.2.1 (fab F k)) - 10) (by omega) ?_
              unfold pay
              rw [o1]
              rw [nt_nI (by omega)]
              exact pay_10 (by omega)
          · rename_i h1
            split
            · exact ⟨hm, hI.2⟩
            · obtain ⟨d1, d2, d3, d4⟩ := c1 (by omega)
              refine ⟨?_, hold (by omega)⟩
              obtain ⟨o1, o2⟩ := hI.1.1.at (by omega) (i := fba F k) (by unfold fba; omega)
              obtain ⟨v, v1, v2⟩ := growv_100 (sp_vars F lv n k S) A (frule (sp_vars F lv n k S) true 0 A)
              refine hm.upd d2 d1 hP (fun z => d4 z.symm) (v := nt (S.2.2.1 (fba F k)) + v) (by omega) ?_
              rw [v2]
              rw [o1]
              rw [nt_nI (by omega)]
              exact nI_add _ _
def sp_run (F : FF) (lv : Nat → Int32) (A : List YL) (n : Nat) : List Nat → SS → SS
  | [], S => S
  | k :: ks, S => sp_run F lv A n ks (sp_step F lv A n k S)
theorem sp_run_app (F : FF) (lv : Nat → Int32) (A : List YL) (n : Nat) : ∀ (a b : List Nat) (S : SS), sp_run F lv A n (a ++ b) S = sp_run F lv A n b (sp_run F lv A n a S) := by
  intro a
  induction a with
  | nil => intro b S; rfl
  | cons k a ih => intro b S; exact ih b _
def ss0 : SS := (fun j => nI (j / 400), fun _ => 0, fun _ => 0, fun _ => 0, fun _ => 0)
theorem sInv_0 (P : Nat) : sInv P 0 ss0 := ⟨⟨fun i _ => ⟨0, by omega, rfl⟩, fun _ _ => rfl, fun _ _ _ _ _ => rfl⟩, fun o d ho hd => ⟨o, ho, by show nI ((400 * o + d) / 400) = nI o; congr 1; omega, fun _ => rfl⟩⟩
/-- the papers of a day, and of some days, as the model goes over them -/
def mday (F : FF) (d : Nat) : Nat → Nat → List Nat
  | 0, _ => []
  | c + 1, k => if F 0 k ≤ 2 ∧ F 1 k = d then k :: mday F d c (k + 1) else mday F d c (k + 1)
def mall (F : FF) (n : Nat) : Nat → Nat → List Nat
  | 0, _ => []
  | c + 1, d => mday F d n 0 ++ mall F n c (d + 1)
def mlist (F : FF) (n day : Nat) : List Nat := mall F n (day + 1) 0
theorem mday_len (F : FF) (d : Nat) : ∀ c k, (mday F d c k).length ≤ c := by
  intro c
  induction c with
  | zero => intro k; exact Nat.le_refl _
  | succ c ih =>
    intro k
    rw [mday]
    have := ih (k + 1)
    split
    · rw [List.length_cons]; omega
    · omega
theorem mall_len (F : FF) (n : Nat) : ∀ c d, (mall F n c d).length ≤ c * n := by
  intro c
  induction c with
  | zero => intro d; exact Nat.zero_le _
  | succ c ih =>
    intro d
    have h1 := mday_len F d n 0
    have h2 := ih (d + 1)
    rw [mall, List.length_append, Nat.succ_mul]
    omega
theorem mH_mem {F : FF} {pr pr' : List Nat} {S : SS} {σ : RS} (h : mH F pr S σ) (hm : ∀ k, k ∈ pr' → k ∈ pr) : mH F pr' S σ := ⟨h.1, h.2.1, fun k hk => h.2.2 k (hm k hk)⟩
theorem m_day_sim {F : FF} {lv : Nat → Int32} {A : List YL} {P N n b d : Nat} (hd : d < 400) : ∀ (c k : Nat) (σ : RS) (pr : List Nat) (S : SS) (i : Nat), k + c = n → i + c ≤ 49999 → mT F lv A P N n b σ → mH F pr S σ → sInv P i S → mT F lv A P N n b (r_for (d_one P b A.length d) c k σ) ∧ (∃ pr', (∀ j, j ∈ pr ∨ j ∈ mday F d c k → j ∈ pr') ∧ mH F pr' (sp_run F lv A n (mday F d c k) S) (r_for (d_one P b A.length d) c k σ)) ∧ sInv P (i + (mday F d c k).length) (sp_run F lv A n (mday F d c k) S) := by
  intro c
  induction c with
  | zero => intro k σ pr S i _ _ hT hH hI; exact ⟨hT, ⟨pr, fun j hj => hj.resolve_right (by intro z; cases z), hH⟩, hI⟩
  | succ c ih =>
    intro k σ pr S i hk hi hT hH hI
    have hkN : k < N := by have := hT.1.2.2.1; omega
    have hok := hT.1.2.2.2 k hkN
    obtain ⟨q24, q25, -⟩ := hT.2.1.2.1 k hkN
    have hc : (σ 24 k ≤ 2 ∧ σ 25 k = nI d) ↔ (F 0 k ≤ 2 ∧ F 1 k = d) := by
      have b0 := hok.1.1
      have b1 := hok.1.2.1
      rw [q24, q25, show (2 : Int32) = nI 2 from rfl, nI_leI (by omega) (by omega), nI_eq (by omega) (by omega)]
    rw [r_for, mday]
    by_cases h : F 0 k ≤ 2 ∧ F 1 k = d
    · have e1 : d_one P b A.length d k σ = p_paper P b A.length σ k := if_pos (hc.mpr h)
      rw [e1, if_pos h]
      obtain ⟨h1, ⟨pr', h2, h3⟩, h4⟩ := ih (k + 1) (p_paper P b A.length σ k) (k :: pr) (sp_step F lv A n k S) (i + 1) (by omega) (by omega) (mT_kc hT (p_paper_kc P b A.length σ k)) (m_step hT hH hI (by omega) (by omega) h.1) (sInv_step hT.1.1 hok h.1 hI (by omega))
      refine ⟨h1, ⟨pr', fun j hj => h2 j ?_, h3⟩, ?_⟩
      · rcases hj with hj | hj
        · exact Or.inl (List.mem_cons_of_mem _ hj)
        · rcases List.mem_cons.mp hj with e | hj
          · exact Or.inl (by rw [e]; exact List.mem_cons_self)
          · exact Or.inr hj
      · rw [List.length_cons, show i + ((mday F d c (k + 1)).length + 1) = i + 1 + (mday F d c (k + 1)).length by omega]
        exact h4
    · have e1 : d_one P b A.length d k σ = σ := if_neg (fun z => h (hc.mp z))
      rw [e1, if_neg h]
      exact ih (k + 1) σ pr S i (by omega) (by omega) hT hH hI
theorem m_days_sim {F : FF} {lv : Nat → Int32} {A : List YL} {P N n b : Nat} : ∀ (c d : Nat) (σ : RS) (pr : List Nat) (S : SS) (i : Nat), d + c ≤ 400 → i + c * n ≤ 49999 → mT F lv A P N n b σ → mH F pr S σ → sInv P i S → (∃ pr', (∀ j, j ∈ pr ∨ j ∈ mall F n c d → j ∈ pr') ∧ mH F pr' (sp_run F lv A n (mall F n c d) S) (r_for (d_day P b A.length n) c d σ)) ∧ mT F lv A P N n b (r_for (d_day P b A.length n) c d σ) := by
  intro c
  induction c with
  | zero => intro d σ pr S i _ _ hT hH hI; exact ⟨⟨pr, fun j hj => hj.resolve_right (by intro z; cases z), hH⟩, hT⟩
  | succ c ih =>
    intro d σ pr S i hd hi hT hH hI
    rw [Nat.succ_mul] at hi
    obtain ⟨h1, ⟨pr1, h2, h3⟩, h4⟩ := m_day_sim (d := d) (by omega) n 0 σ pr S i (by omega) (by omega) hT hH hI
    have hl := mday_len F d n 0
    obtain ⟨⟨pr', h5, h6⟩, h7⟩ := ih (d + 1) _ pr1 _ _ (by omega) (by omega) h1 h3 h4
    rw [r_for, mall, sp_run_app]
    refine ⟨⟨pr', fun j hj => h5 j ?_, h6⟩, h7⟩
    rcases hj with hj | hj
    · exact Or.inl (h2 j (Or.inl hj))
    · rcases List.mem_append.mp hj with hj | hj
      · exact Or.inl (h2 j (Or.inr hj))
      · exact Or.inr hj
