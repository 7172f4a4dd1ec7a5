/-! The model holds a paper: the state goes on. -/
theorem g_meets_oth (P : Nat) : ∀ (n : Nat) (σ : RS) (c : Nat), c ≠ 0 → c ≠ 33 → c ≠ 41 → c ≠ 42 → c ≠ 43 → (g_meets P n σ) c = σ c := by
  intro n
  induction n with
  | zero => intro σ c _ _ _ _ _; rfl
  | succ n ih =>
    intro σ c h0 h33 h41 h42 h43
    rw [g_meets]
    split
    · rw [ih _ c h0 h33 h41 h42 h43, (f_kp_find P _).1 c h0 h41 h42 h43, g_meetR_at _ _ _ _ _ _ h33]
    · rfl
theorem mH_of {F : FF} {pr : List Nat} {S S' : SS} {σ σ' : RS} {k : Nat} (h : mH F pr S σ) (h31 : ∀ j, j < 3200 → σ' 31 j = S'.1 j ∧ σ' 32 j = S'.2.1 j) (h33 : like64 (σ' 33) S'.2.2.1) (hk : σ' 34 k = S'.2.2.2.1 k ∧ (F 0 k = 0 → (S'.2.2.2.1 k = 4 → σ' 35 k = S'.2.2.2.2 k) ∧ (S'.2.2.2.1 k = 0 → σ' 36 k = S'.2.2.2.2 k))) (ho : ∀ j, j ≠ k → (σ' 34 j = σ 34 j ∧ σ' 35 j = σ 35 j ∧ σ' 36 j = σ 36 j) ∧ S'.2.2.2.1 j = S.2.2.2.1 j ∧ S'.2.2.2.2 j = S.2.2.2.2 j) : mH F (k :: pr) S' σ' := by
  refine ⟨h31, h33, fun j hj => ?_⟩
  by_cases e : j = k
  · rw [e]; exact hk
  · have hj : j ∈ pr := (List.mem_cons.mp hj).resolve_left e
    obtain ⟨⟨o1, o2, o3⟩, o4, o5⟩ := ho j e
    rw [o1, o2, o3, o4, o5]
    exact h.2.2 j hj
theorem p_clear_at (σ : RS) (k j : Nat) (h : j ≠ k) : (p_clear σ k) 34 j = σ 34 j ∧ (p_clear σ k) 35 j = σ 35 j ∧ (p_clear σ k) 36 j = σ 36 j := ⟨upd_ne _ _ h, upd_ne _ _ h, upd_ne _ _ h⟩
theorem a_vars_at {F : FF} {lv : Nat → Int32} {A : List YL} {P N n b k : Nat} {σ σ0 : RS} {pr : List Nat} {S : SS} {i : Nat} (hT : mT F lv A P N n b σ) (hH : mH F pr S σ) (hI : sInv P i S) (hk : k < n) (hs : F 0 k = 0) (h0 : σ0 = p_clear σ k) : ∀ w, w < 9 → (a_vars P σ0 k) 39 w = sp_vars F lv n k S w := by
  obtain ⟨⟨hP, hN, hn, hok⟩, ⟨h37, hmF, hl, hlv⟩, hfe, hfo⟩ := hT
  obtain ⟨q24, q25, q26, q27, q28, q29, q30⟩ := hmF k (by omega)
  have hk0 := hok k (by omega)
  obtain ⟨⟨b0, b1, b2, b3, b4, b5, b6⟩, c1, -⟩ := hk0
  obtain ⟨d1, d2, d3, d4⟩ := c1 (by omega)
  have e : ∀ c, c ≠ 34 → c ≠ 35 → c ≠ 36 → σ0 c = σ c := fun c z1 z2 z3 => by rw [h0]; exact p_clear_oc σ k c (by simp; omega)
  have g26 : nt (σ0 26 k) = F 2 k := by rw [e 26 (by decide) (by decide) (by decide), q26]; exact nt_nI (by omega)
  have g27 : nt (σ0 27 k) = F 3 k := by rw [e 27 (by decide) (by decide) (by decide), q27]; exact nt_nI (by omega)
  have g28 : nt (σ0 28 k) = F 4 k := by rw [e 28 (by decide) (by decide) (by decide), q28]; exact nt_nI (by omega)
  have g29 : nt (σ0 29 k) = F 5 k := by rw [e 29 (by decide) (by decide) (by decide), q29]; exact nt_nI (by omega)
  have g25 : nt (σ0 25 k) = F 1 k := by rw [e 25 (by decide) (by decide) (by decide), q25]; exact nt_nI (by omega)
  obtain ⟨hh, ho, -⟩ := hH
  intro w hw
  unfold a_vars sp_vars
  rw [g26, g27, g28, g29, g25]
  rw [e 26 (by decide) (by decide) (by decide), e 27 (by decide) (by decide) (by decide), e 37 (by decide) (by decide) (by decide), e 29 (by decide) (by decide) (by decide), e 25 (by decide) (by decide) (by decide), e 32 (by decide) (by decide) (by decide), e 28 (by decide) (by decide) (by decide), e 33 (by decide) (by decide) (by decide), e 31 (by decide) (by decide) (by decide), e 23 (by decide) (by decide) (by decide)]
  rw [q26, q27, q29, q25, q28]
  have all : ∀ (v : Nat → Int32) (x : Int32), w < 9 → True := fun _ _ _ => trivial
  rcases (show w = 0 ∨ w = 1 ∨ w = 2 ∨ w = 3 ∨ w = 4 ∨ w = 5 ∨ w = 6 ∨ w = 7 ∨ w = 8 by omega) with rfl | rfl | rfl | rfl | rfl | rfl | rfl | rfl | rfl
  · rfl
  · rfl
  · show (if σ 37 (F 5 k) = 0 then (0 : Int32) else 1) = bI (sfeast F (F 5 k) n)
    by_cases z : sfeast F (F 5 k) n = false
    · rw [if_pos ((hfe _ (by omega)).mpr z), z]; rfl
    · rw [if_neg (fun q => z ((hfe _ (by omega)).mp q))]
      rw [show sfeast F (F 5 k) n = true by simpa using z]; rfl
  · rfl
  · exact (hh _ (by omega)).2
  · show (if nI (F 4 k) = nI (F 2 k) then (1 : Int32) else 0) = bI (decide (F 4 k = F 2 k))
    by_cases z : F 4 k = F 2 k
    · rw [if_pos (by rw [z]), decide_eq_true z]; rfl
    · rw [if_neg (fun q => z ((nI_eq (by omega) (by omega)).mp q)), decide_eq_false z]; rfl
  · exact ho _ (by omega)
  · exact sum_like 8 (fun o hoo => ho _ (by omega))
  · show m_ageOut (σ 31) (nI (F 3 k)) (F 1 k) (σ 23 (F 3 k)) P = m_ageOut S.1 (nI (F 3 k)) (F 1 k) (lv (F 3 k)) 8
    rw [hlv _ d2, age_like b1 _ (fun j hj => (hh j hj).1) P hP]
    exact (age_few b1 hP d2 _ (fun o d o1 o2 o3 => by
      obtain ⟨h, h1, h2, h3⟩ := hI.2 o d o2 o3
      rw [h2, h3 o1])).symm
theorem m_step {F : FF} {lv : Nat → Int32} {A : List YL} {P N n b k : Nat} {σ : RS} {pr : List Nat} {S : SS} {i : Nat} (hT : mT F lv A P N n b σ) (hH : mH F pr S σ) (hI : sInv P i S) (hi : i ≤ 50000) (hk : k < n) (hs : F 0 k ≤ 2) : mH F (k :: pr) (sp_step F lv A n k S) (p_paper P b A.length σ k) := by
  have hT0 := hT
  obtain ⟨⟨hP, hN, hn, hok⟩, ⟨h37, hmF, hl, hlv⟩, hfe, hfo⟩ := hT
  obtain ⟨q24, q25, q26, q27, q28, q29, q30⟩ := hmF k (by omega)
  have hk0 := hok k (by omega)
  obtain ⟨lf1, lf2, lf3⟩ := fLeaf_lt hk0
  obtain ⟨⟨b0, b1, b2, b3, b4, b5, b6⟩, c1, -⟩ := hk0
  obtain ⟨σ0, h0⟩ : ∃ τ, τ = p_clear σ k := ⟨_, rfl⟩
  have e : ∀ c, c ≠ 34 → c ≠ 35 → c ≠ 36 → σ0 c = σ c := fun c z1 z2 z3 => by rw [h0]; exact p_clear_oc σ k c (by simp; omega)
  have e34 : σ0 34 k = (if σ 38 k = 0 then 0 else 1) := by rw [h0]; exact upd_same _ _ _
  have eat : ∀ j, j ≠ k → σ0 34 j = σ 34 j ∧ σ0 35 j = σ 35 j ∧ σ0 36 j = σ 36 j := fun j hj => by rw [h0]; exact p_clear_at σ k j hj
  have eleaf : p_leaf σ0 k = fLeaf F k := by
    unfold p_leaf fLeaf
    rw [e 28 (by decide) (by decide) (by decide), e 29 (by decide) (by decide) (by decide), q28, q29, nt_nI (by omega), nt_nI (by omega)]
  have eab : p_ab σ0 k = fab F k := by
    unfold p_ab fab
    rw [e 26 (by decide) (by decide) (by decide), e 27 (by decide) (by decide) (by decide), q26, q27, nt_nI (by omega), nt_nI (by omega)]
  have eba : p_ba σ0 k = fba F k := by
    unfold p_ba fba
    rw [e 26 (by decide) (by decide) (by decide), e 27 (by decide) (by decide) (by decide), q26, q27, nt_nI (by omega), nt_nI (by omega)]
  obtain ⟨hh, ho, hw⟩ := hH
  have same31 : ∀ j, j < 3200 → σ0 31 j = S.1 j ∧ σ0 32 j = S.2.1 j := fun j hj => by rw [e 31 (by decide) (by decide) (by decide), e 32 (by decide) (by decide) (by decide)]; exact hh j hj
  have same33 : like64 (σ0 33) S.2.2.1 := by rw [e 33 (by decide) (by decide) (by decide)]; exact ho
  have hob : obd (100 * i) P (σ0 33) := obd_like same33.symm hI.1
  have hvars := a_vars_at hT0 ⟨hh, ho, hw⟩ hI hk (σ0 := σ0)
  have hH : mH F pr S σ := ⟨hh, ho, hw⟩
  unfold p_paper sp_step
  rw [← h0, e34]
  by_cases hf : sforged F k n = true
  · have z38 : ¬ σ 38 k = 0 := fun z => by rw [(hfo k (by omega)).mp z] at hf; cases hf
    rw [if_neg z38, if_pos (show (0 : Int32) < 1 by decide), if_pos hf]
    exact mH_of hH same31 same33 ⟨by rw [e34, if_neg z38]; exact (upd_same _ _ _).symm, fun _ => ⟨fun z => absurd ((upd_same _ _ _).symm.trans z) (by decide), fun z => absurd ((upd_same _ _ _).symm.trans z) (by decide)⟩⟩ (fun j hj => ⟨eat j hj, upd_ne _ _ hj, rfl⟩)
  have z38 : σ 38 k = 0 := (hfo k (by omega)).mpr (by simpa using hf)
  have e34' : σ0 34 k = 0 := by rw [e34, if_pos z38]
  rw [if_pos z38, if_neg (show ¬ (0 : Int32) < 0 by decide), if_neg hf, q24]
  by_cases h2 : F 0 k = 2
  · have e2 : nI (F 0 k) = 2 := by rw [h2]; rfl
    rw [if_pos e2, if_pos h2]
    have ec : ∀ c, c ≠ 0 → c ≠ 33 → c ≠ 41 → c ≠ 42 → c ≠ 43 → (g_meets P 64 (f_find P σ0)) c = σ0 c := fun c w0 w1 w2 w3 w4 => (g_meets_oth P 64 _ c w0 w1 w2 w3 w4).trans ((f_kp_find P _).1 c w0 w2 w3 w4)
    refine mH_of hH (fun j hj => ?_) ?_ ⟨?_, fun z => by omega⟩ (fun j hj => ⟨?_, upd_ne _ _ hj, rfl⟩)
    · rw [ec 31 (by decide) (by decide) (by decide) (by decide) (by decide), ec 32 (by decide) (by decide) (by decide) (by decide) (by decide)]
      exact same31 j hj
    · rw [meets_mtS (B := 100 * i) (by omega) hP 64 σ0 hob]
      exact mtS_like 64 _ _ same33
    · rw [ec 34 (by decide) (by decide) (by decide) (by decide) (by decide), e34']
      exact (upd_same _ _ _).symm
    · rw [ec 34 (by decide) (by decide) (by decide) (by decide) (by decide), ec 35 (by decide) (by decide) (by decide) (by decide) (by decide), ec 36 (by decide) (by decide) (by decide) (by decide) (by decide)]
      exact eat j hj
  have n2 : ¬ nI (F 0 k) = 2 := fun z => h2 ((nI_eq (a := F 0 k) (b := 2) (by omega) (by omega)).mp z)
  rw [if_neg n2, if_neg h2]
  -- a void one, by a number
  have void : ∀ (x : Int32), 0 < x → ¬ x = 4 → ¬ x = 0 → mH F (k :: pr) (ss_why S k x) (s2 σ0 34 k x) := by
    intro x x0 x4 x00
    exact mH_of hH same31 same33 ⟨(upd_same _ _ _).trans (upd_same _ _ _).symm, fun _ => ⟨fun z => absurd ((upd_same _ _ _).symm.trans z) x4, fun z => absurd ((upd_same _ _ _).symm.trans z) x00⟩⟩ (fun j hj => ⟨⟨(upd_ne _ _ hj).trans (eat j hj).1, (eat j hj).2.1, (eat j hj).2.2⟩, upd_ne _ _ hj, rfl⟩)
  unfold p_why
  rw [eleaf, (same31 _ lf1).1, e 26 (by decide) (by decide) (by decide), q26]
  by_cases hn2 : ¬ S.1 (fLeaf F k) = nI (F 2 k)
  · rw [if_pos hn2, if_pos hn2, if_pos (show 0 < (s2 σ0 34 k 2) 34 k by rw [show (s2 σ0 34 k 2) 34 k = 2 from upd_same _ _ _]; decide)]
    exact void 2 (by decide) (by decide) (by decide)
  have hh2 := Classical.not_not.mp hn2
  have hh3 : ¬ ¬ S.1 (fLeaf F k) = nI (F 2 k) := fun z => z hh2
  rw [if_neg hh3, if_neg hh3, e 29 (by decide) (by decide) (by decide), e 25 (by decide) (by decide) (by decide), q29, q25]
  have hday : (nI (F 5 k) ≤ nI (F 1 k)) ↔ F 5 k ≤ F 1 k := nI_leI (by omega) (by omega)
  by_cases hd : F 5 k ≤ F 1 k
  · rw [if_pos (hday.mpr hd), if_pos hd, if_pos (show 0 < (s2 σ0 34 k 3) 34 k by rw [show (s2 σ0 34 k 3) 34 k = 3 from upd_same _ _ _]; decide)]
    exact void 3 (by decide) (by decide) (by decide)
  have hday2 : ¬ nI (F 5 k) ≤ nI (F 1 k) := fun z => hd (hday.mp z)
  rw [if_neg hday2, if_neg hd, e 24 (by decide) (by decide) (by decide), q24]
  have g27 : nt (σ 27 k) = F 3 k := by rw [q27]; exact nt_nI (by omega)
  by_cases h1 : F 0 k = 1
  · have n0 : ¬ nI (F 0 k) = 0 := by rw [h1]; decide
    have e1 : nI (F 0 k) = 1 := by rw [h1]; rfl
    rw [if_neg n0, if_pos h1, eab, same33 _ lf2]
    by_cases hz : S.2.2.1 (fab F k) = 0
    · rw [if_pos hz, if_pos hz, if_pos (show 0 < (s2 σ0 34 k 5) 34 k by rw [show (s2 σ0 34 k 5) 34 k = 5 from upd_same _ _ _]; decide)]
      exact void 5 (by decide) (by decide) (by decide)
    rw [if_neg hz, if_neg hz, if_neg (by rw [e34']; decide)]
    have eM : p_move σ0 k = s2 (s2 σ0 31 (fLeaf F k) (nI (F 3 k))) 32 (fLeaf F k) (S.2.1 (fLeaf F k) + 1) := by
      unfold p_move
      rw [eleaf, e 27 (by decide) (by decide) (by decide), q27, (same31 _ lf1).2]
    have eO : p_owe b (p_move σ0 k) k = s2 (p_move σ0 k) 33 (fab F k) (pay (S.2.2.1 (fab F k))) := by
      unfold p_owe
      have ab2 : p_ab (p_move σ0 k) k = fab F k := by rw [eM]; exact eab
      have v33 : (p_move σ0 k) 33 (fab F k) = S.2.2.1 (fab F k) := by rw [eM]; exact same33 _ lf2
      rw [if_pos (by rw [eM]; show σ0 24 k = 1; rw [e 24 (by decide) (by decide) (by decide), q24, e1]), ab2, v33]
      rfl
    rw [eO, eM]
    refine mH_of hH (fun j hj => ⟨?_, ?_⟩) (fun j hj => ?_) ⟨?_, fun z => by omega⟩ (fun j hj => ⟨eat j hj, upd_ne _ _ hj, rfl⟩)
    · show upd (σ0 31) (fLeaf F k) (nI (F 3 k)) j = upd S.1 (fLeaf F k) (nI (F 3 k)) j
      by_cases z : j = fLeaf F k
      · rw [z, upd_same, upd_same]
      · rw [upd_ne _ _ z, upd_ne _ _ z]; exact (same31 j hj).1
    · show upd (σ0 32) (fLeaf F k) (S.2.1 (fLeaf F k) + 1) j = upd S.2.1 (fLeaf F k) (S.2.1 (fLeaf F k) + 1) j
      by_cases z : j = fLeaf F k
      · rw [z, upd_same, upd_same]
      · rw [upd_ne _ _ z, upd_ne _ _ z]; exact (same31 j hj).2
    · show upd (σ0 33) (fab F k) _ j = upd S.2.2.1 (fab F k) _ j
      by_cases z : j = fab F k
      · rw [z, upd_same, upd_same]
      · rw [upd_ne _ _ z, upd_ne _ _ z]; exact same33 j hj
    · show σ0 34 k = upd S.2.2.2.1 k 0 k
      rw [e34', upd_same]
  have hs0 : F 0 k = 0 := by omega
  have e0 : nI (F 0 k) = 0 := by rw [hs0]; rfl
  have hvars := hvars hs0 h0
  rw [if_pos e0, if_neg h1]
  have lw0 : mlaw b (a_vars P σ0 k) A := mlaw_same ((show lsame σ σ0 from ⟨fun c c1 c2 => e c (by omega) (by omega) (by omega), by rw [e 0 (by decide) (by decide) (by decide)]⟩).trans (a_vars_same P σ0 k)) hl
  have hX : (u_of b 0 A.length 0 (a_vars P σ0 k)).1 = frule (sp_vars F lv n k S) false 0 A := (mlaw_first lw0 false).trans (frule_congr hvars false 0 hl.2.2.2.2.2)
  have ocX := u_of_oc (L := [40]) (by decide) b 0 A.length 0 (a_vars P σ0 k)
  have ocV := a_vars_oc (L := [39]) (by decide) P σ0 k
  obtain ⟨σ1, hσ1⟩ : ∃ τ, τ = a_ban P b A.length σ0 k := ⟨_, rfl⟩
  have k1 : ∀ c, c ≠ 35 → c ≠ 39 → c ≠ 40 → σ1 c = σ0 c := fun c z1 z2 z3 => by
    rw [hσ1]
    show (s2 (u_of b 0 A.length 0 (a_vars P σ0 k)).2 35 k _) c = _
    rw [show (s2 (u_of b 0 A.length 0 (a_vars P σ0 k)).2 35 k (u_of b 0 A.length 0 (a_vars P σ0 k)).1) c = (u_of b 0 A.length 0 (a_vars P σ0 k)).2 c from s1_ne _ _ z1, ocX c (by simp; omega), ocV c (by simp; omega)]
  have k35 : ∀ j, j ≠ k → σ1 35 j = σ0 35 j := fun j hj => by
    rw [hσ1]
    show upd ((u_of b 0 A.length 0 (a_vars P σ0 k)).2 35) k _ j = _
    rw [upd_ne _ _ hj, ocX 35 (by decide), ocV 35 (by decide)]
  have v35 : σ1 35 k = frule (sp_vars F lv n k S) false 0 A := by
    rw [hσ1]
    show upd ((u_of b 0 A.length 0 (a_vars P σ0 k)).2 35) k (u_of b 0 A.length 0 (a_vars P σ0 k)).1 k = _
    rw [upd_same, hX]
  have v39 : σ1 39 = (a_vars P σ0 k) 39 := by
    rw [hσ1]
    show (s2 (u_of b 0 A.length 0 (a_vars P σ0 k)).2 35 k _) 39 = _
    rw [show (s2 (u_of b 0 A.length 0 (a_vars P σ0 k)).2 35 k (u_of b 0 A.length 0 (a_vars P σ0 k)).1) 39 = (u_of b 0 A.length 0 (a_vars P σ0 k)).2 39 from s1_ne _ _ (by decide), ocX 39 (by decide)]
  have lw1 : mlaw b σ1 A := mlaw_same ((show lsame σ σ0 from ⟨fun c c1 c2 => e c (by omega) (by omega) (by omega), by rw [e 0 (by decide) (by decide) (by decide)]⟩).trans (by rw [hσ1]; exact a_ban_same P b A.length σ0 k)) hl
  have hvars1 : ∀ w, w < 9 → σ1 39 w = sp_vars F lv n k S w := fun w hw => by rw [v39]; exact hvars w hw
  have hY : (u_of b 1 A.length 0 σ1).1 = frule (sp_vars F lv n k S) true 0 A := (mlaw_first lw1 true).trans (frule_congr hvars1 true 0 hl.2.2.2.2.2)
  have ocY := u_of_oc (L := [40]) (by decide) b 1 A.length 0 σ1
  have eA : a_asks P b A.length σ0 k = if σ1 35 k = -1 then s2 (u_of b 1 A.length 0 σ1).2 36 k (u_of b 1 A.length 0 σ1).1 else s2 σ1 34 k 4 := by
    unfold a_asks
    rw [← hσ1]
  rw [eA, v35]
  by_cases hnb : ¬ frule (sp_vars F lv n k S) false 0 A = -1
  · rw [if_neg hnb, if_pos hnb, if_pos (show 0 < (s2 σ1 34 k 4) 34 k by rw [show (s2 σ1 34 k 4) 34 k = 4 from upd_same _ _ _]; decide)]
    refine mH_of hH (fun j hj => ?_) ?_ ⟨(upd_same _ _ _).trans (upd_same _ _ _).symm, fun _ => ⟨fun _ => v35.trans (upd_same _ _ _).symm, fun z => absurd ((upd_same _ _ _).symm.trans z) (by decide)⟩⟩ (fun j hj => ⟨⟨?_, ?_, ?_⟩, upd_ne _ _ hj, upd_ne _ _ hj⟩)
    · show σ1 31 j = S.1 j ∧ σ1 32 j = S.2.1 j
      rw [k1 31 (by decide) (by decide) (by decide), k1 32 (by decide) (by decide) (by decide)]
      exact same31 j hj
    · show like64 (σ1 33) S.2.2.1
      rw [k1 33 (by decide) (by decide) (by decide)]
      exact same33
    · refine (upd_ne _ _ hj).trans ?_
      rw [k1 34 (by decide) (by decide) (by decide)]; exact (eat j hj).1
    · exact (k35 j hj).trans (eat j hj).2.1
    · show σ1 36 j = σ 36 j
      rw [k1 36 (by decide) (by decide) (by decide)]; exact (eat j hj).2.2
  have hban := Classical.not_not.mp hnb
  have hnb2 : ¬ ¬ frule (sp_vars F lv n k S) false 0 A = -1 := fun z => z hban
  rw [if_pos hban, if_neg hnb2]
  obtain ⟨σ2, hσ2⟩ : ∃ τ, τ = s2 (u_of b 1 A.length 0 σ1).2 36 k (u_of b 1 A.length 0 σ1).1 := ⟨_, rfl⟩
  rw [← hσ2]
  have k2 : ∀ c, c ≠ 35 → c ≠ 36 → c ≠ 39 → c ≠ 40 → σ2 c = σ0 c := fun c z1 z2 z3 z4 => by
    rw [hσ2, show (s2 (u_of b 1 A.length 0 σ1).2 36 k (u_of b 1 A.length 0 σ1).1) c = (u_of b 1 A.length 0 σ1).2 c from s1_ne _ _ z2, ocY c (by simp; omega), k1 c z1 z3 z4]
  have w36 : σ2 36 k = frule (sp_vars F lv n k S) true 0 A := by rw [hσ2]; exact (upd_same _ _ _).trans hY
  have w36j : ∀ j, j ≠ k → σ2 36 j = σ0 36 j := fun j hj => by
    rw [hσ2]
    refine (upd_ne _ _ hj).trans ?_
    rw [ocY 36 (by decide), k1 36 (by decide) (by decide) (by decide)]
  have w35j : ∀ j, j ≠ k → σ2 35 j = σ0 35 j := fun j hj => by
    rw [hσ2, show (s2 (u_of b 1 A.length 0 σ1).2 36 k (u_of b 1 A.length 0 σ1).1) 35 = (u_of b 1 A.length 0 σ1).2 35 from s1_ne _ _ (by decide), ocY 35 (by decide)]
    exact k35 j hj
  have w39 : σ2 39 = σ1 39 := by rw [hσ2, show (s2 (u_of b 1 A.length 0 σ1).2 36 k (u_of b 1 A.length 0 σ1).1) 39 = (u_of b 1 A.length 0 σ1).2 39 from s1_ne _ _ (by decide), ocY 39 (by decide)]
  have w34 : σ2 34 k = 0 := by rw [k2 34 (by decide) (by decide) (by decide) (by decide)]; exact e34'
  have lw2 : mlaw b σ2 A := by
    rw [hσ2]
    exact mlaw_same ((u_of_same _ _ _ _ _).s2 (by omega) _ _) lw1
  rw [if_neg (by rw [w34]; decide)]
  have eleaf2 : p_leaf σ2 k = fLeaf F k := by
    unfold p_leaf
    rw [k2 28 (by decide) (by decide) (by decide) (by decide), k2 29 (by decide) (by decide) (by decide) (by decide)]
    exact eleaf
  have eM : p_move σ2 k = s2 (s2 σ2 31 (fLeaf F k) (nI (F 3 k))) 32 (fLeaf F k) (S.2.1 (fLeaf F k) + 1) := by
    unfold p_move
    rw [eleaf2, k2 27 (by decide) (by decide) (by decide) (by decide), e 27 (by decide) (by decide) (by decide), q27, k2 32 (by decide) (by decide) (by decide) (by decide), (same31 _ lf1).2]
  obtain ⟨σ3, hσ3⟩ : ∃ τ, τ = p_move σ2 k := ⟨_, rfl⟩
  have lw3 : mlaw b σ3 A := by
    rw [hσ3, eM]
    exact mlaw_same (((lsame.refl σ2).s2 (by omega) _ _).s2 (by omega) _ _) lw2
  have x33 : σ3 33 = σ0 33 := by rw [hσ3, eM]; exact k2 33 (by decide) (by decide) (by decide) (by decide)
  have x36 : σ3 36 k = frule (sp_vars F lv n k S) true 0 A := by rw [hσ3, eM]; exact w36
  have x39 : σ3 39 = σ1 39 := by rw [hσ3, eM]; exact w39
  have x24 : σ3 24 k = 0 := by rw [hσ3, eM]; show σ2 24 k = 0; rw [k2 24 (by decide) (by decide) (by decide) (by decide), e 24 (by decide) (by decide) (by decide), q24, e0]
  have xba : p_ba σ3 k = fba F k := by
    unfold p_ba
    rw [hσ3, eM]
    show 8 * nt (σ2 27 k) + nt (σ2 26 k) = _
    rw [k2 27 (by decide) (by decide) (by decide) (by decide), k2 26 (by decide) (by decide) (by decide) (by decide)]
    exact eba
  have hvars3 : ∀ w, w < 9 → σ3 39 w = sp_vars F lv n k S w := fun w hw => by rw [x39]; exact hvars1 w hw
  have eO : ∃ τ, p_owe b σ3 k = s2 τ 33 (fba F k) (S.2.2.1 (fba F k) + growv (sp_vars F lv n k S) A (frule (sp_vars F lv n k S) true 0 A)) ∧ oc [40] σ3 τ := by
    unfold p_owe
    rw [if_neg (by rw [x24]; decide), xba, x36, x33, same33 _ lf3]
    rcases frule_res (sp_vars F lv n k S) true A 0 with z | ⟨kk, RR, z1, z2, z3⟩
    · rw [z, if_pos rfl, growv_none]
      exact ⟨σ3, rfl, oc.refl _ _⟩
    · have hlen := (List.getElem?_eq_some_iff.mp z1).1
      have hA16 := hl.2.2.2.1
      have z3 : frule (sp_vars F lv n k S) true 0 A = nI kk := by rw [z3, Nat.zero_add]
      have hg := mlaw_grow (f := k) lw3 z1 z2 (x36.trans z3)
      have hg2 := growv_congr (A := A) (fun w hw => (hvars3 w hw).symm) hA16 hl.2.2.2.2.2
      rw [z3] at hg2 ⊢
      rw [if_neg (fun q => absurd (nI_pos (n := kk) (by omega)) (by rw [q]; decide)), hg, hg2]
      refine ⟨(p_grown b σ3 k).2, ?_, h_val_oc (L := [40]) (by decide) _ _ _⟩
      have : (p_grown b σ3 k).2 33 = σ3 33 := h_val_oc (L := [40]) (by decide) σ3 _ _ 33 (by decide)
      rw [this, x33, same33 _ lf3]
  rw [← hσ3]
  obtain ⟨τ, hτ, ocτ⟩ := eO
  rw [hτ]
  have t31 : τ 31 = upd (σ2 31) (fLeaf F k) (nI (F 3 k)) := by rw [ocτ 31 (by decide), hσ3, eM]; rfl
  have t32 : τ 32 = upd (σ2 32) (fLeaf F k) (S.2.1 (fLeaf F k) + 1) := by rw [ocτ 32 (by decide), hσ3, eM]; rfl
  have t33 : τ 33 = σ0 33 := by rw [ocτ 33 (by decide), x33]
  have t34 : τ 34 = σ2 34 := by rw [ocτ 34 (by decide), hσ3, eM]; rfl
  have t35 : τ 35 = σ2 35 := by rw [ocτ 35 (by decide), hσ3, eM]; rfl
  have t36 : τ 36 = σ2 36 := by rw [ocτ 36 (by decide), hσ3, eM]; rfl
  refine mH_of hH (fun j hj => ⟨?_, ?_⟩) (fun j hj => ?_) ⟨?_, fun _ => ⟨fun z => absurd ((upd_same _ _ _).symm.trans z) (by decide), fun _ => ?_⟩⟩ (fun j hj => ⟨⟨?_, ?_, ?_⟩, upd_ne _ _ hj, upd_ne _ _ hj⟩)
  · show τ 31 j = upd S.1 (fLeaf F k) (nI (F 3 k)) j
    rw [t31]
    by_cases z : j = fLeaf F k
    · rw [z, upd_same, upd_same]
    · rw [upd_ne _ _ z, upd_ne _ _ z, k2 31 (by decide) (by decide) (by decide) (by decide)]; exact (same31 j hj).1
  · show τ 32 j = upd S.2.1 (fLeaf F k) (S.2.1 (fLeaf F k) + 1) j
    rw [t32]
    by_cases z : j = fLeaf F k
    · rw [z, upd_same, upd_same]
    · rw [upd_ne _ _ z, upd_ne _ _ z, k2 32 (by decide) (by decide) (by decide) (by decide)]; exact (same31 j hj).2
  · show upd (τ 33) (fba F k) _ j = upd S.2.2.1 (fba F k) _ j
    rw [t33]
    by_cases z : j = fba F k
    · rw [z, upd_same, upd_same]
    · rw [upd_ne _ _ z, upd_ne _ _ z]; exact same33 j hj
  · show τ 34 k = upd S.2.2.2.1 k 0 k
    rw [t34, w34, upd_same]
  · show τ 36 k = upd S.2.2.2.2 k _ k
    rw [t36, w36, upd_same]
  · show τ 34 j = σ 34 j
    rw [t34, k2 34 (by decide) (by decide) (by decide) (by decide)]; exact (eat j hj).1
  · show τ 35 j = σ 35 j
    rw [t35]; exact (w35j j hj).trans (eat j hj).2.1
  · show τ 36 j = σ 36 j
    rw [t36]; exact (w36j j hj).trans (eat j hj).2.2
