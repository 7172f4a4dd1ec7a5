/-! What is told (class 6): a new fact, a new person; in spec and class. -/
def fnew (N : Nat) (q : Nat → Nat) (F : FF) : FF := fun i k => if k = N then q i else F i k
theorem fnew_at (N : Nat) (q : Nat → Nat) (F : FF) (i : Nat) : fnew N q F i N = q i := if_pos rfl
theorem fnew_ne {N : Nat} (q : Nat → Nat) (F : FF) (i : Nat) {k : Nat} (h : k ≠ N) : fnew N q F i k = F i k := if_neg h
theorem fnew_ag (N : Nat) (q : Nat → Nat) (F : FF) : agF N F (fnew N q F) := fun i k hk => (fnew_ne q F i (by omega)).symm
def row (a b c e f g h : Nat) : Nat → Nat
  | 0 => a
  | 1 => b
  | 2 => c
  | 3 => e
  | 4 => f
  | 5 => g
  | _ => h
theorem okF_ag {P N : Nat} {F F' : FF} (h : agF N F F') {k : Nat} (hk : k < N) (g : okF P F k) : okF P F' k := by
  unfold okF at *
  obtain ⟨g1, g2, g3, g4, g5⟩ := g
  rw [← h 0 k hk, ← h 1 k hk, ← h 2 k hk, ← h 3 k hk, ← h 4 k hk, ← h 5 k hk, ← h 6 k hk]
  exact ⟨g1, g2, fun e => ⟨(g3 e).1, by rw [← h 0 _ (by have := (g3 e).1; omega)]; exact (g3 e).2⟩, g4, g5⟩
theorem okF_more {P : Nat} {F : FF} {k : Nat} (g : okF P F k) : okF (P + 1) F k := by
  unfold okF at *
  obtain ⟨g1, g2, g3, g4, g5⟩ := g
  exact ⟨g1, fun e => ⟨by have := (g2 e).1; omega, by have := (g2 e).2.1; omega, by have := (g2 e).2.2.1; omega, (g2 e).2.2.2⟩, g3, g4, fun e => ⟨by have := (g5 e).1; omega, by have := (g5 e).2; omega⟩⟩
theorem okF_new {P N : Nat} {F : FF} {q : Nat → Nat} (b : q 0 ≤ 5 ∧ q 1 < 400 ∧ q 2 < 8 ∧ q 3 < 8 ∧ q 4 < 8 ∧ q 5 < 400 ∧ q 6 < 120) (g : q 0 ≤ 1 → q 2 < P ∧ q 3 < P ∧ q 4 < P ∧ ¬ q 2 = q 3) (f : q 0 = 3 → q 6 < N ∧ F 0 (q 6) ≤ 2) (s4 : q 0 = 4 → q 6 ≤ 1) (s5 : q 0 = 5 → q 2 < P ∧ q 3 < P) : okF P (fnew N q F) N := by
  unfold okF
  simp only [fnew_at]
  exact ⟨b, g, fun e => ⟨(f e).1, by rw [fnew_ne _ _ _ (by have := (f e).1; omega)]; exact (f e).2⟩, s4, s5⟩
theorem papers_new (q : Nat → Nat) (F : FF) (N : Nat) : sp_papers (fnew N q F) (N + 1) = sp_papers F N + (if q 0 ≤ 2 then 1 else 0) := by
  have e : ∀ k, k ≤ N → sp_papers (fnew N q F) k = sp_papers F k := by
    intro k
    induction k with
    | zero => intro _; rfl
    | succ k ih => intro hk; rw [sp_papers, sp_papers, ih (by omega), fnew_ne _ _ _ (by omega)]
  rw [sp_papers, e N (Nat.le_refl N), fnew_at]
def R_gift (P N k : Nat) (m a p y b : Int32) : Option (Nat → Nat) := if (decide (¬ N = 120) && m_day m && b_isPerson (nI P) a && b_isPerson (nI P) p && m_day y && b_isPerson (nI P) b && decide (¬ a = b)) = true then some (row k (nt m) (nt a) (nt b) (nt p) (nt y) 0) else none
def R_meet (N : Nat) (m : Int32) : Option (Nat → Nat) := if (decide (¬ N = 120) && m_day m) = true then some (row 2 (nt m) 0 0 0 0 0) else none
def R_forg (F : FF) (N : Nat) (f : Int32) : Option (Nat → Nat) := if (decide (¬ N = 120) && decide (0 ≤ f ∧ f < nI N ∧ F 0 (nt f) ≤ 2)) = true then some (row 3 0 0 0 0 0 (nt f)) else none
def R_feast (N : Nat) (y : Int32) (b : Bool) : Option (Nat → Nat) := if (decide (¬ N = 120) && m_day y) = true then some (row 4 (nt y) 0 0 0 0 (if b = true then 1 else 0)) else none
def R_seen (P N : Nat) (w p k y : Int32) : Option (Nat → Nat) := if (decide (¬ N = 120) && b_isPerson (nI P) w && b_isPerson (nI P) p && decide (0 ≤ k ∧ k ≤ 9) && m_day y) = true then some (row 5 (nt y) (nt w) (nt p) 0 0 (nt k)) else none
/-! the class -/
theorem kGood_same2 {F : FF} {lv : Nat → Int32} {A : List YL} {n : Nat} {τ τ' : RS} (h : kGood F lv A n τ) (e : ∀ c, c < 8 → τ' c = τ c) (e17 : ∀ k, k < n → τ' 17 k = τ 17 k) : kGood F lv A n τ' := by
  obtain ⟨g1, ⟨o1, o2⟩, l1, l2, l3, l4, l5⟩ := h
  refine ⟨by rw [e 0 (by omega)]; exact g1, ⟨by rw [e 0 (by omega)]; exact o1, by rw [e 3 (by omega)]; exact o2⟩, by rw [e 7 (by omega)]; exact l1, by rw [e 4 (by omega), e 5 (by omega), e 6 (by omega)]; exact l2, by rw [e 1 (by omega), e 2 (by omega)]; exact l3, by rw [e 1 (by omega)]; exact l4, fun i f hi hf => ?_⟩
  rw [e 4 (by omega), e 6 (by omega), e17 f (mlist_in (List.mem_of_getElem? hf)).1]
  exact l5 i f hi hf
theorem kI_told {F F' : FF} {lv lv' : Nat → Int32} {A : List YL} {N N' r kb : Nat} {σ σ' : RS} (h : kI F lv A N r σ kb) (hN : N ≤ N') (ha : agF N F F') (hl : ∀ k, k < N → F 0 k ≤ 1 → lv (F 3 k) = lv' (F 3 k)) (e : ∀ c, c < 8 → σ' (kb + c) = σ (kb + c)) (e9 : ∀ k, k < N → σ' 9 k = σ 9 k) : kI F' lv' A N' r σ' kb := by
  obtain ⟨h0, h1⟩ := h
  have e0 : σ' kb = σ kb := e 0 (by omega)
  refine ⟨fun j hj => by rw [e 7 (by omega)]; exact h0 j hj, ?_⟩
  rw [e0]
  rcases h1 with h1 | ⟨n, q, h2, h3, h4, h5, h6⟩
  · exact Or.inl h1
  · refine Or.inr ⟨n, q, by omega, h3, h4, h5, fun hq => kGood_same2 (kGood_ag (ha.mono h2) (fun k hk => hl k (by omega)) (h6 hq)) (fun c hc => ?_) (fun k hk => ?_)⟩
    · rw [dk_lo _ _ _ (by omega), dk_lo _ _ _ (by omega)]; exact e c (by omega)
    · rw [dk_book _ _ _ (by omega) (by omega), dk_book _ _ _ (by omega) (by omega)]; exact e9 k (by omega)
def dTold (σ : RS) (kind made one thing day other : Int32) : RS := bdp σ (b_told (bd σ) kind made one thing day other)
def cRow (q : Nat → Nat) (k12 k13 k14 k15 k16 k17 : Int32) : Prop := k12 = nI (q 0) ∧ (q 0 ≤ 2 → k13 = nI (q 1)) ∧ (q 0 ≤ 1 → k14 = nI (q 2) ∧ k15 = nI (q 4) ∧ k16 = nI (q 5) ∧ k17 = nI (q 3)) ∧ (q 0 = 3 → k15 = nI (q 6)) ∧ (q 0 = 4 → k15 = nI (q 6) ∧ k16 = nI (q 1)) ∧ (q 0 = 5 → k14 = nI (q 2) ∧ k15 = nI (q 6) ∧ k16 = nI (q 1) ∧ k17 = nI (q 3))
theorem kD_told {d : Nat} (σ : RS) (la sp rl tx : Nat) (kind made one thing day other : Int32) (N : Nat) (hN : N ≤ 120) (hn : ¬ N = 120) (h8 : σ 2 8 = nI N) : Ok (d + 1) M0_tell [.ref 2, .int kind, .int made, .int one, .int thing, .int day, .int other] (WD σ la sp rl tx) (rt (some (.int (nI N))) (WD (dTold σ kind made one thing day other) la sp rl tx)) := by
  have k := k_tell (d := d) (bd σ) kind made one thing day other
  have e8 : (bd σ) 0 8 = nI N := h8
  rw [e8, if_neg (fun z => hn (by have := (nI_leI (a := 120) (b := N) (by omega) (by omega)).mp z; omega)), Int32.add_sub_cancel] at k
  exact Ok.wr k (PD_book σ la sp rl tx) rfl rfl (PD_bput σ _ la sp rl tx)
theorem kD_full {d : Nat} (σ : RS) (la sp rl tx : Nat) (kind made one thing day other : Int32) (h8 : σ 2 8 = nI 120) : Ok (d + 1) M0_tell [.ref 2, .int kind, .int made, .int one, .int thing, .int day, .int other] (WD σ la sp rl tx) (rt (some (.int (-1))) (WD σ la sp rl tx)) := by
  have k := k_tell (d := d) (bd σ) kind made one thing day other
  have e8 : (bd σ) 0 8 = nI 120 := h8
  rw [e8, if_pos (by decide)] at k
  exact Ok.roP k (PD_book σ la sp rl tx) rfl
theorem cI_told {F : FF} {lv : Nat → Int32} {A : List YL} {P N r la : Nat} {σ : RS} (h : cI F lv A P N r la σ) (hb : σ 2 9 = sp_papers F N) (hn : ¬ N = 120) {q : Nat → Nat} (ho : okF P (fnew N q F) N) {kind made one thing day other : Int32} (hc : cRow q kind made one thing day other) : cI (fnew N q F) lv A P (N + 1) r la (dTold σ kind made one thing day other) ∧ (dTold σ kind made one thing day other) 2 9 = sp_papers (fnew N q F) (N + 1) ∧ (dTold σ kind made one thing day other) 0 = σ 0 ∧ (dTold σ kind made one thing day other) 1 = σ 1 := by
  obtain ⟨hl, ⟨hP, hN, hok⟩, h7, h8, hF, hlv, hA, hr, hr2, hk1, hk2⟩ := h
  have hls : la = 10 ∨ la = 18 := hl
  have hag := fnew_ag N q F
  have p : ∀ (c : Nat) (x : Int32), putF 120 (σ c) (σ 2 8) x = upd (σ c) N x := fun c x => by rw [h8, putF_nI _ _ (by omega) (by omega)]
  obtain ⟨T, hT⟩ : ∃ T, T = dTold σ kind made one thing day other := ⟨_, rfl⟩
  have e4 : T 4 = upd (σ 4) N kind := by rw [hT]; exact p 4 kind
  have e5 : T 5 = upd (σ 5) N made := by rw [hT]; exact p 5 made
  have e6 : T 6 = upd (σ 6) N one := by rw [hT]; exact p 6 one
  have e7 : T 7 = upd (σ 7) N thing := by rw [hT]; exact p 7 thing
  have e8 : T 8 = upd (σ 8) N day := by rw [hT]; exact p 8 day
  have e9 : T 9 = upd (σ 9) N other := by rw [hT]; exact p 9 other
  have e3 : T 3 = σ 3 := by rw [hT]; rfl
  have e0 : T 0 = σ 0 := by rw [hT]; rfl
  have e1 : T 1 = σ 1 := by rw [hT]; rfl
  have e27 : T 2 7 = σ 2 7 := by rw [hT]; rfl
  have e28 : T 2 8 = σ 2 8 + 1 := by rw [hT]; rfl
  have e29 : T 2 9 = σ 2 9 + (if kind ≤ 2 then 1 else 0) := by rw [hT]; rfl
  have hi : ∀ c, 10 ≤ c → T c = σ c := fun c c1 => by
    rw [hT]
    exact if_neg (by omega)
  rw [← hT]
  obtain ⟨b0, c0, c1, c2, c3, c4, c5⟩ : q 0 ≤ 5 ∧ cRow q kind made one thing day other := ⟨by have := ho.1.1; rwa [fnew_at] at this, hc⟩
  refine ⟨⟨hl, ⟨hP, by omega, fun k hk => ?_⟩, by rw [e27]; exact h7, by rw [e28, h8, nI_1], fun k hk => ?_, by rw [e3]; exact hlv, claw_dk hA (fun k hk => hi _ (by omega)), by rw [e0]; exact hr, hr2, ?_, ?_⟩, ?_, e0, e1⟩
  · by_cases e : k = N
    · rw [e]; exact ho
    · exact okF_ag hag (by omega) (hok k (by omega))
  · show T 4 k = _ ∧ (_ → T 5 k = _) ∧ (_ → T 6 k = _ ∧ T 7 k = _ ∧ T 8 k = _ ∧ T 9 k = _) ∧ (_ → T 7 k = _) ∧ (_ → T 7 k = _ ∧ T 8 k = _) ∧ (_ → T 6 k = _ ∧ T 7 k = _ ∧ T 8 k = _ ∧ T 9 k = _)
    rw [e4, e5, e6, e7, e8, e9]
    by_cases e : k = N
    · subst e
      simp only [upd_same, fnew_at]
      exact ⟨c0, c1, c2, c3, c4, c5⟩
    · simp only [upd_ne _ _ e, fnew_ne q F _ e]
      exact hF k (by omega)
  · exact kI_told hk1 (by omega) hag (fun _ _ _ => rfl) (fun c hc => hi _ (by omega)) (fun k hk => by rw [e9, upd_ne _ _ (by omega)])
  · exact kI_told hk2 (by omega) hag (fun _ _ _ => rfl) (fun c hc => hi _ (by omega)) (fun k hk => by rw [e9, upd_ne _ _ (by omega)])
  · rw [e29, papers_new, hb]
    have e2 : kind ≤ 2 ↔ q 0 ≤ 2 := by
      rw [c0]
      exact nI_leI (a := q 0) (b := 2) (by omega) (by omega)
    by_cases z : q 0 ≤ 2
    · rw [if_pos z, if_pos (e2.mpr z)]
    · rw [if_neg z, if_neg (fun y => z (e2.mp y))]
/-- what a fact told leaves -/
def tdQ (F : FF) (lv : Nat → Int32) (A : List YL) (P N r la : Nat) (σ : RS) (sp rl tx : Nat) : Option (Nat → Nat) → Option Value → MW → Prop
  | none => fun v w => v = some (.int (-1)) ∧ w = WD σ la sp rl tx
  | some q => fun v w => v = some (.int (nI N)) ∧ okF P (fnew N q F) N ∧ ¬ N = 120 ∧ ∃ σ', w = WD σ' la sp rl tx ∧ cI (fnew N q F) lv A P (N + 1) r la σ' ∧ σ' 2 9 = sp_papers (fnew N q F) (N + 1) ∧ σ' 0 = σ 0 ∧ σ' 1 = σ 1
theorem tdQ_told {F : FF} {lv : Nat → Int32} {A : List YL} {P N r la : Nat} {σ : RS} (sp rl tx : Nat) (h : cI F lv A P N r la σ) (hb : σ 2 9 = sp_papers F N) (hn : ¬ N = 120) {q : Nat → Nat} (ho : okF P (fnew N q F) N) {kind made one thing day other : Int32} (hc : cRow q kind made one thing day other) : tdQ F lv A P N r la σ sp rl tx (some q) (some (.int (nI N))) (WD (dTold σ kind made one thing day other) la sp rl tx) := ⟨rfl, ho, hn, _, rfl, cI_told h hb hn ho hc⟩
theorem gift_ok {P N k : Nat} (hk : k ≤ 1) (hP : P ≤ 8) (F : FF) {m a p y b : Int32} (hg : (decide (¬ N = 120) && m_day m && b_isPerson (nI P) a && b_isPerson (nI P) p && m_day y && b_isPerson (nI P) b && decide (¬ a = b)) = true) : okF P (fnew N (row k (nt m) (nt a) (nt b) (nt p) (nt y) 0) F) N ∧ cRow (row k (nt m) (nt a) (nt b) (nt p) (nt y) 0) (nI k) m a p y b := by
  simp only [Bool.and_eq_true, decide_eq_true_eq] at hg
  obtain ⟨⟨⟨⟨⟨⟨hn, g1⟩, g2⟩, g3⟩, g4⟩, g5⟩, g6⟩ := hg
  obtain ⟨m', m1, rfl⟩ := isD_of g1
  obtain ⟨a', a1, rfl⟩ := isP_of hP g2
  obtain ⟨p', p1, rfl⟩ := isP_of hP g3
  obtain ⟨y', y1, rfl⟩ := isD_of g4
  obtain ⟨b', b1, rfl⟩ := isP_of hP g5
  have hab : ¬ a' = b' := fun z => g6 (by rw [z])
  simp only [nt_nI (show m' < 2 ^ 31 by omega), nt_nI (show a' < 2 ^ 31 by omega), nt_nI (show b' < 2 ^ 31 by omega), nt_nI (show p' < 2 ^ 31 by omega), nt_nI (show y' < 2 ^ 31 by omega)]
  refine ⟨okF_new ⟨by show k ≤ 5; omega, m1, by show a' < 8; omega, by show b' < 8; omega, by show p' < 8; omega, y1, by show 0 < 120; omega⟩ (fun _ => ⟨a1, b1, p1, hab⟩) (fun (z : k = 3) => by omega) (fun (z : k = 4) => by omega) (fun (z : k = 5) => by omega), rfl, fun _ => rfl, fun _ => ⟨rfl, rfl, rfl, rfl⟩, fun (z : k = 3) => by omega, fun (z : k = 4) => by omega, fun (z : k = 5) => by omega⟩
theorem d_tellGift {d : Nat} {F : FF} {lv : Nat → Int32} {A : List YL} {P N r la : Nat} {σ : RS} (sp rl tx : Nat) (h : cI F lv A P N r la σ) (hb : σ 2 9 = sp_papers F N) (k : Nat) (hk : k ≤ 1) (m a p y b : Int32) : Ok (d + 2) M6_tellGift [.ref 0, .int (nI k), .int m, .int a, .int p, .int y, .int b] (WD σ la sp rl tx) (tdQ F lv A P N r la σ sp rl tx (R_gift P N k m a p y b)) := by
  have hP := h.2.1.1
  have hN := h.2.1.2.1
  have h7 : σ 2 7 = nI P := h.2.2.1
  have h8 : σ 2 8 = nI N := h.2.2.2.1
  by_cases hg : (decide (¬ N = 120) && m_day m && b_isPerson (nI P) a && b_isPerson (nI P) p && m_day y && b_isPerson (nI P) b && decide (¬ a = b)) = true
  · have hR : R_gift P N k m a p y b = some _ := if_pos hg
    rw [hR]
    obtain ⟨ho, hc⟩ := gift_ok hk hP F hg
    simp only [Bool.and_eq_true, decide_eq_true_eq] at hg
    obtain ⟨⟨⟨⟨⟨⟨hn, g1⟩, g2⟩, g3⟩, g4⟩, g5⟩, g6⟩ := hg
    rw [← h7] at g2 g3 g5
    have kT := fun made one thing day other => kD_told (d := d) σ la sp rl tx (nI k) made one thing day other N hN hn h8
    refine Ok.of (ls := [some _, some _, some _, some _, some _, some _, some _]) (by decide +kernel) (Nat.le_of_ble_eq_true rfl) rfl ?_
    refine ev_iload_n (pc' := 1) dX6_tellGift_0 rfl rfl ?_
    refine ev_cSi1 (pc' := 4) cl_6_88 (kD_isDay _ _) dX6_tellGift_1 rfl rfl ?_
    refine ev_if_eq (tgt := 18) (pc' := 7) dX6_tellGift_4 (by decide) rfl (fun h_4 => ?_) (fun h_4 => ?_)
    · exact absurd h_4 (by rw [g1]; decide) --
    · refine ev_aload_n (pc' := 8) dX6_tellGift_7 rfl rfl ?_
      refine ev_iload (pc' := 10) dX6_tellGift_8 rfl rfl ?_
      refine ev_iload (pc' := 12) dX6_tellGift_10 rfl rfl ?_
      refine ev_cVi2 (pc' := 15) cl_6_115 (kD_isLeaf _ _ _ _ _ _ _) dX6_tellGift_12 rfl rfl rfl rfl ?_
      refine ev_if_ne (tgt := 20) (pc' := 18) dX6_tellGift_15 (by decide) rfl (fun h_15 => ?_) (fun h_15 => ?_)
      · refine ev_aload_n (pc' := 21) dX6_tellGift_20 rfl rfl ?_
        refine ev_getf (pc' := 24) fl_6_12 dX6_tellGift_21 rfl rfl rfl ?_
        refine ev_iload_n (pc' := 25) dX6_tellGift_24 rfl rfl ?_
        refine ev_cVi1 (pc' := 28) cl_6_98 (kD_hasPerson _ _ _ _ _ _) dX6_tellGift_25 rfl rfl rfl rfl ?_
        refine ev_if_eq (tgt := 49) (pc' := 31) dX6_tellGift_28 (by decide) rfl (fun h_28 => ?_) (fun h_28 => ?_)
        · exact absurd h_28 (by rw [g2]; decide) --
        · refine ev_aload_n (pc' := 32) dX6_tellGift_31 rfl rfl ?_
          refine ev_getf (pc' := 35) fl_6_12 dX6_tellGift_32 rfl rfl rfl ?_
          refine ev_iload (pc' := 37) dX6_tellGift_35 rfl rfl ?_
          refine ev_cVi1 (pc' := 40) cl_6_98 (kD_hasPerson _ _ _ _ _ _) dX6_tellGift_37 rfl rfl rfl rfl ?_
          refine ev_if_eq (tgt := 49) (pc' := 43) dX6_tellGift_40 (by decide) rfl (fun h_40 => ?_) (fun h_40 => ?_)
          · exact absurd h_40 (by rw [g5]; decide) --
          · refine ev_iload_n (pc' := 44) dX6_tellGift_43 rfl rfl ?_
            refine ev_iload (pc' := 46) dX6_tellGift_44 rfl rfl ?_
            refine ev_icmp_ne (tgt := 51) (pc' := 49) dX6_tellGift_46 (by decide) rfl (fun h_46 => ?_) (fun h_46 => ?_)
            · refine ev_aload_n (pc' := 52) dX6_tellGift_51 rfl rfl ?_
              refine ev_getf (pc' := 55) fl_6_12 dX6_tellGift_52 rfl rfl rfl ?_
              refine ev_iload_n (pc' := 56) dX6_tellGift_55 rfl rfl ?_
              refine ev_iload_n (pc' := 57) dX6_tellGift_56 rfl rfl ?_
              refine ev_iload_n (pc' := 58) dX6_tellGift_57 rfl rfl ?_
              refine ev_iload (pc' := 60) dX6_tellGift_58 rfl rfl ?_
              refine ev_iload (pc' := 62) dX6_tellGift_60 rfl rfl ?_
              refine ev_iload (pc' := 64) dX6_tellGift_62 rfl rfl ?_
              refine ev_cVi6 (pc' := 67) cl_6_92 (kT _ _ _ _ _) dX6_tellGift_64 rfl rfl rfl rfl ?_
              refine ev_ireturn rfl dX6_tellGift_67 ?_
              exact tdQ_told sp rl tx h hb hn ho hc
            · exact absurd h_46 g6 --
      · exact absurd h_15 (by rw [g3, g4]; decide) --
  · have hR : R_gift P N k m a p y b = none := if_neg hg
    rw [hR]
    by_cases hn : N = 120
    · have kT := fun made one thing day other => kD_full (d := d) σ la sp rl tx (nI k) made one thing day other (by rw [h8, hn])
      refine Ok.of (ls := [some _, some _, some _, some _, some _, some _, some _]) (by decide +kernel) (Nat.le_of_ble_eq_true rfl) rfl ?_
      refine ev_iload_n (pc' := 1) dX6_tellGift_0 rfl rfl ?_
      refine ev_cSi1 (pc' := 4) cl_6_88 (kD_isDay _ _) dX6_tellGift_1 rfl rfl ?_
      refine ev_if_eq (tgt := 18) (pc' := 7) dX6_tellGift_4 (by decide) rfl (fun h_4 => ?_) (fun h_4 => ?_)
      · refine ev_iconst (pc' := 19) (v := -1) dX6_tellGift_18 rfl (by decide) ?_
        refine ev_ireturn rfl dX6_tellGift_19 ?_
        exact ⟨rfl, rfl⟩
      · refine ev_aload_n (pc' := 8) dX6_tellGift_7 rfl rfl ?_
        refine ev_iload (pc' := 10) dX6_tellGift_8 rfl rfl ?_
        refine ev_iload (pc' := 12) dX6_tellGift_10 rfl rfl ?_
        refine ev_cVi2 (pc' := 15) cl_6_115 (kD_isLeaf _ _ _ _ _ _ _) dX6_tellGift_12 rfl rfl rfl rfl ?_
        refine ev_if_ne (tgt := 20) (pc' := 18) dX6_tellGift_15 (by decide) rfl (fun h_15 => ?_) (fun h_15 => ?_)
        · refine ev_aload_n (pc' := 21) dX6_tellGift_20 rfl rfl ?_
          refine ev_getf (pc' := 24) fl_6_12 dX6_tellGift_21 rfl rfl rfl ?_
          refine ev_iload_n (pc' := 25) dX6_tellGift_24 rfl rfl ?_
          refine ev_cVi1 (pc' := 28) cl_6_98 (kD_hasPerson _ _ _ _ _ _) dX6_tellGift_25 rfl rfl rfl rfl ?_
          refine ev_if_eq (tgt := 49) (pc' := 31) dX6_tellGift_28 (by decide) rfl (fun h_28 => ?_) (fun h_28 => ?_)
          · refine ev_iconst (pc' := 50) (v := -1) dX6_tellGift_49 rfl (by decide) ?_
            refine ev_ireturn rfl dX6_tellGift_50 ?_
            exact ⟨rfl, rfl⟩
          · refine ev_aload_n (pc' := 32) dX6_tellGift_31 rfl rfl ?_
            refine ev_getf (pc' := 35) fl_6_12 dX6_tellGift_32 rfl rfl rfl ?_
            refine ev_iload (pc' := 37) dX6_tellGift_35 rfl rfl ?_
            refine ev_cVi1 (pc' := 40) cl_6_98 (kD_hasPerson _ _ _ _ _ _) dX6_tellGift_37 rfl rfl rfl rfl ?_
            refine ev_if_eq (tgt := 49) (pc' := 43) dX6_tellGift_40 (by decide) rfl (fun h_40 => ?_) (fun h_40 => ?_)
            · refine ev_iconst (pc' := 50) (v := -1) dX6_tellGift_49 rfl (by decide) ?_
              refine ev_ireturn rfl dX6_tellGift_50 ?_
              exact ⟨rfl, rfl⟩
            · refine ev_iload_n (pc' := 44) dX6_tellGift_43 rfl rfl ?_
              refine ev_iload (pc' := 46) dX6_tellGift_44 rfl rfl ?_
              refine ev_icmp_ne (tgt := 51) (pc' := 49) dX6_tellGift_46 (by decide) rfl (fun h_46 => ?_) (fun h_46 => ?_)
              · refine ev_aload_n (pc' := 52) dX6_tellGift_51 rfl rfl ?_
                refine ev_getf (pc' := 55) fl_6_12 dX6_tellGift_52 rfl rfl rfl ?_
                refine ev_iload_n (pc' := 56) dX6_tellGift_55 rfl rfl ?_
                refine ev_iload_n (pc' := 57) dX6_tellGift_56 rfl rfl ?_
                refine ev_iload_n (pc' := 58) dX6_tellGift_57 rfl rfl ?_
                refine ev_iload (pc' := 60) dX6_tellGift_58 rfl rfl ?_
                refine ev_iload (pc' := 62) dX6_tellGift_60 rfl rfl ?_
                refine ev_iload (pc' := 64) dX6_tellGift_62 rfl rfl ?_
                refine ev_cVi6 (pc' := 67) cl_6_92 (kT _ _ _ _ _) dX6_tellGift_64 rfl rfl rfl rfl ?_
                refine ev_ireturn rfl dX6_tellGift_67 ?_
                exact ⟨rfl, rfl⟩
              · refine ev_iconst (pc' := 50) (v := -1) dX6_tellGift_49 rfl (by decide) ?_
                refine ev_ireturn rfl dX6_tellGift_50 ?_
                exact ⟨rfl, rfl⟩
        · refine ev_iconst (pc' := 19) (v := -1) dX6_tellGift_18 rfl (by decide) ?_
          refine ev_ireturn rfl dX6_tellGift_19 ?_
          exact ⟨rfl, rfl⟩
    · skip
      refine Ok.of (ls := [some _, some _, some _, some _, some _, some _, some _]) (by decide +kernel) (Nat.le_of_ble_eq_true rfl) rfl ?_
      refine ev_iload_n (pc' := 1) dX6_tellGift_0 rfl rfl ?_
      refine ev_cSi1 (pc' := 4) cl_6_88 (kD_isDay _ _) dX6_tellGift_1 rfl rfl ?_
      refine ev_if_eq (tgt := 18) (pc' := 7) dX6_tellGift_4 (by decide) rfl (fun h_4 => ?_) (fun h_4 => ?_)
      · refine ev_iconst (pc' := 19) (v := -1) dX6_tellGift_18 rfl (by decide) ?_
        refine ev_ireturn rfl dX6_tellGift_19 ?_
        exact ⟨rfl, rfl⟩
      · have q1 := bI_1' h_4
        refine ev_aload_n (pc' := 8) dX6_tellGift_7 rfl rfl ?_
        refine ev_iload (pc' := 10) dX6_tellGift_8 rfl rfl ?_
        refine ev_iload (pc' := 12) dX6_tellGift_10 rfl rfl ?_
        refine ev_cVi2 (pc' := 15) cl_6_115 (kD_isLeaf _ _ _ _ _ _ _) dX6_tellGift_12 rfl rfl rfl rfl ?_
        refine ev_if_ne (tgt := 20) (pc' := 18) dX6_tellGift_15 (by decide) rfl (fun h_15 => ?_) (fun h_15 => ?_)
        · obtain ⟨q2, q3⟩ := Bool.and_eq_true_iff.mp (bI_1' h_15)
          refine ev_aload_n (pc' := 21) dX6_tellGift_20 rfl rfl ?_
          refine ev_getf (pc' := 24) fl_6_12 dX6_tellGift_21 rfl rfl rfl ?_
          refine ev_iload_n (pc' := 25) dX6_tellGift_24 rfl rfl ?_
          refine ev_cVi1 (pc' := 28) cl_6_98 (kD_hasPerson _ _ _ _ _ _) dX6_tellGift_25 rfl rfl rfl rfl ?_
          refine ev_if_eq (tgt := 49) (pc' := 31) dX6_tellGift_28 (by decide) rfl (fun h_28 => ?_) (fun h_28 => ?_)
          · refine ev_iconst (pc' := 50) (v := -1) dX6_tellGift_49 rfl (by decide) ?_
            refine ev_ireturn rfl dX6_tellGift_50 ?_
            exact ⟨rfl, rfl⟩
          · have q4 := bI_1' h_28
            refine ev_aload_n (pc' := 32) dX6_tellGift_31 rfl rfl ?_
            refine ev_getf (pc' := 35) fl_6_12 dX6_tellGift_32 rfl rfl rfl ?_
            refine ev_iload (pc' := 37) dX6_tellGift_35 rfl rfl ?_
            refine ev_cVi1 (pc' := 40) cl_6_98 (kD_hasPerson _ _ _ _ _ _) dX6_tellGift_37 rfl rfl rfl rfl ?_
            refine ev_if_eq (tgt := 49) (pc' := 43) dX6_tellGift_40 (by decide) rfl (fun h_40 => ?_) (fun h_40 => ?_)
            · refine ev_iconst (pc' := 50) (v := -1) dX6_tellGift_49 rfl (by decide) ?_
              refine ev_ireturn rfl dX6_tellGift_50 ?_
              exact ⟨rfl, rfl⟩
            · have q5 := bI_1' h_40
              refine ev_iload_n (pc' := 44) dX6_tellGift_43 rfl rfl ?_
              refine ev_iload (pc' := 46) dX6_tellGift_44 rfl rfl ?_
              refine ev_icmp_ne (tgt := 51) (pc' := 49) dX6_tellGift_46 (by decide) rfl (fun h_46 => ?_) (fun h_46 => ?_)
              · exact absurd (by rw [← h7, q1, q2, q3, q4, q5, decide_eq_true hn, decide_eq_true h_46]; rfl) hg
              · refine ev_iconst (pc' := 50) (v := -1) dX6_tellGift_49 rfl (by decide) ?_
                refine ev_ireturn rfl dX6_tellGift_50 ?_
                exact ⟨rfl, rfl⟩
        · refine ev_iconst (pc' := 19) (v := -1) dX6_tellGift_18 rfl (by decide) ?_
          refine ev_ireturn rfl dX6_tellGift_19 ?_
          exact ⟨rfl, rfl⟩
theorem tdQ_v {F : FF} {lv : Nat → Int32} {A : List YL} {P N r la sp rl tx : Nat} {σ : RS} {R : Option (Nat → Nat)} {v : Option Value} {w : MW} (h : tdQ F lv A P N r la σ sp rl tx R v w) : ∃ x, v = some (.int x) := by
  cases R with
  | none => exact ⟨_, h.1⟩
  | some q => exact ⟨_, h.1⟩
theorem d_loan {d : Nat} {F : FF} {lv : Nat → Int32} {A : List YL} {P N r la : Nat} {σ : RS} (sp rl tx : Nat) (h : cI F lv A P N r la σ) (hb : σ 2 9 = sp_papers F N) (m a p y b : Int32) : Ok (d + 3) M6_loan [.ref 0, .int m, .int a, .int p, .int y, .int b] (WD σ la sp rl tx) (tdQ F lv A P N r la σ sp rl tx (R_gift P N 0 m a p y b)) := by
  have kT := fun m a p y b => d_tellGift (d := d) sp rl tx h hb 0 (by omega) m a p y b
  refine Ok.of (ls := [some _, some _, some _, some _, some _, some _]) (by decide +kernel) (Nat.le_of_ble_eq_true rfl) rfl ?_
  refine ev_aload_n (pc' := 1) dX6_loan_0 rfl rfl ?_
  refine ev_iconst (pc' := 2) (v := 0) dX6_loan_1 rfl (by decide) ?_
  refine ev_iload_n (pc' := 3) dX6_loan_2 rfl rfl ?_
  refine ev_iload_n (pc' := 4) dX6_loan_3 rfl rfl ?_
  refine ev_iload_n (pc' := 5) dX6_loan_4 rfl rfl ?_
  refine ev_iload (pc' := 7) dX6_loan_5 rfl rfl ?_
  refine ev_iload (pc' := 9) dX6_loan_7 rfl rfl ?_
  refine ev_cVr6 (pc' := 12) cl_6_84 (kT _ _ _ _ _) dX6_loan_9 rfl rfl rfl rfl ?_
  rintro v w1 hq -
  obtain ⟨x1, rfl⟩ := tdQ_v hq
  refine ev_ireturn rfl dX6_loan_12 ?_
  exact hq
theorem d_pays {d : Nat} {F : FF} {lv : Nat → Int32} {A : List YL} {P N r la : Nat} {σ : RS} (sp rl tx : Nat) (h : cI F lv A P N r la σ) (hb : σ 2 9 = sp_papers F N) (m a p y b : Int32) : Ok (d + 3) M6_pays [.ref 0, .int m, .int a, .int p, .int y, .int b] (WD σ la sp rl tx) (tdQ F lv A P N r la σ sp rl tx (R_gift P N 1 m a p y b)) := by
  have kT := fun m a p y b => d_tellGift (d := d) sp rl tx h hb 1 (by omega) m a p y b
  refine Ok.of (ls := [some _, some _, some _, some _, some _, some _]) (by decide +kernel) (Nat.le_of_ble_eq_true rfl) rfl ?_
  refine ev_aload_n (pc' := 1) dX6_pays_0 rfl rfl ?_
  refine ev_iconst (pc' := 2) (v := 1) dX6_pays_1 rfl (by decide) ?_
  refine ev_iload_n (pc' := 3) dX6_pays_2 rfl rfl ?_
  refine ev_iload_n (pc' := 4) dX6_pays_3 rfl rfl ?_
  refine ev_iload_n (pc' := 5) dX6_pays_4 rfl rfl ?_
  refine ev_iload (pc' := 7) dX6_pays_5 rfl rfl ?_
  refine ev_iload (pc' := 9) dX6_pays_7 rfl rfl ?_
  refine ev_cVr6 (pc' := 12) cl_6_84 (kT _ _ _ _ _) dX6_pays_9 rfl rfl rfl rfl ?_
  rintro v w1 hq -
  obtain ⟨x1, rfl⟩ := tdQ_v hq
  refine ev_ireturn rfl dX6_pays_12 ?_
  exact hq
theorem paper_fact {F : FF} {lv : Nat → Int32} {A : List YL} {P N r la : Nat} {σ : RS} (h : cI F lv A P N r la σ) (f : Int32) : b_isPaper (bd σ) f = true ↔ (0 ≤ f ∧ f < nI N ∧ F 0 (nt f) ≤ 2) := by
  have hN := h.2.1.2.1
  have h8 : (bd σ) 0 8 = nI N := h.2.2.2.1
  by_cases z : 0 ≤ f ∧ f < nI N
  · obtain ⟨z1, z2⟩ := z
    obtain ⟨k, k1, rfl⟩ := nI_of (Int32.not_lt.mpr z1)
    have hk : k < N := (nI_ltI k1 (by omega)).mp z2
    rw [h.paper hk, nt_nI k1, decide_eq_true_eq]
    exact ⟨fun w => ⟨z1, z2, w⟩, fun w => w.2.2⟩
  · constructor
    · intro w
      unfold b_isPaper b_kind at w
      rw [h8, if_neg z] at w
      exact absurd w (by decide)
    · exact fun w => absurd ⟨w.1, w.2.1⟩ z
theorem meet_ok {P N : Nat} (F : FF) {m : Int32} (hg : (decide (¬ N = 120) && m_day m) = true) : okF P (fnew N (row 2 (nt m) 0 0 0 0 0) F) N ∧ cRow (row 2 (nt m) 0 0 0 0 0) 2 m 0 0 0 0 := by
  simp only [Bool.and_eq_true, decide_eq_true_eq] at hg
  obtain ⟨hn, g1⟩ := hg
  obtain ⟨m', m1, rfl⟩ := isD_of g1
  simp only [nt_nI (show m' < 2 ^ 31 by omega)]
  exact ⟨okF_new ⟨by show 2 ≤ 5; omega, m1, by show 0 < 8; omega, by show 0 < 8; omega, by show 0 < 8; omega, by show 0 < 400; omega, by show 0 < 120; omega⟩ (fun (z : 2 ≤ 1) => by omega) (fun (z : 2 = 3) => by omega) (fun (z : 2 = 4) => by omega) (fun (z : 2 = 5) => by omega), rfl, fun _ => rfl, fun (z : 2 ≤ 1) => by omega, fun (z : 2 = 3) => by omega, fun (z : 2 = 4) => by omega, fun (z : 2 = 5) => by omega⟩
theorem forg_ok {P N : Nat} (hN : N ≤ 120) (F : FF) {f : Int32} (hg : (decide (¬ N = 120) && decide (0 ≤ f ∧ f < nI N ∧ F 0 (nt f) ≤ 2)) = true) : okF P (fnew N (row 3 0 0 0 0 0 (nt f)) F) N ∧ cRow (row 3 0 0 0 0 0 (nt f)) 3 0 0 f 0 0 := by
  simp only [Bool.and_eq_true, decide_eq_true_eq] at hg
  obtain ⟨hn, g0, g1, g2⟩ := hg
  obtain ⟨k, k1, rfl⟩ := nI_of (Int32.not_lt.mpr g0)
  have hk : k < N := (nI_ltI k1 (by omega)).mp g1
  rw [nt_nI k1] at g2
  simp only [nt_nI k1]
  exact ⟨okF_new ⟨by show 3 ≤ 5; omega, by show 0 < 400; omega, by show 0 < 8; omega, by show 0 < 8; omega, by show 0 < 8; omega, by show 0 < 400; omega, by show k < 120; omega⟩ (fun (z : 3 ≤ 1) => by omega) (fun _ => ⟨hk, g2⟩) (fun (z : 3 = 4) => by omega) (fun (z : 3 = 5) => by omega), rfl, fun (z : 3 ≤ 2) => by omega, fun (z : 3 ≤ 1) => by omega, fun _ => rfl, fun (z : 3 = 4) => by omega, fun (z : 3 = 5) => by omega⟩
theorem feast_ok {P N : Nat} (F : FF) {y : Int32} (b : Bool) (hg : (decide (¬ N = 120) && m_day y) = true) : okF P (fnew N (row 4 (nt y) 0 0 0 0 (if b = true then 1 else 0)) F) N ∧ cRow (row 4 (nt y) 0 0 0 0 (if b = true then 1 else 0)) 4 0 0 (bI b) y 0 := by
  simp only [Bool.and_eq_true, decide_eq_true_eq] at hg
  obtain ⟨hn, g1⟩ := hg
  obtain ⟨y', y1, rfl⟩ := isD_of g1
  have hb : (if b = true then 1 else 0) ≤ 1 := by split <;> omega
  have hb2 : bI b = nI (if b = true then 1 else 0) := by cases b <;> rfl
  simp only [nt_nI (show y' < 2 ^ 31 by omega)]
  exact ⟨okF_new ⟨by show 4 ≤ 5; omega, y1, by show 0 < 8; omega, by show 0 < 8; omega, by show 0 < 8; omega, by show 0 < 400; omega, Nat.lt_of_le_of_lt hb (by omega)⟩ (fun (z : 4 ≤ 1) => by omega) (fun (z : 4 = 3) => by omega) (fun _ => hb) (fun (z : 4 = 5) => by omega), rfl, fun (z : 4 ≤ 2) => by omega, fun (z : 4 ≤ 1) => by omega, fun (z : 4 = 3) => by omega, fun _ => ⟨hb2, rfl⟩, fun (z : 4 = 5) => by omega⟩
theorem seen_ok {P N : Nat} (hP : P ≤ 8) (F : FF) {w p k y : Int32} (hg : (decide (¬ N = 120) && b_isPerson (nI P) w && b_isPerson (nI P) p && decide (0 ≤ k ∧ k ≤ 9) && m_day y) = true) : okF P (fnew N (row 5 (nt y) (nt w) (nt p) 0 0 (nt k)) F) N ∧ cRow (row 5 (nt y) (nt w) (nt p) 0 0 (nt k)) 5 0 w k y p := by
  simp only [Bool.and_eq_true, decide_eq_true_eq] at hg
  obtain ⟨⟨⟨⟨hn, g1⟩, g2⟩, g3⟩, g4⟩ := hg
  obtain ⟨w', w1, rfl⟩ := isP_of hP g1
  obtain ⟨p', p1, rfl⟩ := isP_of hP g2
  obtain ⟨y', y1, rfl⟩ := isD_of g4
  obtain ⟨k', k1, rfl⟩ := nI_of (Int32.not_lt.mpr g3.1)
  have hk : k' ≤ 9 := (nI_leI (b := 9) k1 (by omega)).mp g3.2
  simp only [nt_nI (show w' < 2 ^ 31 by omega), nt_nI (show p' < 2 ^ 31 by omega), nt_nI (show y' < 2 ^ 31 by omega), nt_nI k1]
  exact ⟨okF_new ⟨by show 5 ≤ 5; omega, y1, by show w' < 8; omega, by show p' < 8; omega, by show 0 < 8; omega, by show 0 < 400; omega, by show k' < 120; omega⟩ (fun (z : 5 ≤ 1) => by omega) (fun (z : 5 = 3) => by omega) (fun (z : 5 = 4) => by omega) (fun _ => ⟨w1, p1⟩), rfl, fun (z : 5 ≤ 2) => by omega, fun (z : 5 ≤ 1) => by omega, fun (z : 5 = 3) => by omega, fun (z : 5 = 4) => by omega, fun _ => ⟨rfl, rfl, rfl, rfl⟩⟩
theorem d_meeting {d : Nat} {F : FF} {lv : Nat → Int32} {A : List YL} {P N r la : Nat} {σ : RS} (sp rl tx : Nat) (h : cI F lv A P N r la σ) (hb : σ 2 9 = sp_papers F N) (m : Int32) : Ok (d + 3) M6_meeting [.ref 0, .int m] (WD σ la sp rl tx) (tdQ F lv A P N r la σ sp rl tx (R_meet N m)) := by
  have hP := h.2.1.1
  have hN := h.2.1.2.1
  have h7 : σ 2 7 = nI P := h.2.2.1
  have h8 : σ 2 8 = nI N := h.2.2.2.1
  by_cases hg : (decide (¬ N = 120) && m_day m) = true
  · have hR : R_meet N m = some _ := if_pos hg
    rw [hR]
    obtain ⟨ho, hc⟩ := meet_ok (P := P) F hg
    simp only [Bool.and_eq_true, decide_eq_true_eq] at hg
    obtain ⟨hn, g1⟩ := hg
    have kT := fun kind made one thing day other => kD_told (d := d + 1) σ la sp rl tx kind made one thing day other N hN hn h8
    refine Ok.of (ls := [some _, some _]) (by decide +kernel) (Nat.le_of_ble_eq_true rfl) rfl ?_
    refine ev_iload_n (pc' := 1) dX6_meeting_0 rfl rfl ?_
    refine ev_cSi1 (pc' := 4) cl_6_88 (kD_isDay _ _) dX6_meeting_1 rfl rfl ?_
    refine ev_if_eq (tgt := 23) (pc' := 7) dX6_meeting_4 (by decide) rfl (fun h_4 => ?_) (fun h_4 => ?_)
    · exact absurd h_4 (by rw [g1]; decide) --
    · refine ev_aload_n (pc' := 8) dX6_meeting_7 rfl rfl ?_
      refine ev_getf (pc' := 11) fl_6_12 dX6_meeting_8 rfl rfl rfl ?_
      refine ev_iconst (pc' := 12) (v := 2) dX6_meeting_11 rfl (by decide) ?_
      refine ev_iload_n (pc' := 13) dX6_meeting_12 rfl rfl ?_
      refine ev_iconst (pc' := 14) (v := 0) dX6_meeting_13 rfl (by decide) ?_
      refine ev_iconst (pc' := 15) (v := 0) dX6_meeting_14 rfl (by decide) ?_
      refine ev_iconst (pc' := 16) (v := 0) dX6_meeting_15 rfl (by decide) ?_
      refine ev_iconst (pc' := 17) (v := 0) dX6_meeting_16 rfl (by decide) ?_
      refine ev_cVi6 (pc' := 20) cl_6_92 (kT _ _ _ _ _ _) dX6_meeting_17 rfl rfl rfl rfl ?_
      refine ev_goto (tgt := 24) dX6_meeting_20 (by decide) ?_
      refine ev_ireturn rfl dX6_meeting_24 ?_
      exact tdQ_told sp rl tx h hb hn ho hc
  · have hR : R_meet N m = none := if_neg hg
    rw [hR]
    by_cases hn : N = 120
    · have kT := fun kind made one thing day other => kD_full (d := d + 1) σ la sp rl tx kind made one thing day other (by rw [h8, hn])
      refine Ok.of (ls := [some _, some _]) (by decide +kernel) (Nat.le_of_ble_eq_true rfl) rfl ?_
      refine ev_iload_n (pc' := 1) dX6_meeting_0 rfl rfl ?_
      refine ev_cSi1 (pc' := 4) cl_6_88 (kD_isDay _ _) dX6_meeting_1 rfl rfl ?_
      refine ev_if_eq (tgt := 23) (pc' := 7) dX6_meeting_4 (by decide) rfl (fun h_4 => ?_) (fun h_4 => ?_)
      · refine ev_iconst (pc' := 24) (v := -1) dX6_meeting_23 rfl (by decide) ?_
        refine ev_ireturn rfl dX6_meeting_24 ?_
        exact ⟨rfl, rfl⟩
      · refine ev_aload_n (pc' := 8) dX6_meeting_7 rfl rfl ?_
        refine ev_getf (pc' := 11) fl_6_12 dX6_meeting_8 rfl rfl rfl ?_
        refine ev_iconst (pc' := 12) (v := 2) dX6_meeting_11 rfl (by decide) ?_
        refine ev_iload_n (pc' := 13) dX6_meeting_12 rfl rfl ?_
        refine ev_iconst (pc' := 14) (v := 0) dX6_meeting_13 rfl (by decide) ?_
        refine ev_iconst (pc' := 15) (v := 0) dX6_meeting_14 rfl (by decide) ?_
        refine ev_iconst (pc' := 16) (v := 0) dX6_meeting_15 rfl (by decide) ?_
        refine ev_iconst (pc' := 17) (v := 0) dX6_meeting_16 rfl (by decide) ?_
        refine ev_cVi6 (pc' := 20) cl_6_92 (kT _ _ _ _ _ _) dX6_meeting_17 rfl rfl rfl rfl ?_
        refine ev_goto (tgt := 24) dX6_meeting_20 (by decide) ?_
        refine ev_ireturn rfl dX6_meeting_24 ?_
        exact ⟨rfl, rfl⟩
    · skip
      refine Ok.of (ls := [some _, some _]) (by decide +kernel) (Nat.le_of_ble_eq_true rfl) rfl ?_
      refine ev_iload_n (pc' := 1) dX6_meeting_0 rfl rfl ?_
      refine ev_cSi1 (pc' := 4) cl_6_88 (kD_isDay _ _) dX6_meeting_1 rfl rfl ?_
      refine ev_if_eq (tgt := 23) (pc' := 7) dX6_meeting_4 (by decide) rfl (fun h_4 => ?_) (fun h_4 => ?_)
      · refine ev_iconst (pc' := 24) (v := -1) dX6_meeting_23 rfl (by decide) ?_
        refine ev_ireturn rfl dX6_meeting_24 ?_
        exact ⟨rfl, rfl⟩
      · have q1 := bI_1' h_4
        exact absurd (by rw [q1, decide_eq_true hn]; rfl) hg
theorem d_forged {d : Nat} {F : FF} {lv : Nat → Int32} {A : List YL} {P N r la : Nat} {σ : RS} (sp rl tx : Nat) (h : cI F lv A P N r la σ) (hb : σ 2 9 = sp_papers F N) (f : Int32) : Ok (d + 3) M6_forged [.ref 0, .int f] (WD σ la sp rl tx) (tdQ F lv A P N r la σ sp rl tx (R_forg F N f)) := by
  have hP := h.2.1.1
  have hN := h.2.1.2.1
  have h7 : σ 2 7 = nI P := h.2.2.1
  have h8 : σ 2 8 = nI N := h.2.2.2.1
  by_cases hg : (decide (¬ N = 120) && decide (0 ≤ f ∧ f < nI N ∧ F 0 (nt f) ≤ 2)) = true
  · have hR : R_forg F N f = some _ := if_pos hg
    rw [hR]
    obtain ⟨ho, hc⟩ := forg_ok (P := P) hN F hg
    simp only [Bool.and_eq_true, decide_eq_true_eq] at hg
    obtain ⟨hn, g1⟩ := hg
    have g1 := (paper_fact h f).mpr g1
    have kT := fun kind made one thing day other => kD_told (d := d + 1) σ la sp rl tx kind made one thing day other N hN hn h8
    refine Ok.of (ls := [some _, some _]) (by decide +kernel) (Nat.le_of_ble_eq_true rfl) rfl ?_
    refine ev_aload_n (pc' := 1) dX6_forged_0 rfl rfl ?_
    refine ev_getf (pc' := 4) fl_6_12 dX6_forged_1 rfl rfl rfl ?_
    refine ev_iload_n (pc' := 5) dX6_forged_4 rfl rfl ?_
    refine ev_cVi1 (pc' := 8) cl_6_95 (kD_isPaper _ _ _ _ _ _) dX6_forged_5 rfl rfl rfl rfl ?_
    refine ev_if_eq (tgt := 27) (pc' := 11) dX6_forged_8 (by decide) rfl (fun h_8 => ?_) (fun h_8 => ?_)
    · exact absurd h_8 (by rw [g1]; decide) --
    · refine ev_aload_n (pc' := 12) dX6_forged_11 rfl rfl ?_
      refine ev_getf (pc' := 15) fl_6_12 dX6_forged_12 rfl rfl rfl ?_
      refine ev_iconst (pc' := 16) (v := 3) dX6_forged_15 rfl (by decide) ?_
      refine ev_iconst (pc' := 17) (v := 0) dX6_forged_16 rfl (by decide) ?_
      refine ev_iconst (pc' := 18) (v := 0) dX6_forged_17 rfl (by decide) ?_
      refine ev_iload_n (pc' := 19) dX6_forged_18 rfl rfl ?_
      refine ev_iconst (pc' := 20) (v := 0) dX6_forged_19 rfl (by decide) ?_
      refine ev_iconst (pc' := 21) (v := 0) dX6_forged_20 rfl (by decide) ?_
      refine ev_cVi6 (pc' := 24) cl_6_92 (kT _ _ _ _ _ _) dX6_forged_21 rfl rfl rfl rfl ?_
      refine ev_goto (tgt := 28) dX6_forged_24 (by decide) ?_
      refine ev_ireturn rfl dX6_forged_28 ?_
      exact tdQ_told sp rl tx h hb hn ho hc
  · have hR : R_forg F N f = none := if_neg hg
    rw [hR]
    by_cases hn : N = 120
    · have kT := fun kind made one thing day other => kD_full (d := d + 1) σ la sp rl tx kind made one thing day other (by rw [h8, hn])
      refine Ok.of (ls := [some _, some _]) (by decide +kernel) (Nat.le_of_ble_eq_true rfl) rfl ?_
      refine ev_aload_n (pc' := 1) dX6_forged_0 rfl rfl ?_
      refine ev_getf (pc' := 4) fl_6_12 dX6_forged_1 rfl rfl rfl ?_
      refine ev_iload_n (pc' := 5) dX6_forged_4 rfl rfl ?_
      refine ev_cVi1 (pc' := 8) cl_6_95 (kD_isPaper _ _ _ _ _ _) dX6_forged_5 rfl rfl rfl rfl ?_
      refine ev_if_eq (tgt := 27) (pc' := 11) dX6_forged_8 (by decide) rfl (fun h_8 => ?_) (fun h_8 => ?_)
      · refine ev_iconst (pc' := 28) (v := -1) dX6_forged_27 rfl (by decide) ?_
        refine ev_ireturn rfl dX6_forged_28 ?_
        exact ⟨rfl, rfl⟩
      · refine ev_aload_n (pc' := 12) dX6_forged_11 rfl rfl ?_
        refine ev_getf (pc' := 15) fl_6_12 dX6_forged_12 rfl rfl rfl ?_
        refine ev_iconst (pc' := 16) (v := 3) dX6_forged_15 rfl (by decide) ?_
        refine ev_iconst (pc' := 17) (v := 0) dX6_forged_16 rfl (by decide) ?_
        refine ev_iconst (pc' := 18) (v := 0) dX6_forged_17 rfl (by decide) ?_
        refine ev_iload_n (pc' := 19) dX6_forged_18 rfl rfl ?_
        refine ev_iconst (pc' := 20) (v := 0) dX6_forged_19 rfl (by decide) ?_
        refine ev_iconst (pc' := 21) (v := 0) dX6_forged_20 rfl (by decide) ?_
        refine ev_cVi6 (pc' := 24) cl_6_92 (kT _ _ _ _ _ _) dX6_forged_21 rfl rfl rfl rfl ?_
        refine ev_goto (tgt := 28) dX6_forged_24 (by decide) ?_
        refine ev_ireturn rfl dX6_forged_28 ?_
        exact ⟨rfl, rfl⟩
    · skip
      refine Ok.of (ls := [some _, some _]) (by decide +kernel) (Nat.le_of_ble_eq_true rfl) rfl ?_
      refine ev_aload_n (pc' := 1) dX6_forged_0 rfl rfl ?_
      refine ev_getf (pc' := 4) fl_6_12 dX6_forged_1 rfl rfl rfl ?_
      refine ev_iload_n (pc' := 5) dX6_forged_4 rfl rfl ?_
      refine ev_cVi1 (pc' := 8) cl_6_95 (kD_isPaper _ _ _ _ _ _) dX6_forged_5 rfl rfl rfl rfl ?_
      refine ev_if_eq (tgt := 27) (pc' := 11) dX6_forged_8 (by decide) rfl (fun h_8 => ?_) (fun h_8 => ?_)
      · refine ev_iconst (pc' := 28) (v := -1) dX6_forged_27 rfl (by decide) ?_
        refine ev_ireturn rfl dX6_forged_28 ?_
        exact ⟨rfl, rfl⟩
      · have q1 := (paper_fact h f).mp (bI_1' h_8)
        exact absurd (by rw [decide_eq_true q1, decide_eq_true hn]; rfl) hg
theorem d_feast {d : Nat} {F : FF} {lv : Nat → Int32} {A : List YL} {P N r la : Nat} {σ : RS} (sp rl tx : Nat) (h : cI F lv A P N r la σ) (hb : σ 2 9 = sp_papers F N) (y : Int32) (b : Bool) : Ok (d + 3) M6_feast [.ref 0, .int y, .int (bI b)] (WD σ la sp rl tx) (tdQ F lv A P N r la σ sp rl tx (R_feast N y b)) := by
  have hP := h.2.1.1
  have hN := h.2.1.2.1
  have h7 : σ 2 7 = nI P := h.2.2.1
  have h8 : σ 2 8 = nI N := h.2.2.2.1
  by_cases hg : (decide (¬ N = 120) && m_day y) = true
  · have hR : R_feast N y b = some _ := if_pos hg
    rw [hR]
    obtain ⟨ho, hc⟩ := feast_ok (P := P) F b hg
    simp only [Bool.and_eq_true, decide_eq_true_eq] at hg
    obtain ⟨hn, g1⟩ := hg
    have kT := fun kind made one thing day other => kD_told (d := d + 1) σ la sp rl tx kind made one thing day other N hN hn h8
    refine Ok.of (ls := [some _, some _, some _]) (by decide +kernel) (Nat.le_of_ble_eq_true rfl) rfl ?_
    refine ev_iload_n (pc' := 1) dX6_feast_0 rfl rfl ?_
    refine ev_cSi1 (pc' := 4) cl_6_88 (kD_isDay _ _) dX6_feast_1 rfl rfl ?_
    refine ev_if_eq (tgt := 31) (pc' := 7) dX6_feast_4 (by decide) rfl (fun h_4 => ?_) (fun h_4 => ?_)
    · exact absurd h_4 (by rw [g1]; decide) --
    · refine ev_aload_n (pc' := 8) dX6_feast_7 rfl rfl ?_
      refine ev_getf (pc' := 11) fl_6_12 dX6_feast_8 rfl rfl rfl ?_
      refine ev_iconst (pc' := 12) (v := 4) dX6_feast_11 rfl (by decide) ?_
      refine ev_iconst (pc' := 13) (v := 0) dX6_feast_12 rfl (by decide) ?_
      refine ev_iconst (pc' := 14) (v := 0) dX6_feast_13 rfl (by decide) ?_
      refine ev_iload_n (pc' := 15) dX6_feast_14 rfl rfl ?_
      refine ev_if_eq (tgt := 22) (pc' := 18) dX6_feast_15 (by decide) rfl (fun h_15 => ?_) (fun h_15 => ?_)
      · rw [bI_0] at h_15
        subst h_15
        refine ev_iconst (pc' := 23) (v := 0) dX6_feast_22 rfl (by decide) ?_
        refine ev_iload_n (pc' := 24) dX6_feast_23 rfl rfl ?_
        refine ev_iconst (pc' := 25) (v := 0) dX6_feast_24 rfl (by decide) ?_
        refine ev_cVi6 (pc' := 28) cl_6_92 (kT _ _ _ _ _ _) dX6_feast_25 rfl rfl rfl rfl ?_
        refine ev_goto (tgt := 32) dX6_feast_28 (by decide) ?_
        refine ev_ireturn rfl dX6_feast_32 ?_
        exact tdQ_told sp rl tx h hb hn ho hc
      · rw [bI_0, Bool.not_eq_false] at h_15
        subst h_15
        refine ev_iconst (pc' := 19) (v := 1) dX6_feast_18 rfl (by decide) ?_
        refine ev_goto (tgt := 23) dX6_feast_19 (by decide) ?_
        refine ev_iload_n (pc' := 24) dX6_feast_23 rfl rfl ?_
        refine ev_iconst (pc' := 25) (v := 0) dX6_feast_24 rfl (by decide) ?_
        refine ev_cVi6 (pc' := 28) cl_6_92 (kT _ _ _ _ _ _) dX6_feast_25 rfl rfl rfl rfl ?_
        refine ev_goto (tgt := 32) dX6_feast_28 (by decide) ?_
        refine ev_ireturn rfl dX6_feast_32 ?_
        exact tdQ_told sp rl tx h hb hn ho hc
  · have hR : R_feast N y b = none := if_neg hg
    rw [hR]
    by_cases hn : N = 120
    · have kT := fun kind made one thing day other => kD_full (d := d + 1) σ la sp rl tx kind made one thing day other (by rw [h8, hn])
      refine Ok.of (ls := [some _, some _, some _]) (by decide +kernel) (Nat.le_of_ble_eq_true rfl) rfl ?_
      refine ev_iload_n (pc' := 1) dX6_feast_0 rfl rfl ?_
      refine ev_cSi1 (pc' := 4) cl_6_88 (kD_isDay _ _) dX6_feast_1 rfl rfl ?_
      refine ev_if_eq (tgt := 31) (pc' := 7) dX6_feast_4 (by decide) rfl (fun h_4 => ?_) (fun h_4 => ?_)
      · refine ev_iconst (pc' := 32) (v := -1) dX6_feast_31 rfl (by decide) ?_
        refine ev_ireturn rfl dX6_feast_32 ?_
        exact ⟨rfl, rfl⟩
      · refine ev_aload_n (pc' := 8) dX6_feast_7 rfl rfl ?_
        refine ev_getf (pc' := 11) fl_6_12 dX6_feast_8 rfl rfl rfl ?_
        refine ev_iconst (pc' := 12) (v := 4) dX6_feast_11 rfl (by decide) ?_
        refine ev_iconst (pc' := 13) (v := 0) dX6_feast_12 rfl (by decide) ?_
        refine ev_iconst (pc' := 14) (v := 0) dX6_feast_13 rfl (by decide) ?_
        refine ev_iload_n (pc' := 15) dX6_feast_14 rfl rfl ?_
        refine ev_if_eq (tgt := 22) (pc' := 18) dX6_feast_15 (by decide) rfl (fun h_15 => ?_) (fun h_15 => ?_)
        · refine ev_iconst (pc' := 23) (v := 0) dX6_feast_22 rfl (by decide) ?_
          refine ev_iload_n (pc' := 24) dX6_feast_23 rfl rfl ?_
          refine ev_iconst (pc' := 25) (v := 0) dX6_feast_24 rfl (by decide) ?_
          refine ev_cVi6 (pc' := 28) cl_6_92 (kT _ _ _ _ _ _) dX6_feast_25 rfl rfl rfl rfl ?_
          refine ev_goto (tgt := 32) dX6_feast_28 (by decide) ?_
          refine ev_ireturn rfl dX6_feast_32 ?_
          exact ⟨rfl, rfl⟩
        · refine ev_iconst (pc' := 19) (v := 1) dX6_feast_18 rfl (by decide) ?_
          refine ev_goto (tgt := 23) dX6_feast_19 (by decide) ?_
          refine ev_iload_n (pc' := 24) dX6_feast_23 rfl rfl ?_
          refine ev_iconst (pc' := 25) (v := 0) dX6_feast_24 rfl (by decide) ?_
          refine ev_cVi6 (pc' := 28) cl_6_92 (kT _ _ _ _ _ _) dX6_feast_25 rfl rfl rfl rfl ?_
          refine ev_goto (tgt := 32) dX6_feast_28 (by decide) ?_
          refine ev_ireturn rfl dX6_feast_32 ?_
          exact ⟨rfl, rfl⟩
    · skip
      refine Ok.of (ls := [some _, some _, some _]) (by decide +kernel) (Nat.le_of_ble_eq_true rfl) rfl ?_
      refine ev_iload_n (pc' := 1) dX6_feast_0 rfl rfl ?_
      refine ev_cSi1 (pc' := 4) cl_6_88 (kD_isDay _ _) dX6_feast_1 rfl rfl ?_
      refine ev_if_eq (tgt := 31) (pc' := 7) dX6_feast_4 (by decide) rfl (fun h_4 => ?_) (fun h_4 => ?_)
      · refine ev_iconst (pc' := 32) (v := -1) dX6_feast_31 rfl (by decide) ?_
        refine ev_ireturn rfl dX6_feast_32 ?_
        exact ⟨rfl, rfl⟩
      · have q1 := bI_1' h_4
        exact absurd (by rw [q1, decide_eq_true hn]; rfl) hg
theorem d_seen {d : Nat} {F : FF} {lv : Nat → Int32} {A : List YL} {P N r la : Nat} {σ : RS} (sp rl tx : Nat) (h : cI F lv A P N r la σ) (hb : σ 2 9 = sp_papers F N) (x p k y : Int32) : Ok (d + 3) M6_seen [.ref 0, .int x, .int p, .int k, .int y] (WD σ la sp rl tx) (tdQ F lv A P N r la σ sp rl tx (R_seen P N x p k y)) := by
  have hP := h.2.1.1
  have hN := h.2.1.2.1
  have h7 : σ 2 7 = nI P := h.2.2.1
  have h8 : σ 2 8 = nI N := h.2.2.2.1
  by_cases hg : (decide (¬ N = 120) && b_isPerson (nI P) x && b_isPerson (nI P) p && decide (0 ≤ k ∧ k ≤ 9) && m_day y) = true
  · have hR : R_seen P N x p k y = some _ := if_pos hg
    rw [hR]
    obtain ⟨ho, hc⟩ := seen_ok hP F hg
    simp only [Bool.and_eq_true, decide_eq_true_eq] at hg
    obtain ⟨⟨⟨⟨hn, g1⟩, g2⟩, g3⟩, g4⟩ := hg
    rw [← h7] at g1 g2
    have g3 := decide_eq_true g3
    have kT := fun kind made one thing day other => kD_told (d := d + 1) σ la sp rl tx kind made one thing day other N hN hn h8
    refine Ok.of (ls := [some _, some _, some _, some _, some _]) (by decide +kernel) (Nat.le_of_ble_eq_true rfl) rfl ?_
    refine ev_aload_n (pc' := 1) dX6_seen_0 rfl rfl ?_
    refine ev_getf (pc' := 4) fl_6_12 dX6_seen_1 rfl rfl rfl ?_
    refine ev_iload_n (pc' := 5) dX6_seen_4 rfl rfl ?_
    refine ev_cVi1 (pc' := 8) cl_6_98 (kD_hasPerson _ _ _ _ _ _) dX6_seen_5 rfl rfl rfl rfl ?_
    refine ev_if_eq (tgt := 37) (pc' := 11) dX6_seen_8 (by decide) rfl (fun h_8 => ?_) (fun h_8 => ?_)
    · exact absurd h_8 (by rw [g1]; decide) --
    · refine ev_aload_n (pc' := 12) dX6_seen_11 rfl rfl ?_
      refine ev_getf (pc' := 15) fl_6_12 dX6_seen_12 rfl rfl rfl ?_
      refine ev_iload_n (pc' := 16) dX6_seen_15 rfl rfl ?_
      refine ev_cVi1 (pc' := 19) cl_6_98 (kD_hasPerson _ _ _ _ _ _) dX6_seen_16 rfl rfl rfl rfl ?_
      refine ev_if_eq (tgt := 37) (pc' := 22) dX6_seen_19 (by decide) rfl (fun h_19 => ?_) (fun h_19 => ?_)
      · exact absurd h_19 (by rw [g2]; decide) --
      · refine ev_iload_n (pc' := 23) dX6_seen_22 rfl rfl ?_
        refine ev_cSi1 (pc' := 26) cl_6_101 (kD_isDeed _ _) dX6_seen_23 rfl rfl ?_
        refine ev_if_eq (tgt := 37) (pc' := 29) dX6_seen_26 (by decide) rfl (fun h_26 => ?_) (fun h_26 => ?_)
        · exact absurd h_26 (by rw [g3]; decide) --
        · refine ev_iload (pc' := 31) dX6_seen_29 rfl rfl ?_
          refine ev_cSi1 (pc' := 34) cl_6_88 (kD_isDay _ _) dX6_seen_31 rfl rfl ?_
          refine ev_if_ne (tgt := 39) (pc' := 37) dX6_seen_34 (by decide) rfl (fun h_34 => ?_) (fun h_34 => ?_)
          · refine ev_aload_n (pc' := 40) dX6_seen_39 rfl rfl ?_
            refine ev_getf (pc' := 43) fl_6_12 dX6_seen_40 rfl rfl rfl ?_
            refine ev_iconst (pc' := 44) (v := 5) dX6_seen_43 rfl (by decide) ?_
            refine ev_iconst (pc' := 45) (v := 0) dX6_seen_44 rfl (by decide) ?_
            refine ev_iload_n (pc' := 46) dX6_seen_45 rfl rfl ?_
            refine ev_iload_n (pc' := 47) dX6_seen_46 rfl rfl ?_
            refine ev_iload (pc' := 49) dX6_seen_47 rfl rfl ?_
            refine ev_iload_n (pc' := 50) dX6_seen_49 rfl rfl ?_
            refine ev_cVi6 (pc' := 53) cl_6_92 (kT _ _ _ _ _ _) dX6_seen_50 rfl rfl rfl rfl ?_
            refine ev_ireturn rfl dX6_seen_53 ?_
            exact tdQ_told sp rl tx h hb hn ho hc
          · exact absurd h_34 (by rw [g4]; decide) --
  · have hR : R_seen P N x p k y = none := if_neg hg
    rw [hR]
    by_cases hn : N = 120
    · have kT := fun kind made one thing day other => kD_full (d := d + 1) σ la sp rl tx kind made one thing day other (by rw [h8, hn])
      refine Ok.of (ls := [some _, some _, some _, some _, some _]) (by decide +kernel) (Nat.le_of_ble_eq_true rfl) rfl ?_
      refine ev_aload_n (pc' := 1) dX6_seen_0 rfl rfl ?_
      refine ev_getf (pc' := 4) fl_6_12 dX6_seen_1 rfl rfl rfl ?_
      refine ev_iload_n (pc' := 5) dX6_seen_4 rfl rfl ?_
      refine ev_cVi1 (pc' := 8) cl_6_98 (kD_hasPerson _ _ _ _ _ _) dX6_seen_5 rfl rfl rfl rfl ?_
      refine ev_if_eq (tgt := 37) (pc' := 11) dX6_seen_8 (by decide) rfl (fun h_8 => ?_) (fun h_8 => ?_)
      · refine ev_iconst (pc' := 38) (v := -1) dX6_seen_37 rfl (by decide) ?_
        refine ev_ireturn rfl dX6_seen_38 ?_
        exact ⟨rfl, rfl⟩
      · refine ev_aload_n (pc' := 12) dX6_seen_11 rfl rfl ?_
        refine ev_getf (pc' := 15) fl_6_12 dX6_seen_12 rfl rfl rfl ?_
        refine ev_iload_n (pc' := 16) dX6_seen_15 rfl rfl ?_
        refine ev_cVi1 (pc' := 19) cl_6_98 (kD_hasPerson _ _ _ _ _ _) dX6_seen_16 rfl rfl rfl rfl ?_
        refine ev_if_eq (tgt := 37) (pc' := 22) dX6_seen_19 (by decide) rfl (fun h_19 => ?_) (fun h_19 => ?_)
        · refine ev_iconst (pc' := 38) (v := -1) dX6_seen_37 rfl (by decide) ?_
          refine ev_ireturn rfl dX6_seen_38 ?_
          exact ⟨rfl, rfl⟩
        · refine ev_iload_n (pc' := 23) dX6_seen_22 rfl rfl ?_
          refine ev_cSi1 (pc' := 26) cl_6_101 (kD_isDeed _ _) dX6_seen_23 rfl rfl ?_
          refine ev_if_eq (tgt := 37) (pc' := 29) dX6_seen_26 (by decide) rfl (fun h_26 => ?_) (fun h_26 => ?_)
          · refine ev_iconst (pc' := 38) (v := -1) dX6_seen_37 rfl (by decide) ?_
            refine ev_ireturn rfl dX6_seen_38 ?_
            exact ⟨rfl, rfl⟩
          · refine ev_iload (pc' := 31) dX6_seen_29 rfl rfl ?_
            refine ev_cSi1 (pc' := 34) cl_6_88 (kD_isDay _ _) dX6_seen_31 rfl rfl ?_
            refine ev_if_ne (tgt := 39) (pc' := 37) dX6_seen_34 (by decide) rfl (fun h_34 => ?_) (fun h_34 => ?_)
            · refine ev_aload_n (pc' := 40) dX6_seen_39 rfl rfl ?_
              refine ev_getf (pc' := 43) fl_6_12 dX6_seen_40 rfl rfl rfl ?_
              refine ev_iconst (pc' := 44) (v := 5) dX6_seen_43 rfl (by decide) ?_
              refine ev_iconst (pc' := 45) (v := 0) dX6_seen_44 rfl (by decide) ?_
              refine ev_iload_n (pc' := 46) dX6_seen_45 rfl rfl ?_
              refine ev_iload_n (pc' := 47) dX6_seen_46 rfl rfl ?_
              refine ev_iload (pc' := 49) dX6_seen_47 rfl rfl ?_
              refine ev_iload_n (pc' := 50) dX6_seen_49 rfl rfl ?_
              refine ev_cVi6 (pc' := 53) cl_6_92 (kT _ _ _ _ _ _) dX6_seen_50 rfl rfl rfl rfl ?_
              refine ev_ireturn rfl dX6_seen_53 ?_
              exact ⟨rfl, rfl⟩
            · refine ev_iconst (pc' := 38) (v := -1) dX6_seen_37 rfl (by decide) ?_
              refine ev_ireturn rfl dX6_seen_38 ?_
              exact ⟨rfl, rfl⟩
    · skip
      refine Ok.of (ls := [some _, some _, some _, some _, some _]) (by decide +kernel) (Nat.le_of_ble_eq_true rfl) rfl ?_
      refine ev_aload_n (pc' := 1) dX6_seen_0 rfl rfl ?_
      refine ev_getf (pc' := 4) fl_6_12 dX6_seen_1 rfl rfl rfl ?_
      refine ev_iload_n (pc' := 5) dX6_seen_4 rfl rfl ?_
      refine ev_cVi1 (pc' := 8) cl_6_98 (kD_hasPerson _ _ _ _ _ _) dX6_seen_5 rfl rfl rfl rfl ?_
      refine ev_if_eq (tgt := 37) (pc' := 11) dX6_seen_8 (by decide) rfl (fun h_8 => ?_) (fun h_8 => ?_)
      · refine ev_iconst (pc' := 38) (v := -1) dX6_seen_37 rfl (by decide) ?_
        refine ev_ireturn rfl dX6_seen_38 ?_
        exact ⟨rfl, rfl⟩
      · have q1 := bI_1' h_8
        refine ev_aload_n (pc' := 12) dX6_seen_11 rfl rfl ?_
        refine ev_getf (pc' := 15) fl_6_12 dX6_seen_12 rfl rfl rfl ?_
        refine ev_iload_n (pc' := 16) dX6_seen_15 rfl rfl ?_
        refine ev_cVi1 (pc' := 19) cl_6_98 (kD_hasPerson _ _ _ _ _ _) dX6_seen_16 rfl rfl rfl rfl ?_
        refine ev_if_eq (tgt := 37) (pc' := 22) dX6_seen_19 (by decide) rfl (fun h_19 => ?_) (fun h_19 => ?_)
        · refine ev_iconst (pc' := 38) (v := -1) dX6_seen_37 rfl (by decide) ?_
          refine ev_ireturn rfl dX6_seen_38 ?_
          exact ⟨rfl, rfl⟩
        · have q2 := bI_1' h_19
          refine ev_iload_n (pc' := 23) dX6_seen_22 rfl rfl ?_
          refine ev_cSi1 (pc' := 26) cl_6_101 (kD_isDeed _ _) dX6_seen_23 rfl rfl ?_
          refine ev_if_eq (tgt := 37) (pc' := 29) dX6_seen_26 (by decide) rfl (fun h_26 => ?_) (fun h_26 => ?_)
          · refine ev_iconst (pc' := 38) (v := -1) dX6_seen_37 rfl (by decide) ?_
            refine ev_ireturn rfl dX6_seen_38 ?_
            exact ⟨rfl, rfl⟩
          · have q3 := bI_1' h_26
            refine ev_iload (pc' := 31) dX6_seen_29 rfl rfl ?_
            refine ev_cSi1 (pc' := 34) cl_6_88 (kD_isDay _ _) dX6_seen_31 rfl rfl ?_
            refine ev_if_ne (tgt := 39) (pc' := 37) dX6_seen_34 (by decide) rfl (fun h_34 => ?_) (fun h_34 => ?_)
            · have q4 := bI_1' h_34
              exact absurd (by rw [← h7, q1, q2, q3, q4, decide_eq_true hn]; rfl) hg
            · refine ev_iconst (pc' := 38) (v := -1) dX6_seen_37 rfl (by decide) ?_
              refine ev_ireturn rfl dX6_seen_38 ?_
              exact ⟨rfl, rfl⟩
/-- what a person told leaves -/
def pdQ (F : FF) (lv : Nat → Int32) (A : List YL) (P N r la : Nat) (σ : RS) (sp rl tx : Nat) (x : Int32) : Option Value → MW → Prop := if P = 8 ∨ x < 0 ∨ 40000 < x then (fun v w => v = some (.int (-1)) ∧ w = WD σ la sp rl tx) else fun v w => v = some (.int (nI P)) ∧ ∃ σ', w = WD σ' la sp rl tx ∧ cI F (upd lv P x) A (P + 1) N r la σ' ∧ σ' 2 9 = σ 2 9 ∧ σ' 0 = σ 0 ∧ σ' 1 = σ 1
def dCame (σ : RS) (x : Int32) : RS := bdp σ (b_came (bd σ) x)
theorem cI_came {F : FF} {lv : Nat → Int32} {A : List YL} {P N r la : Nat} {σ : RS} (h : cI F lv A P N r la σ) (hn : ¬ P = 8) (x : Int32) : cI F (upd lv P x) A (P + 1) N r la (dCame σ x) ∧ (dCame σ x) 2 9 = σ 2 9 ∧ (dCame σ x) 0 = σ 0 ∧ (dCame σ x) 1 = σ 1 := by
  obtain ⟨hl, ⟨hP, hN, hok⟩, h7, h8, hF, hlv, hA, hr, hr2, hk1, hk2⟩ := h
  have hls : la = 10 ∨ la = 18 := hl
  obtain ⟨T, hT⟩ : ∃ T, T = dCame σ x := ⟨_, rfl⟩
  have e3 : T 3 = upd (σ 3) P x := by
    rw [hT]
    show putF 8 (σ 3) (σ 2 7) x = _
    rw [h7, putF_nI _ _ (by omega) (by omega)]
  have e0 : T 0 = σ 0 := by rw [hT]; rfl
  have e1 : T 1 = σ 1 := by rw [hT]; rfl
  have e27 : T 2 7 = σ 2 7 + 1 := by rw [hT]; rfl
  have e28 : T 2 8 = σ 2 8 := by rw [hT]; rfl
  have e29 : T 2 9 = σ 2 9 := by rw [hT]; rfl
  have e4 : T 4 = σ 4 := by rw [hT]; rfl
  have e5 : T 5 = σ 5 := by rw [hT]; rfl
  have e6 : T 6 = σ 6 := by rw [hT]; rfl
  have e7 : T 7 = σ 7 := by rw [hT]; rfl
  have e8 : T 8 = σ 8 := by rw [hT]; rfl
  have e9 : T 9 = σ 9 := by rw [hT]; rfl
  have hi : ∀ c, 10 ≤ c → T c = σ c := fun c c1 => by
    rw [hT]
    exact if_neg (by omega)
  rw [← hT]
  have hl3 : ∀ k, k < N → F 0 k ≤ 1 → lv (F 3 k) = (upd lv P x) (F 3 k) := fun k hk h1 => by
    have := ((hok k hk).2.1 h1).2.1
    rw [upd_ne _ _ (by omega)]
  refine ⟨⟨hl, ⟨by omega, hN, fun k hk => okF_more (hok k hk)⟩, by rw [e27, h7, nI_1], by rw [e28]; exact h8, cFacts_same hF (fun c c1 c2 => ?_), fun p hp => ?_, claw_dk hA (fun k hk => hi _ (by omega)), by rw [e0]; exact hr, hr2, ?_, ?_⟩, e29, e0, e1⟩
  · match c, c1, c2 with
    | 12, _, _ => exact e4
    | 13, _, _ => exact e5
    | 14, _, _ => exact e6
    | 15, _, _ => exact e7
    | 16, _, _ => exact e8
    | 17, _, _ => exact e9
    | c + 18, _, h => exact absurd h (by omega)
    | 0, h, _ => exact absurd h (by omega)
    | 1, h, _ => exact absurd h (by omega)
    | 2, h, _ => exact absurd h (by omega)
    | 3, h, _ => exact absurd h (by omega)
    | 4, h, _ => exact absurd h (by omega)
    | 5, h, _ => exact absurd h (by omega)
    | 6, h, _ => exact absurd h (by omega)
    | 7, h, _ => exact absurd h (by omega)
    | 8, h, _ => exact absurd h (by omega)
    | 9, h, _ => exact absurd h (by omega)
    | 10, h, _ => exact absurd h (by omega)
    | 11, h, _ => exact absurd h (by omega)
  · rw [e3]
    by_cases e : p = P
    · rw [e, upd_same, upd_same]
    · rw [upd_ne _ _ e, upd_ne _ _ e]; exact hlv p (by omega)
  · exact kI_told hk1 (Nat.le_refl N) (fun _ _ _ => rfl) hl3 (fun c hc => hi _ (by omega)) (fun k hk => by rw [e9])
  · exact kI_told hk2 (Nat.le_refl N) (fun _ _ _ => rfl) hl3 (fun c hc => hi _ (by omega)) (fun k hk => by rw [e9])
theorem kD_addPerson {d : Nat} (σ : RS) (la sp rl tx : Nat) (x : Int32) {P : Nat} (hP : P ≤ 8) (h7 : σ 2 7 = nI P) : Ok (d + 1) M0_addPerson [.ref 2, .int x] (WD σ la sp rl tx) (if P = 8 ∨ x < 0 ∨ 40000 < x then rt (some (.int (-1))) (WD σ la sp rl tx) else rt (some (.int (nI P))) (WD (dCame σ x) la sp rl tx)) := by
  have k := k_addPerson (d := d) (bd σ) x
  have e7 : (bd σ) 0 7 = nI P := h7
  have e8 : (8 : Int32) ≤ nI P ↔ P = 8 := by
    rw [show (8 : Int32) = nI 8 from rfl, nI_leI (by omega) (by omega)]
    omega
  by_cases g : P = 8 ∨ x < 0 ∨ 40000 < x
  · rw [if_pos g]
    rw [e7, if_pos (g.imp_left e8.mpr)] at k
    exact Ok.roP k (PD_book σ la sp rl tx) rfl
  · rw [if_neg g]
    rw [e7, if_neg (fun z => g (z.imp_left e8.mp)), Int32.add_sub_cancel] at k
    exact Ok.wr k (PD_book σ la sp rl tx) rfl rfl (PD_bput σ _ la sp rl tx)
theorem d_person {d : Nat} {F : FF} {lv : Nat → Int32} {A : List YL} {P N r la : Nat} {σ : RS} (sp rl tx : Nat) (h : cI F lv A P N r la σ) (x : Int32) : Ok (d + 3) M6_person [.ref 0, .int x] (WD σ la sp rl tx) (pdQ F lv A P N r la σ sp rl tx x) := by
  have hP := h.2.1.1
  have h7 : σ 2 7 = nI P := h.2.2.1
  have kT := kD_addPerson (d := d + 1) σ la sp rl tx x hP h7
  unfold pdQ
  by_cases g : P = 8 ∨ x < 0 ∨ 40000 < x
  · rw [if_pos g]
    rw [if_pos g] at kT
    refine Ok.of (ls := [some _, some _]) (by decide +kernel) (Nat.le_of_ble_eq_true rfl) rfl ?_
    refine ev_aload_n (pc' := 1) dX6_person_0 rfl rfl ?_
    refine ev_getf (pc' := 4) fl_6_12 dX6_person_1 rfl rfl rfl ?_
    refine ev_iload_n (pc' := 5) dX6_person_4 rfl rfl ?_
    refine ev_cVi1 (pc' := 8) cl_6_80 (kT) dX6_person_5 rfl rfl rfl rfl ?_
    refine ev_ireturn rfl dX6_person_8 ?_
    exact ⟨rfl, rfl⟩
  · rw [if_neg g]
    rw [if_neg g] at kT
    refine Ok.of (ls := [some _, some _]) (by decide +kernel) (Nat.le_of_ble_eq_true rfl) rfl ?_
    refine ev_aload_n (pc' := 1) dX6_person_0 rfl rfl ?_
    refine ev_getf (pc' := 4) fl_6_12 dX6_person_1 rfl rfl rfl ?_
    refine ev_iload_n (pc' := 5) dX6_person_4 rfl rfl ?_
    refine ev_cVi1 (pc' := 8) cl_6_80 (kT) dX6_person_5 rfl rfl rfl rfl ?_
    refine ev_ireturn rfl dX6_person_8 ?_
    exact ⟨rfl, _, rfl, cI_came h (fun z => g (Or.inl z)) x⟩
