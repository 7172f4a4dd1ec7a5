/-! THE TOWN'S OWN STATE, and knownBy. -/
def kI (F : FF) (lv : Nat → Int32) (A : List YL) (N r : Nat) (σ : RS) (kb : Nat) : Prop := (∀ j, j < 64 → σ (kb + 7) j = 0) ∧ (σ kb 11 = -1 ∨ ∃ n q, n ≤ N ∧ q ≤ r ∧ σ kb 11 = nI n ∧ σ kb 12 = nI q ∧ (q = r → kGood F lv A n (dk kb 10 σ)))
def cI (F : FF) (lv : Nat → Int32) (A : List YL) (P N r la : Nat) (σ : RS) : Prop := la_ok la ∧ (P ≤ 8 ∧ N ≤ 120 ∧ ∀ k, k < N → okF P F k) ∧ σ 2 7 = nI P ∧ σ 2 8 = nI N ∧ cFacts N F (dk 30 10 σ) ∧ (∀ p, p < P → σ 3 p = lv p) ∧ claw (lw (dk 30 la σ)) A ∧ σ 0 7 = nI r ∧ r < 2 ^ 20 ∧ kI F lv A N r σ 30 ∧ kI F lv A N r σ 40
/-- what questions leave as it is -/
def dK (la : Nat) (σ σ' : RS) : Prop := (∀ j, j ≠ 10 → σ' 0 j = σ 0 j) ∧ ∀ c, 1 ≤ c → c < 30 → c ≠ la + 7 → σ' c = σ c
theorem dK.refl (la : Nat) (σ : RS) : dK la σ σ := ⟨fun _ _ => rfl, fun _ _ _ _ => rfl⟩
theorem dK.trans {la : Nat} {a b c : RS} (h : dK la a b) (g : dK la b c) : dK la a c := ⟨fun j hj => (g.1 j hj).trans (h.1 j hj), fun k h1 h2 h3 => (g.2 k h1 h2 h3).trans (h.2 k h1 h2 h3)⟩
theorem kGood_same {F : FF} {lv : Nat → Int32} {A : List YL} {n : Nat} {τ τ' : RS} (h : kGood F lv A n τ) (e : ∀ c, c < 8 → τ' c = τ c) (e17 : τ' 17 = τ 17) : kGood F lv A n τ' := by
  unfold kGood cO cL at *
  rw [e 0 (by omega), e 1 (by omega), e 2 (by omega), e 3 (by omega), e 4 (by omega), e 5 (by omega), e 6 (by omega), e 7 (by omega), e17]
  exact h
theorem cFacts_same {N : Nat} {F : FF} {τ τ' : RS} (h : cFacts N F τ) (e : ∀ c, 12 ≤ c → c < 18 → τ' c = τ c) : cFacts N F τ' := by
  unfold cFacts at *
  rw [e 12 (by omega) (by omega), e 13 (by omega) (by omega), e 14 (by omega) (by omega), e 15 (by omega) (by omega), e 16 (by omega) (by omega), e 17 (by omega) (by omega)]
  exact h
theorem pkk_lo (kb lb : Nat) {c : Nat} (h : c < 10) : pkk kb lb c = kb + c := if_pos h
theorem pkk_book (kb lb : Nat) {c : Nat} (h1 : 10 ≤ c) (h2 : c < 18) : pkk kb lb c = c - 8 := by
  unfold pkk
  rw [if_neg (by omega), if_pos h2]
theorem pkk_rings (kb lb : Nat) {c : Nat} (h1 : 18 ≤ c) (h2 : c < 22) : pkk kb lb c = c + 32 := by
  unfold pkk
  rw [if_neg (by omega), if_neg (by omega), if_pos h2]
theorem pkk_law (kb lb : Nat) {c : Nat} (h1 : 22 ≤ c) : pkk kb lb c = lb + (c - 22) := by
  unfold pkk
  rw [if_neg (by omega), if_neg (by omega), if_neg (by omega)]
theorem dk_lo (kb lb : Nat) (σ : RS) {c : Nat} (h : c < 10) : dk kb lb σ c = σ (kb + c) := congrArg σ (pkk_lo kb lb h)
theorem dk_book (kb lb : Nat) (σ : RS) {c : Nat} (h1 : 10 ≤ c) (h2 : c < 18) : dk kb lb σ c = σ (c - 8) := congrArg σ (pkk_book kb lb h1 h2)
theorem dk_law (kb lb : Nat) (σ : RS) {c : Nat} (h1 : 22 ≤ c) : dk kb lb σ c = σ (lb + (c - 22)) := congrArg σ (pkk_law kb lb h1)
theorem cI.KB {F : FF} {lv : Nat → Int32} {A : List YL} {P N r la n kb : Nat} {σ : RS} (h : cI F lv A P N r la σ) (hn : n ≤ N) (g : kGood F lv A n (dk kb 10 σ)) : KB F lv A P N n (dk kb 10 σ) := by
  obtain ⟨-, ⟨hP, hN, hok⟩, h7, h8, hF, hlv, -⟩ := h
  refine ⟨⟨hP, hN, hn, hok⟩, g, cFacts_same hF (fun c c1 c2 => ?_), ?_, fun p hp => ?_⟩
  · rw [dk_book _ _ _ (by omega) c2, dk_book _ _ _ (by omega) c2]
  · rw [dk_book _ _ _ (by omega) (by omega)]; exact h8
  · rw [dk_book _ _ _ (by omega) (by omega)]; exact hlv p hp
theorem lw_dk (kb la : Nat) (σ : RS) {k : Nat} (hk : k ≠ 8) : lw (dk kb la σ) k = σ (la + k) := by
  show (if k = 8 then dk kb la σ 8 else dk kb la σ (22 + k)) = _
  rw [if_neg hk, dk_law _ _ _ (by omega), show 22 + k - 22 = k by omega]
theorem claw_dk {kb kb' la : Nat} {σ σ' : RS} {A : List YL} (h : claw (lw (dk kb la σ)) A) (e : ∀ k, k < 7 → σ' (la + k) = σ (la + k)) : claw (lw (dk kb' la σ')) A := claw_same (fun k k1 k2 => by rw [lw_dk _ _ _ (by omega), lw_dk _ _ _ (by omega), e k (by omega)]) (by rw [lw_dk _ _ _ (by omega), lw_dk _ _ _ (by omega), e 0 (by omega)]) h
theorem kI_same {F : FF} {lv : Nat → Int32} {A : List YL} {N r kb : Nat} {σ σ' : RS} (h : kI F lv A N r σ kb) (e : ∀ c, c < 8 → σ' (kb + c) = σ (kb + c)) (e9 : σ' 9 = σ 9) : kI F lv A N r σ' kb := by
  obtain ⟨h0, h1⟩ := h
  have e0 : σ' kb = σ kb := e 0 (by omega)
  refine ⟨fun j hj => by rw [e 7 (by omega)]; exact h0 j hj, ?_⟩
  rw [e0]
  rcases h1 with h1 | ⟨n, q, h2, h3, h4, h5, h6⟩
  · exact Or.inl h1
  · refine Or.inr ⟨n, q, h2, h3, h4, h5, fun hq => kGood_same (h6 hq) (fun c hc => ?_) ?_⟩
    · rw [dk_lo _ _ _ (by omega), dk_lo _ _ _ (by omega)]; exact e c (by omega)
    · rw [dk_book _ _ _ (by omega) (by omega), dk_book _ _ _ (by omega) (by omega)]; exact e9
/-- the town behind learn -/
def dLearn (kb la n m : Nat) (num : Int32) (σ : RS) : RS := du kb la (kn_learn (dk kb la σ) n m num (σ (la + 7))).1 (kn_learn (dk kb la σ) n m num (σ (la + 7))).2 σ
theorem kD_learn {d : Nat} (σ : RS) (la sp rl tx kb : Nat) (hk : kb_ok kb) (hl : la_ok la) (n m : Nat) (num : Int32) (hn : n ≤ 120) (hm : lz_ok (lw (dk kb la σ)) m) : Ok (d + 19) M1_learn [.ref kb, .int (nI n), .int num, .ref la] (WD σ la sp rl tx) (rt none (WD (dLearn kb la n m num σ) la sp rl tx)) := by
  rcases hk with rfl | rfl <;> rcases hl with rfl | rfl
  · exact Ok.wr (k_learn (dk 30 10 σ) (σ 17) n m num hn hm) (PD_k1a σ _ sp rl tx) rfl rfl (PD_w1a σ _ _ _ sp rl tx)
  · exact Ok.wr (k_learn (dk 30 18 σ) (σ 25) n m num hn hm) (PD_k1b σ _ sp rl tx) rfl rfl (PD_w1b σ _ _ _ sp rl tx)
  · exact Ok.wr (k_learn (dk 40 10 σ) (σ 17) n m num hn hm) (PD_k2a σ _ sp rl tx) rfl rfl (PD_w2a σ _ _ _ sp rl tx)
  · exact Ok.wr (k_learn (dk 40 18 σ) (σ 25) n m num hn hm) (PD_k2b σ _ sp rl tx) rfl rfl (PD_w2b σ _ _ _ sp rl tx)
theorem cI_learn {F : FF} {lv : Nat → Int32} {A : List YL} {P N r la kb n : Nat} {σ : RS} (h : cI F lv A P N r la σ) (hk : kb_ok kb) (hn : n ≤ N) : cI F lv A P N r la (dLearn kb la n A.length (nI r) σ) ∧ dK la σ (dLearn kb la n A.length (nI r) σ) ∧ kGood F lv A n (dk kb 10 (dLearn kb la n A.length (nI r) σ)) := by
  obtain ⟨hl, ⟨hP, hN, hok⟩, h7, h8, hF, hlv, hA, hr, hr2, hk1, hk2⟩ := h
  have hz : ∀ j, j < 64 → (dk kb la σ) 7 j = 0 := fun j hj => by
    rw [dk_lo _ _ _ (by omega)]
    rcases hk with rfl | rfl
    · exact hk1.1 j hj
    · exact hk2.1 j hj
  have hF2 : cFacts N F (dk kb la σ) := cFacts_same hF (fun c c1 c2 => by rw [dk_book _ _ _ (by omega) c2, dk_book _ _ _ (by omega) c2])
  have L := c_learn (g := σ (la + 7)) (num := nI r) (lv := lv) hP hN hn hok (by rw [dk_book _ _ _ (by omega) (by omega)]; exact h8) hF2 (fun p hp => by rw [dk_book _ _ _ (by omega) (by omega)]; exact hlv p hp) (claw_dk (kb' := kb) hA (fun _ _ => rfl)) hz
  unfold dLearn
  generalize kn_learn (dk kb la σ) n A.length (nI r) (σ (la + 7)) = T at *
  obtain ⟨g1, g2, g3, g4⟩ := L
  have i1 : ∀ i, i < 29 → du kb la T.1 T.2 σ (pkk kb la i) = T.1 i := fun i hi => du_in hk hl T.1 T.2 σ hi
  have lo : ∀ i, i < 10 → du kb la T.1 T.2 σ (kb + i) = T.1 i := fun i hi => by rw [← pkk_lo kb la hi]; exact i1 i (by omega)
  have book : ∀ c, 2 ≤ c → c < 10 → du kb la T.1 T.2 σ c = σ c := fun c c1 c2 => by
    have := i1 (c + 8) (by omega)
    rw [pkk_book kb la (by omega) (by omega), show c + 8 - 8 = c by omega] at this
    rw [this, g3 (c + 8) (by omega) (by omega), dk_book _ _ _ (by omega) (by omega), show c + 8 - 8 = c by omega]
  have law : ∀ k, k < 7 → du kb la T.1 T.2 σ (la + k) = σ (la + k) := fun k hk7 => by
    have := i1 (k + 22) (by omega)
    rw [pkk_law kb la (by omega), show k + 22 - 22 = k by omega] at this
    rw [this, g4 (k + 22) (by omega), dk_law _ _ _ (by omega), show k + 22 - 22 = k by omega]
  have hkb : kb = 30 ∨ kb = 40 := hk
  have hla : la = 10 ∨ la = 18 := hl
  have out : ∀ c, (c < kb ∨ kb + 10 ≤ c) → c < 50 → (c < la ∨ la + 8 ≤ c) → du kb la T.1 T.2 σ c = σ c := fun c c1 c2 c3 => by
    by_cases hb : 2 ≤ c ∧ c < 10
    · exact book c hb.1 hb.2
    · exact du_out kb la T.1 T.2 σ c1 (by omega) (by omega) c3
  have hgood : kGood F lv A n (dk kb 10 (du kb la T.1 T.2 σ)) := kGood_same g1 (fun c hc => by rw [dk_lo _ _ _ (by omega)]; exact lo c (by omega)) (by rw [dk_book _ _ _ (by omega) (by omega), book _ (by omega) (by omega), g3 17 (by omega) (by omega), dk_book _ _ _ (by omega) (by omega)])
  have hself : kI F lv A N r (du kb la T.1 T.2 σ) kb := by
    refine ⟨fun j hj => ?_, Or.inr ⟨n, r, hn, Nat.le_refl _, ?_, ?_, fun _ => hgood⟩⟩
    · rw [lo 7 (by omega)]
      have := g1.2.2.1 0 (Nat.zero_le _) j hj
      rw [Nat.zero_mul, Nat.zero_add] at this
      exact this
    · have := lo 0 (by omega)
      rw [Nat.add_zero] at this
      rw [this]; exact g1.1
    · have := lo 0 (by omega)
      rw [Nat.add_zero] at this
      rw [this]; exact g2
  have e0 : du kb la T.1 T.2 σ 0 = σ 0 := out 0 (by omega) (by omega) (by omega)
  refine ⟨⟨hl, ⟨hP, hN, hok⟩, ?_, ?_, ?_, ?_, claw_dk hA law, by rw [e0]; exact hr, hr2, ?_, ?_⟩, ⟨fun j _ => by rw [e0], fun c c1 c2 c3 => ?_⟩, hgood⟩
  · rw [book 2 (by omega) (by omega)]; exact h7
  · rw [book 2 (by omega) (by omega)]; exact h8
  · refine cFacts_same hF (fun c c1 c2 => ?_)
    rw [dk_book _ _ _ (by omega) c2, dk_book _ _ _ (by omega) c2]
    exact book _ (by omega) (by omega)
  · intro p hp
    rw [book 3 (by omega) (by omega)]; exact hlv p hp
  · rcases hk with rfl | rfl
    · exact hself
    · exact kI_same hk1 (fun c hc => out _ (by omega) (by omega) (by omega)) (book 9 (by omega) (by omega))
  · rcases hk with rfl | rfl
    · exact kI_same hk2 (fun c hc => out _ (by omega) (by omega) (by omega)) (book 9 (by omega) (by omega))
    · exact hself
  · by_cases hin : la ≤ c ∧ c < la + 7
    · have := law (c - la) (by omega)
      rwa [show la + (c - la) = c by omega] at this
    · exact out c (by omega) (by omega) (by omega)
theorem cI_old {F : FF} {lv : Nat → Int32} {A : List YL} {P N r la : Nat} {σ : RS} (h : cI F lv A P N r la σ) (x : Int32) : cI F lv A P N r la (s2 σ 0 10 x) ∧ dK la σ (s2 σ 0 10 x) := by
  have e : ∀ c, c ≠ 0 → (s2 σ 0 10 x) c = σ c := fun c hc => s1_ne _ _ hc
  have e7 : ∀ j, j ≠ 10 → (s2 σ 0 10 x) 0 j = σ 0 j := fun j hj => by
    show (s1 σ 0 (upd (σ 0) 10 x)) 0 j = _
    rw [s1_same, upd_ne _ _ hj]
  obtain ⟨hl, ⟨hP, hN, hok⟩, h7, h8, hF, hlv, hA, hr, hr2, hk1, hk2⟩ := h
  have hla : la = 10 ∨ la = 18 := hl
  refine ⟨⟨hl, ⟨hP, hN, hok⟩, by rw [e 2 (by omega)]; exact h7, by rw [e 2 (by omega)]; exact h8, ?_, by rw [e 3 (by omega)]; exact hlv, claw_dk hA (fun k _ => e _ (by omega)), by rw [e7 7 (by omega)]; exact hr, hr2, kI_same hk1 (fun c _ => e _ (by omega)) (e 9 (by omega)), kI_same hk2 (fun c _ => e _ (by omega)) (e 9 (by omega))⟩, e7, fun c c1 _ _ => e c (by omega)⟩
  refine cFacts_same hF (fun c c1 c2 => ?_)
  rw [dk_book _ _ _ (by omega) c2, dk_book _ _ _ (by omega) c2]
  exact e _ (by omega)
theorem kb_isOf {F : FF} {lv : Nat → Int32} {A : List YL} {P N r la n kb : Nat} {σ : RS} (h : cI F lv A P N r la σ) (hk : kb_ok kb) (hn : n ≤ N) (hz : ¬ bI (decide (σ kb 11 = nI n ∧ σ kb 12 = σ 0 7)) = 0) : kGood F lv A n (dk kb 10 σ) := by
  obtain ⟨-, ⟨hP, hN, hok⟩, -, -, -, -, -, hr, hr2, hk1, hk2⟩ := h
  have hd : σ kb 11 = nI n ∧ σ kb 12 = σ 0 7 := by
    by_cases z : σ kb 11 = nI n ∧ σ kb 12 = σ 0 7
    · exact z
    · rw [decide_eq_false z] at hz; exact absurd rfl hz
  have key : kI F lv A N r σ kb → kGood F lv A n (dk kb 10 σ) := by
    rintro ⟨-, h1 | ⟨n', q, h2, h3, h4, h5, h6⟩⟩
    · rw [hd.1] at h1
      exact absurd (nI_pos (n := n) (by omega)) (by rw [h1]; decide)
    · have e1 : n = n' := (nI_eq (by omega) (by omega)).mp (hd.1.symm.trans h4)
      have e2 : q = r := (nI_eq (by omega) (by omega)).mp (by rw [← h5, hd.2, hr])
      rw [e1]
      exact h6 e2
  rcases hk with rfl | rfl
  · exact key hk1
  · exact key hk2
def prot (σ : RS) : Nat := if σ 0 10 = 0 then 30 else 40
def kbQ (F : FF) (lv : Nat → Int32) (A : List YL) (P N r la n : Nat) (σ : RS) (sp rl tx : Nat) : Option Value → MW → Prop := fun v w => ∃ kb σ', kb_ok kb ∧ v = some (.ref kb) ∧ w = WD σ' la sp rl tx ∧ cI F lv A P N r la σ' ∧ dK la σ σ' ∧ kGood F lv A n (dk kb 10 σ') ∧ prot σ' = kb ∧ ∀ n', kGood F lv A n' (dk (prot σ) 10 σ) → kGood F lv A n' (dk (prot σ) 10 σ')
theorem dk_flag {F : FF} {lv : Nat → Int32} {A : List YL} {n kb : Nat} {σ : RS} (hk : kb_ok kb) (x : Int32) (g : kGood F lv A n (dk kb 10 σ)) : kGood F lv A n (dk kb 10 (s2 σ 0 10 x)) := by
  have hkb : kb = 30 ∨ kb = 40 := hk
  have e : ∀ c, c ≠ 0 → (s2 σ 0 10 x) c = σ c := fun c hc => s1_ne _ _ hc
  refine kGood_same g (fun c hc => ?_) ?_
  · rw [dk_lo _ _ _ (by omega), dk_lo _ _ _ (by omega)]; exact e _ (by omega)
  · rw [dk_book _ _ _ (by omega) (by omega), dk_book _ _ _ (by omega) (by omega)]; exact e _ (by omega)
theorem dk_other {F : FF} {lv : Nat → Int32} {A : List YL} {n n' m kb kb' la : Nat} {num : Int32} {σ : RS} (hk : kb_ok kb) (hk' : kb_ok kb') (hl : la_ok la) (hne : kb' ≠ kb) (e9 : (dLearn kb la n m num σ) 9 = σ 9) (g : kGood F lv A n' (dk kb' 10 σ)) : kGood F lv A n' (dk kb' 10 (dLearn kb la n m num σ)) := by
  have hkb : kb = 30 ∨ kb = 40 := hk
  have hkb' : kb' = 30 ∨ kb' = 40 := hk'
  have hla : la = 10 ∨ la = 18 := hl
  refine kGood_same g (fun c hc => ?_) ?_
  · rw [dk_lo _ _ _ (by omega), dk_lo _ _ _ (by omega)]
    exact du_out kb la _ _ σ (by omega) (by omega) (by omega) (by omega)
  · rw [dk_book _ _ _ (by omega) (by omega), dk_book _ _ _ (by omega) (by omega)]
    exact e9
theorem kD_knownBy {d : Nat} {F : FF} {lv : Nat → Int32} {A : List YL} {P N r la n : Nat} {σ : RS} (sp rl tx : Nat) (h : cI F lv A P N r la σ) (hn : n ≤ N) : Ok (d + 20) M6_knownBy [.ref 0, .int (nI n)] (WD σ la sp rl tx) (kbQ F lv A P N r la n σ sp rl tx) := by
  have hN := h.2.1.2.1
  have hl := h.1
  have hla : la = 10 ∨ la = 18 := hl
  have hr : σ 0 7 = nI r := h.2.2.2.2.2.2.2.1
  have o1 := kD_isOf (d := d + 19) σ la sp rl tx 30 (Or.inl rfl) (nI n) (σ 0 7)
  have o2 := kD_isOf (d := d + 19) σ la sp rl tx 40 (Or.inr rfl) (nI n) (σ 0 7)
  have lr : ∀ (x : Int32) (kb : Nat), kb_ok kb → Ok (d + 19) M1_learn [.ref kb, .int (nI n), .int (nI r), .ref la] (WD (s2 σ 0 10 x) la sp rl tx) (rt none (WD (dLearn kb la n A.length (nI r) (s2 σ 0 10 x)) la sp rl tx)) := fun x kb hk => kD_learn _ la sp rl tx kb hk h.1 n A.length (nI r) (by omega) (claw_ok (claw_dk (kb' := kb) (cI_old h x).1.2.2.2.2.2.2.1 (fun _ _ => rfl)))
  have fin : ∀ (x : Int32) (kb : Nat), kb_ok kb → (if x = 0 then 30 else 40) = kb → prot σ ≠ kb → kbQ F lv A P N r la n σ sp rl tx (some (.ref kb)) (WD (dLearn kb la n A.length (nI r) (s2 σ 0 10 x)) la sp rl tx) := fun x kb hk hx hp => by
    obtain ⟨c1, c2⟩ := cI_old h x
    obtain ⟨l1, l2, l3⟩ := cI_learn c1 hk hn
    have hkp : kb_ok (prot σ) := by
      unfold prot
      split
      · exact Or.inl rfl
      · exact Or.inr rfl
    have hkb : kb = 30 ∨ kb = 40 := hk
    refine ⟨kb, _, hk, rfl, rfl, l1, c2.trans l2, l3, ?_, fun n' g => dk_other hk hkp hl hp (l2.2 9 (by omega) (by omega) (by omega)) (dk_flag hkp x g)⟩
    unfold prot
    have e0 : (dLearn kb la n A.length (nI r) (s2 σ 0 10 x)) 0 = (s2 σ 0 10 x) 0 := du_out kb la _ _ _ (by omega) (by omega) (by omega) (by omega)
    rw [e0]
    exact hx
  have got : ∀ (x : Int32) (kb : Nat), kb_ok kb → (if x = 0 then 30 else 40) = kb → ¬ bI (decide (σ kb 11 = nI n ∧ σ kb 12 = σ 0 7)) = 0 → kbQ F lv A P N r la n σ sp rl tx (some (.ref kb)) (WD (s2 σ 0 10 x) la sp rl tx) := fun x kb hk hx hz => by
    obtain ⟨c1, c2⟩ := cI_old h x
    have hkp : kb_ok (prot σ) := by
      unfold prot
      split
      · exact Or.inl rfl
      · exact Or.inr rfl
    refine ⟨kb, _, hk, rfl, rfl, c1, c2, ?_, hx, fun n' g => dk_flag hkp x g⟩
    exact kb_isOf c1 hk hn (by
      have hkb : kb = 30 ∨ kb = 40 := hk
      have e1 : (s2 σ 0 10 x) kb = σ kb := s1_ne _ _ (by omega)
      have e2 : (s2 σ 0 10 x) 0 7 = σ 0 7 := rfl
      rw [e1, e2]; exact hz)
  refine Ok.of (ls := [some _, some _, none]) (by decide +kernel) (Nat.le_of_ble_eq_true rfl) rfl ?_
  refine ev_aload_n (pc' := 1) dX6_knownBy_0 rfl rfl ?_
  refine ev_getf (pc' := 4) fl_6_61 dX6_knownBy_1 rfl rfl rfl ?_
  refine ev_iload_n (pc' := 5) dX6_knownBy_4 rfl rfl ?_
  refine ev_aload_n (pc' := 6) dX6_knownBy_5 rfl rfl ?_
  refine ev_getf (pc' := 9) fl_6_46 dX6_knownBy_6 rfl rfl rfl ?_
  refine ev_cVi2 (pc' := 12) cl_6_197 (o1) dX6_knownBy_9 rfl rfl rfl rfl ?_
  refine ev_if_eq (tgt := 25) (pc' := 15) dX6_knownBy_12 (by decide) rfl (fun h_12 => ?_) (fun h_12 => ?_)
  · refine ev_aload_n (pc' := 26) dX6_knownBy_25 rfl rfl ?_
    refine ev_getf (pc' := 29) fl_6_65 dX6_knownBy_26 rfl rfl rfl ?_
    refine ev_iload_n (pc' := 30) dX6_knownBy_29 rfl rfl ?_
    refine ev_aload_n (pc' := 31) dX6_knownBy_30 rfl rfl ?_
    refine ev_getf (pc' := 34) fl_6_46 dX6_knownBy_31 rfl rfl rfl ?_
    refine ev_cVi2 (pc' := 37) cl_6_197 (o2) dX6_knownBy_34 rfl rfl rfl rfl ?_
    refine ev_if_eq (tgt := 50) (pc' := 40) dX6_knownBy_37 (by decide) rfl (fun h_37 => ?_) (fun h_37 => ?_)
    · refine ev_aload_n (pc' := 51) dX6_knownBy_50 rfl rfl ?_
      refine ev_getf (pc' := 54) fl_6_49 dX6_knownBy_51 rfl rfl rfl ?_
      refine ev_if_eq (tgt := 64) (pc' := 57) dX6_knownBy_54 (by decide) rfl (fun h_54 => ?_) (fun h_54 => ?_)
      · have hp : prot σ ≠ 40 := by unfold prot; rw [if_pos h_54]; decide
        refine ev_aload_n (pc' := 65) dX6_knownBy_64 rfl rfl ?_
        refine ev_getf (pc' := 68) fl_6_65 dX6_knownBy_65 rfl rfl rfl ?_
        refine ev_astore_n (pc' := 69) (ls' := [_, _, _]) dX6_knownBy_68 rfl rfl rfl ?_
        refine ev_aload_n (pc' := 70) dX6_knownBy_69 rfl rfl ?_
        refine ev_aload_n (pc' := 71) dX6_knownBy_70 rfl rfl ?_
        refine ev_getf (pc' := 74) fl_6_49 dX6_knownBy_71 rfl rfl rfl ?_
        refine ev_if_ne (tgt := 81) (pc' := 77) dX6_knownBy_74 (by decide) rfl (fun h_74 => ?_) (fun h_74 => ?_)
        · exact absurd h_54 h_74 --
        · refine ev_iconst (pc' := 78) (v := 1) dX6_knownBy_77 rfl (by decide) ?_
          refine ev_goto (tgt := 82) dX6_knownBy_78 (by decide) ?_
          refine ev_putf (pc' := 85) fs_6_49 dX6_knownBy_82 rfl rfl (Nat.le_of_ble_eq_true rfl) (fun _ => rfl) (fun _ => rfl) (WD_p6_10 _ _ _ _ _ _) ?_
          refine ev_aload_n (pc' := 86) dX6_knownBy_85 rfl rfl ?_
          refine ev_iload_n (pc' := 87) dX6_knownBy_86 rfl rfl ?_
          refine ev_aload_n (pc' := 88) dX6_knownBy_87 rfl rfl ?_
          refine ev_getf (pc' := 91) fl_6_46 dX6_knownBy_88 rfl rfl rfl ?_
          refine ev_aload_n (pc' := 92) dX6_knownBy_91 rfl rfl ?_
          rw [show (s2 σ 0 10 _) 0 7 = nI r from hr]
          refine ev_getf (pc' := 95) fl_6_27 dX6_knownBy_92 rfl rfl rfl ?_
          refine ev_cVv3 (pc' := 98) cl_6_200 (lr _ _ (by first | exact Or.inl rfl | exact Or.inr rfl)) dX6_knownBy_95 rfl rfl rfl rfl ?_
          refine ev_aload_n (pc' := 99) dX6_knownBy_98 rfl rfl ?_
          refine ev_areturn rfl (Or.inl ⟨_, rfl⟩) dX6_knownBy_99 ?_
          exact fin _ _ (by first | exact Or.inl rfl | exact Or.inr rfl) rfl hp
      · have hp : prot σ ≠ 30 := by unfold prot; rw [if_neg h_54]; decide
        refine ev_aload_n (pc' := 58) dX6_knownBy_57 rfl rfl ?_
        refine ev_getf (pc' := 61) fl_6_61 dX6_knownBy_58 rfl rfl rfl ?_
        refine ev_goto (tgt := 68) dX6_knownBy_61 (by decide) ?_
        refine ev_astore_n (pc' := 69) (ls' := [_, _, _]) dX6_knownBy_68 rfl rfl rfl ?_
        refine ev_aload_n (pc' := 70) dX6_knownBy_69 rfl rfl ?_
        refine ev_aload_n (pc' := 71) dX6_knownBy_70 rfl rfl ?_
        refine ev_getf (pc' := 74) fl_6_49 dX6_knownBy_71 rfl rfl rfl ?_
        refine ev_if_ne (tgt := 81) (pc' := 77) dX6_knownBy_74 (by decide) rfl (fun h_74 => ?_) (fun h_74 => ?_)
        · refine ev_iconst (pc' := 82) (v := 0) dX6_knownBy_81 rfl (by decide) ?_
          refine ev_putf (pc' := 85) fs_6_49 dX6_knownBy_82 rfl rfl (Nat.le_of_ble_eq_true rfl) (fun _ => rfl) (fun _ => rfl) (WD_p6_10 _ _ _ _ _ _) ?_
          refine ev_aload_n (pc' := 86) dX6_knownBy_85 rfl rfl ?_
          refine ev_iload_n (pc' := 87) dX6_knownBy_86 rfl rfl ?_
          refine ev_aload_n (pc' := 88) dX6_knownBy_87 rfl rfl ?_
          refine ev_getf (pc' := 91) fl_6_46 dX6_knownBy_88 rfl rfl rfl ?_
          refine ev_aload_n (pc' := 92) dX6_knownBy_91 rfl rfl ?_
          rw [show (s2 σ 0 10 _) 0 7 = nI r from hr]
          refine ev_getf (pc' := 95) fl_6_27 dX6_knownBy_92 rfl rfl rfl ?_
          refine ev_cVv3 (pc' := 98) cl_6_200 (lr _ _ (by first | exact Or.inl rfl | exact Or.inr rfl)) dX6_knownBy_95 rfl rfl rfl rfl ?_
          refine ev_aload_n (pc' := 99) dX6_knownBy_98 rfl rfl ?_
          refine ev_areturn rfl (Or.inl ⟨_, rfl⟩) dX6_knownBy_99 ?_
          exact fin _ _ (by first | exact Or.inl rfl | exact Or.inr rfl) rfl hp
        · exact absurd h_74 h_54 --
    · refine ev_aload_n (pc' := 41) dX6_knownBy_40 rfl rfl ?_
      refine ev_iconst (pc' := 42) (v := 1) dX6_knownBy_41 rfl (by decide) ?_
      refine ev_putf (pc' := 45) fs_6_49 dX6_knownBy_42 rfl rfl (Nat.le_of_ble_eq_true rfl) (fun _ => rfl) (fun _ => rfl) (WD_p6_10 _ _ _ _ _ _) ?_
      refine ev_aload_n (pc' := 46) dX6_knownBy_45 rfl rfl ?_
      refine ev_getf (pc' := 49) fl_6_65 dX6_knownBy_46 rfl rfl rfl ?_
      refine ev_areturn rfl (Or.inl ⟨_, rfl⟩) dX6_knownBy_49 ?_
      exact got _ 40 (Or.inr rfl) rfl h_37
  · refine ev_aload_n (pc' := 16) dX6_knownBy_15 rfl rfl ?_
    refine ev_iconst (pc' := 17) (v := 0) dX6_knownBy_16 rfl (by decide) ?_
    refine ev_putf (pc' := 20) fs_6_49 dX6_knownBy_17 rfl rfl (Nat.le_of_ble_eq_true rfl) (fun _ => rfl) (fun _ => rfl) (WD_p6_10 _ _ _ _ _ _) ?_
    refine ev_aload_n (pc' := 21) dX6_knownBy_20 rfl rfl ?_
    refine ev_getf (pc' := 24) fl_6_61 dX6_knownBy_21 rfl rfl rfl ?_
    refine ev_areturn rfl (Or.inl ⟨_, rfl⟩) dX6_knownBy_24 ?_
    exact got _ 30 (Or.inl rfl) rfl h_12
