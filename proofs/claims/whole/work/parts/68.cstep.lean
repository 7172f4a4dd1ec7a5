/-! The class holds a paper: the state goes on. -/
theorem chain9 (f : Nat → Int32) (v0 v1 v2 v3 v4 v5 v6 v7 v8 : Int32) : ∀ w, w < 9 → (putF 9 (putF 9 (putF 9 (putF 9 (putF 9 (putF 9 (putF 9 (putF 9 (putF 9 f 0 v0) 1 v1) 2 v2) 3 v3) 4 v4) 5 v5) 6 v6) 7 v7) 8 v8) w = if w = 0 then v0 else if w = 1 then v1 else if w = 2 then v2 else if w = 3 then v3 else if w = 4 then v4 else if w = 5 then v5 else if w = 6 then v6 else if w = 7 then v7 else v8 := by
  have p : ∀ (k : Nat), k < 9 → ∀ (f : Nat → Int32) (v : Int32), putF 9 f (nI k) v = upd f k v := fun k hk f v => putF_nI f v hk (by omega)
  have p0 : ∀ f v, putF 9 f 0 v = upd f 0 v := p 0 (by omega)
  have p1 : ∀ f v, putF 9 f 1 v = upd f 1 v := p 1 (by omega)
  have p2 : ∀ f v, putF 9 f 2 v = upd f 2 v := p 2 (by omega)
  have p3 : ∀ f v, putF 9 f 3 v = upd f 3 v := p 3 (by omega)
  have p4 : ∀ f v, putF 9 f 4 v = upd f 4 v := p 4 (by omega)
  have p5 : ∀ f v, putF 9 f 5 v = upd f 5 v := p 5 (by omega)
  have p6 : ∀ f v, putF 9 f 6 v = upd f 6 v := p 6 (by omega)
  have p7 : ∀ f v, putF 9 f 7 v = upd f 7 v := p 7 (by omega)
  have p8 : ∀ f v, putF 9 f 8 v = upd f 8 v := p 8 (by omega)
  rw [p0, p1, p2, p3, p4, p5, p6, p7, p8]
  intro w hw
  rcases (show w = 0 ∨ w = 1 ∨ w = 2 ∨ w = 3 ∨ w = 4 ∨ w = 5 ∨ w = 6 ∨ w = 7 ∨ w = 8 by omega) with rfl | rfl | rfl | rfl | rfl | rfl | rfl | rfl | rfl <;> rfl
def cT (F : FF) (lv : Nat → Int32) (A : List YL) (P N n : Nat) (σ : RS) : Prop := (P ≤ 8 ∧ N ≤ 120 ∧ n ≤ N ∧ ∀ k, k < N → okF P F k) ∧ σ 0 11 = nI n ∧ σ 10 8 = nI N ∧ cFacts N F σ ∧ (∀ p, p < P → σ 11 p = lv p) ∧ claw (lw σ) A
theorem cT_same {F : FF} {lv : Nat → Int32} {A : List YL} {P N n : Nat} {σ τ : RS} (h : cT F lv A P N n σ) (g : kn_same σ τ) : cT F lv A P N n τ := by
  obtain ⟨h1, h2, h3, h4, h5, h6⟩ := h
  obtain ⟨g0, g3, gb, gl⟩ := g
  refine ⟨h1, by rw [g0]; exact h2, by rw [gb 10 (by omega) (by omega)]; exact h3, fun k hk => ?_, fun p hp => by rw [gb 11 (by omega) (by omega)]; exact h5 p hp, claw_same (fun k k1 k2 => ?_) ?_ h6⟩
  · rw [gb 12 (by omega) (by omega), gb 13 (by omega) (by omega), gb 14 (by omega) (by omega), gb 15 (by omega) (by omega), gb 16 (by omega) (by omega), gb 17 (by omega) (by omega)]
    exact h4 k hk
  · show (if k = 8 then τ 8 else τ (22 + k)) = (if k = 8 then σ 8 else σ (22 + k))
    rw [if_neg (by omega), if_neg (by omega)]
    exact gl _ (by omega)
  · show (if 0 = 8 then τ 8 else τ (22 + 0)) 8 = (if 0 = 8 then σ 8 else σ (22 + 0)) 8
    rw [if_neg (by omega), if_neg (by omega), gl _ (by omega)]
/-- a loan's vars, by the class -/
theorem kn_vars_at {F : FF} {lv : Nat → Int32} {A : List YL} {P N n i f : Nat} {σ : RS} {S : SS} (hT : cT F lv A P N n σ) (hf : f < n) (hs : F 0 f = 0) (hlv : lvR S.1 S.2.1 (σ 4) (σ 5) (σ 6) i) (hrow : ∀ j, j < 64 → σ 7 (i * 64 + j) = S.2.2.1 j) (hi : i < 120) : ∀ w, w < 9 → (kn_vars σ i n (nI f)) 8 w = sp_vars F lv n f S w := by
  obtain ⟨⟨hP, hN, hn, hok⟩, h11, h8, hF, hl, hlw⟩ := hT
  obtain ⟨⟨b0, b1, b2, b3, b4, b5, b6⟩, c1, -⟩ := hok f (by omega)
  obtain ⟨d1, d2, d3, d4⟩ := c1 (by omega)
  obtain ⟨q12, q13, q1, -⟩ := hF f (by omega)
  have q13 := q13 (by omega)
  obtain ⟨q14, q15, q16, q17⟩ := q1 (by omega)
  have at120 : ∀ g : Nat → Int32, atF 120 g (nI f) = g f := fun g => atF_nI _ (by omega) (by omega)
  have hk := c_kind hF h8 hN (show f < N by omega)
  have hleaf : kn_leaf σ (nI f) = nI (F 4 f * 400 + F 5 f) := by
    unfold kn_leaf
    rw [hk, if_neg (by rw [hs]; decide), at120, at120, q15, q16, show nI (F 4 f) * (400 : Int32) = nI (F 4 f * 400) from nI_mul _ 400, nI_add]
  have hcell : ∀ x y, x < 8 → y < 8 → kn_debt σ (nI i) (nI x) (nI y) = S.2.2.1 (8 * x + y) := fun x y hx hy => by
    unfold kn_debt
    rw [show nI i * (64 : Int32) = nI (i * 64) from nI_mul i 64, show nI x * (8 : Int32) = nI (x * 8) from nI_mul x 8, nI_add, nI_add, atF_nI _ (by omega) (by omega), ← hrow _ (by omega)]
    congr 1
    omega
  intro w hw
  unfold kn_vars
  rw [s1_same, at120, at120, at120, at120, at120, q13, q14, q15, q16, q17, hleaf, chain9 _ _ _ _ _ _ _ _ _ _ w hw]
  unfold sp_vars
  rcases (show w = 0 ∨ w = 1 ∨ w = 2 ∨ w = 3 ∨ w = 4 ∨ w = 5 ∨ w = 6 ∨ w = 7 ∨ w = 8 by omega) with rfl | rfl | rfl | rfl | rfl | rfl | rfl | rfl | rfl
  · exact (if_pos rfl).trans (if_pos rfl).symm
  · exact ((if_neg (show ¬ (1 : Nat) = 0 by decide)).trans (if_pos rfl)).trans ((if_neg (show ¬ (1 : Nat) = 0 by decide)).trans (if_pos rfl)).symm
  · show bI (b_feast (bk σ) (nI (F 5 f)) n) = bI (sfeast F (F 5 f) n)
    rw [c_feast hF hok h8 hN b5 n hn]
  · show nI (F 5 f) - nI (F 1 f) = nI (F 5 f) - nI (F 1 f)
    exact Eq.refl _
  · exact (hlv.1 (F 4 f) (F 5 f) b4 b5).2
  · show bI (decide (nI (F 4 f) = nI (F 2 f))) = bI (decide (F 4 f = F 2 f))
    congr 1
    exact decide_eq_decide.mpr (nI_eq (by omega) (by omega))
  · exact hcell _ _ b3 b2
  · exact sum_like 8 (fun o ho => hcell _ _ b3 ho)
  · show kn_age σ (nI (F 3 f)) (nI (F 1 f)) i = m_ageOut S.1 (nI (F 3 f)) (F 1 f) (lv (F 3 f)) 8
    rw [ageOut_cout, (hlv.2 (F 3 f) (F 1 f) b3 b1).1]
    unfold kn_age
    rw [atF_nI _ b3 (by omega), hl _ d2]
    simp only [Int32.add_assoc]
/-- a paper's place, behind the why: reasons, gifts, the row of debts -/
def kn_put (σ : RS) (i f : Nat) (wy : Int32) (leaf : Int32) : RS :=
  s1 (s1 (s1 (s1 (s1 σ 1 (upd (σ 1) f wy)) 4 (upd (σ 4) i (if wy = 0 then leaf else -1))) 5 (upd (σ 5) i (σ 14 f))) 6 (upd (σ 6) i (σ 17 f))) 7 (va_cpy (σ 7) (σ 7) (i * 64) ((i + 1) * 64) 64)
theorem kn_lrn1_eq {F : FF} {lv : Nat → Int32} {A : List YL} {P N n i f m : Nat} {σ : RS} {g : Nat → Int32} (hT : cT F lv A P N n σ) (h3 : σ 3 i = nI f) (hf : f < n) (hi : i < 120) : ∃ w : Int32 × RS × (Nat → Int32), w = kn_why σ i n m (nI f) g ∧ (kn_same σ w.2.1 → kn_lrn1 σ i n m g = if w.1 = 0 then kn_follow (kn_put w.2.1 i f w.1 (if F 0 f = 2 then -1 else σ 15 f * 400 + σ 16 f)) (i + 1) m (nI f) w.2.2 else (kn_put w.2.1 i f w.1 (if F 0 f = 2 then -1 else σ 15 f * 400 + σ 16 f), w.2.2)) := by
  obtain ⟨⟨hP, hN, hn, hok⟩, h11, h8, hF, hl, hlw⟩ := hT
  have b0 := (hok f (by omega)).1.1
  have hp : ∀ (g : Nat → Int32) (v : Int32), putF 120 g (nI f) v = upd g f v := fun g v => putF_nI g v (by omega) (by omega)
  have hpi : ∀ (g : Nat → Int32) (v : Int32), putF 120 g (nI i) v = upd g i v := fun g v => putF_nI g v (by omega) (by omega)
  have hat : ∀ (g : Nat → Int32), atF 120 g (nI f) = g f := fun g => atF_nI g (by omega) (by omega)
  refine ⟨_, rfl, fun hsame => ?_⟩
  unfold kn_lrn1
  rw [h3]
  dsimp only
  generalize kn_why σ i n m (nI f) g = w at *
  rw [hp, hpi, hpi, hpi, hat, hat]
  have hleaf : kn_leaf (s1 w.2.1 1 (upd (w.2.1 1) f w.1)) (nI f) = (if F 0 f = 2 then -1 else σ 15 f * 400 + σ 16 f) := by
    have hF2 : cFacts N F w.2.1 := fun k hk => by
      have e := hsame.2.2.1
      rw [e 12 (by omega) (by omega), e 13 (by omega) (by omega), e 14 (by omega) (by omega), e 15 (by omega) (by omega), e 16 (by omega) (by omega), e 17 (by omega) (by omega)]
      exact hF k hk
    have hk : b_kind (bk (s1 w.2.1 1 (upd (w.2.1 1) f w.1))) (nI f) = nI (F 0 f) := by
      rw [bk_s1 _ (by omega)]
      exact c_kind hF2 (by rw [hsame.2.2.1 10 (by omega) (by omega)]; exact h8) hN (by omega)
    unfold kn_leaf
    rw [hk, hat, hat]
    have c2 : (nI (F 0 f) = 2) ↔ F 0 f = 2 := nI_eq (a := F 0 f) (b := 2) (by omega) (by omega)
    by_cases z : F 0 f = 2
    · rw [if_pos (c2.mpr z), if_pos z]
    · rw [if_neg (fun q => z (c2.mp q)), if_neg z]
      show w.2.1 15 f * 400 + w.2.1 16 f = _
      rw [hsame.2.2.1 15 (by omega) (by omega), hsame.2.2.1 16 (by omega) (by omega)]
  rw [hleaf]
  rfl
theorem lw_claw {σ τ : RS} {A : List YL} (h : claw (lw σ) A) (g : ∀ j, 22 ≤ j → τ j = σ j) : claw (lw τ) A := claw_same (fun k k1 k2 => by
  show (if k = 8 then τ 8 else τ (22 + k)) = (if k = 8 then σ 8 else σ (22 + k))
  rw [if_neg (by omega), if_neg (by omega)]
  exact g _ (by omega)) (by
  show (if 0 = 8 then τ 8 else τ (22 + 0)) 8 = (if 0 = 8 then σ 8 else σ (22 + 0)) 8
  rw [if_neg (by omega), if_neg (by omega), g _ (by omega)]) h
/-- what a step leaves -/
def cPost (F : FF) (n i f : Nat) (σ τ : RS) (S S' : SS) : Prop :=
  (τ 1 = upd (σ 1) f (S'.2.2.2.1 f) ∧ (∀ j, j ≠ f → τ 2 j = σ 2 j) ∧ (F 0 f = 0 → S'.2.2.2.1 f = 4 ∨ S'.2.2.2.1 f = 0 → τ 2 f = S'.2.2.2.2 f)) ∧ (τ 4 = upd (σ 4) i (if S'.2.2.2.1 f = 0 ∧ F 0 f ≤ 1 then nI (F 4 f * 400 + F 5 f) else -1) ∧ τ 5 = upd (σ 5) i (σ 14 f) ∧ τ 6 = upd (σ 6) i (σ 17 f)) ∧ (∀ x, x < (i + 1) * 64 → τ 7 x = σ 7 x) ∧ (∀ j, j < 64 → τ 7 ((i + 1) * 64 + j) = S'.2.2.1 j) ∧ kn_same σ τ ∧ lvR S'.1 S'.2.1 (τ 4) (τ 5) (τ 6) (i + 1) ∧ ∀ j, j ≠ f → S'.2.2.2.1 j = S.2.2.2.1 j ∧ S'.2.2.2.2 j = S.2.2.2.2 j
theorem c_step {F : FF} {lv : Nat → Int32} {A : List YL} {P N n i f : Nat} {σ : RS} {S : SS} {g : Nat → Int32} (hT : cT F lv A P N n σ) (h3 : σ 3 i = nI f) (hf : f < n) (hs : F 0 f ≤ 2) (hi : i < 120) (hI : sInv P i S) (hlv : lvR S.1 S.2.1 (σ 4) (σ 5) (σ 6) i) (hrow : ∀ j, j < 64 → σ 7 (i * 64 + j) = S.2.2.1 j) (hre : σ 1 f = bI (sforged F f n)) : cPost F n i f σ (kn_lrn1 σ i n A.length g).1 S (sp_step F lv A n f S) := by
  obtain ⟨w, hw, hL⟩ := kn_lrn1_eq (m := A.length) (g := g) hT h3 hf hi
  have hT0 := hT
  obtain ⟨⟨hP, hN, hn, hok⟩, h11, h8, hF, hl, hlw⟩ := hT
  have hok0 := hok f (by omega)
  obtain ⟨lf1, lf2, lf3⟩ := fLeaf_lt hok0
  obtain ⟨⟨b0, b1, b2, b3, b4, b5, b6⟩, c1, -⟩ := hok0
  obtain ⟨q12, q13, q1, -⟩ := hF f (by omega)
  have q13 := q13 hs
  have hat : ∀ (g : Nat → Int32), atF 120 g (nI f) = g f := fun g => atF_nI g (by omega) (by omega)
  obtain ⟨σa, hσa⟩ : ∃ τ, τ = σ := ⟨_, rfl⟩
  rw [← hσa] at hw
  have a_ne : ∀ c, c ≠ 2 → σa c = σ c := fun c hc => by rw [hσa]
  have a2 : ∀ j, j ≠ f → σa 2 j = σ 2 j := fun j hj => by rw [hσa]
  have sa : kn_same σ σa := by rw [hσa]; exact kn_same.refl σ
  have hTa := cT_same hT0 sa
  have hbk : b_kind (bk σa) (nI f) = nI (F 0 f) := c_kind hTa.2.2.2.1 hTa.2.2.1 hN (by omega)
  have kw2 : (nI (F 0 f) = 2) ↔ F 0 f = 2 := nI_eq (a := F 0 f) (b := 2) (by omega) (by omega)
  have kw1 : (nI (F 0 f) = 1) ↔ F 0 f = 1 := nI_eq (a := F 0 f) (b := 1) (by omega) (by omega)
  -- a void one
  have void : ∀ (x : Int32) (σw : RS), ¬ x = 0 → (∀ c, c ≠ 2 → c ≠ 8 → σw c = σ c) → (∀ j, j ≠ f → σw 2 j = σ 2 j) → ∀ (lf : Int32) (S' : SS), S'.1 = S.1 → S'.2.1 = S.2.1 → S'.2.2.1 = S.2.2.1 → S'.2.2.2.1 = upd S.2.2.2.1 f x → (∀ j, j ≠ f → S'.2.2.2.2 j = S.2.2.2.2 j) → (F 0 f = 0 → x = 4 → σw 2 f = S'.2.2.2.2 f) → kn_same σ σw → cPost F n i f σ (kn_put σw i f x lf) S S' := by
    intro x σw hx hc hc2 lf S' e1 e2 e3 e4 e5 e6 hsm
    have ew : S'.2.2.2.1 f = x := by rw [e4]; exact upd_same _ _ _
    refine ⟨⟨?_, hc2, fun h0 hh => ?_⟩, ⟨?_, ?_, ?_⟩, fun x hx => ?_, fun j hj => ?_, ?_, ?_, fun j hj => ⟨by rw [e4]; exact upd_ne _ _ hj, e5 j hj⟩⟩
    · show upd (σw 1) f x = _
      rw [ew, hc 1 (by decide) (by decide)]
    · rw [ew] at hh
      exact e6 h0 (hh.resolve_right hx)
    · show upd (σw 4) i (if x = 0 then lf else -1) = _
      rw [ew, if_neg hx, if_neg (fun z => hx z.1), hc 4 (by decide) (by decide)]
    · show upd (σw 5) i (σw 14 f) = _
      rw [hc 5 (by decide) (by decide), hc 14 (by decide) (by decide)]
    · show upd (σw 6) i (σw 17 f) = _
      rw [hc 6 (by decide) (by decide), hc 17 (by decide) (by decide)]
    · show va_cpy (σw 7) (σw 7) (i * 64) ((i + 1) * 64) 64 x = _
      unfold va_cpy
      rw [if_neg (by omega), hc 7 (by decide) (by decide)]
    · show va_cpy (σw 7) (σw 7) (i * 64) ((i + 1) * 64) 64 ((i + 1) * 64 + j) = _
      unfold va_cpy
      rw [if_pos (by omega), hc 7 (by decide) (by decide), show i * 64 + ((i + 1) * 64 + j - (i + 1) * 64) = i * 64 + j by omega, e3]
      exact hrow j hj
    · unfold kn_put
      exact ((((hsm.s1 (by omega) _).s1 (by omega) _).s1 (by omega) _).s1 (by omega) _).s1 (by omega) _
    · rw [e1, e2]
      refine lvR_none hlv (fun j hj => ⟨?_, ?_, ?_⟩) ?_
      · show upd (σw 4) i _ j = _
        rw [upd_ne _ _ (by omega), hc 4 (by decide) (by decide)]
      · show upd (σw 5) i _ j = _
        rw [upd_ne _ _ (by omega), hc 5 (by decide) (by decide)]
      · show upd (σw 6) i _ j = _
        rw [upd_ne _ _ (by omega), hc 6 (by decide) (by decide)]
      · show upd (σw 4) i (if x = 0 then lf else -1) i = _
        rw [upd_same, if_neg hx]
  -- a void one, but for a loan that is banned
  have void1 : ∀ (x : Int32), ¬ x = 0 → ¬ x = 4 → w = (x, σa, g) → cPost F n i f σ (kn_lrn1 σ i n A.length g).1 S (ss_why S f x) := by
    intro x hx hx4 he
    rw [he] at hL
    rw [hL sa, if_neg hx]
    exact void x σa hx (fun c c2 _ => a_ne c c2) a2 _ (ss_why S f x) rfl rfl rfl rfl (fun _ _ => rfl) (fun _ z => absurd z hx4) sa
  unfold kn_why at hw
  rw [hat, a_ne 1 (by decide), hre] at hw
  unfold sp_step
  by_cases hfg : sforged F f n = true
  · rw [hfg, if_pos (show bI true = 1 from rfl)] at hw
    rw [if_pos hfg]
    exact void1 1 (by decide) (by decide) hw
  have hfg0 : sforged F f n = false := by simpa using hfg
  rw [hfg0, if_neg (show ¬ bI false = 1 by decide), hbk] at hw
  rw [if_neg hfg]
  by_cases h2 : F 0 f = 2
  · rw [if_pos (kw2.mpr h2)] at hw
    rw [if_pos h2]
    rw [hw] at hL
    rw [hL sa, if_pos rfl]
    obtain ⟨σ5, h5⟩ : ∃ τ, τ = kn_put σa i f 0 (if F 0 f = 2 then -1 else σ 15 f * 400 + σ 16 f) := ⟨_, rfl⟩
    have s5 : kn_same σ σ5 := by
      rw [h5]
      unfold kn_put
      exact ((((sa.s1 (by omega) _).s1 (by omega) _).s1 (by omega) _).s1 (by omega) _).s1 (by omega) _
    rw [← h5]
    have hbk5 : b_kind (bk σ5) (nI f) = nI (F 0 f) := c_kind (cT_same hT0 s5).2.2.2.1 (cT_same hT0 s5).2.2.1 hN (by omega)
    unfold kn_follow
    rw [hbk5, if_pos (kw2.mpr h2)]
    have r5 : ∀ j, j < 64 → σ5 7 ((i + 1) * 64 + j) = S.2.2.1 j := fun j hj => by
      rw [h5]
      show va_cpy (σa 7) (σa 7) (i * 64) ((i + 1) * 64) 64 ((i + 1) * 64 + j) = _
      unfold va_cpy
      rw [if_pos (by omega), a_ne 7 (by decide), show i * 64 + ((i + 1) * 64 + j - (i + 1) * 64) = i * 64 + j by omega]
      exact hrow j hj
    have o5 : ∀ x, x < (i + 1) * 64 → σ5 7 x = σ 7 x := fun x hx => by
      rw [h5]
      show va_cpy (σa 7) (σa 7) (i * 64) ((i + 1) * 64) 64 x = _
      unfold va_cpy
      rw [if_neg (by omega), a_ne 7 (by decide)]
    have hload : like64 ((rg (kn_loaded σ5 (i + 1))) 1) S.2.2.1 := fun j hj => by
      show va_cpy (σ5 7) (σ5 19) ((i + 1) * 64) 0 64 j = _
      unfold va_cpy
      rw [if_pos (by omega), show (i + 1) * 64 + (j - 0) = (i + 1) * 64 + j by omega]
      exact r5 j hj
    have hmt := meetc_mtS (B := 100 * i) (by omega) hP 64 (rg (kn_loaded σ5 (i + 1))) (obd_like hload.symm hI.1)
    have hres : like64 ((kn_met σ5 (i + 1)) 19) (mtS 64 S.2.2.1) := by
      have e : (kn_met σ5 (i + 1)) 19 = (r_meet 64 (rg (kn_loaded σ5 (i + 1)))) 1 := by
        unfold kn_met rgp
        exact if_pos (by omega)
      rw [e, hmt.1]
      exact mtS_like 64 _ _ hload
    have met_ne : ∀ c, c < 18 ∨ 21 < c → (kn_met σ5 (i + 1)) c = σ5 c := fun c hc => by
      unfold kn_met
      rw [rgp_ne _ _ hc]
      exact s1_ne _ _ (by omega)
    have sM : kn_same σ (kn_fMeet σ5 (i + 1)) := by
      have := kn_follow_same s5 (i + 1) A.length (nI f) g
      unfold kn_follow at this
      rw [hbk5, if_pos (kw2.mpr h2)] at this
      exact this
    show cPost F n i f σ (kn_fMeet σ5 (i + 1)) S _
    have fm : ∀ c, c ≠ 7 → c < 18 → (kn_fMeet σ5 (i + 1)) c = σ5 c := fun c c7 c18 => by
      unfold kn_fMeet
      rw [s1_ne _ _ c7, met_ne c (by omega)]
    refine ⟨⟨?_, fun j hj => ?_, fun z => by omega⟩, ⟨?_, ?_, ?_⟩, fun x hx => ?_, fun j hj => ?_, sM, ?_, fun j hj => ⟨upd_ne _ _ hj, rfl⟩⟩
    · rw [fm 1 (by omega) (by omega), h5]
      show upd (σa 1) f 0 = upd (σ 1) f (upd S.2.2.2.1 f 0 f)
      rw [upd_same, a_ne 1 (by decide)]
    · rw [fm 2 (by omega) (by omega), h5]
      exact a2 j hj
    · rw [fm 4 (by omega) (by omega), h5]
      show upd (σa 4) i (if (0 : Int32) = 0 then (if F 0 f = 2 then -1 else σ 15 f * 400 + σ 16 f) else -1) = _
      rw [if_pos rfl, if_pos h2, if_neg (fun z => by omega), a_ne 4 (by decide)]
    · rw [fm 5 (by omega) (by omega), h5]
      show upd (σa 5) i (σa 14 f) = _
      rw [a_ne 5 (by decide), a_ne 14 (by decide)]
    · rw [fm 6 (by omega) (by omega), h5]
      show upd (σa 6) i (σa 17 f) = _
      rw [a_ne 6 (by decide), a_ne 17 (by decide)]
    · unfold kn_fMeet
      rw [s1_same]
      unfold va_cpy
      rw [if_neg (by omega), met_ne 7 (by omega)]
      exact o5 x hx
    · unfold kn_fMeet
      rw [s1_same]
      unfold va_cpy
      rw [if_pos (by omega), show 0 + ((i + 1) * 64 + j - (i + 1) * 64) = j by omega]
      exact hres j hj
    · show lvR S.1 S.2.1 _ _ _ (i + 1)
      rw [fm 4 (by omega) (by omega), fm 5 (by omega) (by omega), fm 6 (by omega) (by omega), h5]
      refine lvR_none hlv (fun j hj => ⟨?_, ?_, ?_⟩) ?_
      · show upd (σa 4) i _ j = _
        rw [upd_ne _ _ (by omega), a_ne 4 (by decide)]
      · show upd (σa 5) i _ j = _
        rw [upd_ne _ _ (by omega), a_ne 5 (by decide)]
      · show upd (σa 6) i _ j = _
        rw [upd_ne _ _ (by omega), a_ne 6 (by decide)]
      · show upd (σa 4) i (if (0 : Int32) = 0 then (if F 0 f = 2 then -1 else σ 15 f * 400 + σ 16 f) else -1) i = _
        rw [upd_same, if_pos rfl, if_pos h2]
  have hk1 : F 0 f ≤ 1 := by omega
  obtain ⟨d1, d2, d3, d4⟩ := c1 hk1
  obtain ⟨q14, q15, q16, q17⟩ := q1 hk1
  have hlf : σ 15 f * 400 + σ 16 f = nI (F 4 f * 400 + F 5 f) := by
    rw [q15, q16, show nI (F 4 f) * (400 : Int32) = nI (F 4 f * 400) from nI_mul _ 400, nI_add]
  have hleafa : kn_leaf σa (nI f) = nI (F 4 f * 400 + F 5 f) := by
    unfold kn_leaf
    rw [hbk, if_neg (fun z => h2 (kw2.mp z)), hat, hat, a_ne 15 (by decide), a_ne 16 (by decide), hlf]
  rw [if_neg (fun z => h2 (kw2.mp z)), hleafa, hat, hat, hat, hat, hat, a_ne 15 (by decide), a_ne 14 (by decide), a_ne 16 (by decide), a_ne 13 (by decide), a_ne 17 (by decide), a_ne 4 (by decide), a_ne 6 (by decide), q14, q15, q16, q13, q17, (hlv.1 (F 4 f) (F 5 f) b4 b5).1] at hw
  rw [if_neg h2]
  have hfl : fLeaf F f = 400 * F 4 f + F 5 f := rfl
  by_cases hn2 : ¬ S.1 (fLeaf F f) = nI (F 2 f)
  · rw [if_pos (show ¬ S.1 (400 * F 4 f + F 5 f) = nI (F 2 f) from hn2)] at hw
    rw [if_pos hn2]
    exact void1 2 (by decide) (by decide) hw
  have hh2 : S.1 (fLeaf F f) = nI (F 2 f) := Classical.not_not.mp hn2
  rw [if_neg (show ¬ ¬ S.1 (400 * F 4 f + F 5 f) = nI (F 2 f) from fun z => z hh2)] at hw
  rw [if_neg hn2]
  have hday : (nI (F 5 f) ≤ nI (F 1 f)) ↔ F 5 f ≤ F 1 f := nI_leI (by omega) (by omega)
  by_cases hd : F 5 f ≤ F 1 f
  · rw [if_pos (hday.mpr hd)] at hw
    rw [if_pos hd]
    exact void1 3 (by decide) (by decide) hw
  rw [if_neg (fun z => hd (hday.mp z))] at hw
  rw [if_neg hd]
  have hidx : ∀ x y, nI (i + 1) * 64 + nI x * 8 + nI y = nI ((i + 1) * 64 + (8 * x + y)) := fun x y => by
    rw [show nI (i + 1) * (64 : Int32) = nI ((i + 1) * 64) from nI_mul _ 64, show nI x * (8 : Int32) = nI (x * 8) from nI_mul x 8, nI_add, nI_add]
    congr 1
    omega
  -- a good one
  have good : ∀ (σw τ : RS) (J : Nat) (X : Int32) (S' : SS), J < 64 → (∀ c, c ≠ 2 → c ≠ 8 → σw c = σ c) → (∀ c, c ≠ 2 → c ≠ 7 → c < 18 → τ c = (kn_put σw i f 0 (nI (F 4 f * 400 + F 5 f))) c) → τ 7 = upd ((kn_put σw i f 0 (nI (F 4 f * 400 + F 5 f))) 7) ((i + 1) * 64 + J) X → (∀ j, j ≠ f → τ 2 j = σ 2 j) → (F 0 f = 0 → τ 2 f = S'.2.2.2.2 f) → kn_same σ τ → S'.1 = upd S.1 (fLeaf F f) (nI (F 3 f)) → S'.2.1 = upd S.2.1 (fLeaf F f) (S.2.1 (fLeaf F f) + 1) → S'.2.2.1 = upd S.2.2.1 J X → S'.2.2.2.1 = upd S.2.2.2.1 f 0 → (∀ j, j ≠ f → S'.2.2.2.2 j = S.2.2.2.2 j) → cPost F n i f σ τ S S' := by
    intro σw τ J X S' hJ hc ht t7 t2 t2f hsm e1 e2 e3 e4 e5
    have ew : S'.2.2.2.1 f = 0 := by rw [e4]; exact upd_same _ _ _
    have p4 : τ 4 = upd (σ 4) i (nI (F 4 f * 400 + F 5 f)) := by
      rw [ht 4 (by decide) (by decide) (by decide)]
      show upd (σw 4) i (if (0 : Int32) = 0 then nI (F 4 f * 400 + F 5 f) else -1) = _
      rw [if_pos rfl, hc 4 (by decide) (by decide)]
    have p5 : τ 5 = upd (σ 5) i (σ 14 f) := by
      rw [ht 5 (by decide) (by decide) (by decide)]
      show upd (σw 5) i (σw 14 f) = _
      rw [hc 5 (by decide) (by decide), hc 14 (by decide) (by decide)]
    have p6 : τ 6 = upd (σ 6) i (σ 17 f) := by
      rw [ht 6 (by decide) (by decide) (by decide)]
      show upd (σw 6) i (σw 17 f) = _
      rw [hc 6 (by decide) (by decide), hc 17 (by decide) (by decide)]
    have p7 : ∀ x, (kn_put σw i f 0 (nI (F 4 f * 400 + F 5 f))) 7 x = va_cpy (σ 7) (σ 7) (i * 64) ((i + 1) * 64) 64 x := fun x => by
      show va_cpy (σw 7) (σw 7) (i * 64) ((i + 1) * 64) 64 x = _
      rw [hc 7 (by decide) (by decide)]
    refine ⟨⟨?_, t2, fun h0 _ => t2f h0⟩, ⟨?_, p5, p6⟩, fun x hx => ?_, fun j hj => ?_, hsm, ?_, fun j hj => ⟨by rw [e4]; exact upd_ne _ _ hj, e5 j hj⟩⟩
    · rw [ht 1 (by decide) (by decide) (by decide), ew]
      show upd (σw 1) f 0 = _
      rw [hc 1 (by decide) (by decide)]
    · rw [p4, if_pos ⟨ew, hk1⟩]
    · rw [t7, upd_ne _ _ (by omega), p7]
      unfold va_cpy
      rw [if_neg (by omega)]
    · rw [t7, e3]
      by_cases e : j = J
      · rw [e, upd_same, upd_same]
      · rw [upd_ne _ _ (by omega), upd_ne _ _ e, p7]
        unfold va_cpy
        rw [if_pos (by omega), show i * 64 + ((i + 1) * 64 + j - (i + 1) * 64) = i * 64 + j by omega]
        exact hrow j hj
    · rw [e1, e2]
      refine lvR_gift (q := F 4 f) (y0 := F 5 f) (a := F 2 f) (b := F 3 f) hlv (fun j hj => ⟨?_, ?_, ?_⟩) b4 b5 b2 b3 ?_ ?_ ?_ hh2
      · rw [p4]; exact upd_ne _ _ (by omega)
      · rw [p5]; exact upd_ne _ _ (by omega)
      · rw [p6]; exact upd_ne _ _ (by omega)
      · rw [p4]; exact upd_same _ _ _
      · rw [p5, q14]; exact upd_same _ _ _
      · rw [p6, q17]; exact upd_same _ _ _
  have hput7 : ∀ (σw : RS) (j : Nat), j < 64 → (∀ c, c ≠ 2 → c ≠ 8 → σw c = σ c) → (kn_put σw i f 0 (nI (F 4 f * 400 + F 5 f))) 7 ((i + 1) * 64 + j) = S.2.2.1 j := fun σw j hj hc => by
    show va_cpy (σw 7) (σw 7) (i * 64) ((i + 1) * 64) 64 ((i + 1) * 64 + j) = _
    unfold va_cpy
    rw [if_pos (by omega), hc 7 (by decide) (by decide), show i * 64 + ((i + 1) * 64 + j - (i + 1) * 64) = i * 64 + j by omega]
    exact hrow j hj
  have hsput : ∀ (σw : RS) (wy lf : Int32), kn_same σ σw → kn_same σ (kn_put σw i f wy lf) := fun σw wy lf h => by
    unfold kn_put
    exact ((((h.s1 (by omega) _).s1 (by omega) _).s1 (by omega) _).s1 (by omega) _).s1 (by omega) _
  by_cases hp1 : F 0 f = 1
  · rw [if_pos (kw1.mpr hp1)] at hw
    rw [if_pos hp1]
    have hdebt : kn_debt σa (nI i) (nI (F 2 f)) (nI (F 3 f)) = S.2.2.1 (fab F f) := by
      unfold kn_debt
      rw [show nI i * (64 : Int32) = nI (i * 64) from nI_mul i 64, show nI (F 2 f) * (8 : Int32) = nI (F 2 f * 8) from nI_mul _ 8, nI_add, nI_add, atF_nI _ (by omega) (by omega), a_ne 7 (by decide), ← hrow _ lf2]
      congr 1
      unfold fab
      omega
    rw [hdebt] at hw
    by_cases hz : S.2.2.1 (fab F f) = 0
    · rw [if_pos hz] at hw
      rw [if_pos hz]
      exact void1 5 (by decide) (by decide) hw
    rw [if_neg hz] at hw
    rw [if_neg hz]
    rw [hw] at hL
    rw [hL sa, if_pos rfl, if_neg h2, hlf]
    obtain ⟨σ5, h5⟩ : ∃ τ, τ = kn_put σa i f 0 (nI (F 4 f * 400 + F 5 f)) := ⟨_, rfl⟩
    have s5 : kn_same σ σ5 := by rw [h5]; exact hsput _ _ _ sa
    rw [← h5]
    have hbk5 : b_kind (bk σ5) (nI f) = nI (F 0 f) := c_kind (cT_same hT0 s5).2.2.2.1 (cT_same hT0 s5).2.2.1 hN (by omega)
    have sF := kn_follow_same s5 (i + 1) A.length (nI f) g
    unfold kn_follow at sF ⊢
    rw [hbk5, if_neg (fun z => h2 (kw2.mp z)), if_pos (kw1.mpr hp1)] at sF ⊢
    have g14 : atF 120 (σ5 14) (nI f) = nI (F 2 f) := by rw [hat, s5.2.2.1 14 (by omega) (by omega), q14]
    have g17 : atF 120 (σ5 17) (nI f) = nI (F 3 f) := by rw [hat, s5.2.2.1 17 (by omega) (by omega), q17]
    have hd7 : atF 7744 (σ5 7) (nI ((i + 1) * 64 + (8 * F 2 f + F 3 f))) = S.2.2.1 (fab F f) := by
      rw [atF_nI _ (by omega) (by omega), h5]
      exact hput7 σa _ lf2 (fun c c2 _ => a_ne c c2)
    have hpay : ∀ x : Int32, (if 0 < x - 10 then x - 10 else 0) = pay x := fun x => by
      unfold pay
      by_cases z : (0 : Int32) < x - 10
      · rw [if_pos z, if_neg (by rw [fa_lt] at z ⊢; omega)]
      · rw [if_neg z]
        by_cases z2 : x - 10 < 0
        · rw [if_pos z2]
        · rw [if_neg z2]
          rw [fa_lt] at z z2
          rw [fa_eq]
          omega
    have e7 : kn_fPay σ5 (i + 1) (nI f) = s1 σ5 7 (upd (σ5 7) ((i + 1) * 64 + fab F f) (pay (S.2.2.1 (fab F f)))) := by
      unfold kn_fPay kn_debt
      dsimp only
      rw [g14, g17, hidx, hd7, hpay, putF_nI _ _ (by omega) (by omega)]
      rfl
    show cPost F n i f σ (kn_fPay σ5 (i + 1) (nI f)) S _
    have sF : kn_same σ (kn_fPay σ5 (i + 1) (nI f)) := sF
    rw [e7] at sF ⊢
    refine good σa _ (fab F f) (pay (S.2.2.1 (fab F f))) _ lf2 (fun c c2 _ => a_ne c c2) (fun c c2 c7 _ => ?_) ?_ (fun j hj => ?_) (fun z => by omega) sF rfl rfl rfl rfl (fun _ _ => rfl)
    · rw [s1_ne _ _ c7, h5]
    · rw [s1_same, h5]
    · show σ5 2 j = _
      rw [h5]
      exact a2 j hj
  have hs0 : F 0 f = 0 := by omega
  rw [if_neg (fun z => hp1 (kw1.mp z))] at hw
  rw [if_neg hp1]
  obtain ⟨σv, hv⟩ : ∃ τ, τ = kn_vars σa i n (nI f) := ⟨_, rfl⟩
  have v_ne : ∀ c, c ≠ 8 → σv c = σa c := fun c hc => by rw [hv]; exact s1_ne _ _ hc
  have v8 : ∀ w, w < 9 → σv 8 w = sp_vars F lv n f S w := fun w hw => by
    rw [hv]
    exact kn_vars_at hTa hf hs0 (by rw [a_ne 4 (by decide), a_ne 5 (by decide), a_ne 6 (by decide)]; exact hlv) (fun j hj => by rw [a_ne 7 (by decide)]; exact hrow j hj) hi w hw
  have lv1 : claw (lw σv) A := lw_claw hlw (fun j hj => by rw [v_ne j (by omega)]; exact a_ne j (by omega))
  rw [← hv] at hw
  have hb1 : (lz_first (lw σv) 0 A.length 0 g).1 = frule (sp_vars F lv n f S) false 0 A := (claw_first lv1 false g).trans (frule_congr v8 false 0 hlw.2.2.2)
  have hp : ∀ (g : Nat → Int32) (v : Int32), putF 120 g (nI f) v = upd g f v := fun g v => putF_nI g v (by omega) (by omega)
  rw [hb1, hp] at hw
  obtain ⟨g', hg'⟩ : ∃ g', g' = (lz_first (lw σv) 0 A.length 0 g).2 := ⟨_, rfl⟩
  rw [← hg'] at hw
  obtain ⟨σw, hsw⟩ : ∃ τ, τ = s1 σv 2 (upd (σa 2) f (frule (sp_vars F lv n f S) false 0 A)) := ⟨_, rfl⟩
  rw [← hsw] at hw
  have w_ne : ∀ c, c ≠ 2 → c ≠ 8 → σw c = σ c := fun c c2 c8 => by rw [hsw, s1_ne _ _ c2, v_ne c c8]; exact a_ne c c2
  have w2 : ∀ j, j ≠ f → σw 2 j = σ 2 j := fun j hj => by
    rw [hsw]
    refine (upd_ne _ _ hj).trans ?_
    exact a2 j hj
  have w2f : σw 2 f = frule (sp_vars F lv n f S) false 0 A := by rw [hsw]; exact upd_same _ _ _
  have w8 : σw 8 = σv 8 := by rw [hsw]; exact s1_ne _ _ (by decide)
  have sw : kn_same σ σw := ⟨w_ne 0 (by decide) (by decide), w_ne 3 (by decide) (by decide), fun j j1 j2 => w_ne j (by omega) (by omega), fun j j1 => w_ne j (by omega) (by omega)⟩
  by_cases hnb : ¬ frule (sp_vars F lv n f S) false 0 A = -1
  · rw [if_neg hnb] at hw
    rw [if_pos hnb]
    rw [hw] at hL
    rw [hL sw, if_neg (show ¬ (4 : Int32) = 0 by decide)]
    exact void 4 σw (by decide) w_ne w2 _ (ss_rule (ss_why S f 4) f (frule (sp_vars F lv n f S) false 0 A)) rfl rfl rfl rfl (fun j hj => upd_ne _ _ hj) (fun _ _ => w2f.trans (upd_same _ _ _).symm) sw
  have hban := Classical.not_not.mp hnb
  rw [if_pos hban] at hw
  rw [if_neg hnb]
  rw [hw] at hL
  rw [hL sw, if_pos rfl, if_neg h2, hlf]
  obtain ⟨σ5, h5⟩ : ∃ τ, τ = kn_put σw i f 0 (nI (F 4 f * 400 + F 5 f)) := ⟨_, rfl⟩
  have s5 : kn_same σ σ5 := by rw [h5]; exact hsput _ _ _ sw
  rw [← h5]
  have hbk5 : b_kind (bk σ5) (nI f) = nI (F 0 f) := c_kind (cT_same hT0 s5).2.2.2.1 (cT_same hT0 s5).2.2.1 hN (by omega)
  have sF := kn_follow_same s5 (i + 1) A.length (nI f) g'
  unfold kn_follow at sF ⊢
  rw [hbk5, if_neg (fun z => h2 (kw2.mp z)), if_neg (fun z => hp1 (kw1.mp z))] at sF ⊢
  show cPost F n i f σ (kn_fLoan σ5 (i + 1) A.length (nI f) g') S _
  have sF : kn_same σ (kn_fLoan σ5 (i + 1) A.length (nI f) g') := sF
  have g14 : atF 120 (σ5 14) (nI f) = nI (F 2 f) := by rw [hat, s5.2.2.1 14 (by omega) (by omega), q14]
  have g17 : atF 120 (σ5 17) (nI f) = nI (F 3 f) := by rw [hat, s5.2.2.1 17 (by omega) (by omega), q17]
  have x8 : σ5 8 = σv 8 := by rw [h5]; exact w8
  have l5 : claw (lw σ5) A := lw_claw hlw (fun j hj => s5.2.2.2 j hj)
  have v58 : ∀ w, w < 9 → (lw σ5) 8 w = sp_vars F lv n f S w := fun w hw => by
    show σ5 8 w = _
    rw [x8]; exact v8 w hw
  have hf1 : (lz_first (lw σ5) 1 A.length 0 g').1 = frule (sp_vars F lv n f S) true 0 A := (claw_first l5 true g').trans (frule_congr v58 true 0 hlw.2.2.2)
  have hmore : (kn_more σ5 A.length g').1 = growv (sp_vars F lv n f S) A (frule (sp_vars F lv n f S) true 0 A) := by
    unfold kn_more
    rw [hf1]
    rcases frule_res (sp_vars F lv n f S) true A 0 with z | ⟨k, Rr, z1, z2, z3⟩
    · rw [z, if_pos rfl, growv_none]
    · have hlen := (List.getElem?_eq_some_iff.mp z1).1
      have h16 := hlw.2.1
      have z3 : frule (sp_vars F lv n f S) true 0 A = nI k := by rw [z3, Nat.zero_add]
      have hgc := growv_congr (A := A) (fun w hw => (v58 w hw).symm) h16 hlw.2.2.2
      rw [z3] at hgc ⊢
      rw [if_neg (fun q => absurd (nI_pos (n := k) (by omega)) (by rw [q]; decide)), nI_clamp (by omega), claw_grow l5 z1 z2 _, hgc]
  have hd7 : atF 7744 (σ5 7) (nI ((i + 1) * 64 + (8 * F 3 f + F 2 f))) = S.2.2.1 (fba F f) := by
    rw [atF_nI _ (by omega) (by omega), h5]
    exact hput7 σw _ lf3 w_ne
  have e7 : kn_fLoan σ5 (i + 1) A.length (nI f) g' = s1 (s1 σ5 2 (upd (σ5 2) f (frule (sp_vars F lv n f S) true 0 A))) 7 (upd (σ5 7) ((i + 1) * 64 + fba F f) (S.2.2.1 (fba F f) + growv (sp_vars F lv n f S) A (frule (sp_vars F lv n f S) true 0 A))) := by
    unfold kn_fLoan kn_debt
    rw [hf1, hmore, g14, g17, hidx, hd7, hp, putF_nI (n := 7744) _ _ (by omega) (by omega)]
    rfl
  rw [e7] at sF ⊢
  refine good σw _ (fba F f) _ _ lf3 w_ne (fun c c2 c7 _ => ?_) ?_ (fun j hj => ?_) (fun _ => ?_) sF rfl rfl rfl rfl (fun j hj => upd_ne _ _ hj)
  · rw [s1_ne _ _ c7, s1_ne _ _ c2, h5]
  · rw [s1_same, h5]
  · show upd (σ5 2) f _ j = _
    rw [upd_ne _ _ hj, h5]
    exact w2 j hj
  · show upd (σ5 2) f _ f = upd S.2.2.2.2 f _ f
    rw [upd_same, upd_same]
