/-! What the model answers, third part: the doer. -/
theorem s1_over (σ : RS) (c : Nat) (f g : Nat → Int32) : s1 (s1 σ c f) c g = s1 σ c g := by
  funext k
  by_cases e : k = c
  · rw [e, s1_same, s1_same]
  · rw [s1_ne _ _ e, s1_ne _ _ e, s1_ne _ _ e]
theorem MB.set1 {F : FF} {lv : Nat → Int32} {A : List YL} {P N n y b : Nat} {G : RS} (h : MB F lv A P N n y b G) {c : Nat} (hc : 37 ≤ c) (f : Nat → Int32) : MB F lv A P N n y b (s1 G c f) := by
  obtain ⟨h1, h2, h3, pr, p1, p2, p3, p4⟩ := h
  have e : ∀ k, k ≤ 36 → (s1 G c f) k = G k := fun k hk => s1_ne _ _ (by omega)
  refine ⟨h1.gk ⟨fun k _ k2 => e k (by omega), fun j _ _ _ => by rw [e 0 (by omega)]⟩, h2, h3, pr, p1, ?_, ?_, ?_⟩
  · intro j hj
    rw [e 31 (by omega), e 32 (by omega)]
    exact p2 j hj
  · rw [e 33 (by omega)]; exact p3
  · intro k hk
    rw [e 34 (by omega), e 35 (by omega), e 36 (by omega)]
    exact p4 k hk
theorem MB.vote {F : FF} {lv : Nat → Int32} {A : List YL} {P N n b : Nat} {G : RS} (h : MB F lv A P N n 399 b G) {w δ y : Nat} (hw : w < 8) (hδ : δ < 10) (hy : y < 400) (f : Nat → Int32) : n_vote P n (nI δ) (nI y) w (s1 G 44 f) = s1 G 44 (sp_vote1 F (dS F lv A n).1 δ y n w f) := by
  have h2 : MB F lv A P N n 399 b (s1 G 44 f) := h.set1 (by omega) f
  have hl := h2.last hw hδ hy n h.2.1
  have hN := h.1.1.2.1
  unfold n_vote sp_vote1
  rw [hl]
  rcases sp_last_res F w δ y n with e | ⟨k, k1, k2, k3, k4, k5, k6⟩
  · rw [e, if_neg (fun z => z.1 rfl), if_neg (fun z => z.1 rfl)]
  · have hnN := h.2.1
    obtain ⟨⟨b0, b1, b2, b3, b4, b5, b6⟩, -⟩ := h.1.1.2.2 k (by omega)
    have q27 : (s1 G 44 f) 27 k = nI (F 3 k) := (h2.1.2.2.2.1 k (by omega)).2.2.2.1
    rw [k2, nt_nI (by omega), h2.cnt (by omega) k3, q27, nt_nI (by omega)]
    have es : s2 (s1 G 44 f) 44 (F 3 k) ((s1 G 44 f) 44 (F 3 k) + 1) = s1 G 44 (upd f (F 3 k) (f (F 3 k) + 1)) := by
      unfold s2
      rw [s1_over, s1_same]
    rw [es]
    split <;> rfl
theorem MB.votes {F : FF} {lv : Nat → Int32} {A : List YL} {P N n b : Nat} {G : RS} (h : MB F lv A P N n 399 b G) {δ y : Nat} (hδ : δ < 10) (hy : y < 400) : ∀ (c w : Nat) (f : Nat → Int32), w + c ≤ 8 → r_for (n_vote P n (nI δ) (nI y)) c w (s1 G 44 f) = s1 G 44 (sp_votes F (dS F lv A n).1 δ y n c w f) := by
  intro c
  induction c with
  | zero => intro w f _; rfl
  | succ c ih =>
    intro w f hc
    rw [r_for, sp_votes, h.vote (by omega) hδ hy, ih (w + 1) _ (by omega)]
/-- only persons there are say something, of persons there are -/
theorem votes_none {F : FF} {hf : Nat → Int32} {P n δ y : Nat} (h : ∀ k, k < n → F 0 k = 5 → F 2 k < P) : ∀ (c w : Nat) (f : Nat → Int32), P ≤ w → sp_votes F hf δ y n c w f = f := by
  intro c
  induction c with
  | zero => intro w f _; rfl
  | succ c ih =>
    intro w f hw
    have e : sp_vote1 F hf δ y n w f = f := by
      unfold sp_vote1
      rcases sp_last_res F w δ y n with e | ⟨k, k1, k2, k3, k4, -⟩
      · exact if_neg (fun z => z.1 e)
      · have := h k k1 k3
        omega
    rw [sp_votes, e, ih (w + 1) f (by omega)]
theorem votes_add (F : FF) (hf : Nat → Int32) (δ y n : Nat) : ∀ (a c w : Nat) (f : Nat → Int32), sp_votes F hf δ y n (a + c) w f = sp_votes F hf δ y n c (w + a) (sp_votes F hf δ y n a w f) := by
  intro a
  induction a with
  | zero => intro c w f; rw [Nat.zero_add]; rfl
  | succ a ih => intro c w f; rw [show a + 1 + c = (a + c) + 1 by omega, sp_votes, sp_votes, ih, show w + 1 + a = w + (a + 1) by omega]
theorem votes_nat {F : FF} {hf : Nat → Int32} {P n δ y : Nat} (hn : n ≤ 120) (h : ∀ k, k < n → F 0 k = 5 → F 3 k < P) : ∀ (c w : Nat) (f : Nat → Int32), (∀ j, j < 8 → ∃ v : Nat, v ≤ w ∧ f j = nI v) → (∀ j, j < 8 → ∃ v : Nat, v ≤ w + c ∧ (sp_votes F hf δ y n c w f) j = nI v) ∧ ∀ j, P ≤ j → (sp_votes F hf δ y n c w f) j = f j := by
  intro c
  induction c with
  | zero => intro w f hf; exact ⟨hf, fun _ _ => rfl⟩
  | succ c ih =>
    intro w f hj
    rw [sp_votes]
    have key : (∀ j, j < 8 → ∃ v : Nat, v ≤ w + 1 ∧ (sp_vote1 F hf δ y n w f) j = nI v) ∧ ∀ j, P ≤ j → (sp_vote1 F hf δ y n w f) j = f j := by
      unfold sp_vote1
      split
      · rename_i hc
        rcases sp_last_res F w δ y n with e | ⟨k, k1, k2, k3, -⟩
        · exact absurd e hc.1
        · rw [k2, nt_nI (by omega)]
          have hP := h k k1 k3
          refine ⟨fun j h8 => ?_, fun j hPj => upd_ne _ _ (by omega)⟩
          by_cases e : j = F 3 k
          · obtain ⟨v, v1, v2⟩ := hj j h8
            refine ⟨v + 1, by omega, ?_⟩
            rw [← e, upd_same, v2, nI_1]
          · rw [upd_ne _ _ e]
            obtain ⟨v, v1, v2⟩ := hj j h8
            exact ⟨v, by omega, v2⟩
      · exact ⟨fun j h8 => by obtain ⟨v, v1, v2⟩ := hj j h8; exact ⟨v, by omega, v2⟩, fun _ _ => rfl⟩
    obtain ⟨r1, r2⟩ := ih (w + 1) _ key.1
    exact ⟨fun j h8 => by obtain ⟨v, v1, v2⟩ := r1 j h8; exact ⟨v, by omega, v2⟩, fun j hPj => (r2 j hPj).trans (key.2 j hPj)⟩
def bR (f : Nat → Int32) (b : Int32 × Int32) (m : Int32 × Bool) : Prop := (m.1 = -1 ∧ m.2 = false ∧ b = (0, -1)) ∨ ∃ q, q < 8 ∧ m.1 = nI q ∧ b.1 = f q ∧ 0 < f q ∧ b.2 = if m.2 = true then -1 else nI q
theorem best_one {F : FF} {lv : Nat → Int32} {A : List YL} {P N n z b : Nat} {H : RS} (h : MB F lv A P N n z b H) {y p : Nat} (hp : p < P) (hy : y < 400) (hv : ∀ j, j < 8 → ∃ v : Nat, v ≤ 8 ∧ H 44 j = nI v) {bc : Int32 × Int32} {bm : Int32 × Bool} (hR : bR (H 44) bc bm) : bR (H 44) (sp_best1 (dU F lv A n z).1 (H 44) y p bc) (n_best1 H y P p bm) := by
  have hP := h.1.1.1
  obtain ⟨v, v1, v2⟩ := hv p (by omega)
  have hc8 := caw_le (dU F lv A n z).1 (nI p) y 8
  unfold sp_best1 n_best1
  rw [h.awake hp hy]
  have e0 : (nI (caw (dU F lv A n z).1 (nI p) y 8) = 0) ↔ caw (dU F lv A n z).1 (nI p) y 8 = 0 := nI_eq (b := 0) (by omega) (by omega)
  have ev : (H 44 p = 0) ↔ v = 0 := by rw [v2]; exact nI_eq (b := 0) (by omega) (by omega)
  have ep : (0 < H 44 p) ↔ 0 < v := by rw [v2]; exact nI_ltI (a := 0) (by omega) (by omega)
  by_cases hskip : H 44 p = 0 ∨ nI (caw (dU F lv A n z).1 (nI p) y 8) = 0
  · rw [if_pos hskip, if_neg]
    · exact hR
    · intro q
      have q1 := ep.mp q.1
      rcases hskip with s | s
      · have := ev.mp s; omega
      · have := e0.mp s; have := q.2.2; omega
  · rw [if_neg hskip]
    have hv0 : 0 < v := by
      by_cases z : v = 0
      · exact absurd (Or.inl (ev.mpr z)) hskip
      · omega
    have hc0 : 0 < caw (dU F lv A n z).1 (nI p) y 8 := by
      by_cases z' : caw (dU F lv A n z).1 (nI p) y 8 = 0
      · exact absurd (Or.inr (e0.mpr z')) hskip
      · omega
    have hp0 := ep.mpr hv0
    rcases hR with ⟨r1, r2, r3⟩ | ⟨q, q1, q2, q3, q4, q5⟩
    · rw [r3]
      have hle : (0 : Int32) ≤ H 44 p := Int32.le_of_lt hp0
      have hne : ¬ H 44 p = 0 := fun z => by have := ev.mp z; omega
      have hcond : 0 < H 44 p ∧ (0, (-1 : Int32)).1 ≤ H 44 p ∧ 0 < caw (dU F lv A n z).1 (nI p) y 8 := ⟨hp0, hle, hc0⟩
      rw [if_pos hcond]
      refine Or.inr ⟨p, by omega, if_pos (Or.inl r1), rfl, hp0, ?_⟩
      have hd : decide (¬ bm.1 = -1 ∧ (H 44 p = H 44 (nt bm.1) ∨ (bm.2 = true ∧ H 44 p < H 44 (nt bm.1)))) = false := decide_eq_false (fun z => z.1 r1)
      show (if H 44 p = 0 then (-1 : Int32) else nI p) = if decide _ = true then -1 else nI p
      rw [hd, if_neg hne]
      rfl
    · have hm1 : ¬ bm.1 = -1 := by rw [q2]; exact fun z => absurd (nI_pos (n := q) (by omega)) (by rw [z]; decide)
      obtain ⟨u, u1, u2⟩ := hv q q1
      have elt : (H 44 q < H 44 p) ↔ u < v := by rw [u2, v2]; exact nI_ltI (by omega) (by omega)
      have elt2 : (H 44 p < H 44 q) ↔ v < u := by rw [u2, v2]; exact nI_ltI (by omega) (by omega)
      have ele : (H 44 q ≤ H 44 p) ↔ u ≤ v := by rw [u2, v2]; exact nI_leI (by omega) (by omega)
      have eeq : (H 44 p = H 44 q) ↔ v = u := by rw [u2, v2]; exact nI_eq (by omega) (by omega)
      have en : nt bm.1 = q := by rw [q2]; exact nt_nI (by omega)
      rw [en]
      by_cases hlt : u < v
      · have hcond : 0 < H 44 p ∧ bc.1 ≤ H 44 p ∧ 0 < caw (dU F lv A n z).1 (nI p) y 8 := ⟨hp0, by rw [q3]; exact ele.mpr (by omega), hc0⟩
        have hm : bm.1 = -1 ∨ H 44 q < H 44 p := Or.inr (elt.mpr hlt)
        have hd : decide (¬ bm.1 = -1 ∧ (H 44 p = H 44 q ∨ (bm.2 = true ∧ H 44 p < H 44 q))) = false := decide_eq_false (fun z => by
          rcases z.2 with z | z
          · have := eeq.mp z; omega
          · have := elt2.mp z.2; omega)
        rw [if_pos hcond, if_pos hm, hd]
        refine Or.inr ⟨p, by omega, rfl, rfl, hp0, ?_⟩
        show (if H 44 p = bc.1 then (-1 : Int32) else nI p) = if false = true then -1 else nI p
        rw [q3, if_neg (fun z => by have := eeq.mp z; omega)]
        rfl
      · have hm : ¬ (bm.1 = -1 ∨ H 44 q < H 44 p) := fun z => z.elim hm1 (fun z => hlt (elt.mp z))
        rw [if_neg hm]
        by_cases he : v = u
        · have hcond : 0 < H 44 p ∧ bc.1 ≤ H 44 p ∧ 0 < caw (dU F lv A n z).1 (nI p) y 8 := ⟨hp0, by rw [q3]; exact ele.mpr (by omega), hc0⟩
          have hd : decide (¬ bm.1 = -1 ∧ (H 44 p = H 44 q ∨ (bm.2 = true ∧ H 44 p < H 44 q))) = true := decide_eq_true ⟨hm1, Or.inl (eeq.mpr he)⟩
          rw [if_pos hcond, hd]
          refine Or.inr ⟨q, q1, q2, eeq.mpr he, q4, ?_⟩
          show (if H 44 p = bc.1 then (-1 : Int32) else nI p) = if true = true then -1 else nI q
          rw [q3, if_pos (eeq.mpr he), if_pos rfl]
        · have hcond : ¬ (0 < H 44 p ∧ bc.1 ≤ H 44 p ∧ 0 < caw (dU F lv A n z).1 (nI p) y 8) := fun w => by
            have := w.2.1
            rw [q3] at this
            have := ele.mp this
            omega
          have hd : decide (¬ bm.1 = -1 ∧ (H 44 p = H 44 q ∨ (bm.2 = true ∧ H 44 p < H 44 q))) = bm.2 := by
            have hlt2 : H 44 p < H 44 q := elt2.mpr (by omega)
            cases hb : bm.2 with
            | true => exact decide_eq_true ⟨hm1, Or.inr ⟨rfl, hlt2⟩⟩
            | false => exact decide_eq_false (fun w => by
                rcases w.2 with w | w
                · exact he (eeq.mp w)
                · exact absurd w.1 (by decide))
          rw [if_neg hcond, hd]
          exact Or.inr ⟨q, q1, q2, q3, q4, q5⟩
theorem best_all {F : FF} {lv : Nat → Int32} {A : List YL} {P N n z b : Nat} {H : RS} (h : MB F lv A P N n z b H) {y : Nat} (hy : y < 400) (hv : ∀ j, j < 8 → ∃ v : Nat, v ≤ 8 ∧ H 44 j = nI v) : ∀ (c p : Nat) (bc : Int32 × Int32) (bm : Int32 × Bool), p + c ≤ P → bR (H 44) bc bm → bR (H 44) (sp_best (dU F lv A n z).1 (H 44) y c p bc) (n_best H y P c p bm) := by
  intro c
  induction c with
  | zero => intro p bc bm _ h; exact h
  | succ c ih => intro p bc bm hp hR; exact ih (p + 1) _ _ (by omega) (best_one h (by omega) hy hv hR)
theorem best_add (hf f : Nat → Int32) (y : Nat) : ∀ (a c p : Nat) (b : Int32 × Int32), sp_best hf f y (a + c) p b = sp_best hf f y c (p + a) (sp_best hf f y a p b) := by
  intro a
  induction a with
  | zero => intro c p b; rw [Nat.zero_add]; rfl
  | succ a ih => intro c p b; rw [show a + 1 + c = (a + c) + 1 by omega, sp_best, sp_best, ih, show p + 1 + a = p + (a + 1) by omega]
theorem best_none {hf f : Nat → Int32} {y P : Nat} (h : ∀ j, P ≤ j → f j = 0) : ∀ (c p : Nat) (b : Int32 × Int32), P ≤ p → sp_best hf f y c p b = b := by
  intro c
  induction c with
  | zero => intro p b _; rfl
  | succ c ih =>
    intro p b hp
    have e : sp_best1 hf f y p b = b := by
      unfold sp_best1
      rw [h p hp]
      exact if_neg (fun z => absurd z.1 (by decide))
    rw [sp_best, e, ih (p + 1) b (by omega)]
theorem best_like {hf : Nat → Int32} {y : Nat} {f f' : Nat → Int32} (h : ∀ j, j < 8 → f j = f' j) : ∀ (c p : Nat) (b : Int32 × Int32), p + c ≤ 8 → sp_best hf f y c p b = sp_best hf f' y c p b := by
  intro c
  induction c with
  | zero => intro p b _; rfl
  | succ c ih =>
    intro p b hp
    have e : sp_best1 hf f y p b = sp_best1 hf f' y p b := by
      unfold sp_best1
      rw [h p (by omega)]
    rw [sp_best, sp_best, e, ih (p + 1) _ (by omega)]
theorem MB.doer {F : FF} {lv : Nat → Int32} {A : List YL} {P N n b : Nat} {G : RS} (h : MB F lv A P N n 399 b G) {δ y : Nat} (hδ : δ < 10) (hy : y < 400) : n_doer P n (nI δ) y G = sp_doer F (dS F lv A n).1 δ y n := by
  obtain ⟨⟨hP, hN, hok⟩, -⟩ := h.1
  have hnN := h.2.1
  have h2 : ∀ k, k < n → F 0 k = 5 → F 2 k < P := fun k hk h5 => ((hok k (by omega)).2.2.2.2 h5).1
  have h3 : ∀ k, k < n → F 0 k = 5 → F 3 k < P := fun k hk h5 => ((hok k (by omega)).2.2.2.2 h5).2
  have hvm := h.votes hδ hy P 0 (cpyTo (fun _ => 0) (G 44) 8) (by omega)
  have c0 : ∀ j, j < 8 → (cpyTo (fun _ => 0) (G 44) 8) j = 0 := fun j hj => if_pos hj
  obtain ⟨v1, v2⟩ := votes_nat (hf := (dS F lv A n).1) (δ := δ) (y := y) (show n ≤ 120 by omega) h3 P 0 (cpyTo (fun _ => 0) (G 44) 8) (fun j hj => ⟨0, Nat.le_refl _, c0 j hj⟩)
  obtain ⟨H, hH⟩ : ∃ H, H = s1 G 44 (sp_votes F (dS F lv A n).1 δ y n P 0 (cpyTo (fun _ => 0) (G 44) 8)) := ⟨_, rfl⟩
  have hHM : MB F lv A P N n 399 b H := by rw [hH]; exact h.set1 (by omega) _
  have h44 : H 44 = sp_votes F (dS F lv A n).1 δ y n P 0 (cpyTo (fun _ => 0) (G 44) 8) := by rw [hH]; exact s1_same _ _ _
  have hR := best_all hHM hy (fun j hj => by rw [h44]; obtain ⟨v, q1, q2⟩ := v1 j hj; exact ⟨v, by omega, q2⟩) P 0 (0, -1) (-1, false) (by omega) (Or.inl ⟨rfl, rfl, rfl⟩)
  have eN : n_votes P n (nI δ) y G = H := by unfold n_votes; rw [hvm, hH]
  unfold n_doer
  rw [eN]
  dsimp only
  have hz : ∀ j, P ≤ j → j < 8 → H 44 j = 0 := fun j hj h8 => by rw [h44, v2 j hj]; exact c0 j h8
  have e8 : sp_doer F (dS F lv A n).1 δ y n = (sp_best (dU F lv A n 399).1 (H 44) y P 0 (0, -1)).2 := by
    unfold sp_doer
    rw [best_like (f' := fun j => if j < 8 then H 44 j else 0) (fun j hj => ?_) 8 0 _ (by omega)]
    · rw [show (8 : Nat) = P + (8 - P) by omega, best_add, best_none (P := P) (fun j hj => ?_) (8 - P) (0 + P) _ (by omega)]
      · rw [best_like (f' := H 44) (fun j hj => by exact if_pos (by omega)) P 0 _ (by omega)]
        rfl
      · show (if j < _ then H 44 j else 0) = 0
        split
        · exact hz j hj (by omega)
        · rfl
    · have ev8 : sp_votes F (dS F lv A n).1 δ y n 8 0 (fun _ => 0) = sp_votes F (dS F lv A n).1 δ y n P 0 (fun _ => 0) := by
        have e := votes_add F (dS F lv A n).1 δ y n P (8 - P) 0 (fun _ => 0)
        rw [show P + (8 - P) = 8 by omega, votes_none h2 (8 - P) (0 + P) _ (by omega)] at e
        exact e
      rw [if_pos hj, h44, ev8]
      exact votes_like F _ δ y n (by omega) P 0 _ _ (fun j hj => (c0 j hj).symm) (fun k hk => (hok k (by omega)).1.2.2.2.1) j hj
  rw [e8]
  rcases hR with ⟨r1, r2, r3⟩ | ⟨q, q1, q2, q3, q4, q5⟩
  · rw [r3, r2, r1]
    rfl
  · rw [q5, q2]
