/-! Rings: the numbers behind the search. -/
def ob (B : Nat) (o : Nat → Int32) : Prop := ∀ i, i < 64 → ∃ v : Nat, v ≤ B ∧ o i = nI v
theorem ob.at {B : Nat} {o : Nat → Int32} (h : ob B o) (hB : B ≤ 5000000) {i : Nat} (hi : i < 64) : o i = nI (nt (o i)) ∧ nt (o i) ≤ B := by
  obtain ⟨v, h1, h2⟩ := h i hi
  rw [h2, nt_nI (by omega)]
  exact ⟨rfl, h1⟩
def pth (o : Nat → Int32) (P s n u : Nat) (r : Nat → Nat) : Prop := r 0 = s ∧ (∀ i, i ≤ n → s ≤ r i ∧ r i < P ∧ u.testBit (r i) = true) ∧ (∀ i j, i ≤ n → j ≤ n → r i = r j → i = j) ∧ (∀ i, i < n → ¬ o (8 * r i + r (i + 1)) = 0) ∧ u < 256 ∧ pcnt u = n + 1 ∧ ∀ x, x < s → u.testBit x = false
theorem bt_tb : ∀ u : Fin 256, ∀ x y : Fin 8, (u.val ||| 2 ^ x.val).testBit y.val = (u.val.testBit y.val || decide (y.val = x.val)) := by decide +kernel
theorem bt_tb0 : ∀ x y : Fin 8, (2 ^ x.val).testBit y.val = decide (y.val = x.val) := by decide +kernel
theorem pc_few : ∀ u : Fin 256, ∀ s : Fin 9, (∀ x : Fin 8, x.val < s.val → u.val.testBit x.val = false) → pcnt u.val ≤ 8 - s.val := by decide +kernel
theorem pth.step {o : Nat → Int32} {P s n u : Nat} {r : Nat → Nat} (h : pth o P s n u r) (hP : P ≤ 8) {x : Nat} (hs : s < x) (hx : x < P) (hb : u.testBit x = false) (ho : ¬ o (8 * r n + x) = 0) : pth o P s (n + 1) (u ||| 2 ^ x) (updN r (n + 1) x) := by
  obtain ⟨h0, h1, h2, h3, h4, h5, h6⟩ := h
  have hor := bt_or ⟨u, h4⟩ ⟨x, by omega⟩
  have tb : ∀ y, y < 8 → (u ||| 2 ^ x).testBit y = (u.testBit y || decide (y = x)) := fun y hy => bt_tb ⟨u, h4⟩ ⟨x, by omega⟩ ⟨y, hy⟩
  have hpc : pcnt (u ||| 2 ^ x) = pcnt u + 1 := (pc_or ⟨u, h4⟩ ⟨x, by omega⟩ hb).1
  refine ⟨by rw [updN_ne _ _ (by omega)]; exact h0, fun i hi => ?_, fun i j hi hj e => ?_, fun i hi => ?_, hor.2, by rw [hpc, h5], fun y hy => ?_⟩
  · by_cases hin : i = n + 1
    · rw [hin, updN_same]
      exact ⟨by omega, hx, by rw [tb x (by omega), decide_eq_true rfl, Bool.or_true]⟩
    · rw [updN_ne _ _ hin]
      obtain ⟨a, b, c⟩ := h1 i (by omega)
      exact ⟨a, b, by rw [tb _ (by omega), c, Bool.true_or]⟩
  · by_cases hi1 : i = n + 1
    · by_cases hj1 : j = n + 1
      · omega
      · rw [hi1, updN_same, updN_ne _ _ hj1] at e
        have := (h1 j (by omega)).2.2
        rw [← e, hb] at this
        cases this
    · by_cases hj1 : j = n + 1
      · rw [hj1, updN_same, updN_ne _ _ hi1] at e
        have := (h1 i (by omega)).2.2
        rw [e, hb] at this
        cases this
      · rw [updN_ne _ _ hi1, updN_ne _ _ hj1] at e
        exact h2 i j (by omega) (by omega) e
  · by_cases hin : i = n
    · subst hin
      rw [updN_ne _ _ (by omega), updN_same]
      exact ho
    · rw [updN_ne _ _ (by omega), updN_ne _ _ (by omega)]
      exact h3 i (by omega)
  · rw [tb y (by omega), h6 y (by omega), decide_eq_false (by omega)]
    rfl
theorem pth.few {o : Nat → Int32} {P s n u : Nat} {r : Nat → Nat} (h : pth o P s n u r) (hs : s ≤ 8) : n + 1 ≤ 8 - s := by
  obtain ⟨h0, h1, h2, h3, h4, h5, h6⟩ := h
  have := pc_few ⟨u, h4⟩ ⟨s, by omega⟩ (fun x hx => h6 x.val hx)
  have h7 : pcnt u ≤ 8 - s := this
  omega
theorem pth.start (o : Nat → Int32) {P s : Nat} (hP : P ≤ 8) (hs : s < P) : pth o P s 0 (2 ^ s) (fun _ => s) := by
  obtain ⟨b1, b2, b3, b4⟩ := bt_s ⟨s, by omega⟩
  have b2 : pcnt (0 ||| 2 ^ s) = 1 := b2
  have b4 : 0 ||| 2 ^ s = 2 ^ s := b4
  rw [b4] at b2
  have lt : 2 ^ s < 256 := by
    have := (bt_or ⟨0, by omega⟩ ⟨s, by omega⟩).2
    have h2 : 0 ||| 2 ^ s < 256 := this
    rw [b4] at h2
    exact h2
  have tb : ∀ y, y < 8 → (2 ^ s).testBit y = decide (y = s) := fun y hy => bt_tb0 ⟨s, by omega⟩ ⟨y, hy⟩
  exact ⟨rfl, fun i hi => ⟨Nat.le_refl _, hs, by rw [tb s (by omega)]; exact decide_eq_true rfl⟩, fun i j hi hj _ => by omega, fun i hi => by omega, lt, b2, fun x hx => by rw [tb x (by omega)]; exact decide_eq_false (by omega)⟩
theorem f_node_ind2 {P s : Nat} {o : Nat → Int32} {Φ : Nat → (Nat → Nat) → Prop} {I : RS → Prop} (hP : P ≤ 8) (hs : s < P) (h42 : ∀ σ i v, I σ → I (s2 σ 42 i v)) (h43 : ∀ σ i v, I σ → I (s2 σ 43 i v)) (hΦ : ∀ n r x, Φ n r → Φ (n + 1) (updN r (n + 1) x)) (hR : ∀ σ n u r, n < 8 → pth o P s n u r → Φ n r → f_rows P σ r (n + 1) → σ 33 = o → 0 < n → 0 < o (8 * r n + s) → I σ → I (g_isRing σ r (n + 1))) : ∀ (f n u : Nat) (r : Nat → Nat) (σ : RS), n + f = 7 → pth o P s n u r → Φ n r → f_rows P σ r (n + 1) → σ 33 = o → I σ → I (f_node P s f n u r σ) := by
  have loop : ∀ (n u : Nat) (r : Nat → Nat) (W : Nat → Nat → (Nat → Nat) → RS → RS), pth o P s n u r → Φ n r → (∀ u r σ, f_kp (n + 2) σ (W (n + 1) u r σ)) → (∀ u r σ, pth o P s (n + 1) u r → Φ (n + 1) r → f_rows P σ r (n + 2) → σ 33 = o → I σ → I (W (n + 1) u r σ)) → ∀ (c x : Nat) (σ : RS), s < x → x + c ≤ P → f_rows P σ r (n + 1) → σ 33 = o → I σ → I (r_for (f_try s W n u r) c x σ) := by
    intro n u r W hp hf hk hW c
    induction c with
    | zero => intro x σ hsx hx hr h33 hI; exact hI
    | succ c ih =>
      intro x σ hsx hx hr h33 hI
      have k1 := f_kp_try (s := s) hk u r x σ
      refine ih (x + 1) _ (by omega) (by omega) (fun i hi => by rw [k1.2.2.1 i hi]; exact hr i hi) ((k1.1 33 (by decide) (by decide) (by decide) (by decide)).trans h33) ?_
      unfold f_try
      split
      · rename_i hc
        rw [h33] at hc
        refine hW _ _ _ (hp.step hP hsx (by omega) hc.1 hc.2) (hΦ _ _ _ hf) ?_ h33 (h43 _ _ _ (h42 _ _ _ (h43 _ _ _ hI)))
        intro i hi
        show upd (σ 42) (n + 1) (nI x) i = _ ∧ _
        by_cases h : i = n + 1
        · rw [h, upd_same, updN_same]; exact ⟨rfl, by omega⟩
        · rw [upd_ne _ _ h, updN_ne _ _ h]; exact hr i (by omega)
      · exact h43 _ _ _ hI
  have close : ∀ (n u : Nat) (r : Nat → Nat) (σ : RS), n < 8 → pth o P s n u r → Φ n r → f_rows P σ r (n + 1) → σ 33 = o → I σ → I (f_close s n r σ) := by
    intro n u r σ hn hp hf hr h33 hI
    unfold f_close
    split
    · rename_i hc
      rw [h33] at hc
      exact hR σ n u r hn hp hf hr h33 hc.1 hc.2 hI
    · exact hI
  intro f
  induction f with
  | zero =>
    intro n u r σ hn hp hf hr h33 hI
    have hkc := f_kp_close s n (n + 1) r σ
    exact h43 _ _ _ (loop n u r (fun _ _ _ σ => σ) hp hf (fun u r σ => f_kp.refl _ σ) (fun _ _ _ _ _ _ _ h => h) _ _ _ (by omega) (by omega) (fun i hi => by rw [hkc.2.2.1 i hi]; exact hr i hi) ((hkc.1 33 (by decide) (by decide) (by decide) (by decide)).trans h33) (close n u r σ (by omega) hp hf hr h33 hI))
  | succ f ih =>
    intro n u r σ hn hp hf hr h33 hI
    have hkc := f_kp_close s n (n + 1) r σ
    exact h43 _ _ _ (loop n u r (f_node P s f) hp hf (fun u r σ => f_kp_node f (n + 1) u r σ) (fun u r σ h1 h2 h3 h4 h5 => ih (n + 1) u r σ (by omega) h1 h2 h3 h4 h5) _ _ _ (by omega) (by omega) (fun i hi => by rw [hkc.2.2.1 i hi]; exact hr i hi) ((hkc.1 33 (by decide) (by decide) (by decide) (by decide)).trans h33) (close n u r σ (by omega) hp hf hr h33 hI))
theorem f_rows_0 (P s : Nat) (hs : s < P) (σ : RS) : f_rows P (s2 (s2 σ 42 0 (nI s)) 43 0 (nI s)) (fun _ => s) (0 + 1) := by
  intro i hi
  have hi : i = 0 := by omega
  subst hi
  exact ⟨rfl, hs⟩
theorem f_find_ind2 {P : Nat} {o : Nat → Int32} {I : RS → Prop} (hP : P ≤ 8) (h42 : ∀ σ i v, I σ → I (s2 σ 42 i v)) (h43 : ∀ σ i v, I σ → I (s2 σ 43 i v)) (hR : ∀ σ s n u r, s < P → n < 8 → pth o P s n u r → f_rows P σ r (n + 1) → σ 33 = o → 0 < n → 0 < o (8 * r n + s) → I σ → I (g_isRing σ r (n + 1))) (σ : RS) (h33 : σ 33 = o) (h0 : I (s2 σ 0 59 0)) : I (f_find P σ) := by
  have : ∀ (c s : Nat) (σ : RS), s + c = P → σ 33 = o → I σ → I (r_for (f_start P) c s σ) := by
    intro c
    induction c with
    | zero => intro s σ _ _ h; exact h
    | succ c ih =>
      intro s σ hs h33 h
      refine ih (s + 1) _ (by omega) (((f_kp_start P s σ).1 33 (by decide) (by decide) (by decide) (by decide)).trans h33) ?_
      exact f_node_ind2 (Φ := fun _ _ => True) hP (by omega) h42 h43 (fun _ _ _ _ => trivial) (fun σ n u r hn hp _ hr h33 h0 h1 hI => hR σ s n u r (by omega) hn hp hr h33 h0 h1 hI) 7 0 _ _ _ rfl (pth.start o hP (by omega)) trivial (f_rows_0 P s (by omega) σ) h33 (h43 _ _ _ (h42 _ _ _ h))
  exact this P 0 _ (by omega) h33 h0
def lk (r : Nat → Nat) (m j : Nat) : Nat := 8 * r j + r ((j + 1) % m)
def gl (o : Nat → Int32) (r : Nat → Nat) (m : Nat) : Nat → Int32
  | 0 => 0
  | i + 1 => if i = 0 ∨ o (lk r m i) < gl o r m i then o (lk r m i) else gl o r m i
theorem g_least_gl (σ : RS) (r : Nat → Nat) (m i : Nat) : g_least σ r m i = gl (σ 33) r m i := by
  induction i with
  | zero => rfl
  | succ i ih => rw [g_least, gl, ih]; rfl
def rng (o : Nat → Int32) (m : Nat) (r : Nat → Nat) : Prop := 2 ≤ m ∧ m ≤ 8 ∧ (∀ i, i < m → r i < 8) ∧ (∀ i j, i < m → j < m → r i = r j → i = j) ∧ ∀ i, i < m → ¬ o (lk r m i) = 0
def f_foundO (o : Nat → Int32) (σ : RS) : Prop := σ 0 59 = 0 ∨ ∃ (m : Nat) (r : Nat → Nat), rng o m r ∧ σ 0 59 = nI m ∧ (∀ i, i < m → σ 41 i = nI (r i)) ∧ σ 0 61 = gl o r m m ∧ σ 0 60 = gl o r m m * nI m
theorem pth.rng {o : Nat → Int32} {P s n u : Nat} {r : Nat → Nat} (h : pth o P s n u r) (hP : P ≤ 8) (hs : s ≤ 8) (h0 : 0 < n) (hc : 0 < o (8 * r n + s)) : rng o (n + 1) r := by
  have hf := h.few hs
  obtain ⟨g0, g1, g2, g3, g4, g5, g6⟩ := h
  refine ⟨by omega, by omega, fun i hi => by have := (g1 i (by omega)).2.1; omega, fun i j hi hj e => g2 i j (by omega) (by omega) e, fun i hi => ?_⟩
  unfold lk
  by_cases hn : i = n
  · rw [hn, Nat.mod_self, g0]
    intro z
    rw [z] at hc
    exact absurd hc (by decide)
  · rw [Nat.mod_eq_of_lt (by omega)]
    exact g3 i (by omega)
theorem f_find_found {P : Nat} (hP : P ≤ 8) (σ : RS) : f_foundO (σ 33) (f_find P σ) := by
  refine f_find_ind2 (o := σ 33) hP (fun σ i v h => h) (fun σ i v h => h) (fun σ' s n u r hs hn hp hr h33 h0 h1 h => ?_) σ rfl (Or.inl rfl)
  unfold g_isRing
  split
  · exact h
  · refine Or.inr ⟨n + 1, r, hp.rng hP (by omega) h0 h1, rfl, fun i hi => ?_, ?_, ?_⟩
    · show cpyTo (σ' 42) (σ' 41) (n + 1) i = _
      unfold cpyTo
      rw [if_pos hi]
      exact (hr i hi).1
    · show g_least σ' r (n + 1) (n + 1) = _
      rw [g_least_gl, h33]
    · show g_least σ' r (n + 1) (n + 1) * nI (n + 1) = _
      rw [g_least_gl, h33]
theorem lk_lt {r : Nat → Nat} {m j : Nat} (hr : ∀ i, i < m → r i < 8) (hj : j < m) : lk r m j < 64 := by
  have h1 := hr j hj
  have h2 := hr ((j + 1) % m) (Nat.mod_lt _ (by omega))
  unfold lk
  omega
theorem lk_inj {r : Nat → Nat} {m i j : Nat} (hr : ∀ i, i < m → r i < 8) (hi : i < m) (hj : j < m) (hin : ∀ i j, i < m → j < m → r i = r j → i = j) (e : lk r m i = lk r m j) : i = j := by
  have h1 := hr ((i + 1) % m) (Nat.mod_lt _ (by omega))
  have h2 := hr ((j + 1) % m) (Nat.mod_lt _ (by omega))
  unfold lk at e
  exact hin i j hi hj (by omega)
theorem gl_min {B : Nat} {o : Nat → Int32} {r : Nat → Nat} {m : Nat} (hb : ob B o) (hB : B ≤ 5000000) (hr : ∀ i, i < m → r i < 8) : ∀ i, 0 < i → i ≤ m → ∃ L : Nat, gl o r m i = nI L ∧ L ≤ B ∧ (∀ j, j < i → L ≤ nt (o (lk r m j))) ∧ ∃ j, j < i ∧ L = nt (o (lk r m j)) := by
  intro i
  induction i with
  | zero => intro h; omega
  | succ i ih =>
    intro _ hi
    obtain ⟨a1, a2⟩ := hb.at hB (lk_lt hr (show i < m by omega))
    rw [gl]
    by_cases h0 : i = 0
    · subst h0
      rw [if_pos (Or.inl rfl)]
      exact ⟨_, a1, a2, fun j hj => by have : j = 0 := by omega
                                       subst this; exact Nat.le_refl _, 0, by omega, rfl⟩
    · obtain ⟨L, h1, h2, h3, j, h4, h5⟩ := ih (by omega) (by omega)
      by_cases hc : o (lk r m i) < gl o r m i
      · rw [if_pos (Or.inr hc)]
        rw [h1, a1, nI_ltI (by omega) (by omega)] at hc
        refine ⟨_, a1, a2, fun k hk => ?_, i, by omega, rfl⟩
        by_cases hk2 : k = i
        · rw [hk2]; exact Nat.le_refl _
        · have := h3 k (by omega); omega
      · rw [if_neg (fun z => z.elim h0 hc)]
        rw [h1, a1, nI_ltI (by omega) (by omega)] at hc
        refine ⟨L, h1, h2, fun k hk => ?_, j, by omega, h5⟩
        by_cases hk2 : k = i
        · rw [hk2]; omega
        · exact h3 k (by omega)
theorem g_meetR_out (r : Nat → Nat) (m : Nat) : ∀ (c i : Nat) (σ : RS) (x : Nat), (∀ j, i ≤ j → j < i + c → ¬ x = lk r m j) → (g_meetR r m c i σ) 33 x = σ 33 x := by
  intro c
  induction c with
  | zero => intro i σ x _; rfl
  | succ c ih =>
    intro i σ x h
    rw [g_meetR, ih (i + 1) _ x (fun j h1 h2 => h j (by omega) (by omega))]
    exact upd_ne _ _ (h i (Nat.le_refl _) (by omega))
theorem g_meetR_in (r : Nat → Nat) (m : Nat) (hr : ∀ i, i < m → r i < 8) (hin : ∀ i j, i < m → j < m → r i = r j → i = j) : ∀ (c i : Nat) (σ : RS), i + c = m → ∀ j, i ≤ j → j < m → (g_meetR r m c i σ) 33 (lk r m j) = σ 33 (lk r m j) - σ 0 61 := by
  intro c
  induction c with
  | zero => intro i σ hi j h1 h2; omega
  | succ c ih =>
    intro i σ hi j h1 h2
    rw [g_meetR]
    by_cases hj : j = i
    · subst hj
      rw [g_meetR_out r m c (j + 1) _ (lk r m j) (fun k h3 h4 e => by have := lk_inj hr h2 (by omega) hin e; omega)]
      exact upd_same _ _ _
    · rw [ih (i + 1) _ (by omega) j (by omega) h2]
      show upd (σ 33) (lk r m i) _ (lk r m j) - σ 0 61 = _
      rw [upd_ne _ _ (fun e => hj (lk_inj hr h2 (by omega) hin e))]
def cntp (o : Nat → Int32) : Nat → Nat
  | 0 => 0
  | k + 1 => cntp o k + (if 0 < o k then 1 else 0)
theorem cntp_max (o : Nat → Int32) (k : Nat) : cntp o k ≤ k := by
  induction k with
  | zero => exact Nat.le_refl _
  | succ k ih => rw [cntp]; split <;> omega
theorem cntp_le {o p : Nat → Int32} : ∀ k, (∀ i, i < k → 0 < p i → 0 < o i) → cntp p k ≤ cntp o k := by
  intro k
  induction k with
  | zero => intro _; exact Nat.le_refl _
  | succ k ih =>
    intro h
    have h1 := ih (fun i hi => h i (by omega))
    rw [cntp, cntp]
    by_cases hp : 0 < p k
    · rw [if_pos hp, if_pos (h k (by omega) hp)]; omega
    · rw [if_neg hp]; split <;> omega
theorem cntp_lt {o p : Nat → Int32} : ∀ k, (∀ i, i < k → 0 < p i → 0 < o i) → ∀ x, x < k → 0 < o x → ¬ 0 < p x → cntp p k < cntp o k := by
  intro k
  induction k with
  | zero => intro _ x hx; omega
  | succ k ih =>
    intro h x hx ho hp
    rw [cntp, cntp]
    by_cases hk : x = k
    · subst hk
      rw [if_pos ho, if_neg hp]
      have := cntp_le x (fun i hi => h i (by omega))
      omega
    · have h1 := ih (fun i hi => h i (by omega)) x (by omega) ho hp
      by_cases hq : 0 < p k
      · rw [if_pos hq, if_pos (h k (by omega) hq)]; omega
      · rw [if_neg hq]; split <;> omega
/-- the debts behind one ring met -/
theorem g_met {B : Nat} {σ : RS} {m : Nat} {r : Nat → Nat} (hb : ob B (σ 33)) (hB : B ≤ 5000000) (hr : rng (σ 33) m r) (h61 : σ 0 61 = gl (σ 33) r m m) : ob B ((g_meetR r m m 0 σ) 33) ∧ cntp ((g_meetR r m m 0 σ) 33) 64 < cntp (σ 33) 64 := by
  obtain ⟨r1, r2, r3, r4, r5⟩ := hr
  obtain ⟨L, h1, h2, h3, j, h4, h5⟩ := gl_min hb hB r3 m (by omega) (Nat.le_refl _)
  have hin := g_meetR_in r m r3 r4 m 0 σ (by omega)
  have each : ∀ x, x < 64 → (∃ v : Nat, v ≤ nt (σ 33 x) ∧ (g_meetR r m m 0 σ) 33 x = nI v) := by
    intro x hx
    obtain ⟨a1, a2⟩ := hb.at hB hx
    by_cases hl : ∃ k, k < m ∧ x = lk r m k
    · obtain ⟨k, hk, e⟩ := hl
      subst e
      refine ⟨nt (σ 33 (lk r m k)) - L, by omega, ?_⟩
      rw [hin k (by omega) hk, h61, h1, a1, nt_nI (by omega), nI_sub (h3 k hk)]
    · refine ⟨nt (σ 33 x), Nat.le_refl _, ?_⟩
      rw [g_meetR_out r m m 0 σ x (fun k _ hk e => hl ⟨k, by omega, e⟩)]
      exact a1
  refine ⟨fun x hx => ?_, ?_⟩
  · obtain ⟨v, q1, q2⟩ := each x hx
    exact ⟨v, by have := (hb.at hB hx).2; omega, q2⟩
  · refine cntp_lt 64 (fun x hx hp => ?_) (lk r m j) (lk_lt r3 h4) ?_ ?_
    · obtain ⟨v, q1, q2⟩ := each x hx
      obtain ⟨a1, a2⟩ := hb.at hB hx
      rw [q2] at hp
      have h0 : 0 < v := (nI_ltI (a := 0) (by omega) (by omega)).mp hp
      rw [a1]
      exact nI_lt (a := 0) (by omega) (by omega)
    · obtain ⟨a1, a2⟩ := hb.at hB (lk_lt r3 h4)
      have h6 := r5 j h4
      rw [a1] at h6 ⊢
      refine nI_lt (a := 0) ?_ (by omega)
      exact Nat.pos_of_ne_zero (fun z => h6 (by rw [z]; rfl))
    · obtain ⟨a1, a2⟩ := hb.at hB (lk_lt r3 h4)
      rw [hin j (by omega) h4, h61, h1, a1, h5, nI_sub (Nat.le_refl _), Nat.sub_self]
      decide
theorem rng_cnt {B : Nat} {o : Nat → Int32} {m : Nat} {r : Nat → Nat} (hb : ob B o) (hB : B ≤ 5000000) (hr : rng o m r) : 0 < cntp o 64 := by
  obtain ⟨r1, r2, r3, r4, r5⟩ := hr
  have h := cntp_lt (o := o) (p := fun _ => 0) 64 (fun _ _ h => absurd h (by decide)) (lk r m 0) (lk_lt r3 (by omega)) (by
    obtain ⟨a1, a2⟩ := hb.at hB (lk_lt r3 (show 0 < m by omega))
    have h6 := r5 0 (by omega)
    rw [a1] at h6 ⊢
    exact nI_lt (a := 0) (Nat.pos_of_ne_zero (fun z => h6 (by rw [z]; rfl))) (by omega)) (show ¬ (0 : Int32) < 0 by decide)
  omega
theorem g_r_of {σ : RS} {m : Nat} {r : Nat → Nat} (hm : m ≤ 8) (h59 : σ 0 59 = nI m) (hr : ∀ i, i < m → r i < 8) (h41 : ∀ i, i < m → σ 41 i = nI (r i)) : g_m σ = m ∧ ∀ i, i < m → g_r σ i = r i := by
  refine ⟨by unfold g_m; rw [h59]; exact nt_nI (by omega), fun i hi => ?_⟩
  unfold g_r
  rw [h41 i hi]
  exact nt_nI (by have := hr i hi; omega)
theorem lk_same {r q : Nat → Nat} {m : Nat} (h : ∀ i, i < m → q i = r i) {j : Nat} (hj : j < m) : lk q m j = lk r m j := by
  unfold lk
  rw [h j hj, h _ (Nat.mod_lt _ (by omega))]
theorem gl_same {o : Nat → Int32} {r q : Nat → Nat} {m : Nat} (h : ∀ i, i < m → q i = r i) : ∀ i, i ≤ m → gl o q m i = gl o r m i := by
  intro i
  induction i with
  | zero => intro _; rfl
  | succ i ih => intro hi; rw [gl, gl, ih (by omega), lk_same h (by omega)]
theorem rng_same {o : Nat → Int32} {r q : Nat → Nat} {m : Nat} (h : ∀ i, i < m → q i = r i) (hr : rng o m r) : rng o m q := by
  obtain ⟨r1, r2, r3, r4, r5⟩ := hr
  exact ⟨r1, r2, fun i hi => by rw [h i hi]; exact r3 i hi, fun i j hi hj e => r4 i j hi hj (by rw [← h i hi, ← h j hj]; exact e), fun i hi => by rw [lk_same h hi]; exact r5 i hi⟩
/-- a found ring, told by the row that holds it -/
theorem f_found_row {o : Nat → Int32} {σ : RS} (h : f_foundO o σ) (h0 : 0 < σ 0 59) : rng o (g_m σ) (g_r σ) ∧ σ 0 61 = gl o (g_r σ) (g_m σ) (g_m σ) := by
  rcases h with h | ⟨m, r, hr, h59, h41, h61, h60⟩
  · rw [h] at h0; exact absurd h0 (by decide)
  obtain ⟨e1, e2⟩ := g_r_of hr.2.1 h59 hr.2.2.1 h41
  rw [e1]
  exact ⟨rng_same e2 hr, by rw [h61]; exact (gl_same e2 m (Nat.le_refl _)).symm⟩
theorem g_meets_end {P B : Nat} (hP : P ≤ 8) (hB : B ≤ 5000000) : ∀ (c : Nat) (σ : RS), f_foundO (σ 33) σ → ob B (σ 33) → cntp (σ 33) 64 ≤ c → ¬ 0 < (g_meets P c σ) 0 59 ∧ ob B ((g_meets P c σ) 33) := by
  intro c
  induction c with
  | zero =>
    intro σ hf hb hc
    refine ⟨fun h0 => ?_, hb⟩
    have := rng_cnt hb hB (f_found_row hf h0).1
    omega
  | succ c ih =>
    intro σ hf hb hc
    rw [g_meets]
    by_cases h0 : 0 < σ 0 59
    · rw [if_pos h0]
      obtain ⟨hr, h61⟩ := f_found_row hf h0
      obtain ⟨m1, m2⟩ := g_met hb hB hr h61
      have e33 : (f_find P (g_meetR (g_r σ) (g_m σ) (g_m σ) 0 σ)) 33 = (g_meetR (g_r σ) (g_m σ) (g_m σ) 0 σ) 33 := (f_kp_find P _).1 33 (by decide) (by decide) (by decide) (by decide)
      refine ih _ ?_ (by rw [e33]; exact m1) (by rw [e33]; omega)
      rw [e33]
      exact f_find_found hP _
    · rw [if_neg h0]
      exact ⟨h0, hb⟩
theorem g_meets_ok {P B : Nat} (hP : P ≤ 8) (hB : B ≤ 5000000) (σ : RS) (hb : ob B (σ 33)) : ¬ 0 < (g_meets P 64 (f_find P σ)) 0 59 ∧ ob B ((g_meets P 64 (f_find P σ)) 33) := by
  have e33 : (f_find P σ) 33 = σ 33 := (f_kp_find P _).1 33 (by decide) (by decide) (by decide) (by decide)
  refine g_meets_end hP hB 64 _ (by rw [e33]; exact f_find_found hP σ) (by rw [e33]; exact hb) (cntp_max _ _)
