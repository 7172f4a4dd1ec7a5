/-! Rings: both searches find the same, and a MEETING leaves the same. -/
/-- debts: small ones, of nobody to oneself, among P persons -/
def obd (B P : Nat) (o : Nat → Int32) : Prop := ob B o ∧ (∀ i, i < 8 → o (8 * i + i) = 0) ∧ ∀ i j, i < 8 → j < 8 → P ≤ i ∨ P ≤ j → o (8 * i + j) = 0
theorem sp_find_class {B : Nat} (hB : B ≤ 5000000) (σ : RS) (hb : ob B (σ 1)) (hdiag : ∀ i, i < 8 → σ 1 (8 * i + i) = 0) : cb B (r_find σ) (sp_find (σ 1) 8) := by
  have h : ∀ (c s : Nat) (τ : RS) (b : BS), s + c = 8 → τ 1 = σ 1 → cb B τ b → cb B (r_for r_from c s τ) (bfor (sp_start (σ 1) 8) c s b) := by
    intro c
    induction c with
    | zero => intro s τ b _ _ h; exact h
    | succ c ih =>
      intro s τ b hc h1 h
      have e0 : (1 : Int32) <<< (nI s &&& 31) = nI (2 ^ s) := by
        obtain ⟨b1, -, -, b4⟩ := bt_s ⟨s, by omega⟩
        exact b1.trans (by rw [b4])
      have hp : c_path (s1 (s2 τ 0 3 (nI s)) 2 (putF 8 ((s2 τ 0 3 (nI s)) 2) 0 (nI s))) (fun _ => s) 0 := by
        intro i hi
        have hi : i = 0 := by omega
        subst hi
        show putF 8 (τ 2) (nI 0) (nI s) 0 = _
        rw [putF_nI _ _ (by omega) (by omega)]
        exact upd_same _ _ _
      have := sp_class hb hB (show s < 8 by omega) hdiag 7 0 (2 ^ s) 2147483647 (fun _ => s) (s1 (s2 τ 0 3 (nI s)) 2 (putF 8 ((s2 τ 0 3 (nI s)) 2) 0 (nI s))) b rfl (pth.start _ (Nat.le_refl 8) (by omega)) (pm.start _ _) hp h1 rfl h
      have e : r_from s τ = r_walk s 7 (nI (0 + 1)) (nI (2 ^ s)) (nI 2147483647) (s1 (s2 τ 0 3 (nI s)) 2 (putF 8 ((s2 τ 0 3 (nI s)) 2) 0 (nI s))) := by
        unfold r_from
        rw [e0]
        rfl
      refine ih (s + 1) _ _ (by omega) ?_ ?_
      · rw [e]; exact this.2.2.1.trans h1
      · rw [e]; exact this.1
  refine h 8 0 _ _ rfl rfl ?_
  exact ⟨rfl, Nat.zero_le _, fun _ => rfl, rfl, rfl, fun i hi => absurd hi (Nat.not_lt_zero i), Nat.zero_le _⟩
theorem bfor_add (g : Nat → BS → BS) : ∀ (c d k : Nat) (b : BS), bfor g (c + d) k b = bfor g d (k + c) (bfor g c k b) := by
  intro c
  induction c with
  | zero => intro d k b; rw [Nat.zero_add]; rfl
  | succ c ih => intro d k b; rw [show c + 1 + d = (c + d) + 1 by omega, bfor, ih, bfor, show k + 1 + c = k + (c + 1) by omega]
theorem bfor_congr {g h : Nat → BS → BS} : ∀ (c k : Nat) (b : BS), (∀ j b, k ≤ j → j < k + c → g j b = h j b) → bfor g c k b = bfor h c k b := by
  intro c
  induction c with
  | zero => intro k b _; rfl
  | succ c ih =>
    intro k b hg
    rw [bfor, bfor, hg k b (Nat.le_refl _) (by omega)]
    exact ih (k + 1) _ (fun j b h1 h2 => hg j b (by omega) (by omega))
theorem sp_few {o : Nat → Int32} {P s : Nat} (hP : P ≤ 8) (hs : s < P) (hz : ∀ i j, i < 8 → j < 8 → P ≤ i ∨ P ≤ j → o (8 * i + j) = 0) : ∀ (f n u a : Nat) (r : Nat → Nat) (b : BS), r n < 8 → sp_node o 8 s f n u a r b = sp_node o P s f n u a r b := by
  have tail : ∀ (V : Nat → Nat → Nat → (Nat → Nat) → BS → BS) (n u a : Nat) (r : Nat → Nat) (b : BS), r n < 8 → bfor (sp_try o V n u a r) (8 - 1 - s) (s + 1) b = bfor (sp_try o V n u a r) (P - 1 - s) (s + 1) b := by
    intro V n u a r b hr
    rw [show 8 - 1 - s = (P - 1 - s) + (8 - P) by omega, bfor_add]
    refine bfor_id _ _ (fun x h1 h2 => ?_)
    unfold sp_try
    rw [if_neg]
    intro z
    exact z.2 (hz (r n) x hr (by omega) (Or.inr (by omega)))
  intro f
  induction f with
  | zero => intro n u a r b hr; rw [sp_node, sp_node]; exact tail _ n u a r _ hr
  | succ f ih =>
    intro n u a r b hr
    rw [sp_node, sp_node, tail _ n u a r _ hr]
    refine bfor_congr _ _ _ (fun x b h1 h2 => ?_)
    unfold sp_try
    rw [ih (n + 1) _ _ _ b (by rw [updN_same]; omega)]
theorem sp_find_few {o : Nat → Int32} {P : Nat} (hP : P ≤ 8) (hz : ∀ i j, i < 8 → j < 8 → P ≤ i ∨ P ≤ j → o (8 * i + j) = 0) : sp_find o 8 = sp_find o P := by
  unfold sp_find
  rw [show 8 = P + (8 - P) by omega, bfor_add, show P + (8 - P) = 8 by omega, Nat.zero_add]
  rw [bfor_id (8 - P) P (fun s h1 h2 => ?_)]
  · refine bfor_congr _ _ _ (fun s b h1 h2 => ?_)
    exact sp_few hP (by omega) hz 7 0 _ _ _ b (by show s < 8; omega)
  · unfold sp_start
    have hcl : ∀ b, sp_close o s 0 2147483647 (fun _ => s) b = b := fun b => if_neg (fun z => absurd z.1 (Nat.lt_irrefl 0))
    rw [sp_node, hcl]
    refine bfor_id _ _ (fun x q1 q2 => ?_)
    unfold sp_try
    rw [if_neg]
    intro z
    exact z.2 (hz s x (by omega) (by omega) (Or.inl h1))
/-- the first ring: the class's and the model's -/
theorem find_eq {B P : Nat} (hB : B ≤ 5000000) (hP : P ≤ 8) {σc σm : RS} (h : σc 1 = σm 33) (ho : obd B P (σm 33)) : ∃ b : BS, cb B (r_find σc) b ∧ mb B (f_find P σm) b := by
  refine ⟨sp_find (σm 33) P, ?_, sp_find_model hB hP σm ho.1⟩
  have := sp_find_class hB σc (by rw [h]; exact ho.1) (by rw [h]; exact ho.2.1)
  rwa [h, sp_find_few hP ho.2.2] at this
theorem meetR_eq {m : Nat} {r : Nat → Nat} (hm1 : 1 ≤ m) (hm8 : m ≤ 8) (hr : ∀ i, i < m → r i < 8) (L : Int32) : ∀ (c k : Nat) (σc σm : RS), k + c = m → σc 1 = σm 33 → σc 0 4 = nI m → σc 0 5 = L → σm 0 61 = L → (∀ i, i < m → σc 3 i = nI (r i)) → (r_for r_meet1 c k σc) 1 = (g_meetR r m c k σm) 33 := by
  intro c
  induction c with
  | zero => intro k σc σm _ h1 _ _ _ _; exact h1
  | succ c ih =>
    intro k σc σm hk h1 h4 h5 h61 h3
    rw [r_for, g_meetR]
    have hmod : (k + 1) % m < m := Nat.mod_lt _ (by omega)
    have ep : atF 8 (σc 3) (nI k) * 8 + (if nI k + 1 < σc 0 4 then atF 8 (σc 3) (nI k + 1) else atF 8 (σc 3) 0) = nI (8 * r k + r ((k + 1) % m)) := by
      have ea : atF 8 (σc 3) (nI k) = nI (r k) := by rw [atF_nI _ (by omega) (by omega)]; exact h3 k (by omega)
      have eb : (if nI k + 1 < σc 0 4 then atF 8 (σc 3) (nI k + 1) else atF 8 (σc 3) 0) = nI (r ((k + 1) % m)) := by
        by_cases hlt : k + 1 < m
        · rw [if_pos (by rw [h4, nI_1]; exact nI_lt hlt (by omega)), nI_1, atF_nI _ (by omega) (by omega), Nat.mod_eq_of_lt hlt]
          exact h3 _ hlt
        · have e : k + 1 = m := by omega
          rw [if_neg (by rw [h4, nI_1, e]; exact nI_nlt (Nat.le_refl _) (by omega)), e, Nat.mod_self, show (0 : Int32) = nI 0 from rfl, atF_nI _ (by omega) (by omega)]
          exact h3 0 (by omega)
      rw [ea, eb, cell8 (hr k (by omega)) (hr _ hmod)]
    have hlt64 : 8 * r k + r ((k + 1) % m) < 64 := by
      have := hr k (by omega)
      have := hr _ hmod
      omega
    have e1 : (r_meet1 k σc) 1 = (g_meet1 σm r m k) 33 := by
      unfold r_meet1 g_meet1
      rw [ep, s1_same, s1_same, atF_nI _ hlt64 (by omega), putF_nI _ _ hlt64 (by omega), h1, h5, h61]
    exact ih (k + 1) _ _ (by omega) e1 h4 h5 h61 h3
theorem mb_found {B P : Nat} (hP : P ≤ 8) {σm : RS} {b : BS} (h : mb B (f_find P σm) b) (h0 : 0 < b.1) : rng (σm 33) b.1 b.2.2.2 ∧ g_m (f_find P σm) = b.1 ∧ (∀ i, i < b.1 → g_r (f_find P σm) i = b.2.2.2 i) ∧ (f_find P σm) 0 61 = gl (σm 33) b.2.2.2 b.1 b.1 := by
  obtain ⟨h59, hb8, hb0, hbr, -⟩ := h
  obtain ⟨h60, h61, h41⟩ := hbr h0
  have hpos : 0 < (f_find P σm) 0 59 := by rw [h59]; exact nI_lt (a := 0) h0 (by omega)
  have hF := f_find_found hP σm
  obtain ⟨q1, q2⟩ := f_found_row hF hpos
  have em : g_m (f_find P σm) = b.1 := by unfold g_m; rw [h59]; exact nt_nI (by omega)
  rw [em] at q1 q2
  have er : ∀ i, i < b.1 → g_r (f_find P σm) i = b.2.2.2 i := fun i hi => by
    obtain ⟨h1, h2⟩ := h41 i hi
    unfold g_r
    rw [h1]
    exact nt_nI (by omega)
  refine ⟨rng_same (fun i hi => (er i hi).symm) q1, em, er, ?_⟩
  rw [q2]
  exact gl_same er _ (Nat.le_refl _)
theorem g_meetR_same {r q : Nat → Nat} {m : Nat} (h : ∀ i, i < m → q i = r i) : ∀ (c k : Nat) (σ : RS), k + c = m → g_meetR q m c k σ = g_meetR r m c k σ := by
  intro c
  induction c with
  | zero => intro k σ _; rfl
  | succ c ih =>
    intro k σ hk
    have e : g_meet1 σ q m k = g_meet1 σ r m k := by
      unfold g_meet1
      rw [h k (by omega), h _ (Nat.mod_lt _ (by omega))]
    rw [g_meetR, g_meetR, e, ih (k + 1) _ (by omega)]
theorem obd_meet {B P m : Nat} {r : Nat → Nat} {σ : RS} (hB : B ≤ 5000000) (ho : obd B P (σ 33)) (hr : rng (σ 33) m r) (h61 : σ 0 61 = gl (σ 33) r m m) : obd B P ((g_meetR r m m 0 σ) 33) := by
  have hz : ∀ x, σ 33 x = 0 → (g_meetR r m m 0 σ) 33 x = σ 33 x := fun x hx => g_meetR_out r m m 0 σ x (fun j _ hj e => hr.2.2.2.2 j (by omega) (by rw [← e]; exact hx))
  refine ⟨(g_met ho.1 hB hr h61).1, fun i hi => ?_, fun i j hi hj hP => ?_⟩
  · rw [hz _ (ho.2.1 i hi)]; exact ho.2.1 i hi
  · rw [hz _ (ho.2.2 i j hi hj hP)]; exact ho.2.2 i j hi hj hP
theorem meet_eq {B P : Nat} (hB : B ≤ 5000000) (hP : P ≤ 8) : ∀ (c : Nat) (σc σm : RS), σc 1 = σm 33 → obd B P (σm 33) → (r_meet c σc) 1 = (g_meets P c (f_find P σm)) 33 ∧ obd B P ((g_meets P c (f_find P σm)) 33) := by
  intro c
  induction c with
  | zero =>
    intro σc σm h ho
    have e33 : (f_find P σm) 33 = σm 33 := (f_kp_find P _).1 33 (by decide) (by decide) (by decide) (by decide)
    rw [r_meet, g_meets, e33]
    exact ⟨h, ho⟩
  | succ c ih =>
    intro σc σm h ho
    obtain ⟨b, hc, hm⟩ := find_eq hB hP h ho
    have e33 : (f_find P σm) 33 = σm 33 := (f_kp_find P _).1 33 (by decide) (by decide) (by decide) (by decide)
    have e1 : (r_find σc) 1 = σc 1 := r_find_sums σc
    rw [r_meet, g_meets]
    have h4 := hc.1
    have h59 := hm.1
    have hb8 := hc.2.1
    by_cases h0 : 0 < b.1
    · have p1 : 0 < (r_find σc) 0 4 := by rw [h4]; exact nI_lt (a := 0) h0 (by omega)
      have p2 : 0 < (f_find P σm) 0 59 := by rw [h59]; exact nI_lt (a := 0) h0 (by omega)
      rw [if_pos p1, if_pos p2]
      obtain ⟨hr, em, er, eg⟩ := mb_found hP hm h0
      rw [em, g_meetR_same er b.1 0 _ (by omega)]
      have hL : (f_find P σm) 0 61 = nI b.2.2.1 := (hm.2.2.2.1 h0).2.1
      have eR : (r_round (r_find σc)) 1 = (g_meetR b.2.2.2 b.1 b.1 0 (f_find P σm)) 33 := by
        unfold r_round
        rw [h4, nI_clamp (by omega)]
        exact meetR_eq (by omega) (by omega) hr.2.2.1 (nI b.2.2.1) b.1 0 _ _ (by omega) (by rw [e1, h, e33]) h4 hc.2.2.2.2.1 hL hc.2.2.2.2.2.1
      refine ih _ _ eR ?_
      exact obd_meet hB (by rw [e33]; exact ho) (by rw [e33]; exact hr) (by rw [e33]; exact eg)
    · have hb : b.1 = 0 := by omega
      rw [if_neg (by rw [h4, hb]; decide), if_neg (by rw [h59, hb]; decide), e33]
      exact ⟨e1.trans h, ho⟩
/-- a ring's i-th person -/
theorem link_eq {B P : Nat} (hB : B ≤ 5000000) (hP : P ≤ 8) {σc σm : RS} (h : σc 1 = σm 33) (ho : obd B P (σm 33)) (i : Int32) (hi : 0 ≤ i) : (if 0 ≤ i ∧ i < (r_find σc) 0 4 then atF 8 ((r_find σc) 3) i else -1) = (if i < (f_find P σm) 0 59 then (f_find P σm) 41 (nt i) else -1) := by
  obtain ⟨b, hc, hm⟩ := find_eq hB hP h ho
  obtain ⟨j, j1, j2⟩ := nI_of (Int32.not_lt.mpr hi)
  have h4 := hc.1
  have h59 := hm.1
  have hb8 := hc.2.1
  by_cases hj : j < b.1
  · rw [if_pos ⟨hi, by rw [h4, j2]; exact nI_lt hj (by omega)⟩, if_pos (by rw [h59, j2]; exact nI_lt hj (by omega)), j2, atF_nI _ (by omega) (by omega), nt_nI j1]
    rw [hc.2.2.2.2.2.1 j hj, ((hm.2.2.2.1 (by omega)).2.2 j hj).1]
  · have hn : ¬ nI j < nI b.1 := nI_nlt (by omega) j1
    rw [if_neg (fun z => hn (by have := z.2; rwa [h4, j2] at this)), if_neg (fun z => hn (by rwa [h59, j2] at z))]
