/-! Rings: the class's search, which gives up early. -/
def cb (B : Nat) (σ : RS) (b : BS) : Prop := σ 0 4 = nI b.1 ∧ b.1 ≤ 8 ∧ (b.1 = 0 → b.2.1 = 0) ∧ σ 0 6 = nI b.2.1 ∧ σ 0 5 = nI b.2.2.1 ∧ (∀ i, i < b.1 → σ 3 i = nI (b.2.2.2 i)) ∧ b.2.1 ≤ 8 * B
/-- nothing on the way can win: each ring has K persons at most, a sum of A at most -/
def lost (b : BS) (A K : Nat) : Prop := A * K < b.2.1 ∨ (A * K = b.2.1 ∧ b.1 ≤ K)
theorem lost_bo {b : BS} {A K m L : Nat} {r : Nat → Nat} (h : lost b A K) (hA : 0 < A) (hL : L ≤ A) (hm : m ≤ K) : bo m L r b = b := by
  unfold bo
  rw [if_neg]
  intro z
  have h1 : L * m ≤ A * K := Nat.mul_le_mul hL hm
  have h2 : m < K → L * m < A * K := fun q => Nat.lt_of_le_of_lt (Nat.mul_le_mul_right m hL) (Nat.mul_lt_mul_of_pos_left q hA)
  unfold lost at h
  rcases z with z | ⟨z1, z2⟩
  · omega
  · rcases h with h | ⟨h3, h4⟩
    · omega
    · have : m = K := by
        refine Nat.le_antisymm hm (Nat.le_of_not_lt (fun q => ?_))
        have := h2 q
        omega
      omega
theorem bfor_id {g : Nat → BS → BS} {b : BS} : ∀ (c k : Nat), (∀ j, k ≤ j → j < k + c → g j b = b) → bfor g c k b = b := by
  intro c
  induction c with
  | zero => intro k _; rfl
  | succ c ih =>
    intro k h
    rw [bfor, h k (Nat.le_refl _) (by omega)]
    exact ih (k + 1) (fun j h1 h2 => h j (by omega) (by omega))
theorem sp_lost {o : Nat → Int32} {P s A : Nat} {b : BS} (hP : P ≤ 8) (hs : s < P) (hA : 0 < A) (hl : lost b A (8 - s)) : ∀ (f n u a : Nat) (r : Nat → Nat), n + f = 7 → pth o P s n u r → a ≤ A → sp_node o P s f n u a r b = b := by
  have close : ∀ (n u a : Nat) (r : Nat → Nat), pth o P s n u r → a ≤ A → sp_close o s n a r b = b := by
    intro n u a r hp ha
    unfold sp_close
    split
    · have := hp.few (by omega)
      exact lost_bo hl hA (by omega) (by omega)
    · rfl
  intro f
  induction f with
  | zero =>
    intro n u a r hn hp ha
    rw [sp_node, close n u a r hp ha]
    refine bfor_id _ _ (fun x h1 h2 => ?_)
    unfold sp_try
    split <;> rfl
  | succ f ih =>
    intro n u a r hn hp ha
    rw [sp_node, close n u a r hp ha]
    refine bfor_id _ _ (fun x h1 h2 => ?_)
    unfold sp_try
    split
    · rename_i hc
      exact ih (n + 1) _ _ _ (by omega) (hp.step hP (by omega) (by omega) hc.1 hc.2) (by omega)
    · rfl
theorem can_iff {B : Nat} {σ : RS} {b : BS} {s a : Nat} (h : cb B σ b) (hB : B ≤ 5000000) (h3 : σ 0 3 = nI s) (hs : s < 8) (ha : a ≤ B) : (r_can σ (nI a) = true) ↔ ¬ lost b a (8 - s) := by
  obtain ⟨c1, c2, c3, c4, c5, c6, c7⟩ := h
  have e1 : (8 : Int32) - nI s = nI (8 - s) := nI_sub (a := 8) (b := s) (by omega)
  have e2 : nI (8 - s) * nI a = nI ((8 - s) * a) := nI_mul _ _
  have hm : (8 - s) * a ≤ 8 * B := Nat.mul_le_mul (by omega) ha
  unfold r_can lost
  rw [h3, e1, e2, c4, c1, decide_eq_true_iff, nI_ltI (by omega) (by omega), nI_eq (by omega) (by omega), nI_ltI (by omega) (by omega), Nat.mul_comm a (8 - s)]
  omega
theorem mn_nI {a b : Nat} (ha : a < 2 ^ 31) (hb : b < 2 ^ 31) : mn (nI a) (nI b) = nI (min a b) := by
  unfold mn
  have e := nI_ltI hb ha
  by_cases h : b < a
  · rw [if_pos (e.mpr h), Nat.min_eq_right (by omega)]
  · rw [if_neg (fun z => h (e.mp z)), Nat.min_eq_left (by omega)]
/-- the class's way: its rows' beginning -/
def c_path (σ : RS) (r : Nat → Nat) (n : Nat) : Prop := ∀ i, i ≤ n → σ 2 i = nI (r i)
theorem cell8 {a b : Nat} (ha : a < 8) (hb : b < 8) : nI a * 8 + nI b = nI (8 * a + b) := by
  rw [show nI a * (8 : Int32) = nI (a * 8) from nI_mul a 8, nI_add, Nat.mul_comm]
theorem cb_offer {B s n u a : Nat} {o : Nat → Int32} {r : Nat → Nat} {σ : RS} {b : BS} (hb : ob B o) (hB : B ≤ 5000000) (hs : s < 8) (hp : pth o 8 s n u r) (hpm : pm o n r a) (hr : c_path σ r n) (h0 : 0 < n) (hc : 0 < o (8 * r n + s)) (h : cb B σ b) : cb B (r_offer σ (nI (n + 1)) (nI (min a (nt (o (8 * r n + s)))))) (bo (n + 1) (min a (nt (o (8 * r n + s)))) r b) := by
  have hf := hp.few (by omega)
  have hLB := (hpm.ring hp (Nat.le_refl 8) (by omega) hb hB h0).2
  obtain ⟨c1, c2, c3, c4, c5, c6, c7⟩ := h
  generalize min a (nt (o (8 * r n + s))) = L at *
  have hLm : L * (n + 1) ≤ 8 * B := by
    calc L * (n + 1) ≤ B * 8 := Nat.mul_le_mul hLB (by omega)
      _ = 8 * B := Nat.mul_comm _ _
  have e2 : nI (n + 1) * nI L = nI (L * (n + 1)) := by rw [nI_mul, Nat.mul_comm]
  unfold r_offer bo
  have key : (σ 0 6 < nI (L * (n + 1)) ∨ nI (L * (n + 1)) = σ 0 6 ∧ nI (n + 1) < σ 0 4) ↔ (b.2.1 < L * (n + 1) ∨ (L * (n + 1) = b.2.1 ∧ n + 1 < b.1)) := by
    rw [c4, c1, nI_ltI (by omega) (by omega), nI_eq (by omega) (by omega), nI_ltI (by omega) (by omega)]
  rw [e2]
  by_cases hk : b.2.1 < L * (n + 1) ∨ (L * (n + 1) = b.2.1 ∧ n + 1 < b.1)
  · rw [if_pos (key.mpr hk), if_pos hk]
    refine ⟨rfl, by show n + 1 ≤ 8; omega, (fun z => by cases z), rfl, rfl, fun i hi => ?_, hLm⟩
    have hi : i < n + 1 := hi
    show va_cpy (σ 2) (σ 3) 0 0 8 i = _
    unfold va_cpy
    rw [if_pos (by omega), show 0 + (i - 0) = i by omega]
    exact hr i (by omega)
  · rw [if_neg (fun z => hk (key.mp z)), if_neg hk]
    exact ⟨c1, c2, c3, c4, c5, c6, c7⟩
/-- what the walk keeps of the class's rows -/
def c_kp (n : Nat) (σ σ' : RS) : Prop := σ' 0 3 = σ 0 3 ∧ σ' 1 = σ 1 ∧ ∀ i, i ≤ n → σ' 2 i = σ 2 i
theorem c_kp.refl (n : Nat) (σ : RS) : c_kp n σ σ := ⟨rfl, rfl, fun _ _ => rfl⟩
theorem c_kp.trans {n : Nat} {x y z : RS} (h : c_kp n x y) (g : c_kp n y z) : c_kp n x z := ⟨g.1.trans h.1, g.2.1.trans h.2.1, fun i hi => (g.2.2 i hi).trans (h.2.2 i hi)⟩
theorem c_kp_offer (n : Nat) (σ : RS) (x y : Int32) : c_kp n σ (r_offer σ x y) := by
  unfold r_offer
  split
  · exact ⟨rfl, rfl, fun _ _ => rfl⟩
  · exact c_kp.refl _ _
theorem c_kp_close (n : Nat) (σ : RS) (x y z : Int32) : c_kp n σ (r_close x y z σ) := by
  unfold r_close
  split
  · exact c_kp_offer _ _ _ _
  · exact c_kp.refl _ _
theorem sp_class {B s : Nat} {o : Nat → Int32} (hb : ob B o) (hB : B ≤ 5000000) (hs : s < 8) (hdiag : ∀ i, i < 8 → o (8 * i + i) = 0) : ∀ (f n u a : Nat) (r : Nat → Nat) (σ : RS) (b : BS), n + f = 7 → pth o 8 s n u r → pm o n r a → c_path σ r n → σ 1 = o → σ 0 3 = nI s → cb B σ b → cb B (r_walk s f (nI (n + 1)) (nI u) (nI a) σ) (sp_node o 8 s f n u a r b) ∧ c_kp n σ (r_walk s f (nI (n + 1)) (nI u) (nI a) σ) := by
  have close : ∀ (n u a : Nat) (r : Nat → Nat) (σ : RS) (b : BS), n < 8 → pth o 8 s n u r → pm o n r a → c_path σ r n → σ 1 = o → σ 0 3 = nI s → cb B σ b → cb B (r_close (nI (n + 1)) (nI a) (atF 8 (σ 2) (nI (n + 1) - 1)) σ) (sp_close o s n a r b) := by
    intro n u a r σ b hn hp hpm hr h1 h3 hI
    have hrn : r n < 8 := (hp.2.1 n (Nat.le_refl _)).2.1
    have hal := hpm.le hb hB (fun i hi => (hp.2.1 i hi).2.1)
    have el : atF 8 (σ 2) (nI (n + 1) - 1) = nI (r n) := by rw [nI_pred, atF_nI _ hn (by omega)]; exact hr n (Nat.le_refl _)
    have ec : atF 64 (σ 1) (nI (r n) * 8 + σ 0 3) = o (8 * r n + s) := by
      rw [h3, cell8 hrn hs, atF_nI _ (by omega) (by omega), h1]
    obtain ⟨o1, o2⟩ := hb.at hB (i := 8 * r n + s) (by omega)
    unfold r_close sp_close
    rw [el, ec]
    by_cases hn0 : 0 < n
    · by_cases hc : 0 < o (8 * r n + s)
      · rw [if_pos hc, if_pos ⟨hn0, hc⟩]
        have e : mn (nI a) (o (8 * r n + s)) = nI (min a (nt (o (8 * r n + s)))) := by
          have := mn_nI (a := a) (b := nt (o (8 * r n + s))) (by omega) (by omega)
          rwa [← o1] at this
        rw [e]
        exact cb_offer hb hB hs hp hpm hr hn0 hc hI
      · rw [if_neg hc, if_neg (fun z => hc z.2)]
        exact hI
    · have e0 : n = 0 := by omega
      subst e0
      have : r 0 = s := hp.1
      rw [if_neg (fun z => by rw [this, hdiag s hs] at z; exact absurd z (by decide)), if_neg (fun z => hn0 z.1)]
      exact hI
  have loop : ∀ (n u a : Nat) (r : Nat → Nat) (W : Int32 → Int32 → Int32 → RS → RS) (V : Nat → Nat → Nat → (Nat → Nat) → BS → BS) (last : Int32), n < 7 → last = nI (r n) → pth o 8 s n u r → pm o n r a → (∀ u a r σ b, pth o 8 s (n + 1) u r → pm o (n + 1) r a → c_path σ r (n + 1) → σ 1 = o → σ 0 3 = nI s → cb B σ b → cb B (W (nI (n + 2)) (nI u) (nI a) σ) (V (n + 1) u a r b) ∧ c_kp (n + 1) σ (W (nI (n + 2)) (nI u) (nI a) σ)) → (∀ u a r b, pth o 8 s (n + 1) u r → pm o (n + 1) r a → lost b a (8 - s) → V (n + 1) u a r b = b) → ∀ (c x : Nat) (σ : RS) (b : BS), s < x → x + c ≤ 8 → c_path σ r n → σ 1 = o → σ 0 3 = nI s → cb B σ b → cb B (r_for (r_try W (nI (n + 1)) (nI u) (nI a) last) c x σ) (bfor (sp_try o V n u a r) c x b) ∧ c_kp n σ (r_for (r_try W (nI (n + 1)) (nI u) (nI a) last) c x σ) := by
    intro n u a r W V last hn hlast hp hpm hW hV c
    subst hlast
    have hrn : r n < 8 := (hp.2.1 n (Nat.le_refl _)).2.1
    have hu : u < 256 := hp.2.2.2.2.1
    have hal := hpm.le hb hB (fun i hi => (hp.2.1 i hi).2.1)
    induction c with
    | zero => intro x σ b hsx hx hr h1 h3 hI; exact ⟨hI, c_kp.refl _ _⟩
    | succ c ih =>
      intro x σ b hsx hx hr h1 h3 hI
      have ec : atF 64 (σ 1) (nI (r n) * 8 + nI x) = o (8 * r n + x) := by
        rw [cell8 hrn (by omega), atF_nI _ (by omega) (by omega), h1]
      obtain ⟨o1, o2⟩ := hb.at hB (i := 8 * r n + x) (by omega)
      have opos := ob_pos hb hB (i := 8 * r n + x) (by omega)
      have hbit : (nI u >>> (nI x &&& 31) &&& 1 = 0) ↔ u.testBit x = false := by
        have all : ∀ u : Fin 256, ∀ x : Fin 8, (nI u.val >>> (nI x.val &&& 31) &&& 1 = 0) ↔ u.val.testBit x.val = false := by decide +kernel
        exact all ⟨u, hu⟩ ⟨x, by omega⟩
      have hor : nI u ||| 1 <<< (nI x &&& 31) = nI (u ||| 2 ^ x) := (bt_or ⟨u, hu⟩ ⟨x, by omega⟩).1
      have step : cb B (r_try W (nI (n + 1)) (nI u) (nI a) (nI (r n)) x σ) (sp_try o V n u a r x b) ∧ c_kp n σ (r_try W (nI (n + 1)) (nI u) (nI a) (nI (r n)) x σ) := by
        unfold r_try sp_try
        rw [ec, hor]
        by_cases hc : u.testBit x = false ∧ ¬ o (8 * r n + x) = 0
        · rw [if_pos hc, if_pos ⟨opos.1.mpr hc.2, hbit.mpr hc.1⟩]
          have hp2 := hp.step (Nat.le_refl 8) hsx (by omega) hc.1 hc.2
          have hpm2 := hpm.step hb hB hrn (x := x) (by omega)
          have e : mn (nI a) (o (8 * r n + x)) = nI (min a (nt (o (8 * r n + x)))) := by
            have := mn_nI (a := a) (b := nt (o (8 * r n + x))) (by omega) (by omega)
            rwa [← o1] at this
          rw [e]
          have hle : min a (nt (o (8 * r n + x))) ≤ B := by omega
          have hcan := can_iff hI hB h3 hs hle
          generalize min a (nt (o (8 * r n + x))) = a2 at *
          unfold r_step
          by_cases hl : lost b a2 (8 - s)
          · rw [if_neg (fun z => hcan.mp z hl), hV _ _ _ _ hp2 hpm2 hl]
            exact ⟨hI, c_kp.refl _ _⟩
          · rw [if_pos (hcan.mpr hl), putF_nI _ _ (by omega) (by omega), nI_1]
            have hr2 : c_path (s1 σ 2 (upd (σ 2) (n + 1) (nI x))) (updN r (n + 1) x) (n + 1) := fun i hi => by
              show upd (σ 2) (n + 1) (nI x) i = _
              by_cases h : i = n + 1
              · rw [h, upd_same, updN_same]
              · rw [upd_ne _ _ h, updN_ne _ _ h]; exact hr i (by omega)
            have := hW _ _ _ _ b hp2 hpm2 hr2 h1 h3 hI
            refine ⟨this.1, ?_⟩
            obtain ⟨q1, q2, q3⟩ := this.2
            exact ⟨q1, q2, fun i hi => (q3 i (by omega)).trans (upd_ne _ _ (by omega))⟩
        · rw [if_neg hc, if_neg (fun z => hc ⟨hbit.mp z.2, opos.1.mp z.1⟩)]
          exact ⟨hI, c_kp.refl _ _⟩
      obtain ⟨k1, k2, k3⟩ := step.2
      have := ih (x + 1) _ _ (by omega) (by omega) (fun i hi => (k3 i hi).trans (hr i hi)) (k2.trans h1) (k1.trans h3) step.1
      exact ⟨this.1, step.2.trans this.2⟩
  intro f
  induction f with
  | zero =>
    intro n u a r σ b hn hp hpm hr h1 h3 hI
    rw [r_walk, sp_node]
    have : bfor (sp_try o (fun _ _ _ _ b => b) n u a r) (8 - 1 - s) (s + 1) (sp_close o s n a r b) = sp_close o s n a r b := bfor_id _ _ (fun x _ _ => by unfold sp_try; split <;> rfl)
    rw [this]
    exact ⟨close n u a r σ b (by omega) hp hpm hr h1 h3 hI, c_kp_close _ _ _ _ _⟩
  | succ f ih =>
    intro n u a r σ b hn hp hpm hr h1 h3 hI
    rw [r_walk, sp_node]
    have hk := c_kp_close n σ (nI (n + 1)) (nI a) (atF 8 (σ 2) (nI (n + 1) - 1))
    have hc := close n u a r σ b (by omega) hp hpm hr h1 h3 hI
    have hrn : r n < 8 := (hp.2.1 n (Nat.le_refl _)).2.1
    have el : atF 8 (σ 2) (nI (n + 1) - 1) = nI (r n) := by rw [nI_pred, atF_nI _ (by omega) (by omega)]; exact hr n (Nat.le_refl _)
    have := loop n u a r (r_walk s f) (sp_node o 8 s f) _ (by omega) el hp hpm (fun u a r σ b q1 q2 q3 q4 q5 q6 => ih (n + 1) u a r σ b (by omega) q1 q2 q3 q4 q5 q6) (fun u a r b q1 q2 q3 => sp_lost (Nat.le_refl 8) hs (by
      rcases q2.2.1 with z | ⟨i, hi, e⟩
      · omega
      · have w1 := (q1.2.1 i (by omega)).2.1
        have w2 := (q1.2.1 (i + 1) (by omega)).2.1
        have := (ob_pos hb hB (i := 8 * r i + r (i + 1)) (by omega)).2.mp (q1.2.2.2.1 i hi)
        omega) q3 f (n + 1) u a r (by omega) q1 (Nat.le_refl _)) (7 - s) (s + 1) _ _ (by omega) (by omega) (fun i hi => (hk.2.2 i hi).trans (hr i hi)) (hk.2.1.trans h1) (hk.1.trans h3) hc
    exact ⟨this.1, hk.trans this.2⟩
