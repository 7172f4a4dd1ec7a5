/-! The model, tenth part: a MEETING; what a rule says. -/
def nt (x : Int32) : Nat := x.toNatClampNeg
theorem nt_nI {n : Nat} (h : n < 2 ^ 31) : nt (nI n) = n := nI_clamp h
def g_r (σ : RS) : Nat → Nat := fun i => nt (σ 41 i)
def g_m (σ : RS) : Nat := nt (σ 0 59)
def g_meets (P : Nat) : Nat → RS → RS
  | 0, σ => σ
  | c + 1, σ => if 0 < σ 0 59 then g_meets P c (f_find P (g_meetR (g_r σ) (g_m σ) (g_m σ) 0 σ)) else σ
theorem f_node_ind {P s : Nat} {I : RS → Prop} (hP : P ≤ 8) (h42 : ∀ σ i v, I σ → I (s2 σ 42 i v)) (h43 : ∀ σ i v, I σ → I (s2 σ 43 i v)) (hR : ∀ σ n r, n < 8 → f_rows P σ r (n + 1) → I σ → I (g_isRing σ r (n + 1))) : ∀ (f n u : Nat) (r : Nat → Nat) (σ : RS), n + f = 7 → f_rows P σ r (n + 1) → I σ → I (f_node P s f n u r σ) := by
  have loop : ∀ (n u : Nat) (r : Nat → Nat) (W : Nat → Nat → (Nat → Nat) → RS → RS), (∀ u r σ, f_kp (n + 2) σ (W (n + 1) u r σ)) → (∀ u r σ, f_rows P σ r (n + 2) → I σ → I (W (n + 1) u r σ)) → ∀ (c x : Nat) (σ : RS), x + c ≤ P → f_rows P σ r (n + 1) → I σ → I (r_for (f_try s W n u r) c x σ) := by
    intro n u r W hk hW c
    induction c with
    | zero => intro x σ hx hr hI; exact hI
    | succ c ih =>
      intro x σ hx hr hI
      have k1 := f_kp_try (s := s) hk u r x σ
      refine ih (x + 1) _ (by omega) (fun i hi => by rw [k1.2.2.1 i hi]; exact hr i hi) ?_
      unfold f_try
      split
      · refine hW _ _ _ ?_ (h43 _ _ _ (h42 _ _ _ (h43 _ _ _ hI)))
        intro i hi
        show upd (σ 42) (n + 1) (nI x) i = _ ∧ _
        by_cases h : i = n + 1
        · rw [h, upd_same, updN_same]; exact ⟨rfl, by omega⟩
        · rw [upd_ne _ _ h, updN_ne _ _ h]; exact hr i (by omega)
      · exact h43 _ _ _ hI
  have close : ∀ (n : Nat) (r : Nat → Nat) (σ : RS), n < 8 → f_rows P σ r (n + 1) → I σ → I (f_close s n r σ) := by
    intro n r σ hn hr hI
    unfold f_close
    split
    · exact hR σ n r hn hr hI
    · exact hI
  intro f
  induction f with
  | zero =>
    intro n u r σ hn hr hI
    have hkc := f_kp_close s n (n + 1) r σ
    by_cases hs : s < P
    · exact h43 _ _ _ (loop n u r (fun _ _ _ σ => σ) (fun u r σ => f_kp.refl _ σ) (fun _ _ _ _ h => h) _ _ _ (by omega) (fun i hi => by rw [hkc.2.2.1 i hi]; exact hr i hi) (close n r σ (by omega) hr hI))
    · have e : P - 1 - s = 0 := by omega
      unfold f_node
      rw [e]
      exact h43 _ _ _ (close n r σ (by omega) hr hI)
  | succ f ih =>
    intro n u r σ hn hr hI
    have hkc := f_kp_close s n (n + 1) r σ
    by_cases hs : s < P
    · exact h43 _ _ _ (loop n u r (f_node P s f) (fun u r σ => f_kp_node f (n + 1) u r σ) (fun u r σ h1 h2 => ih (n + 1) u r σ (by omega) h1 h2) _ _ _ (by omega) (fun i hi => by rw [hkc.2.2.1 i hi]; exact hr i hi) (close n r σ (by omega) hr hI))
    · have e : P - 1 - s = 0 := by omega
      unfold f_node
      rw [e]
      exact h43 _ _ _ (close n r σ (by omega) hr hI)
theorem f_find_ind {P : Nat} {I : RS → Prop} (hP : P ≤ 8) (h42 : ∀ σ i v, I σ → I (s2 σ 42 i v)) (h43 : ∀ σ i v, I σ → I (s2 σ 43 i v)) (hR : ∀ σ n r, n < 8 → f_rows P σ r (n + 1) → I σ → I (g_isRing σ r (n + 1))) (σ : RS) (h0 : I (s2 σ 0 59 0)) : I (f_find P σ) := by
  have : ∀ (c s : Nat) (σ : RS), s + c = P → I σ → I (r_for (f_start P) c s σ) := by
    intro c
    induction c with
    | zero => intro s σ _ h; exact h
    | succ c ih =>
      intro s σ hs h
      refine ih (s + 1) _ (by omega) ?_
      refine f_node_ind hP h42 h43 hR 7 0 _ _ _ rfl ?_ (h43 _ _ _ (h42 _ _ _ h))
      intro i hi
      have hi : i = 0 := by omega
      subst hi
      exact ⟨rfl, show s < P by omega⟩
  exact this P 0 _ (by omega) h0
def f_ring (σ : RS) : Prop := σ 0 59 = 0 ∨ ∃ (m : Nat) (r : Nat → Nat), 1 ≤ m ∧ m ≤ 8 ∧ σ 0 59 = nI m ∧ ∀ i, i < m → σ 41 i = nI (r i) ∧ r i < 8
theorem f_find_ring {P : Nat} (hP : P ≤ 8) (σ : RS) : f_ring (f_find P σ) := by
  refine f_find_ind hP (fun σ i v h => h) (fun σ i v h => h) (fun σ n r hn hr h => ?_) σ (Or.inl rfl)
  unfold g_isRing
  split
  · exact h
  · refine Or.inr ⟨n + 1, r, by omega, by omega, rfl, fun i hi => ?_⟩
    show cpyTo (σ 42) (σ 41) (n + 1) i = _ ∧ _
    unfold cpyTo
    rw [if_pos hi]
    exact ⟨(hr i hi).1, by have := (hr i hi).2; omega⟩
theorem g_meetR_at (r : Nat → Nat) (m : Nat) : ∀ (c i : Nat) (σ : RS) (k : Nat), k ≠ 33 → (g_meetR r m c i σ) k = σ k := by
  intro c
  induction c with
  | zero => intro i σ k _; rfl
  | succ c ih => intro i σ k hk; rw [g_meetR, ih _ _ _ hk]; exact s1_ne _ _ hk
theorem m_meets_loop {d : Nat} (τ : TS) (P : Nat) (hP : P ≤ 8) : ∀ (c : Nat) (σ : RS) (z1 : Option Value), f_ring σ → σ 0 37 = nI P → ¬ 0 < (g_meets P c σ) 0 59 → Ev (d + 2) M7_meets (rt none (WM (g_meets P c σ) τ)) 4 [some (.ref 0), z1] [] (WM σ τ) := by
  intro c
  induction c with
  | zero =>
    intro σ z1 hr h37 h
    refine ev_aload_n (pc' := 5) dX7_meets_4 rfl rfl ?_
    refine ev_getf (pc' := 8) fl_7_311 dX7_meets_5 rfl rfl rfl ?_
    refine ev_if_le (tgt := 69) (pc' := 11) dX7_meets_8 (by decide) rfl (fun h_8 => ?_) (fun h_8 => ?_)
    · refine ev_return rfl dX7_meets_69 ?_
      exact ⟨rfl, rfl⟩
    · exact absurd (Int32.not_le.mp h_8) h --
  | succ c ih =>
    intro σ z1 hr h37 h
    obtain ⟨T, hT⟩ : ∃ T, T = g_meets P (c + 1) σ := ⟨_, rfl⟩
    rw [← hT] at h ⊢
    rw [g_meets] at hT
    by_cases h0 : 0 < σ 0 59
    · rw [if_pos h0] at hT
      rcases hr with hr | ⟨m, r, m1, m8, hm, hr⟩
      · exact absurd h0 (by rw [hr]; decide)
      have em : g_m σ = m := by unfold g_m; rw [hm]; exact nt_nI (by omega)
      have hr' : ∀ i, i < m → σ 41 i = nI (g_r σ i) ∧ g_r σ i < 8 := fun i hi => by
        have h1 : g_r σ i = r i := by unfold g_r; rw [(hr i hi).1]; exact nt_nI (by have := (hr i hi).2; omega)
        rw [h1]; exact hr i hi
      rw [em] at hT
      have kk : Ev (d + 2) M7_meets (rt none (WM T τ)) 62 [some (.ref 0), some (.int (nI m))] [] (WM (g_meetR (g_r σ) m m 0 σ) τ) := by
        have g37 : (g_meetR (g_r σ) m m 0 σ) 0 37 = nI P := by rw [g_meetR_at _ _ _ _ _ _ (by omega)]; exact h37
        refine ev_aload_n (pc' := 63) dX7_meets_62 rfl rfl ?_
        refine ev_cVv0 (pc' := 66) cl_7_323 (m_finds _ τ P hP g37) dX7_meets_63 rfl rfl rfl rfl ?_
        refine ev_goto (tgt := 4) dX7_meets_66 (by decide) ?_
        rw [hT]
        exact ih _ _ (f_find_ring hP _) (((f_kp_find P _).2.1 37 (by omega) (by omega) (by omega)).trans g37) (by rw [← hT]; exact h)
      refine ev_aload_n (pc' := 5) dX7_meets_4 rfl rfl ?_
      refine ev_getf (pc' := 8) fl_7_311 dX7_meets_5 rfl rfl rfl ?_
      refine ev_if_le (tgt := 69) (pc' := 11) dX7_meets_8 (by decide) rfl (fun h_8 => ?_) (fun h_8 => ?_)
      · exact absurd h0 (Int32.not_lt.mpr h_8) --
      · refine ev_iconst (pc' := 12) (v := 0) dX7_meets_11 rfl (by decide) ?_
        refine ev_istore_n (pc' := 13) (ls' := [_, _]) dX7_meets_12 rfl rfl rfl ?_
        exact g_meet_loop τ (g_r σ) m m1 m8 m 0 σ (by omega) hm hr' kk
    · rw [if_neg h0] at hT
      refine ev_aload_n (pc' := 5) dX7_meets_4 rfl rfl ?_
      refine ev_getf (pc' := 8) fl_7_311 dX7_meets_5 rfl rfl rfl ?_
      refine ev_if_le (tgt := 69) (pc' := 11) dX7_meets_8 (by decide) rfl (fun h_8 => ?_) (fun h_8 => ?_)
      · refine ev_return rfl dX7_meets_69 ?_
        rw [hT]
        exact ⟨rfl, rfl⟩
      · exact absurd (Int32.not_le.mp h_8) h0 --
theorem m_meets {d : Nat} (σ : RS) (τ : TS) (P : Nat) (hP : P ≤ 8) (h37 : σ 0 37 = nI P) (h : ¬ 0 < (g_meets P 64 (f_find P σ)) 0 59) : Ok (d + 2) M7_meets [.ref 0] (WM σ τ) (rt none (WM (g_meets P 64 (f_find P σ)) τ)) := by
  refine Ok.of (ls := [some _, none]) (by decide +kernel) (Nat.le_of_ble_eq_true rfl) rfl ?_
  refine ev_aload_n (pc' := 1) dX7_meets_0 rfl rfl ?_
  refine ev_cVv0 (pc' := 4) cl_7_323 (m_finds _ τ P hP h37) dX7_meets_1 rfl rfl rfl rfl ?_
  exact m_meets_loop τ P hP 64 _ _ (f_find_ring hP _) (((f_kp_find P _).2.1 37 (by omega) (by omega) (by omega)).trans h37) h
/-- what codes are worth, and the pile behind it -/
def h_val (σ : RS) (a b : Nat) : Int32 × RS := ((v_run σ (b - a) a (0, σ 40)).2 0, s1 σ 40 (v_run σ (b - a) a (0, σ 40)).2)
theorem m_val {d : Nat} (σ : RS) (τ : TS) (a b : Nat) (hab : a ≤ b) (hb : b ≤ 1000) (hw : v_wf σ (b - a) a 0) : Ok d M7_value [.ref 0, .int (nI a), .int (nI b)] (WM σ τ) (rt (some (.int (h_val σ a b).1)) (WM (h_val σ a b).2 τ)) := m_value σ τ a b hab hb hw
def h_cmp (k a b : Int32) : Bool := if k = 0 then decide (a = b) else if k = 1 then decide (¬ a = b) else if k = 2 then decide (a < b) else decide (a ≤ b)
def h_rel (σ : RS) (i : Nat) : Bool × RS :=
  let A := h_val σ (nt (σ 16 i)) (nt (σ 17 i))
  let B := h_val A.2 (nt (σ 17 i)) (nt (σ 18 i))
  (h_cmp (σ 15 i) A.1 B.1, B.2)
def h_run (b : Nat) : Nat → Nat → Bool → RS → Bool × RS
  | 0, _, all, σ => (all, σ)
  | c + 1, k, all, σ => if ¬ σ 19 (b + k) = 0 ∧ all = true then (true, σ) else if ¬ σ 19 (b + k) = 0 ∨ all = true then h_run b c (k + 1) (h_rel σ (b + k)).1 (h_rel σ (b + k)).2 else h_run b c (k + 1) false σ
def h_holds (l : Nat) (σ : RS) (r : Nat) : Bool × RS := if σ 12 r = σ 13 r then (true, σ) else h_run (200 * l) (nt (σ 13 r) - nt (σ 12 r)) (nt (σ 12 r)) false σ
def lsame (a b : RS) : Prop := (∀ c, 8 ≤ c → c ≤ 21 → b c = a c) ∧ b 0 18 = a 0 18
theorem lsame.refl (a : RS) : lsame a a := ⟨fun _ _ _ => rfl, rfl⟩
theorem lsame.trans {a b c : RS} (h : lsame a b) (g : lsame b c) : lsame a c := ⟨fun k h1 h2 => (g.1 k h1 h2).trans (h.1 k h1 h2), g.2.trans h.2⟩
theorem lsame.s1 {a b : RS} (h : lsame a b) {c : Nat} (hc : 21 < c) (f : Nat → Int32) : lsame a (s1 b c f) := ⟨fun k h1 h2 => by rw [s1_ne _ _ (by omega)]; exact h.1 k h1 h2, by rw [s1_ne _ _ (by omega)]; exact h.2⟩
theorem lsame.s2 {a b : RS} (h : lsame a b) {c : Nat} (hc : 21 < c) (j : Nat) (v : Int32) : lsame a (s2 b c j v) := h.s1 hc _
theorem v_wf_same {a b : RS} (h : lsame a b) : ∀ (c i k : Nat), v_wf a c i k → v_wf b c i k := by
  intro c
  induction c with
  | zero => intro i k _; trivial
  | succ c ih =>
    intro i k hw
    rw [v_wf] at hw ⊢
    rw [h.1 20 (by omega) (by omega), h.1 21 (by omega) (by omega)]
    split
    · rename_i h1
      rw [if_pos h1] at hw
      exact ⟨hw.1, hw.2.1, ih _ _ hw.2.2⟩
    · rename_i h1
      rw [if_neg h1] at hw
      exact ⟨hw.1, hw.2.1, ih _ _ hw.2.2⟩
def h_okRel (σ : RS) (i : Nat) : Prop := ∃ L R E : Nat, σ 16 i = nI L ∧ σ 17 i = nI R ∧ σ 18 i = nI E ∧ L ≤ R ∧ R ≤ E ∧ E ≤ 1000 ∧ v_wf σ (R - L) L 0 ∧ v_wf σ (E - R) R 0
theorem h_okRel_same {a b : RS} (h : lsame a b) {i : Nat} (g : h_okRel a i) : h_okRel b i := by
  obtain ⟨L, R, E, g1, g2, g3, g4, g5, g6, g7, g8⟩ := g
  exact ⟨L, R, E, by rw [h.1 16 (by omega) (by omega)]; exact g1, by rw [h.1 17 (by omega) (by omega)]; exact g2, by rw [h.1 18 (by omega) (by omega)]; exact g3, g4, g5, g6, v_wf_same h _ _ _ g7, v_wf_same h _ _ _ g8⟩
theorem h_val_same (σ : RS) (a b : Nat) : lsame σ (h_val σ a b).2 := (lsame.refl σ).s1 (by omega) _
theorem h_rel_same (σ : RS) (i : Nat) : lsame σ (h_rel σ i).2 := (h_val_same _ _ _).trans (h_val_same _ _ _)
theorem h_run_same (b : Nat) : ∀ (c k : Nat) (all : Bool) (σ : RS), lsame σ (h_run b c k all σ).2 := by
  intro c
  induction c with
  | zero => intro k all σ; exact lsame.refl σ
  | succ c ih =>
    intro k all σ
    rw [h_run]
    split
    · exact lsame.refl σ
    · split
      · exact (h_rel_same σ _).trans (ih _ _ _)
      · exact ih _ _ _
theorem h_holds_same (l : Nat) (σ : RS) (r : Nat) : lsame σ (h_holds l σ r).2 := by
  unfold h_holds
  split
  · exact lsame.refl σ
  · exact h_run_same _ _ _ _ _
