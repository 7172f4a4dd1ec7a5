/-! The model, ninth part: the search for the first ring. -/
theorem bt_1 : ∀ u : Fin 256, ∀ x : Fin 8, (nI u.val >>> (nI x.val &&& 31) &&& 1 = 1) ↔ u.val.testBit x.val = true := by decide +kernel
theorem bt_or : ∀ u : Fin 256, ∀ x : Fin 8, nI u.val ||| 1 <<< (nI x.val &&& 31) = nI (u.val ||| 2 ^ x.val) ∧ (u.val ||| 2 ^ x.val) < 256 := by decide +kernel
theorem bt_off : ∀ u : Fin 256, ∀ x : Fin 8, u.val.testBit x.val = false → nI (u.val ||| 2 ^ x.val) &&& (1 <<< (nI x.val &&& 31) ^^^ -1) = nI u.val := by decide +kernel
def pcnt (u : Nat) : Nat := ((List.range 8).filter (fun i => u.testBit i)).length
theorem pc_or : ∀ u : Fin 256, ∀ x : Fin 8, u.val.testBit x.val = false → pcnt (u.val ||| 2 ^ x.val) = pcnt u.val + 1 ∧ pcnt u.val < 8 := by decide +kernel
def updN (r : Nat → Nat) (k x : Nat) : Nat → Nat := fun i => if i = k then x else r i
theorem updN_same (r : Nat → Nat) (k x : Nat) : updN r k x k = x := if_pos rfl
theorem updN_ne (r : Nat → Nat) {k i : Nat} (x : Nat) (h : i ≠ k) : updN r k x i = r i := if_neg h
/-- one more person tried behind the n-th of the row -/
def f_try (s : Nat) (W : Nat → Nat → (Nat → Nat) → RS → RS) (n u : Nat) (r : Nat → Nat) (x : Nat) (σ : RS) : RS :=
  if u.testBit x = false ∧ ¬ σ 33 (8 * r n + x) = 0 then W (n + 1) (u ||| 2 ^ x) (updN r (n + 1) x) (s2 (s2 (s2 σ 43 n (nI x)) 42 (n + 1) (nI x)) 43 (n + 1) (nI s)) else s2 σ 43 n (nI x)
def f_close (s n : Nat) (r : Nat → Nat) (σ : RS) : RS := if 0 < n ∧ 0 < σ 33 (8 * r n + s) then g_isRing σ r (n + 1) else σ
def f_node (P s : Nat) : Nat → Nat → Nat → (Nat → Nat) → RS → RS
  | 0, n, u, r, σ => s2 (r_for (f_try s (fun _ _ _ σ => σ) n u r) (P - 1 - s) (s + 1) (f_close s n r σ)) 43 n (nI P)
  | f + 1, n, u, r, σ => s2 (r_for (f_try s (f_node P s f) n u r) (P - 1 - s) (s + 1) (f_close s n r σ)) 43 n (nI P)
/-- what stays: all but the ring found, and of the row and of those tried the first m -/
def f_kp (m : Nat) (σ σ' : RS) : Prop := (∀ c, c ≠ 0 → c ≠ 41 → c ≠ 42 → c ≠ 43 → σ' c = σ c) ∧ (∀ j, j ≠ 59 → j ≠ 60 → j ≠ 61 → σ' 0 j = σ 0 j) ∧ (∀ i, i < m → σ' 42 i = σ 42 i) ∧ (∀ i, i + 1 < m → σ' 43 i = σ 43 i)
theorem f_kp.refl (m : Nat) (σ : RS) : f_kp m σ σ := ⟨fun _ _ _ _ _ => rfl, fun _ _ _ _ => rfl, fun _ _ => rfl, fun _ _ => rfl⟩
theorem f_kp.trans {m : Nat} {a b c : RS} (h : f_kp m a b) (g : f_kp m b c) : f_kp m a c := ⟨fun k h1 h2 h3 h4 => (g.1 k h1 h2 h3 h4).trans (h.1 k h1 h2 h3 h4), fun k h1 h2 h3 => (g.2.1 k h1 h2 h3).trans (h.2.1 k h1 h2 h3), fun k h1 => (g.2.2.1 k h1).trans (h.2.2.1 k h1), fun k h1 => (g.2.2.2 k h1).trans (h.2.2.2 k h1)⟩
theorem f_kp.less {m n : Nat} {a b : RS} (h : f_kp m a b) (hn : n ≤ m) : f_kp n a b := ⟨h.1, h.2.1, fun k h1 => h.2.2.1 k (by omega), fun k h1 => h.2.2.2 k (by omega)⟩
theorem f_kp_42 (m i : Nat) (σ : RS) (v : Int32) (hi : m ≤ i) : f_kp m σ (s2 σ 42 i v) := ⟨fun c _ _ h3 _ => s1_ne _ _ h3, fun _ _ _ _ => rfl, fun k hk => upd_ne _ _ (by omega), fun _ _ => rfl⟩
theorem f_kp_43 (m i : Nat) (σ : RS) (v : Int32) (hi : m ≤ i + 1) : f_kp m σ (s2 σ 43 i v) := ⟨fun c _ _ _ h4 => s1_ne _ _ h4, fun _ _ _ _ => rfl, fun _ _ => rfl, fun k hk => upd_ne _ _ (by omega)⟩
theorem f_kp_ring (m n : Nat) (r : Nat → Nat) (σ : RS) : f_kp m σ (g_isRing σ r n) := by
  unfold g_isRing
  split
  · exact f_kp.refl _ _
  · refine ⟨fun c h1 h2 h3 h4 => ?_, fun j h1 h2 h3 => ?_, fun _ _ => rfl, fun _ _ => rfl⟩
    · rw [s1_ne _ _ h2]
      unfold s2
      rw [s1_ne _ _ h1, s1_ne _ _ h1, s1_ne _ _ h1]
    · show upd (upd (upd (σ 0) 59 _) 60 _) 61 _ j = _
      rw [upd_ne _ _ h3, upd_ne _ _ h2, upd_ne _ _ h1]
theorem f_kp_close (s n m : Nat) (r : Nat → Nat) (σ : RS) : f_kp m σ (f_close s n r σ) := by
  unfold f_close
  split
  · exact f_kp_ring _ _ _ _
  · exact f_kp.refl _ _
theorem f_kp_try {s : Nat} {W : Nat → Nat → (Nat → Nat) → RS → RS} {n : Nat} (hW : ∀ u r σ, f_kp (n + 2) σ (W (n + 1) u r σ)) (u : Nat) (r : Nat → Nat) (x : Nat) (σ : RS) : f_kp (n + 1) σ (f_try s W n u r x σ) := by
  unfold f_try
  split
  · refine f_kp.trans ?_ ((hW _ _ _).less (by omega))
    exact ((f_kp_43 (n + 1) n σ _ (by omega)).trans (f_kp_42 (n + 1) (n + 1) _ _ (by omega))).trans (f_kp_43 (n + 1) (n + 1) _ _ (by omega))
  · exact f_kp_43 _ _ _ _ (by omega)
theorem f_kp_for {m : Nat} {g : Nat → RS → RS} (h : ∀ k σ, f_kp m σ (g k σ)) : ∀ (c k : Nat) (σ : RS), f_kp m σ (r_for g c k σ) := by
  intro c
  induction c with
  | zero => intro k σ; exact f_kp.refl _ _
  | succ c ih => intro k σ; exact (h k σ).trans (ih (k + 1) _)
theorem f_kp_node {P s : Nat} : ∀ (f n u : Nat) (r : Nat → Nat) (σ : RS), f_kp (n + 1) σ (f_node P s f n u r σ) := by
  intro f
  induction f with
  | zero =>
    intro n u r σ
    exact ((f_kp_close s n _ r σ).trans (f_kp_for (fun k σ => f_kp_try (fun _ _ σ => f_kp.refl _ σ) u r k σ) _ _ _)).trans (f_kp_43 _ _ _ _ (by omega))
  | succ f ih =>
    intro n u r σ
    exact ((f_kp_close s n _ r σ).trans (f_kp_for (fun k σ => f_kp_try (fun u r σ => ih (n + 1) u r σ) u r k σ) _ _ _)).trans (f_kp_43 _ _ _ _ (by omega))
def f_rows (P : Nat) (σ : RS) (r : Nat → Nat) (m : Nat) : Prop := ∀ i, i < m → σ 42 i = nI (r i) ∧ r i < P
def f_ok (d : Nat) (τ : TS) (P s n : Nat) (W : Nat → (Nat → Nat) → RS → RS) : Prop := ∀ (Q : Option Value → MW → Prop) (r : Nat → Nat) (v : Nat) (σ : RS), f_rows P σ r (n + 1) → v < 256 → v.testBit (r n) = false → pcnt (v ||| 2 ^ r n) = n + 1 → σ 43 n = nI s → σ 0 37 = nI P → (∀ z4, Ev (d + 1) M7_finds Q 35 [some (.ref 0), some (.int (nI s)), some (.int (nI n - 1)), some (.int (nI v)), z4] [] (WM (W (v ||| 2 ^ r n) r σ) τ)) → ∀ z4, Ev (d + 1) M7_finds Q 35 [some (.ref 0), some (.int (nI s)), some (.int (nI n)), some (.int (nI (v ||| 2 ^ r n))), z4] [] (WM σ τ)
theorem f_skip {d : Nat} {Q : Option Value → MW → Prop} (σ : RS) (τ : TS) (s n x : Nat) (u : Int32) (z4 : Option Value) (hn : n < 8) (hs : s < 8) (hx : x < 8) (hne : x ≠ s) (h43 : σ 43 n = nI x) (kk : Ev (d + 1) M7_finds Q 79 [some (.ref 0), some (.int (nI s)), some (.int (nI n)), some (.int u), z4] [] (WM σ τ)) : Ev (d + 1) M7_finds Q 35 [some (.ref 0), some (.int (nI s)), some (.int (nI n)), some (.int u), z4] [] (WM σ τ) := by
  have en : (nI n).toNatClampNeg = n := nI_clamp (by omega)
  refine ev_iload_n (pc' := 36) dX7_finds_35 rfl rfl ?_
  refine ev_if_lt (tgt := 190) (pc' := 39) dX7_finds_36 (by decide) rfl (fun h_36 => ?_) (fun h_36 => ?_)
  · exact absurd h_36 (nI_pos (by omega)) --
  · refine ev_aload_n (pc' := 40) dX7_finds_39 rfl rfl ?_
    refine ev_getf (pc' := 43) fl_7_149 dX7_finds_40 rfl rfl rfl ?_
    refine ev_iload_n (pc' := 44) dX7_finds_43 rfl rfl ?_
    refine ev_iald (pc' := 45) dX7_finds_44 rfl rfl ?_ ?_
    · exact vp_in_nI (by omega) (by omega)
    rw [en, h43]
    refine ev_iload_n (pc' := 46) dX7_finds_45 rfl rfl ?_
    refine ev_icmp_ne (tgt := 79) (pc' := 49) dX7_finds_46 (by decide) rfl (fun h_46 => ?_) (fun h_46 => ?_)
    · exact kk
    · exact absurd ((nI_eq (by omega) (by omega)).mp h_46) hne --
theorem f_from {d : Nat} {Q : Option Value → MW → Prop} (τ : TS) (P s n v : Nat) (r : Nat → Nat) (W : Nat → Nat → (Nat → Nat) → RS → RS) (hP : P ≤ 8) (hn : n < 8) (hv : v < 256) (hrn : r n < 8) (hb : v.testBit (r n) = false) (hc : pcnt (v ||| 2 ^ r n) = n + 1) (hW : n + 1 < 8 → f_ok d τ P s (n + 1) (W (n + 1))) (hk : ∀ u r σ, f_kp (n + 2) σ (W (n + 1) u r σ)) : ∀ (c x : Nat) (σ : RS) (z4 : Option Value), x + 1 + c = P → s ≤ x → f_rows P σ r (n + 1) → σ 43 n = nI x → σ 0 37 = nI P → (∀ z4, Ev (d + 1) M7_finds Q 35 [some (.ref 0), some (.int (nI s)), some (.int (nI n - 1)), some (.int (nI v)), z4] [] (WM (s2 (r_for (f_try s W n (v ||| 2 ^ r n) r) c (x + 1) σ) 43 n (nI P)) τ)) → Ev (d + 1) M7_finds Q 79 [some (.ref 0), some (.int (nI s)), some (.int (nI n)), some (.int (nI (v ||| 2 ^ r n))), z4] [] (WM σ τ) := by
  have en : (nI n).toNatClampNeg = n := nI_clamp (by omega)
  have hin : vp_in (nI n) 8 := vp_in_nI (by omega) (by omega)
  have hu : (v ||| 2 ^ r n) < 256 := (bt_or ⟨v, hv⟩ ⟨r n, hrn⟩).2
  have hoff : nI (v ||| 2 ^ r n) &&& (1 <<< (nI (r n) &&& 31) ^^^ -1) = nI v := bt_off ⟨v, hv⟩ ⟨r n, hrn⟩ hb
  intro c
  induction c with
  | zero =>
    intro x σ z4 hx hs hr h43 h37 kk
    have a1 := (hr n (by omega)).1
    have e1 : nI x + 1 = nI P := by rw [nI_1, hx]
    obtain ⟨σ1, hσ1⟩ : ∃ σ1, σ1 = s2 σ 43 n (nI P) := ⟨_, rfl⟩
    have g43 : σ1 43 n = nI P := by rw [hσ1]; exact upd_same _ _ _
    have g37 : σ1 0 37 = nI P := by rw [hσ1]; exact h37
    have g42 : σ1 42 n = nI (r n) := by rw [hσ1]; exact a1
    rw [r_for, ← hσ1] at kk
    refine ev_aload_n (pc' := 80) dX7_finds_79 rfl rfl ?_
    refine ev_getf (pc' := 83) fl_7_149 dX7_finds_80 rfl rfl rfl ?_
    refine ev_iload_n (pc' := 84) dX7_finds_83 rfl rfl ?_
    refine ev_dup2 (pc' := 85) dX7_finds_84 rfl rfl rfl ?_
    refine ev_iald (pc' := 86) dX7_finds_85 rfl rfl ?_ ?_
    · exact hin
    rw [en, h43]
    refine ev_iconst (pc' := 87) (v := 1) dX7_finds_86 rfl (by decide) ?_
    refine ev_iadd (pc' := 88) dX7_finds_87 rfl ?_
    rw [e1]
    refine ev_iast (pc' := 89) dX7_finds_88 rfl rfl ?_ (WM_a43 _ _ _) ?_
    · exact hin
    refine ev_world (w' := WM σ1 τ) (by rw [hσ1]; show WM (s1 σ 43 (upd (σ 43) (nI n).toNatClampNeg (nI P))) τ = _; rw [en]; rfl) ?_
    refine ev_aload_n (pc' := 90) dX7_finds_89 rfl rfl ?_
    refine ev_getf (pc' := 93) fl_7_149 dX7_finds_90 rfl rfl rfl ?_
    refine ev_iload_n (pc' := 94) dX7_finds_93 rfl rfl ?_
    refine ev_iald (pc' := 95) dX7_finds_94 rfl rfl ?_ ?_
    · exact hin
    rw [en, g43]
    refine ev_aload_n (pc' := 96) dX7_finds_95 rfl rfl ?_
    refine ev_getf (pc' := 99) fl_7_262 dX7_finds_96 rfl rfl rfl ?_
    refine ev_icmp_lt (tgt := 121) (pc' := 102) dX7_finds_99 (by decide) rfl (fun h_99 => ?_) (fun h_99 => ?_)
    · exact absurd h_99 (by rw [g37]; exact nI_nlt (Nat.le_refl _) (by omega)) --
    · refine ev_iload_n (pc' := 103) dX7_finds_102 rfl rfl ?_
      refine ev_iconst (pc' := 104) (v := 1) dX7_finds_103 rfl (by decide) ?_
      refine ev_aload_n (pc' := 105) dX7_finds_104 rfl rfl ?_
      refine ev_getf (pc' := 108) fl_7_146 dX7_finds_105 rfl rfl rfl ?_
      refine ev_iload_n (pc' := 109) dX7_finds_108 rfl rfl ?_
      refine ev_iald (pc' := 110) dX7_finds_109 rfl rfl ?_ ?_
      · exact hin
      rw [en, g42]
      refine ev_ishl (pc' := 111) dX7_finds_110 rfl ?_
      refine ev_iconst (pc' := 112) (v := -1) dX7_finds_111 rfl (by decide) ?_
      refine ev_ixor (pc' := 113) dX7_finds_112 rfl ?_
      refine ev_iand (pc' := 114) dX7_finds_113 rfl ?_
      rw [hoff]
      refine ev_istore_n (pc' := 115) (ls' := [_, _, _, _, _]) dX7_finds_114 rfl rfl rfl ?_
      refine ev_iinc (pc' := 118) (ls' := [_, _, _, _, _]) dX7_finds_115 rfl rfl rfl rfl rfl ?_
      refine ev_goto (tgt := 35) dX7_finds_118 (by decide) ?_
      rw [nI_m1]
      exact kk _
  | succ c ih =>
    intro x σ z4 hx hs hr h43 h37 kk
    have a1 := (hr n (by omega)).1
    have e1 : nI x + 1 = nI (x + 1) := nI_1 x
    rw [r_for] at kk
    obtain ⟨X, hX⟩ : ∃ X, X = x + 1 := ⟨_, rfl⟩
    rw [← hX] at e1 kk
    have hX8 : X < 8 := by omega
    obtain ⟨σ1, hσ1⟩ : ∃ σ1, σ1 = s2 σ 43 n (nI X) := ⟨_, rfl⟩
    have g43 : σ1 43 n = nI X := by rw [hσ1]; exact upd_same _ _ _
    have g37 : σ1 0 37 = nI P := by rw [hσ1]; exact h37
    have g42 : σ1 42 n = nI (r n) := by rw [hσ1]; exact a1
    have g33 : σ1 33 = σ 33 := by rw [hσ1]; rfl
    have gr : f_rows P σ1 r (n + 1) := by rw [hσ1]; exact hr
    generalize hU : v ||| 2 ^ r n = u at *
    have t1 : (nI u >>> (nI X &&& 31) &&& 1 = 1) ↔ u.testBit X = true := bt_1 ⟨u, hu⟩ ⟨X, hX8⟩
    have hor : nI u ||| 1 <<< (nI X &&& 31) = nI (u ||| 2 ^ X) := (bt_or ⟨u, hu⟩ ⟨X, hX8⟩).1
    have eT : f_try s W n u r X σ = (if u.testBit X = false ∧ ¬ σ 33 (8 * r n + X) = 0 then W (n + 1) (u ||| 2 ^ X) (updN r (n + 1) X) (s2 (s2 σ1 42 (n + 1) (nI X)) 43 (n + 1) (nI s)) else σ1) := by rw [hσ1]; rfl
    have again : f_try s W n u r X σ = σ1 → ∀ z4, Ev (d + 1) M7_finds Q 35 [some (.ref 0), some (.int (nI s)), some (.int (nI n)), some (.int (nI u)), z4] [] (WM σ1 τ) := by
      intro e z4
      rw [e] at kk
      exact f_skip σ1 τ s n X _ z4 hn (by omega) hX8 (by omega) g43 (ih X σ1 z4 (by omega) (by omega) gr g43 g37 kk)
    have down : n + 1 < 8 → u.testBit X = false → f_try s W n u r X σ = W (n + 1) (u ||| 2 ^ X) (updN r (n + 1) X) (s2 (s2 σ1 42 (n + 1) (nI X)) 43 (n + 1) (nI s)) → ∀ z4, Ev (d + 1) M7_finds Q 35 [some (.ref 0), some (.int (nI s)), some (.int (nI (n + 1))), some (.int (nI (u ||| 2 ^ X))), z4] [] (WM (s2 (s2 σ1 42 (n + 1) (nI X)) 43 (n + 1) (nI s)) τ) := by
      intro hn1 ht e z4
      rw [e] at kk
      have hkp := hk (u ||| 2 ^ X) (updN r (n + 1) X) (s2 (s2 σ1 42 (n + 1) (nI X)) 43 (n + 1) (nI s))
      have rows3 : f_rows P (s2 (s2 σ1 42 (n + 1) (nI X)) 43 (n + 1) (nI s)) (updN r (n + 1) X) (n + 2) := by
        intro i hi
        show upd (σ1 42) (n + 1) (nI X) i = _ ∧ _
        by_cases h : i = n + 1
        · rw [h, upd_same, updN_same]; exact ⟨rfl, by omega⟩
        · rw [upd_ne _ _ h, updN_ne _ _ h]; exact gr i (by omega)
      have hpc := (pc_or ⟨u, hu⟩ ⟨X, hX8⟩ ht).1
      have hgo := hW hn1 Q (updN r (n + 1) X) u _ rows3 hu (by rw [updN_same]; exact ht) (by rw [updN_same]; show pcnt (u ||| 2 ^ X) = _; rw [hpc]; show pcnt u + 1 = _; rw [hc]) (upd_same _ _ _) g37
      rw [updN_same] at hgo
      refine hgo (fun z4 => ?_) z4
      rw [nI_pred]
      generalize W (n + 1) (u ||| 2 ^ X) (updN r (n + 1) X) (s2 (s2 σ1 42 (n + 1) (nI X)) 43 (n + 1) (nI s)) = σ5 at *
      have k43 : σ5 43 n = nI X := by rw [hkp.2.2.2 n (by omega)]; show upd (σ1 43) (n + 1) (nI s) n = _; rw [upd_ne _ _ (by omega)]; exact g43
      have k37 : σ5 0 37 = nI P := (hkp.2.1 37 (by omega) (by omega) (by omega)).trans g37
      have kr : f_rows P σ5 r (n + 1) := by
        intro i hi
        rw [hkp.2.2.1 i (by omega)]
        show upd (σ1 42) (n + 1) (nI X) i = _ ∧ _
        rw [upd_ne _ _ (by omega)]
        exact gr i hi
      exact f_skip σ5 τ s n X _ z4 hn (by omega) hX8 (by omega) k43 (ih X σ5 z4 (by omega) (by omega) kr k43 k37 kk)
    have e4 := g_cell (r n) X
    have e5 : (nI (8 * r n + X)).toNatClampNeg = 8 * r n + X := nI_clamp (by omega)
    have en1 : (nI (n + 1)).toNatClampNeg = n + 1 := nI_clamp (by omega)
    refine ev_aload_n (pc' := 80) dX7_finds_79 rfl rfl ?_
    refine ev_getf (pc' := 83) fl_7_149 dX7_finds_80 rfl rfl rfl ?_
    refine ev_iload_n (pc' := 84) dX7_finds_83 rfl rfl ?_
    refine ev_dup2 (pc' := 85) dX7_finds_84 rfl rfl rfl ?_
    refine ev_iald (pc' := 86) dX7_finds_85 rfl rfl ?_ ?_
    · exact hin
    rw [en, h43]
    refine ev_iconst (pc' := 87) (v := 1) dX7_finds_86 rfl (by decide) ?_
    refine ev_iadd (pc' := 88) dX7_finds_87 rfl ?_
    rw [e1]
    refine ev_iast (pc' := 89) dX7_finds_88 rfl rfl ?_ (WM_a43 _ _ _) ?_
    · exact hin
    refine ev_world (w' := WM σ1 τ) (by rw [hσ1]; show WM (s1 σ 43 (upd (σ 43) (nI n).toNatClampNeg (nI X))) τ = _; rw [en]; rfl) ?_
    refine ev_aload_n (pc' := 90) dX7_finds_89 rfl rfl ?_
    refine ev_getf (pc' := 93) fl_7_149 dX7_finds_90 rfl rfl rfl ?_
    refine ev_iload_n (pc' := 94) dX7_finds_93 rfl rfl ?_
    refine ev_iald (pc' := 95) dX7_finds_94 rfl rfl ?_ ?_
    · exact hin
    rw [en, g43]
    refine ev_aload_n (pc' := 96) dX7_finds_95 rfl rfl ?_
    refine ev_getf (pc' := 99) fl_7_262 dX7_finds_96 rfl rfl rfl ?_
    refine ev_icmp_lt (tgt := 121) (pc' := 102) dX7_finds_99 (by decide) rfl (fun h_99 => ?_) (fun h_99 => ?_)
    · refine ev_aload_n (pc' := 122) dX7_finds_121 rfl rfl ?_
      refine ev_getf (pc' := 125) fl_7_149 dX7_finds_122 rfl rfl rfl ?_
      refine ev_iload_n (pc' := 126) dX7_finds_125 rfl rfl ?_
      refine ev_iald (pc' := 127) dX7_finds_126 rfl rfl ?_ ?_
      · exact hin
      rw [en, g43]
      refine ev_istore (pc' := 129) (ls' := [_, _, _, _, _]) dX7_finds_127 rfl rfl rfl ?_
      refine ev_iload_n (pc' := 130) dX7_finds_129 rfl rfl ?_
      refine ev_iload (pc' := 132) dX7_finds_130 rfl rfl ?_
      refine ev_ishr (pc' := 133) dX7_finds_132 rfl ?_
      refine ev_iconst (pc' := 134) (v := 1) dX7_finds_133 rfl (by decide) ?_
      refine ev_iand (pc' := 135) dX7_finds_134 rfl ?_
      refine ev_iconst (pc' := 136) (v := 1) dX7_finds_135 rfl (by decide) ?_
      refine ev_icmp_eq (tgt := 35) (pc' := 139) dX7_finds_136 (by decide) rfl (fun h_136 => ?_) (fun h_136 => ?_)
      · have e := eT.trans (if_neg (fun q => by rw [t1.mp h_136] at q; exact absurd q.1 (by decide)))
        first
          | exact again e _
          | exact down hn1 ht e _
      · have ht : u.testBit X = false := by cases hq : u.testBit X with
          | false => rfl
          | true => exact absurd (t1.mpr hq) h_136
        have hn1 : n + 1 < 8 := by
          have := (pc_or ⟨u, hu⟩ ⟨X, hX8⟩ ht).2
          have h2 : pcnt u < 8 := this
          omega
        refine ev_aload_n (pc' := 140) dX7_finds_139 rfl rfl ?_
        refine ev_getf (pc' := 143) fl_7_119 dX7_finds_140 rfl rfl rfl ?_
        refine ev_bipush (pc' := 145) (v := 8) dX7_finds_143 rfl (by decide) ?_
        refine ev_aload_n (pc' := 146) dX7_finds_145 rfl rfl ?_
        refine ev_getf (pc' := 149) fl_7_146 dX7_finds_146 rfl rfl rfl ?_
        refine ev_iload_n (pc' := 150) dX7_finds_149 rfl rfl ?_
        refine ev_iald (pc' := 151) dX7_finds_150 rfl rfl ?_ ?_
        · exact hin
        rw [en, g42]
        refine ev_imul (pc' := 152) dX7_finds_151 rfl ?_
        refine ev_iload (pc' := 154) dX7_finds_152 rfl rfl ?_
        refine ev_iadd (pc' := 155) dX7_finds_154 rfl ?_
        refine ev_iald (pc' := 156) dX7_finds_155 rfl rfl ?_ ?_
        · rw [e4]; exact vp_in_nI (by omega) (by omega)
        rw [e4, e5, g33]
        refine ev_if_ne (tgt := 162) (pc' := 159) dX7_finds_156 (by decide) rfl (fun h_156 => ?_) (fun h_156 => ?_)
        · have e := eT.trans (if_pos ⟨ht, h_156⟩)
          refine ev_iinc (pc' := 165) (ls' := [_, _, _, _, _]) dX7_finds_162 rfl rfl rfl rfl rfl ?_
          rw [nI_p1]
          refine ev_aload_n (pc' := 166) dX7_finds_165 rfl rfl ?_
          refine ev_getf (pc' := 169) fl_7_146 dX7_finds_166 rfl rfl rfl ?_
          refine ev_iload_n (pc' := 170) dX7_finds_169 rfl rfl ?_
          refine ev_iload (pc' := 172) dX7_finds_170 rfl rfl ?_
          refine ev_iast (pc' := 173) dX7_finds_172 rfl rfl ?_ (WM_a42 _ _ _) ?_
          · exact vp_in_nI hn1 (by omega)
          rw [en1]
          refine ev_iload_n (pc' := 174) dX7_finds_173 rfl rfl ?_
          refine ev_iconst (pc' := 175) (v := 1) dX7_finds_174 rfl (by decide) ?_
          refine ev_iload (pc' := 177) dX7_finds_175 rfl rfl ?_
          refine ev_ishl (pc' := 178) dX7_finds_177 rfl ?_
          refine ev_ior (pc' := 179) dX7_finds_178 rfl ?_
          rw [hor]
          refine ev_istore_n (pc' := 180) (ls' := [_, _, _, _, _]) dX7_finds_179 rfl rfl rfl ?_
          refine ev_aload_n (pc' := 181) dX7_finds_180 rfl rfl ?_
          refine ev_getf (pc' := 184) fl_7_149 dX7_finds_181 rfl rfl rfl ?_
          refine ev_iload_n (pc' := 185) dX7_finds_184 rfl rfl ?_
          refine ev_iload_n (pc' := 186) dX7_finds_185 rfl rfl ?_
          refine ev_iast (pc' := 187) dX7_finds_186 rfl rfl ?_ (WM_a43 _ _ _) ?_
          · exact vp_in_nI hn1 (by omega)
          rw [en1]
          refine ev_goto (tgt := 35) dX7_finds_187 (by decide) ?_
          first
            | exact again e _
            | exact down hn1 ht e _
        · have e := eT.trans (if_neg (fun q => q.2 h_156))
          refine ev_goto (tgt := 35) dX7_finds_159 (by decide) ?_
          first
            | exact again e _
            | exact down hn1 ht e _
    · exact absurd (by rw [g37]; exact nI_lt (by omega) (by omega)) h_99 --
theorem f_closes {d : Nat} {Q : Option Value → MW → Prop} (τ : TS) (P s n : Nat) (u : Int32) (r : Nat → Nat) (σ : RS) (z4 : Option Value) (hP : P ≤ 8) (hn : n < 8) (hs : s < 8) (hr : f_rows P σ r (n + 1)) (h43 : σ 43 n = nI s) (kk : Ev (d + 1) M7_finds Q 79 [some (.ref 0), some (.int (nI s)), some (.int (nI n)), some (.int u), z4] [] (WM (f_close s n r σ) τ)) : Ev (d + 1) M7_finds Q 35 [some (.ref 0), some (.int (nI s)), some (.int (nI n)), some (.int u), z4] [] (WM σ τ) := by
  have en : (nI n).toNatClampNeg = n := nI_clamp (by omega)
  have hin : vp_in (nI n) 8 := vp_in_nI (by omega) (by omega)
  obtain ⟨a1, a2⟩ := hr n (by omega)
  have e4 := g_cell (r n) s
  have e5 : (nI (8 * r n + s)).toNatClampNeg = 8 * r n + s := nI_clamp (by omega)
  have hg : g_row σ r (n + 1) := fun i hi => ⟨(hr i hi).1, by have := (hr i hi).2; omega⟩
  obtain ⟨σ1, hσ1⟩ : ∃ σ1, σ1 = f_close s n r σ := ⟨_, rfl⟩
  rw [← hσ1] at kk
  unfold f_close at hσ1
  refine ev_iload_n (pc' := 36) dX7_finds_35 rfl rfl ?_
  refine ev_if_lt (tgt := 190) (pc' := 39) dX7_finds_36 (by decide) rfl (fun h_36 => ?_) (fun h_36 => ?_)
  · exact absurd h_36 (nI_pos (by omega)) --
  · refine ev_aload_n (pc' := 40) dX7_finds_39 rfl rfl ?_
    refine ev_getf (pc' := 43) fl_7_149 dX7_finds_40 rfl rfl rfl ?_
    refine ev_iload_n (pc' := 44) dX7_finds_43 rfl rfl ?_
    refine ev_iald (pc' := 45) dX7_finds_44 rfl rfl ?_ ?_
    · exact hin
    rw [en, h43]
    refine ev_iload_n (pc' := 46) dX7_finds_45 rfl rfl ?_
    refine ev_icmp_ne (tgt := 79) (pc' := 49) dX7_finds_46 (by decide) rfl (fun h_46 => ?_) (fun h_46 => ?_)
    · exact absurd rfl h_46 --
    · refine ev_iload_n (pc' := 50) dX7_finds_49 rfl rfl ?_
      refine ev_if_le (tgt := 79) (pc' := 53) dX7_finds_50 (by decide) rfl (fun h_50 => ?_) (fun h_50 => ?_)
      · have h50 : ¬ 0 < n := fun q => absurd (nI_lt (a := 0) (b := n) q (by omega)) (Int32.not_lt.mpr h_50)
        rw [if_neg (fun q => h50 q.1)] at hσ1
        subst hσ1
        exact kk
      · refine ev_aload_n (pc' := 54) dX7_finds_53 rfl rfl ?_
        refine ev_getf (pc' := 57) fl_7_119 dX7_finds_54 rfl rfl rfl ?_
        refine ev_bipush (pc' := 59) (v := 8) dX7_finds_57 rfl (by decide) ?_
        refine ev_aload_n (pc' := 60) dX7_finds_59 rfl rfl ?_
        refine ev_getf (pc' := 63) fl_7_146 dX7_finds_60 rfl rfl rfl ?_
        refine ev_iload_n (pc' := 64) dX7_finds_63 rfl rfl ?_
        refine ev_iald (pc' := 65) dX7_finds_64 rfl rfl ?_ ?_
        · exact hin
        rw [en, a1]
        refine ev_imul (pc' := 66) dX7_finds_65 rfl ?_
        refine ev_iload_n (pc' := 67) dX7_finds_66 rfl rfl ?_
        refine ev_iadd (pc' := 68) dX7_finds_67 rfl ?_
        refine ev_iald (pc' := 69) dX7_finds_68 rfl rfl ?_ ?_
        · rw [e4]; exact vp_in_nI (by omega) (by omega)
        rw [e4, e5]
        refine ev_if_le (tgt := 79) (pc' := 72) dX7_finds_69 (by decide) rfl (fun h_69 => ?_) (fun h_69 => ?_)
        · rw [if_neg (fun q => absurd q.2 (Int32.not_lt.mpr h_69))] at hσ1
          subst hσ1
          exact kk
        · have h50 : 0 < n := Nat.pos_of_ne_zero (fun q => h_50 (by rw [q]; decide))
          rw [if_pos ⟨h50, Int32.not_le.mp h_69⟩] at hσ1
          subst hσ1
          refine ev_aload_n (pc' := 73) dX7_finds_72 rfl rfl ?_
          refine ev_iload_n (pc' := 74) dX7_finds_73 rfl rfl ?_
          refine ev_iconst (pc' := 75) (v := 1) dX7_finds_74 rfl (by decide) ?_
          refine ev_iadd (pc' := 76) dX7_finds_75 rfl ?_
          rw [nI_1]
          refine ev_cVv1 (pc' := 79) cl_7_314 (m_isRing σ τ r (n + 1) (by omega) (by omega) hg) dX7_finds_76 rfl rfl rfl rfl ?_
          exact kk
theorem f_node_ok {d : Nat} (τ : TS) (P s : Nat) (hP : P ≤ 8) (hs : s < P) : ∀ (f n : Nat), n + f = 7 → f_ok d τ P s n (f_node P s f n) := by
  intro f
  induction f with
  | zero =>
    intro n hn Q r v σ hr hv hb hc h43 h37 kk z4
    have hkc := f_kp_close s n (n + 1) r σ
    refine f_closes τ P s n _ r σ z4 hP (by omega) (by omega) hr h43 ?_
    by_cases hn0 : n = 0
    · omega
    have q43 : (f_close s n r σ) 43 n = nI s := by
      unfold f_close
      split
      · unfold g_isRing
        split
        · exact h43
        · exact h43
      · exact h43
    exact f_from τ P s n v r (fun _ _ _ σ => σ) hP (by omega) hv (by have := (hr n (by omega)).2; omega) hb hc (fun h => by omega) (fun u r σ => f_kp.refl _ σ) (P - 1 - s) s _ z4 (by omega) (Nat.le_refl _) (fun i hi => by rw [hkc.2.2.1 i hi]; exact hr i hi) q43 ((hkc.2.1 37 (by omega) (by omega) (by omega)).trans h37) kk
  | succ f ih =>
    intro n hn Q r v σ hr hv hb hc h43 h37 kk z4
    have hkc := f_kp_close s n (n + 1) r σ
    refine f_closes τ P s n _ r σ z4 hP (by omega) (by omega) hr h43 ?_
    have q43 : (f_close s n r σ) 43 n = nI s := by
      unfold f_close
      split
      · unfold g_isRing
        split
        · exact h43
        · exact h43
      · exact h43
    exact f_from τ P s n v r (f_node P s f) hP (by omega) hv (by have := (hr n (by omega)).2; omega) hb hc (fun _ => ih (n + 1) (by omega)) (fun u r σ => f_kp_node f (n + 1) u r σ) (P - 1 - s) s _ z4 (by omega) (Nat.le_refl _) (fun i hi => by rw [hkc.2.2.1 i hi]; exact hr i hi) q43 ((hkc.2.1 37 (by omega) (by omega) (by omega)).trans h37) kk
def f_start (P s : Nat) (σ : RS) : RS := f_node P s 7 0 (2 ^ s) (fun _ => s) (s2 (s2 σ 42 0 (nI s)) 43 0 (nI s))
def f_find (P : Nat) (σ : RS) : RS := r_for (f_start P) P 0 (s2 σ 0 59 0)
theorem f_kp_start (P s : Nat) (σ : RS) : f_kp 0 σ (f_start P s σ) := ((f_kp_42 0 0 σ _ (by omega)).trans (f_kp_43 0 0 _ _ (by omega))).trans ((f_kp_node 7 0 _ _ _).less (by omega))
theorem f_kp_find (P : Nat) (σ : RS) : f_kp 0 σ (f_find P σ) := by
  refine f_kp.trans (b := s2 σ 0 59 0) ?_ (f_kp_for (fun k σ => f_kp_start P k σ) _ _ _)
  exact ⟨fun c h _ _ _ => s1_ne _ _ h, fun j h _ _ => upd_ne _ _ h, fun i h => absurd h (Nat.not_lt_zero i), fun i h => absurd h (by omega)⟩
theorem bt_s : ∀ s : Fin 8, 1 <<< (nI s.val &&& 31) = nI (0 ||| 2 ^ s.val) ∧ pcnt (0 ||| 2 ^ s.val) = 1 ∧ (0 : Nat).testBit s.val = false ∧ 0 ||| 2 ^ s.val = 2 ^ s.val := by decide +kernel
theorem f_find_loop {d : Nat} (τ : TS) (P : Nat) (hP : P ≤ 8) : ∀ (c s : Nat) (σ : RS) (z2 z3 z4 : Option Value), s + c = P → σ 0 37 = nI P → Ev (d + 1) M7_finds (rt none (WM (r_for (f_start P) c s σ) τ)) 7 [some (.ref 0), some (.int (nI s)), z2, z3, z4] [] (WM σ τ) := by
  intro c
  induction c with
  | zero =>
    intro s σ z2 z3 z4 hs h37
    have hs : s = P := by omega
    subst hs
    refine ev_iload_n (pc' := 8) dX7_finds_7 rfl rfl ?_
    refine ev_aload_n (pc' := 9) dX7_finds_8 rfl rfl ?_
    refine ev_getf (pc' := 12) fl_7_262 dX7_finds_9 rfl rfl rfl ?_
    refine ev_icmp_ge (tgt := 196) (pc' := 15) dX7_finds_12 (by decide) rfl (fun h_12 => ?_) (fun h_12 => ?_)
    · refine ev_return rfl dX7_finds_196 ?_
      exact ⟨rfl, rfl⟩
    · exact absurd (by rw [h37]; exact nI_le (Nat.le_refl _) (by omega)) h_12 --
  | succ c ih =>
    intro s σ z2 z3 z4 hs h37
    obtain ⟨b1, b2, b3, b4⟩ := bt_s ⟨s, by omega⟩
    have b1 : 1 <<< (nI s &&& 31) = nI (0 ||| 2 ^ s) := b1
    have b4 : 0 ||| 2 ^ s = 2 ^ s := b4
    have node := fun kk z4 => f_node_ok (d := d) τ P s hP (by omega) 7 0 rfl (rt none (WM (r_for (f_start P) (c + 1) s σ) τ)) (fun _ => s) 0 (s2 (s2 σ 42 0 (nI s)) 43 0 (nI s)) (fun i hi => by
      have hi : i = 0 := by omega
      subst hi
      exact ⟨rfl, show s < P by omega⟩) (by omega) b3 b2 rfl h37 kk z4
    have aft : ∀ z4, Ev (d + 1) M7_finds (rt none (WM (r_for (f_start P) (c + 1) s σ) τ)) 35 [some (.ref 0), some (.int (nI s)), some (.int (nI 0 - 1)), some (.int (nI 0)), z4] [] (WM (f_start P s σ) τ) := by
      intro z4
      refine ev_iload_n (pc' := 36) dX7_finds_35 rfl rfl ?_
      refine ev_if_lt (tgt := 190) (pc' := 39) dX7_finds_36 (by decide) rfl (fun h_36 => ?_) (fun h_36 => ?_)
      · refine ev_iinc (pc' := 193) (ls' := [_, _, _, _, _]) dX7_finds_190 rfl rfl rfl rfl rfl ?_
        refine ev_goto (tgt := 7) dX7_finds_193 (by decide) ?_
        rw [nI_p1]
        exact ih (s + 1) (f_start P s σ) _ _ _ (by omega) (((f_kp_start P s σ).2.1 37 (by omega) (by omega) (by omega)).trans h37)
      · exact absurd (show nI 0 - 1 < 0 by decide) h_36 --
    refine ev_iload_n (pc' := 8) dX7_finds_7 rfl rfl ?_
    refine ev_aload_n (pc' := 9) dX7_finds_8 rfl rfl ?_
    refine ev_getf (pc' := 12) fl_7_262 dX7_finds_9 rfl rfl rfl ?_
    refine ev_icmp_ge (tgt := 196) (pc' := 15) dX7_finds_12 (by decide) rfl (fun h_12 => ?_) (fun h_12 => ?_)
    · exact absurd h_12 (by rw [h37]; exact nI_ge (by omega) (by omega)) --
    · refine ev_iconst (pc' := 16) (v := 0) dX7_finds_15 rfl (by decide) ?_
      refine ev_istore_n (pc' := 17) (ls' := [_, _, _, _, _]) dX7_finds_16 rfl rfl rfl ?_
      refine ev_iconst (pc' := 18) (v := 1) dX7_finds_17 rfl (by decide) ?_
      refine ev_iload_n (pc' := 19) dX7_finds_18 rfl rfl ?_
      refine ev_ishl (pc' := 20) dX7_finds_19 rfl ?_
      rw [b1]
      refine ev_istore_n (pc' := 21) (ls' := [_, _, _, _, _]) dX7_finds_20 rfl rfl rfl ?_
      refine ev_aload_n (pc' := 22) dX7_finds_21 rfl rfl ?_
      refine ev_getf (pc' := 25) fl_7_146 dX7_finds_22 rfl rfl rfl ?_
      refine ev_iconst (pc' := 26) (v := 0) dX7_finds_25 rfl (by decide) ?_
      refine ev_iload_n (pc' := 27) dX7_finds_26 rfl rfl ?_
      refine ev_iast (pc' := 28) dX7_finds_27 rfl rfl ?_ (WM_a42 _ _ _) ?_
      · exact vp_in_nI (n := 0) (by omega) (by omega)
      refine ev_aload_n (pc' := 29) dX7_finds_28 rfl rfl ?_
      refine ev_getf (pc' := 32) fl_7_149 dX7_finds_29 rfl rfl rfl ?_
      refine ev_iconst (pc' := 33) (v := 0) dX7_finds_32 rfl (by decide) ?_
      refine ev_iload_n (pc' := 34) dX7_finds_33 rfl rfl ?_
      refine ev_iast (pc' := 35) dX7_finds_34 rfl rfl ?_ (WM_a43 _ _ _) ?_
      · exact vp_in_nI (n := 0) (by omega) (by omega)
      refine node (fun z4 => ?_) _
      rw [b4]
      exact aft z4
theorem m_finds {d : Nat} (σ : RS) (τ : TS) (P : Nat) (hP : P ≤ 8) (h37 : σ 0 37 = nI P) : Ok (d + 1) M7_finds [.ref 0] (WM σ τ) (rt none (WM (f_find P σ) τ)) := by
  refine Ok.of (ls := [some _, none, none, none, none]) (by decide +kernel) (Nat.le_of_ble_eq_true rfl) rfl ?_
  refine ev_aload_n (pc' := 1) dX7_finds_0 rfl rfl ?_
  refine ev_iconst (pc' := 2) (v := 0) dX7_finds_1 rfl (by decide) ?_
  refine ev_putf (pc' := 5) fs_7_311 dX7_finds_2 rfl rfl (Nat.le_of_ble_eq_true rfl) (fun _ => rfl) (fun _ => rfl) (WM_p7_59 _ _ _) ?_
  refine ev_iconst (pc' := 6) (v := 0) dX7_finds_5 rfl (by decide) ?_
  refine ev_istore_n (pc' := 7) (ls' := [_, _, _, _, _]) dX7_finds_6 rfl rfl rfl ?_
  exact f_find_loop τ P hP P 0 (s2 σ 0 59 0) _ _ _ (by omega) h37
