/-! The model, fifteenth part: questions about papers. -/
def mS (P N l m : Nat) (σ : RS) : Prop := P ≤ 8 ∧ N ≤ 120 ∧ σ 0 37 = nI P ∧ σ 0 39 = nI N ∧ h_okLaw σ l m ∧ p_facts σ N
/-- what the going over of the papers keeps -/
def gk (a b : RS) : Prop := (∀ c, 1 ≤ c → c ≤ 30 → b c = a c) ∧ ∀ j, j < 59 → j ≠ 47 → j ≠ 48 → b 0 j = a 0 j
theorem gk.refl (a : RS) : gk a a := ⟨fun _ _ _ => rfl, fun _ _ _ _ => rfl⟩
theorem gk.trans {a b c : RS} (h : gk a b) (g : gk b c) : gk a c := ⟨fun k h1 h2 => (g.1 k h1 h2).trans (h.1 k h1 h2), fun j h1 h2 h3 => (g.2 j h1 h2 h3).trans (h.2 j h1 h2 h3)⟩
theorem kc.gk {a b : RS} (h : kc a b) : gk a b := ⟨h.1, fun j h1 _ _ => h.2.2.2 j h1⟩
theorem gk.lsame {a b : RS} (h : gk a b) : lsame a b := ⟨fun c c1 c2 => h.1 c (by omega) (by omega), h.2 18 (by omega) (by omega) (by omega)⟩
theorem mS.gk {P N l m : Nat} {a b : RS} (h : mS P N l m a) (g : gk a b) : mS P N l m b := ⟨h.1, h.2.1, (g.2 37 (by omega) (by omega) (by omega)).trans h.2.2.1, (g.2 39 (by omega) (by omega) (by omega)).trans h.2.2.2.1, h_okLaw_same g.lsame h.2.2.2.2.1, p_facts_keep (fun c c1 c2 => g.1 c (by omega) c2) h.2.2.2.2.2⟩
theorem g_gone_gk (P l m n day : Nat) (σ : RS) : gk σ (g_gone P l m n day σ) := by
  unfold g_gone
  split
  · exact gk.refl σ
  · have ho := r_for_oc k_mark_oc n 0 (g_init σ n day)
    have h1 : gk σ (r_for k_mark n 0 (g_init σ n day)) := ⟨fun c h1 h2 => (ho c (by simp; omega)).trans (g_init_keep σ n day c h1 h2), fun j _ h2 h3 => by rw [ho 0 (by decide)]; exact g_init_0 σ n day j h2 h3⟩
    exact h1.trans (r_for_kc (fun d σ => r_for_kc (fun k σ => d_one_kc P l m d k σ) n 0 σ) _ _ _).gk
theorem isP_t {P p : Nat} (hP : P ≤ 8) (h : p < P) : b_isPerson (nI P) (nI p) = true := decide_eq_true ⟨nI_pos' (by omega), nI_lt h (by omega)⟩
theorem isD_t {y : Nat} (h : y < 400) : m_day (nI y) = true := decide_eq_true ⟨nI_pos' (by omega), nI_lt (b := 400) h (by omega)⟩
theorem isN_t {N x : Nat} (hN : N ≤ 120) (h : x ≤ N) : b_isFirst (nI N) (nI x) = true := decide_eq_true ⟨nI_pos' (by omega), nI_le h (by omega)⟩
theorem isP_of {P : Nat} {x : Int32} (hP : P ≤ 8) (h : b_isPerson (nI P) x = true) : ∃ p : Nat, p < P ∧ x = nI p := by
  obtain ⟨h1, h2⟩ := of_decide_eq_true h
  obtain ⟨j, j1, j2⟩ := nI_of (Int32.not_lt.mpr h1)
  rw [j2, nI_ltI j1 (by omega)] at h2
  exact ⟨j, h2, j2⟩
theorem isD_of {x : Int32} (h : m_day x = true) : ∃ y : Nat, y < 400 ∧ x = nI y := by
  obtain ⟨h1, h2⟩ := of_decide_eq_true h
  obtain ⟨j, j1, j2⟩ := nI_of (Int32.not_lt.mpr h1)
  rw [j2] at h2
  exact ⟨j, (nI_ltI (b := 400) j1 (by omega)).mp h2, j2⟩
theorem isN_of {N : Nat} {x : Int32} (hN : N ≤ 120) (h : b_isFirst (nI N) x = true) : ∃ n : Nat, n ≤ N ∧ x = nI n := by
  obtain ⟨h1, h2⟩ := of_decide_eq_true h
  obtain ⟨j, j1, j2⟩ := nI_of (Int32.not_lt.mpr h1)
  rw [j2, nI_leI j1 (by omega)] at h2
  exact ⟨j, h2, j2⟩
theorem mS.goes {P N l m : Nat} {σ : RS} (h : mS P N l m σ) {d : Nat} (τ : TS) {n day : Nat} (hn : n ≤ N) (hd : day < 400) : Ok (d + 5) M7_goes [.ref 0, .int (nI n), .int (nI day)] (WM σ τ) (rt none (WM (g_gone P l m n day σ) τ)) := by
  obtain ⟨h1, h2, h3, h4, h5, h6⟩ := h
  exact m_goes τ σ P l m n day h1 (by omega) hd h3 h5 (fun k hk => h6 k (by omega))
def q_leaf (σ : RS) (p y x : Int32) : Bool := b_isPerson (σ 0 37) p && m_day y && b_isFirst (σ 0 39) x
theorem m_holder_no {d : Nat} (σ : RS) (τ : TS) (p y x : Int32) (hg : ¬ q_leaf σ p y x = true) : Ok (d + 6) M7_holder [.ref 0, .int p, .int y, .int x] (WM σ τ) (rt (some (.int (-1))) (WM σ τ)) := by
  unfold q_leaf at hg
  refine Ok.of (ls := [some _, some _, some _, some _]) (by decide +kernel) (Nat.le_of_ble_eq_true rfl) rfl ?_
  refine ev_aload_n (pc' := 1) dX7_holder_0 rfl rfl ?_
  refine ev_iload_n (pc' := 2) dX7_holder_1 rfl rfl ?_
  refine ev_cVi1 (pc' := 5) cl_7_272 (m_isPerson _ _ _) dX7_holder_2 rfl rfl rfl rfl ?_
  refine ev_if_eq (tgt := 23) (pc' := 8) dX7_holder_5 (by decide) rfl (fun h_5 => ?_) (fun h_5 => ?_)
  · rw [bI_0] at h_5
    refine ev_iconst (pc' := 24) (v := -1) dX7_holder_23 rfl (by decide) ?_
    refine ev_ireturn rfl dX7_holder_24 ?_
    exact ⟨rfl, rfl⟩
  · rw [bI_0, Bool.not_eq_false] at h_5
    refine ev_iload_n (pc' := 9) dX7_holder_8 rfl rfl ?_
    refine ev_cSi1 (pc' := 12) cl_7_269 (m_isDay _ _) dX7_holder_9 rfl rfl ?_
    refine ev_if_eq (tgt := 23) (pc' := 15) dX7_holder_12 (by decide) rfl (fun h_12 => ?_) (fun h_12 => ?_)
    · rw [bI_0] at h_12
      refine ev_iconst (pc' := 24) (v := -1) dX7_holder_23 rfl (by decide) ?_
      refine ev_ireturn rfl dX7_holder_24 ?_
      exact ⟨rfl, rfl⟩
    · rw [bI_0, Bool.not_eq_false] at h_12
      refine ev_aload_n (pc' := 16) dX7_holder_15 rfl rfl ?_
      refine ev_iload_n (pc' := 17) dX7_holder_16 rfl rfl ?_
      refine ev_cVi1 (pc' := 20) cl_7_326 (m_isKnown _ _ _) dX7_holder_17 rfl rfl rfl rfl ?_
      refine ev_if_ne (tgt := 25) (pc' := 23) dX7_holder_20 (by decide) rfl (fun h_20 => ?_) (fun h_20 => ?_)
      · rw [bI_0, Bool.not_eq_false] at h_20
        exact absurd (by rw [h_5, h_12, h_20]; rfl) hg --
      · refine ev_iconst (pc' := 24) (v := -1) dX7_holder_23 rfl (by decide) ?_
        refine ev_ireturn rfl dX7_holder_24 ?_
        exact ⟨rfl, rfl⟩
theorem m_holder {d : Nat} (σ : RS) (τ : TS) (P N l m p y n : Nat) (hS : mS P N l m σ) (hp : p < P) (hy : y < 400) (hn : n ≤ N) : Ok (d + 6) M7_holder [.ref 0, .int (nI p), .int (nI y), .int (nI n)] (WM σ τ) (rt (some (.int ((g_gone P l m n 399 σ) 31 (400 * p + y)))) (WM (g_gone P l m n 399 σ) τ)) := by
  have hP := hS.1
  have e4 := m_cell p y
  have ex : (nI (400 * p + y)).toNatClampNeg = 400 * p + y := nI_clamp (by omega)
  have hc := hS.goes (d := d) τ hn (show 399 < 400 by omega)
  refine Ok.of (ls := [some _, some _, some _, some _]) (by decide +kernel) (Nat.le_of_ble_eq_true rfl) rfl ?_
  refine ev_aload_n (pc' := 1) dX7_holder_0 rfl rfl ?_
  refine ev_iload_n (pc' := 2) dX7_holder_1 rfl rfl ?_
  refine ev_cVi1 (pc' := 5) cl_7_272 (m_isPerson _ _ _) dX7_holder_2 rfl rfl rfl rfl ?_
  refine ev_if_eq (tgt := 23) (pc' := 8) dX7_holder_5 (by decide) rfl (fun h_5 => ?_) (fun h_5 => ?_)
  · exact absurd h_5 (by rw [hS.2.2.1, isP_t hS.1 hp]; decide) --
  · refine ev_iload_n (pc' := 9) dX7_holder_8 rfl rfl ?_
    refine ev_cSi1 (pc' := 12) cl_7_269 (m_isDay _ _) dX7_holder_9 rfl rfl ?_
    refine ev_if_eq (tgt := 23) (pc' := 15) dX7_holder_12 (by decide) rfl (fun h_12 => ?_) (fun h_12 => ?_)
    · exact absurd h_12 (by rw [isD_t hy]; decide) --
    · refine ev_aload_n (pc' := 16) dX7_holder_15 rfl rfl ?_
      refine ev_iload_n (pc' := 17) dX7_holder_16 rfl rfl ?_
      refine ev_cVi1 (pc' := 20) cl_7_326 (m_isKnown _ _ _) dX7_holder_17 rfl rfl rfl rfl ?_
      refine ev_if_ne (tgt := 25) (pc' := 23) dX7_holder_20 (by decide) rfl (fun h_20 => ?_) (fun h_20 => ?_)
      · refine ev_aload_n (pc' := 26) dX7_holder_25 rfl rfl ?_
        refine ev_iload_n (pc' := 27) dX7_holder_26 rfl rfl ?_
        refine ev_sipush (pc' := 30) (v := 399) dX7_holder_27 rfl (by decide) ?_
        refine ev_cVv2 (pc' := 33) cl_7_333 (hc) dX7_holder_30 rfl rfl rfl rfl ?_
        refine ev_aload_n (pc' := 34) dX7_holder_33 rfl rfl ?_
        refine ev_getf (pc' := 37) fl_7_113 dX7_holder_34 rfl rfl rfl ?_
        refine ev_sipush (pc' := 40) (v := 400) dX7_holder_37 rfl (by decide) ?_
        refine ev_iload_n (pc' := 41) dX7_holder_40 rfl rfl ?_
        refine ev_imul (pc' := 42) dX7_holder_41 rfl ?_
        refine ev_iload_n (pc' := 43) dX7_holder_42 rfl rfl ?_
        refine ev_iadd (pc' := 44) dX7_holder_43 rfl ?_
        refine ev_iald (pc' := 45) dX7_holder_44 rfl rfl ?_ ?_
        · rw [e4]; exact vp_in_nI (by omega) (by omega)
        rw [e4, ex]
        refine ev_ireturn rfl dX7_holder_45 ?_
        exact ⟨rfl, rfl⟩
      · exact absurd h_20 (by rw [hS.2.2.2.1, isN_t hS.2.1 hn]; decide) --
theorem m_awake_no {d : Nat} (σ : RS) (τ : TS) (p y x : Int32) (hg : ¬ q_leaf σ p y x = true) : Ok (d + 6) M7_awake [.ref 0, .int p, .int y, .int x] (WM σ τ) (rt (some (.int (-1))) (WM σ τ)) := by
  unfold q_leaf at hg
  refine Ok.of (ls := [some _, some _, some _, some _]) (by decide +kernel) (Nat.le_of_ble_eq_true rfl) rfl ?_
  refine ev_aload_n (pc' := 1) dX7_awake_0 rfl rfl ?_
  refine ev_iload_n (pc' := 2) dX7_awake_1 rfl rfl ?_
  refine ev_cVi1 (pc' := 5) cl_7_272 (m_isPerson _ _ _) dX7_awake_2 rfl rfl rfl rfl ?_
  refine ev_if_eq (tgt := 23) (pc' := 8) dX7_awake_5 (by decide) rfl (fun h_5 => ?_) (fun h_5 => ?_)
  · rw [bI_0] at h_5
    refine ev_iconst (pc' := 24) (v := -1) dX7_awake_23 rfl (by decide) ?_
    refine ev_ireturn rfl dX7_awake_24 ?_
    exact ⟨rfl, rfl⟩
  · rw [bI_0, Bool.not_eq_false] at h_5
    refine ev_iload_n (pc' := 9) dX7_awake_8 rfl rfl ?_
    refine ev_cSi1 (pc' := 12) cl_7_269 (m_isDay _ _) dX7_awake_9 rfl rfl ?_
    refine ev_if_eq (tgt := 23) (pc' := 15) dX7_awake_12 (by decide) rfl (fun h_12 => ?_) (fun h_12 => ?_)
    · rw [bI_0] at h_12
      refine ev_iconst (pc' := 24) (v := -1) dX7_awake_23 rfl (by decide) ?_
      refine ev_ireturn rfl dX7_awake_24 ?_
      exact ⟨rfl, rfl⟩
    · rw [bI_0, Bool.not_eq_false] at h_12
      refine ev_aload_n (pc' := 16) dX7_awake_15 rfl rfl ?_
      refine ev_iload_n (pc' := 17) dX7_awake_16 rfl rfl ?_
      refine ev_cVi1 (pc' := 20) cl_7_326 (m_isKnown _ _ _) dX7_awake_17 rfl rfl rfl rfl ?_
      refine ev_if_ne (tgt := 25) (pc' := 23) dX7_awake_20 (by decide) rfl (fun h_20 => ?_) (fun h_20 => ?_)
      · rw [bI_0, Bool.not_eq_false] at h_20
        exact absurd (by rw [h_5, h_12, h_20]; rfl) hg --
      · refine ev_iconst (pc' := 24) (v := -1) dX7_awake_23 rfl (by decide) ?_
        refine ev_ireturn rfl dX7_awake_24 ?_
        exact ⟨rfl, rfl⟩
theorem m_awake {d : Nat} (σ : RS) (τ : TS) (P N l m p y n : Nat) (hS : mS P N l m σ) (hp : p < P) (hy : y < 400) (hn : n ≤ N) : Ok (d + 6) M7_awake [.ref 0, .int (nI p), .int (nI y), .int (nI n)] (WM σ τ) (rt (some (.int (m_awk ((g_gone P l m n 399 σ) 31) (nI p) y P))) (WM (g_gone P l m n 399 σ) τ)) := by
  have hc := hS.goes (d := d) τ hn (show 399 < 400 by omega)
  have hS2 := hS.gk (g_gone_gk P l m n 399 σ)
  generalize g_gone P l m n 399 σ = G at *
  refine Ok.of (ls := [some _, some _, some _, some _]) (by decide +kernel) (Nat.le_of_ble_eq_true rfl) rfl ?_
  refine ev_aload_n (pc' := 1) dX7_awake_0 rfl rfl ?_
  refine ev_iload_n (pc' := 2) dX7_awake_1 rfl rfl ?_
  refine ev_cVi1 (pc' := 5) cl_7_272 (m_isPerson _ _ _) dX7_awake_2 rfl rfl rfl rfl ?_
  refine ev_if_eq (tgt := 23) (pc' := 8) dX7_awake_5 (by decide) rfl (fun h_5 => ?_) (fun h_5 => ?_)
  · exact absurd h_5 (by rw [hS.2.2.1, isP_t hS.1 hp]; decide) --
  · refine ev_iload_n (pc' := 9) dX7_awake_8 rfl rfl ?_
    refine ev_cSi1 (pc' := 12) cl_7_269 (m_isDay _ _) dX7_awake_9 rfl rfl ?_
    refine ev_if_eq (tgt := 23) (pc' := 15) dX7_awake_12 (by decide) rfl (fun h_12 => ?_) (fun h_12 => ?_)
    · exact absurd h_12 (by rw [isD_t hy]; decide) --
    · refine ev_aload_n (pc' := 16) dX7_awake_15 rfl rfl ?_
      refine ev_iload_n (pc' := 17) dX7_awake_16 rfl rfl ?_
      refine ev_cVi1 (pc' := 20) cl_7_326 (m_isKnown _ _ _) dX7_awake_17 rfl rfl rfl rfl ?_
      refine ev_if_ne (tgt := 25) (pc' := 23) dX7_awake_20 (by decide) rfl (fun h_20 => ?_) (fun h_20 => ?_)
      · refine ev_aload_n (pc' := 26) dX7_awake_25 rfl rfl ?_
        refine ev_iload_n (pc' := 27) dX7_awake_26 rfl rfl ?_
        refine ev_sipush (pc' := 30) (v := 399) dX7_awake_27 rfl (by decide) ?_
        refine ev_cVv2 (pc' := 33) cl_7_333 (hc) dX7_awake_30 rfl rfl rfl rfl ?_
        refine ev_aload_n (pc' := 34) dX7_awake_33 rfl rfl ?_
        refine ev_iload_n (pc' := 35) dX7_awake_34 rfl rfl ?_
        refine ev_iload_n (pc' := 36) dX7_awake_35 rfl rfl ?_
        refine ev_cVi2 (pc' := 39) cl_7_336 (m_awakeOf G τ _ y P hy hS2.1 hS2.2.2.1) dX7_awake_36 rfl rfl rfl rfl ?_
        refine ev_ireturn rfl dX7_awake_39 ?_
        exact ⟨rfl, rfl⟩
      · exact absurd h_20 (by rw [hS.2.2.2.1, isN_t hS.2.1 hn]; decide) --
theorem m_age_no {d : Nat} (σ : RS) (τ : TS) (p y x : Int32) (hg : ¬ q_leaf σ p y x = true) : Ok (d + 6) M7_age [.ref 0, .int p, .int y, .int x] (WM σ τ) (rt (some (.int (-1))) (WM σ τ)) := by
  unfold q_leaf at hg
  refine Ok.of (ls := [some _, some _, some _, some _]) (by decide +kernel) (Nat.le_of_ble_eq_true rfl) rfl ?_
  refine ev_aload_n (pc' := 1) dX7_age_0 rfl rfl ?_
  refine ev_iload_n (pc' := 2) dX7_age_1 rfl rfl ?_
  refine ev_cVi1 (pc' := 5) cl_7_272 (m_isPerson _ _ _) dX7_age_2 rfl rfl rfl rfl ?_
  refine ev_if_eq (tgt := 23) (pc' := 8) dX7_age_5 (by decide) rfl (fun h_5 => ?_) (fun h_5 => ?_)
  · rw [bI_0] at h_5
    refine ev_iconst (pc' := 24) (v := -1) dX7_age_23 rfl (by decide) ?_
    refine ev_ireturn rfl dX7_age_24 ?_
    exact ⟨rfl, rfl⟩
  · rw [bI_0, Bool.not_eq_false] at h_5
    refine ev_iload_n (pc' := 9) dX7_age_8 rfl rfl ?_
    refine ev_cSi1 (pc' := 12) cl_7_269 (m_isDay _ _) dX7_age_9 rfl rfl ?_
    refine ev_if_eq (tgt := 23) (pc' := 15) dX7_age_12 (by decide) rfl (fun h_12 => ?_) (fun h_12 => ?_)
    · rw [bI_0] at h_12
      refine ev_iconst (pc' := 24) (v := -1) dX7_age_23 rfl (by decide) ?_
      refine ev_ireturn rfl dX7_age_24 ?_
      exact ⟨rfl, rfl⟩
    · rw [bI_0, Bool.not_eq_false] at h_12
      refine ev_aload_n (pc' := 16) dX7_age_15 rfl rfl ?_
      refine ev_iload_n (pc' := 17) dX7_age_16 rfl rfl ?_
      refine ev_cVi1 (pc' := 20) cl_7_326 (m_isKnown _ _ _) dX7_age_17 rfl rfl rfl rfl ?_
      refine ev_if_ne (tgt := 25) (pc' := 23) dX7_age_20 (by decide) rfl (fun h_20 => ?_) (fun h_20 => ?_)
      · rw [bI_0, Bool.not_eq_false] at h_20
        exact absurd (by rw [h_5, h_12, h_20]; rfl) hg --
      · refine ev_iconst (pc' := 24) (v := -1) dX7_age_23 rfl (by decide) ?_
        refine ev_ireturn rfl dX7_age_24 ?_
        exact ⟨rfl, rfl⟩
theorem m_age {d : Nat} (σ : RS) (τ : TS) (P N l m p y n : Nat) (hS : mS P N l m σ) (hp : p < P) (hy : y < 400) (hn : n ≤ N) : Ok (d + 6) M7_age [.ref 0, .int (nI p), .int (nI y), .int (nI n)] (WM σ τ) (rt (some (.int (m_ageOut ((g_gone P l m n 399 σ) 31) (nI p) y ((g_gone P l m n 399 σ) 23 p) P))) (WM (g_gone P l m n 399 σ) τ)) := by
  have hc := hS.goes (d := d) τ hn (show 399 < 400 by omega)
  have hS2 := hS.gk (g_gone_gk P l m n 399 σ)
  have hP := hS.1
  generalize g_gone P l m n 399 σ = G at *
  refine Ok.of (ls := [some _, some _, some _, some _]) (by decide +kernel) (Nat.le_of_ble_eq_true rfl) rfl ?_
  refine ev_aload_n (pc' := 1) dX7_age_0 rfl rfl ?_
  refine ev_iload_n (pc' := 2) dX7_age_1 rfl rfl ?_
  refine ev_cVi1 (pc' := 5) cl_7_272 (m_isPerson _ _ _) dX7_age_2 rfl rfl rfl rfl ?_
  refine ev_if_eq (tgt := 23) (pc' := 8) dX7_age_5 (by decide) rfl (fun h_5 => ?_) (fun h_5 => ?_)
  · exact absurd h_5 (by rw [hS.2.2.1, isP_t hS.1 hp]; decide) --
  · refine ev_iload_n (pc' := 9) dX7_age_8 rfl rfl ?_
    refine ev_cSi1 (pc' := 12) cl_7_269 (m_isDay _ _) dX7_age_9 rfl rfl ?_
    refine ev_if_eq (tgt := 23) (pc' := 15) dX7_age_12 (by decide) rfl (fun h_12 => ?_) (fun h_12 => ?_)
    · exact absurd h_12 (by rw [isD_t hy]; decide) --
    · refine ev_aload_n (pc' := 16) dX7_age_15 rfl rfl ?_
      refine ev_iload_n (pc' := 17) dX7_age_16 rfl rfl ?_
      refine ev_cVi1 (pc' := 20) cl_7_326 (m_isKnown _ _ _) dX7_age_17 rfl rfl rfl rfl ?_
      refine ev_if_ne (tgt := 25) (pc' := 23) dX7_age_20 (by decide) rfl (fun h_20 => ?_) (fun h_20 => ?_)
      · refine ev_aload_n (pc' := 26) dX7_age_25 rfl rfl ?_
        refine ev_iload_n (pc' := 27) dX7_age_26 rfl rfl ?_
        refine ev_sipush (pc' := 30) (v := 399) dX7_age_27 rfl (by decide) ?_
        refine ev_cVv2 (pc' := 33) cl_7_333 (hc) dX7_age_30 rfl rfl rfl rfl ?_
        refine ev_aload_n (pc' := 34) dX7_age_33 rfl rfl ?_
        refine ev_iload_n (pc' := 35) dX7_age_34 rfl rfl ?_
        refine ev_iload_n (pc' := 36) dX7_age_35 rfl rfl ?_
        refine ev_cVi2 (pc' := 39) cl_7_305 (m_ageOf G τ p y P (by omega) hy hS2.1 hS2.2.2.1) dX7_age_36 rfl rfl rfl rfl ?_
        refine ev_ireturn rfl dX7_age_39 ?_
        exact ⟨rfl, rfl⟩
      · exact absurd h_20 (by rw [hS.2.2.2.1, isN_t hS.2.1 hn]; decide) --
def q_net (σ : RS) (p y x : Int32) : Bool := q_leaf σ p y x
/-- less what others owe p -/
def m_less (o : Nat → Int32) (p : Nat) (a : Int32) : Nat → Int32
  | 0 => a
  | k + 1 => m_less o p a k - o (8 * k + p)
theorem m_net_no {d : Nat} (σ : RS) (τ : TS) (p y x : Int32) (hg : ¬ q_leaf σ p y x = true) : Ok (d + 6) M7_net [.ref 0, .int p, .int y, .int x] (WM σ τ) (rt (some (.int 0)) (WM σ τ)) := by
  unfold q_leaf at hg
  refine Ok.of (ls := [some _, some _, some _, some _, none, none]) (by decide +kernel) (Nat.le_of_ble_eq_true rfl) rfl ?_
  refine ev_aload_n (pc' := 1) dX7_net_0 rfl rfl ?_
  refine ev_iload_n (pc' := 2) dX7_net_1 rfl rfl ?_
  refine ev_cVi1 (pc' := 5) cl_7_272 (m_isPerson _ _ _) dX7_net_2 rfl rfl rfl rfl ?_
  refine ev_if_eq (tgt := 23) (pc' := 8) dX7_net_5 (by decide) rfl (fun h_5 => ?_) (fun h_5 => ?_)
  · rw [bI_0] at h_5
    refine ev_iconst (pc' := 24) (v := 0) dX7_net_23 rfl (by decide) ?_
    refine ev_ireturn rfl dX7_net_24 ?_
    exact ⟨rfl, rfl⟩
  · rw [bI_0, Bool.not_eq_false] at h_5
    refine ev_iload_n (pc' := 9) dX7_net_8 rfl rfl ?_
    refine ev_cSi1 (pc' := 12) cl_7_269 (m_isDay _ _) dX7_net_9 rfl rfl ?_
    refine ev_if_eq (tgt := 23) (pc' := 15) dX7_net_12 (by decide) rfl (fun h_12 => ?_) (fun h_12 => ?_)
    · rw [bI_0] at h_12
      refine ev_iconst (pc' := 24) (v := 0) dX7_net_23 rfl (by decide) ?_
      refine ev_ireturn rfl dX7_net_24 ?_
      exact ⟨rfl, rfl⟩
    · rw [bI_0, Bool.not_eq_false] at h_12
      refine ev_aload_n (pc' := 16) dX7_net_15 rfl rfl ?_
      refine ev_iload_n (pc' := 17) dX7_net_16 rfl rfl ?_
      refine ev_cVi1 (pc' := 20) cl_7_326 (m_isKnown _ _ _) dX7_net_17 rfl rfl rfl rfl ?_
      refine ev_if_ne (tgt := 25) (pc' := 23) dX7_net_20 (by decide) rfl (fun h_20 => ?_) (fun h_20 => ?_)
      · rw [bI_0, Bool.not_eq_false] at h_20
        exact absurd (by rw [h_5, h_12, h_20]; rfl) hg --
      · refine ev_iconst (pc' := 24) (v := 0) dX7_net_23 rfl (by decide) ?_
        refine ev_ireturn rfl dX7_net_24 ?_
        exact ⟨rfl, rfl⟩
theorem m_net_loop {d : Nat} (σ : RS) (τ : TS) (p : Nat) (hp : p < 8) (a x2 x3 : Int32) : ∀ (c k : Nat), k + c = 8 → Ev d M7_net (rt (some (.int (m_less (σ 33) p a 8))) (WM σ τ)) 41 [some (.ref 0), some (.int (nI p)), some (.int x2), some (.int x3), some (.int (m_less (σ 33) p a k)), some (.int (nI k))] [] (WM σ τ) := by
  intro c
  induction c with
  | zero =>
    intro k hk
    have hk : k = 8 := by omega
    subst hk
    refine ev_iload (pc' := 43) dX7_net_41 rfl rfl ?_
    refine ev_bipush (pc' := 45) (v := 8) dX7_net_43 rfl (by decide) ?_
    refine ev_icmp_ge (tgt := 71) (pc' := 48) dX7_net_45 (by decide) rfl (fun h_45 => ?_) (fun h_45 => ?_)
    · refine ev_iload (pc' := 73) dX7_net_71 rfl rfl ?_
      refine ev_ireturn rfl dX7_net_73 ?_
      exact ⟨rfl, rfl⟩
    · exact absurd (show (8 : Int32) ≤ nI 8 from nI_le (a := 8) (by omega) (by omega)) h_45 --
  | succ c ih =>
    intro k hk
    have e0 := g_cell k p
    have e1 : (nI (8 * k + p)).toNatClampNeg = 8 * k + p := nI_clamp (by omega)
    refine ev_iload (pc' := 43) dX7_net_41 rfl rfl ?_
    refine ev_bipush (pc' := 45) (v := 8) dX7_net_43 rfl (by decide) ?_
    refine ev_icmp_ge (tgt := 71) (pc' := 48) dX7_net_45 (by decide) rfl (fun h_45 => ?_) (fun h_45 => ?_)
    · exact absurd h_45 (nI_ge (b := 8) (by omega) (by omega)) --
    · refine ev_iload (pc' := 50) dX7_net_48 rfl rfl ?_
      refine ev_aload_n (pc' := 51) dX7_net_50 rfl rfl ?_
      refine ev_getf (pc' := 54) fl_7_119 dX7_net_51 rfl rfl rfl ?_
      refine ev_bipush (pc' := 56) (v := 8) dX7_net_54 rfl (by decide) ?_
      refine ev_iload (pc' := 58) dX7_net_56 rfl rfl ?_
      refine ev_imul (pc' := 59) dX7_net_58 rfl ?_
      refine ev_iload_n (pc' := 60) dX7_net_59 rfl rfl ?_
      refine ev_iadd (pc' := 61) dX7_net_60 rfl ?_
      refine ev_iald (pc' := 62) dX7_net_61 rfl rfl ?_ ?_
      · rw [e0]; exact vp_in_nI (by omega) (by omega)
      rw [e0, e1]
      refine ev_isub (pc' := 63) dX7_net_62 rfl ?_
      refine ev_istore (pc' := 65) (ls' := [_, _, _, _, _, _]) dX7_net_63 rfl rfl rfl ?_
      refine ev_iinc (pc' := 68) (ls' := [_, _, _, _, _, _]) dX7_net_65 rfl rfl rfl rfl rfl ?_
      refine ev_goto (tgt := 41) dX7_net_68 (by decide) ?_
      rw [nI_p1]
      exact ih (k + 1) (by omega)
theorem m_net {d : Nat} (σ : RS) (τ : TS) (P N l m p y n : Nat) (hS : mS P N l m σ) (hp : p < P) (hy : y < 400) (hn : n ≤ N) : Ok (d + 6) M7_net [.ref 0, .int (nI p), .int (nI y), .int (nI n)] (WM σ τ) (rt (some (.int (m_less ((g_gone P l m n y σ) 33) p (sumTo (fun o => (g_gone P l m n y σ) 33 (8 * p + o)) 8) 8))) (WM (g_gone P l m n y σ) τ)) := by
  have hc := hS.goes (d := d) τ hn hy
  have hS2 := hS.gk (g_gone_gk P l m n y σ)
  have hP := hS.1
  generalize g_gone P l m n y σ = G at *
  refine Ok.of (ls := [some _, some _, some _, some _, none, none]) (by decide +kernel) (Nat.le_of_ble_eq_true rfl) rfl ?_
  refine ev_aload_n (pc' := 1) dX7_net_0 rfl rfl ?_
  refine ev_iload_n (pc' := 2) dX7_net_1 rfl rfl ?_
  refine ev_cVi1 (pc' := 5) cl_7_272 (m_isPerson _ _ _) dX7_net_2 rfl rfl rfl rfl ?_
  refine ev_if_eq (tgt := 23) (pc' := 8) dX7_net_5 (by decide) rfl (fun h_5 => ?_) (fun h_5 => ?_)
  · exact absurd h_5 (by rw [hS.2.2.1, isP_t hS.1 hp]; decide) --
  · refine ev_iload_n (pc' := 9) dX7_net_8 rfl rfl ?_
    refine ev_cSi1 (pc' := 12) cl_7_269 (m_isDay _ _) dX7_net_9 rfl rfl ?_
    refine ev_if_eq (tgt := 23) (pc' := 15) dX7_net_12 (by decide) rfl (fun h_12 => ?_) (fun h_12 => ?_)
    · exact absurd h_12 (by rw [isD_t hy]; decide) --
    · refine ev_aload_n (pc' := 16) dX7_net_15 rfl rfl ?_
      refine ev_iload_n (pc' := 17) dX7_net_16 rfl rfl ?_
      refine ev_cVi1 (pc' := 20) cl_7_326 (m_isKnown _ _ _) dX7_net_17 rfl rfl rfl rfl ?_
      refine ev_if_ne (tgt := 25) (pc' := 23) dX7_net_20 (by decide) rfl (fun h_20 => ?_) (fun h_20 => ?_)
      · refine ev_aload_n (pc' := 26) dX7_net_25 rfl rfl ?_
        refine ev_iload_n (pc' := 27) dX7_net_26 rfl rfl ?_
        refine ev_iload_n (pc' := 28) dX7_net_27 rfl rfl ?_
        refine ev_cVv2 (pc' := 31) cl_7_333 (hc) dX7_net_28 rfl rfl rfl rfl ?_
        refine ev_aload_n (pc' := 32) dX7_net_31 rfl rfl ?_
        refine ev_iload_n (pc' := 33) dX7_net_32 rfl rfl ?_
        refine ev_cVi1 (pc' := 36) cl_7_302 (m_owesAll G τ p (by omega)) dX7_net_33 rfl rfl rfl rfl ?_
        refine ev_istore (pc' := 38) (ls' := [_, _, _, _, _, _]) dX7_net_36 rfl rfl rfl ?_
        refine ev_iconst (pc' := 39) (v := 0) dX7_net_38 rfl (by decide) ?_
        refine ev_istore (pc' := 41) (ls' := [_, _, _, _, _, _]) dX7_net_39 rfl rfl rfl ?_
        exact m_net_loop G τ p (by omega) _ _ _ 8 0 (by omega)
      · exact absurd h_20 (by rw [hS.2.2.2.1, isN_t hS.2.1 hn]; decide) --
def q_owes (σ : RS) (a b y x : Int32) : Bool := b_isPerson (σ 0 37) a && b_isPerson (σ 0 37) b && m_day y && b_isFirst (σ 0 39) x
theorem m_owes_no {d : Nat} (σ : RS) (τ : TS) (a b y x : Int32) (hg : ¬ q_owes σ a b y x = true) : Ok (d + 6) M7_owes [.ref 0, .int a, .int b, .int y, .int x] (WM σ τ) (rt (some (.int (-1))) (WM σ τ)) := by
  unfold q_owes at hg
  refine Ok.of (ls := [some _, some _, some _, some _, some _]) (by decide +kernel) (Nat.le_of_ble_eq_true rfl) rfl ?_
  refine ev_aload_n (pc' := 1) dX7_owes_0 rfl rfl ?_
  refine ev_iload_n (pc' := 2) dX7_owes_1 rfl rfl ?_
  refine ev_cVi1 (pc' := 5) cl_7_272 (m_isPerson _ _ _) dX7_owes_2 rfl rfl rfl rfl ?_
  refine ev_if_eq (tgt := 32) (pc' := 8) dX7_owes_5 (by decide) rfl (fun h_5 => ?_) (fun h_5 => ?_)
  · rw [bI_0] at h_5
    refine ev_iconst (pc' := 33) (v := -1) dX7_owes_32 rfl (by decide) ?_
    refine ev_ireturn rfl dX7_owes_33 ?_
    exact ⟨rfl, rfl⟩
  · rw [bI_0, Bool.not_eq_false] at h_5
    refine ev_aload_n (pc' := 9) dX7_owes_8 rfl rfl ?_
    refine ev_iload_n (pc' := 10) dX7_owes_9 rfl rfl ?_
    refine ev_cVi1 (pc' := 13) cl_7_272 (m_isPerson _ _ _) dX7_owes_10 rfl rfl rfl rfl ?_
    refine ev_if_eq (tgt := 32) (pc' := 16) dX7_owes_13 (by decide) rfl (fun h_13 => ?_) (fun h_13 => ?_)
    · rw [bI_0] at h_13
      refine ev_iconst (pc' := 33) (v := -1) dX7_owes_32 rfl (by decide) ?_
      refine ev_ireturn rfl dX7_owes_33 ?_
      exact ⟨rfl, rfl⟩
    · rw [bI_0, Bool.not_eq_false] at h_13
      refine ev_iload_n (pc' := 17) dX7_owes_16 rfl rfl ?_
      refine ev_cSi1 (pc' := 20) cl_7_269 (m_isDay _ _) dX7_owes_17 rfl rfl ?_
      refine ev_if_eq (tgt := 32) (pc' := 23) dX7_owes_20 (by decide) rfl (fun h_20 => ?_) (fun h_20 => ?_)
      · rw [bI_0] at h_20
        refine ev_iconst (pc' := 33) (v := -1) dX7_owes_32 rfl (by decide) ?_
        refine ev_ireturn rfl dX7_owes_33 ?_
        exact ⟨rfl, rfl⟩
      · rw [bI_0, Bool.not_eq_false] at h_20
        refine ev_aload_n (pc' := 24) dX7_owes_23 rfl rfl ?_
        refine ev_iload (pc' := 26) dX7_owes_24 rfl rfl ?_
        refine ev_cVi1 (pc' := 29) cl_7_326 (m_isKnown _ _ _) dX7_owes_26 rfl rfl rfl rfl ?_
        refine ev_if_ne (tgt := 34) (pc' := 32) dX7_owes_29 (by decide) rfl (fun h_29 => ?_) (fun h_29 => ?_)
        · rw [bI_0, Bool.not_eq_false] at h_29
          exact absurd (by rw [h_5, h_13, h_20, h_29]; rfl) hg --
        · refine ev_iconst (pc' := 33) (v := -1) dX7_owes_32 rfl (by decide) ?_
          refine ev_ireturn rfl dX7_owes_33 ?_
          exact ⟨rfl, rfl⟩
theorem m_owes {d : Nat} (σ : RS) (τ : TS) (P N l m a b y n : Nat) (hS : mS P N l m σ) (ha : a < P) (hb : b < P) (hy : y < 400) (hn : n ≤ N) : Ok (d + 6) M7_owes [.ref 0, .int (nI a), .int (nI b), .int (nI y), .int (nI n)] (WM σ τ) (rt (some (.int ((g_gone P l m n y σ) 33 (8 * a + b)))) (WM (g_gone P l m n y σ) τ)) := by
  have hc := hS.goes (d := d) τ hn hy
  have hP := hS.1
  have e0 := g_cell a b
  have e1 : (nI (8 * a + b)).toNatClampNeg = 8 * a + b := nI_clamp (by omega)
  refine Ok.of (ls := [some _, some _, some _, some _, some _]) (by decide +kernel) (Nat.le_of_ble_eq_true rfl) rfl ?_
  refine ev_aload_n (pc' := 1) dX7_owes_0 rfl rfl ?_
  refine ev_iload_n (pc' := 2) dX7_owes_1 rfl rfl ?_
  refine ev_cVi1 (pc' := 5) cl_7_272 (m_isPerson _ _ _) dX7_owes_2 rfl rfl rfl rfl ?_
  refine ev_if_eq (tgt := 32) (pc' := 8) dX7_owes_5 (by decide) rfl (fun h_5 => ?_) (fun h_5 => ?_)
  · exact absurd h_5 (by rw [hS.2.2.1, isP_t hS.1 ha]; decide) --
  · refine ev_aload_n (pc' := 9) dX7_owes_8 rfl rfl ?_
    refine ev_iload_n (pc' := 10) dX7_owes_9 rfl rfl ?_
    refine ev_cVi1 (pc' := 13) cl_7_272 (m_isPerson _ _ _) dX7_owes_10 rfl rfl rfl rfl ?_
    refine ev_if_eq (tgt := 32) (pc' := 16) dX7_owes_13 (by decide) rfl (fun h_13 => ?_) (fun h_13 => ?_)
    · exact absurd h_13 (by rw [hS.2.2.1, isP_t hS.1 hb]; decide) --
    · refine ev_iload_n (pc' := 17) dX7_owes_16 rfl rfl ?_
      refine ev_cSi1 (pc' := 20) cl_7_269 (m_isDay _ _) dX7_owes_17 rfl rfl ?_
      refine ev_if_eq (tgt := 32) (pc' := 23) dX7_owes_20 (by decide) rfl (fun h_20 => ?_) (fun h_20 => ?_)
      · exact absurd h_20 (by rw [isD_t hy]; decide) --
      · refine ev_aload_n (pc' := 24) dX7_owes_23 rfl rfl ?_
        refine ev_iload (pc' := 26) dX7_owes_24 rfl rfl ?_
        refine ev_cVi1 (pc' := 29) cl_7_326 (m_isKnown _ _ _) dX7_owes_26 rfl rfl rfl rfl ?_
        refine ev_if_ne (tgt := 34) (pc' := 32) dX7_owes_29 (by decide) rfl (fun h_29 => ?_) (fun h_29 => ?_)
        · refine ev_aload_n (pc' := 35) dX7_owes_34 rfl rfl ?_
          refine ev_iload (pc' := 37) dX7_owes_35 rfl rfl ?_
          refine ev_iload_n (pc' := 38) dX7_owes_37 rfl rfl ?_
          refine ev_cVv2 (pc' := 41) cl_7_333 (hc) dX7_owes_38 rfl rfl rfl rfl ?_
          refine ev_aload_n (pc' := 42) dX7_owes_41 rfl rfl ?_
          refine ev_getf (pc' := 45) fl_7_119 dX7_owes_42 rfl rfl rfl ?_
          refine ev_bipush (pc' := 47) (v := 8) dX7_owes_45 rfl (by decide) ?_
          refine ev_iload_n (pc' := 48) dX7_owes_47 rfl rfl ?_
          refine ev_imul (pc' := 49) dX7_owes_48 rfl ?_
          refine ev_iload_n (pc' := 50) dX7_owes_49 rfl rfl ?_
          refine ev_iadd (pc' := 51) dX7_owes_50 rfl ?_
          refine ev_iald (pc' := 52) dX7_owes_51 rfl rfl ?_ ?_
          · rw [e0]; exact vp_in_nI (by omega) (by omega)
          rw [e0, e1]
          refine ev_ireturn rfl dX7_owes_52 ?_
          exact ⟨rfl, rfl⟩
        · exact absurd h_29 (by rw [hS.2.2.2.1, isN_t hS.2.1 hn]; decide) --
def q_ring (σ : RS) (y x : Int32) : Bool := m_day y && b_isFirst (σ 0 39) x
theorem m_ring_no {d : Nat} (σ : RS) (τ : TS) (y x i : Int32) (hg : ¬ (q_ring σ y x = true ∧ 0 ≤ i)) : Ok (d + 6) M7_ring [.ref 0, .int y, .int x, .int i] (WM σ τ) (rt (some (.int (-1))) (WM σ τ)) := by
  unfold q_ring at hg
  refine Ok.of (ls := [some _, some _, some _, some _]) (by decide +kernel) (Nat.le_of_ble_eq_true rfl) rfl ?_
  refine ev_iload_n (pc' := 1) dX7_ring_0 rfl rfl ?_
  refine ev_cSi1 (pc' := 4) cl_7_269 (m_isDay _ _) dX7_ring_1 rfl rfl ?_
  refine ev_if_eq (tgt := 19) (pc' := 7) dX7_ring_4 (by decide) rfl (fun h_4 => ?_) (fun h_4 => ?_)
  · rw [bI_0] at h_4
    refine ev_iconst (pc' := 20) (v := -1) dX7_ring_19 rfl (by decide) ?_
    refine ev_ireturn rfl dX7_ring_20 ?_
    exact ⟨rfl, rfl⟩
  · rw [bI_0, Bool.not_eq_false] at h_4
    refine ev_aload_n (pc' := 8) dX7_ring_7 rfl rfl ?_
    refine ev_iload_n (pc' := 9) dX7_ring_8 rfl rfl ?_
    refine ev_cVi1 (pc' := 12) cl_7_326 (m_isKnown _ _ _) dX7_ring_9 rfl rfl rfl rfl ?_
    refine ev_if_eq (tgt := 19) (pc' := 15) dX7_ring_12 (by decide) rfl (fun h_12 => ?_) (fun h_12 => ?_)
    · rw [bI_0] at h_12
      refine ev_iconst (pc' := 20) (v := -1) dX7_ring_19 rfl (by decide) ?_
      refine ev_ireturn rfl dX7_ring_20 ?_
      exact ⟨rfl, rfl⟩
    · rw [bI_0, Bool.not_eq_false] at h_12
      refine ev_iload_n (pc' := 16) dX7_ring_15 rfl rfl ?_
      refine ev_if_ge (tgt := 21) (pc' := 19) dX7_ring_16 (by decide) rfl (fun h_16 => ?_) (fun h_16 => ?_)
      · exact absurd ⟨by rw [h_4, h_12]; rfl, h_16⟩ hg --
      · refine ev_iconst (pc' := 20) (v := -1) dX7_ring_19 rfl (by decide) ?_
        refine ev_ireturn rfl dX7_ring_20 ?_
        exact ⟨rfl, rfl⟩
theorem m_ring {d : Nat} (σ : RS) (τ : TS) (P N l m y n : Nat) (i : Int32) (hS : mS P N l m σ) (hy : y < 400) (hn : n ≤ N) (hi : 0 ≤ i) : Ok (d + 6) M7_ring [.ref 0, .int (nI y), .int (nI n), .int i] (WM σ τ) (rt (some (.int (if i < (f_find P (g_gone P l m n y σ)) 0 59 then (f_find P (g_gone P l m n y σ)) 41 (nt i) else -1))) (WM (f_find P (g_gone P l m n y σ)) τ)) := by
  have hc := hS.goes (d := d) τ hn hy
  have hS2 := hS.gk (g_gone_gk P l m n y σ)
  have hP := hS.1
  have hf := f_find_ring hP (g_gone P l m n y σ)
  have hF := m_finds (d := d + 4) (g_gone P l m n y σ) τ P hP hS2.2.2.1
  generalize g_gone P l m n y σ = G at *
  generalize f_find P G = F at *
  have hin : i < F 0 59 → vp_in i 8 := by
    intro h
    rcases hf with hf | ⟨k, r, k1, k2, k3, k4⟩
    · rw [hf] at h; exact absurd h (Int32.not_lt.mpr hi)
    · rw [k3] at h
      obtain ⟨j, j1, j2⟩ := nI_of (Int32.not_lt.mpr hi)
      rw [j2, nI_ltI j1 (by omega)] at h
      rw [j2]
      exact vp_in_nI (by omega) (by omega)
  refine Ok.of (ls := [some _, some _, some _, some _]) (by decide +kernel) (Nat.le_of_ble_eq_true rfl) rfl ?_
  refine ev_iload_n (pc' := 1) dX7_ring_0 rfl rfl ?_
  refine ev_cSi1 (pc' := 4) cl_7_269 (m_isDay _ _) dX7_ring_1 rfl rfl ?_
  refine ev_if_eq (tgt := 19) (pc' := 7) dX7_ring_4 (by decide) rfl (fun h_4 => ?_) (fun h_4 => ?_)
  · exact absurd h_4 (by rw [isD_t hy]; decide) --
  · refine ev_aload_n (pc' := 8) dX7_ring_7 rfl rfl ?_
    refine ev_iload_n (pc' := 9) dX7_ring_8 rfl rfl ?_
    refine ev_cVi1 (pc' := 12) cl_7_326 (m_isKnown _ _ _) dX7_ring_9 rfl rfl rfl rfl ?_
    refine ev_if_eq (tgt := 19) (pc' := 15) dX7_ring_12 (by decide) rfl (fun h_12 => ?_) (fun h_12 => ?_)
    · exact absurd h_12 (by rw [hS.2.2.2.1, isN_t hS.2.1 hn]; decide) --
    · refine ev_iload_n (pc' := 16) dX7_ring_15 rfl rfl ?_
      refine ev_if_ge (tgt := 21) (pc' := 19) dX7_ring_16 (by decide) rfl (fun h_16 => ?_) (fun h_16 => ?_)
      · refine ev_aload_n (pc' := 22) dX7_ring_21 rfl rfl ?_
        refine ev_iload_n (pc' := 23) dX7_ring_22 rfl rfl ?_
        refine ev_iload_n (pc' := 24) dX7_ring_23 rfl rfl ?_
        refine ev_cVv2 (pc' := 27) cl_7_333 (hc) dX7_ring_24 rfl rfl rfl rfl ?_
        refine ev_aload_n (pc' := 28) dX7_ring_27 rfl rfl ?_
        refine ev_cVv0 (pc' := 31) cl_7_323 (hF) dX7_ring_28 rfl rfl rfl rfl ?_
        refine ev_iload_n (pc' := 32) dX7_ring_31 rfl rfl ?_
        refine ev_aload_n (pc' := 33) dX7_ring_32 rfl rfl ?_
        refine ev_getf (pc' := 36) fl_7_311 dX7_ring_33 rfl rfl rfl ?_
        refine ev_icmp_ge (tgt := 48) (pc' := 39) dX7_ring_36 (by decide) rfl (fun h_36 => ?_) (fun h_36 => ?_)
        · rw [if_neg (Int32.not_lt.mpr h_36)]
          refine ev_iconst (pc' := 49) (v := -1) dX7_ring_48 rfl (by decide) ?_
          refine ev_ireturn rfl dX7_ring_49 ?_
          exact ⟨rfl, rfl⟩
        · rw [if_pos (Int32.not_le.mp h_36)]
          refine ev_aload_n (pc' := 40) dX7_ring_39 rfl rfl ?_
          refine ev_getf (pc' := 43) fl_7_143 dX7_ring_40 rfl rfl rfl ?_
          refine ev_iload_n (pc' := 44) dX7_ring_43 rfl rfl ?_
          refine ev_iald (pc' := 45) dX7_ring_44 rfl rfl ?_ ?_
          · exact hin (Int32.not_le.mp h_36)
          refine ev_goto (tgt := 49) dX7_ring_45 (by decide) ?_
          refine ev_ireturn rfl dX7_ring_49 ?_
          exact ⟨rfl, rfl⟩
      · exact absurd hi h_16 --
theorem m_leaves_no {d : Nat} (σ : RS) (τ : TS) (y x : Int32) (hg : ¬ q_ring σ y x = true) : Ok (d + 6) M7_leaves [.ref 0, .int y, .int x] (WM σ τ) (rt (some (.int (-1))) (WM σ τ)) := by
  unfold q_ring at hg
  refine Ok.of (ls := [some _, some _, some _, none, none]) (by decide +kernel) (Nat.le_of_ble_eq_true rfl) rfl ?_
  refine ev_iload_n (pc' := 1) dX7_leaves_0 rfl rfl ?_
  refine ev_cSi1 (pc' := 4) cl_7_269 (m_isDay _ _) dX7_leaves_1 rfl rfl ?_
  refine ev_if_eq (tgt := 15) (pc' := 7) dX7_leaves_4 (by decide) rfl (fun h_4 => ?_) (fun h_4 => ?_)
  · rw [bI_0] at h_4
    refine ev_iconst (pc' := 16) (v := -1) dX7_leaves_15 rfl (by decide) ?_
    refine ev_ireturn rfl dX7_leaves_16 ?_
    exact ⟨rfl, rfl⟩
  · rw [bI_0, Bool.not_eq_false] at h_4
    refine ev_aload_n (pc' := 8) dX7_leaves_7 rfl rfl ?_
    refine ev_iload_n (pc' := 9) dX7_leaves_8 rfl rfl ?_
    refine ev_cVi1 (pc' := 12) cl_7_326 (m_isKnown _ _ _) dX7_leaves_9 rfl rfl rfl rfl ?_
    refine ev_if_ne (tgt := 17) (pc' := 15) dX7_leaves_12 (by decide) rfl (fun h_12 => ?_) (fun h_12 => ?_)
    · rw [bI_0, Bool.not_eq_false] at h_12
      exact absurd (by rw [h_4, h_12]; rfl) hg --
    · refine ev_iconst (pc' := 16) (v := -1) dX7_leaves_15 rfl (by decide) ?_
      refine ev_ireturn rfl dX7_leaves_16 ?_
      exact ⟨rfl, rfl⟩
theorem m_leaves_loop {d : Nat} (σ : RS) (τ : TS) (x1 x2 : Int32) : ∀ (c k : Nat), k + c = 64 → Ev d M7_leaves (rt (some (.int (sumTo (σ 33) 64))) (WM σ τ)) 37 [some (.ref 0), some (.int x1), some (.int x2), some (.int (sumTo (σ 33) k)), some (.int (nI k))] [] (WM σ τ) := by
  intro c
  induction c with
  | zero =>
    intro k hk
    have hk : k = 64 := by omega
    subst hk
    refine ev_iload (pc' := 39) dX7_leaves_37 rfl rfl ?_
    refine ev_bipush (pc' := 41) (v := 64) dX7_leaves_39 rfl (by decide) ?_
    refine ev_icmp_ge (tgt := 60) (pc' := 44) dX7_leaves_41 (by decide) rfl (fun h_41 => ?_) (fun h_41 => ?_)
    · refine ev_iload_n (pc' := 61) dX7_leaves_60 rfl rfl ?_
      refine ev_ireturn rfl dX7_leaves_61 ?_
      exact ⟨rfl, rfl⟩
    · exact absurd (show (64 : Int32) ≤ nI 64 from nI_le (a := 64) (by omega) (by omega)) h_41 --
  | succ c ih =>
    intro k hk
    have e1 : (nI k).toNatClampNeg = k := nI_clamp (by omega)
    refine ev_iload (pc' := 39) dX7_leaves_37 rfl rfl ?_
    refine ev_bipush (pc' := 41) (v := 64) dX7_leaves_39 rfl (by decide) ?_
    refine ev_icmp_ge (tgt := 60) (pc' := 44) dX7_leaves_41 (by decide) rfl (fun h_41 => ?_) (fun h_41 => ?_)
    · exact absurd h_41 (nI_ge (b := 64) (by omega) (by omega)) --
    · refine ev_iload_n (pc' := 45) dX7_leaves_44 rfl rfl ?_
      refine ev_aload_n (pc' := 46) dX7_leaves_45 rfl rfl ?_
      refine ev_getf (pc' := 49) fl_7_119 dX7_leaves_46 rfl rfl rfl ?_
      refine ev_iload (pc' := 51) dX7_leaves_49 rfl rfl ?_
      refine ev_iald (pc' := 52) dX7_leaves_51 rfl rfl ?_ ?_
      · exact vp_in_nI (by omega) (by omega)
      rw [e1]
      refine ev_iadd (pc' := 53) dX7_leaves_52 rfl ?_
      refine ev_istore_n (pc' := 54) (ls' := [_, _, _, _, _]) dX7_leaves_53 rfl rfl rfl ?_
      refine ev_iinc (pc' := 57) (ls' := [_, _, _, _, _]) dX7_leaves_54 rfl rfl rfl rfl rfl ?_
      refine ev_goto (tgt := 37) dX7_leaves_57 (by decide) ?_
      rw [nI_p1]
      exact ih (k + 1) (by omega)
/-- the debts that goes leaves behind are small -/
def obs (σ : RS) : Prop := ob 5000000 (σ 33)
theorem m_leaves {d : Nat} (σ : RS) (τ : TS) (P N l m y n : Nat) (hS : mS P N l m σ) (hy : y < 400) (hn : n ≤ N) (hb : obs (g_gone P l m n y σ)) : Ok (d + 6) M7_leaves [.ref 0, .int (nI y), .int (nI n)] (WM σ τ) (rt (some (.int (sumTo ((g_meets P 64 (f_find P (g_gone P l m n y σ))) 33) 64))) (WM (s2 (g_meets P 64 (f_find P (g_gone P l m n y σ))) 0 47 (-1)) τ)) := by
  have hc := hS.goes (d := d) τ hn hy
  have hS2 := hS.gk (g_gone_gk P l m n y σ)
  have hP := hS.1
  have hM := m_meets (d := d + 3) (g_gone P l m n y σ) τ P hP hS2.2.2.1 (g_meets_ok hP (Nat.le_refl _) _ hb).1
  generalize g_meets P 64 (f_find P (g_gone P l m n y σ)) = M at *
  refine Ok.of (ls := [some _, some _, some _, none, none]) (by decide +kernel) (Nat.le_of_ble_eq_true rfl) rfl ?_
  refine ev_iload_n (pc' := 1) dX7_leaves_0 rfl rfl ?_
  refine ev_cSi1 (pc' := 4) cl_7_269 (m_isDay _ _) dX7_leaves_1 rfl rfl ?_
  refine ev_if_eq (tgt := 15) (pc' := 7) dX7_leaves_4 (by decide) rfl (fun h_4 => ?_) (fun h_4 => ?_)
  · exact absurd h_4 (by rw [isD_t hy]; decide) --
  · refine ev_aload_n (pc' := 8) dX7_leaves_7 rfl rfl ?_
    refine ev_iload_n (pc' := 9) dX7_leaves_8 rfl rfl ?_
    refine ev_cVi1 (pc' := 12) cl_7_326 (m_isKnown _ _ _) dX7_leaves_9 rfl rfl rfl rfl ?_
    refine ev_if_ne (tgt := 17) (pc' := 15) dX7_leaves_12 (by decide) rfl (fun h_12 => ?_) (fun h_12 => ?_)
    · refine ev_aload_n (pc' := 18) dX7_leaves_17 rfl rfl ?_
      refine ev_iload_n (pc' := 19) dX7_leaves_18 rfl rfl ?_
      refine ev_iload_n (pc' := 20) dX7_leaves_19 rfl rfl ?_
      refine ev_cVv2 (pc' := 23) cl_7_333 (hc) dX7_leaves_20 rfl rfl rfl rfl ?_
      refine ev_aload_n (pc' := 24) dX7_leaves_23 rfl rfl ?_
      refine ev_cVv0 (pc' := 27) cl_7_296 (hM) dX7_leaves_24 rfl rfl rfl rfl ?_
      refine ev_aload_n (pc' := 28) dX7_leaves_27 rfl rfl ?_
      refine ev_iconst (pc' := 29) (v := -1) dX7_leaves_28 rfl (by decide) ?_
      refine ev_putf (pc' := 32) fs_7_110 dX7_leaves_29 rfl rfl (Nat.le_of_ble_eq_true rfl) (fun _ => rfl) (fun _ => rfl) (WM_p7_47 _ _ _) ?_
      refine ev_iconst (pc' := 33) (v := 0) dX7_leaves_32 rfl (by decide) ?_
      refine ev_istore_n (pc' := 34) (ls' := [_, _, _, _, _]) dX7_leaves_33 rfl rfl rfl ?_
      refine ev_iconst (pc' := 35) (v := 0) dX7_leaves_34 rfl (by decide) ?_
      refine ev_istore (pc' := 37) (ls' := [_, _, _, _, _]) dX7_leaves_35 rfl rfl rfl ?_
      exact m_leaves_loop (s2 M 0 47 (-1)) τ _ _ 64 0 (by omega)
    · exact absurd h_12 (by rw [hS.2.2.2.1, isN_t hS.2.1 hn]; decide) --
