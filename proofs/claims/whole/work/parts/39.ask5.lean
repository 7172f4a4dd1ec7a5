/-! The model, nineteenth part: doer, turned, count, forged. -/
def q_doer (σ : RS) (k y x : Int32) : Bool := decide (0 ≤ k ∧ k ≤ 9) && m_day y && b_isFirst (σ 0 39) x
theorem m_doer_no {d : Nat} (σ : RS) (τ : TS) (k y x : Int32) (hg : ¬ q_doer σ k y x = true) : Ok (d + 6) M7_doer [.ref 0, .int k, .int y, .int x] (WM σ τ) (rt (some (.int (-1))) (WM σ τ)) := by
  unfold q_doer at hg
  refine Ok.of (ls := [some _, some _, some _, some _, none, none, none]) (by decide +kernel) (Nat.le_of_ble_eq_true rfl) rfl ?_
  refine ev_iload_n (pc' := 1) dX7_doer_0 rfl rfl ?_
  refine ev_if_lt (tgt := 25) (pc' := 4) dX7_doer_1 (by decide) rfl (fun h_1 => ?_) (fun h_1 => ?_)
  · refine ev_iconst (pc' := 26) (v := -1) dX7_doer_25 rfl (by decide) ?_
    refine ev_ireturn rfl dX7_doer_26 ?_
    exact ⟨rfl, rfl⟩
  · refine ev_iload_n (pc' := 5) dX7_doer_4 rfl rfl ?_
    refine ev_bipush (pc' := 7) (v := 9) dX7_doer_5 rfl (by decide) ?_
    refine ev_icmp_gt (tgt := 25) (pc' := 10) dX7_doer_7 (by decide) rfl (fun h_7 => ?_) (fun h_7 => ?_)
    · refine ev_iconst (pc' := 26) (v := -1) dX7_doer_25 rfl (by decide) ?_
      refine ev_ireturn rfl dX7_doer_26 ?_
      exact ⟨rfl, rfl⟩
    · refine ev_iload_n (pc' := 11) dX7_doer_10 rfl rfl ?_
      refine ev_cSi1 (pc' := 14) cl_7_269 (m_isDay _ _) dX7_doer_11 rfl rfl ?_
      refine ev_if_eq (tgt := 25) (pc' := 17) dX7_doer_14 (by decide) rfl (fun h_14 => ?_) (fun h_14 => ?_)
      · rw [bI_0] at h_14
        refine ev_iconst (pc' := 26) (v := -1) dX7_doer_25 rfl (by decide) ?_
        refine ev_ireturn rfl dX7_doer_26 ?_
        exact ⟨rfl, rfl⟩
      · rw [bI_0, Bool.not_eq_false] at h_14
        refine ev_aload_n (pc' := 18) dX7_doer_17 rfl rfl ?_
        refine ev_iload_n (pc' := 19) dX7_doer_18 rfl rfl ?_
        refine ev_cVi1 (pc' := 22) cl_7_326 (m_isKnown _ _ _) dX7_doer_19 rfl rfl rfl rfl ?_
        refine ev_if_ne (tgt := 27) (pc' := 25) dX7_doer_22 (by decide) rfl (fun h_22 => ?_) (fun h_22 => ?_)
        · rw [bI_0, Bool.not_eq_false] at h_22
          exact absurd (by rw [h_14, h_22, decide_eq_true (show 0 ≤ k ∧ k ≤ 9 from ⟨Int32.not_lt.mp h_1, Int32.not_lt.mp h_7⟩)]; rfl) hg --
        · refine ev_iconst (pc' := 26) (v := -1) dX7_doer_25 rfl (by decide) ?_
          refine ev_ireturn rfl dX7_doer_26 ?_
          exact ⟨rfl, rfl⟩
def n_votes (P n : Nat) (deed : Int32) (y : Nat) (G : RS) : RS := r_for (n_vote P n deed (nI y)) P 0 (s1 G 44 (cpyTo (fun _ => 0) (G 44) 8))
def n_doer (P n : Nat) (deed : Int32) (y : Nat) (G : RS) : Int32 := let B := n_best (n_votes P n deed y G) y P P 0 (-1, false); if B.2 = true then -1 else B.1
theorem n_votes_gk (P n : Nat) (deed : Int32) (y : Nat) (G : RS) : gk G (n_votes P n deed y G) := by
  unfold n_votes
  refine (gk_44 G (cpyTo (fun _ => 0) (G 44) 8)).trans ?_
  have : ∀ (c w : Nat) (H : RS), gk H (r_for (n_vote P n deed (nI y)) c w H) := by
    intro c
    induction c with
    | zero => intro w H; exact gk.refl H
    | succ c ih => intro w H; exact (n_vote_gk P n deed (nI y) w H).trans (ih _ _)
  exact this _ _ _
theorem m_doer {d : Nat} (σ : RS) (τ : TS) (P N l m y n : Nat) (k : Int32) (hS : mS P N l m σ) (hk : 0 ≤ k ∧ k ≤ 9) (hy : y < 400) (hn : n ≤ N) : Ok (d + 6) M7_doer [.ref 0, .int k, .int (nI y), .int (nI n)] (WM σ τ) (rt (some (.int (n_doer P n k y (g_gone P l m n 399 σ)))) (WM (n_votes P n k y (g_gone P l m n 399 σ)) τ)) := by
  have hP := hS.1
  have hc := hS.goes (d := d) τ hn (show 399 < 400 by omega)
  have hS2 := hS.gk (g_gone_gk P l m n 399 σ)
  generalize g_gone P l m n 399 σ = G at *
  have kB : ∀ z5 z6, Ev (d + 6) M7_doer (rt (some (.int (n_doer P n k y G))) (WM (n_votes P n k y G) τ)) 175 [some (.ref 0), some (.int k), some (.int (nI y)), some (.int (nI n)), some (.int (nI P)), z5, z6] [] (WM (n_votes P n k y G) τ) := by
    intro z5 z6
    refine ev_iconst (pc' := 176) (v := -1) dX7_doer_175 rfl (by decide) ?_
    refine ev_istore (pc' := 178) (ls' := [_, _, _, _, _, _, _]) dX7_doer_176 rfl rfl rfl ?_
    refine ev_iconst (pc' := 179) (v := 0) dX7_doer_178 rfl (by decide) ?_
    refine ev_istore (pc' := 181) (ls' := [_, _, _, _, _, _, _]) dX7_doer_179 rfl rfl rfl ?_
    refine ev_iconst (pc' := 182) (v := 0) dX7_doer_181 rfl (by decide) ?_
    refine ev_istore (pc' := 184) (ls' := [_, _, _, _, _, _, _]) dX7_doer_182 rfl rfl rfl ?_
    exact n_best_loop (n_votes P n k y G) τ P y n k hP hy ((n_votes_gk P n k y G).2 37 (by omega) (by omega) (by omega) ▸ hS2.2.2.1) P 0 (-1, false) (by omega) (Or.inl rfl)
  have kV : ∀ z4 z5 z6, Ev (d + 6) M7_doer (rt (some (.int (n_doer P n k y G))) (WM (n_votes P n k y G) τ)) 59 [some (.ref 0), some (.int k), some (.int (nI y)), some (.int (nI n)), z4, z5, z6] [] (WM (s1 G 44 (cpyTo (fun _ => 0) (G 44) 8)) τ) := by
    intro z4 z5 z6
    refine ev_iconst (pc' := 60) (v := 0) dX7_doer_59 rfl (by decide) ?_
    refine ev_istore (pc' := 62) (ls' := [_, _, _, _, _, _, _]) dX7_doer_60 rfl rfl rfl ?_
    exact n_vote_loop τ P N l m n k (nI y) hn P 0 _ _ _ (by omega) (hS2.gk (gk_44 _ _)) kB
  have kN : ∀ (c p : Nat) (z5 z6 : Option Value), p + c = 8 → Ev (d + 6) M7_doer (rt (some (.int (n_doer P n k y G))) (WM (n_votes P n k y G) τ)) 38 [some (.ref 0), some (.int k), some (.int (nI y)), some (.int (nI n)), some (.int (nI p)), z5, z6] [] (WM (s1 G 44 (cpyTo (fun _ => 0) (G 44) p)) τ) := by
    intro c
    induction c with
    | zero =>
      intro p z5 z6 hp
      have hp : p = 8 := by omega
      subst hp
      refine ev_iload (pc' := 40) dX7_doer_38 rfl rfl ?_
      refine ev_bipush (pc' := 42) (v := 8) dX7_doer_40 rfl (by decide) ?_
      refine ev_icmp_ge (tgt := 59) (pc' := 45) dX7_doer_42 (by decide) rfl (fun h_42 => ?_) (fun h_42 => ?_)
      · exact kV _ _ _ --
      · exact absurd (show (8 : Int32) ≤ nI 8 from nI_le (a := 8) (by omega) (by omega)) h_42 --
    | succ c ih =>
      intro p z5 z6 hp
      have ep : (nI p).toNatClampNeg = p := nI_clamp (by omega)
      have c1 := cpyTo_s (fun _ => (0 : Int32)) (G 44) p
      have ihp := ih (p + 1) z5 z6 (by omega)
      rw [← c1] at ihp
      generalize cpyTo (fun _ => (0 : Int32)) (G 44) p = A at *
      refine ev_iload (pc' := 40) dX7_doer_38 rfl rfl ?_
      refine ev_bipush (pc' := 42) (v := 8) dX7_doer_40 rfl (by decide) ?_
      refine ev_icmp_ge (tgt := 59) (pc' := 45) dX7_doer_42 (by decide) rfl (fun h_42 => ?_) (fun h_42 => ?_)
      · exact absurd h_42 (nI_ge (b := 8) (by omega) (by omega)) --
      · refine ev_aload_n (pc' := 46) dX7_doer_45 rfl rfl ?_
        refine ev_getf (pc' := 49) fl_7_152 dX7_doer_46 rfl rfl rfl ?_
        refine ev_iload (pc' := 51) dX7_doer_49 rfl rfl ?_
        refine ev_iconst (pc' := 52) (v := 0) dX7_doer_51 rfl (by decide) ?_
        refine ev_iast (pc' := 53) dX7_doer_52 rfl rfl ?_ (WM_a44 _ _ _) ?_
        · exact vp_in_nI (by omega) (by omega)
        refine ev_iinc (pc' := 56) (ls' := [_, _, _, _, _, _, _]) dX7_doer_53 rfl rfl rfl rfl rfl ?_
        refine ev_goto (tgt := 38) dX7_doer_56 (by decide) ?_
        refine ev_world (w' := WM (s1 G 44 (upd A p 0)) τ) ?_ ?_
        · show WM (s1 (s1 G 44 A) 44 (upd A (nI p).toNatClampNeg 0)) τ = _
          rw [ep]
          rfl
        rw [nI_p1]
        exact ihp
  refine Ok.of (ls := [some _, some _, some _, some _, none, none, none]) (by decide +kernel) (Nat.le_of_ble_eq_true rfl) rfl ?_
  refine ev_iload_n (pc' := 1) dX7_doer_0 rfl rfl ?_
  refine ev_if_lt (tgt := 25) (pc' := 4) dX7_doer_1 (by decide) rfl (fun h_1 => ?_) (fun h_1 => ?_)
  · exact absurd h_1 (Int32.not_lt.mpr hk.1) --
  · refine ev_iload_n (pc' := 5) dX7_doer_4 rfl rfl ?_
    refine ev_bipush (pc' := 7) (v := 9) dX7_doer_5 rfl (by decide) ?_
    refine ev_icmp_gt (tgt := 25) (pc' := 10) dX7_doer_7 (by decide) rfl (fun h_7 => ?_) (fun h_7 => ?_)
    · exact absurd h_7 (Int32.not_lt.mpr hk.2) --
    · refine ev_iload_n (pc' := 11) dX7_doer_10 rfl rfl ?_
      refine ev_cSi1 (pc' := 14) cl_7_269 (m_isDay _ _) dX7_doer_11 rfl rfl ?_
      refine ev_if_eq (tgt := 25) (pc' := 17) dX7_doer_14 (by decide) rfl (fun h_14 => ?_) (fun h_14 => ?_)
      · exact absurd h_14 (by rw [isD_t hy]; decide) --
      · refine ev_aload_n (pc' := 18) dX7_doer_17 rfl rfl ?_
        refine ev_iload_n (pc' := 19) dX7_doer_18 rfl rfl ?_
        refine ev_cVi1 (pc' := 22) cl_7_326 (m_isKnown _ _ _) dX7_doer_19 rfl rfl rfl rfl ?_
        refine ev_if_ne (tgt := 27) (pc' := 25) dX7_doer_22 (by decide) rfl (fun h_22 => ?_) (fun h_22 => ?_)
        · refine ev_aload_n (pc' := 28) dX7_doer_27 rfl rfl ?_
          refine ev_iload_n (pc' := 29) dX7_doer_28 rfl rfl ?_
          refine ev_sipush (pc' := 32) (v := 399) dX7_doer_29 rfl (by decide) ?_
          refine ev_cVv2 (pc' := 35) cl_7_333 (hc) dX7_doer_32 rfl rfl rfl rfl ?_
          refine ev_iconst (pc' := 36) (v := 0) dX7_doer_35 rfl (by decide) ?_
          refine ev_istore (pc' := 38) (ls' := [_, _, _, _, _, _, _]) dX7_doer_36 rfl rfl rfl ?_
          refine ev_world (w' := WM (s1 G 44 (cpyTo (fun _ => 0) (G 44) 0)) τ) (by rw [cpyTo_0]; rfl) ?_
          exact kN 8 0 _ _ (by omega)
        · exact absurd h_22 (by rw [hS.2.2.2.1, isN_t hS.2.1 hn]; decide) --
def q_turned (σ : RS) (x z : Int32) : Bool := b_isFirst (σ 0 39) x && b_isFirst (σ 0 39) z
theorem m_turned_no {d : Nat} (σ : RS) (τ : TS) (x z : Int32) (hg : ¬ q_turned σ x z = true) : Ok (d + 6) M7_turned [.ref 0, .int x, .int z] (WM σ τ) (rt (some (.int (-1))) (WM σ τ)) := by
  unfold q_turned at hg
  refine Ok.of (ls := [some _, some _, some _, none, none]) (by decide +kernel) (Nat.le_of_ble_eq_true rfl) rfl ?_
  refine ev_aload_n (pc' := 1) dX7_turned_0 rfl rfl ?_
  refine ev_iload_n (pc' := 2) dX7_turned_1 rfl rfl ?_
  refine ev_cVi1 (pc' := 5) cl_7_326 (m_isKnown _ _ _) dX7_turned_2 rfl rfl rfl rfl ?_
  refine ev_if_eq (tgt := 16) (pc' := 8) dX7_turned_5 (by decide) rfl (fun h_5 => ?_) (fun h_5 => ?_)
  · refine ev_iconst (pc' := 17) (v := -1) dX7_turned_16 rfl (by decide) ?_
    refine ev_ireturn rfl dX7_turned_17 ?_
    exact ⟨rfl, rfl⟩
  · rw [bI_0, Bool.not_eq_false] at h_5
    refine ev_aload_n (pc' := 9) dX7_turned_8 rfl rfl ?_
    refine ev_iload_n (pc' := 10) dX7_turned_9 rfl rfl ?_
    refine ev_cVi1 (pc' := 13) cl_7_326 (m_isKnown _ _ _) dX7_turned_10 rfl rfl rfl rfl ?_
    refine ev_if_ne (tgt := 18) (pc' := 16) dX7_turned_13 (by decide) rfl (fun h_13 => ?_) (fun h_13 => ?_)
    · rw [bI_0, Bool.not_eq_false] at h_13
      exact absurd (by rw [h_5, h_13]; rfl) hg --
    · refine ev_iconst (pc' := 17) (v := -1) dX7_turned_16 rfl (by decide) ?_
      refine ev_ireturn rfl dX7_turned_17 ?_
      exact ⟨rfl, rfl⟩
def t_void (G : RS) (k : Nat) : Int32 := bI (decide (G 24 k ≤ 2 ∧ 0 < G 34 k))
def t_find (G : RS) : Nat → Nat → Int32
  | 0, _ => -1
  | c + 1, k => if G 24 k ≤ 2 ∧ ¬ G 45 k = bI (decide (0 < G 34 k)) then nI k else t_find G c (k + 1)
def t_one (P l m n : Nat) (σ : RS) (less : Nat) : RS := s1 (g_gone P l m n 399 σ) 45 (cpyTo (t_void (g_gone P l m n 399 σ)) ((g_gone P l m n 399 σ) 45) less)
theorem m_turned {d : Nat} (σ : RS) (τ : TS) (P N l m n q : Nat) (hS : mS P N l m σ) (hn : n ≤ N) (hq : q ≤ N) : Ok (d + 6) M7_turned [.ref 0, .int (nI n), .int (nI q)] (WM σ τ) (rt (some (.int (t_find (g_gone P l m q 399 (t_one P l m n σ (min n q))) (min n q) 0))) (WM (g_gone P l m q 399 (t_one P l m n σ (min n q))) τ)) := by
  have hN := hS.2.1
  obtain ⟨L, hL⟩ : ∃ L, L = min n q := ⟨_, rfl⟩
  rw [← hL]
  have hLn : L ≤ n := by omega
  have hLq : L ≤ q := by omega
  have hc := hS.goes (d := d) τ hn (show 399 < 400 by omega)
  have hS2 := hS.gk (g_gone_gk P l m n 399 σ)
  unfold t_one
  generalize g_gone P l m n 399 σ = G at *
  have hS3 := hS2.gk (gk_45 G (cpyTo (t_void G) (G 45) L))
  have hc3 := hS3.goes (d := d) τ hq (show 399 < 400 by omega)
  generalize hH : g_gone P l m q 399 (s1 G 45 (cpyTo (t_void G) (G 45) L)) = H at *
  have kF : ∀ (c k : Nat), k + c = L → Ev (d + 6) M7_turned (rt (some (.int (t_find H c k))) (WM H τ)) 96 [some (.ref 0), some (.int (nI n)), some (.int (nI q)), some (.int (nI L)), some (.int (nI k))] [] (WM H τ) := by
    intro c
    induction c with
    | zero =>
      intro k hk
      have hk : k = L := by omega
      subst hk
      refine ev_iload (pc' := 98) dX7_turned_96 rfl rfl ?_
      refine ev_iload_n (pc' := 99) dX7_turned_98 rfl rfl ?_
      refine ev_icmp_ge (tgt := 147) (pc' := 102) dX7_turned_99 (by decide) rfl (fun h_99 => ?_) (fun h_99 => ?_)
      · refine ev_iconst (pc' := 148) (v := -1) dX7_turned_147 rfl (by decide) ?_
        refine ev_ireturn rfl dX7_turned_148 ?_
        exact ⟨rfl, rfl⟩
      · exact absurd (nI_le (Nat.le_refl _) (by omega)) h_99 --
    | succ c ih =>
      intro k hk
      have ek : (nI k).toNatClampNeg = k := nI_clamp (by omega)
      have ihk := ih (k + 1) (by omega)
      obtain ⟨v, hv⟩ : ∃ v, v = t_find H (c + 1) k := ⟨_, rfl⟩
      rw [← hv]
      rw [t_find] at hv
      have stay : ¬ (H 24 k ≤ 2 ∧ ¬ H 45 k = bI (decide (0 < H 34 k))) → Ev (d + 6) M7_turned (rt (some (.int v)) (WM H τ)) 96 [some (.ref 0), some (.int (nI n)), some (.int (nI q)), some (.int (nI L)), some (.int (nI (k + 1)))] [] (WM H τ) := by
        intro h
        rw [if_neg h] at hv
        rw [hv]
        exact ihk
      have k135 : ∀ b : Bool, H 24 k ≤ 2 → b = decide (0 < H 34 k) → Ev (d + 6) M7_turned (rt (some (.int v)) (WM H τ)) 135 [some (.ref 0), some (.int (nI n)), some (.int (nI q)), some (.int (nI L)), some (.int (nI k))] [.int (bI b), .int (H 45 k)] (WM H τ) := by
        intro b h2 hb
        rw [← hb] at stay hv
        refine ev_icmp_eq (tgt := 141) (pc' := 138) dX7_turned_135 (by decide) rfl (fun h_135 => ?_) (fun h_135 => ?_)
        · have fn := stay (fun z => z.2 h_135)
          refine ev_iinc (pc' := 144) (ls' := [_, _, _, _, _]) dX7_turned_141 rfl rfl rfl rfl rfl ?_
          refine ev_goto (tgt := 96) dX7_turned_144 (by decide) ?_
          rw [nI_p1]
          exact fn
        · rw [if_pos ⟨h2, h_135⟩] at hv
          refine ev_iload (pc' := 140) dX7_turned_138 rfl rfl ?_
          refine ev_ireturn rfl dX7_turned_140 ?_
          rw [hv]
          exact ⟨rfl, rfl⟩
      refine ev_iload (pc' := 98) dX7_turned_96 rfl rfl ?_
      refine ev_iload_n (pc' := 99) dX7_turned_98 rfl rfl ?_
      refine ev_icmp_ge (tgt := 147) (pc' := 102) dX7_turned_99 (by decide) rfl (fun h_99 => ?_) (fun h_99 => ?_)
      · exact absurd h_99 (nI_ge (by omega) (by omega)) --
      · refine ev_aload_n (pc' := 103) dX7_turned_102 rfl rfl ?_
        refine ev_getf (pc' := 106) fl_7_89 dX7_turned_103 rfl rfl rfl ?_
        refine ev_iload (pc' := 108) dX7_turned_106 rfl rfl ?_
        refine ev_iald (pc' := 109) dX7_turned_108 rfl rfl ?_ ?_
        · exact vp_in_nI (by omega) (by omega)
        rw [ek]
        refine ev_iconst (pc' := 110) (v := 2) dX7_turned_109 rfl (by decide) ?_
        refine ev_icmp_gt (tgt := 141) (pc' := 113) dX7_turned_110 (by decide) rfl (fun h_110 => ?_) (fun h_110 => ?_)
        · have fn := stay (fun z => absurd h_110 (Int32.not_lt.mpr z.1))
          refine ev_iinc (pc' := 144) (ls' := [_, _, _, _, _]) dX7_turned_141 rfl rfl rfl rfl rfl ?_
          refine ev_goto (tgt := 96) dX7_turned_144 (by decide) ?_
          rw [nI_p1]
          exact fn
        · refine ev_aload_n (pc' := 114) dX7_turned_113 rfl rfl ?_
          refine ev_getf (pc' := 117) fl_7_155 dX7_turned_114 rfl rfl rfl ?_
          refine ev_iload (pc' := 119) dX7_turned_117 rfl rfl ?_
          refine ev_zald (pc' := 120) dX7_turned_119 rfl rfl ?_ ?_
          · exact vp_in_nI (by omega) (by omega)
          rw [ek]
          refine ev_aload_n (pc' := 121) dX7_turned_120 rfl rfl ?_
          refine ev_getf (pc' := 124) fl_7_122 dX7_turned_121 rfl rfl rfl ?_
          refine ev_iload (pc' := 126) dX7_turned_124 rfl rfl ?_
          refine ev_iald (pc' := 127) dX7_turned_126 rfl rfl ?_ ?_
          · exact vp_in_nI (by omega) (by omega)
          rw [ek]
          refine ev_if_le (tgt := 134) (pc' := 130) dX7_turned_127 (by decide) rfl (fun h_127 => ?_) (fun h_127 => ?_)
          · have e := k135 false (Int32.not_lt.mp h_110) (decide_eq_false (Int32.not_lt.mpr h_127)).symm
            refine ev_iconst (pc' := 135) (v := 0) dX7_turned_134 rfl (by decide) ?_
            exact e
          · have e := k135 true (Int32.not_lt.mp h_110) (decide_eq_true (Int32.not_le.mp h_127)).symm
            refine ev_iconst (pc' := 131) (v := 1) dX7_turned_130 rfl (by decide) ?_
            refine ev_goto (tgt := 135) dX7_turned_131 (by decide) ?_
            exact e
  have k85 : ∀ z4, Ev (d + 6) M7_turned (rt (some (.int (t_find H L 0))) (WM H τ)) 85 [some (.ref 0), some (.int (nI n)), some (.int (nI q)), some (.int (nI L)), z4] [] (WM (s1 G 45 (cpyTo (t_void G) (G 45) L)) τ) := by
    intro z4
    refine ev_aload_n (pc' := 86) dX7_turned_85 rfl rfl ?_
    refine ev_iload_n (pc' := 87) dX7_turned_86 rfl rfl ?_
    refine ev_sipush (pc' := 90) (v := 399) dX7_turned_87 rfl (by decide) ?_
    refine ev_cVv2 (pc' := 93) cl_7_333 (hc3) dX7_turned_90 rfl rfl rfl rfl ?_
    refine ev_iconst (pc' := 94) (v := 0) dX7_turned_93 rfl (by decide) ?_
    refine ev_istore (pc' := 96) (ls' := [_, _, _, _, _]) dX7_turned_94 rfl rfl rfl ?_
    exact kF L 0 (by omega)
  have kW : ∀ (c k : Nat), k + c = L → Ev (d + 6) M7_turned (rt (some (.int (t_find H L 0))) (WM H τ)) 40 [some (.ref 0), some (.int (nI n)), some (.int (nI q)), some (.int (nI L)), some (.int (nI k))] [] (WM (s1 G 45 (cpyTo (t_void G) (G 45) k)) τ) := by
    intro c
    induction c with
    | zero =>
      intro k hk
      have hk : k = L := by omega
      subst hk
      refine ev_iload (pc' := 42) dX7_turned_40 rfl rfl ?_
      refine ev_iload_n (pc' := 43) dX7_turned_42 rfl rfl ?_
      refine ev_icmp_ge (tgt := 85) (pc' := 46) dX7_turned_43 (by decide) rfl (fun h_43 => ?_) (fun h_43 => ?_)
      · exact k85 _ --
      · exact absurd (nI_le (Nat.le_refl _) (by omega)) h_43 --
    | succ c ih =>
      intro k hk
      have ek : (nI k).toNatClampNeg = k := nI_clamp (by omega)
      have hvk : vp_in (nI k) 120 := vp_in_nI (by omega) (by omega)
      have c1 := cpyTo_s (t_void G) (G 45) k
      have ihk := ih (k + 1) (by omega)
      rw [← c1] at ihk
      generalize cpyTo (t_void G) (G 45) k = A at *
      obtain ⟨σA, hA⟩ : ∃ U, U = s1 G 45 A := ⟨_, rfl⟩
      have a24 : σA 24 k = G 24 k := by rw [hA]; rfl
      have a34 : σA 34 k = G 34 k := by rw [hA]; rfl
      have a45 : σA 45 = A := by rw [hA]; rfl
      have k78 : ∀ b : Bool, bI b = t_void G k → Ev (d + 6) M7_turned (rt (some (.int (t_find H L 0))) (WM H τ)) 78 [some (.ref 0), some (.int (nI n)), some (.int (nI q)), some (.int (nI L)), some (.int (nI k))] [.int (bI b), .int (nI k), .ref 45] (WM σA τ) := by
        intro b hb
        have e2 : vp_nar .boolean (bI b) = bI b := by cases b <;> rfl
        refine ev_zast (pc' := 79) dX7_turned_78 rfl rfl ?_ (WM_a45 _ _ _) ?_
        · exact hvk
        refine ev_iinc (pc' := 82) (ls' := [_, _, _, _, _]) dX7_turned_79 rfl rfl rfl rfl rfl ?_
        refine ev_goto (tgt := 40) dX7_turned_82 (by decide) ?_
        refine ev_world (w' := WM (s1 G 45 (upd A k (t_void G k))) τ) ?_ ?_
        · rw [hA, e2, ek, hb]
          rfl
        rw [nI_p1]
        exact ihk
      rw [← hA]
      refine ev_iload (pc' := 42) dX7_turned_40 rfl rfl ?_
      refine ev_iload_n (pc' := 43) dX7_turned_42 rfl rfl ?_
      refine ev_icmp_ge (tgt := 85) (pc' := 46) dX7_turned_43 (by decide) rfl (fun h_43 => ?_) (fun h_43 => ?_)
      · exact absurd h_43 (nI_ge (by omega) (by omega)) --
      · refine ev_aload_n (pc' := 47) dX7_turned_46 rfl rfl ?_
        refine ev_getf (pc' := 50) fl_7_155 dX7_turned_47 rfl rfl rfl ?_
        refine ev_iload (pc' := 52) dX7_turned_50 rfl rfl ?_
        refine ev_aload_n (pc' := 53) dX7_turned_52 rfl rfl ?_
        refine ev_getf (pc' := 56) fl_7_89 dX7_turned_53 rfl rfl rfl ?_
        refine ev_iload (pc' := 58) dX7_turned_56 rfl rfl ?_
        refine ev_iald (pc' := 59) dX7_turned_58 rfl rfl ?_ ?_
        · exact hvk
        rw [ek, a24]
        refine ev_iconst (pc' := 60) (v := 2) dX7_turned_59 rfl (by decide) ?_
        refine ev_icmp_gt (tgt := 77) (pc' := 63) dX7_turned_60 (by decide) rfl (fun h_60 => ?_) (fun h_60 => ?_)
        · have e := k78 false (by unfold t_void; rw [decide_eq_false (fun z => absurd h_60 (Int32.not_lt.mpr z.1))])
          refine ev_iconst (pc' := 78) (v := 0) dX7_turned_77 rfl (by decide) ?_
          exact e
        · refine ev_aload_n (pc' := 64) dX7_turned_63 rfl rfl ?_
          refine ev_getf (pc' := 67) fl_7_122 dX7_turned_64 rfl rfl rfl ?_
          refine ev_iload (pc' := 69) dX7_turned_67 rfl rfl ?_
          refine ev_iald (pc' := 70) dX7_turned_69 rfl rfl ?_ ?_
          · exact hvk
          rw [ek, a34]
          refine ev_if_le (tgt := 77) (pc' := 73) dX7_turned_70 (by decide) rfl (fun h_70 => ?_) (fun h_70 => ?_)
          · have e := k78 false (by unfold t_void; rw [decide_eq_false (fun z => absurd z.2 (Int32.not_lt.mpr h_70))])
            refine ev_iconst (pc' := 78) (v := 0) dX7_turned_77 rfl (by decide) ?_
            exact e
          · have e := k78 true (by unfold t_void; rw [decide_eq_true ⟨Int32.not_lt.mp h_60, Int32.not_le.mp h_70⟩])
            refine ev_iconst (pc' := 74) (v := 1) dX7_turned_73 rfl (by decide) ?_
            refine ev_goto (tgt := 78) dX7_turned_74 (by decide) ?_
            exact e
  have k29 : ∀ z4, Ev (d + 6) M7_turned (rt (some (.int (t_find H L 0))) (WM H τ)) 29 [some (.ref 0), some (.int (nI n)), some (.int (nI q)), some (.int (nI L)), z4] [] (WM σ τ) := by
    intro z4
    refine ev_aload_n (pc' := 30) dX7_turned_29 rfl rfl ?_
    refine ev_iload_n (pc' := 31) dX7_turned_30 rfl rfl ?_
    refine ev_sipush (pc' := 34) (v := 399) dX7_turned_31 rfl (by decide) ?_
    refine ev_cVv2 (pc' := 37) cl_7_333 (hc) dX7_turned_34 rfl rfl rfl rfl ?_
    refine ev_iconst (pc' := 38) (v := 0) dX7_turned_37 rfl (by decide) ?_
    refine ev_istore (pc' := 40) (ls' := [_, _, _, _, _]) dX7_turned_38 rfl rfl rfl ?_
    refine ev_world (w' := WM (s1 G 45 (cpyTo (t_void G) (G 45) 0)) τ) (by rw [cpyTo_0]; rfl) ?_
    exact kW L 0 (by omega)
  refine Ok.of (ls := [some _, some _, some _, none, none]) (by decide +kernel) (Nat.le_of_ble_eq_true rfl) rfl ?_
  refine ev_aload_n (pc' := 1) dX7_turned_0 rfl rfl ?_
  refine ev_iload_n (pc' := 2) dX7_turned_1 rfl rfl ?_
  refine ev_cVi1 (pc' := 5) cl_7_326 (m_isKnown _ _ _) dX7_turned_2 rfl rfl rfl rfl ?_
  refine ev_if_eq (tgt := 16) (pc' := 8) dX7_turned_5 (by decide) rfl (fun h_5 => ?_) (fun h_5 => ?_)
  · exact absurd h_5 (by rw [hS.2.2.2.1, isN_t hS.2.1 hn]; decide) --
  · refine ev_aload_n (pc' := 9) dX7_turned_8 rfl rfl ?_
    refine ev_iload_n (pc' := 10) dX7_turned_9 rfl rfl ?_
    refine ev_cVi1 (pc' := 13) cl_7_326 (m_isKnown _ _ _) dX7_turned_10 rfl rfl rfl rfl ?_
    refine ev_if_ne (tgt := 18) (pc' := 16) dX7_turned_13 (by decide) rfl (fun h_13 => ?_) (fun h_13 => ?_)
    · refine ev_iload_n (pc' := 19) dX7_turned_18 rfl rfl ?_
      refine ev_iload_n (pc' := 20) dX7_turned_19 rfl rfl ?_
      refine ev_icmp_ge (tgt := 27) (pc' := 23) dX7_turned_20 (by decide) rfl (fun h_20 => ?_) (fun h_20 => ?_)
      · have eL : L = q := by rw [nI_leI (by omega) (by omega)] at h_20; omega
        have e := k29 none
        rw [show nI L = nI q by rw [eL]] at e
        refine ev_iload_n (pc' := 28) dX7_turned_27 rfl rfl ?_
        refine ev_istore_n (pc' := 29) (ls' := [_, _, _, _, _]) dX7_turned_28 rfl rfl rfl ?_
        exact e
      · have eL : L = n := by rw [nI_leI (by omega) (by omega)] at h_20; omega
        have e := k29 none
        rw [show nI L = nI n by rw [eL]] at e
        refine ev_iload_n (pc' := 24) dX7_turned_23 rfl rfl ?_
        refine ev_goto (tgt := 28) dX7_turned_24 (by decide) ?_
        refine ev_istore_n (pc' := 29) (ls' := [_, _, _, _, _]) dX7_turned_28 rfl rfl rfl ?_
        exact e
    · exact absurd h_13 (by rw [hS.2.2.2.1, isN_t hS.2.1 hq]; decide) --
def q_papers (σ : RS) : Nat → Int32
  | 0 => 0
  | k + 1 => q_papers σ k + (if σ 24 k ≤ 2 then 1 else 0)
def q_count (σ : RS) (N l : Nat) (x : Int32) : Int32 := if x = 0 then σ 0 37 else if x = 1 then σ 0 39 else if x = 2 then q_papers σ N else if x = 3 then σ 8 l else if x = 4 then σ 0 2 else -1
theorem m_count_loop {d : Nat} (σ : RS) (τ : TS) (N : Nat) (hN : N ≤ 120) (h39 : σ 0 39 = nI N) (x1 : Int32) : ∀ (c k : Nat), k + c = N → Ev d M7_count (rt (some (.int (q_papers σ N))) (WM σ τ)) 50 [some (.ref 0), some (.int x1), some (.int (q_papers σ k)), some (.int (nI k))] [] (WM σ τ) := by
  intro c
  induction c with
  | zero =>
    intro k hk
    have hk : k = N := by omega
    subst hk
    refine ev_iload_n (pc' := 51) dX7_count_50 rfl rfl ?_
    refine ev_aload_n (pc' := 52) dX7_count_51 rfl rfl ?_
    refine ev_getf (pc' := 55) fl_7_265 dX7_count_52 rfl rfl rfl ?_
    refine ev_icmp_ge (tgt := 82) (pc' := 58) dX7_count_55 (by decide) rfl (fun h_55 => ?_) (fun h_55 => ?_)
    · refine ev_iload_n (pc' := 83) dX7_count_82 rfl rfl ?_
      refine ev_ireturn rfl dX7_count_83 ?_
      exact ⟨rfl, rfl⟩
    · exact absurd (by rw [h39]; exact nI_le (Nat.le_refl _) (by omega)) h_55 --
  | succ c ih =>
    intro k hk
    have ek : (nI k).toNatClampNeg = k := nI_clamp (by omega)
    have ihk := ih (k + 1) (by omega)
    rw [q_papers] at ihk
    refine ev_iload_n (pc' := 51) dX7_count_50 rfl rfl ?_
    refine ev_aload_n (pc' := 52) dX7_count_51 rfl rfl ?_
    refine ev_getf (pc' := 55) fl_7_265 dX7_count_52 rfl rfl rfl ?_
    refine ev_icmp_ge (tgt := 82) (pc' := 58) dX7_count_55 (by decide) rfl (fun h_55 => ?_) (fun h_55 => ?_)
    · exact absurd h_55 (by rw [h39]; exact nI_ge (by omega) (by omega)) --
    · refine ev_iload_n (pc' := 59) dX7_count_58 rfl rfl ?_
      refine ev_aload_n (pc' := 60) dX7_count_59 rfl rfl ?_
      refine ev_getf (pc' := 63) fl_7_89 dX7_count_60 rfl rfl rfl ?_
      refine ev_iload_n (pc' := 64) dX7_count_63 rfl rfl ?_
      refine ev_iald (pc' := 65) dX7_count_64 rfl rfl ?_ ?_
      · exact vp_in_nI (by omega) (by omega)
      rw [ek]
      refine ev_iconst (pc' := 66) (v := 2) dX7_count_65 rfl (by decide) ?_
      refine ev_icmp_gt (tgt := 73) (pc' := 69) dX7_count_66 (by decide) rfl (fun h_66 => ?_) (fun h_66 => ?_)
      · rw [if_neg (Int32.not_le.mpr h_66)] at ihk
        refine ev_iconst (pc' := 74) (v := 0) dX7_count_73 rfl (by decide) ?_
        refine ev_iadd (pc' := 75) dX7_count_74 rfl ?_
        refine ev_istore_n (pc' := 76) (ls' := [_, _, _, _]) dX7_count_75 rfl rfl rfl ?_
        refine ev_iinc (pc' := 79) (ls' := [_, _, _, _]) dX7_count_76 rfl rfl rfl rfl rfl ?_
        refine ev_goto (tgt := 50) dX7_count_79 (by decide) ?_
        rw [nI_p1]
        exact ihk
      · rw [if_pos (Int32.not_lt.mp h_66)] at ihk
        refine ev_iconst (pc' := 70) (v := 1) dX7_count_69 rfl (by decide) ?_
        refine ev_goto (tgt := 74) dX7_count_70 (by decide) ?_
        refine ev_iadd (pc' := 75) dX7_count_74 rfl ?_
        refine ev_istore_n (pc' := 76) (ls' := [_, _, _, _]) dX7_count_75 rfl rfl rfl ?_
        refine ev_iinc (pc' := 79) (ls' := [_, _, _, _]) dX7_count_76 rfl rfl rfl rfl rfl ?_
        refine ev_goto (tgt := 50) dX7_count_79 (by decide) ?_
        rw [nI_p1]
        exact ihk
theorem m_count {d : Nat} (σ : RS) (τ : TS) (P N l m : Nat) (hS : mS P N l m σ) (x : Int32) : Ok (d + 6) M7_count [.ref 0, .int x] (WM σ τ) (rt (some (.int (q_count σ N l x))) (WM σ τ)) := by
  obtain ⟨h1, h2, h3, h4, ⟨l1, l2, l3, l4, l5⟩, h6⟩ := hS
  have el : (nI l).toNatClampNeg = l := nI_clamp (by omega)
  obtain ⟨v, hv⟩ : ∃ v, v = q_count σ N l x := ⟨_, rfl⟩
  rw [← hv]
  unfold q_count at hv
  refine Ok.of (ls := [some _, some _, none, none]) (by decide +kernel) (Nat.le_of_ble_eq_true rfl) rfl ?_
  refine ev_iload_n (pc' := 1) dX7_count_0 rfl rfl ?_
  refine ev_case (c := 0) (fun h_1_0 => ?_) (fun h_1_0 => ?_)
  · refine ev_tableIn (off := 35) (tgt := 36) dX7_count_1 (by decide) (by decide) (by decide) (by decide) ?_
    subst h_1_0
    rw [if_pos rfl] at hv
    refine ev_aload_n (pc' := 37) dX7_count_36 rfl rfl ?_
    refine ev_getf (pc' := 40) fl_7_262 dX7_count_37 rfl rfl rfl ?_
    refine ev_ireturn rfl dX7_count_40 ?_
    rw [hv]
    exact ⟨rfl, rfl⟩
  refine ev_case (c := 1) (fun h_1_1 => ?_) (fun h_1_1 => ?_)
  · refine ev_tableIn (off := 40) (tgt := 41) dX7_count_1 (by decide) (by decide) (by decide) (by decide) ?_
    subst h_1_1
    rw [if_neg (by decide), if_pos rfl] at hv
    refine ev_aload_n (pc' := 42) dX7_count_41 rfl rfl ?_
    refine ev_getf (pc' := 45) fl_7_265 dX7_count_42 rfl rfl rfl ?_
    refine ev_ireturn rfl dX7_count_45 ?_
    rw [hv]
    exact ⟨rfl, rfl⟩
  refine ev_case (c := 2) (fun h_1_2 => ?_) (fun h_1_2 => ?_)
  · refine ev_tableIn (off := 45) (tgt := 46) dX7_count_1 (by decide) (by decide) (by decide) (by decide) ?_
    subst h_1_2
    rw [if_neg (by decide), if_neg (by decide), if_pos rfl] at hv
    refine ev_iconst (pc' := 47) (v := 0) dX7_count_46 rfl (by decide) ?_
    refine ev_istore_n (pc' := 48) (ls' := [_, _, _, _]) dX7_count_47 rfl rfl rfl ?_
    refine ev_iconst (pc' := 49) (v := 0) dX7_count_48 rfl (by decide) ?_
    refine ev_istore_n (pc' := 50) (ls' := [_, _, _, _]) dX7_count_49 rfl rfl rfl ?_
    rw [hv]
    exact m_count_loop σ τ N h2 h4 _ N 0 (by omega)
  refine ev_case (c := 3) (fun h_1_3 => ?_) (fun h_1_3 => ?_)
  · refine ev_tableIn (off := 83) (tgt := 84) dX7_count_1 (by decide) (by decide) (by decide) (by decide) ?_
    subst h_1_3
    rw [if_neg (by decide), if_neg (by decide), if_neg (by decide), if_pos rfl] at hv
    refine ev_aload_n (pc' := 85) dX7_count_84 rfl rfl ?_
    refine ev_getf (pc' := 88) fl_7_40 dX7_count_85 rfl rfl rfl ?_
    refine ev_aload_n (pc' := 89) dX7_count_88 rfl rfl ?_
    refine ev_getf (pc' := 92) fl_7_230 dX7_count_89 rfl rfl rfl ?_
    refine ev_iald (pc' := 93) dX7_count_92 rfl rfl ?_ ?_
    · rw [l1]; exact vp_in_nI (by omega) (by omega)
    rw [l1, el]
    refine ev_ireturn rfl dX7_count_93 ?_
    rw [hv]
    exact ⟨rfl, rfl⟩
  refine ev_case (c := 4) (fun h_1_4 => ?_) (fun h_1_4 => ?_)
  · refine ev_tableIn (off := 93) (tgt := 94) dX7_count_1 (by decide) (by decide) (by decide) (by decide) ?_
    subst h_1_4
    rw [if_neg (by decide), if_neg (by decide), if_neg (by decide), if_neg (by decide), if_pos rfl] at hv
    refine ev_aload_n (pc' := 95) dX7_count_94 rfl rfl ?_
    refine ev_getf (pc' := 98) fl_7_162 dX7_count_95 rfl rfl rfl ?_
    refine ev_ireturn rfl dX7_count_98 ?_
    rw [hv]
    exact ⟨rfl, rfl⟩
  refine ev_tableOut (tgt := 99) dX7_count_1 (by simp only [fa_eq, Int32.reduceToInt] at h_1_0 h_1_1 h_1_2 h_1_3 h_1_4; omega) (by decide) ?_
  rw [if_neg h_1_0, if_neg h_1_1, if_neg h_1_2, if_neg h_1_3, if_neg h_1_4] at hv
  refine ev_iconst (pc' := 100) (v := -1) dX7_count_99 rfl (by decide) ?_
  refine ev_ireturn rfl dX7_count_100 ?_
  rw [hv]
  exact ⟨rfl, rfl⟩
def q_forged (σ : RS) (f : Int32) : Bool := decide (¬ σ 0 39 = 120) && decide (0 ≤ f ∧ f < σ 0 39 ∧ σ 24 (nt f) ≤ 2)
theorem m_forged {d : Nat} (σ : RS) (τ : TS) (N : Nat) (hN : N ≤ 120) (h39 : σ 0 39 = nI N) (f : Int32) : Ok (d + 6) M7_forged [.ref 0, .int f] (WM σ τ) (if q_forged σ f = true then rt (some (.int (nI N))) (WM (m_told σ N 3 0 0 0 0 0 f) τ) else rt (some (.int (-1))) (WM σ τ)) := by
  have hv : ¬ f < 0 → f < σ 0 39 → vp_in f 120 := by
    intro h1 h2
    obtain ⟨j, j1, j2⟩ := nI_of h1
    rw [h39, j2, nI_ltI j1 (by omega)] at h2
    rw [j2]
    exact vp_in_nI (by omega) (by omega)
  refine Ok.of (ls := [some _, some _]) (by decide +kernel) (Nat.le_of_ble_eq_true rfl) rfl ?_
  refine ev_aload_n (pc' := 1) dX7_forged_0 rfl rfl ?_
  refine ev_getf (pc' := 4) fl_7_265 dX7_forged_1 rfl rfl rfl ?_
  refine ev_bipush (pc' := 6) (v := 120) dX7_forged_4 rfl (by decide) ?_
  refine ev_icmp_eq (tgt := 31) (pc' := 9) dX7_forged_6 (by decide) rfl (fun h_6 => ?_) (fun h_6 => ?_)
  · rw [if_neg (by unfold q_forged; rw [decide_eq_false (fun z => z h_6), Bool.false_and]; decide)]
    refine ev_iconst (pc' := 32) (v := -1) dX7_forged_31 rfl (by decide) ?_
    refine ev_goto (tgt := 46) dX7_forged_32 (by decide) ?_
    refine ev_ireturn rfl dX7_forged_46 ?_
    exact ⟨rfl, rfl⟩
  · refine ev_iload_n (pc' := 10) dX7_forged_9 rfl rfl ?_
    refine ev_if_lt (tgt := 31) (pc' := 13) dX7_forged_10 (by decide) rfl (fun h_10 => ?_) (fun h_10 => ?_)
    · rw [if_neg (by unfold q_forged; rw [decide_eq_false (show ¬ (0 ≤ f ∧ f < σ 0 39 ∧ σ 24 (nt f) ≤ 2) from fun z => absurd h_10 (Int32.not_lt.mpr z.1)), Bool.and_false]; decide)]
      refine ev_iconst (pc' := 32) (v := -1) dX7_forged_31 rfl (by decide) ?_
      refine ev_goto (tgt := 46) dX7_forged_32 (by decide) ?_
      refine ev_ireturn rfl dX7_forged_46 ?_
      exact ⟨rfl, rfl⟩
    · refine ev_iload_n (pc' := 14) dX7_forged_13 rfl rfl ?_
      refine ev_aload_n (pc' := 15) dX7_forged_14 rfl rfl ?_
      refine ev_getf (pc' := 18) fl_7_265 dX7_forged_15 rfl rfl rfl ?_
      refine ev_icmp_ge (tgt := 31) (pc' := 21) dX7_forged_18 (by decide) rfl (fun h_18 => ?_) (fun h_18 => ?_)
      · rw [if_neg (by unfold q_forged; rw [decide_eq_false (show ¬ (0 ≤ f ∧ f < σ 0 39 ∧ σ 24 (nt f) ≤ 2) from fun z => absurd h_18 (Int32.not_le.mpr z.2.1)), Bool.and_false]; decide)]
        refine ev_iconst (pc' := 32) (v := -1) dX7_forged_31 rfl (by decide) ?_
        refine ev_goto (tgt := 46) dX7_forged_32 (by decide) ?_
        refine ev_ireturn rfl dX7_forged_46 ?_
        exact ⟨rfl, rfl⟩
      · refine ev_aload_n (pc' := 22) dX7_forged_21 rfl rfl ?_
        refine ev_getf (pc' := 25) fl_7_89 dX7_forged_22 rfl rfl rfl ?_
        refine ev_iload_n (pc' := 26) dX7_forged_25 rfl rfl ?_
        refine ev_iald (pc' := 27) dX7_forged_26 rfl rfl ?_ ?_
        · exact hv h_10 (Int32.not_le.mp h_18)
        refine ev_iconst (pc' := 28) (v := 2) dX7_forged_27 rfl (by decide) ?_
        refine ev_icmp_le (tgt := 35) (pc' := 31) dX7_forged_28 (by decide) rfl (fun h_28 => ?_) (fun h_28 => ?_)
        · rw [if_pos (by unfold q_forged; rw [decide_eq_true h_6, decide_eq_true (show 0 ≤ f ∧ f < σ 0 39 ∧ σ 24 (nt f) ≤ 2 from ⟨Int32.not_lt.mp h_10, Int32.not_le.mp h_18, h_28⟩)]; rfl)]
          refine ev_aload_n (pc' := 36) dX7_forged_35 rfl rfl ?_
          refine ev_iconst (pc' := 37) (v := 3) dX7_forged_36 rfl (by decide) ?_
          refine ev_iconst (pc' := 38) (v := 0) dX7_forged_37 rfl (by decide) ?_
          refine ev_iconst (pc' := 39) (v := 0) dX7_forged_38 rfl (by decide) ?_
          refine ev_iconst (pc' := 40) (v := 0) dX7_forged_39 rfl (by decide) ?_
          refine ev_iconst (pc' := 41) (v := 0) dX7_forged_40 rfl (by decide) ?_
          refine ev_iconst (pc' := 42) (v := 0) dX7_forged_41 rfl (by decide) ?_
          refine ev_iload_n (pc' := 43) dX7_forged_42 rfl rfl ?_
          refine ev_cVi7 (pc' := 46) cl_7_275 (m_fact σ τ N (lt_120 hN h39 h_6) h39 _ _ _ _ _ _ _) dX7_forged_43 rfl rfl rfl rfl ?_
          refine ev_ireturn rfl dX7_forged_46 ?_
          exact ⟨rfl, rfl⟩
        · rw [if_neg (by unfold q_forged; rw [decide_eq_false (show ¬ (0 ≤ f ∧ f < σ 0 39 ∧ σ 24 (nt f) ≤ 2) from fun z => h_28 z.2.2), Bool.and_false]; decide)]
          refine ev_iconst (pc' := 32) (v := -1) dX7_forged_31 rfl (by decide) ?_
          refine ev_goto (tgt := 46) dX7_forged_32 (by decide) ?_
          refine ev_ireturn rfl dX7_forged_46 ?_
          exact ⟨rfl, rfl⟩
