/-! The model, eighteenth part: the doer, what turned, counts. -/
def n_last (G : RS) (w deed y : Int32) : Nat → Int32
  | 0 => -1
  | k + 1 => if G 24 k = 5 ∧ G 26 k = w ∧ G 30 k = deed ∧ G 25 k = y then nI k else n_last G w deed y k
theorem n_last_res (G : RS) (w deed y : Int32) : ∀ n, n_last G w deed y n = -1 ∨ ∃ k, k < n ∧ n_last G w deed y n = nI k := by
  intro n
  induction n with
  | zero => exact Or.inl rfl
  | succ n ih =>
    rw [n_last]
    split
    · exact Or.inr ⟨n, by omega, rfl⟩
    · rcases ih with h | ⟨k, h1, h2⟩
      · exact Or.inl h
      · exact Or.inr ⟨k, by omega, h2⟩
def n_vote (P n : Nat) (deed y : Int32) (w : Nat) (H : RS) : RS :=
  if ¬ n_last H (nI w) deed y n = -1 ∧ q_cnt H P (nt (n_last H (nI w) deed y n)) = true then s2 H 44 (nt (H 27 (nt (n_last H (nI w) deed y n)))) (H 44 (nt (H 27 (nt (n_last H (nI w) deed y n)))) + 1) else H
theorem gk_44 (a : RS) (f : Nat → Int32) : gk a (s1 a 44 f) := ⟨fun c _ h2 => s1_ne _ _ (by omega), fun _ _ _ _ => rfl⟩
theorem gk_45 (a : RS) (f : Nat → Int32) : gk a (s1 a 45 f) := ⟨fun c _ h2 => s1_ne _ _ (by omega), fun _ _ _ _ => rfl⟩
theorem n_vote_gk (P n : Nat) (deed y : Int32) (w : Nat) (H : RS) : gk H (n_vote P n deed y w H) := by
  unfold n_vote
  split
  · exact gk_44 _ _
  · exact gk.refl _
theorem n_scan_loop {d : Nat} {Q : Option Value → MW → Prop} (H : RS) (τ : TS) (w n : Nat) (deed y : Int32) (hn : n ≤ 120) (kk : Ev d M7_doer Q 138 [some (.ref 0), some (.int deed), some (.int y), some (.int (nI n)), some (.int (nI w)), some (.int (n_last H (nI w) deed y n)), some (.int (nI n))] [] (WM H τ)) : ∀ (c k : Nat), k + c = n → Ev d M7_doer Q 77 [some (.ref 0), some (.int deed), some (.int y), some (.int (nI n)), some (.int (nI w)), some (.int (n_last H (nI w) deed y k)), some (.int (nI k))] [] (WM H τ) := by
  intro c
  induction c with
  | zero =>
    intro k hk
    have hk : k = n := by omega
    subst hk
    refine ev_iload (pc' := 79) dX7_doer_77 rfl rfl ?_
    refine ev_iload_n (pc' := 80) dX7_doer_79 rfl rfl ?_
    refine ev_icmp_ge (tgt := 138) (pc' := 83) dX7_doer_80 (by decide) rfl (fun h_80 => ?_) (fun h_80 => ?_)
    · exact kk --
    · exact absurd (nI_le (Nat.le_refl _) (by omega)) h_80 --
  | succ c ih =>
    intro k hk
    have ek : (nI k).toNatClampNeg = k := nI_clamp (by omega)
    have ihk := ih (k + 1) (by omega)
    rw [n_last] at ihk
    refine ev_iload (pc' := 79) dX7_doer_77 rfl rfl ?_
    refine ev_iload_n (pc' := 80) dX7_doer_79 rfl rfl ?_
    refine ev_icmp_ge (tgt := 138) (pc' := 83) dX7_doer_80 (by decide) rfl (fun h_80 => ?_) (fun h_80 => ?_)
    · exact absurd h_80 (nI_ge (by omega) (by omega)) --
    · refine ev_aload_n (pc' := 84) dX7_doer_83 rfl rfl ?_
      refine ev_getf (pc' := 87) fl_7_89 dX7_doer_84 rfl rfl rfl ?_
      refine ev_iload (pc' := 89) dX7_doer_87 rfl rfl ?_
      refine ev_iald (pc' := 90) dX7_doer_89 rfl rfl ?_ ?_
      · exact vp_in_nI (by omega) (by omega)
      rw [ek]
      refine ev_iconst (pc' := 91) (v := 5) dX7_doer_90 rfl (by decide) ?_
      refine ev_icmp_ne (tgt := 132) (pc' := 94) dX7_doer_91 (by decide) rfl (fun h_91 => ?_) (fun h_91 => ?_)
      · rw [if_neg (fun z => h_91 z.1)] at ihk
        refine ev_iinc (pc' := 135) (ls' := [_, _, _, _, _, _, _]) dX7_doer_132 rfl rfl rfl rfl rfl ?_
        refine ev_goto (tgt := 77) dX7_doer_135 (by decide) ?_
        rw [nI_p1]
        exact ihk
      · refine ev_aload_n (pc' := 95) dX7_doer_94 rfl rfl ?_
        refine ev_getf (pc' := 98) fl_7_95 dX7_doer_95 rfl rfl rfl ?_
        refine ev_iload (pc' := 100) dX7_doer_98 rfl rfl ?_
        refine ev_iald (pc' := 101) dX7_doer_100 rfl rfl ?_ ?_
        · exact vp_in_nI (by omega) (by omega)
        rw [ek]
        refine ev_iload (pc' := 103) dX7_doer_101 rfl rfl ?_
        refine ev_icmp_ne (tgt := 132) (pc' := 106) dX7_doer_103 (by decide) rfl (fun h_103 => ?_) (fun h_103 => ?_)
        · rw [if_neg (fun z => h_103 z.2.1)] at ihk
          refine ev_iinc (pc' := 135) (ls' := [_, _, _, _, _, _, _]) dX7_doer_132 rfl rfl rfl rfl rfl ?_
          refine ev_goto (tgt := 77) dX7_doer_135 (by decide) ?_
          rw [nI_p1]
          exact ihk
        · refine ev_aload_n (pc' := 107) dX7_doer_106 rfl rfl ?_
          refine ev_getf (pc' := 110) fl_7_107 dX7_doer_107 rfl rfl rfl ?_
          refine ev_iload (pc' := 112) dX7_doer_110 rfl rfl ?_
          refine ev_iald (pc' := 113) dX7_doer_112 rfl rfl ?_ ?_
          · exact vp_in_nI (by omega) (by omega)
          rw [ek]
          refine ev_iload_n (pc' := 114) dX7_doer_113 rfl rfl ?_
          refine ev_icmp_ne (tgt := 132) (pc' := 117) dX7_doer_114 (by decide) rfl (fun h_114 => ?_) (fun h_114 => ?_)
          · rw [if_neg (fun z => h_114 z.2.2.1)] at ihk
            refine ev_iinc (pc' := 135) (ls' := [_, _, _, _, _, _, _]) dX7_doer_132 rfl rfl rfl rfl rfl ?_
            refine ev_goto (tgt := 77) dX7_doer_135 (by decide) ?_
            rw [nI_p1]
            exact ihk
          · refine ev_aload_n (pc' := 118) dX7_doer_117 rfl rfl ?_
            refine ev_getf (pc' := 121) fl_7_92 dX7_doer_118 rfl rfl rfl ?_
            refine ev_iload (pc' := 123) dX7_doer_121 rfl rfl ?_
            refine ev_iald (pc' := 124) dX7_doer_123 rfl rfl ?_ ?_
            · exact vp_in_nI (by omega) (by omega)
            rw [ek]
            refine ev_iload_n (pc' := 125) dX7_doer_124 rfl rfl ?_
            refine ev_icmp_ne (tgt := 132) (pc' := 128) dX7_doer_125 (by decide) rfl (fun h_125 => ?_) (fun h_125 => ?_)
            · rw [if_neg (fun z => h_125 z.2.2.2)] at ihk
              refine ev_iinc (pc' := 135) (ls' := [_, _, _, _, _, _, _]) dX7_doer_132 rfl rfl rfl rfl rfl ?_
              refine ev_goto (tgt := 77) dX7_doer_135 (by decide) ?_
              rw [nI_p1]
              exact ihk
            · rw [if_pos ⟨h_91, h_103, h_114, h_125⟩] at ihk
              refine ev_iload (pc' := 130) dX7_doer_128 rfl rfl ?_
              refine ev_istore (pc' := 132) (ls' := [_, _, _, _, _, _, _]) dX7_doer_130 rfl rfl rfl ?_
              refine ev_iinc (pc' := 135) (ls' := [_, _, _, _, _, _, _]) dX7_doer_132 rfl rfl rfl rfl rfl ?_
              refine ev_goto (tgt := 77) dX7_doer_135 (by decide) ?_
              rw [nI_p1]
              exact ihk
theorem n_vote_loop {d : Nat} {Q : Option Value → MW → Prop} (τ : TS) (P N l m n : Nat) (deed y : Int32) (hn : n ≤ N) : ∀ (c w : Nat) (H : RS) (z5 z6 : Option Value), w + c = P → mS P N l m H → (∀ z5 z6, Ev (d + 2) M7_doer Q 175 [some (.ref 0), some (.int deed), some (.int y), some (.int (nI n)), some (.int (nI P)), z5, z6] [] (WM (r_for (n_vote P n deed y) c w H) τ)) → Ev (d + 2) M7_doer Q 62 [some (.ref 0), some (.int deed), some (.int y), some (.int (nI n)), some (.int (nI w)), z5, z6] [] (WM H τ) := by
  intro c
  induction c with
  | zero =>
    intro w H z5 z6 hw hS kk
    have hw : w = P := by omega
    subst hw
    have hP := hS.1
    have h37 := hS.2.2.1
    refine ev_iload (pc' := 64) dX7_doer_62 rfl rfl ?_
    refine ev_aload_n (pc' := 65) dX7_doer_64 rfl rfl ?_
    refine ev_getf (pc' := 68) fl_7_262 dX7_doer_65 rfl rfl rfl ?_
    refine ev_icmp_ge (tgt := 175) (pc' := 71) dX7_doer_68 (by decide) rfl (fun h_68 => ?_) (fun h_68 => ?_)
    · exact kk _ _ --
    · exact absurd (by rw [h37]; exact nI_le (Nat.le_refl _) (by omega)) h_68 --
  | succ c ih =>
    intro w H z5 z6 hw hS kk
    have hP := hS.1
    have hN := hS.2.1
    have h37 := hS.2.2.1
    rw [r_for] at kk
    have ihk := fun z5 z6 => ih (w + 1) (n_vote P n deed y w H) z5 z6 (by omega) (hS.gk (n_vote_gk _ _ _ _ _ _)) kk
    obtain ⟨T, hT⟩ : ∃ T, T = n_vote P n deed y w H := ⟨_, rfl⟩
    rw [← hT] at ihk
    unfold n_vote at hT
    have kS : Ev (d + 2) M7_doer Q 138 [some (.ref 0), some (.int deed), some (.int y), some (.int (nI n)), some (.int (nI w)), some (.int (n_last H (nI w) deed y n)), some (.int (nI n))] [] (WM H τ) := by
      have hres := n_last_res H (nI w) deed y n
      generalize n_last H (nI w) deed y n = x at *
      rcases hres with h | ⟨k, k1, k2⟩
      · subst h
        rw [if_neg (fun z => z.1 rfl)] at hT
        subst hT
        refine ev_iload (pc' := 140) dX7_doer_138 rfl rfl ?_
        refine ev_iconst (pc' := 141) (v := -1) dX7_doer_140 rfl (by decide) ?_
        refine ev_icmp_eq (tgt := 169) (pc' := 144) dX7_doer_141 (by decide) rfl (fun h_141 => ?_) (fun h_141 => ?_)
        · refine ev_iinc (pc' := 172) (ls' := [_, _, _, _, _, _, _]) dX7_doer_169 rfl rfl rfl rfl rfl ?_
          refine ev_goto (tgt := 62) dX7_doer_172 (by decide) ?_
          rw [nI_p1]
          exact ihk _ _
        · exact absurd rfl h_141 --
      · subst k2
        have ek : (nI k).toNatClampNeg = k := nI_clamp (by omega)
        rw [nt_nI (by omega)] at hT
        obtain ⟨s, q, a, b, p, u, v, hf⟩ := hS.2.2.2.2.2 k (by omega)
        obtain ⟨⟨b1, b2, b3, b4, b5, b6, b7⟩, g1, g2, g3, g4, g5, g6, g7⟩ := hf
        have eb : (nI b).toNatClampNeg = b := nI_clamp (by omega)
        rw [g4, nt_nI (by omega)] at hT
        have hn1 : ¬ nI k = -1 := fun z => absurd (nI_pos (n := k) (by omega)) (by rw [z]; decide)
        refine ev_iload (pc' := 140) dX7_doer_138 rfl rfl ?_
        refine ev_iconst (pc' := 141) (v := -1) dX7_doer_140 rfl (by decide) ?_
        refine ev_icmp_eq (tgt := 169) (pc' := 144) dX7_doer_141 (by decide) rfl (fun h_141 => ?_) (fun h_141 => ?_)
        · exact absurd h_141 hn1 --
        · refine ev_aload_n (pc' := 145) dX7_doer_144 rfl rfl ?_
          refine ev_iload (pc' := 147) dX7_doer_145 rfl rfl ?_
          refine ev_cVi1 (pc' := 150) cl_7_339 (m_isCounted H τ P N l m k hS (by omega)) dX7_doer_147 rfl rfl rfl rfl ?_
          refine ev_if_eq (tgt := 169) (pc' := 153) dX7_doer_150 (by decide) rfl (fun h_150 => ?_) (fun h_150 => ?_)
          · rw [bI_0] at h_150
            rw [if_neg (fun z => by rw [h_150] at z; exact absurd z.2 (by decide))] at hT
            subst hT
            first
              | (refine ev_world (w' := WM T τ) (by rw [hT]; show WM (s1 H 44 (upd (H 44) (nI b).toNatClampNeg _)) τ = _; rw [eb]; rfl) ?_
                 refine ev_iinc (pc' := 172) (ls' := [_, _, _, _, _, _, _]) dX7_doer_169 rfl rfl rfl rfl rfl ?_
                 refine ev_goto (tgt := 62) dX7_doer_172 (by decide) ?_
                 rw [nI_p1]
                 exact ihk _ _)
              | (refine ev_iinc (pc' := 172) (ls' := [_, _, _, _, _, _, _]) dX7_doer_169 rfl rfl rfl rfl rfl ?_
                 refine ev_goto (tgt := 62) dX7_doer_172 (by decide) ?_
                 rw [nI_p1]
                 exact ihk _ _)
          · rw [bI_0, Bool.not_eq_false] at h_150
            rw [if_pos ⟨hn1, h_150⟩] at hT
            refine ev_aload_n (pc' := 154) dX7_doer_153 rfl rfl ?_
            refine ev_getf (pc' := 157) fl_7_152 dX7_doer_154 rfl rfl rfl ?_
            refine ev_aload_n (pc' := 158) dX7_doer_157 rfl rfl ?_
            refine ev_getf (pc' := 161) fl_7_98 dX7_doer_158 rfl rfl rfl ?_
            refine ev_iload (pc' := 163) dX7_doer_161 rfl rfl ?_
            refine ev_iald (pc' := 164) dX7_doer_163 rfl rfl ?_ ?_
            · exact vp_in_nI (by omega) (by omega)
            rw [ek, g4]
            refine ev_dup2 (pc' := 165) dX7_doer_164 rfl rfl rfl ?_
            refine ev_iald (pc' := 166) dX7_doer_165 rfl rfl ?_ ?_
            · exact vp_in_nI (by omega) (by omega)
            rw [eb]
            refine ev_iconst (pc' := 167) (v := 1) dX7_doer_166 rfl (by decide) ?_
            refine ev_iadd (pc' := 168) dX7_doer_167 rfl ?_
            refine ev_iast (pc' := 169) dX7_doer_168 rfl rfl ?_ (WM_a44 _ _ _) ?_
            · exact vp_in_nI (by omega) (by omega)
            first
              | (refine ev_world (w' := WM T τ) (by rw [hT]; show WM (s1 H 44 (upd (H 44) (nI b).toNatClampNeg _)) τ = _; rw [eb]; rfl) ?_
                 refine ev_iinc (pc' := 172) (ls' := [_, _, _, _, _, _, _]) dX7_doer_169 rfl rfl rfl rfl rfl ?_
                 refine ev_goto (tgt := 62) dX7_doer_172 (by decide) ?_
                 rw [nI_p1]
                 exact ihk _ _)
              | (refine ev_iinc (pc' := 172) (ls' := [_, _, _, _, _, _, _]) dX7_doer_169 rfl rfl rfl rfl rfl ?_
                 refine ev_goto (tgt := 62) dX7_doer_172 (by decide) ?_
                 rw [nI_p1]
                 exact ihk _ _)
    refine ev_iload (pc' := 64) dX7_doer_62 rfl rfl ?_
    refine ev_aload_n (pc' := 65) dX7_doer_64 rfl rfl ?_
    refine ev_getf (pc' := 68) fl_7_262 dX7_doer_65 rfl rfl rfl ?_
    refine ev_icmp_ge (tgt := 175) (pc' := 71) dX7_doer_68 (by decide) rfl (fun h_68 => ?_) (fun h_68 => ?_)
    · exact absurd h_68 (by rw [h37]; exact nI_ge (by omega) (by omega)) --
    · refine ev_iconst (pc' := 72) (v := -1) dX7_doer_71 rfl (by decide) ?_
      refine ev_istore (pc' := 74) (ls' := [_, _, _, _, _, _, _]) dX7_doer_72 rfl rfl rfl ?_
      refine ev_iconst (pc' := 75) (v := 0) dX7_doer_74 rfl (by decide) ?_
      refine ev_istore (pc' := 77) (ls' := [_, _, _, _, _, _, _]) dX7_doer_75 rfl rfl rfl ?_
      exact n_scan_loop H τ w n deed y (by omega) kS n 0 (by omega)
def n_best1 (H : RS) (y P p : Nat) (b : Int32 × Bool) : Int32 × Bool :=
  if H 44 p = 0 ∨ m_awk (H 31) (nI p) y P = 0 then b
  else (if b.1 = -1 ∨ H 44 (nt b.1) < H 44 p then nI p else b.1, decide (¬ b.1 = -1 ∧ (H 44 p = H 44 (nt b.1) ∨ (b.2 = true ∧ H 44 p < H 44 (nt b.1)))))
def n_best (H : RS) (y P : Nat) : Nat → Nat → Int32 × Bool → Int32 × Bool
  | 0, _, b => b
  | c + 1, p, b => n_best H y P c (p + 1) (n_best1 H y P p b)
theorem n_best_loop {d : Nat} (H : RS) (τ : TS) (P y n : Nat) (deed : Int32) (hP : P ≤ 8) (hy : y < 400) (h37 : H 0 37 = nI P) : ∀ (c p : Nat) (b : Int32 × Bool), p + c = P → (b.1 = -1 ∨ ∃ q, q < 8 ∧ b.1 = nI q) → Ev (d + 2) M7_doer (rt (some (.int (if (n_best H y P c p b).2 = true then -1 else (n_best H y P c p b).1))) (WM H τ)) 184 [some (.ref 0), some (.int deed), some (.int (nI y)), some (.int (nI n)), some (.int b.1), some (.int (bI b.2)), some (.int (nI p))] [] (WM H τ) := by
  intro c
  induction c with
  | zero =>
    intro p b hp hb
    have hp : p = P := by omega
    subst hp
    rw [n_best]
    refine ev_iload (pc' := 186) dX7_doer_184 rfl rfl ?_
    refine ev_aload_n (pc' := 187) dX7_doer_186 rfl rfl ?_
    refine ev_getf (pc' := 190) fl_7_262 dX7_doer_187 rfl rfl rfl ?_
    refine ev_icmp_ge (tgt := 301) (pc' := 193) dX7_doer_190 (by decide) rfl (fun h_190 => ?_) (fun h_190 => ?_)
    · refine ev_iload (pc' := 303) dX7_doer_301 rfl rfl ?_
      refine ev_if_eq (tgt := 310) (pc' := 306) dX7_doer_303 (by decide) rfl (fun h_303 => ?_) (fun h_303 => ?_)
      · rw [bI_0] at h_303
        rw [if_neg (by rw [h_303]; decide)]
        refine ev_iload (pc' := 312) dX7_doer_310 rfl rfl ?_
        refine ev_ireturn rfl dX7_doer_312 ?_
        exact ⟨rfl, rfl⟩
      · rw [bI_0, Bool.not_eq_false] at h_303
        rw [if_pos h_303]
        refine ev_iconst (pc' := 307) (v := -1) dX7_doer_306 rfl (by decide) ?_
        refine ev_goto (tgt := 312) dX7_doer_307 (by decide) ?_
        refine ev_ireturn rfl dX7_doer_312 ?_
        exact ⟨rfl, rfl⟩
    · exact absurd (by rw [h37]; exact nI_le (Nat.le_refl _) (by omega)) h_190 --
  | succ c ih =>
    intro p b hp hb
    rw [n_best]
    have ep : (nI p).toNatClampNeg = p := nI_clamp (by omega)
    have hvp : vp_in (nI p) 8 := vp_in_nI (by omega) (by omega)
    obtain ⟨T, hT⟩ : ∃ T, T = n_best1 H y P p b := ⟨_, rfl⟩
    have hTb : T.1 = -1 ∨ ∃ q, q < 8 ∧ T.1 = nI q := by
      rw [hT]
      unfold n_best1
      split
      · exact hb
      · dsimp only
        split
        · exact Or.inr ⟨p, by omega, rfl⟩
        · exact hb
    have ihk := ih (p + 1) T (by omega) hTb
    rw [← hT]
    obtain ⟨b1, b2⟩ := b
    unfold n_best1 at hT
    dsimp only at hT hb ⊢
    have stay : H 44 p = 0 ∨ m_awk (H 31) (nI p) y P = 0 → Ev (d + 2) M7_doer (rt (some (.int (if (n_best H y P c (p + 1) T).2 = true then -1 else (n_best H y P c (p + 1) T).1))) (WM H τ)) 184 [some (.ref 0), some (.int deed), some (.int (nI y)), some (.int (nI n)), some (.int b1), some (.int (bI b2)), some (.int (nI (p + 1)))] [] (WM H τ) := by
      intro h
      rw [if_pos h] at hT
      rw [hT] at ihk ⊢
      exact ihk
    by_cases h1 : b1 = -1
    · subst h1
      have fin : ¬ (H 44 p = 0 ∨ m_awk (H 31) (nI p) y P = 0) → Ev (d + 2) M7_doer (rt (some (.int (if (n_best H y P c (p + 1) T).2 = true then -1 else (n_best H y P c (p + 1) T).1))) (WM H τ)) 184 [some (.ref 0), some (.int deed), some (.int (nI y)), some (.int (nI n)), some (.int (nI p)), some (.int 0), some (.int (nI (p + 1)))] [] (WM H τ) := by
        intro h
        rw [if_neg h, if_pos (Or.inl rfl), decide_eq_false (fun z => z.1 rfl)] at hT
        rw [hT] at ihk ⊢
        exact ihk
      refine ev_iload (pc' := 186) dX7_doer_184 rfl rfl ?_
      refine ev_aload_n (pc' := 187) dX7_doer_186 rfl rfl ?_
      refine ev_getf (pc' := 190) fl_7_262 dX7_doer_187 rfl rfl rfl ?_
      refine ev_icmp_ge (tgt := 301) (pc' := 193) dX7_doer_190 (by decide) rfl (fun h_190 => ?_) (fun h_190 => ?_)
      · exact absurd h_190 (by rw [h37]; exact nI_ge (by omega) (by omega)) --
      · refine ev_aload_n (pc' := 194) dX7_doer_193 rfl rfl ?_
        refine ev_getf (pc' := 197) fl_7_152 dX7_doer_194 rfl rfl rfl ?_
        refine ev_iload (pc' := 199) dX7_doer_197 rfl rfl ?_
        refine ev_iald (pc' := 200) dX7_doer_199 rfl rfl ?_ ?_
        · exact hvp
        rw [ep]
        refine ev_if_eq (tgt := 295) (pc' := 203) dX7_doer_200 (by decide) rfl (fun h_200 => ?_) (fun h_200 => ?_)
        · have fn := stay (Or.inl h_200)
          refine ev_iinc (pc' := 298) (ls' := [_, _, _, _, _, _, _]) dX7_doer_295 rfl rfl rfl rfl rfl ?_
          refine ev_goto (tgt := 184) dX7_doer_298 (by decide) ?_
          rw [nI_p1]
          exact fn
        · refine ev_aload_n (pc' := 204) dX7_doer_203 rfl rfl ?_
          refine ev_iload (pc' := 206) dX7_doer_204 rfl rfl ?_
          refine ev_iload_n (pc' := 207) dX7_doer_206 rfl rfl ?_
          refine ev_cVi2 (pc' := 210) cl_7_336 (m_awakeOf H τ _ y P hy hP h37) dX7_doer_207 rfl rfl rfl rfl ?_
          refine ev_if_ne (tgt := 216) (pc' := 213) dX7_doer_210 (by decide) rfl (fun h_210 => ?_) (fun h_210 => ?_)
          · have fn := fin (fun z => z.elim h_200 h_210)
            refine ev_iload (pc' := 218) dX7_doer_216 rfl rfl ?_
            refine ev_iconst (pc' := 219) (v := -1) dX7_doer_218 rfl (by decide) ?_
            refine ev_icmp_eq (tgt := 265) (pc' := 222) dX7_doer_219 (by decide) rfl (fun h_219 => ?_) (fun h_219 => ?_)
            · refine ev_iconst (pc' := 266) (v := 0) dX7_doer_265 rfl (by decide) ?_
              refine ev_istore (pc' := 268) (ls' := [_, _, _, _, _, _, _]) dX7_doer_266 rfl rfl rfl ?_
              refine ev_iload (pc' := 270) dX7_doer_268 rfl rfl ?_
              refine ev_iconst (pc' := 271) (v := -1) dX7_doer_270 rfl (by decide) ?_
              refine ev_icmp_eq (tgt := 291) (pc' := 274) dX7_doer_271 (by decide) rfl (fun h_271 => ?_) (fun h_271 => ?_)
              · refine ev_iload (pc' := 293) dX7_doer_291 rfl rfl ?_
                refine ev_istore (pc' := 295) (ls' := [_, _, _, _, _, _, _]) dX7_doer_293 rfl rfl rfl ?_
                refine ev_iinc (pc' := 298) (ls' := [_, _, _, _, _, _, _]) dX7_doer_295 rfl rfl rfl rfl rfl ?_
                refine ev_goto (tgt := 184) dX7_doer_298 (by decide) ?_
                rw [nI_p1]
                exact fn
              · exact absurd rfl h_271 --
            · exact absurd rfl h_219 --
          · have fn := stay (Or.inr h_210)
            refine ev_goto (tgt := 295) dX7_doer_213 (by decide) ?_
            refine ev_iinc (pc' := 298) (ls' := [_, _, _, _, _, _, _]) dX7_doer_295 rfl rfl rfl rfl rfl ?_
            refine ev_goto (tgt := 184) dX7_doer_298 (by decide) ?_
            rw [nI_p1]
            exact fn
    · rcases hb with hb | ⟨q, q8, hq⟩
      · exact absurd hb h1
      subst hq
      have eq : (nI q).toNatClampNeg = q := nI_clamp (by omega)
      have hvq : vp_in (nI q) 8 := vp_in_nI (by omega) (by omega)
      rw [nt_nI (by omega)] at hT
      have k266 : ∀ v : Bool, ¬ (H 44 p = 0 ∨ m_awk (H 31) (nI p) y P = 0) → v = decide (¬ nI q = -1 ∧ (H 44 p = H 44 q ∨ (b2 = true ∧ H 44 p < H 44 q))) → Ev (d + 2) M7_doer (rt (some (.int (if (n_best H y P c (p + 1) T).2 = true then -1 else (n_best H y P c (p + 1) T).1))) (WM H τ)) 266 [some (.ref 0), some (.int deed), some (.int (nI y)), some (.int (nI n)), some (.int (nI q)), some (.int (bI b2)), some (.int (nI p))] [.int (bI v)] (WM H τ) := by
        intro v h hv
        rw [if_neg h, ← hv] at hT
        have fin : ∀ w, w = T.1 → T.2 = v → Ev (d + 2) M7_doer (rt (some (.int (if (n_best H y P c (p + 1) T).2 = true then -1 else (n_best H y P c (p + 1) T).1))) (WM H τ)) 184 [some (.ref 0), some (.int deed), some (.int (nI y)), some (.int (nI n)), some (.int w), some (.int (bI v)), some (.int (nI (p + 1)))] [] (WM H τ) := by
          intro w e1 e2
          rw [e1, ← e2]
          exact ihk
        refine ev_istore (pc' := 268) (ls' := [_, _, _, _, _, _, _]) dX7_doer_266 rfl rfl rfl ?_
        refine ev_iload (pc' := 270) dX7_doer_268 rfl rfl ?_
        refine ev_iconst (pc' := 271) (v := -1) dX7_doer_270 rfl (by decide) ?_
        refine ev_icmp_eq (tgt := 291) (pc' := 274) dX7_doer_271 (by decide) rfl (fun h_271 => ?_) (fun h_271 => ?_)
        · exact absurd h_271 h1 --
        · refine ev_aload_n (pc' := 275) dX7_doer_274 rfl rfl ?_
          refine ev_getf (pc' := 278) fl_7_152 dX7_doer_275 rfl rfl rfl ?_
          refine ev_iload (pc' := 280) dX7_doer_278 rfl rfl ?_
          refine ev_iald (pc' := 281) dX7_doer_280 rfl rfl ?_ ?_
          · exact hvp
          rw [ep]
          refine ev_aload_n (pc' := 282) dX7_doer_281 rfl rfl ?_
          refine ev_getf (pc' := 285) fl_7_152 dX7_doer_282 rfl rfl rfl ?_
          refine ev_iload (pc' := 287) dX7_doer_285 rfl rfl ?_
          refine ev_iald (pc' := 288) dX7_doer_287 rfl rfl ?_ ?_
          · exact hvq
          rw [eq]
          refine ev_icmp_le (tgt := 295) (pc' := 291) dX7_doer_288 (by decide) rfl (fun h_288 => ?_) (fun h_288 => ?_)
          · rw [if_neg (fun z => z.elim h1 (fun z => absurd z (Int32.not_lt.mpr h_288)))] at hT
            have fn := fin (nI q) (by rw [hT]) (by rw [hT])
            refine ev_iinc (pc' := 298) (ls' := [_, _, _, _, _, _, _]) dX7_doer_295 rfl rfl rfl rfl rfl ?_
            refine ev_goto (tgt := 184) dX7_doer_298 (by decide) ?_
            rw [nI_p1]
            exact fn
          · rw [if_pos (Or.inr (Int32.not_le.mp h_288))] at hT
            have fn := fin (nI p) (by rw [hT]) (by rw [hT])
            refine ev_iload (pc' := 293) dX7_doer_291 rfl rfl ?_
            refine ev_istore (pc' := 295) (ls' := [_, _, _, _, _, _, _]) dX7_doer_293 rfl rfl rfl ?_
            refine ev_iinc (pc' := 298) (ls' := [_, _, _, _, _, _, _]) dX7_doer_295 rfl rfl rfl rfl rfl ?_
            refine ev_goto (tgt := 184) dX7_doer_298 (by decide) ?_
            rw [nI_p1]
            exact fn
      refine ev_iload (pc' := 186) dX7_doer_184 rfl rfl ?_
      refine ev_aload_n (pc' := 187) dX7_doer_186 rfl rfl ?_
      refine ev_getf (pc' := 190) fl_7_262 dX7_doer_187 rfl rfl rfl ?_
      refine ev_icmp_ge (tgt := 301) (pc' := 193) dX7_doer_190 (by decide) rfl (fun h_190 => ?_) (fun h_190 => ?_)
      · exact absurd h_190 (by rw [h37]; exact nI_ge (by omega) (by omega)) --
      · refine ev_aload_n (pc' := 194) dX7_doer_193 rfl rfl ?_
        refine ev_getf (pc' := 197) fl_7_152 dX7_doer_194 rfl rfl rfl ?_
        refine ev_iload (pc' := 199) dX7_doer_197 rfl rfl ?_
        refine ev_iald (pc' := 200) dX7_doer_199 rfl rfl ?_ ?_
        · exact hvp
        rw [ep]
        refine ev_if_eq (tgt := 295) (pc' := 203) dX7_doer_200 (by decide) rfl (fun h_200 => ?_) (fun h_200 => ?_)
        · have fn := stay (Or.inl h_200)
          refine ev_iinc (pc' := 298) (ls' := [_, _, _, _, _, _, _]) dX7_doer_295 rfl rfl rfl rfl rfl ?_
          refine ev_goto (tgt := 184) dX7_doer_298 (by decide) ?_
          rw [nI_p1]
          exact fn
        · refine ev_aload_n (pc' := 204) dX7_doer_203 rfl rfl ?_
          refine ev_iload (pc' := 206) dX7_doer_204 rfl rfl ?_
          refine ev_iload_n (pc' := 207) dX7_doer_206 rfl rfl ?_
          refine ev_cVi2 (pc' := 210) cl_7_336 (m_awakeOf H τ _ y P hy hP h37) dX7_doer_207 rfl rfl rfl rfl ?_
          refine ev_if_ne (tgt := 216) (pc' := 213) dX7_doer_210 (by decide) rfl (fun h_210 => ?_) (fun h_210 => ?_)
          · have hz : ¬ (H 44 p = 0 ∨ m_awk (H 31) (nI p) y P = 0) := fun z => z.elim h_200 h_210
            refine ev_iload (pc' := 218) dX7_doer_216 rfl rfl ?_
            refine ev_iconst (pc' := 219) (v := -1) dX7_doer_218 rfl (by decide) ?_
            refine ev_icmp_eq (tgt := 265) (pc' := 222) dX7_doer_219 (by decide) rfl (fun h_219 => ?_) (fun h_219 => ?_)
            · exact absurd h_219 h1 --
            · refine ev_aload_n (pc' := 223) dX7_doer_222 rfl rfl ?_
              refine ev_getf (pc' := 226) fl_7_152 dX7_doer_223 rfl rfl rfl ?_
              refine ev_iload (pc' := 228) dX7_doer_226 rfl rfl ?_
              refine ev_iald (pc' := 229) dX7_doer_228 rfl rfl ?_ ?_
              · exact hvp
              rw [ep]
              refine ev_aload_n (pc' := 230) dX7_doer_229 rfl rfl ?_
              refine ev_getf (pc' := 233) fl_7_152 dX7_doer_230 rfl rfl rfl ?_
              refine ev_iload (pc' := 235) dX7_doer_233 rfl rfl ?_
              refine ev_iald (pc' := 236) dX7_doer_235 rfl rfl ?_ ?_
              · exact hvq
              rw [eq]
              refine ev_icmp_eq (tgt := 261) (pc' := 239) dX7_doer_236 (by decide) rfl (fun h_236 => ?_) (fun h_236 => ?_)
              · have e := k266 true hz (decide_eq_true ⟨h1, Or.inl h_236⟩).symm
                refine ev_iconst (pc' := 262) (v := 1) dX7_doer_261 rfl (by decide) ?_
                refine ev_goto (tgt := 266) dX7_doer_262 (by decide) ?_
                exact e
              · refine ev_iload (pc' := 241) dX7_doer_239 rfl rfl ?_
                refine ev_if_eq (tgt := 265) (pc' := 244) dX7_doer_241 (by decide) rfl (fun h_241 => ?_) (fun h_241 => ?_)
                · rw [bI_0] at h_241
                  have e := k266 false hz (decide_eq_false (fun z => z.2.elim h_236 (fun z => by rw [h_241] at z; exact absurd z.1 (by decide)))).symm
                  refine ev_iconst (pc' := 266) (v := 0) dX7_doer_265 rfl (by decide) ?_
                  exact e
                · rw [bI_0, Bool.not_eq_false] at h_241
                  refine ev_aload_n (pc' := 245) dX7_doer_244 rfl rfl ?_
                  refine ev_getf (pc' := 248) fl_7_152 dX7_doer_245 rfl rfl rfl ?_
                  refine ev_iload (pc' := 250) dX7_doer_248 rfl rfl ?_
                  refine ev_iald (pc' := 251) dX7_doer_250 rfl rfl ?_ ?_
                  · exact hvp
                  rw [ep]
                  refine ev_aload_n (pc' := 252) dX7_doer_251 rfl rfl ?_
                  refine ev_getf (pc' := 255) fl_7_152 dX7_doer_252 rfl rfl rfl ?_
                  refine ev_iload (pc' := 257) dX7_doer_255 rfl rfl ?_
                  refine ev_iald (pc' := 258) dX7_doer_257 rfl rfl ?_ ?_
                  · exact hvq
                  rw [eq]
                  refine ev_icmp_ge (tgt := 265) (pc' := 261) dX7_doer_258 (by decide) rfl (fun h_258 => ?_) (fun h_258 => ?_)
                  · have e := k266 false hz (decide_eq_false (fun z => z.2.elim h_236 (fun z => absurd z.2 (Int32.not_lt.mpr h_258)))).symm
                    refine ev_iconst (pc' := 266) (v := 0) dX7_doer_265 rfl (by decide) ?_
                    exact e
                  · have e := k266 true hz (decide_eq_true ⟨h1, Or.inr ⟨h_241, Int32.not_le.mp h_258⟩⟩).symm
                    refine ev_iconst (pc' := 262) (v := 1) dX7_doer_261 rfl (by decide) ?_
                    refine ev_goto (tgt := 266) dX7_doer_262 (by decide) ?_
                    exact e
          · have fn := stay (Or.inr h_210)
            refine ev_goto (tgt := 295) dX7_doer_213 (by decide) ?_
            refine ev_iinc (pc' := 298) (ls' := [_, _, _, _, _, _, _]) dX7_doer_295 rfl rfl rfl rfl rfl ?_
            refine ev_goto (tgt := 184) dX7_doer_298 (by decide) ?_
            rw [nI_p1]
            exact fn
