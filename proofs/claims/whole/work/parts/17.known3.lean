/-! The papers as known, third part: why a paper is void, what follows from it, learn. -/
abbrev lw (σ : RS) : RS := fun k => if k = 8 then σ 8 else σ (22 + k)
theorem PK_law (σ : RS) (g : Nat → Int32) : Part (WK σ g) [22, 23, 24, 25, 26, 27, 28, 29, 8] (ρo [22, 23, 24, 25, 26, 27, 28, 29, 8]) (WLV (lw σ) g) := Part.of _ rfl rfl rfl
theorem kK_first {d : Nat} (σ : RS) (g : Nat → Int32) (gr : Int32) (m : Nat) (h : lz_ok (lw σ) m) : Ok (d + 3) M2_firstThatHolds [.ref 22, .int gr, .ref 8] (WK σ g) (rt (some (.int (lz_first (lw σ) gr m 0 g).1)) (WK σ (lz_first (lw σ) gr m 0 g).2)) := Ok.wr (k_firstThatHolds (lw σ) gr m h g) (PK_law σ g) rfl rfl rfl
theorem kK_growth_none {d : Nat} (σ : RS) (g : Nat → Int32) : Ok d M2_growth [.ref 22, .int (-1), .ref 8] (WK σ g) (rt (some (.int 11)) (WK σ g)) := Ok.wr (k_growth_none (lw σ) g) (PK_law σ g) rfl rfl rfl
theorem kK_growth {d : Nat} (σ : RS) (g : Nat → Int32) (m r : Nat) (h : lz_ok (lw σ) m) (hr : r < m) : Ok (d + 2) M2_growth [.ref 22, .int (nI r), .ref 8] (WK σ g) (rt (some (.int (lz_grow (lw σ) r g).1)) (WK σ (lz_grow (lw σ) r g).2)) := Ok.wr (k_growth (lw σ) g m r h hr) (PK_law σ g) rfl rfl rfl
theorem lz_first_res (σ : RS) (gr : Int32) : ∀ (c r : Nat) (g : Nat → Int32), (lz_first σ gr c r g).1 = -1 ∨ ∃ k, r ≤ k ∧ k < r + c ∧ (lz_first σ gr c r g).1 = nI k := by
  intro c
  induction c with
  | zero => intro r g; exact Or.inl rfl
  | succ c ih =>
    intro r g
    have step : ∀ g', (lz_first σ gr c (r + 1) g').1 = -1 ∨ ∃ k, r ≤ k ∧ k < r + (c + 1) ∧ (lz_first σ gr c (r + 1) g').1 = nI k := by
      intro g'
      rcases ih (r + 1) g' with h | ⟨k, h1, h2, h3⟩
      · exact Or.inl h
      · exact Or.inr ⟨k, by omega, by omega, h3⟩
    rw [lz_first]
    split
    · split
      · exact Or.inr ⟨r, Nat.le_refl _, by omega, rfl⟩
      · exact step _
    · exact step _
def kn_why (σ : RS) (k n m : Nat) (x : Int32) (g : Nat → Int32) : Int32 × RS × (Nat → Int32) :=
  if atF 120 (σ 1) x = 1 then (1, σ, g)
  else if b_kind (bk σ) x = 2 then (0, σ, g)
  else if ¬ kn_hold (σ 4) (σ 6) (kn_leaf σ x) (atF 120 (σ 15) x) k = atF 120 (σ 14) x then (2, σ, g)
  else if atF 120 (σ 16) x ≤ atF 120 (σ 13) x then (3, σ, g)
  else if b_kind (bk σ) x = 1 then (if kn_debt σ (nI k) (atF 120 (σ 14) x) (atF 120 (σ 17) x) = 0 then 5 else 0, σ, g)
  else (if (lz_first (lw (kn_vars σ k n x)) 0 m 0 g).1 = -1 then 0 else 4, s1 (kn_vars σ k n x) 2 (putF 120 (σ 2) x (lz_first (lw (kn_vars σ k n x)) 0 m 0 g).1), (lz_first (lw (kn_vars σ k n x)) 0 m 0 g).2)
theorem k_whyVoid {d : Nat} (σ : RS) (g : Nat → Int32) (k n m : Nat) (x : Int32) (hk : k ≤ 120) (hn : n ≤ 120) (h11 : σ 0 11 = nI n) (hm : lz_ok (lw σ) m) : Ok (d + 4) M1_whyVoid [.ref 0, .int (nI k), .int x, .ref 22] (WK σ g) (rt (some (.int (kn_why σ k n m x g).1)) (WK (kn_why σ k n m x g).2.1 (kn_why σ k n m x g).2.2)) := by
  obtain ⟨T, hT⟩ : ∃ T, T = kn_why σ k n m x g := ⟨_, rfl⟩
  rw [← hT]
  unfold kn_why at hT
  refine Ok.of (ls := [some _, some _, some _, some _, none]) (by decide +kernel) (Nat.le_of_ble_eq_true rfl) rfl ?_
  refine ev_aload_n (pc' := 1) dX1_whyVoid_0 rfl rfl ?_
  refine ev_iload_n (pc' := 2) dX1_whyVoid_1 rfl rfl ?_
  refine ev_cVi1 (pc' := 5) cl_1_95 (k_reasonOf _ _ _) dX1_whyVoid_2 rfl rfl rfl rfl ?_
  refine ev_iconst (pc' := 6) (v := 1) dX1_whyVoid_5 rfl (by decide) ?_
  refine ev_icmp_ne (tgt := 11) (pc' := 9) dX1_whyVoid_6 (by decide) rfl (fun h_6 => ?_) (fun h_6 => ?_)
  · rw [if_neg h_6] at hT
    refine ev_aload_n (pc' := 12) dX1_whyVoid_11 rfl rfl ?_
    refine ev_getf (pc' := 15) fl_1_49 dX1_whyVoid_12 rfl rfl rfl ?_
    refine ev_iload_n (pc' := 16) dX1_whyVoid_15 rfl rfl ?_
    refine ev_cVi1 (pc' := 19) cl_1_164 (kK_kindOf _ _ _) dX1_whyVoid_16 rfl rfl rfl rfl ?_
    refine ev_iconst (pc' := 20) (v := 2) dX1_whyVoid_19 rfl (by decide) ?_
    refine ev_icmp_ne (tgt := 25) (pc' := 23) dX1_whyVoid_20 (by decide) rfl (fun h_20 => ?_) (fun h_20 => ?_)
    · rw [if_neg h_20] at hT
      refine ev_aload_n (pc' := 26) dX1_whyVoid_25 rfl rfl ?_
      refine ev_iload_n (pc' := 27) dX1_whyVoid_26 rfl rfl ?_
      refine ev_aload_n (pc' := 28) dX1_whyVoid_27 rfl rfl ?_
      refine ev_iload_n (pc' := 29) dX1_whyVoid_28 rfl rfl ?_
      refine ev_cVi1 (pc' := 32) cl_1_75 (k_leafOf _ _ _) dX1_whyVoid_29 rfl rfl rfl rfl ?_
      refine ev_aload_n (pc' := 33) dX1_whyVoid_32 rfl rfl ?_
      refine ev_getf (pc' := 36) fl_1_49 dX1_whyVoid_33 rfl rfl rfl ?_
      refine ev_iload_n (pc' := 37) dX1_whyVoid_36 rfl rfl ?_
      refine ev_cVi1 (pc' := 40) cl_1_167 (kK_thingOf _ _ _) dX1_whyVoid_37 rfl rfl rfl rfl ?_
      refine ev_cVi3 (pc' := 43) cl_1_102 (k_holderBefore _ _ _ _ k hk) dX1_whyVoid_40 rfl rfl rfl rfl ?_
      refine ev_aload_n (pc' := 44) dX1_whyVoid_43 rfl rfl ?_
      refine ev_getf (pc' := 47) fl_1_49 dX1_whyVoid_44 rfl rfl rfl ?_
      refine ev_iload_n (pc' := 48) dX1_whyVoid_47 rfl rfl ?_
      refine ev_cVi1 (pc' := 51) cl_1_79 (kK_oneOf _ _ _) dX1_whyVoid_48 rfl rfl rfl rfl ?_
      refine ev_icmp_eq (tgt := 56) (pc' := 54) dX1_whyVoid_51 (by decide) rfl (fun h_51 => ?_) (fun h_51 => ?_)
      · rw [if_neg (fun z => z h_51)] at hT
        refine ev_aload_n (pc' := 57) dX1_whyVoid_56 rfl rfl ?_
        refine ev_getf (pc' := 60) fl_1_49 dX1_whyVoid_57 rfl rfl rfl ?_
        refine ev_iload_n (pc' := 61) dX1_whyVoid_60 rfl rfl ?_
        refine ev_cVi1 (pc' := 64) cl_1_142 (kK_dayOf _ _ _) dX1_whyVoid_61 rfl rfl rfl rfl ?_
        refine ev_aload_n (pc' := 65) dX1_whyVoid_64 rfl rfl ?_
        refine ev_getf (pc' := 68) fl_1_49 dX1_whyVoid_65 rfl rfl rfl ?_
        refine ev_iload_n (pc' := 69) dX1_whyVoid_68 rfl rfl ?_
        refine ev_cVi1 (pc' := 72) cl_1_113 (kK_madeOn _ _ _) dX1_whyVoid_69 rfl rfl rfl rfl ?_
        refine ev_icmp_gt (tgt := 77) (pc' := 75) dX1_whyVoid_72 (by decide) rfl (fun h_72 => ?_) (fun h_72 => ?_)
        · rw [if_neg (Int32.not_le.mpr h_72)] at hT
          refine ev_aload_n (pc' := 78) dX1_whyVoid_77 rfl rfl ?_
          refine ev_getf (pc' := 81) fl_1_49 dX1_whyVoid_78 rfl rfl rfl ?_
          refine ev_iload_n (pc' := 82) dX1_whyVoid_81 rfl rfl ?_
          refine ev_cVi1 (pc' := 85) cl_1_164 (kK_kindOf _ _ _) dX1_whyVoid_82 rfl rfl rfl rfl ?_
          refine ev_iconst (pc' := 86) (v := 1) dX1_whyVoid_85 rfl (by decide) ?_
          refine ev_icmp_ne (tgt := 119) (pc' := 89) dX1_whyVoid_86 (by decide) rfl (fun h_86 => ?_) (fun h_86 => ?_)
          · rw [if_neg h_86] at hT
            refine ev_aload_n (pc' := 120) dX1_whyVoid_119 rfl rfl ?_
            refine ev_iload_n (pc' := 121) dX1_whyVoid_120 rfl rfl ?_
            refine ev_iload_n (pc' := 122) dX1_whyVoid_121 rfl rfl ?_
            refine ev_cVv2 (pc' := 125) cl_1_179 (k_setVars _ _ k n _ hk hn h11) dX1_whyVoid_122 rfl rfl rfl rfl ?_
            refine ev_aload_n (pc' := 126) dX1_whyVoid_125 rfl rfl ?_
            refine ev_iconst (pc' := 127) (v := 0) dX1_whyVoid_126 rfl (by decide) ?_
            refine ev_aload_n (pc' := 128) dX1_whyVoid_127 rfl rfl ?_
            refine ev_getf (pc' := 131) fl_1_33 dX1_whyVoid_128 rfl rfl rfl ?_
            refine ev_cVi2 (pc' := 134) cl_1_182 (kK_first _ _ 0 m hm) dX1_whyVoid_131 rfl rfl rfl rfl ?_
            refine ev_istore (pc' := 136) (ls' := [_, _, _, _, _]) dX1_whyVoid_134 rfl rfl rfl ?_
            refine ev_aload_n (pc' := 137) dX1_whyVoid_136 rfl rfl ?_
            refine ev_getf (pc' := 140) fl_1_15 dX1_whyVoid_137 rfl rfl rfl ?_
            refine ev_iload_n (pc' := 141) dX1_whyVoid_140 rfl rfl ?_
            refine ev_iload (pc' := 143) dX1_whyVoid_141 rfl rfl ?_
            refine ev_cNv3 (pc' := 146) cl_1_71 (k_put rfl (by decide) (WK_a2 _ _ _)) dX1_whyVoid_143 rfl rfl ?_
            refine ev_iload (pc' := 148) dX1_whyVoid_146 rfl rfl ?_
            refine ev_iconst (pc' := 149) (v := -1) dX1_whyVoid_148 rfl (by decide) ?_
            refine ev_icmp_ne (tgt := 156) (pc' := 152) dX1_whyVoid_149 (by decide) rfl (fun h_149 => ?_) (fun h_149 => ?_)
            · have h149 : ¬ (lz_first (lw (kn_vars σ k n x)) 0 m 0 g).1 = -1 := h_149
              rw [if_neg h149] at hT
              refine ev_iconst (pc' := 157) (v := 4) dX1_whyVoid_156 rfl (by decide) ?_
              refine ev_ireturn rfl dX1_whyVoid_157 ?_
              rw [hT]
              exact ⟨rfl, rfl⟩
            · have h149 : (lz_first (lw (kn_vars σ k n x)) 0 m 0 g).1 = -1 := h_149
              rw [if_pos h149] at hT
              refine ev_iconst (pc' := 153) (v := 0) dX1_whyVoid_152 rfl (by decide) ?_
              refine ev_goto (tgt := 157) dX1_whyVoid_153 (by decide) ?_
              refine ev_ireturn rfl dX1_whyVoid_157 ?_
              rw [hT]
              exact ⟨rfl, rfl⟩
          · rw [if_pos h_86] at hT
            refine ev_aload_n (pc' := 90) dX1_whyVoid_89 rfl rfl ?_
            refine ev_iload_n (pc' := 91) dX1_whyVoid_90 rfl rfl ?_
            refine ev_aload_n (pc' := 92) dX1_whyVoid_91 rfl rfl ?_
            refine ev_getf (pc' := 95) fl_1_49 dX1_whyVoid_92 rfl rfl rfl ?_
            refine ev_iload_n (pc' := 96) dX1_whyVoid_95 rfl rfl ?_
            refine ev_cVi1 (pc' := 99) cl_1_79 (kK_oneOf _ _ _) dX1_whyVoid_96 rfl rfl rfl rfl ?_
            refine ev_aload_n (pc' := 100) dX1_whyVoid_99 rfl rfl ?_
            refine ev_getf (pc' := 103) fl_1_49 dX1_whyVoid_100 rfl rfl rfl ?_
            refine ev_iload_n (pc' := 104) dX1_whyVoid_103 rfl rfl ?_
            refine ev_cVi1 (pc' := 107) cl_1_84 (kK_otherOf _ _ _) dX1_whyVoid_104 rfl rfl rfl rfl ?_
            refine ev_cVi3 (pc' := 110) cl_1_119 (k_debt _ _ _ _ _) dX1_whyVoid_107 rfl rfl rfl rfl ?_
            refine ev_if_ne (tgt := 117) (pc' := 113) dX1_whyVoid_110 (by decide) rfl (fun h_110 => ?_) (fun h_110 => ?_)
            · rw [if_neg h_110] at hT
              refine ev_iconst (pc' := 118) (v := 0) dX1_whyVoid_117 rfl (by decide) ?_
              refine ev_ireturn rfl dX1_whyVoid_118 ?_
              rw [hT]
              exact ⟨rfl, rfl⟩
            · rw [if_pos h_110] at hT
              refine ev_iconst (pc' := 114) (v := 5) dX1_whyVoid_113 rfl (by decide) ?_
              refine ev_goto (tgt := 118) dX1_whyVoid_114 (by decide) ?_
              refine ev_ireturn rfl dX1_whyVoid_118 ?_
              rw [hT]
              exact ⟨rfl, rfl⟩
        · rw [if_pos (Int32.not_lt.mp h_72)] at hT
          refine ev_iconst (pc' := 76) (v := 3) dX1_whyVoid_75 rfl (by decide) ?_
          refine ev_ireturn rfl dX1_whyVoid_76 ?_
          rw [hT]
          exact ⟨rfl, rfl⟩
      · rw [if_pos h_51] at hT
        refine ev_iconst (pc' := 55) (v := 2) dX1_whyVoid_54 rfl (by decide) ?_
        refine ev_ireturn rfl dX1_whyVoid_55 ?_
        rw [hT]
        exact ⟨rfl, rfl⟩
    · rw [if_pos h_20] at hT
      refine ev_iconst (pc' := 24) (v := 0) dX1_whyVoid_23 rfl (by decide) ?_
      refine ev_ireturn rfl dX1_whyVoid_24 ?_
      rw [hT]
      exact ⟨rfl, rfl⟩
  · rw [if_pos h_6] at hT
    refine ev_iconst (pc' := 10) (v := 1) dX1_whyVoid_9 rfl (by decide) ?_
    refine ev_ireturn rfl dX1_whyVoid_10 ?_
    rw [hT]
    exact ⟨rfl, rfl⟩
abbrev rg (σ : RS) : RS := fun k => σ (18 + k)
abbrev rgd (σ : RS) : RS := fun k => if k = 4 then σ 7 else σ (18 + k)
def rgp (σ τ : RS) : RS := fun k => if 18 ≤ k ∧ k ≤ 21 then τ (k - 18) else σ k
theorem rgp_ne (σ τ : RS) {k : Nat} (h : k < 18 ∨ 21 < k) : rgp σ τ k = σ k := if_neg (by omega)
theorem PK_rings (σ : RS) (g : Nat → Int32) : Part (WK σ g) [18, 19, 20, 21] (ρo [18, 19, 20, 21]) (WR (rg σ)) := Part.of _ rfl rfl rfl
theorem PK_rd (σ : RS) (g : Nat → Int32) : Part (WK σ g) [18, 19, 20, 21, 7] (ρo [18, 19, 20, 21, 7]) (WRD (rgd σ)) := Part.of _ rfl rfl rfl
theorem PK_rput (σ τ : RS) (g : Nat → Int32) : wput (WK σ g) [18, 19, 20, 21] ((WR τ).map (renE (ρo [18, 19, 20, 21]))) = WK (rgp σ τ) g := rfl
theorem kK_load {d : Nat} (σ : RS) (g : Nat → Int32) (k : Nat) (hk : k + 64 ≤ 7744) : Ok d M5_load [.ref 18, .ref 7, .int (nI k)] (WK σ g) (rt none (WK (s1 σ 19 (va_cpy (σ 7) (σ 19) k 0 64)) g)) := Ok.wr (r_load (rgd σ) k hk) (PK_rd σ g) rfl rfl rfl
theorem kK_store {d : Nat} (σ : RS) (g : Nat → Int32) (k : Nat) (hk : k + 64 ≤ 7744) : Ok d M5_store [.ref 18, .ref 7, .int (nI k)] (WK σ g) (rt none (WK (s1 σ 7 (va_cpy (σ 19) (σ 7) 0 k 64)) g)) := Ok.wr (r_store (rgd σ) k hk) (PK_rd σ g) rfl rfl rfl
theorem kK_meetAll {d : Nat} (σ : RS) (g : Nat → Int32) : Ok (d + 17) M5_meetAll [.ref 18] (WK σ g) (rt none (WK (rgp σ (r_meet 64 (rg σ))) g)) := Ok.wr (k_meetAll (rg σ)) (PK_rings σ g) rfl rfl (PK_rput σ _ g)
theorem kK_findFirst {d : Nat} (σ : RS) (g : Nat → Int32) : Ok (d + 16) M5_findFirst [.ref 18] (WK σ g) (rt (some (.int (bI (decide (0 < (r_find (rg σ)) 0 4))))) (WK (rgp σ (r_find (rg σ))) g)) := Ok.wr (k_findFirst (rg σ)) (PK_rings σ g) rfl rfl (PK_rput σ _ g)
theorem kK_sumOfAll {d : Nat} (σ : RS) (g : Nat → Int32) : Ok d M5_sumOfAll [.ref 18] (WK σ g) (rt (some (.int (sumTo (σ 19) 64))) (WK σ g)) := Ok.ro (r_sumOfAll (rg σ)) (PK_rings σ g) rfl rfl
def kn_loaded (σ : RS) (row : Nat) : RS := s1 σ 19 (va_cpy (σ 7) (σ 19) (row * 64) 0 64)
def kn_met (σ : RS) (row : Nat) : RS := rgp (kn_loaded σ row) (r_meet 64 (rg (kn_loaded σ row)))
def kn_fMeet (σ : RS) (row : Nat) : RS := s1 (kn_met σ row) 7 (va_cpy (kn_met σ row 19) (kn_met σ row 7) 0 (row * 64) 64)
def kn_fPay (σ : RS) (row : Nat) (x : Int32) : RS :=
  let dv := kn_debt σ (nI row) (atF 120 (σ 14) x) (atF 120 (σ 17) x) - 10
  s1 σ 7 (putF 7744 (σ 7) (nI row * 64 + atF 120 (σ 14) x * 8 + atF 120 (σ 17) x) (if 0 < dv then dv else 0))
def kn_more (σ : RS) (m : Nat) (g : Nat → Int32) : Int32 × (Nat → Int32) :=
  if (lz_first (lw σ) 1 m 0 g).1 = -1 then (11, (lz_first (lw σ) 1 m 0 g).2) else lz_grow (lw σ) (lz_first (lw σ) 1 m 0 g).1.toNatClampNeg (lz_first (lw σ) 1 m 0 g).2
def kn_fLoan (σ : RS) (row m : Nat) (x : Int32) (g : Nat → Int32) : RS :=
  s1 (s1 σ 2 (putF 120 (σ 2) x (lz_first (lw σ) 1 m 0 g).1)) 7 (putF 7744 (σ 7) (nI row * 64 + atF 120 (σ 17) x * 8 + atF 120 (σ 14) x) (kn_debt σ (nI row) (atF 120 (σ 17) x) (atF 120 (σ 14) x) + (kn_more σ m g).1))
def kn_follow (σ : RS) (row m : Nat) (x : Int32) (g : Nat → Int32) : RS × (Nat → Int32) :=
  if b_kind (bk σ) x = 2 then (kn_fMeet σ row, g) else if b_kind (bk σ) x = 1 then (kn_fPay σ row x, g) else (kn_fLoan σ row m x g, (kn_more σ m g).2)
theorem kK_growthF {d : Nat} (σ : RS) (g : Nat → Int32) (m : Nat) (h : lz_ok (lw σ) m) : Ok (d + 2) M2_growth [.ref 22, .int (lz_first (lw σ) 1 m 0 g).1, .ref 8] (WK σ (lz_first (lw σ) 1 m 0 g).2) (rt (some (.int (kn_more σ m g).1)) (WK σ (kn_more σ m g).2)) := by
  unfold kn_more
  rcases lz_first_res (lw σ) 1 m 0 g with h1 | ⟨k, -, h2, h3⟩
  · rw [if_pos h1, h1]
    exact kK_growth_none σ _
  · have hm := h.2.1
    rw [if_neg (by rw [h3]; intro z; exact absurd (nI_pos (n := k) (by omega)) (by rw [z]; decide)), h3, nI_clamp (by omega)]
    exact kK_growth σ _ m k h (by omega)
theorem k_follow {d : Nat} (σ : RS) (g : Nat → Int32) (row m : Nat) (x : Int32) (hr : row ≤ 120) (hm : lz_ok (lw σ) m) : Ok (d + 18) M1_follow [.ref 0, .int (nI row), .int x, .ref 22] (WK σ g) (rt none (WK (kn_follow σ row m x g).1 (kn_follow σ row m x g).2)) := by
  have m1 : nI row * 64 = nI (row * 64) := nI_mul row 64
  obtain ⟨T, hT⟩ : ∃ T, T = kn_follow σ row m x g := ⟨_, rfl⟩
  rw [← hT]
  unfold kn_follow at hT
  refine Ok.of (ls := [some _, some _, some _, some _, none, none, none, none]) (by decide +kernel) (Nat.le_of_ble_eq_true rfl) rfl ?_
  refine ev_aload_n (pc' := 1) dX1_follow_0 rfl rfl ?_
  refine ev_getf (pc' := 4) fl_1_49 dX1_follow_1 rfl rfl rfl ?_
  refine ev_iload_n (pc' := 5) dX1_follow_4 rfl rfl ?_
  refine ev_cVi1 (pc' := 8) cl_1_79 (kK_oneOf _ _ _) dX1_follow_5 rfl rfl rfl rfl ?_
  refine ev_istore (pc' := 10) (ls' := [_, _, _, _, _, _, _, _]) dX1_follow_8 rfl rfl rfl ?_
  refine ev_aload_n (pc' := 11) dX1_follow_10 rfl rfl ?_
  refine ev_getf (pc' := 14) fl_1_49 dX1_follow_11 rfl rfl rfl ?_
  refine ev_iload_n (pc' := 15) dX1_follow_14 rfl rfl ?_
  refine ev_cVi1 (pc' := 18) cl_1_84 (kK_otherOf _ _ _) dX1_follow_15 rfl rfl rfl rfl ?_
  refine ev_istore (pc' := 20) (ls' := [_, _, _, _, _, _, _, _]) dX1_follow_18 rfl rfl rfl ?_
  refine ev_aload_n (pc' := 21) dX1_follow_20 rfl rfl ?_
  refine ev_getf (pc' := 24) fl_1_49 dX1_follow_21 rfl rfl rfl ?_
  refine ev_iload_n (pc' := 25) dX1_follow_24 rfl rfl ?_
  refine ev_cVi1 (pc' := 28) cl_1_164 (kK_kindOf _ _ _) dX1_follow_25 rfl rfl rfl rfl ?_
  refine ev_case (c := 1) (fun h_28_1 => ?_) (fun h_28_1 => ?_)
  · refine ev_lookup (off := 68) (tgt := 96) dX1_follow_28 (by decide) (by decide) (by decide) ?_
    rw [if_neg (show ¬ b_kind (bk σ) x = 2 by rw [show b_kind (bk σ) x = 1 from h_28_1]; decide), if_pos h_28_1] at hT
    refine ev_aload_n (pc' := 97) dX1_follow_96 rfl rfl ?_
    refine ev_getf (pc' := 100) fl_1_30 dX1_follow_97 rfl rfl rfl ?_
    refine ev_iload_n (pc' := 101) dX1_follow_100 rfl rfl ?_
    refine ev_iload (pc' := 103) dX1_follow_101 rfl rfl ?_
    refine ev_iload (pc' := 105) dX1_follow_103 rfl rfl ?_
    refine ev_cSi3 (pc' := 108) cl_1_116 (k_cell _ _ _ _) dX1_follow_105 rfl rfl ?_
    refine ev_iconst (pc' := 109) (v := 0) dX1_follow_108 rfl (by decide) ?_
    refine ev_aload_n (pc' := 110) dX1_follow_109 rfl rfl ?_
    refine ev_iload_n (pc' := 111) dX1_follow_110 rfl rfl ?_
    refine ev_iload (pc' := 113) dX1_follow_111 rfl rfl ?_
    refine ev_iload (pc' := 115) dX1_follow_113 rfl rfl ?_
    refine ev_cVi3 (pc' := 118) cl_1_119 (k_debt _ _ _ _ _) dX1_follow_115 rfl rfl rfl rfl ?_
    refine ev_bipush (pc' := 120) (v := 10) dX1_follow_118 rfl (by decide) ?_
    refine ev_isub (pc' := 121) dX1_follow_120 rfl ?_
    refine ev_mmax (pc' := 124) pw_1_201 dX1_follow_121 rfl rfl ?_
    refine ev_cNv3 (pc' := 127) cl_1_71 (k_put rfl (by decide) (WK_a7 _ _ _)) dX1_follow_124 rfl rfl ?_
    refine ev_goto (tgt := 190) dX1_follow_127 (by decide) ?_
    refine ev_return rfl dX1_follow_190 ?_
    rw [hT]
    exact ⟨rfl, rfl⟩
  refine ev_case (c := 2) (fun h_28_2 => ?_) (fun h_28_2 => ?_)
  · refine ev_lookup (off := 28) (tgt := 56) dX1_follow_28 (by decide) (by decide) (by decide) ?_
    rw [if_pos h_28_2] at hT
    refine ev_aload_n (pc' := 57) dX1_follow_56 rfl rfl ?_
    refine ev_getf (pc' := 60) fl_1_53 dX1_follow_57 rfl rfl rfl ?_
    refine ev_aload_n (pc' := 61) dX1_follow_60 rfl rfl ?_
    refine ev_getf (pc' := 64) fl_1_30 dX1_follow_61 rfl rfl rfl ?_
    refine ev_iload_n (pc' := 65) dX1_follow_64 rfl rfl ?_
    refine ev_bipush (pc' := 67) (v := 64) dX1_follow_65 rfl (by decide) ?_
    refine ev_imul (pc' := 68) dX1_follow_67 rfl ?_
    rw [m1]
    refine ev_cVv2 (pc' := 71) cl_1_125 (kK_load _ _ _ (by omega)) dX1_follow_68 rfl rfl rfl rfl ?_
    refine ev_aload_n (pc' := 72) dX1_follow_71 rfl rfl ?_
    refine ev_getf (pc' := 75) fl_1_53 dX1_follow_72 rfl rfl rfl ?_
    refine ev_cVv0 (pc' := 78) cl_1_135 (kK_meetAll _ _) dX1_follow_75 rfl rfl rfl rfl ?_
    refine ev_aload_n (pc' := 79) dX1_follow_78 rfl rfl ?_
    refine ev_getf (pc' := 82) fl_1_53 dX1_follow_79 rfl rfl rfl ?_
    refine ev_aload_n (pc' := 83) dX1_follow_82 rfl rfl ?_
    refine ev_getf (pc' := 86) fl_1_30 dX1_follow_83 rfl rfl rfl ?_
    refine ev_iload_n (pc' := 87) dX1_follow_86 rfl rfl ?_
    refine ev_bipush (pc' := 89) (v := 64) dX1_follow_87 rfl (by decide) ?_
    refine ev_imul (pc' := 90) dX1_follow_89 rfl ?_
    rw [m1]
    refine ev_cVv2 (pc' := 93) cl_1_198 (kK_store _ _ _ (by omega)) dX1_follow_90 rfl rfl rfl rfl ?_
    refine ev_goto (tgt := 190) dX1_follow_93 (by decide) ?_
    refine ev_return rfl dX1_follow_190 ?_
    rw [hT]
    exact ⟨rfl, rfl⟩
  refine ev_lookup (off := 102) (tgt := 130) dX1_follow_28 (by decide) (by simp only [fa_eq, Int32.reduceToInt] at h_28_1 h_28_2; exact lk_out (by simp <;> omega)) (by decide) ?_
  rw [if_neg h_28_2, if_neg h_28_1] at hT
  refine ev_aload_n (pc' := 131) dX1_follow_130 rfl rfl ?_
  refine ev_iconst (pc' := 132) (v := 1) dX1_follow_131 rfl (by decide) ?_
  refine ev_aload_n (pc' := 133) dX1_follow_132 rfl rfl ?_
  refine ev_getf (pc' := 136) fl_1_33 dX1_follow_133 rfl rfl rfl ?_
  refine ev_cVi2 (pc' := 139) cl_1_182 (kK_first _ _ 1 m hm) dX1_follow_136 rfl rfl rfl rfl ?_
  refine ev_istore (pc' := 141) (ls' := [_, _, _, _, _, _, _, _]) dX1_follow_139 rfl rfl rfl ?_
  refine ev_aload_n (pc' := 142) dX1_follow_141 rfl rfl ?_
  refine ev_iload (pc' := 144) dX1_follow_142 rfl rfl ?_
  refine ev_aload_n (pc' := 145) dX1_follow_144 rfl rfl ?_
  refine ev_getf (pc' := 148) fl_1_33 dX1_follow_145 rfl rfl rfl ?_
  refine ev_cVi2 (pc' := 151) cl_1_206 (kK_growthF σ g m hm) dX1_follow_148 rfl rfl rfl rfl ?_
  refine ev_istore (pc' := 153) (ls' := [_, _, _, _, _, _, _, _]) dX1_follow_151 rfl rfl rfl ?_
  refine ev_aload_n (pc' := 154) dX1_follow_153 rfl rfl ?_
  refine ev_getf (pc' := 157) fl_1_15 dX1_follow_154 rfl rfl rfl ?_
  refine ev_iload_n (pc' := 158) dX1_follow_157 rfl rfl ?_
  refine ev_iload (pc' := 160) dX1_follow_158 rfl rfl ?_
  refine ev_cNv3 (pc' := 163) cl_1_71 (k_put rfl (by decide) (WK_a2 _ _ _)) dX1_follow_160 rfl rfl ?_
  refine ev_aload_n (pc' := 164) dX1_follow_163 rfl rfl ?_
  refine ev_getf (pc' := 167) fl_1_30 dX1_follow_164 rfl rfl rfl ?_
  refine ev_iload_n (pc' := 168) dX1_follow_167 rfl rfl ?_
  refine ev_iload (pc' := 170) dX1_follow_168 rfl rfl ?_
  refine ev_iload (pc' := 172) dX1_follow_170 rfl rfl ?_
  refine ev_cSi3 (pc' := 175) cl_1_116 (k_cell _ _ _ _) dX1_follow_172 rfl rfl ?_
  refine ev_aload_n (pc' := 176) dX1_follow_175 rfl rfl ?_
  refine ev_iload_n (pc' := 177) dX1_follow_176 rfl rfl ?_
  refine ev_iload (pc' := 179) dX1_follow_177 rfl rfl ?_
  refine ev_iload (pc' := 181) dX1_follow_179 rfl rfl ?_
  refine ev_cVi3 (pc' := 184) cl_1_119 (k_debt _ _ _ _ _) dX1_follow_181 rfl rfl rfl rfl ?_
  refine ev_iload (pc' := 186) dX1_follow_184 rfl rfl ?_
  refine ev_iadd (pc' := 187) dX1_follow_186 rfl ?_
  refine ev_cNv3 (pc' := 190) cl_1_71 (k_put rfl (by decide) (WK_a7 _ _ _)) dX1_follow_187 rfl rfl ?_
  refine ev_return rfl dX1_follow_190 ?_
  rw [hT]
  exact ⟨rfl, rfl⟩
/-- one paper more is held -/
def kn_lrn1 (σ0 : RS) (k n m : Nat) (g : Nat → Int32) : RS × (Nat → Int32) :=
  let x := σ0 3 k
  let w := kn_why σ0 k n m x g
  let σ1 := s1 w.2.1 1 (putF 120 (w.2.1 1) x w.1)
  let σ2 := s1 σ1 4 (putF 120 (σ1 4) (nI k) (if w.1 = 0 then kn_leaf σ1 x else -1))
  let σ3 := s1 σ2 5 (putF 120 (σ2 5) (nI k) (atF 120 (σ2 14) x))
  let σ4 := s1 σ3 6 (putF 120 (σ3 6) (nI k) (atF 120 (σ3 17) x))
  let σ5 := s1 σ4 7 (va_cpy (σ4 7) (σ4 7) (k * 64) ((k + 1) * 64) 64)
  if w.1 = 0 then kn_follow σ5 (k + 1) m x w.2.2 else (σ5, w.2.2)
def kn_lrn (n m : Nat) : Nat → Nat → RS × (Nat → Int32) → RS × (Nat → Int32)
  | 0, _, s => s
  | c + 1, k, s => kn_lrn n m c (k + 1) (kn_lrn1 s.1 k n m s.2)
/-- what stays while papers are held: first, size, order, the book, the law (but its stack) -/
def kn_same (σ τ : RS) : Prop := τ 0 = σ 0 ∧ τ 3 = σ 3 ∧ (∀ j, 10 ≤ j → j < 18 → τ j = σ j) ∧ ∀ j, 22 ≤ j → τ j = σ j
theorem kn_same.s1 {σ τ : RS} (h : kn_same σ τ) {c : Nat} (hc : c = 1 ∨ c = 2 ∨ (4 ≤ c ∧ c < 10) ∨ (18 ≤ c ∧ c < 22)) (f : Nat → Int32) : kn_same σ (s1 τ c f) := by
  obtain ⟨h1, h2, h3, h4⟩ := h
  exact ⟨by rw [s1_ne _ _ (by omega)]; exact h1, by rw [s1_ne _ _ (by omega)]; exact h2, fun j a b => by rw [s1_ne _ _ (by omega)]; exact h3 j a b, fun j a => by rw [s1_ne _ _ (by omega)]; exact h4 j a⟩
theorem kn_same.refl (σ : RS) : kn_same σ σ := ⟨rfl, rfl, fun _ _ _ => rfl, fun _ _ => rfl⟩
theorem kn_why_same {σ τ : RS} (h : kn_same σ τ) (k n m : Nat) (x : Int32) (g : Nat → Int32) : kn_same σ (kn_why τ k n m x g).2.1 := by
  unfold kn_why
  iterate 5 (split; · exact h)
  exact (h.s1 (c := 8) (by omega) _).s1 (c := 2) (by omega) _
theorem kn_follow_same {σ τ : RS} (h : kn_same σ τ) (row m : Nat) (x : Int32) (g : Nat → Int32) : kn_same σ (kn_follow τ row m x g).1 := by
  unfold kn_follow
  split
  · have h2 : kn_same σ (kn_met τ row) := by
      have h1 := h.s1 (c := 19) (by omega) (va_cpy (τ 7) (τ 19) (row * 64) 0 64)
      obtain ⟨a1, a2, a3, a4⟩ := h1
      unfold kn_met
      exact ⟨by rw [rgp_ne _ _ (by omega)]; exact a1, by rw [rgp_ne _ _ (by omega)]; exact a2, fun j a b => by rw [rgp_ne _ _ (by omega)]; exact a3 j a b, fun j a => by rw [rgp_ne _ _ (by omega)]; exact a4 j a⟩
    exact h2.s1 (c := 7) (by omega) _
  · split
    · exact h.s1 (c := 7) (by omega) _
    · exact (h.s1 (c := 2) (by omega) _).s1 (c := 7) (by omega) _
theorem kn_lrn1_same {σ τ : RS} (h : kn_same σ τ) (k n m : Nat) (g : Nat → Int32) : kn_same σ (kn_lrn1 τ k n m g).1 := by
  have h1 : kn_same σ (kn_why τ k n m (τ 3 k) g).2.1 := kn_why_same h _ _ _ _ _
  unfold kn_lrn1
  dsimp only
  have h5 := ((((h1.s1 (c := 1) (by omega) (putF 120 ((kn_why τ k n m (τ 3 k) g).2.1 1) (τ 3 k) (kn_why τ k n m (τ 3 k) g).1))))) 
  split
  · refine kn_follow_same ?_ _ _ _ _
    exact (((h5.s1 (c := 4) (by omega) _).s1 (c := 5) (by omega) _).s1 (c := 6) (by omega) _).s1 (c := 7) (by omega) _
  · exact (((h5.s1 (c := 4) (by omega) _).s1 (c := 5) (by omega) _).s1 (c := 6) (by omega) _).s1 (c := 7) (by omega) _
theorem kn_same.law {σ τ : RS} (h : kn_same σ τ) {m : Nat} (hm : lz_ok (lw σ) m) : lz_ok (lw τ) m := by
  have e : ∀ j, j ≠ 8 → lw τ j = lw σ j := fun j hj => by
    show (if j = 8 then τ 8 else τ (22 + j)) = (if j = 8 then σ 8 else σ (22 + j))
    rw [if_neg hj, if_neg hj, h.2.2.2 _ (by omega)]
  unfold lz_ok at hm ⊢
  rw [e 0 (by omega), e 4 (by omega), e 5 (by omega), e 6 (by omega)]
  exact hm
theorem k_learn_loop {d : Nat} (σ0 : RS) (n m z : Nat) (hn : n ≤ 120) (hz : z ≤ 120) (h11 : σ0 0 11 = nI n) (h13 : σ0 0 13 = nI z) (hm : lz_ok (lw σ0) m) (x1 x2 : Int32) : ∀ (c k : Nat) (σ : RS) (g : Nat → Int32) (z5 z6 : Option Value), k + c = z → kn_same σ0 σ → Ev (d + 19) M1_learn (rt none (WK (kn_lrn n m c k (σ, g)).1 (kn_lrn n m c k (σ, g)).2)) 21 [some (.ref 0), some (.int x1), some (.int x2), some (.ref 22), some (.int (nI k)), z5, z6] [] (WK σ g) := by
  intro c
  induction c with
  | zero =>
    intro k σ g z5 z6 hk hs
    have hk : k = z := by omega
    subst hk
    have e13 : σ 0 13 = nI k := by rw [hs.1]; exact h13
    refine ev_iload (pc' := 23) dX1_learn_21 rfl rfl ?_
    refine ev_aload_n (pc' := 24) dX1_learn_23 rfl rfl ?_
    refine ev_getf (pc' := 27) fl_1_46 dX1_learn_24 rfl rfl rfl ?_
    refine ev_icmp_ge (tgt := 151) (pc' := 30) dX1_learn_27 (by decide) rfl (fun h_27 => ?_) (fun h_27 => ?_)
    · refine ev_return rfl dX1_learn_151 ?_
      exact ⟨rfl, rfl⟩
    · exact absurd (by rw [e13]; exact nI_le (Nat.le_refl _) (by omega)) h_27 --
  | succ c ih =>
    intro k σ g z5 z6 hk hs
    have e13 : σ 0 13 = nI z := by rw [hs.1]; exact h13
    have e11 : σ 0 11 = nI n := by rw [hs.1]; exact h11
    have e3 : atF 120 (σ 3) (nI k) = σ 3 k := atF_nI _ (by omega) (by omega)
    have hm1 : lz_ok (lw σ) m := hs.law hm
    have hs1 := kn_lrn1_same hs k n m g
    rw [kn_lrn]
    obtain ⟨T, hT⟩ : ∃ T, T = kn_lrn1 σ k n m g := ⟨_, rfl⟩
    rw [← hT] at hs1 ⊢
    unfold kn_lrn1 at hT
    dsimp only at hT
    have hw1 : lz_ok (lw (kn_why σ k n m (σ 3 k) g).2.1) m := (kn_why_same hs k n m _ g).law hm
    generalize hW : kn_why σ k n m (σ 3 k) g = W at hT hw1
    have hwv : Ok (d + 18) M1_whyVoid [.ref 0, .int (nI k), .int (σ 3 k), .ref 22] (WK σ g) (rt (some (.int W.1)) (WK W.2.1 W.2.2)) := by
      rw [← hW]
      exact k_whyVoid σ g k n m (σ 3 k) (by omega) hn e11 hm1
    obtain ⟨W1, W2, W3⟩ := W
    refine ev_iload (pc' := 23) dX1_learn_21 rfl rfl ?_
    refine ev_aload_n (pc' := 24) dX1_learn_23 rfl rfl ?_
    refine ev_getf (pc' := 27) fl_1_46 dX1_learn_24 rfl rfl rfl ?_
    refine ev_icmp_ge (tgt := 151) (pc' := 30) dX1_learn_27 (by decide) rfl (fun h_27 => ?_) (fun h_27 => ?_)
    · exact absurd h_27 (by rw [e13]; exact nI_ge (by omega) (by omega)) --
    · refine ev_aload_n (pc' := 31) dX1_learn_30 rfl rfl ?_
      refine ev_getf (pc' := 34) fl_1_18 dX1_learn_31 rfl rfl rfl ?_
      refine ev_iload (pc' := 36) dX1_learn_34 rfl rfl ?_
      refine ev_cNi2 (pc' := 39) cl_1_63 (k_at rfl (by decide)) dX1_learn_36 rfl rfl ?_
      rw [e3]
      refine ev_istore (pc' := 41) (ls' := [_, _, _, _, _, _, _]) dX1_learn_39 rfl rfl rfl ?_
      refine ev_aload_n (pc' := 42) dX1_learn_41 rfl rfl ?_
      refine ev_iload (pc' := 44) dX1_learn_42 rfl rfl ?_
      refine ev_iload (pc' := 46) dX1_learn_44 rfl rfl ?_
      refine ev_aload_n (pc' := 47) dX1_learn_46 rfl rfl ?_
      refine ev_cVi3 (pc' := 50) cl_1_67 (hwv) dX1_learn_47 rfl rfl rfl rfl ?_
      refine ev_istore (pc' := 52) (ls' := [_, _, _, _, _, _, _]) dX1_learn_50 rfl rfl rfl ?_
      refine ev_aload_n (pc' := 53) dX1_learn_52 rfl rfl ?_
      refine ev_getf (pc' := 56) fl_1_9 dX1_learn_53 rfl rfl rfl ?_
      refine ev_iload (pc' := 58) dX1_learn_56 rfl rfl ?_
      refine ev_iload (pc' := 60) dX1_learn_58 rfl rfl ?_
      refine ev_cNv3 (pc' := 63) cl_1_71 (k_put rfl (by decide) (WK_a1 _ _ _)) dX1_learn_60 rfl rfl ?_
      refine ev_aload_n (pc' := 64) dX1_learn_63 rfl rfl ?_
      refine ev_getf (pc' := 67) fl_1_21 dX1_learn_64 rfl rfl rfl ?_
      refine ev_iload (pc' := 69) dX1_learn_67 rfl rfl ?_
      refine ev_iload (pc' := 71) dX1_learn_69 rfl rfl ?_
      refine ev_if_ne (tgt := 83) (pc' := 74) dX1_learn_71 (by decide) rfl (fun h_71 => ?_) (fun h_71 => ?_)
      · rw [if_neg h_71, if_neg h_71] at hT
        refine ev_iconst (pc' := 84) (v := -1) dX1_learn_83 rfl (by decide) ?_
        refine ev_cNv3 (pc' := 87) cl_1_71 (k_put rfl (by decide) (WK_a4 _ _ _)) dX1_learn_84 rfl rfl ?_
        refine ev_aload_n (pc' := 88) dX1_learn_87 rfl rfl ?_
        refine ev_getf (pc' := 91) fl_1_24 dX1_learn_88 rfl rfl rfl ?_
        refine ev_iload (pc' := 93) dX1_learn_91 rfl rfl ?_
        refine ev_aload_n (pc' := 94) dX1_learn_93 rfl rfl ?_
        refine ev_getf (pc' := 97) fl_1_49 dX1_learn_94 rfl rfl rfl ?_
        refine ev_iload (pc' := 99) dX1_learn_97 rfl rfl ?_
        refine ev_cVi1 (pc' := 102) cl_1_79 (kK_oneOf _ _ _) dX1_learn_99 rfl rfl rfl rfl ?_
        refine ev_cNv3 (pc' := 105) cl_1_71 (k_put rfl (by decide) (WK_a5 _ _ _)) dX1_learn_102 rfl rfl ?_
        refine ev_aload_n (pc' := 106) dX1_learn_105 rfl rfl ?_
        refine ev_getf (pc' := 109) fl_1_27 dX1_learn_106 rfl rfl rfl ?_
        refine ev_iload (pc' := 111) dX1_learn_109 rfl rfl ?_
        refine ev_aload_n (pc' := 112) dX1_learn_111 rfl rfl ?_
        refine ev_getf (pc' := 115) fl_1_49 dX1_learn_112 rfl rfl rfl ?_
        refine ev_iload (pc' := 117) dX1_learn_115 rfl rfl ?_
        refine ev_cVi1 (pc' := 120) cl_1_84 (kK_otherOf _ _ _) dX1_learn_117 rfl rfl rfl rfl ?_
        refine ev_cNv3 (pc' := 123) cl_1_71 (k_put rfl (by decide) (WK_a6 _ _ _)) dX1_learn_120 rfl rfl ?_
        refine ev_aload_n (pc' := 124) dX1_learn_123 rfl rfl ?_
        refine ev_iload (pc' := 126) dX1_learn_124 rfl rfl ?_
        refine ev_cVv1 (pc' := 129) cl_1_87 (k_copyDebts _ _ k (by omega)) dX1_learn_126 rfl rfl rfl rfl ?_
        refine ev_iload (pc' := 131) dX1_learn_129 rfl rfl ?_
        refine ev_if_ne (tgt := 145) (pc' := 134) dX1_learn_131 (by decide) rfl (fun h_131 => ?_) (fun h_131 => ?_)
        · refine ev_iinc (pc' := 148) (ls' := [_, _, _, _, _, _, _]) dX1_learn_145 rfl rfl rfl rfl rfl ?_
          refine ev_goto (tgt := 21) dX1_learn_148 (by decide) ?_
          rw [nI_p1, hT]
          rw [hT] at hs1
          exact ih (k + 1) _ _ _ _ (by omega) hs1
        · exact absurd h_131 h_71 --
      · rw [if_pos h_71, if_pos h_71] at hT
        refine ev_aload_n (pc' := 75) dX1_learn_74 rfl rfl ?_
        refine ev_iload (pc' := 77) dX1_learn_75 rfl rfl ?_
        refine ev_cVi1 (pc' := 80) cl_1_75 (k_leafOf _ _ _) dX1_learn_77 rfl rfl rfl rfl ?_
        refine ev_goto (tgt := 84) dX1_learn_80 (by decide) ?_
        refine ev_cNv3 (pc' := 87) cl_1_71 (k_put rfl (by decide) (WK_a4 _ _ _)) dX1_learn_84 rfl rfl ?_
        refine ev_aload_n (pc' := 88) dX1_learn_87 rfl rfl ?_
        refine ev_getf (pc' := 91) fl_1_24 dX1_learn_88 rfl rfl rfl ?_
        refine ev_iload (pc' := 93) dX1_learn_91 rfl rfl ?_
        refine ev_aload_n (pc' := 94) dX1_learn_93 rfl rfl ?_
        refine ev_getf (pc' := 97) fl_1_49 dX1_learn_94 rfl rfl rfl ?_
        refine ev_iload (pc' := 99) dX1_learn_97 rfl rfl ?_
        refine ev_cVi1 (pc' := 102) cl_1_79 (kK_oneOf _ _ _) dX1_learn_99 rfl rfl rfl rfl ?_
        refine ev_cNv3 (pc' := 105) cl_1_71 (k_put rfl (by decide) (WK_a5 _ _ _)) dX1_learn_102 rfl rfl ?_
        refine ev_aload_n (pc' := 106) dX1_learn_105 rfl rfl ?_
        refine ev_getf (pc' := 109) fl_1_27 dX1_learn_106 rfl rfl rfl ?_
        refine ev_iload (pc' := 111) dX1_learn_109 rfl rfl ?_
        refine ev_aload_n (pc' := 112) dX1_learn_111 rfl rfl ?_
        refine ev_getf (pc' := 115) fl_1_49 dX1_learn_112 rfl rfl rfl ?_
        refine ev_iload (pc' := 117) dX1_learn_115 rfl rfl ?_
        refine ev_cVi1 (pc' := 120) cl_1_84 (kK_otherOf _ _ _) dX1_learn_117 rfl rfl rfl rfl ?_
        refine ev_cNv3 (pc' := 123) cl_1_71 (k_put rfl (by decide) (WK_a6 _ _ _)) dX1_learn_120 rfl rfl ?_
        refine ev_aload_n (pc' := 124) dX1_learn_123 rfl rfl ?_
        refine ev_iload (pc' := 126) dX1_learn_124 rfl rfl ?_
        refine ev_cVv1 (pc' := 129) cl_1_87 (k_copyDebts _ _ k (by omega)) dX1_learn_126 rfl rfl rfl rfl ?_
        refine ev_iload (pc' := 131) dX1_learn_129 rfl rfl ?_
        refine ev_if_ne (tgt := 145) (pc' := 134) dX1_learn_131 (by decide) rfl (fun h_131 => ?_) (fun h_131 => ?_)
        · exact absurd h_71 h_131 --
        · refine ev_aload_n (pc' := 135) dX1_learn_134 rfl rfl ?_
          refine ev_iload (pc' := 137) dX1_learn_135 rfl rfl ?_
          refine ev_iconst (pc' := 138) (v := 1) dX1_learn_137 rfl (by decide) ?_
          refine ev_iadd (pc' := 139) dX1_learn_138 rfl ?_
          rw [nI_1]
          refine ev_iload (pc' := 141) dX1_learn_139 rfl rfl ?_
          refine ev_aload_n (pc' := 142) dX1_learn_141 rfl rfl ?_
          refine ev_cVv3 (pc' := 145) cl_1_91 (k_follow _ _ (k + 1) m _ (by omega) hw1) dX1_learn_142 rfl rfl rfl rfl ?_
          refine ev_iinc (pc' := 148) (ls' := [_, _, _, _, _, _, _]) dX1_learn_145 rfl rfl rfl rfl rfl ?_
          refine ev_goto (tgt := 21) dX1_learn_148 (by decide) ?_
          rw [nI_p1, hT]
          rw [hT] at hs1
          exact ih (k + 1) _ _ _ _ (by omega) hs1
theorem kn_arr_le (σ : RS) : ∀ c x z o, (kn_arr σ c x z o).1 ≤ z + c := by
  intro c
  induction c with
  | zero => intro x z o; exact Nat.le_refl _
  | succ c ih =>
    intro x z o
    rw [kn_arr]
    split
    · have := ih (x + 1) (z + 1) (upd (kn_ins σ x z o).2 (kn_ins σ x z o).1 (nI x)); omega
    · have := ih (x + 1) z o; omega
def kn_new (σ : RS) (n : Nat) (num : Int32) : RS := s2 (s2 σ 0 11 (nI n)) 0 12 num
def kn_sorted (σ : RS) (n : Nat) (num : Int32) : RS := kn_aw (kn_new σ n num) (kn_arr (kn_new σ n num) n 0 0 (kn_new σ n num 3)).1 (kn_arr (kn_new σ n num) n 0 0 (kn_new σ n num 3)).2
def kn_start (σ : RS) (n : Nat) (num : Int32) : RS := s1 (kn_sorted σ n num) 1 (kn_forge (kn_sorted σ n num) n 0 (fillTo (kn_sorted σ n num 1) 0 120))
def kn_learn (σ : RS) (n m : Nat) (num : Int32) (g : Nat → Int32) : RS × (Nat → Int32) := kn_lrn n m (kn_arr (kn_new σ n num) n 0 0 (kn_new σ n num 3)).1 0 (kn_start σ n num, g)
theorem k_learn {d : Nat} (σ : RS) (g : Nat → Int32) (n m : Nat) (num : Int32) (hn : n ≤ 120) (hm : lz_ok (lw σ) m) : Ok (d + 19) M1_learn [.ref 0, .int (nI n), .int num, .ref 22] (WK σ g) (rt none (WK (kn_learn σ n m num g).1 (kn_learn σ n m num g).2)) := by
  have hz := kn_arr_le (kn_new σ n num) n 0 0 (kn_new σ n num 3)
  refine Ok.of (ls := [some _, some _, some _, some _, none, none, none]) (by decide +kernel) (Nat.le_of_ble_eq_true rfl) rfl ?_
  refine ev_aload_n (pc' := 1) dX1_learn_0 rfl rfl ?_
  refine ev_iload_n (pc' := 2) dX1_learn_1 rfl rfl ?_
  refine ev_putf (pc' := 5) fs_1_39 dX1_learn_2 rfl rfl (Nat.le_of_ble_eq_true rfl) (fun _ => rfl) (fun _ => rfl) (WK_p1_11 _ _ _) ?_
  refine ev_aload_n (pc' := 6) dX1_learn_5 rfl rfl ?_
  refine ev_iload_n (pc' := 7) dX1_learn_6 rfl rfl ?_
  refine ev_putf (pc' := 10) fs_1_43 dX1_learn_7 rfl rfl (Nat.le_of_ble_eq_true rfl) (fun _ => rfl) (fun _ => rfl) (WK_p1_12 _ _ _) ?_
  refine ev_aload_n (pc' := 11) dX1_learn_10 rfl rfl ?_
  refine ev_cVv0 (pc' := 14) cl_1_57 (k_arrange (kn_new σ n num) g n hn rfl) dX1_learn_11 rfl rfl rfl rfl ?_
  refine ev_aload_n (pc' := 15) dX1_learn_14 rfl rfl ?_
  refine ev_cVv0 (pc' := 18) cl_1_60 (k_markForged (kn_sorted σ n num) g n hn rfl) dX1_learn_15 rfl rfl rfl rfl ?_
  refine ev_iconst (pc' := 19) (v := 0) dX1_learn_18 rfl (by decide) ?_
  refine ev_istore (pc' := 21) (ls' := [_, _, _, _, _, _, _]) dX1_learn_19 rfl rfl rfl ?_
  exact k_learn_loop (kn_start σ n num) n m _ hn (by omega) rfl rfl hm _ _ _ 0 _ g _ _ (by omega) (kn_same.refl _)
theorem k_firstRing {d : Nat} (σ : RS) (g : Nat → Int32) (day : Int32) (n : Nat) (hn : n ≤ 120) (h13 : σ 0 13 = nI n) : Ok (d + 17) M1_firstRing [.ref 0, .int day] (WK σ g) (rt (some (.ref 18)) (WK (rgp (kn_loaded σ (kn_upTo (σ 13) (σ 3) day n 0)) (r_find (rg (kn_loaded σ (kn_upTo (σ 13) (σ 3) day n 0))))) g)) := by
  have hu := kn_upTo_le (σ 13) (σ 3) day n 0
  have m1 : nI (kn_upTo (σ 13) (σ 3) day n 0) * 64 = nI (kn_upTo (σ 13) (σ 3) day n 0 * 64) := nI_mul _ 64
  refine Ok.of (ls := [some _, some _]) (by decide +kernel) (Nat.le_of_ble_eq_true rfl) rfl ?_
  refine ev_aload_n (pc' := 1) dX1_firstRing_0 rfl rfl ?_
  refine ev_getf (pc' := 4) fl_1_53 dX1_firstRing_1 rfl rfl rfl ?_
  refine ev_aload_n (pc' := 5) dX1_firstRing_4 rfl rfl ?_
  refine ev_getf (pc' := 8) fl_1_30 dX1_firstRing_5 rfl rfl rfl ?_
  refine ev_aload_n (pc' := 9) dX1_firstRing_8 rfl rfl ?_
  refine ev_iload_n (pc' := 10) dX1_firstRing_9 rfl rfl ?_
  refine ev_cVi1 (pc' := 13) cl_1_122 (k_papersUpTo _ _ _ n hn h13) dX1_firstRing_10 rfl rfl rfl rfl ?_
  refine ev_bipush (pc' := 15) (v := 64) dX1_firstRing_13 rfl (by decide) ?_
  refine ev_imul (pc' := 16) dX1_firstRing_15 rfl ?_
  rw [m1]
  refine ev_cVv2 (pc' := 19) cl_1_125 (kK_load _ _ _ (by omega)) dX1_firstRing_16 rfl rfl rfl rfl ?_
  refine ev_aload_n (pc' := 20) dX1_firstRing_19 rfl rfl ?_
  refine ev_getf (pc' := 23) fl_1_53 dX1_firstRing_20 rfl rfl rfl ?_
  refine ev_cVi0 (pc' := 26) cl_1_131 (kK_findFirst _ _) dX1_firstRing_23 rfl rfl rfl rfl ?_
  refine ev_pop (pc' := 27) dX1_firstRing_26 rfl rfl ?_
  refine ev_aload_n (pc' := 28) dX1_firstRing_27 rfl rfl ?_
  refine ev_getf (pc' := 31) fl_1_53 dX1_firstRing_28 rfl rfl rfl ?_
  refine ev_areturn rfl (Or.inl ⟨_, rfl⟩) dX1_firstRing_31 ?_
  exact ⟨rfl, rfl⟩
theorem k_leftByMeeting {d : Nat} (σ : RS) (g : Nat → Int32) (day : Int32) (n : Nat) (hn : n ≤ 120) (h13 : σ 0 13 = nI n) : Ok (d + 18) M1_leftByMeeting [.ref 0, .int day] (WK σ g) (rt (some (.int (sumTo (kn_met σ (kn_upTo (σ 13) (σ 3) day n 0) 19) 64))) (WK (kn_met σ (kn_upTo (σ 13) (σ 3) day n 0)) g)) := by
  have hu := kn_upTo_le (σ 13) (σ 3) day n 0
  have m1 : nI (kn_upTo (σ 13) (σ 3) day n 0) * 64 = nI (kn_upTo (σ 13) (σ 3) day n 0 * 64) := nI_mul _ 64
  refine Ok.of (ls := [some _, some _]) (by decide +kernel) (Nat.le_of_ble_eq_true rfl) rfl ?_
  refine ev_aload_n (pc' := 1) dX1_leftByMeeting_0 rfl rfl ?_
  refine ev_getf (pc' := 4) fl_1_53 dX1_leftByMeeting_1 rfl rfl rfl ?_
  refine ev_aload_n (pc' := 5) dX1_leftByMeeting_4 rfl rfl ?_
  refine ev_getf (pc' := 8) fl_1_30 dX1_leftByMeeting_5 rfl rfl rfl ?_
  refine ev_aload_n (pc' := 9) dX1_leftByMeeting_8 rfl rfl ?_
  refine ev_iload_n (pc' := 10) dX1_leftByMeeting_9 rfl rfl ?_
  refine ev_cVi1 (pc' := 13) cl_1_122 (k_papersUpTo _ _ _ n hn h13) dX1_leftByMeeting_10 rfl rfl rfl rfl ?_
  refine ev_bipush (pc' := 15) (v := 64) dX1_leftByMeeting_13 rfl (by decide) ?_
  refine ev_imul (pc' := 16) dX1_leftByMeeting_15 rfl ?_
  rw [m1]
  refine ev_cVv2 (pc' := 19) cl_1_125 (kK_load _ _ _ (by omega)) dX1_leftByMeeting_16 rfl rfl rfl rfl ?_
  refine ev_aload_n (pc' := 20) dX1_leftByMeeting_19 rfl rfl ?_
  refine ev_getf (pc' := 23) fl_1_53 dX1_leftByMeeting_20 rfl rfl rfl ?_
  refine ev_cVv0 (pc' := 26) cl_1_135 (kK_meetAll _ _) dX1_leftByMeeting_23 rfl rfl rfl rfl ?_
  refine ev_aload_n (pc' := 27) dX1_leftByMeeting_26 rfl rfl ?_
  refine ev_getf (pc' := 30) fl_1_53 dX1_leftByMeeting_27 rfl rfl rfl ?_
  refine ev_cVi0 (pc' := 33) cl_1_138 (kK_sumOfAll _ _) dX1_leftByMeeting_30 rfl rfl rfl rfl ?_
  refine ev_ireturn rfl dX1_leftByMeeting_33 ?_
  exact ⟨rfl, rfl⟩
def kn_counts (σ : RS) (x : Int32) (z : Nat) : Bool := decide (¬ atF 120 (σ 14) x = atF 120 (σ 17) x ∧ 0 < kn_awake σ (atF 120 (σ 14) x) (atF 120 (σ 16) x) z)
theorem k_seenCounts {d : Nat} (σ : RS) (g : Nat → Int32) (x : Int32) (z : Nat) (hz : z ≤ 120) (h13 : σ 0 13 = nI z) : Ok (d + 3) M1_seenCounts [.ref 0, .int x] (WK σ g) (rt (some (.int (bI (kn_counts σ x z)))) (WK σ g)) := by
  refine Ok.of (ls := [some _, some _, none]) (by decide +kernel) (Nat.le_of_ble_eq_true rfl) rfl ?_
  refine ev_aload_n (pc' := 1) dX1_seenCounts_0 rfl rfl ?_
  refine ev_getf (pc' := 4) fl_1_49 dX1_seenCounts_1 rfl rfl rfl ?_
  refine ev_iload_n (pc' := 5) dX1_seenCounts_4 rfl rfl ?_
  refine ev_cVi1 (pc' := 8) cl_1_79 (kK_oneOf _ _ _) dX1_seenCounts_5 rfl rfl rfl rfl ?_
  refine ev_istore_n (pc' := 9) (ls' := [_, _, _]) dX1_seenCounts_8 rfl rfl rfl ?_
  refine ev_iload_n (pc' := 10) dX1_seenCounts_9 rfl rfl ?_
  refine ev_aload_n (pc' := 11) dX1_seenCounts_10 rfl rfl ?_
  refine ev_getf (pc' := 14) fl_1_49 dX1_seenCounts_11 rfl rfl rfl ?_
  refine ev_iload_n (pc' := 15) dX1_seenCounts_14 rfl rfl ?_
  refine ev_cVi1 (pc' := 18) cl_1_84 (kK_otherOf _ _ _) dX1_seenCounts_15 rfl rfl rfl rfl ?_
  refine ev_icmp_eq (tgt := 41) (pc' := 21) dX1_seenCounts_18 (by decide) rfl (fun h_18 => ?_) (fun h_18 => ?_)
  · have e : kn_counts σ x z = false := decide_eq_false (fun q => q.1 h_18)
    refine ev_iconst (pc' := 42) (v := 0) dX1_seenCounts_41 rfl (by decide) ?_
    refine ev_zreturn rfl rfl dX1_seenCounts_42 ?_
    refine rt_i ?_ rfl
    rw [e]
    rfl
  · refine ev_aload_n (pc' := 22) dX1_seenCounts_21 rfl rfl ?_
    refine ev_iload_n (pc' := 23) dX1_seenCounts_22 rfl rfl ?_
    refine ev_aload_n (pc' := 24) dX1_seenCounts_23 rfl rfl ?_
    refine ev_getf (pc' := 27) fl_1_49 dX1_seenCounts_24 rfl rfl rfl ?_
    refine ev_iload_n (pc' := 28) dX1_seenCounts_27 rfl rfl ?_
    refine ev_cVi1 (pc' := 31) cl_1_142 (kK_dayOf _ _ _) dX1_seenCounts_28 rfl rfl rfl rfl ?_
    refine ev_cVi2 (pc' := 34) cl_1_145 (k_timesAwake _ _ _ _ z hz h13) dX1_seenCounts_31 rfl rfl rfl rfl ?_
    refine ev_if_le (tgt := 41) (pc' := 37) dX1_seenCounts_34 (by decide) rfl (fun h_34 => ?_) (fun h_34 => ?_)
    · have e : kn_counts σ x z = false := decide_eq_false (fun q => absurd h_34 (Int32.not_le.mpr q.2))
      refine ev_iconst (pc' := 42) (v := 0) dX1_seenCounts_41 rfl (by decide) ?_
      refine ev_zreturn rfl rfl dX1_seenCounts_42 ?_
      refine rt_i ?_ rfl
      rw [e]
      rfl
    · have e : kn_counts σ x z = true := decide_eq_true ⟨h_18, Int32.not_le.mp h_34⟩
      refine ev_iconst (pc' := 38) (v := 1) dX1_seenCounts_37 rfl (by decide) ?_
      refine ev_goto (tgt := 42) dX1_seenCounts_38 (by decide) ?_
      refine ev_zreturn rfl rfl dX1_seenCounts_42 ?_
      refine rt_i ?_ rfl
      rw [e]
      rfl
/-- what one said last of a deed and a day, among the first k facts -/
def kn_said (σ : RS) (w deed day : Int32) : Nat → Int32
  | 0 => -1
  | k + 1 => if b_kind (bk σ) (nI k) = 5 ∧ atF 120 (σ 14) (nI k) = w ∧ atF 120 (σ 15) (nI k) = deed ∧ atF 120 (σ 16) (nI k) = day then nI k else kn_said σ w deed day k
theorem k_said_loop {d : Nat} (σ : RS) (g : Nat → Int32) (w deed day : Int32) : ∀ (k : Nat) (x : Int32), k < 2 ^ 31 → x = nI k - 1 → Ev (d + 2) M1_lastSaid (rt (some (.int (kn_said σ w deed day k))) (WK σ g)) 8 [some (.ref 0), some (.int w), some (.int deed), some (.int day), some (.int x)] [] (WK σ g) := by
  intro k
  induction k with
  | zero =>
    intro x hk hx
    refine ev_iload (pc' := 10) dX1_lastSaid_8 rfl rfl ?_
    refine ev_if_lt (tgt := 74) (pc' := 13) dX1_lastSaid_10 (by decide) rfl (fun h_10 => ?_) (fun h_10 => ?_)
    · refine ev_iconst (pc' := 75) (v := -1) dX1_lastSaid_74 rfl (by decide) ?_
      refine ev_ireturn rfl dX1_lastSaid_75 ?_
      exact ⟨rfl, rfl⟩
    · exact absurd (by rw [hx]; decide) h_10 --
  | succ k ih =>
    intro x hk hx
    have hx : x = nI k := by rw [hx, nI_pred]
    subst hx
    rw [kn_said]
    refine ev_iload (pc' := 10) dX1_lastSaid_8 rfl rfl ?_
    refine ev_if_lt (tgt := 74) (pc' := 13) dX1_lastSaid_10 (by decide) rfl (fun h_10 => ?_) (fun h_10 => ?_)
    · exact absurd h_10 (nI_pos (by omega)) --
    · refine ev_aload_n (pc' := 14) dX1_lastSaid_13 rfl rfl ?_
      refine ev_getf (pc' := 17) fl_1_49 dX1_lastSaid_14 rfl rfl rfl ?_
      refine ev_iload (pc' := 19) dX1_lastSaid_17 rfl rfl ?_
      refine ev_cVi1 (pc' := 22) cl_1_164 (kK_kindOf _ _ _) dX1_lastSaid_19 rfl rfl rfl rfl ?_
      refine ev_iconst (pc' := 23) (v := 5) dX1_lastSaid_22 rfl (by decide) ?_
      refine ev_icmp_ne (tgt := 68) (pc' := 26) dX1_lastSaid_23 (by decide) rfl (fun h_23 => ?_) (fun h_23 => ?_)
      · rw [if_neg (fun z => h_23 z.1)]
        refine ev_iinc (pc' := 71) (ls' := [_, _, _, _, _]) dX1_lastSaid_68 rfl rfl rfl rfl rfl ?_
        refine ev_goto (tgt := 8) dX1_lastSaid_71 (by decide) ?_
        exact ih _ (by omega) (nI_m1 _)
      · refine ev_aload_n (pc' := 27) dX1_lastSaid_26 rfl rfl ?_
        refine ev_getf (pc' := 30) fl_1_49 dX1_lastSaid_27 rfl rfl rfl ?_
        refine ev_iload (pc' := 32) dX1_lastSaid_30 rfl rfl ?_
        refine ev_cVi1 (pc' := 35) cl_1_79 (kK_oneOf _ _ _) dX1_lastSaid_32 rfl rfl rfl rfl ?_
        refine ev_iload_n (pc' := 36) dX1_lastSaid_35 rfl rfl ?_
        refine ev_icmp_ne (tgt := 68) (pc' := 39) dX1_lastSaid_36 (by decide) rfl (fun h_36 => ?_) (fun h_36 => ?_)
        · rw [if_neg (fun z => h_36 z.2.1)]
          refine ev_iinc (pc' := 71) (ls' := [_, _, _, _, _]) dX1_lastSaid_68 rfl rfl rfl rfl rfl ?_
          refine ev_goto (tgt := 8) dX1_lastSaid_71 (by decide) ?_
          exact ih _ (by omega) (nI_m1 _)
        · refine ev_aload_n (pc' := 40) dX1_lastSaid_39 rfl rfl ?_
          refine ev_getf (pc' := 43) fl_1_49 dX1_lastSaid_40 rfl rfl rfl ?_
          refine ev_iload (pc' := 45) dX1_lastSaid_43 rfl rfl ?_
          refine ev_cVi1 (pc' := 48) cl_1_167 (kK_thingOf _ _ _) dX1_lastSaid_45 rfl rfl rfl rfl ?_
          refine ev_iload_n (pc' := 49) dX1_lastSaid_48 rfl rfl ?_
          refine ev_icmp_ne (tgt := 68) (pc' := 52) dX1_lastSaid_49 (by decide) rfl (fun h_49 => ?_) (fun h_49 => ?_)
          · rw [if_neg (fun z => h_49 z.2.2.1)]
            refine ev_iinc (pc' := 71) (ls' := [_, _, _, _, _]) dX1_lastSaid_68 rfl rfl rfl rfl rfl ?_
            refine ev_goto (tgt := 8) dX1_lastSaid_71 (by decide) ?_
            exact ih _ (by omega) (nI_m1 _)
          · refine ev_aload_n (pc' := 53) dX1_lastSaid_52 rfl rfl ?_
            refine ev_getf (pc' := 56) fl_1_49 dX1_lastSaid_53 rfl rfl rfl ?_
            refine ev_iload (pc' := 58) dX1_lastSaid_56 rfl rfl ?_
            refine ev_cVi1 (pc' := 61) cl_1_142 (kK_dayOf _ _ _) dX1_lastSaid_58 rfl rfl rfl rfl ?_
            refine ev_iload_n (pc' := 62) dX1_lastSaid_61 rfl rfl ?_
            refine ev_icmp_ne (tgt := 68) (pc' := 65) dX1_lastSaid_62 (by decide) rfl (fun h_62 => ?_) (fun h_62 => ?_)
            · rw [if_neg (fun z => h_62 z.2.2.2)]
              refine ev_iinc (pc' := 71) (ls' := [_, _, _, _, _]) dX1_lastSaid_68 rfl rfl rfl rfl rfl ?_
              refine ev_goto (tgt := 8) dX1_lastSaid_71 (by decide) ?_
              exact ih _ (by omega) (nI_m1 _)
            · rw [if_pos ⟨h_23, h_36, h_49, h_62⟩]
              refine ev_iload (pc' := 67) dX1_lastSaid_65 rfl rfl ?_
              refine ev_ireturn rfl dX1_lastSaid_67 ?_
              exact ⟨rfl, rfl⟩
theorem k_lastSaid {d : Nat} (σ : RS) (g : Nat → Int32) (w deed day : Int32) (n : Nat) (hn : n ≤ 120) (h11 : σ 0 11 = nI n) : Ok (d + 2) M1_lastSaid [.ref 0, .int w, .int deed, .int day] (WK σ g) (rt (some (.int (kn_said σ w deed day n))) (WK σ g)) := by
  refine Ok.of (ls := [some _, some _, some _, some _, none]) (by decide +kernel) (Nat.le_of_ble_eq_true rfl) rfl ?_
  refine ev_aload_n (pc' := 1) dX1_lastSaid_0 rfl rfl ?_
  refine ev_getf (pc' := 4) fl_1_39 dX1_lastSaid_1 rfl rfl rfl ?_
  refine ev_iconst (pc' := 5) (v := 1) dX1_lastSaid_4 rfl (by decide) ?_
  refine ev_isub (pc' := 6) dX1_lastSaid_5 rfl ?_
  refine ev_istore (pc' := 8) (ls' := [_, _, _, _, _]) dX1_lastSaid_6 rfl rfl rfl ?_
  exact k_said_loop σ g w deed day n _ (by omega) (by rw [h11])
theorem kn_said_s1 (σ : RS) {c : Nat} (hc : c < 10) (f : Nat → Int32) (w deed day : Int32) : ∀ k, kn_said (s1 σ c f) w deed day k = kn_said σ w deed day k := by
  intro k
  induction k with
  | zero => rfl
  | succ k ih => rw [kn_said, kn_said, ih, bk_s1 σ hc, s1_ne _ _ (show 14 ≠ c by omega), s1_ne _ _ (show 15 ≠ c by omega), s1_ne _ _ (show 16 ≠ c by omega)]
def kn_vote1 (σ : RS) (deed day : Int32) (n z w : Nat) (f : Nat → Int32) : Nat → Int32 :=
  let x := kn_said σ (nI w) deed day n
  if ¬ x = -1 ∧ kn_counts σ x z = true then putF 8 f (atF 120 (σ 17) x) (atF 8 f (atF 120 (σ 17) x) + 1) else f
def kn_votes (σ : RS) (deed day : Int32) (n z : Nat) : Nat → Nat → (Nat → Int32) → (Nat → Int32)
  | 0, _, f => f
  | c + 1, w, f => kn_votes σ deed day n z c (w + 1) (kn_vote1 σ deed day n z w f)
theorem k_votes_loop {d : Nat} (σ : RS) (g : Nat → Int32) (deed day : Int32) (n z : Nat) (hn : n ≤ 120) (hz : z ≤ 120) (h11 : σ 0 11 = nI n) (h13 : σ 0 13 = nI z) : ∀ (c w : Nat) (f : Nat → Int32) (z4 z5 : Option Value), w + c = 8 → Ev (d + 4) M1_countVotes (rt none (WK (s1 σ 9 (kn_votes σ deed day n z c w f)) g)) 10 [some (.ref 0), some (.int deed), some (.int day), some (.int (nI w)), z4, z5] [] (WK (s1 σ 9 f) g) := by
  intro c
  induction c with
  | zero =>
    intro w f z4 z5 hw
    have hw : w = 8 := by omega
    subst hw
    refine ev_iload_n (pc' := 11) dX1_countVotes_10 rfl rfl ?_
    refine ev_bipush (pc' := 13) (v := 8) dX1_countVotes_11 rfl (by decide) ?_
    refine ev_icmp_ge (tgt := 77) (pc' := 16) dX1_countVotes_13 (by decide) rfl (fun h_13 => ?_) (fun h_13 => ?_)
    · refine ev_return rfl dX1_countVotes_77 ?_
      exact ⟨rfl, rfl⟩
    · exact absurd (show (8 : Int32) ≤ nI 8 from nI_le (a := 8) (by omega) (by omega)) h_13 --
  | succ c ih =>
    intro w f z4 z5 hw
    rw [kn_votes]
    obtain ⟨f', hf⟩ : ∃ f', f' = kn_vote1 σ deed day n z w f := ⟨_, rfl⟩
    rw [← hf]
    unfold kn_vote1 at hf
    dsimp only at hf
    have hS := kn_said_s1 σ (c := 9) (by omega) f (nI w) deed day n
    refine ev_iload_n (pc' := 11) dX1_countVotes_10 rfl rfl ?_
    refine ev_bipush (pc' := 13) (v := 8) dX1_countVotes_11 rfl (by decide) ?_
    refine ev_icmp_ge (tgt := 77) (pc' := 16) dX1_countVotes_13 (by decide) rfl (fun h_13 => ?_) (fun h_13 => ?_)
    · exact absurd h_13 (nI_ge (b := 8) (by omega) (by omega)) --
    · refine ev_aload_n (pc' := 17) dX1_countVotes_16 rfl rfl ?_
      refine ev_iload_n (pc' := 18) dX1_countVotes_17 rfl rfl ?_
      refine ev_iload_n (pc' := 19) dX1_countVotes_18 rfl rfl ?_
      refine ev_iload_n (pc' := 20) dX1_countVotes_19 rfl rfl ?_
      refine ev_cVi3 (pc' := 23) cl_1_157 (k_lastSaid _ _ _ _ _ n hn h11) dX1_countVotes_20 rfl rfl rfl rfl ?_
      rw [hS]
      refine ev_istore (pc' := 25) (ls' := [_, _, _, _, _, _]) dX1_countVotes_23 rfl rfl rfl ?_
      refine ev_iload (pc' := 27) dX1_countVotes_25 rfl rfl ?_
      refine ev_iconst (pc' := 28) (v := -1) dX1_countVotes_27 rfl (by decide) ?_
      refine ev_icmp_eq (tgt := 71) (pc' := 31) dX1_countVotes_28 (by decide) rfl (fun h_28 => ?_) (fun h_28 => ?_)
      · rw [if_neg (fun q => q.1 h_28)] at hf
        refine ev_iinc (pc' := 74) (ls' := [_, _, _, _, _, _]) dX1_countVotes_71 rfl rfl rfl rfl rfl ?_
        refine ev_goto (tgt := 10) dX1_countVotes_74 (by decide) ?_
        rw [nI_p1, hf]
        exact ih (w + 1) _ _ _ (by omega)
      · refine ev_aload_n (pc' := 32) dX1_countVotes_31 rfl rfl ?_
        refine ev_iload (pc' := 34) dX1_countVotes_32 rfl rfl ?_
        refine ev_cVi1 (pc' := 37) cl_1_160 (k_seenCounts _ _ _ z hz h13) dX1_countVotes_34 rfl rfl rfl rfl ?_
        refine ev_if_eq (tgt := 71) (pc' := 40) dX1_countVotes_37 (by decide) rfl (fun h_37 => ?_) (fun h_37 => ?_)
        · rw [bI_0] at h_37
          have h37 : kn_counts σ (kn_said σ (nI w) deed day n) z = false := h_37
          rw [if_neg (fun q => by rw [h37] at q; exact absurd q.2 (by decide))] at hf
          refine ev_iinc (pc' := 74) (ls' := [_, _, _, _, _, _]) dX1_countVotes_71 rfl rfl rfl rfl rfl ?_
          refine ev_goto (tgt := 10) dX1_countVotes_74 (by decide) ?_
          rw [nI_p1, hf]
          exact ih (w + 1) _ _ _ (by omega)
        · rw [bI_0, Bool.not_eq_false] at h_37
          have h37 : kn_counts σ (kn_said σ (nI w) deed day n) z = true := h_37
          rw [if_pos ⟨h_28, h37⟩] at hf
          refine ev_aload_n (pc' := 41) dX1_countVotes_40 rfl rfl ?_
          refine ev_getf (pc' := 44) fl_1_49 dX1_countVotes_41 rfl rfl rfl ?_
          refine ev_iload (pc' := 46) dX1_countVotes_44 rfl rfl ?_
          refine ev_cVi1 (pc' := 49) cl_1_84 (kK_otherOf _ _ _) dX1_countVotes_46 rfl rfl rfl rfl ?_
          refine ev_istore (pc' := 51) (ls' := [_, _, _, _, _, _]) dX1_countVotes_49 rfl rfl rfl ?_
          refine ev_aload_n (pc' := 52) dX1_countVotes_51 rfl rfl ?_
          refine ev_getf (pc' := 55) fl_1_36 dX1_countVotes_52 rfl rfl rfl ?_
          refine ev_iload (pc' := 57) dX1_countVotes_55 rfl rfl ?_
          refine ev_aload_n (pc' := 58) dX1_countVotes_57 rfl rfl ?_
          refine ev_getf (pc' := 61) fl_1_36 dX1_countVotes_58 rfl rfl rfl ?_
          refine ev_iload (pc' := 63) dX1_countVotes_61 rfl rfl ?_
          refine ev_cNi2 (pc' := 66) cl_1_63 (k_at rfl (by decide)) dX1_countVotes_63 rfl rfl ?_
          refine ev_iconst (pc' := 67) (v := 1) dX1_countVotes_66 rfl (by decide) ?_
          refine ev_iadd (pc' := 68) dX1_countVotes_67 rfl ?_
          refine ev_cNv3 (pc' := 71) cl_1_71 (k_put rfl (by decide) (WK_a9 _ _ _)) dX1_countVotes_68 rfl rfl ?_
          refine ev_iinc (pc' := 74) (ls' := [_, _, _, _, _, _]) dX1_countVotes_71 rfl rfl rfl rfl rfl ?_
          refine ev_goto (tgt := 10) dX1_countVotes_74 (by decide) ?_
          rw [nI_p1, hf]
          exact ih (w + 1) _ _ _ (by omega)
theorem k_countVotes {d : Nat} (σ : RS) (g : Nat → Int32) (deed day : Int32) (n z : Nat) (hn : n ≤ 120) (hz : z ≤ 120) (h11 : σ 0 11 = nI n) (h13 : σ 0 13 = nI z) : Ok (d + 4) M1_countVotes [.ref 0, .int deed, .int day] (WK σ g) (rt none (WK (s1 σ 9 (kn_votes σ deed day n z 8 0 (fillTo (σ 9) 0 8))) g)) := by
  refine Ok.of (ls := [some _, some _, some _, none, none, none]) (by decide +kernel) (Nat.le_of_ble_eq_true rfl) rfl ?_
  refine ev_aload_n (pc' := 1) dX1_countVotes_0 rfl rfl ?_
  refine ev_getf (pc' := 4) fl_1_36 dX1_countVotes_1 rfl rfl rfl ?_
  refine ev_iconst (pc' := 5) (v := 0) dX1_countVotes_4 rfl (by decide) ?_
  refine ev_cSv2 (pc' := 8) clJ_fill (j_fill rfl (by decide) (WK_a9 _ _ _)) dX1_countVotes_5 rfl rfl ?_
  refine ev_iconst (pc' := 9) (v := 0) dX1_countVotes_8 rfl (by decide) ?_
  refine ev_istore_n (pc' := 10) (ls' := [_, _, _, _, _, _]) dX1_countVotes_9 rfl rfl rfl ?_
  exact k_votes_loop σ g deed day n z hn hz h11 h13 8 0 _ _ _ rfl
/-- the doer, by the votes: the most and who has them -/
def kn_best (σ : RS) (f : Nat → Int32) (day : Int32) (z p : Nat) (b : Int32 × Int32) : Int32 × Int32 :=
  if 0 < atF 8 f (nI p) ∧ b.1 ≤ atF 8 f (nI p) ∧ 0 < kn_awake σ (nI p) day z then (atF 8 f (nI p), if atF 8 f (nI p) = b.1 then -1 else nI p) else b
def kn_doer (σ : RS) (f : Nat → Int32) (day : Int32) (z : Nat) : Nat → Nat → Int32 × Int32 → Int32 × Int32
  | 0, _, b => b
  | c + 1, p, b => kn_doer σ f day z c (p + 1) (kn_best σ f day z p b)
theorem k_doer_loop {d : Nat} (σ : RS) (g : Nat → Int32) (x1 day : Int32) (z : Nat) (hz : z ≤ 120) (h13 : σ 0 13 = nI z) : ∀ (c p : Nat) (b : Int32 × Int32) (z6 : Option Value), p + c = 8 → Ev (d + 5) M1_doerOf (rt (some (.int (kn_doer σ (σ 9) day z c p b).2)) (WK σ g)) 14 [some (.ref 0), some (.int x1), some (.int day), some (.int b.1), some (.int b.2), some (.int (nI p)), z6] [] (WK σ g) := by
  intro c
  induction c with
  | zero =>
    intro p b z6 hp
    have hp : p = 8 := by omega
    subst hp
    refine ev_iload (pc' := 16) dX1_doerOf_14 rfl rfl ?_
    refine ev_bipush (pc' := 18) (v := 8) dX1_doerOf_16 rfl (by decide) ?_
    refine ev_icmp_ge (tgt := 76) (pc' := 21) dX1_doerOf_18 (by decide) rfl (fun h_18 => ?_) (fun h_18 => ?_)
    · refine ev_iload (pc' := 78) dX1_doerOf_76 rfl rfl ?_
      refine ev_ireturn rfl dX1_doerOf_78 ?_
      exact ⟨rfl, rfl⟩
    · exact absurd (show (8 : Int32) ≤ nI 8 from nI_le (a := 8) (by omega) (by omega)) h_18 --
  | succ c ih =>
    intro p b z6 hp
    rw [kn_doer]
    obtain ⟨b', hb⟩ : ∃ b', b' = kn_best σ (σ 9) day z p b := ⟨_, rfl⟩
    rw [← hb]
    unfold kn_best at hb
    refine ev_iload (pc' := 16) dX1_doerOf_14 rfl rfl ?_
    refine ev_bipush (pc' := 18) (v := 8) dX1_doerOf_16 rfl (by decide) ?_
    refine ev_icmp_ge (tgt := 76) (pc' := 21) dX1_doerOf_18 (by decide) rfl (fun h_18 => ?_) (fun h_18 => ?_)
    · exact absurd h_18 (nI_ge (b := 8) (by omega) (by omega)) --
    · refine ev_aload_n (pc' := 22) dX1_doerOf_21 rfl rfl ?_
      refine ev_getf (pc' := 25) fl_1_36 dX1_doerOf_22 rfl rfl rfl ?_
      refine ev_iload (pc' := 27) dX1_doerOf_25 rfl rfl ?_
      refine ev_cNi2 (pc' := 30) cl_1_63 (k_at rfl (by decide)) dX1_doerOf_27 rfl rfl ?_
      refine ev_istore (pc' := 32) (ls' := [_, _, _, _, _, _, _]) dX1_doerOf_30 rfl rfl rfl ?_
      refine ev_iload (pc' := 34) dX1_doerOf_32 rfl rfl ?_
      refine ev_if_le (tgt := 70) (pc' := 37) dX1_doerOf_34 (by decide) rfl (fun h_34 => ?_) (fun h_34 => ?_)
      · rw [if_neg (fun q => absurd h_34 (Int32.not_le.mpr q.1))] at hb
        refine ev_iinc (pc' := 73) (ls' := [_, _, _, _, _, _, _]) dX1_doerOf_70 rfl rfl rfl rfl rfl ?_
        refine ev_goto (tgt := 14) dX1_doerOf_73 (by decide) ?_
        rw [nI_p1, hb]
        exact ih (p + 1) _ _ (by omega)
      · refine ev_iload (pc' := 39) dX1_doerOf_37 rfl rfl ?_
        refine ev_iload_n (pc' := 40) dX1_doerOf_39 rfl rfl ?_
        refine ev_icmp_lt (tgt := 70) (pc' := 43) dX1_doerOf_40 (by decide) rfl (fun h_40 => ?_) (fun h_40 => ?_)
        · rw [if_neg (fun q => absurd h_40 (Int32.not_lt.mpr q.2.1))] at hb
          refine ev_iinc (pc' := 73) (ls' := [_, _, _, _, _, _, _]) dX1_doerOf_70 rfl rfl rfl rfl rfl ?_
          refine ev_goto (tgt := 14) dX1_doerOf_73 (by decide) ?_
          rw [nI_p1, hb]
          exact ih (p + 1) _ _ (by omega)
        · refine ev_aload_n (pc' := 44) dX1_doerOf_43 rfl rfl ?_
          refine ev_iload (pc' := 46) dX1_doerOf_44 rfl rfl ?_
          refine ev_iload_n (pc' := 47) dX1_doerOf_46 rfl rfl ?_
          refine ev_cVi2 (pc' := 50) cl_1_145 (k_timesAwake _ _ _ _ z hz h13) dX1_doerOf_47 rfl rfl rfl rfl ?_
          refine ev_if_le (tgt := 70) (pc' := 53) dX1_doerOf_50 (by decide) rfl (fun h_50 => ?_) (fun h_50 => ?_)
          · rw [if_neg (fun q => absurd h_50 (Int32.not_le.mpr q.2.2))] at hb
            refine ev_iinc (pc' := 73) (ls' := [_, _, _, _, _, _, _]) dX1_doerOf_70 rfl rfl rfl rfl rfl ?_
            refine ev_goto (tgt := 14) dX1_doerOf_73 (by decide) ?_
            rw [nI_p1, hb]
            exact ih (p + 1) _ _ (by omega)
          · rw [if_pos ⟨Int32.not_le.mp h_34, Int32.not_lt.mp h_40, Int32.not_le.mp h_50⟩] at hb
            refine ev_iload (pc' := 55) dX1_doerOf_53 rfl rfl ?_
            refine ev_iload_n (pc' := 56) dX1_doerOf_55 rfl rfl ?_
            refine ev_icmp_ne (tgt := 63) (pc' := 59) dX1_doerOf_56 (by decide) rfl (fun h_56 => ?_) (fun h_56 => ?_)
            · rw [if_neg h_56] at hb
              refine ev_iload (pc' := 65) dX1_doerOf_63 rfl rfl ?_
              refine ev_istore (pc' := 67) (ls' := [_, _, _, _, _, _, _]) dX1_doerOf_65 rfl rfl rfl ?_
              refine ev_iload (pc' := 69) dX1_doerOf_67 rfl rfl ?_
              refine ev_istore_n (pc' := 70) (ls' := [_, _, _, _, _, _, _]) dX1_doerOf_69 rfl rfl rfl ?_
              refine ev_iinc (pc' := 73) (ls' := [_, _, _, _, _, _, _]) dX1_doerOf_70 rfl rfl rfl rfl rfl ?_
              refine ev_goto (tgt := 14) dX1_doerOf_73 (by decide) ?_
              rw [nI_p1, hb]
              exact ih (p + 1) _ _ (by omega)
            · rw [if_pos h_56] at hb
              refine ev_iconst (pc' := 60) (v := -1) dX1_doerOf_59 rfl (by decide) ?_
              refine ev_goto (tgt := 65) dX1_doerOf_60 (by decide) ?_
              refine ev_istore (pc' := 67) (ls' := [_, _, _, _, _, _, _]) dX1_doerOf_65 rfl rfl rfl ?_
              refine ev_iload (pc' := 69) dX1_doerOf_67 rfl rfl ?_
              refine ev_istore_n (pc' := 70) (ls' := [_, _, _, _, _, _, _]) dX1_doerOf_69 rfl rfl rfl ?_
              refine ev_iinc (pc' := 73) (ls' := [_, _, _, _, _, _, _]) dX1_doerOf_70 rfl rfl rfl rfl rfl ?_
              refine ev_goto (tgt := 14) dX1_doerOf_73 (by decide) ?_
              rw [nI_p1, hb]
              exact ih (p + 1) _ _ (by omega)
def kn_voted (σ : RS) (deed day : Int32) (n z : Nat) : RS := s1 σ 9 (kn_votes σ deed day n z 8 0 (fillTo (σ 9) 0 8))
theorem k_doerOf {d : Nat} (σ : RS) (g : Nat → Int32) (deed day : Int32) (n z : Nat) (hn : n ≤ 120) (hz : z ≤ 120) (h11 : σ 0 11 = nI n) (h13 : σ 0 13 = nI z) : Ok (d + 5) M1_doerOf [.ref 0, .int deed, .int day] (WK σ g) (rt (some (.int (kn_doer (kn_voted σ deed day n z) (kn_voted σ deed day n z 9) day z 8 0 (0, -1)).2)) (WK (kn_voted σ deed day n z) g)) := by
  refine Ok.of (ls := [some _, some _, some _, none, none, none, none]) (by decide +kernel) (Nat.le_of_ble_eq_true rfl) rfl ?_
  refine ev_aload_n (pc' := 1) dX1_doerOf_0 rfl rfl ?_
  refine ev_iload_n (pc' := 2) dX1_doerOf_1 rfl rfl ?_
  refine ev_iload_n (pc' := 3) dX1_doerOf_2 rfl rfl ?_
  refine ev_cVv2 (pc' := 6) cl_1_148 (k_countVotes _ _ _ _ n z hn hz h11 h13) dX1_doerOf_3 rfl rfl rfl rfl ?_
  refine ev_iconst (pc' := 7) (v := 0) dX1_doerOf_6 rfl (by decide) ?_
  refine ev_istore_n (pc' := 8) (ls' := [_, _, _, _, _, _, _]) dX1_doerOf_7 rfl rfl rfl ?_
  refine ev_iconst (pc' := 9) (v := -1) dX1_doerOf_8 rfl (by decide) ?_
  refine ev_istore (pc' := 11) (ls' := [_, _, _, _, _, _, _]) dX1_doerOf_9 rfl rfl rfl ?_
  refine ev_iconst (pc' := 12) (v := 0) dX1_doerOf_11 rfl (by decide) ?_
  refine ev_istore (pc' := 14) (ls' := [_, _, _, _, _, _, _]) dX1_doerOf_12 rfl rfl rfl ?_
  exact k_doer_loop (kn_voted σ deed day n z) g _ _ z hz h13 8 0 (0, -1) _ rfl
