/-! The model, seventeenth part: chains, witnesses, doers. -/
/-- the links given away on one day: how many are still to go, and the taker if it is reached -/
def c_day (G : RS) (p y d : Nat) : Nat → Nat → Int32 → Int32 × Option Int32
  | 0, _, left => (left, none)
  | c + 1, k, left => if G 24 k ≤ 1 ∧ G 25 k = nI d ∧ G 28 k = nI p ∧ G 29 k = nI y ∧ G 34 k ≤ 0 then (if left - 1 = 0 then (left - 1, some (G 27 k)) else c_day G p y d c (k + 1) (left - 1)) else c_day G p y d c (k + 1) left
def c_all (G : RS) (p y n : Nat) : Nat → Nat → Int32 → Int32
  | 0, _, _ => -1
  | c + 1, d, left => match (c_day G p y d n 0 left).2 with
    | some v => v
    | none => c_all G p y n c (d + 1) (c_day G p y d n 0 left).1
theorem m_chain_in {d : Nat} {Q : Option Value → MW → Prop} (G : RS) (τ : TS) (p y dd n : Nat) (x3 : Int32) (hp : p < 8) (hy : y < 400) (hd : dd < 400) (hn : n ≤ 120) (hQ : ∀ v, (∃ l, Q = rt (some (.int v)) (WM G τ) ∧ l = v) → True) : ∀ (c k : Nat) (left : Int32), k + c = n → ((c_day G p y dd c k left).2 = none → Ev d M7_chain Q 149 [some (.ref 0), some (.int (nI p)), some (.int (nI y)), some (.int x3), some (.int (nI n)), some (.int (c_day G p y dd c k left).1), some (.int (nI dd)), some (.int (nI n))] [] (WM G τ)) → (∀ v, (c_day G p y dd c k left).2 = some v → Q (some (.int v)) (WM G τ)) → Ev d M7_chain Q 62 [some (.ref 0), some (.int (nI p)), some (.int (nI y)), some (.int x3), some (.int (nI n)), some (.int left), some (.int (nI dd)), some (.int (nI k))] [] (WM G τ) := by
  intro c
  induction c with
  | zero =>
    intro k left hk k1 k2
    have hk : k = n := by omega
    subst hk
    refine ev_iload (pc' := 64) dX7_chain_62 rfl rfl ?_
    refine ev_iload (pc' := 66) dX7_chain_64 rfl rfl ?_
    refine ev_icmp_ge (tgt := 149) (pc' := 69) dX7_chain_66 (by decide) rfl (fun h_66 => ?_) (fun h_66 => ?_)
    · exact k1 rfl --
    · exact absurd (nI_le (Nat.le_refl _) (by omega)) h_66 --
  | succ c ih =>
    intro k left hk k1 k2
    have ek : (nI k).toNatClampNeg = k := nI_clamp (by omega)
    have hvk : vp_in (nI k) 120 := vp_in_nI (by omega) (by omega)
    rw [c_day] at k1 k2
    have skip : ¬ (G 24 k ≤ 1 ∧ G 25 k = nI dd ∧ G 28 k = nI p ∧ G 29 k = nI y ∧ G 34 k ≤ 0) → Ev d M7_chain Q 62 [some (.ref 0), some (.int (nI p)), some (.int (nI y)), some (.int x3), some (.int (nI n)), some (.int left), some (.int (nI dd)), some (.int (nI (k + 1)))] [] (WM G τ) := by
      intro hc
      rw [if_neg hc] at k1 k2
      exact ih (k + 1) left (by omega) k1 k2
    have hit : (G 24 k ≤ 1 ∧ G 25 k = nI dd ∧ G 28 k = nI p ∧ G 29 k = nI y ∧ G 34 k ≤ 0) → ¬ left - 1 = 0 → Ev d M7_chain Q 62 [some (.ref 0), some (.int (nI p)), some (.int (nI y)), some (.int x3), some (.int (nI n)), some (.int (left - 1)), some (.int (nI dd)), some (.int (nI (k + 1)))] [] (WM G τ) := by
      intro hc h0
      rw [if_pos hc, if_neg h0] at k1 k2
      exact ih (k + 1) _ (by omega) k1 k2
    have got : (G 24 k ≤ 1 ∧ G 25 k = nI dd ∧ G 28 k = nI p ∧ G 29 k = nI y ∧ G 34 k ≤ 0) → left - 1 = 0 → Q (some (.int (G 27 k))) (WM G τ) := by
      intro hc h0
      rw [if_pos hc, if_pos h0] at k2
      exact k2 _ rfl
    refine ev_iload (pc' := 64) dX7_chain_62 rfl rfl ?_
    refine ev_iload (pc' := 66) dX7_chain_64 rfl rfl ?_
    refine ev_icmp_ge (tgt := 149) (pc' := 69) dX7_chain_66 (by decide) rfl (fun h_66 => ?_) (fun h_66 => ?_)
    · exact absurd h_66 (nI_ge (by omega) (by omega)) --
    · refine ev_aload_n (pc' := 70) dX7_chain_69 rfl rfl ?_
      refine ev_getf (pc' := 73) fl_7_89 dX7_chain_70 rfl rfl rfl ?_
      refine ev_iload (pc' := 75) dX7_chain_73 rfl rfl ?_
      refine ev_iald (pc' := 76) dX7_chain_75 rfl rfl ?_ ?_
      · exact hvk
      rw [ek]
      refine ev_iconst (pc' := 77) (v := 1) dX7_chain_76 rfl (by decide) ?_
      refine ev_icmp_gt (tgt := 143) (pc' := 80) dX7_chain_77 (by decide) rfl (fun h_77 => ?_) (fun h_77 => ?_)
      · have fin := skip (fun z => absurd h_77 (Int32.not_lt.mpr z.1))
        refine ev_iinc (pc' := 146) (ls' := [_, _, _, _, _, _, _, _]) dX7_chain_143 rfl rfl rfl rfl rfl ?_
        refine ev_goto (tgt := 62) dX7_chain_146 (by decide) ?_
        rw [nI_p1]
        exact fin
      · refine ev_aload_n (pc' := 81) dX7_chain_80 rfl rfl ?_
        refine ev_getf (pc' := 84) fl_7_92 dX7_chain_81 rfl rfl rfl ?_
        refine ev_iload (pc' := 86) dX7_chain_84 rfl rfl ?_
        refine ev_iald (pc' := 87) dX7_chain_86 rfl rfl ?_ ?_
        · exact hvk
        rw [ek]
        refine ev_iload (pc' := 89) dX7_chain_87 rfl rfl ?_
        refine ev_icmp_ne (tgt := 143) (pc' := 92) dX7_chain_89 (by decide) rfl (fun h_89 => ?_) (fun h_89 => ?_)
        · have fin := skip (fun z => h_89 z.2.1)
          refine ev_iinc (pc' := 146) (ls' := [_, _, _, _, _, _, _, _]) dX7_chain_143 rfl rfl rfl rfl rfl ?_
          refine ev_goto (tgt := 62) dX7_chain_146 (by decide) ?_
          rw [nI_p1]
          exact fin
        · refine ev_aload_n (pc' := 93) dX7_chain_92 rfl rfl ?_
          refine ev_getf (pc' := 96) fl_7_101 dX7_chain_93 rfl rfl rfl ?_
          refine ev_iload (pc' := 98) dX7_chain_96 rfl rfl ?_
          refine ev_iald (pc' := 99) dX7_chain_98 rfl rfl ?_ ?_
          · exact hvk
          rw [ek]
          refine ev_iload_n (pc' := 100) dX7_chain_99 rfl rfl ?_
          refine ev_icmp_ne (tgt := 143) (pc' := 103) dX7_chain_100 (by decide) rfl (fun h_100 => ?_) (fun h_100 => ?_)
          · have fin := skip (fun z => h_100 z.2.2.1)
            refine ev_iinc (pc' := 146) (ls' := [_, _, _, _, _, _, _, _]) dX7_chain_143 rfl rfl rfl rfl rfl ?_
            refine ev_goto (tgt := 62) dX7_chain_146 (by decide) ?_
            rw [nI_p1]
            exact fin
          · refine ev_aload_n (pc' := 104) dX7_chain_103 rfl rfl ?_
            refine ev_getf (pc' := 107) fl_7_104 dX7_chain_104 rfl rfl rfl ?_
            refine ev_iload (pc' := 109) dX7_chain_107 rfl rfl ?_
            refine ev_iald (pc' := 110) dX7_chain_109 rfl rfl ?_ ?_
            · exact hvk
            rw [ek]
            refine ev_iload_n (pc' := 111) dX7_chain_110 rfl rfl ?_
            refine ev_icmp_ne (tgt := 143) (pc' := 114) dX7_chain_111 (by decide) rfl (fun h_111 => ?_) (fun h_111 => ?_)
            · have fin := skip (fun z => h_111 z.2.2.2.1)
              refine ev_iinc (pc' := 146) (ls' := [_, _, _, _, _, _, _, _]) dX7_chain_143 rfl rfl rfl rfl rfl ?_
              refine ev_goto (tgt := 62) dX7_chain_146 (by decide) ?_
              rw [nI_p1]
              exact fin
            · refine ev_aload_n (pc' := 115) dX7_chain_114 rfl rfl ?_
              refine ev_getf (pc' := 118) fl_7_122 dX7_chain_115 rfl rfl rfl ?_
              refine ev_iload (pc' := 120) dX7_chain_118 rfl rfl ?_
              refine ev_iald (pc' := 121) dX7_chain_120 rfl rfl ?_ ?_
              · exact hvk
              rw [ek]
              refine ev_if_le (tgt := 127) (pc' := 124) dX7_chain_121 (by decide) rfl (fun h_121 => ?_) (fun h_121 => ?_)
              · refine ev_iinc (pc' := 130) (ls' := [_, _, _, _, _, _, _, _]) dX7_chain_127 rfl rfl rfl rfl rfl ?_
                rw [nI_m1]
                refine ev_iload (pc' := 132) dX7_chain_130 rfl rfl ?_
                refine ev_if_ne (tgt := 143) (pc' := 135) dX7_chain_132 (by decide) rfl (fun h_132 => ?_) (fun h_132 => ?_)
                · have fin := hit ⟨Int32.not_lt.mp h_77, h_89, h_100, h_111, h_121⟩ h_132
                  refine ev_iinc (pc' := 146) (ls' := [_, _, _, _, _, _, _, _]) dX7_chain_143 rfl rfl rfl rfl rfl ?_
                  refine ev_goto (tgt := 62) dX7_chain_146 (by decide) ?_
                  rw [nI_p1]
                  exact fin
                · refine ev_aload_n (pc' := 136) dX7_chain_135 rfl rfl ?_
                  refine ev_getf (pc' := 139) fl_7_98 dX7_chain_136 rfl rfl rfl ?_
                  refine ev_iload (pc' := 141) dX7_chain_139 rfl rfl ?_
                  refine ev_iald (pc' := 142) dX7_chain_141 rfl rfl ?_ ?_
                  · exact hvk
                  rw [ek]
                  refine ev_ireturn rfl dX7_chain_142 ?_
                  exact got ⟨Int32.not_lt.mp h_77, h_89, h_100, h_111, h_121⟩ h_132
              · have fin := skip (fun z => h_121 z.2.2.2.2)
                refine ev_goto (tgt := 143) dX7_chain_124 (by decide) ?_
                refine ev_iinc (pc' := 146) (ls' := [_, _, _, _, _, _, _, _]) dX7_chain_143 rfl rfl rfl rfl rfl ?_
                refine ev_goto (tgt := 62) dX7_chain_146 (by decide) ?_
                rw [nI_p1]
                exact fin
theorem m_chain_out {d : Nat} (G : RS) (τ : TS) (p y n : Nat) (x3 : Int32) (hp : p < 8) (hy : y < 400) (hn : n ≤ 120) : ∀ (c dd : Nat) (left : Int32) (z7 : Option Value), dd + c = 400 → Ev d M7_chain (rt (some (.int (c_all G p y n c dd left))) (WM G τ)) 51 [some (.ref 0), some (.int (nI p)), some (.int (nI y)), some (.int x3), some (.int (nI n)), some (.int left), some (.int (nI dd)), z7] [] (WM G τ) := by
  intro c
  induction c with
  | zero =>
    intro dd left z7 hd
    have hd : dd = 400 := by omega
    subst hd
    refine ev_iload (pc' := 53) dX7_chain_51 rfl rfl ?_
    refine ev_sipush (pc' := 56) (v := 400) dX7_chain_53 rfl (by decide) ?_
    refine ev_icmp_ge (tgt := 155) (pc' := 59) dX7_chain_56 (by decide) rfl (fun h_56 => ?_) (fun h_56 => ?_)
    · refine ev_iconst (pc' := 156) (v := -1) dX7_chain_155 rfl (by decide) ?_
      refine ev_ireturn rfl dX7_chain_156 ?_
      exact ⟨rfl, rfl⟩
    · exact absurd (show (400 : Int32) ≤ nI 400 from nI_le (a := 400) (by omega) (by omega)) h_56 --
  | succ c ih =>
    intro dd left z7 hd
    obtain ⟨v, hv⟩ : ∃ v, v = c_all G p y n (c + 1) dd left := ⟨_, rfl⟩
    rw [← hv]
    rw [c_all] at hv
    have kk : (c_day G p y dd n 0 left).2 = none → Ev d M7_chain (rt (some (.int v)) (WM G τ)) 149 [some (.ref 0), some (.int (nI p)), some (.int (nI y)), some (.int x3), some (.int (nI n)), some (.int (c_day G p y dd n 0 left).1), some (.int (nI dd)), some (.int (nI n))] [] (WM G τ) := by
      intro h
      rw [h] at hv
      have ih2 := ih (dd + 1) (c_day G p y dd n 0 left).1 (some (.int (nI n))) (by omega)
      rw [show c_all G p y n c (dd + 1) (c_day G p y dd n 0 left).1 = v from hv.symm] at ih2
      refine ev_iinc (pc' := 152) (ls' := [_, _, _, _, _, _, _, _]) dX7_chain_149 rfl rfl rfl rfl rfl ?_
      refine ev_goto (tgt := 51) dX7_chain_152 (by decide) ?_
      rw [nI_p1]
      exact ih2
    have k2 : ∀ u, (c_day G p y dd n 0 left).2 = some u → rt (some (.int v)) (WM G τ) (some (.int u)) (WM G τ) := by
      intro u h
      rw [h] at hv
      rw [show v = u from hv]
      exact ⟨rfl, rfl⟩
    refine ev_iload (pc' := 53) dX7_chain_51 rfl rfl ?_
    refine ev_sipush (pc' := 56) (v := 400) dX7_chain_53 rfl (by decide) ?_
    refine ev_icmp_ge (tgt := 155) (pc' := 59) dX7_chain_56 (by decide) rfl (fun h_56 => ?_) (fun h_56 => ?_)
    · exact absurd h_56 (nI_ge (b := 400) (by omega) (by omega)) --
    · refine ev_iconst (pc' := 60) (v := 0) dX7_chain_59 rfl (by decide) ?_
      refine ev_istore (pc' := 62) (ls' := [_, _, _, _, _, _, _, _]) dX7_chain_60 rfl rfl rfl ?_
      exact m_chain_in G τ p y dd n x3 hp hy (by omega) hn (fun _ _ => trivial) n 0 left (by omega) kk k2
theorem m_chain_no {d : Nat} (σ : RS) (τ : TS) (p y i x : Int32) (hg : ¬ (q_leaf σ p y x = true ∧ 0 ≤ i)) : Ok (d + 6) M7_chain [.ref 0, .int p, .int y, .int i, .int x] (WM σ τ) (rt (some (.int (-1))) (WM σ τ)) := by
  unfold q_leaf at hg
  refine Ok.of (ls := [some _, some _, some _, some _, some _, none, none, none]) (by decide +kernel) (Nat.le_of_ble_eq_true rfl) rfl ?_
  refine ev_aload_n (pc' := 1) dX7_chain_0 rfl rfl ?_
  refine ev_iload_n (pc' := 2) dX7_chain_1 rfl rfl ?_
  refine ev_cVi1 (pc' := 5) cl_7_272 (m_isPerson _ _ _) dX7_chain_2 rfl rfl rfl rfl ?_
  refine ev_if_eq (tgt := 28) (pc' := 8) dX7_chain_5 (by decide) rfl (fun h_5 => ?_) (fun h_5 => ?_)
  · rw [bI_0] at h_5
    refine ev_iconst (pc' := 29) (v := -1) dX7_chain_28 rfl (by decide) ?_
    refine ev_ireturn rfl dX7_chain_29 ?_
    exact ⟨rfl, rfl⟩
  · rw [bI_0, Bool.not_eq_false] at h_5
    refine ev_iload_n (pc' := 9) dX7_chain_8 rfl rfl ?_
    refine ev_cSi1 (pc' := 12) cl_7_269 (m_isDay _ _) dX7_chain_9 rfl rfl ?_
    refine ev_if_eq (tgt := 28) (pc' := 15) dX7_chain_12 (by decide) rfl (fun h_12 => ?_) (fun h_12 => ?_)
    · rw [bI_0] at h_12
      refine ev_iconst (pc' := 29) (v := -1) dX7_chain_28 rfl (by decide) ?_
      refine ev_ireturn rfl dX7_chain_29 ?_
      exact ⟨rfl, rfl⟩
    · rw [bI_0, Bool.not_eq_false] at h_12
      refine ev_iload_n (pc' := 16) dX7_chain_15 rfl rfl ?_
      refine ev_if_lt (tgt := 28) (pc' := 19) dX7_chain_16 (by decide) rfl (fun h_16 => ?_) (fun h_16 => ?_)
      · refine ev_iconst (pc' := 29) (v := -1) dX7_chain_28 rfl (by decide) ?_
        refine ev_ireturn rfl dX7_chain_29 ?_
        exact ⟨rfl, rfl⟩
      · refine ev_aload_n (pc' := 20) dX7_chain_19 rfl rfl ?_
        refine ev_iload (pc' := 22) dX7_chain_20 rfl rfl ?_
        refine ev_cVi1 (pc' := 25) cl_7_326 (m_isKnown _ _ _) dX7_chain_22 rfl rfl rfl rfl ?_
        refine ev_if_ne (tgt := 30) (pc' := 28) dX7_chain_25 (by decide) rfl (fun h_25 => ?_) (fun h_25 => ?_)
        · rw [bI_0, Bool.not_eq_false] at h_25
          exact absurd ⟨by rw [h_5, h_12, h_25]; rfl, Int32.not_lt.mp h_16⟩ hg --
        · refine ev_iconst (pc' := 29) (v := -1) dX7_chain_28 rfl (by decide) ?_
          refine ev_ireturn rfl dX7_chain_29 ?_
          exact ⟨rfl, rfl⟩
theorem m_chain {d : Nat} (σ : RS) (τ : TS) (P N l m p y n : Nat) (i : Int32) (hS : mS P N l m σ) (hp : p < P) (hy : y < 400) (hn : n ≤ N) (hi : 0 ≤ i) : Ok (d + 6) M7_chain [.ref 0, .int (nI p), .int (nI y), .int i, .int (nI n)] (WM σ τ) (rt (some (.int (if i = 0 then nI p else c_all (g_gone P l m n 399 σ) p y n 400 0 i))) (WM (g_gone P l m n 399 σ) τ)) := by
  have hP := hS.1
  have hN := hS.2.1
  have hc := hS.goes (d := d) τ hn (show 399 < 400 by omega)
  generalize g_gone P l m n 399 σ = G at *
  refine Ok.of (ls := [some _, some _, some _, some _, some _, none, none, none]) (by decide +kernel) (Nat.le_of_ble_eq_true rfl) rfl ?_
  refine ev_aload_n (pc' := 1) dX7_chain_0 rfl rfl ?_
  refine ev_iload_n (pc' := 2) dX7_chain_1 rfl rfl ?_
  refine ev_cVi1 (pc' := 5) cl_7_272 (m_isPerson _ _ _) dX7_chain_2 rfl rfl rfl rfl ?_
  refine ev_if_eq (tgt := 28) (pc' := 8) dX7_chain_5 (by decide) rfl (fun h_5 => ?_) (fun h_5 => ?_)
  · exact absurd h_5 (by rw [hS.2.2.1, isP_t hS.1 hp]; decide) --
  · refine ev_iload_n (pc' := 9) dX7_chain_8 rfl rfl ?_
    refine ev_cSi1 (pc' := 12) cl_7_269 (m_isDay _ _) dX7_chain_9 rfl rfl ?_
    refine ev_if_eq (tgt := 28) (pc' := 15) dX7_chain_12 (by decide) rfl (fun h_12 => ?_) (fun h_12 => ?_)
    · exact absurd h_12 (by rw [isD_t hy]; decide) --
    · refine ev_iload_n (pc' := 16) dX7_chain_15 rfl rfl ?_
      refine ev_if_lt (tgt := 28) (pc' := 19) dX7_chain_16 (by decide) rfl (fun h_16 => ?_) (fun h_16 => ?_)
      · exact absurd h_16 (Int32.not_lt.mpr hi) --
      · refine ev_aload_n (pc' := 20) dX7_chain_19 rfl rfl ?_
        refine ev_iload (pc' := 22) dX7_chain_20 rfl rfl ?_
        refine ev_cVi1 (pc' := 25) cl_7_326 (m_isKnown _ _ _) dX7_chain_22 rfl rfl rfl rfl ?_
        refine ev_if_ne (tgt := 30) (pc' := 28) dX7_chain_25 (by decide) rfl (fun h_25 => ?_) (fun h_25 => ?_)
        · refine ev_aload_n (pc' := 31) dX7_chain_30 rfl rfl ?_
          refine ev_iload (pc' := 33) dX7_chain_31 rfl rfl ?_
          refine ev_sipush (pc' := 36) (v := 399) dX7_chain_33 rfl (by decide) ?_
          refine ev_cVv2 (pc' := 39) cl_7_333 (hc) dX7_chain_36 rfl rfl rfl rfl ?_
          refine ev_iload_n (pc' := 40) dX7_chain_39 rfl rfl ?_
          refine ev_if_ne (tgt := 45) (pc' := 43) dX7_chain_40 (by decide) rfl (fun h_40 => ?_) (fun h_40 => ?_)
          · rw [if_neg h_40]
            refine ev_iload_n (pc' := 46) dX7_chain_45 rfl rfl ?_
            refine ev_istore (pc' := 48) (ls' := [_, _, _, _, _, _, _, _]) dX7_chain_46 rfl rfl rfl ?_
            refine ev_iconst (pc' := 49) (v := 0) dX7_chain_48 rfl (by decide) ?_
            refine ev_istore (pc' := 51) (ls' := [_, _, _, _, _, _, _, _]) dX7_chain_49 rfl rfl rfl ?_
            exact m_chain_out G τ p y n i (by omega) hy (by omega) 400 0 i _ (by omega)
          · rw [if_pos h_40]
            refine ev_iload_n (pc' := 44) dX7_chain_43 rfl rfl ?_
            refine ev_ireturn rfl dX7_chain_44 ?_
            exact ⟨rfl, rfl⟩
        · exact absurd h_25 (by rw [hS.2.2.2.1, isN_t hS.2.1 hn]; decide) --
def q_cnt (G : RS) (P k : Nat) : Bool := decide (¬ G 26 k = G 27 k) && decide (0 < m_awk (G 31) (G 26 k) (nt (G 25 k)) P)
theorem m_isCounted {d : Nat} (G : RS) (τ : TS) (P N l m k : Nat) (hS : mS P N l m G) (hk : k < N) : Ok (d + 1) M7_isCounted [.ref 0, .int (nI k)] (WM G τ) (rt (some (.int (bI (q_cnt G P k)))) (WM G τ)) := by
  have hN := hS.2.1
  have ek : (nI k).toNatClampNeg = k := nI_clamp (by omega)
  obtain ⟨s, q, a, b, p, y, w, hf⟩ := hS.2.2.2.2.2 k hk
  obtain ⟨⟨b1, b2, b3, b4, b5, b6, b7⟩, g1, g2, g3, g4, g5, g6, g7⟩ := hf
  obtain ⟨v, hv⟩ : ∃ v, v = q_cnt G P k := ⟨_, rfl⟩
  rw [← hv]
  unfold q_cnt at hv
  rw [g2, nt_nI (by omega)] at hv
  refine Ok.of (ls := [some _, some _]) (by decide +kernel) (Nat.le_of_ble_eq_true rfl) rfl ?_
  refine ev_aload_n (pc' := 1) dX7_isCounted_0 rfl rfl ?_
  refine ev_getf (pc' := 4) fl_7_95 dX7_isCounted_1 rfl rfl rfl ?_
  refine ev_iload_n (pc' := 5) dX7_isCounted_4 rfl rfl ?_
  refine ev_iald (pc' := 6) dX7_isCounted_5 rfl rfl ?_ ?_
  · exact vp_in_nI (by omega) (by omega)
  rw [ek]
  refine ev_aload_n (pc' := 7) dX7_isCounted_6 rfl rfl ?_
  refine ev_getf (pc' := 10) fl_7_98 dX7_isCounted_7 rfl rfl rfl ?_
  refine ev_iload_n (pc' := 11) dX7_isCounted_10 rfl rfl ?_
  refine ev_iald (pc' := 12) dX7_isCounted_11 rfl rfl ?_ ?_
  · exact vp_in_nI (by omega) (by omega)
  rw [ek]
  refine ev_icmp_eq (tgt := 38) (pc' := 15) dX7_isCounted_12 (by decide) rfl (fun h_12 => ?_) (fun h_12 => ?_)
  · rw [decide_eq_false (fun z => z h_12), Bool.false_and] at hv
    refine ev_iconst (pc' := 39) (v := 0) dX7_isCounted_38 rfl (by decide) ?_
    refine ev_zreturn rfl rfl dX7_isCounted_39 ?_
    rw [hv]
    exact ⟨rfl, rfl⟩
  · rw [decide_eq_true h_12, Bool.true_and] at hv
    refine ev_aload_n (pc' := 16) dX7_isCounted_15 rfl rfl ?_
    refine ev_aload_n (pc' := 17) dX7_isCounted_16 rfl rfl ?_
    refine ev_getf (pc' := 20) fl_7_95 dX7_isCounted_17 rfl rfl rfl ?_
    refine ev_iload_n (pc' := 21) dX7_isCounted_20 rfl rfl ?_
    refine ev_iald (pc' := 22) dX7_isCounted_21 rfl rfl ?_ ?_
    · exact vp_in_nI (by omega) (by omega)
    rw [ek]
    refine ev_aload_n (pc' := 23) dX7_isCounted_22 rfl rfl ?_
    refine ev_getf (pc' := 26) fl_7_92 dX7_isCounted_23 rfl rfl rfl ?_
    refine ev_iload_n (pc' := 27) dX7_isCounted_26 rfl rfl ?_
    refine ev_iald (pc' := 28) dX7_isCounted_27 rfl rfl ?_ ?_
    · exact vp_in_nI (by omega) (by omega)
    rw [ek, g2]
    refine ev_cVi2 (pc' := 31) cl_7_336 (m_awakeOf G τ _ q P b2 hS.1 hS.2.2.1) dX7_isCounted_28 rfl rfl rfl rfl ?_
    refine ev_if_le (tgt := 38) (pc' := 34) dX7_isCounted_31 (by decide) rfl (fun h_31 => ?_) (fun h_31 => ?_)
    · rw [decide_eq_false (Int32.not_lt.mpr h_31)] at hv
      refine ev_iconst (pc' := 39) (v := 0) dX7_isCounted_38 rfl (by decide) ?_
      refine ev_zreturn rfl rfl dX7_isCounted_39 ?_
      rw [hv]
      exact ⟨rfl, rfl⟩
    · rw [decide_eq_true (Int32.not_le.mp h_31)] at hv
      refine ev_iconst (pc' := 35) (v := 1) dX7_isCounted_34 rfl (by decide) ?_
      refine ev_goto (tgt := 39) dX7_isCounted_35 (by decide) ?_
      refine ev_zreturn rfl rfl dX7_isCounted_39 ?_
      rw [hv]
      exact ⟨rfl, rfl⟩
def q_said (σ : RS) (f x : Int32) : Bool := b_isFirst (σ 0 39) x && decide (0 ≤ f ∧ f < x ∧ σ 24 (nt f) = 5)
theorem q_said_of {P N l m : Nat} {σ : RS} {f x : Int32} (hS : mS P N l m σ) (h : q_said σ f x = true) : ∃ k n : Nat, k < n ∧ n ≤ N ∧ f = nI k ∧ x = nI n ∧ σ 24 k = 5 := by
  unfold q_said at h
  rw [Bool.and_eq_true] at h
  obtain ⟨h1, h2⟩ := h
  obtain ⟨h2, h3, h4⟩ := of_decide_eq_true h2
  obtain ⟨k, n, k1, k2, k3, k4⟩ := q_in hS h1 (Int32.not_lt.mpr h2) h3
  have hN := hS.2.1
  rw [k3, nt_nI (by omega)] at h4
  exact ⟨k, n, k1, k2, k3, k4, h4⟩
theorem m_counts_no {d : Nat} (σ : RS) (τ : TS) (P N l m : Nat) (hS : mS P N l m σ) (f x : Int32) (hg : ¬ q_said σ f x = true) : Ok (d + 6) M7_counts [.ref 0, .int f, .int x] (WM σ τ) (rt (some (.int (-1))) (WM σ τ)) := by
  unfold q_said at hg
  refine Ok.of (ls := [some _, some _, some _]) (by decide +kernel) (Nat.le_of_ble_eq_true rfl) rfl ?_
  refine ev_aload_n (pc' := 1) dX7_counts_0 rfl rfl ?_
  refine ev_iload_n (pc' := 2) dX7_counts_1 rfl rfl ?_
  refine ev_cVi1 (pc' := 5) cl_7_326 (m_isKnown _ _ _) dX7_counts_2 rfl rfl rfl rfl ?_
  refine ev_if_eq (tgt := 27) (pc' := 8) dX7_counts_5 (by decide) rfl (fun h_5 => ?_) (fun h_5 => ?_)
  · refine ev_iconst (pc' := 28) (v := -1) dX7_counts_27 rfl (by decide) ?_
    refine ev_ireturn rfl dX7_counts_28 ?_
    exact ⟨rfl, rfl⟩
  · rw [bI_0, Bool.not_eq_false] at h_5
    refine ev_iload_n (pc' := 9) dX7_counts_8 rfl rfl ?_
    refine ev_if_lt (tgt := 27) (pc' := 12) dX7_counts_9 (by decide) rfl (fun h_9 => ?_) (fun h_9 => ?_)
    · refine ev_iconst (pc' := 28) (v := -1) dX7_counts_27 rfl (by decide) ?_
      refine ev_ireturn rfl dX7_counts_28 ?_
      exact ⟨rfl, rfl⟩
    · refine ev_iload_n (pc' := 13) dX7_counts_12 rfl rfl ?_
      refine ev_iload_n (pc' := 14) dX7_counts_13 rfl rfl ?_
      refine ev_icmp_ge (tgt := 27) (pc' := 17) dX7_counts_14 (by decide) rfl (fun h_14 => ?_) (fun h_14 => ?_)
      · refine ev_iconst (pc' := 28) (v := -1) dX7_counts_27 rfl (by decide) ?_
        refine ev_ireturn rfl dX7_counts_28 ?_
        exact ⟨rfl, rfl⟩
      · have hv := q_vp hS h_5 h_9 (Int32.not_le.mp h_14)
        refine ev_aload_n (pc' := 18) dX7_counts_17 rfl rfl ?_
        refine ev_getf (pc' := 21) fl_7_89 dX7_counts_18 rfl rfl rfl ?_
        refine ev_iload_n (pc' := 22) dX7_counts_21 rfl rfl ?_
        refine ev_iald (pc' := 23) dX7_counts_22 rfl rfl ?_ ?_
        · exact hv
        refine ev_iconst (pc' := 24) (v := 5) dX7_counts_23 rfl (by decide) ?_
        refine ev_icmp_eq (tgt := 29) (pc' := 27) dX7_counts_24 (by decide) rfl (fun h_24 => ?_) (fun h_24 => ?_)
        · exact absurd (by rw [h_5, Bool.true_and]; exact decide_eq_true ⟨Int32.not_lt.mp h_9, Int32.not_le.mp h_14, h_24⟩) hg --
        · refine ev_iconst (pc' := 28) (v := -1) dX7_counts_27 rfl (by decide) ?_
          refine ev_ireturn rfl dX7_counts_28 ?_
          exact ⟨rfl, rfl⟩
theorem m_counts {d : Nat} (σ : RS) (τ : TS) (P N l m k n : Nat) (hS : mS P N l m σ) (hk : k < n) (hn : n ≤ N) (h5 : σ 24 k = 5) : Ok (d + 6) M7_counts [.ref 0, .int (nI k), .int (nI n)] (WM σ τ) (rt (some (.int (bI (q_cnt (g_gone P l m n 399 σ) P k)))) (WM (g_gone P l m n 399 σ) τ)) := by
  have hN := hS.2.1
  have ek : (nI k).toNatClampNeg = k := nI_clamp (by omega)
  have hc := hS.goes (d := d) τ hn (show 399 < 400 by omega)
  have hS2 := hS.gk (g_gone_gk P l m n 399 σ)
  generalize g_gone P l m n 399 σ = G at *
  obtain ⟨v, hv⟩ : ∃ v, v = q_cnt G P k := ⟨_, rfl⟩
  have hI := m_isCounted (d := d + 4) G τ P N l m k hS2 (by omega)
  rw [← hv] at hI ⊢
  refine Ok.of (ls := [some _, some _, some _]) (by decide +kernel) (Nat.le_of_ble_eq_true rfl) rfl ?_
  refine ev_aload_n (pc' := 1) dX7_counts_0 rfl rfl ?_
  refine ev_iload_n (pc' := 2) dX7_counts_1 rfl rfl ?_
  refine ev_cVi1 (pc' := 5) cl_7_326 (m_isKnown _ _ _) dX7_counts_2 rfl rfl rfl rfl ?_
  refine ev_if_eq (tgt := 27) (pc' := 8) dX7_counts_5 (by decide) rfl (fun h_5 => ?_) (fun h_5 => ?_)
  · exact absurd h_5 (by rw [hS.2.2.2.1, isN_t hS.2.1 hn]; decide) --
  · refine ev_iload_n (pc' := 9) dX7_counts_8 rfl rfl ?_
    refine ev_if_lt (tgt := 27) (pc' := 12) dX7_counts_9 (by decide) rfl (fun h_9 => ?_) (fun h_9 => ?_)
    · exact absurd h_9 (nI_pos (by omega)) --
    · refine ev_iload_n (pc' := 13) dX7_counts_12 rfl rfl ?_
      refine ev_iload_n (pc' := 14) dX7_counts_13 rfl rfl ?_
      refine ev_icmp_ge (tgt := 27) (pc' := 17) dX7_counts_14 (by decide) rfl (fun h_14 => ?_) (fun h_14 => ?_)
      · exact absurd h_14 (nI_ge (by omega) (by omega)) --
      · refine ev_aload_n (pc' := 18) dX7_counts_17 rfl rfl ?_
        refine ev_getf (pc' := 21) fl_7_89 dX7_counts_18 rfl rfl rfl ?_
        refine ev_iload_n (pc' := 22) dX7_counts_21 rfl rfl ?_
        refine ev_iald (pc' := 23) dX7_counts_22 rfl rfl ?_ ?_
        · exact vp_in_nI (by omega) (by omega)
        rw [ek, h5]
        refine ev_iconst (pc' := 24) (v := 5) dX7_counts_23 rfl (by decide) ?_
        refine ev_icmp_eq (tgt := 29) (pc' := 27) dX7_counts_24 (by decide) rfl (fun h_24 => ?_) (fun h_24 => ?_)
        · refine ev_aload_n (pc' := 30) dX7_counts_29 rfl rfl ?_
          refine ev_iload_n (pc' := 31) dX7_counts_30 rfl rfl ?_
          refine ev_sipush (pc' := 34) (v := 399) dX7_counts_31 rfl (by decide) ?_
          refine ev_cVv2 (pc' := 37) cl_7_333 (hc) dX7_counts_34 rfl rfl rfl rfl ?_
          refine ev_aload_n (pc' := 38) dX7_counts_37 rfl rfl ?_
          refine ev_iload_n (pc' := 39) dX7_counts_38 rfl rfl ?_
          refine ev_cVi1 (pc' := 42) cl_7_339 (hI) dX7_counts_39 rfl rfl rfl rfl ?_
          refine ev_if_eq (tgt := 49) (pc' := 45) dX7_counts_42 (by decide) rfl (fun h_42 => ?_) (fun h_42 => ?_)
          · rw [bI_0] at h_42
            rw [h_42]
            refine ev_iconst (pc' := 50) (v := 0) dX7_counts_49 rfl (by decide) ?_
            refine ev_ireturn rfl dX7_counts_50 ?_
            exact ⟨rfl, rfl⟩
          · rw [bI_0, Bool.not_eq_false] at h_42
            rw [h_42]
            refine ev_iconst (pc' := 46) (v := 1) dX7_counts_45 rfl (by decide) ?_
            refine ev_goto (tgt := 50) dX7_counts_46 (by decide) ?_
            refine ev_ireturn rfl dX7_counts_50 ?_
            exact ⟨rfl, rfl⟩
        · exact absurd rfl h_24 --
