/-! The model cuts its text. -/
def m_bt (σ : RS) : Nat → Int32 := fun i => σ 2 i &&& 255
theorem m_bt_nI (σ : RS) (i : Nat) : ∃ b : Nat, b < 256 ∧ m_bt σ i = nI b := by
  have h : (m_bt σ i).toBitVec = (σ 2 i).toBitVec &&& 255#32 := rfl
  have h2 : ((σ 2 i).toBitVec &&& 255#32).toNat ≤ 255 := by
    rw [BitVec.toNat_and]
    exact Nat.and_le_right
  refine ⟨((σ 2 i).toBitVec &&& 255#32).toNat, by omega, ?_⟩
  apply Int32.toBitVec_inj.mp
  rw [h]
  apply BitVec.eq_of_toNat_eq
  show _ = (Int32.ofNat _).toBitVec.toNat
  rw [show (Int32.ofNat ((σ 2 i).toBitVec &&& 255#32).toNat).toBitVec = BitVec.ofNat 32 ((σ 2 i).toBitVec &&& 255#32).toNat from rfl, BitVec.toNat_ofNat, Nat.mod_eq_of_lt (by omega)]
theorem m_bt_pos (σ : RS) (i : Nat) : ¬ m_bt σ i = -1 := by
  obtain ⟨b, h1, h2⟩ := m_bt_nI σ i
  rw [h2]
  intro z
  have := nI_pos (n := b) (by omega)
  rw [z] at this
  exact this (by decide)
def m_cb (σ : RS) (n i : Nat) : Int32 := if i < n then m_bt σ i else 0
def tpos (n : Nat) (t : Nat → Int32) : Nat → Nat
  | 0 => 0
  | j + 1 => (x_tok n t (tpos n t j)).2.2.2
def tkn (n : Nat) (t : Nat → Int32) (j : Nat) : Nat × Int32 × Int32 × Nat := x_tok n t (tpos n t j)
theorem x_tok_nb {n : Nat} {t : Nat → Int32} {i : Nat} (hi : i < n) (hb : ¬ x_blank (t i) = true) : x_tok n t i = x_tokAt n t i := by
  unfold x_tok
  obtain ⟨c, hc⟩ : ∃ c, n - i = c + 1 := ⟨n - i - 1, by omega⟩
  rw [hc, x_skip, if_neg hb]
theorem x_tok_b {n : Nat} {t : Nat → Int32} {i : Nat} (hi : i < n) (hb : x_blank (t i) = true) : x_tok n t i = x_tok n t (i + 1) := by
  unfold x_tok
  obtain ⟨c, hc⟩ : ∃ c, n - i = c + 1 := ⟨n - i - 1, by omega⟩
  rw [hc, x_skip, if_pos hb, show n - (i + 1) = c by omega]
theorem x_tok_end (n : Nat) (t : Nat → Int32) : x_tok n t n = (n, 17, 0, n) := by
  unfold x_tok
  rw [Nat.sub_self, x_skip]
  unfold x_tokAt
  rw [if_pos (by unfold x_byte; rw [if_neg (Nat.lt_irrefl n)])]
def tk_ent (n : Nat) (t : Nat → Int32) (j : Nat) (σ' : RS) : Prop := tk_rel (tkn n t j).2.1 (tkn n t j).2.2.1 (σ' 3 j) ∧ σ' 4 j = nI (tkn n t j).1 ∧ ((tkn n t j).2.1 = 6 → σ' 5 j = (tkn n t j).2.2.1)
def cut_ok (σ : RS) (n : Nat) (J : Nat) (σ' : RS) : Prop := (∀ c, c ≠ 0 → c ≠ 3 → c ≠ 4 → c ≠ 5 → σ' c = σ c) ∧ (∀ j, j ≠ 10 → σ' 0 j = σ 0 j) ∧ σ' 0 10 = nI J ∧ ∀ j, j < J → tk_ent n (m_bt σ) j σ'
theorem cut_tok {σ : RS} {n J : Nat} {σ' : RS} (h : cut_ok σ n J σ') {k p v : Int32} (h1 : tk_rel (tkn n (m_bt σ) J).2.1 (tkn n (m_bt σ) J).2.2.1 k) (h2 : p = nI (tkn n (m_bt σ) J).1) (h3 : (tkn n (m_bt σ) J).2.1 = 6 → v = (tkn n (m_bt σ) J).2.2.1) : cut_ok σ n (J + 1) (m_tok σ' J k p v) := by
  obtain ⟨g1, g2, g3, g4⟩ := h
  refine ⟨fun c c0 c3 c4 c5 => ?_, fun j hj => ?_, rfl, fun j hj => ?_⟩
  · unfold m_tok
    rw [show (s2 (s1 (s1 (s1 σ' 3 (upd (σ' 3) J k)) 4 (upd (σ' 4) J p)) 5 (upd (σ' 5) J v)) 0 10 (nI (J + 1))) c = (s1 (s1 (s1 σ' 3 (upd (σ' 3) J k)) 4 (upd (σ' 4) J p)) 5 (upd (σ' 5) J v)) c from s1_ne _ _ c0, s1_ne _ _ c5, s1_ne _ _ c4, s1_ne _ _ c3]
    exact g1 c c0 c3 c4 c5
  · exact (upd_ne _ _ hj).trans (g2 j hj)
  · by_cases e : j = J
    · subst e
      exact ⟨by rw [show (m_tok σ' j k p v) 3 j = k from upd_same _ _ _]; exact h1, (upd_same _ _ _).trans h2, fun z => (upd_same _ _ _).trans (h3 z)⟩
    · obtain ⟨q1, q2, q3⟩ := g4 j (by omega)
      exact ⟨by rw [show (m_tok σ' J k p v) 3 j = σ' 3 j from upd_ne _ _ e]; exact q1, (upd_ne _ _ e).trans q2, fun z => (upd_ne _ _ e).trans (q3 z)⟩
def cut_end (σ : RS) (n : Nat) (σ' : RS) : Prop := ∃ J, cut_ok σ n J σ' ∧ (401 ≤ J ∨ ∃ j, j < J ∧ (tkn n (m_bt σ) j).2.1 = 17)
def cutQ (σ : RS) (τ : TS) (n : Nat) (v : Option Value) (w : MW) : Prop := v = none ∧ ∃ σ' τ', w = WM σ' τ' ∧ τ' 7 = τ 7 ∧ cut_end σ n σ'
theorem m_atb {d : Nat} {σ σ' : RS} (τ : TS) {n J : Nat} (h : cut_ok σ n J σ') (h4 : σ 0 4 = nI n) (hn : n ≤ 2000) (i : Nat) (hi : i < 2 ^ 31) : Ok d M7_at [.ref 0, .int (nI i)] (WM σ' τ) (rt (some (.int (m_cb σ n i))) (WM σ' τ)) := by
  have := m_at (d := d) σ' τ n i hn hi (by rw [h.2.1 4 (by omega)]; exact h4)
  rw [h.1 2 (by omega) (by omega) (by omega) (by omega)] at this
  exact this
theorem m_letters {d : Nat} {Q : Option Value → MW → Prop} {σ σ' : RS} {τ : TS} {n J s : Nat} {x2 : Int32} {z6 z7 : Option Value} (h : cut_ok σ n J σ') (h4 : σ 0 4 = nI n) (hn : n ≤ 2000) : ∀ (c m : Nat), s + m + c = n → (∀ i, i < m → x_letter (m_bt σ (s + i)) = true) → (∀ m', s + m' = x_skip x_letter (m_bt σ) c (s + m) → (∀ i, i < m' → x_letter (m_bt σ (s + i)) = true) → Ev (d + 1) M7_cut Q 124 [some (.ref 0), some (.int (nI s)), some (.int x2), some (.int (nI m')), some (.long (lN (nvr (tlf (m_bt σ) s (min m' 8))))), none, z6, z7] [] (WM σ' τ)) → Ev (d + 1) M7_cut Q 85 [some (.ref 0), some (.int (nI s)), some (.int x2), some (.int (nI m)), some (.long (lN (nvr (tlf (m_bt σ) s (min m 8))))), none, z6, z7] [] (WM σ' τ) := by
  intro c
  induction c with
  | zero =>
    intro m hc hl kk
    have e1 : nI s + nI m = nI (s + m) := nI_add s m
    have ec : m_cb σ n (s + m) = 0 := if_neg (by omega)
    refine ev_aload_n (pc' := 86) dX7_cut_85 rfl rfl ?_
    refine ev_iload_n (pc' := 87) dX7_cut_86 rfl rfl ?_
    refine ev_iload_n (pc' := 88) dX7_cut_87 rfl rfl ?_
    refine ev_iadd (pc' := 89) dX7_cut_88 rfl ?_
    rw [e1]
    refine ev_cVi1 (pc' := 92) cl_7_181 (m_atb τ h h4 hn _ (by omega)) dX7_cut_89 rfl rfl rfl rfl ?_
    rw [ec]
    refine ev_cSi1 (pc' := 95) cl_7_189 (m_isLetter _ _) dX7_cut_92 rfl rfl ?_
    refine ev_if_eq (tgt := 124) (pc' := 98) dX7_cut_95 (by decide) rfl (fun h_95 => ?_) (fun h_95 => ?_)
    · exact kk m rfl hl --
    · rw [show x_letter 0 = false from by decide] at h_95
      exact absurd rfl h_95 --
  | succ c ih =>
    intro m hc hl kk
    have e1 : nI s + nI m = nI (s + m) := nI_add s m
    have ec : m_cb σ n (s + m) = m_bt σ (s + m) := if_pos (by omega)
    rw [x_skip] at kk
    refine ev_aload_n (pc' := 86) dX7_cut_85 rfl rfl ?_
    refine ev_iload_n (pc' := 87) dX7_cut_86 rfl rfl ?_
    refine ev_iload_n (pc' := 88) dX7_cut_87 rfl rfl ?_
    refine ev_iadd (pc' := 89) dX7_cut_88 rfl ?_
    rw [e1]
    refine ev_cVi1 (pc' := 92) cl_7_181 (m_atb τ h h4 hn _ (by omega)) dX7_cut_89 rfl rfl rfl rfl ?_
    rw [ec]
    refine ev_cSi1 (pc' := 95) cl_7_189 (m_isLetter _ _) dX7_cut_92 rfl rfl ?_
    refine ev_if_eq (tgt := 124) (pc' := 98) dX7_cut_95 (by decide) rfl (fun h_95 => ?_) (fun h_95 => ?_)
    · rw [bI_0] at h_95
      rw [if_neg (by rw [h_95]; decide)] at kk
      exact kk m rfl hl --
    · rw [bI_0, Bool.not_eq_false] at h_95
      rw [if_pos h_95] at kk
      have hl2 : ∀ i, i < m + 1 → x_letter (m_bt σ (s + i)) = true := fun i hi => by
        by_cases e : i = m
        · rw [e]; exact h_95
        · exact hl i (by omega)
      refine ev_iload_n (pc' := 99) dX7_cut_98 rfl rfl ?_
      refine ev_bipush (pc' := 101) (v := 8) dX7_cut_99 rfl (by decide) ?_
      refine ev_icmp_ge (tgt := 118) (pc' := 104) dX7_cut_101 (by decide) rfl (fun h_101 => ?_) (fun h_101 => ?_)
      · rw [show (8 : Int32) = nI 8 from rfl, nI_leI (by omega) (by omega)] at h_101
        have em : min m 8 = min (m + 1) 8 := by omega
        rw [em]
        refine ev_iinc (pc' := 121) (ls' := [_, _, _, _, _, _, _, _]) dX7_cut_118 rfl rfl rfl rfl rfl ?_
        refine ev_goto (tgt := 85) dX7_cut_121 (by decide) ?_
        rw [nI_p1]
        try rw [ename]
        exact ih (m + 1) (by omega) hl2 kk
      · rw [show (8 : Int32) = nI 8 from rfl, nI_leI (by omega) (by omega)] at h_101
        have em : min m 8 = m := by omega
        have em2 : min (m + 1) 8 = m + 1 := by omega
        obtain ⟨dd, d1, d2, d3, d4⟩ := letter_nt h_95
        have ename : m_more' (lN (nvr (tlf (m_bt σ) s (min m 8)))) (m_bt σ (s + m)) = lN (nvr (tlf (m_bt σ) s (min (m + 1) 8))) := by
          rw [em, em2, tlf, nvr, d4, d3]
          unfold m_more'
          rw [if_neg (nI_ne0 (by omega) (by omega)), show (97 : Int32) = nI 97 from rfl, show nI (96 + dd) - nI 97 + 1 = nI (96 + dd - 96) from by
            obtain ⟨q, rfl⟩ : ∃ q, dd = q + 1 := ⟨dd - 1, by omega⟩
            rw [nI_sub (by omega), nI_1]; congr 1; omega, nI_l (by omega), show (27 : Int64) = lN 27 from rfl, lN_mul, lN_add]
        refine ev_lload (pc' := 106) dX7_cut_104 rfl rfl ?_
        refine ev_aload_n (pc' := 107) dX7_cut_106 rfl rfl ?_
        refine ev_iload_n (pc' := 108) dX7_cut_107 rfl rfl ?_
        refine ev_iload_n (pc' := 109) dX7_cut_108 rfl rfl ?_
        refine ev_iadd (pc' := 110) dX7_cut_109 rfl ?_
        rw [e1]
        refine ev_cVi1 (pc' := 113) cl_7_181 (m_atb τ h h4 hn _ (by omega)) dX7_cut_110 rfl rfl rfl rfl ?_
        rw [ec]
        refine ev_cSi2 (pc' := 116) cl_7_174 (m_more _ _ _) dX7_cut_113 rfl rfl ?_
        refine ev_lstore (pc' := 118) (ls' := [_, _, _, _, _, _, _, _]) dX7_cut_116 rfl rfl rfl ?_
        refine ev_iinc (pc' := 121) (ls' := [_, _, _, _, _, _, _, _]) dX7_cut_118 rfl rfl rfl rfl rfl ?_
        refine ev_goto (tgt := 85) dX7_cut_121 (by decide) ?_
        rw [nI_p1]
        try rw [ename]
        exact ih (m + 1) (by omega) hl2 kk
theorem m_kw {d : Nat} {Q : Option Value → MW → Prop} {σ' : RS} {τ : TS} {nm : Int64} {x1 x2 x3 : Int32} : ∀ (c k : Nat) (x : Int32), k + c = 14 → (∀ z7, Ev d M7_cut Q 179 [some (.ref 0), some (.int x1), some (.int x2), some (.int x3), some (.long nm), none, some (.int (mw_find τ nm c k x)), z7] [] (WM σ' τ)) → Ev d M7_cut Q 146 [some (.ref 0), some (.int x1), some (.int x2), some (.int x3), some (.long nm), none, some (.int x), some (.int (nI k))] [] (WM σ' τ) := by
  intro c
  induction c with
  | zero =>
    intro k x hc kk
    have hc : k = 14 := by omega
    subst hc
    refine ev_iload (pc' := 148) dX7_cut_146 rfl rfl ?_
    refine ev_bipush (pc' := 150) (v := 14) dX7_cut_148 rfl (by decide) ?_
    refine ev_icmp_ge (tgt := 179) (pc' := 153) dX7_cut_150 (by decide) rfl (fun h_150 => ?_) (fun h_150 => ?_)
    · exact kk _ --
    · exact absurd (show (14 : Int32) ≤ nI 14 from nI_le (a := 14) (by omega) (by omega)) h_150 --
  | succ c ih =>
    intro k x hc kk
    have ek : (nI k).toNatClampNeg = k := nI_clamp (by omega)
    rw [mw_find] at kk
    refine ev_iload (pc' := 148) dX7_cut_146 rfl rfl ?_
    refine ev_bipush (pc' := 150) (v := 14) dX7_cut_148 rfl (by decide) ?_
    refine ev_icmp_ge (tgt := 179) (pc' := 153) dX7_cut_150 (by decide) rfl (fun h_150 => ?_) (fun h_150 => ?_)
    · exact absurd h_150 (nI_ge (b := 14) (by omega) (by omega)) --
    · refine ev_aload_n (pc' := 154) dX7_cut_153 rfl rfl ?_
      refine ev_getf (pc' := 157) fl_7_34 dX7_cut_154 rfl rfl rfl ?_
      refine ev_iload (pc' := 159) dX7_cut_157 rfl rfl ?_
      refine ev_lald (pc' := 160) dX7_cut_159 rfl rfl ?_ ?_
      · exact vp_in_nI (by omega) (by omega)
      rw [ek]
      refine ev_lload (pc' := 162) dX7_cut_160 rfl rfl ?_
      refine ev_lcmp (pc' := 163) dX7_cut_162 rfl ?_
      refine ev_if_ne (tgt := 173) (pc' := 166) dX7_cut_163 (by decide) rfl (fun h_163 => ?_) (fun h_163 => ?_)
      · rw [lg_cmp_eq] at h_163
        rw [if_neg h_163] at kk
        refine ev_iinc (pc' := 176) (ls' := [_, _, _, _, _, _, _, _]) dX7_cut_173 rfl rfl rfl rfl rfl ?_
        refine ev_goto (tgt := 146) dX7_cut_176 (by decide) ?_
        rw [nI_p1]
        exact ih (k + 1) _ (by omega) kk
      · rw [lg_cmp_eq] at h_163
        rw [if_pos h_163] at kk
        refine ev_bipush (pc' := 168) (v := 20) dX7_cut_166 rfl (by decide) ?_
        refine ev_iload (pc' := 170) dX7_cut_168 rfl rfl ?_
        refine ev_iadd (pc' := 171) dX7_cut_170 rfl ?_
        refine ev_istore (pc' := 173) (ls' := [_, _, _, _, _, _, _, _]) dX7_cut_171 rfl rfl rfl ?_
        refine ev_iinc (pc' := 176) (ls' := [_, _, _, _, _, _, _, _]) dX7_cut_173 rfl rfl rfl rfl rfl ?_
        refine ev_goto (tgt := 146) dX7_cut_176 (by decide) ?_
        rw [nI_p1]
        exact ih (k + 1) _ (by omega) kk
theorem m_ints {d : Nat} {Q : Option Value → MW → Prop} {σ σ' : RS} {τ : TS} {n J s : Nat} {x2 : Int32} {z5 z6 z7 : Option Value} (h : cut_ok σ n J σ') (h4 : σ 0 4 = nI n) (hn : n ≤ 2000) : ∀ (c m : Nat) (v v' : Int32), s + m + c = n → (m ≤ 4 → v = v') → (∀ m' v, s + m' = x_skip x_digit (m_bt σ) c (s + m) → (m' ≤ 4 → v = (x_int (m_bt σ) c (s + m) v').2) → Ev (d + 1) M7_cut Q 250 [some (.ref 0), some (.int (nI s)), some (.int x2), some (.int (nI m')), some (.int v), z5, z6, z7] [] (WM σ' τ)) → Ev (d + 1) M7_cut Q 208 [some (.ref 0), some (.int (nI s)), some (.int x2), some (.int (nI m)), some (.int v), z5, z6, z7] [] (WM σ' τ) := by
  intro c
  induction c with
  | zero =>
    intro m v v' hc hv kk
    have e1 : nI s + nI m = nI (s + m) := nI_add s m
    have ec : m_cb σ n (s + m) = 0 := if_neg (by omega)
    refine ev_aload_n (pc' := 209) dX7_cut_208 rfl rfl ?_
    refine ev_iload_n (pc' := 210) dX7_cut_209 rfl rfl ?_
    refine ev_iload_n (pc' := 211) dX7_cut_210 rfl rfl ?_
    refine ev_iadd (pc' := 212) dX7_cut_211 rfl ?_
    rw [e1]
    refine ev_cVi1 (pc' := 215) cl_7_181 (m_atb τ h h4 hn _ (by omega)) dX7_cut_212 rfl rfl rfl rfl ?_
    rw [ec]
    refine ev_cSi1 (pc' := 218) cl_7_193 (m_isDigit _ _) dX7_cut_215 rfl rfl ?_
    refine ev_if_eq (tgt := 250) (pc' := 221) dX7_cut_218 (by decide) rfl (fun h_218 => ?_) (fun h_218 => ?_)
    · exact kk m v rfl hv --
    · rw [show x_digit 0 = false from by decide] at h_218
      exact absurd rfl h_218 --
  | succ c ih =>
    intro m v v' hc hv kk
    have e1 : nI s + nI m = nI (s + m) := nI_add s m
    have ec : m_cb σ n (s + m) = m_bt σ (s + m) := if_pos (by omega)
    rw [x_skip, x_int] at kk
    refine ev_aload_n (pc' := 209) dX7_cut_208 rfl rfl ?_
    refine ev_iload_n (pc' := 210) dX7_cut_209 rfl rfl ?_
    refine ev_iload_n (pc' := 211) dX7_cut_210 rfl rfl ?_
    refine ev_iadd (pc' := 212) dX7_cut_211 rfl ?_
    rw [e1]
    refine ev_cVi1 (pc' := 215) cl_7_181 (m_atb τ h h4 hn _ (by omega)) dX7_cut_212 rfl rfl rfl rfl ?_
    rw [ec]
    refine ev_cSi1 (pc' := 218) cl_7_193 (m_isDigit _ _) dX7_cut_215 rfl rfl ?_
    refine ev_if_eq (tgt := 250) (pc' := 221) dX7_cut_218 (by decide) rfl (fun h_218 => ?_) (fun h_218 => ?_)
    · rw [bI_0] at h_218
      rw [if_neg (by rw [h_218]; decide), if_neg (by rw [h_218]; decide)] at kk
      exact kk m v rfl hv --
    · rw [bI_0, Bool.not_eq_false] at h_218
      rw [if_pos h_218, if_pos h_218] at kk
      refine ev_iload_n (pc' := 222) dX7_cut_221 rfl rfl ?_
      refine ev_iconst (pc' := 223) (v := 4) dX7_cut_222 rfl (by decide) ?_
      refine ev_icmp_ge (tgt := 244) (pc' := 226) dX7_cut_223 (by decide) rfl (fun h_223 => ?_) (fun h_223 => ?_)
      · rw [show (4 : Int32) = nI 4 from rfl, nI_leI (by omega) (by omega)] at h_223
        have hv2 : m + 1 ≤ 4 → v = v' * 10 + m_bt σ (s + m) - 48 := fun z => by omega
        refine ev_iinc (pc' := 247) (ls' := [_, _, _, _, _, _, _, _]) dX7_cut_244 rfl rfl rfl rfl rfl ?_
        refine ev_goto (tgt := 208) dX7_cut_247 (by decide) ?_
        rw [nI_p1]
        exact ih (m + 1) _ _ (by omega) hv2 kk
      · rw [show (4 : Int32) = nI 4 from rfl, nI_leI (by omega) (by omega)] at h_223
        have hv2 : m + 1 ≤ 4 → 10 * v + m_bt σ (s + m) - 48 = v' * 10 + m_bt σ (s + m) - 48 := fun _ => by rw [hv (by omega), Int32.mul_comm]
        refine ev_bipush (pc' := 228) (v := 10) dX7_cut_226 rfl (by decide) ?_
        refine ev_iload (pc' := 230) dX7_cut_228 rfl rfl ?_
        refine ev_imul (pc' := 231) dX7_cut_230 rfl ?_
        refine ev_aload_n (pc' := 232) dX7_cut_231 rfl rfl ?_
        refine ev_iload_n (pc' := 233) dX7_cut_232 rfl rfl ?_
        refine ev_iload_n (pc' := 234) dX7_cut_233 rfl rfl ?_
        refine ev_iadd (pc' := 235) dX7_cut_234 rfl ?_
        rw [e1]
        refine ev_cVi1 (pc' := 238) cl_7_181 (m_atb τ h h4 hn _ (by omega)) dX7_cut_235 rfl rfl rfl rfl ?_
        rw [ec]
        refine ev_iadd (pc' := 239) dX7_cut_238 rfl ?_
        refine ev_bipush (pc' := 241) (v := 48) dX7_cut_239 rfl (by decide) ?_
        refine ev_isub (pc' := 242) dX7_cut_241 rfl ?_
        refine ev_istore (pc' := 244) (ls' := [_, _, _, _, _, _, _, _]) dX7_cut_242 rfl rfl rfl ?_
        refine ev_iinc (pc' := 247) (ls' := [_, _, _, _, _, _, _, _]) dX7_cut_244 rfl rfl rfl rfl rfl ?_
        refine ev_goto (tgt := 208) dX7_cut_247 (by decide) ?_
        rw [nI_p1]
        exact ih (m + 1) _ _ (by omega) hv2 kk
theorem wk_no : ∀ w : Fin 14, ¬ x_wk (some w.val) = 6 ∧ ¬ x_wk (some w.val) = 17 := by decide +kernel
theorem wk_no' {s e : Nat} {t : Nat → Int32} : ¬ x_wk (x_find s e t 14 0) = 6 ∧ ¬ x_wk (x_find s e t 14 0) = 17 := by
  cases hf : x_find s e t 14 0 with
  | none => exact ⟨by decide, by decide⟩
  | some w => exact wk_no ⟨w, by have := x_find_lt _ _ _ _ _ _ hf; omega⟩
theorem m_cut_end {d : Nat} {σ : RS} {τ : TS} {n : Nat} (hn : n ≤ 2000) (h4 : σ 0 4 = nI n) (J : Nat) (σ' : RS) (τ' : TS) (z2 z3 z4 z5 z6 z7 : Option Value) (hJ : J ≤ 401) (ht : τ' 7 = τ 7) (h : cut_ok σ n J σ') (hx : x_tok n (m_bt σ) n = tkn n (m_bt σ) J) : Ev (d + 2) M7_cut (cutQ σ τ n) 7 [some (.ref 0), some (.int (nI n)), z2, z3, z4, z5, z6, z7] [] (WM σ' τ') := by
  rw [x_tok_end] at hx
  have g10 : σ' 0 10 = nI J := h.2.2.1
  have g4 : σ' 0 4 = nI n := (h.2.1 4 (by omega)).trans h4
  refine ev_aload_n (pc' := 8) dX7_cut_7 rfl rfl ?_
  refine ev_getf (pc' := 11) fl_7_178 dX7_cut_8 rfl rfl rfl ?_
  rw [g10]
  refine ev_sipush (pc' := 14) (v := 400) dX7_cut_11 rfl (by decide) ?_
  refine ev_icmp_gt (tgt := 294) (pc' := 17) dX7_cut_14 (by decide) rfl (fun h_14 => ?_) (fun h_14 => ?_)
  · refine ev_return rfl dX7_cut_294 ?_
    refine ⟨rfl, σ', τ', rfl, ht, J, h, Or.inl ?_⟩
    have := Nat.lt_of_not_le (fun z => absurd h_14 (Int32.not_lt.mpr (nI_le (b := 400) z (by omega))))
    omega
  · refine ev_aload_n (pc' := 18) dX7_cut_17 rfl rfl ?_
    refine ev_iload_n (pc' := 19) dX7_cut_18 rfl rfl ?_
    refine ev_cVi1 (pc' := 22) cl_7_181 (m_atb τ' h h4 hn _ (by omega)) dX7_cut_19 rfl rfl rfl rfl ?_
    refine ev_istore_n (pc' := 23) (ls' := [_, _, _, _, _, _, _, _]) dX7_cut_22 rfl rfl rfl ?_
    refine ev_iload_n (pc' := 24) dX7_cut_23 rfl rfl ?_
    refine ev_aload_n (pc' := 25) dX7_cut_24 rfl rfl ?_
    refine ev_getf (pc' := 28) fl_7_169 dX7_cut_25 rfl rfl rfl ?_
    refine ev_icmp_lt (tgt := 43) (pc' := 31) dX7_cut_28 (by decide) rfl (fun h_28 => ?_) (fun h_28 => ?_)
    · exact absurd h_28 (by rw [g4]; exact nI_nlt (Nat.le_refl _) (by omega)) --
    · refine ev_aload_n (pc' := 32) dX7_cut_31 rfl rfl ?_
      refine ev_iconst (pc' := 33) (v := 0) dX7_cut_32 rfl (by decide) ?_
      refine ev_aload_n (pc' := 34) dX7_cut_33 rfl rfl ?_
      refine ev_getf (pc' := 37) fl_7_169 dX7_cut_34 rfl rfl rfl ?_
      rw [g4]
      refine ev_iconst (pc' := 38) (v := 0) dX7_cut_37 rfl (by decide) ?_
      refine ev_lconst (pc' := 39) (v := 0) dX7_cut_38 rfl rfl ?_
      refine ev_cVv4 (pc' := 42) cl_7_185 (m_token σ' τ' J (by
  have := Nat.le_of_not_lt (fun z => h_14 (nI_lt (a := 400) z (by omega)))
  omega) g10 _ _ _ _) dX7_cut_39 rfl rfl rfl rfl ?_
      refine ev_return rfl dX7_cut_42 ?_
      refine ⟨rfl, _, _, rfl, ?_, J + 1, cut_tok h (by rw [← hx]; exact rfl) (by rw [← hx]) (by rw [← hx]; intro z; exact absurd (show (17 : Int32) = 6 from z) (by decide)), Or.inr ⟨J, by omega, by rw [← hx]⟩⟩
      exact ht
theorem m_cut_loop {d : Nat} {σ : RS} {τ : TS} {n : Nat} (hn : n ≤ 2000) (h4 : σ 0 4 = nI n) (hk : keysok τ) : ∀ (c i J : Nat) (σ' : RS) (τ' : TS) (z2 z3 z4 z5 z6 z7 : Option Value), n - i ≤ c → i ≤ n → J ≤ 401 → τ' 7 = τ 7 → cut_ok σ n J σ' → x_tok n (m_bt σ) i = tkn n (m_bt σ) J → Ev (d + 2) M7_cut (cutQ σ τ n) 7 [some (.ref 0), some (.int (nI i)), z2, z3, z4, z5, z6, z7] [] (WM σ' τ') := by
  intro c
  induction c with
  | zero =>
    intro i J σ' τ' z2 z3 z4 z5 z6 z7 hc hi hJ ht h hx
    have hi : i = n := by omega
    subst hi
    exact m_cut_end hn h4 J σ' τ' _ _ _ _ _ _ hJ ht h hx
  | succ c ih =>
    intro i J σ' τ' z2 z3 z4 z5 z6 z7 hc hi hJ ht h hx
    by_cases hin : i = n
    · subst hin
      exact m_cut_end hn h4 J σ' τ' _ _ _ _ _ _ hJ ht h hx
    have hin : i < n := by omega
    have g10 : σ' 0 10 = nI J := h.2.2.1
    have g4 : σ' 0 4 = nI n := (h.2.1 4 (by omega)).trans h4
    have ec : m_cb σ n i = m_bt σ i := if_pos hin
    have hk' : keysok τ' := fun w hw => by rw [ht]; exact hk w hw
    have hbt := m_bt_pos σ i
    have exb : x_byte n (m_bt σ) i = m_bt σ i := if_pos hin
    have go : ∀ (i' : Nat) (k p v : Int32) (nm : Int64) (z2 z3 z4 z5 z6 z7 : Option Value), J ≤ 400 → i < i' → i' ≤ n → i' = (tkn n (m_bt σ) J).2.2.2 → cut_ok σ n (J + 1) (m_tok σ' J k p v) → Ev (d + 2) M7_cut (cutQ σ τ n) 7 [some (.ref 0), some (.int (nI i')), z2, z3, z4, z5, z6, z7] [] (WM (m_tok σ' J k p v) (l1 τ' 6 (vp_updL (τ' 6) J nm))) := by
      intro i' k p v nm z2 z3 z4 z5 z6 z7 hJ4 h1 h2 h3 h4
      exact ih i' (J + 1) _ _ _ _ _ _ _ _ (by omega) h2 (by omega) ht h4 (by rw [h3]; rfl)
    have kT : ∀ (m' : Nat) (x x2 : Int32) (nm : Int64) (z7 : Option Value), J ≤ 400 → ¬ x_blank (m_bt σ i) = true → x_letter (m_bt σ i) = true → i + m' = x_skip x_letter (m_bt σ) (n - i) i → tk_rel (x_wk (x_find i (i + m') (m_bt σ) 14 0)) (x_wv 0 (x_find i (i + m') (m_bt σ) 14 0)) x → Ev (d + 2) M7_cut (cutQ σ τ n) 179 [some (.ref 0), some (.int (nI i)), some (.int x2), some (.int (nI m')), some (.long nm), none, some (.int x), z7] [] (WM σ' τ') := by
      intro m' x x2 nm z7 hJ4 hb hl hm hr
      have hsk := x_skip_le x_letter (m_bt σ) (n - i) i
      have hm1 : 0 < m' := by
        obtain ⟨q, hq⟩ : ∃ q, n - i = q + 1 := ⟨n - i - 1, by omega⟩
        rw [hq, x_skip, if_pos hl] at hm
        have := x_skip_le x_letter (m_bt σ) q (i + 1)
        omega
      rw [x_tok_nb hin hb, x_tokAt, exb, if_neg hbt, if_pos hl, ← hm] at hx
      have em : nI i + nI m' = nI (i + m') := nI_add _ _
      refine ev_aload_n (pc' := 180) dX7_cut_179 rfl rfl ?_
      refine ev_iload (pc' := 182) dX7_cut_180 rfl rfl ?_
      refine ev_iload_n (pc' := 183) dX7_cut_182 rfl rfl ?_
      refine ev_iconst (pc' := 184) (v := 0) dX7_cut_183 rfl (by decide) ?_
      refine ev_lload (pc' := 186) dX7_cut_184 rfl rfl ?_
      refine ev_cVv4 (pc' := 189) cl_7_185 (m_token σ' τ' J (by omega) g10 _ _ _ _) dX7_cut_186 rfl rfl rfl rfl ?_
      refine ev_iload_n (pc' := 190) dX7_cut_189 rfl rfl ?_
      refine ev_iload_n (pc' := 191) dX7_cut_190 rfl rfl ?_
      refine ev_iadd (pc' := 192) dX7_cut_191 rfl ?_
      refine ev_istore_n (pc' := 193) (ls' := [_, _, _, _, _, _, _, _]) dX7_cut_192 rfl rfl rfl ?_
      refine ev_goto (tgt := 291) dX7_cut_193 (by decide) ?_
      refine ev_goto (tgt := 7) dX7_cut_291 (by decide) ?_
      rw [em]
      exact go (i + m') x _ 0 nm _ _ _ _ _ _ hJ4 (by omega) (by omega) (by rw [← hx]) (cut_tok h (by rw [← hx]; exact hr) (by rw [← hx]) (by rw [← hx]; intro z; exact absurd z wk_no'.1))
    have kL : ∀ (m' : Nat) (x2 : Int32) (z6 z7 : Option Value), J ≤ 400 → ¬ x_blank (m_bt σ i) = true → x_letter (m_bt σ i) = true → i + m' = x_skip x_letter (m_bt σ) (n - i) (i + 0) → (∀ j, j < m' → x_letter (m_bt σ (i + j)) = true) → Ev (d + 2) M7_cut (cutQ σ τ n) 124 [some (.ref 0), some (.int (nI i)), some (.int x2), some (.int (nI m')), some (.long (lN (nvr (tlf (m_bt σ) i (min m' 8))))), none, z6, z7] [] (WM σ' τ') := by
      intro m' x2 z6 z7 hJ4 hb hl hm hls
      have hsk := x_skip_le x_letter (m_bt σ) (n - i) i
      have hm : i + m' = x_skip x_letter (m_bt σ) (n - i) i := hm
      have long : 7 < m' → ∀ x : Int32, x = 1 ∨ x = 3 → tk_rel (x_wk (x_find i (i + m') (m_bt σ) 14 0)) (x_wv 0 (x_find i (i + m') (m_bt σ) 14 0)) x := fun z x hx => by
        rw [x_find_long _ (by omega)]
        exact hx
      refine ev_iload_n (pc' := 125) dX7_cut_124 rfl rfl ?_
      refine ev_bipush (pc' := 127) (v := 8) dX7_cut_125 rfl (by decide) ?_
      refine ev_icmp_le (tgt := 134) (pc' := 130) dX7_cut_127 (by decide) rfl (fun h_127 => ?_) (fun h_127 => ?_)
      · rw [show (8 : Int32) = nI 8 from rfl, nI_leI (by omega) (by omega)] at h_127
        refine ev_iconst (pc' := 135) (v := 1) dX7_cut_134 rfl (by decide) ?_
        refine ev_istore (pc' := 137) (ls' := [_, _, _, _, _, _, _, _]) dX7_cut_135 rfl rfl rfl ?_
        refine ev_iload_n (pc' := 138) dX7_cut_137 rfl rfl ?_
        refine ev_bipush (pc' := 140) (v := 7) dX7_cut_138 rfl (by decide) ?_
        refine ev_icmp_gt (tgt := 179) (pc' := 143) dX7_cut_140 (by decide) rfl (fun h_140 => ?_) (fun h_140 => ?_)
        · rw [show (7 : Int32) = nI 7 from rfl, nI_ltI (by omega) (by omega)] at h_140
          exact kT m' _ _ _ _ hJ4 hb hl hm (long (by omega) _ (by first | exact Or.inl rfl | exact Or.inr rfl))
        · rw [show (7 : Int32) = nI 7 from rfl, nI_ltI (by omega) (by omega)] at h_140
          refine ev_iconst (pc' := 144) (v := 0) dX7_cut_143 rfl (by decide) ?_
          refine ev_istore (pc' := 146) (ls' := [_, _, _, _, _, _, _, _]) dX7_cut_144 rfl rfl rfl ?_
          first
            | (exfalso; omega)
            | (rw [show min m' 8 = m' by omega]
               exact m_kw 14 0 1 rfl (fun z7 => kT m' _ _ _ _ hJ4 hb hl hm (word_rel hk' (by omega) hls)))
      · rw [show (8 : Int32) = nI 8 from rfl, nI_leI (by omega) (by omega)] at h_127
        refine ev_iconst (pc' := 131) (v := 3) dX7_cut_130 rfl (by decide) ?_
        refine ev_goto (tgt := 135) dX7_cut_131 (by decide) ?_
        refine ev_istore (pc' := 137) (ls' := [_, _, _, _, _, _, _, _]) dX7_cut_135 rfl rfl rfl ?_
        refine ev_iload_n (pc' := 138) dX7_cut_137 rfl rfl ?_
        refine ev_bipush (pc' := 140) (v := 7) dX7_cut_138 rfl (by decide) ?_
        refine ev_icmp_gt (tgt := 179) (pc' := 143) dX7_cut_140 (by decide) rfl (fun h_140 => ?_) (fun h_140 => ?_)
        · rw [show (7 : Int32) = nI 7 from rfl, nI_ltI (by omega) (by omega)] at h_140
          exact kT m' _ _ _ _ hJ4 hb hl hm (long (by omega) _ (by first | exact Or.inl rfl | exact Or.inr rfl))
        · rw [show (7 : Int32) = nI 7 from rfl, nI_ltI (by omega) (by omega)] at h_140
          refine ev_iconst (pc' := 144) (v := 0) dX7_cut_143 rfl (by decide) ?_
          refine ev_istore (pc' := 146) (ls' := [_, _, _, _, _, _, _, _]) dX7_cut_144 rfl rfl rfl ?_
          first
            | (exfalso; omega)
            | (rw [show min m' 8 = m' by omega]
               exact m_kw 14 0 1 rfl (fun z7 => kT m' _ _ _ _ hJ4 hb hl hm (word_rel hk' (by omega) hls)))
    have kI : ∀ (m' : Nat) (x2 v : Int32) (z5 z6 z7 : Option Value), J ≤ 400 → ¬ x_blank (m_bt σ i) = true → ¬ x_letter (m_bt σ i) = true → x_digit (m_bt σ i) = true → i + m' = x_skip x_digit (m_bt σ) (n - i) (i + 0) → (m' ≤ 4 → v = (x_int (m_bt σ) (n - i) (i + 0) 0).2) → Ev (d + 2) M7_cut (cutQ σ τ n) 250 [some (.ref 0), some (.int (nI i)), some (.int x2), some (.int (nI m')), some (.int v), z5, z6, z7] [] (WM σ' τ') := by
      intro m' x2 v z5 z6 z7 hJ4 hb hl hd hm hv
      have hsk := x_skip_le x_digit (m_bt σ) (n - i) i
      have hm : i + m' = x_skip x_digit (m_bt σ) (n - i) i := hm
      have hm1 : 0 < m' := by
        obtain ⟨q, hq⟩ : ∃ q, n - i = q + 1 := ⟨n - i - 1, by omega⟩
        rw [hq, x_skip, if_pos hd] at hm
        have := x_skip_le x_digit (m_bt σ) q (i + 1)
        omega
      rw [x_tok_nb hin hb, x_tokAt, exb, if_neg hbt, if_neg hl, if_pos hd, ← hm, show i + m' - i = m' by omega] at hx
      have em : nI i + nI m' = nI (i + m') := nI_add _ _
      refine ev_aload_n (pc' := 251) dX7_cut_250 rfl rfl ?_
      refine ev_iload_n (pc' := 252) dX7_cut_251 rfl rfl ?_
      refine ev_iconst (pc' := 253) (v := 4) dX7_cut_252 rfl (by decide) ?_
      refine ev_icmp_le (tgt := 260) (pc' := 256) dX7_cut_253 (by decide) rfl (fun h_253 => ?_) (fun h_253 => ?_)
      · rw [show (4 : Int32) = nI 4 from rfl, nI_leI (by omega) (by omega)] at h_253
        rw [if_neg (by omega)] at hx
        refine ev_iconst (pc' := 261) (v := 2) dX7_cut_260 rfl (by decide) ?_
        refine ev_iload_n (pc' := 262) dX7_cut_261 rfl rfl ?_
        refine ev_iload (pc' := 264) dX7_cut_262 rfl rfl ?_
        refine ev_lconst (pc' := 265) (v := 0) dX7_cut_264 rfl rfl ?_
        refine ev_cVv4 (pc' := 268) cl_7_185 (m_token σ' τ' J (by omega) g10 _ _ _ _) dX7_cut_265 rfl rfl rfl rfl ?_
        refine ev_iload_n (pc' := 269) dX7_cut_268 rfl rfl ?_
        refine ev_iload_n (pc' := 270) dX7_cut_269 rfl rfl ?_
        refine ev_iadd (pc' := 271) dX7_cut_270 rfl ?_
        refine ev_istore_n (pc' := 272) (ls' := [_, _, _, _, _, _, _, _]) dX7_cut_271 rfl rfl rfl ?_
        refine ev_goto (tgt := 291) dX7_cut_272 (by decide) ?_
        refine ev_goto (tgt := 7) dX7_cut_291 (by decide) ?_
        rw [em]
        exact go (i + m') _ _ v 0 _ _ _ _ _ _ hJ4 (by omega) (by omega) (by rw [← hx]) (cut_tok h (by rw [← hx]; first | exact Or.inr rfl | exact rfl) (by rw [← hx]) (by rw [← hx]; intro z; first | exact hv (by omega) | exact absurd (show (18 : Int32) = 6 from z) (by decide)))
      · rw [show (4 : Int32) = nI 4 from rfl, nI_leI (by omega) (by omega)] at h_253
        rw [if_pos (by omega)] at hx
        refine ev_iconst (pc' := 257) (v := 3) dX7_cut_256 rfl (by decide) ?_
        refine ev_goto (tgt := 261) dX7_cut_257 (by decide) ?_
        refine ev_iload_n (pc' := 262) dX7_cut_261 rfl rfl ?_
        refine ev_iload (pc' := 264) dX7_cut_262 rfl rfl ?_
        refine ev_lconst (pc' := 265) (v := 0) dX7_cut_264 rfl rfl ?_
        refine ev_cVv4 (pc' := 268) cl_7_185 (m_token σ' τ' J (by omega) g10 _ _ _ _) dX7_cut_265 rfl rfl rfl rfl ?_
        refine ev_iload_n (pc' := 269) dX7_cut_268 rfl rfl ?_
        refine ev_iload_n (pc' := 270) dX7_cut_269 rfl rfl ?_
        refine ev_iadd (pc' := 271) dX7_cut_270 rfl ?_
        refine ev_istore_n (pc' := 272) (ls' := [_, _, _, _, _, _, _, _]) dX7_cut_271 rfl rfl rfl ?_
        refine ev_goto (tgt := 291) dX7_cut_272 (by decide) ?_
        refine ev_goto (tgt := 7) dX7_cut_291 (by decide) ?_
        rw [em]
        exact go (i + m') _ _ v 0 _ _ _ _ _ _ hJ4 (by omega) (by omega) (by rw [← hx]) (cut_tok h (by rw [← hx]; first | exact Or.inr rfl | exact rfl) (by rw [← hx]) (by rw [← hx]; intro z; first | exact hv (by omega) | exact absurd (show (18 : Int32) = 6 from z) (by decide)))
    have kS : ∀ (z3 z4 z5 z6 z7 : Option Value), J ≤ 400 → ¬ x_blank (m_bt σ i) = true → ¬ x_letter (m_bt σ i) = true → ¬ x_digit (m_bt σ i) = true → Ev (d + 2) M7_cut (cutQ σ τ n) 275 [some (.ref 0), some (.int (nI i)), some (.int (m_bt σ i)), z3, z4, z5, z6, z7] [] (WM σ' τ') := by
      intro z3 z4 z5 z6 z7 hJ4 hb hl hd
      rw [x_tok_nb hin hb, x_tokAt, exb, if_neg hbt, if_neg hl, if_neg hd] at hx
      have he : (m_cb σ n (i + 1) = 61) ↔ x_eq n (m_bt σ) (i + 1) = true := by
        unfold x_eq x_byte m_cb
        by_cases z : i + 1 < n
        · rw [if_pos z, if_pos z]; exact ⟨fun q => decide_eq_true q, fun q => of_decide_eq_true q⟩
        · rw [if_neg z, if_neg z]; decide
      obtain ⟨q1, q2, q3, q4, q5⟩ := sign_rel n (m_bt σ) i (m_bt σ i) (m_cb σ n (i + 1)) he
      have hp := x_sign_pos n (m_bt σ) i (m_bt σ i) hin
      have em : nI i + (if 0 < sg_two (m_bt σ i) (m_cb σ n (i + 1)) then (2 : Int32) else 1) = nI (i + (x_sign n (m_bt σ) i (m_bt σ i)).2) := by
        rw [q2]
        split
        · exact nI_add i 2
        · exact nI_add i 1
      have e1 : nI i + 1 = nI (i + 1) := nI_1 i
      refine ev_iload_n (pc' := 276) dX7_cut_275 rfl rfl ?_
      refine ev_aload_n (pc' := 277) dX7_cut_276 rfl rfl ?_
      refine ev_iload_n (pc' := 278) dX7_cut_277 rfl rfl ?_
      refine ev_iload_n (pc' := 279) dX7_cut_278 rfl rfl ?_
      refine ev_aload_n (pc' := 280) dX7_cut_279 rfl rfl ?_
      refine ev_iload_n (pc' := 281) dX7_cut_280 rfl rfl ?_
      refine ev_iconst (pc' := 282) (v := 1) dX7_cut_281 rfl (by decide) ?_
      refine ev_iadd (pc' := 283) dX7_cut_282 rfl ?_
      rw [e1]
      refine ev_cVi1 (pc' := 286) cl_7_181 (m_atb τ' h h4 hn _ (by omega)) dX7_cut_283 rfl rfl rfl rfl ?_
      refine ev_cVi3 (pc' := 289) cl_7_196 (m_sign σ' τ' J (by omega) g10 _ _ _) dX7_cut_286 rfl rfl rfl rfl ?_
      refine ev_iadd (pc' := 290) dX7_cut_289 rfl ?_
      refine ev_istore_n (pc' := 291) (ls' := [_, _, _, _, _, _, _, _]) dX7_cut_290 rfl rfl rfl ?_
      refine ev_goto (tgt := 7) dX7_cut_291 (by decide) ?_
      rw [em]
      exact go _ _ _ 0 0 _ _ _ _ _ _ hJ4 hp.1 hp.2 (by rw [← hx]) (cut_tok h (by rw [← hx]; exact q1) (by rw [← hx]) (by rw [← hx]; intro z; exact absurd z q5))
    have hJ4 : ¬ 400 < nI J → J ≤ 400 := fun z => Nat.le_of_not_lt (fun q => z (nI_lt (a := 400) q (by omega)))
    refine ev_aload_n (pc' := 8) dX7_cut_7 rfl rfl ?_
    refine ev_getf (pc' := 11) fl_7_178 dX7_cut_8 rfl rfl rfl ?_
    rw [g10]
    refine ev_sipush (pc' := 14) (v := 400) dX7_cut_11 rfl (by decide) ?_
    refine ev_icmp_gt (tgt := 294) (pc' := 17) dX7_cut_14 (by decide) rfl (fun h_14 => ?_) (fun h_14 => ?_)
    · refine ev_return rfl dX7_cut_294 ?_
      refine ⟨rfl, σ', τ', rfl, ht, J, h, Or.inl ?_⟩
      have := Nat.lt_of_not_le (fun z => absurd h_14 (Int32.not_lt.mpr (nI_le (b := 400) z (by omega))))
      omega
    · refine ev_aload_n (pc' := 18) dX7_cut_17 rfl rfl ?_
      refine ev_iload_n (pc' := 19) dX7_cut_18 rfl rfl ?_
      refine ev_cVi1 (pc' := 22) cl_7_181 (m_atb τ' h h4 hn _ (by omega)) dX7_cut_19 rfl rfl rfl rfl ?_
      rw [ec]
      refine ev_istore_n (pc' := 23) (ls' := [_, _, _, _, _, _, _, _]) dX7_cut_22 rfl rfl rfl ?_
      refine ev_iload_n (pc' := 24) dX7_cut_23 rfl rfl ?_
      refine ev_aload_n (pc' := 25) dX7_cut_24 rfl rfl ?_
      refine ev_getf (pc' := 28) fl_7_169 dX7_cut_25 rfl rfl rfl ?_
      refine ev_icmp_lt (tgt := 43) (pc' := 31) dX7_cut_28 (by decide) rfl (fun h_28 => ?_) (fun h_28 => ?_)
      · refine ev_iload_n (pc' := 44) dX7_cut_43 rfl rfl ?_
        refine ev_bipush (pc' := 46) (v := 9) dX7_cut_44 rfl (by decide) ?_
        refine ev_icmp_eq (tgt := 67) (pc' := 49) dX7_cut_46 (by decide) rfl (fun h_46 => ?_) (fun h_46 => ?_)
        · refine ev_iinc (pc' := 70) (ls' := [_, _, _, _, _, _, _, _]) dX7_cut_67 rfl rfl rfl rfl rfl ?_
          refine ev_goto (tgt := 291) dX7_cut_70 (by decide) ?_
          refine ev_goto (tgt := 7) dX7_cut_291 (by decide) ?_
          rw [nI_p1]
          exact ih (i + 1) J σ' τ' _ _ _ _ _ _ (by omega) (by omega) hJ ht h ((x_tok_b hin (decide_eq_true (by first | exact Or.inl h_46 | exact Or.inr (Or.inl h_52) | exact Or.inr (Or.inr (Or.inl h_58)) | exact Or.inr (Or.inr (Or.inr h_64))))).symm.trans hx)
        · refine ev_iload_n (pc' := 50) dX7_cut_49 rfl rfl ?_
          refine ev_bipush (pc' := 52) (v := 10) dX7_cut_50 rfl (by decide) ?_
          refine ev_icmp_eq (tgt := 67) (pc' := 55) dX7_cut_52 (by decide) rfl (fun h_52 => ?_) (fun h_52 => ?_)
          · refine ev_iinc (pc' := 70) (ls' := [_, _, _, _, _, _, _, _]) dX7_cut_67 rfl rfl rfl rfl rfl ?_
            refine ev_goto (tgt := 291) dX7_cut_70 (by decide) ?_
            refine ev_goto (tgt := 7) dX7_cut_291 (by decide) ?_
            rw [nI_p1]
            exact ih (i + 1) J σ' τ' _ _ _ _ _ _ (by omega) (by omega) hJ ht h ((x_tok_b hin (decide_eq_true (by first | exact Or.inl h_46 | exact Or.inr (Or.inl h_52) | exact Or.inr (Or.inr (Or.inl h_58)) | exact Or.inr (Or.inr (Or.inr h_64))))).symm.trans hx)
          · refine ev_iload_n (pc' := 56) dX7_cut_55 rfl rfl ?_
            refine ev_bipush (pc' := 58) (v := 13) dX7_cut_56 rfl (by decide) ?_
            refine ev_icmp_eq (tgt := 67) (pc' := 61) dX7_cut_58 (by decide) rfl (fun h_58 => ?_) (fun h_58 => ?_)
            · refine ev_iinc (pc' := 70) (ls' := [_, _, _, _, _, _, _, _]) dX7_cut_67 rfl rfl rfl rfl rfl ?_
              refine ev_goto (tgt := 291) dX7_cut_70 (by decide) ?_
              refine ev_goto (tgt := 7) dX7_cut_291 (by decide) ?_
              rw [nI_p1]
              exact ih (i + 1) J σ' τ' _ _ _ _ _ _ (by omega) (by omega) hJ ht h ((x_tok_b hin (decide_eq_true (by first | exact Or.inl h_46 | exact Or.inr (Or.inl h_52) | exact Or.inr (Or.inr (Or.inl h_58)) | exact Or.inr (Or.inr (Or.inr h_64))))).symm.trans hx)
            · refine ev_iload_n (pc' := 62) dX7_cut_61 rfl rfl ?_
              refine ev_bipush (pc' := 64) (v := 32) dX7_cut_62 rfl (by decide) ?_
              refine ev_icmp_ne (tgt := 73) (pc' := 67) dX7_cut_64 (by decide) rfl (fun h_64 => ?_) (fun h_64 => ?_)
              · have hb : ¬ x_blank (m_bt σ i) = true := fun z => by
                  rcases of_decide_eq_true z with q | q | q | q
                  · exact h_46 q
                  · exact h_52 q
                  · exact h_58 q
                  · exact h_64 q
                refine ev_iload_n (pc' := 74) dX7_cut_73 rfl rfl ?_
                refine ev_cSi1 (pc' := 77) cl_7_189 (m_isLetter _ _) dX7_cut_74 rfl rfl ?_
                refine ev_if_eq (tgt := 196) (pc' := 80) dX7_cut_77 (by decide) rfl (fun h_77 => ?_) (fun h_77 => ?_)
                · rw [bI_0] at h_77
                  have hl : ¬ x_letter (m_bt σ i) = true := by rw [h_77]; decide
                  refine ev_iload_n (pc' := 197) dX7_cut_196 rfl rfl ?_
                  refine ev_cSi1 (pc' := 200) cl_7_193 (m_isDigit _ _) dX7_cut_197 rfl rfl ?_
                  refine ev_if_eq (tgt := 275) (pc' := 203) dX7_cut_200 (by decide) rfl (fun h_200 => ?_) (fun h_200 => ?_)
                  · rw [bI_0] at h_200
                    exact kS _ _ _ _ _ (hJ4 h_14) hb hl (by rw [h_200]; decide) --
                  · rw [bI_0, Bool.not_eq_false] at h_200
                    refine ev_iconst (pc' := 204) (v := 0) dX7_cut_203 rfl (by decide) ?_
                    refine ev_istore_n (pc' := 205) (ls' := [_, _, _, _, _, _, _, _]) dX7_cut_204 rfl rfl rfl ?_
                    refine ev_iconst (pc' := 206) (v := 0) dX7_cut_205 rfl (by decide) ?_
                    refine ev_istore (pc' := 208) (ls' := [_, _, _, _, _, _, _, _]) dX7_cut_206 rfl rfl rfl ?_
                    exact m_ints h h4 hn (n - i) 0 0 0 (by omega) (fun _ => rfl) (fun m' v hm hv => kI m' _ v _ _ _ (hJ4 h_14) hb hl h_200 hm hv)
                · rw [bI_0, Bool.not_eq_false] at h_77
                  refine ev_iconst (pc' := 81) (v := 0) dX7_cut_80 rfl (by decide) ?_
                  refine ev_istore_n (pc' := 82) (ls' := [_, _, _, _, _, _, _, _]) dX7_cut_81 rfl rfl rfl ?_
                  refine ev_lconst (pc' := 83) (v := 0) dX7_cut_82 rfl rfl ?_
                  refine ev_lstore (pc' := 85) (ls' := [_, _, _, _, _, _, _, _]) dX7_cut_83 rfl rfl rfl ?_
                  exact m_letters h h4 hn (n - i) 0 (by omega) (fun j hj => by omega) (fun m' hm hls => kL m' _ _ _ (hJ4 h_14) hb h_77 hm hls)
              · refine ev_iinc (pc' := 70) (ls' := [_, _, _, _, _, _, _, _]) dX7_cut_67 rfl rfl rfl rfl rfl ?_
                refine ev_goto (tgt := 291) dX7_cut_70 (by decide) ?_
                refine ev_goto (tgt := 7) dX7_cut_291 (by decide) ?_
                rw [nI_p1]
                exact ih (i + 1) J σ' τ' _ _ _ _ _ _ (by omega) (by omega) hJ ht h ((x_tok_b hin (decide_eq_true (by first | exact Or.inl h_46 | exact Or.inr (Or.inl h_52) | exact Or.inr (Or.inr (Or.inl h_58)) | exact Or.inr (Or.inr (Or.inr h_64))))).symm.trans hx)
      · exact absurd (by rw [g4]; exact nI_lt hin (by omega)) h_28 --
theorem m_cut {d : Nat} {σ : RS} {τ : TS} {n : Nat} (hn : n ≤ 2000) (h4 : σ 0 4 = nI n) (hk : keysok τ) : Ok (d + 2) M7_cut [.ref 0] (WM σ τ) (cutQ σ τ n) := by
  refine Ok.of (ls := [some _, none, none, none, none, none, none, none]) (by decide +kernel) (Nat.le_of_ble_eq_true rfl) rfl ?_
  have h0 : cut_ok σ n 0 (s2 σ 0 10 0) := ⟨fun c c0 _ _ _ => s1_ne _ _ c0, fun j hj => upd_ne _ _ hj, rfl, fun j hj => by omega⟩
  refine ev_aload_n (pc' := 1) dX7_cut_0 rfl rfl ?_
  refine ev_iconst (pc' := 2) (v := 0) dX7_cut_1 rfl (by decide) ?_
  refine ev_putf (pc' := 5) fs_7_178 dX7_cut_2 rfl rfl (Nat.le_of_ble_eq_true rfl) (fun _ => rfl) (fun _ => rfl) (WM_p7_10 _ _ _) ?_
  refine ev_iconst (pc' := 6) (v := 0) dX7_cut_5 rfl (by decide) ?_
  refine ev_istore_n (pc' := 7) (ls' := [_, _, _, _, _, _, _, _]) dX7_cut_6 rfl rfl rfl ?_
  exact m_cut_loop hn h4 hk n 0 0 _ _ _ _ _ _ _ _ (by omega) (by omega) (by omega) rfl h0 rfl
