/-! The model, twelfth part: a paper is held. -/
/-- the numbers of a fact -/
def p_fact (σ : RS) (k s m a b p y w : Nat) : Prop := (s ≤ 5 ∧ m < 400 ∧ a < 8 ∧ b < 8 ∧ p < 8 ∧ y < 400 ∧ w < 120) ∧ σ 24 k = nI s ∧ σ 25 k = nI m ∧ σ 26 k = nI a ∧ σ 27 k = nI b ∧ σ 28 k = nI p ∧ σ 29 k = nI y ∧ σ 30 k = nI w
def a_vars (P : Nat) (σ : RS) (k : Nat) : RS :=
  let a := nt (σ 26 k)
  let b := nt (σ 27 k)
  let y := nt (σ 29 k)
  let x := 400 * nt (σ 28 k) + y
  s2 (s2 (s2 (s2 (s2 (s2 (s2 (s2 (s2 σ 39 0 (σ 26 k)) 39 1 (σ 27 k)) 39 2 (if σ 37 y = 0 then 0 else 1)) 39 3 (σ 29 k - σ 25 k)) 39 4 (σ 32 x)) 39 5 (if σ 28 k = σ 26 k then 1 else 0)) 39 6 (σ 33 (8 * b + a))) 39 7 (sumTo (fun o => σ 33 (8 * b + o)) 8)) 39 8 (m_ageOut (σ 31) (nI b) (nt (σ 25 k)) (σ 23 b) P)
def a_ban (P l m : Nat) (σ : RS) (k : Nat) : RS :=
  let X := u_of l 0 m 0 (a_vars P σ k)
  s2 X.2 35 k X.1
def a_asks (P l m : Nat) (σ : RS) (k : Nat) : RS :=
  let σ1 := a_ban P l m σ k
  if σ1 35 k = -1 then (let Y := u_of l 1 m 0 σ1; s2 Y.2 36 k Y.1) else s2 σ1 34 k 4
theorem a_vars_same (P : Nat) (σ : RS) (k : Nat) : lsame σ (a_vars P σ k) := by
  unfold a_vars
  exact (((((((((lsame.refl σ).s2 (by omega) _ _).s2 (by omega) _ _).s2 (by omega) _ _).s2 (by omega) _ _).s2 (by omega) _ _).s2 (by omega) _ _).s2 (by omega) _ _).s2 (by omega) _ _).s2 (by omega) _ _
theorem a_ban_same (P l m : Nat) (σ : RS) (k : Nat) : lsame σ (a_ban P l m σ k) := ((a_vars_same P σ k).trans (u_of_same _ _ _ _ _)).s2 (by omega) _ _
theorem a_asks_same (P l m : Nat) (σ : RS) (k : Nat) : lsame σ (a_asks P l m σ k) := by
  unfold a_asks
  dsimp only
  split
  · exact ((a_ban_same P l m σ k).trans (u_of_same _ _ _ _ _)).s2 (by omega) _ _
  · exact (a_ban_same P l m σ k).s2 (by omega) _ _
theorem m_asks {d : Nat} (τ : TS) (σ : RS) (P l m k s q a b p y w : Nat) (hP : P ≤ 8) (h37 : σ 0 37 = nI P) (hl : h_okLaw σ l m) (hk : k < 120) (hf : p_fact σ k s q a b p y w) : Ok (d + 3) M7_asks [.ref 0, .int (nI k), .int (nI (400 * p + y))] (WM σ τ) (rt none (WM (a_asks P l m σ k) τ)) := by
  obtain ⟨⟨b1, b2, b3, b4, b5, b6, b7⟩, g1, g2, g3, g4, g5, g6, g7⟩ := hf
  have ek : (nI k).toNatClampNeg = k := nI_clamp (by omega)
  have hvk : vp_in (nI k) 120 := vp_in_nI (by omega) (by omega)
  have ey : (nI y).toNatClampNeg = y := nI_clamp (by omega)
  have eb : (nI b).toNatClampNeg = b := nI_clamp (by omega)
  have ex : (nI (400 * p + y)).toNatClampNeg = 400 * p + y := nI_clamp (by omega)
  have ec := g_cell b a
  have ec2 : (nI (8 * b + a)).toNatClampNeg = 8 * b + a := nI_clamp (by omega)
  obtain ⟨σV, hV⟩ : ∃ T, T = a_vars P σ k := ⟨_, rfl⟩
  have sV := a_vars_same P σ k
  rw [← hV] at sV
  have hlV := h_okLaw_same sV hl
  have callB := m_ruleOf (d := d) τ 0 l m σV hlV
  obtain ⟨σB, hB⟩ : ∃ T, T = a_ban P l m σ k := ⟨_, rfl⟩
  have sB := a_ban_same P l m σ k
  rw [← hB] at sB
  have hlB := h_okLaw_same sB hl
  have callG := m_ruleOf (d := d) τ 1 l m σB hlB
  obtain ⟨T, hT⟩ : ∃ T, T = a_asks P l m σ k := ⟨_, rfl⟩
  rw [← hT]
  unfold a_asks at hT
  rw [← hB] at hT
  dsimp only at hT
  unfold a_ban at hB
  rw [← hV] at hB
  dsimp only at hB
  unfold a_vars at hV
  rw [g3, g4, g6, g5, g2, nt_nI (by omega), nt_nI (by omega), nt_nI (by omega), nt_nI (by omega), nt_nI (by omega)] at hV
  dsimp only at hV
  obtain ⟨σ1, h1⟩ : ∃ T, T = s2 σ 39 0 (nI a) := ⟨_, rfl⟩
  obtain ⟨σ2, h2⟩ : ∃ T, T = s2 σ1 39 1 (nI b) := ⟨_, rfl⟩
  obtain ⟨σ3, h3⟩ : ∃ T, T = s2 σ2 39 2 (if σ 37 y = 0 then 0 else 1) := ⟨_, rfl⟩
  obtain ⟨σ4, h4⟩ : ∃ T, T = s2 σ3 39 3 (nI y - nI q) := ⟨_, rfl⟩
  obtain ⟨σ5, h5⟩ : ∃ T, T = s2 σ4 39 4 (σ 32 (400 * p + y)) := ⟨_, rfl⟩
  obtain ⟨σ6, h6⟩ : ∃ T, T = s2 σ5 39 5 (if nI p = nI a then 1 else 0) := ⟨_, rfl⟩
  obtain ⟨σ7, h7⟩ : ∃ T, T = s2 σ6 39 6 (σ 33 (8 * b + a)) := ⟨_, rfl⟩
  obtain ⟨σ8, h8⟩ : ∃ T, T = s2 σ7 39 7 (sumTo (fun o => σ 33 (8 * b + o)) 8) := ⟨_, rfl⟩
  have q1 : ∀ c, c ≠ 39 → σ1 c = σ c := fun c h => by rw [h1]; exact s1_ne _ _ h
  have q2 : ∀ c, c ≠ 39 → σ2 c = σ c := fun c h => by rw [h2]; exact (s1_ne _ _ h).trans (q1 c h)
  have q3 : ∀ c, c ≠ 39 → σ3 c = σ c := fun c h => by rw [h3]; exact (s1_ne _ _ h).trans (q2 c h)
  have q4 : ∀ c, c ≠ 39 → σ4 c = σ c := fun c h => by rw [h4]; exact (s1_ne _ _ h).trans (q3 c h)
  have q5 : ∀ c, c ≠ 39 → σ5 c = σ c := fun c h => by rw [h5]; exact (s1_ne _ _ h).trans (q4 c h)
  have q6 : ∀ c, c ≠ 39 → σ6 c = σ c := fun c h => by rw [h6]; exact (s1_ne _ _ h).trans (q5 c h)
  have q7 : ∀ c, c ≠ 39 → σ7 c = σ c := fun c h => by rw [h7]; exact (s1_ne _ _ h).trans (q6 c h)
  have q8 : ∀ c, c ≠ 39 → σ8 c = σ c := fun c h => by rw [h8]; exact (s1_ne _ _ h).trans (q7 c h)
  rw [← h1, ← h2, ← h3, ← h4, ← h5, ← h6, ← h7, ← h8] at hV
  have callO : Ok (d + 2) M7_owesAll [.ref 0, .int (nI b)] (WM σ7 τ) (rt (some (.int (sumTo (fun o => σ 33 (8 * b + o)) 8))) (WM σ7 τ)) := by
    have := m_owesAll (d := d + 2) σ7 τ b b4
    rw [q7 33 (by decide)] at this
    exact this
  have callA : Ok (d + 2) M7_ageOf [.ref 0, .int (nI b), .int (nI q)] (WM σ8 τ) (rt (some (.int (m_ageOut (σ 31) (nI b) q (σ 23 b) P))) (WM σ8 τ)) := by
    have := m_ageOf (d := d + 2) σ8 τ b q P b4 b2 hP (by rw [q8 0 (by decide)]; exact h37)
    rw [q8 31 (by decide), q8 23 (by decide)] at this
    exact this
  have eVB : σB = s2 (u_of l 0 m 0 σV).2 35 k (u_of l 0 m 0 σV).1 := hB
  have kB : Ev (d + 3) M7_asks (rt none (WM T τ)) 185 [some (.ref 0), some (.int (nI k)), some (.int (nI (400 * p + y)))] [] (WM σB τ) := by
    refine ev_aload_n (pc' := 186) dX7_asks_185 rfl rfl ?_
    refine ev_getf (pc' := 189) fl_7_125 dX7_asks_186 rfl rfl rfl ?_
    refine ev_iload_n (pc' := 190) dX7_asks_189 rfl rfl ?_
    refine ev_iald (pc' := 191) dX7_asks_190 rfl rfl ?_ ?_
    · exact hvk
    rw [ek]
    refine ev_iconst (pc' := 192) (v := -1) dX7_asks_191 rfl (by decide) ?_
    refine ev_icmp_eq (tgt := 205) (pc' := 195) dX7_asks_192 (by decide) rfl (fun h_192 => ?_) (fun h_192 => ?_)
    · rw [if_pos h_192] at hT
      refine ev_aload_n (pc' := 206) dX7_asks_205 rfl rfl ?_
      refine ev_getf (pc' := 209) fl_7_128 dX7_asks_206 rfl rfl rfl ?_
      refine ev_iload_n (pc' := 210) dX7_asks_209 rfl rfl ?_
      refine ev_aload_n (pc' := 211) dX7_asks_210 rfl rfl ?_
      refine ev_iconst (pc' := 212) (v := 1) dX7_asks_211 rfl (by decide) ?_
      refine ev_cVi1 (pc' := 215) cl_7_308 (callG) dX7_asks_212 rfl rfl rfl rfl ?_
      refine ev_iast (pc' := 216) dX7_asks_215 rfl rfl ?_ (WM_a36 _ _ _) ?_
      · exact hvk
      refine ev_return rfl dX7_asks_216 ?_
      rw [hT]
      refine rt_of rfl ?_
      show WM (s1 _ _ (upd _ (nI k).toNatClampNeg _)) τ = _
      rw [ek]
      rfl
    · rw [if_neg h_192] at hT
      refine ev_aload_n (pc' := 196) dX7_asks_195 rfl rfl ?_
      refine ev_getf (pc' := 199) fl_7_122 dX7_asks_196 rfl rfl rfl ?_
      refine ev_iload_n (pc' := 200) dX7_asks_199 rfl rfl ?_
      refine ev_iconst (pc' := 201) (v := 4) dX7_asks_200 rfl (by decide) ?_
      refine ev_iast (pc' := 202) dX7_asks_201 rfl rfl ?_ (WM_a34 _ _ _) ?_
      · exact hvk
      refine ev_goto (tgt := 216) dX7_asks_202 (by decide) ?_
      refine ev_return rfl dX7_asks_216 ?_
      rw [hT]
      refine rt_of rfl ?_
      show WM (s1 _ _ (upd _ (nI k).toNatClampNeg _)) τ = _
      rw [ek]
      rfl
  have kV : Ev (d + 3) M7_asks (rt none (WM T τ)) 174 [some (.ref 0), some (.int (nI k)), some (.int (nI (400 * p + y)))] [] (WM σV τ) := by
    refine ev_aload_n (pc' := 175) dX7_asks_174 rfl rfl ?_
    refine ev_getf (pc' := 178) fl_7_125 dX7_asks_175 rfl rfl rfl ?_
    refine ev_iload_n (pc' := 179) dX7_asks_178 rfl rfl ?_
    refine ev_aload_n (pc' := 180) dX7_asks_179 rfl rfl ?_
    refine ev_iconst (pc' := 181) (v := 0) dX7_asks_180 rfl (by decide) ?_
    refine ev_cVi1 (pc' := 184) cl_7_308 (callB) dX7_asks_181 rfl rfl rfl rfl ?_
    refine ev_iast (pc' := 185) dX7_asks_184 rfl rfl ?_ (WM_a35 _ _ _) ?_
    · exact hvk
    refine ev_world (w' := WM σB τ) ?_ kB
    show WM (s1 _ _ (upd _ (nI k).toNatClampNeg _)) τ = _
    rw [ek, hB]
    rfl
  have k105 : ∀ v, v = (if nI p = nI a then (1 : Int32) else 0) → Ev (d + 3) M7_asks (rt none (WM T τ)) 105 [some (.ref 0), some (.int (nI k)), some (.int (nI (400 * p + y)))] [.int v, .int 5, .ref 39] (WM σ5 τ) := by
    intro v hv
    subst hv
    have g6' : σ6 27 k = nI b := by rw [q6 27 (by decide)]; exact g4
    have g6a : σ6 26 k = nI a := by rw [q6 26 (by decide)]; exact g3
    have g7' : σ7 27 k = nI b := by rw [q7 27 (by decide)]; exact g4
    have g8' : σ8 27 k = nI b := by rw [q8 27 (by decide)]; exact g4
    have g8m : σ8 25 k = nI q := by rw [q8 25 (by decide)]; exact g2
    have g33 : σ6 33 (8 * b + a) = σ 33 (8 * b + a) := by rw [q6 33 (by decide)]
    refine ev_iast (pc' := 106) dX7_asks_105 rfl rfl ?_ (WM_a39 _ _ _) ?_
    · exact vp_in_nI (n := 5) (by omega) (by omega)
    refine ev_world (w' := WM σ6 τ) (by rw [h6]; rfl) ?_
    refine ev_aload_n (pc' := 107) dX7_asks_106 rfl rfl ?_
    refine ev_getf (pc' := 110) fl_7_137 dX7_asks_107 rfl rfl rfl ?_
    refine ev_bipush (pc' := 112) (v := 6) dX7_asks_110 rfl (by decide) ?_
    refine ev_aload_n (pc' := 113) dX7_asks_112 rfl rfl ?_
    refine ev_getf (pc' := 116) fl_7_119 dX7_asks_113 rfl rfl rfl ?_
    refine ev_bipush (pc' := 118) (v := 8) dX7_asks_116 rfl (by decide) ?_
    refine ev_aload_n (pc' := 119) dX7_asks_118 rfl rfl ?_
    refine ev_getf (pc' := 122) fl_7_98 dX7_asks_119 rfl rfl rfl ?_
    refine ev_iload_n (pc' := 123) dX7_asks_122 rfl rfl ?_
    refine ev_iald (pc' := 124) dX7_asks_123 rfl rfl ?_ ?_
    · exact hvk
    rw [ek, g6']
    refine ev_imul (pc' := 125) dX7_asks_124 rfl ?_
    refine ev_aload_n (pc' := 126) dX7_asks_125 rfl rfl ?_
    refine ev_getf (pc' := 129) fl_7_95 dX7_asks_126 rfl rfl rfl ?_
    refine ev_iload_n (pc' := 130) dX7_asks_129 rfl rfl ?_
    refine ev_iald (pc' := 131) dX7_asks_130 rfl rfl ?_ ?_
    · exact hvk
    rw [ek, g6a]
    refine ev_iadd (pc' := 132) dX7_asks_131 rfl ?_
    refine ev_iald (pc' := 133) dX7_asks_132 rfl rfl ?_ ?_
    · rw [ec]; exact vp_in_nI (by omega) (by omega)
    rw [ec, ec2, g33]
    refine ev_iast (pc' := 134) dX7_asks_133 rfl rfl ?_ (WM_a39 _ _ _) ?_
    · exact vp_in_nI (n := 6) (by omega) (by omega)
    refine ev_world (w' := WM σ7 τ) (by rw [h7]; rfl) ?_
    refine ev_aload_n (pc' := 135) dX7_asks_134 rfl rfl ?_
    refine ev_getf (pc' := 138) fl_7_137 dX7_asks_135 rfl rfl rfl ?_
    refine ev_bipush (pc' := 140) (v := 7) dX7_asks_138 rfl (by decide) ?_
    refine ev_aload_n (pc' := 141) dX7_asks_140 rfl rfl ?_
    refine ev_aload_n (pc' := 142) dX7_asks_141 rfl rfl ?_
    refine ev_getf (pc' := 145) fl_7_98 dX7_asks_142 rfl rfl rfl ?_
    refine ev_iload_n (pc' := 146) dX7_asks_145 rfl rfl ?_
    refine ev_iald (pc' := 147) dX7_asks_146 rfl rfl ?_ ?_
    · exact hvk
    rw [ek, g7']
    refine ev_cVi1 (pc' := 150) cl_7_302 (callO) dX7_asks_147 rfl rfl rfl rfl ?_
    refine ev_iast (pc' := 151) dX7_asks_150 rfl rfl ?_ (WM_a39 _ _ _) ?_
    · exact vp_in_nI (n := 7) (by omega) (by omega)
    refine ev_world (w' := WM σ8 τ) (by rw [h8]; rfl) ?_
    refine ev_aload_n (pc' := 152) dX7_asks_151 rfl rfl ?_
    refine ev_getf (pc' := 155) fl_7_137 dX7_asks_152 rfl rfl rfl ?_
    refine ev_bipush (pc' := 157) (v := 8) dX7_asks_155 rfl (by decide) ?_
    refine ev_aload_n (pc' := 158) dX7_asks_157 rfl rfl ?_
    refine ev_aload_n (pc' := 159) dX7_asks_158 rfl rfl ?_
    refine ev_getf (pc' := 162) fl_7_98 dX7_asks_159 rfl rfl rfl ?_
    refine ev_iload_n (pc' := 163) dX7_asks_162 rfl rfl ?_
    refine ev_iald (pc' := 164) dX7_asks_163 rfl rfl ?_ ?_
    · exact hvk
    rw [ek, g8']
    refine ev_aload_n (pc' := 165) dX7_asks_164 rfl rfl ?_
    refine ev_getf (pc' := 168) fl_7_92 dX7_asks_165 rfl rfl rfl ?_
    refine ev_iload_n (pc' := 169) dX7_asks_168 rfl rfl ?_
    refine ev_iald (pc' := 170) dX7_asks_169 rfl rfl ?_ ?_
    · exact hvk
    rw [ek, g8m]
    refine ev_cVi2 (pc' := 173) cl_7_305 (callA) dX7_asks_170 rfl rfl rfl rfl ?_
    refine ev_iast (pc' := 174) dX7_asks_173 rfl rfl ?_ (WM_a39 _ _ _) ?_
    · exact vp_in_nI (n := 8) (by omega) (by omega)
    refine ev_world (w' := WM σV τ) ?_ kV
    rw [hV]
    rfl
  have k48 : ∀ v, v = (if σ 37 y = 0 then (0 : Int32) else 1) → Ev (d + 3) M7_asks (rt none (WM T τ)) 48 [some (.ref 0), some (.int (nI k)), some (.int (nI (400 * p + y)))] [.int v, .int 2, .ref 39] (WM σ2 τ) := by
    intro v hv
    subst hv
    have g3y : σ3 29 k = nI y := by rw [q3 29 (by decide)]; exact g6
    have g3m : σ3 25 k = nI q := by rw [q3 25 (by decide)]; exact g2
    have g4x : σ4 32 (400 * p + y) = σ 32 (400 * p + y) := by rw [q4 32 (by decide)]
    have g5p : σ5 28 k = nI p := by rw [q5 28 (by decide)]; exact g5
    have g5a : σ5 26 k = nI a := by rw [q5 26 (by decide)]; exact g3
    refine ev_iast (pc' := 49) dX7_asks_48 rfl rfl ?_ (WM_a39 _ _ _) ?_
    · exact vp_in_nI (n := 2) (by omega) (by omega)
    refine ev_world (w' := WM σ3 τ) (by rw [h3]; rfl) ?_
    refine ev_aload_n (pc' := 50) dX7_asks_49 rfl rfl ?_
    refine ev_getf (pc' := 53) fl_7_137 dX7_asks_50 rfl rfl rfl ?_
    refine ev_iconst (pc' := 54) (v := 3) dX7_asks_53 rfl (by decide) ?_
    refine ev_aload_n (pc' := 55) dX7_asks_54 rfl rfl ?_
    refine ev_getf (pc' := 58) fl_7_104 dX7_asks_55 rfl rfl rfl ?_
    refine ev_iload_n (pc' := 59) dX7_asks_58 rfl rfl ?_
    refine ev_iald (pc' := 60) dX7_asks_59 rfl rfl ?_ ?_
    · exact hvk
    rw [ek, g3y]
    refine ev_aload_n (pc' := 61) dX7_asks_60 rfl rfl ?_
    refine ev_getf (pc' := 64) fl_7_92 dX7_asks_61 rfl rfl rfl ?_
    refine ev_iload_n (pc' := 65) dX7_asks_64 rfl rfl ?_
    refine ev_iald (pc' := 66) dX7_asks_65 rfl rfl ?_ ?_
    · exact hvk
    rw [ek, g3m]
    refine ev_isub (pc' := 67) dX7_asks_66 rfl ?_
    refine ev_iast (pc' := 68) dX7_asks_67 rfl rfl ?_ (WM_a39 _ _ _) ?_
    · exact vp_in_nI (n := 3) (by omega) (by omega)
    refine ev_world (w' := WM σ4 τ) (by rw [h4]; rfl) ?_
    refine ev_aload_n (pc' := 69) dX7_asks_68 rfl rfl ?_
    refine ev_getf (pc' := 72) fl_7_137 dX7_asks_69 rfl rfl rfl ?_
    refine ev_iconst (pc' := 73) (v := 4) dX7_asks_72 rfl (by decide) ?_
    refine ev_aload_n (pc' := 74) dX7_asks_73 rfl rfl ?_
    refine ev_getf (pc' := 77) fl_7_116 dX7_asks_74 rfl rfl rfl ?_
    refine ev_iload_n (pc' := 78) dX7_asks_77 rfl rfl ?_
    refine ev_iald (pc' := 79) dX7_asks_78 rfl rfl ?_ ?_
    · exact vp_in_nI (by omega) (by omega)
    rw [ex, g4x]
    refine ev_iast (pc' := 80) dX7_asks_79 rfl rfl ?_ (WM_a39 _ _ _) ?_
    · exact vp_in_nI (n := 4) (by omega) (by omega)
    refine ev_world (w' := WM σ5 τ) (by rw [h5]; rfl) ?_
    refine ev_aload_n (pc' := 81) dX7_asks_80 rfl rfl ?_
    refine ev_getf (pc' := 84) fl_7_137 dX7_asks_81 rfl rfl rfl ?_
    refine ev_iconst (pc' := 85) (v := 5) dX7_asks_84 rfl (by decide) ?_
    refine ev_aload_n (pc' := 86) dX7_asks_85 rfl rfl ?_
    refine ev_getf (pc' := 89) fl_7_101 dX7_asks_86 rfl rfl rfl ?_
    refine ev_iload_n (pc' := 90) dX7_asks_89 rfl rfl ?_
    refine ev_iald (pc' := 91) dX7_asks_90 rfl rfl ?_ ?_
    · exact hvk
    rw [ek, g5p]
    refine ev_aload_n (pc' := 92) dX7_asks_91 rfl rfl ?_
    refine ev_getf (pc' := 95) fl_7_95 dX7_asks_92 rfl rfl rfl ?_
    refine ev_iload_n (pc' := 96) dX7_asks_95 rfl rfl ?_
    refine ev_iald (pc' := 97) dX7_asks_96 rfl rfl ?_ ?_
    · exact hvk
    rw [ek, g5a]
    refine ev_icmp_ne (tgt := 104) (pc' := 100) dX7_asks_97 (by decide) rfl (fun h_97 => ?_) (fun h_97 => ?_)
    · refine ev_iconst (pc' := 105) (v := 0) dX7_asks_104 rfl (by decide) ?_
      first
        | exact k105 _ (if_neg h_97).symm
        | exact k105 _ (if_pos h_97).symm
    · refine ev_iconst (pc' := 101) (v := 1) dX7_asks_100 rfl (by decide) ?_
      refine ev_goto (tgt := 105) dX7_asks_101 (by decide) ?_
      first
        | exact k105 _ (if_neg h_97).symm
        | exact k105 _ (if_pos h_97).symm
  have g1b : σ1 27 k = nI b := by rw [q1 27 (by decide)]; exact g4
  have g2y : σ2 29 k = nI y := by rw [q2 29 (by decide)]; exact g6
  have g2f : σ2 37 y = σ 37 y := by rw [q2 37 (by decide)]
  refine Ok.of (ls := [some _, some _, some _]) (by decide +kernel) (Nat.le_of_ble_eq_true rfl) rfl ?_
  refine ev_aload_n (pc' := 1) dX7_asks_0 rfl rfl ?_
  refine ev_getf (pc' := 4) fl_7_137 dX7_asks_1 rfl rfl rfl ?_
  refine ev_iconst (pc' := 5) (v := 0) dX7_asks_4 rfl (by decide) ?_
  refine ev_aload_n (pc' := 6) dX7_asks_5 rfl rfl ?_
  refine ev_getf (pc' := 9) fl_7_95 dX7_asks_6 rfl rfl rfl ?_
  refine ev_iload_n (pc' := 10) dX7_asks_9 rfl rfl ?_
  refine ev_iald (pc' := 11) dX7_asks_10 rfl rfl ?_ ?_
  · exact hvk
  rw [ek, g3]
  refine ev_iast (pc' := 12) dX7_asks_11 rfl rfl ?_ (WM_a39 _ _ _) ?_
  · exact vp_in_nI (n := 0) (by omega) (by omega)
  refine ev_world (w' := WM σ1 τ) (by rw [h1]; rfl) ?_
  refine ev_aload_n (pc' := 13) dX7_asks_12 rfl rfl ?_
  refine ev_getf (pc' := 16) fl_7_137 dX7_asks_13 rfl rfl rfl ?_
  refine ev_iconst (pc' := 17) (v := 1) dX7_asks_16 rfl (by decide) ?_
  refine ev_aload_n (pc' := 18) dX7_asks_17 rfl rfl ?_
  refine ev_getf (pc' := 21) fl_7_98 dX7_asks_18 rfl rfl rfl ?_
  refine ev_iload_n (pc' := 22) dX7_asks_21 rfl rfl ?_
  refine ev_iald (pc' := 23) dX7_asks_22 rfl rfl ?_ ?_
  · exact hvk
  rw [ek, g1b]
  refine ev_iast (pc' := 24) dX7_asks_23 rfl rfl ?_ (WM_a39 _ _ _) ?_
  · exact vp_in_nI (n := 1) (by omega) (by omega)
  refine ev_world (w' := WM σ2 τ) (by rw [h2]; rfl) ?_
  refine ev_aload_n (pc' := 25) dX7_asks_24 rfl rfl ?_
  refine ev_getf (pc' := 28) fl_7_137 dX7_asks_25 rfl rfl rfl ?_
  refine ev_iconst (pc' := 29) (v := 2) dX7_asks_28 rfl (by decide) ?_
  refine ev_aload_n (pc' := 30) dX7_asks_29 rfl rfl ?_
  refine ev_getf (pc' := 33) fl_7_131 dX7_asks_30 rfl rfl rfl ?_
  refine ev_aload_n (pc' := 34) dX7_asks_33 rfl rfl ?_
  refine ev_getf (pc' := 37) fl_7_104 dX7_asks_34 rfl rfl rfl ?_
  refine ev_iload_n (pc' := 38) dX7_asks_37 rfl rfl ?_
  refine ev_iald (pc' := 39) dX7_asks_38 rfl rfl ?_ ?_
  · exact hvk
  rw [ek, g2y]
  refine ev_zald (pc' := 40) dX7_asks_39 rfl rfl ?_ ?_
  · exact vp_in_nI (by omega) (by omega)
  rw [ey, g2f]
  refine ev_if_eq (tgt := 47) (pc' := 43) dX7_asks_40 (by decide) rfl (fun h_40 => ?_) (fun h_40 => ?_)
  · refine ev_iconst (pc' := 48) (v := 0) dX7_asks_47 rfl (by decide) ?_
    first
      | exact k48 _ (if_pos h_40).symm
      | exact k48 _ (if_neg h_40).symm
  · refine ev_iconst (pc' := 44) (v := 1) dX7_asks_43 rfl (by decide) ?_
    refine ev_goto (tgt := 48) dX7_asks_44 (by decide) ?_
    first
      | exact k48 _ (if_pos h_40).symm
      | exact k48 _ (if_neg h_40).symm
