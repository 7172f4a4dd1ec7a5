/-! The model reads its tape. -/
theorem s1_s1 (σ : RS) (c : Nat) (f g : Nat → Int32) : s1 (s1 σ c f) c g = s1 σ c g := by
  funext k
  by_cases h : k = c
  · subst h; rw [s1_same, s1_same]
  · rw [s1_ne _ _ h, s1_ne _ _ h, s1_ne _ _ h]
theorem s1_self (σ : RS) (c : Nat) : s1 σ c (σ c) = σ := by
  funext k
  by_cases h : k = c
  · subst h; exact s1_same _ _ _
  · exact s1_ne _ _ h
theorem nar_and (x : Int32) : vp_nar .byte x &&& 255 = x &&& 255 := by
  have h : vp_nar .byte x = x.toInt8.toInt32 := rfl
  rw [h]
  apply Int32.toBitVec_inj.mp
  apply BitVec.eq_of_getLsbD_eq
  intro i hi
  show ((x.toBitVec.signExtend 8).signExtend 32 &&& 255#32).getLsbD i = (x.toBitVec &&& 255#32).getLsbD i
  rw [BitVec.getLsbD_and, BitVec.getLsbD_and]
  by_cases h8 : i < 8
  · rw [BitVec.getLsbD_signExtend, BitVec.getLsbD_signExtend]
    simp [hi, h8]
  · have : (255#32).getLsbD i = false := by
      have all : ∀ i : Fin 32, ¬ i.val < 8 → (255#32).getLsbD i.val = false := by decide
      exact all ⟨i, hi⟩ h8
    rw [this, Bool.and_false, Bool.and_false]
/-- texts that are alike are cut alike -/
theorem x_skip_congr {p : Int32 → Bool} {t u : Nat → Int32} : ∀ (c i : Nat), (∀ j, i ≤ j → j < i + c → t j = u j) → x_skip p t c i = x_skip p u c i := by
  intro c
  induction c with
  | zero => intro i _; rfl
  | succ c ih =>
    intro i h
    rw [x_skip, x_skip, h i (Nat.le_refl _) (by omega), ih (i + 1) (fun j h1 h2 => h j (by omega) (by omega))]
theorem x_int_congr {t u : Nat → Int32} : ∀ (c i : Nat) (v : Int32), (∀ j, i ≤ j → j < i + c → t j = u j) → x_int t c i v = x_int u c i v := by
  intro c
  induction c with
  | zero => intro i v _; rfl
  | succ c ih =>
    intro i v h
    rw [x_int, x_int, h i (Nat.le_refl _) (by omega), ih (i + 1) _ (fun j h1 h2 => h j (by omega) (by omega))]
theorem x_find_congr {s e : Nat} {t u : Nat → Int32} (h : ∀ j, s ≤ j → j < e → t j = u j) : ∀ (c w : Nat), x_find s e t c w = x_find s e u c w := by
  have hm : ∀ (w c i : Nat), x_match s e t w c i = x_match s e u w c i := by
    intro w c
    induction c with
    | zero => intro i; rfl
    | succ c ih =>
      intro i
      have hl : x_let s e t i = x_let s e u i := by
        unfold x_let
        split
        · rw [h (s + i) (by omega) (by omega)]
        · rfl
      rw [x_match, x_match, hl, ih]
  intro c
  induction c with
  | zero => intro w; rfl
  | succ c ih =>
    intro w
    have hw : x_isWord s e t w = x_isWord s e u w := by
      unfold x_isWord
      rw [hm]
    rw [x_find, x_find, hw, ih]
theorem x_tok_congr {n : Nat} {t u : Nat → Int32} (h : ∀ j, j < n → t j = u j) (i : Nat) : x_tok n t i = x_tok n u i := by
  have hsk : ∀ (p : Int32 → Bool) (s : Nat), x_skip p t (n - s) s = x_skip p u (n - s) s := fun p s => by
    by_cases hs : s < n
    · exact x_skip_congr _ _ (fun j h1 h2 => h j (by omega))
    · rw [show n - s = 0 by omega]; rfl
  have hb : ∀ s, x_byte n t s = x_byte n u s := fun s => by
    unfold x_byte
    split
    · exact h s (by assumption)
    · rfl
  have he : ∀ s, x_eq n t s = x_eq n u s := fun s => by unfold x_eq; rw [hb]
  unfold x_tok
  rw [hsk]
  generalize x_skip x_blank u (n - i) i = s
  have hi : x_int t (n - s) s 0 = x_int u (n - s) s 0 := by
    by_cases hs : s < n
    · exact x_int_congr _ _ _ (fun j h1 h2 => h j (by omega))
    · rw [show n - s = 0 by omega]; rfl
  have hf : x_find s (x_skip x_letter u (n - s) s) t 14 0 = x_find s (x_skip x_letter u (n - s) s) u 14 0 := by
    refine x_find_congr (fun j h1 h2 => h j ?_) _ _
    have := x_skip_le x_letter u (n - s) s
    omega
  unfold x_tokAt
  rw [hb, hsk x_letter, hsk x_digit, hf, hi]
  unfold x_sign
  rw [he]
theorem tpos_congr {n : Nat} {t u : Nat → Int32} (h : ∀ j, j < n → t j = u j) : ∀ i, tpos n t i = tpos n u i := by
  intro i
  induction i with
  | zero => rfl
  | succ i ih => rw [tpos, tpos, ih, x_tok_congr h]
theorem ym_run_congr {n : Nat} {t u : Nat → Int32} (h : ∀ j, j < n → t j = u j) : ∀ (f i : Nat) (S : YS), ym_run n t f i S = ym_run n u f i S := by
  intro f
  induction f with
  | zero => intro i S; rfl
  | succ f ih => intro i S; rw [ym_run, ym_run, x_tok_congr h, ih]
section
variable {d n : Nat} {t : Nat → Int32} {b : Nat} {R : Int32 × Nat × YS} {σ0 : RS} {τ : TS}
theorem m_read_flt {Q : Option Value → MW → Prop} {σ : RS} {z1 : Option Value} (h : flt R σ) (kk : Ev (d + 7) M7_read Q 129 [some (.ref 0), z1] [] (WM σ τ)) : Ev (d + 7) M7_read Q 107 [some (.ref 0), z1] [] (WM σ τ) := by
  have hn := flt_ne h
  refine ev_aload_n (pc' := 108) dX7_read_107 rfl rfl ?_
  refine ev_getf (pc' := 111) fl_7_200 dX7_read_108 rfl rfl rfl ?_
  refine ev_if_ne (tgt := 129) (pc' := 114) dX7_read_111 (by decide) rfl (fun h_111 => ?_) (fun h_111 => ?_)
  · exact kk
  · exact absurd h_111 hn.1 --
theorem m_read_107 {Q : Option Value → MW → Prop} {z1 : Option Value} (hb : b ≤ 1) (kF : ∀ σ, flt R σ → pk b σ0 σ → Ev (d + 7) M7_read Q 129 [some (.ref 0), z1] [] (WM σ τ)) (kG : ∀ σ pl S, R = (0, pl, S) → msR b S.2.2.1.1 σ → σ 0 13 = 0 → pk b σ0 σ → ym_ok S → S.1.1 = 0 → Ev (d + 7) M7_read Q 129 [some (.ref 0), z1] [] (WM σ τ)) : ∀ (f tk sd : Nat) (gr : Bool) (done : List YL) (σ : RS), gS n t f R ((0, sd, tk, gr), ([], []), (done, [], []), (true, [], 0)) tk σ → msR b done σ → (mq done).length ≤ tk → σ 0 19 = nI b → pk b σ0 σ → Ev (d + 7) M7_read Q 107 [some (.ref 0), z1] [] (WM σ τ) := by
  intro f
  induction f using Nat.strongRecOn with
  | ind f ih =>
  intro tk sd gr done σ hg hM hl h19 hx
  have s11 := hg.2.2.1.1
  have s13 := hg.2.2.1.2.1
  have htk := hg.2.1.2
  obtain ⟨-, -, -, ⟨-, -, t17⟩, -⟩ := hg.is
  have e0 : m_is' σ tk 0 = decide ((tkn n t tk).2.1 = 17) := by rw [m_is_ok s13]; exact decide_eq_decide.mpr t17
  have kE : (tkn n t tk).2.1 = 17 → Ev (d + 7) M7_read Q 129 [some (.ref 0), z1] [] (WM σ τ) := by
    intro hk
    rcases ym_run_inv hg.1.1 with ⟨e, _⟩ | ⟨_, _, e⟩ | ⟨_, e, _⟩ | ⟨_, e, _⟩
    · rw [hk] at e; exact Bool.noConfusion (e.symm.trans (rfl : _ = true))
    · exact kG σ _ _ e hM s13 hx hg.1.2.1 rfl
    · exact absurd hk e
    · exact absurd hk e
  have kT : ¬ (tkn n t tk).2.1 = 17 → Ev (d + 7) M7_read Q 122 [some (.ref 0), z1] [] (WM σ τ) := by
    intro hk
    have cT := m_tellRule (d := d) (τ := τ) hb hg hk hM hl h19
    refine ev_aload_n (pc' := 123) dX7_read_122 rfl rfl ?_
    refine ev_cVr0 (pc' := 126) cl_7_239 (cT) dX7_read_123 rfl rfl rfl rfl ?_
    rintro v w1 hq -
    obtain ⟨rfl, σ1, rfl, hx1, h1⟩ := hq
    refine ev_goto (tgt := 107) dX7_read_126 (by decide) ?_
    rcases h1 with h1 | ⟨g, tk2, sd2, gr2, done2, hgf, hg2, hM2, hl2⟩
    · exact m_read_flt h1 (kF σ1 h1 (hx.trans hx1))
    · exact ih g hgf tk2 sd2 gr2 done2 σ1 hg2 hM2 hl2 ((hx1.2.1 19 (by omega) (by omega) (by omega) (by omega) (by omega) (by omega)).trans h19) (hx.trans hx1)
  refine ev_aload_n (pc' := 108) dX7_read_107 rfl rfl ?_
  refine ev_getf (pc' := 111) fl_7_200 dX7_read_108 rfl rfl rfl ?_
  refine ev_if_ne (tgt := 129) (pc' := 114) dX7_read_111 (by decide) rfl (fun h_111 => ?_) (fun h_111 => ?_)
  · exact absurd s13 h_111 --
  · refine ev_aload_n (pc' := 115) dX7_read_114 rfl rfl ?_
    refine ev_iconst (pc' := 116) (v := 0) dX7_read_115 rfl (by decide) ?_
    refine ev_cVi1 (pc' := 119) cl_7_218 (m_is σ τ tk (by omega) s11 0) dX7_read_116 rfl rfl rfl rfl ?_
    rw [e0]
    refine ev_if_ne (tgt := 129) (pc' := 122) dX7_read_119 (by decide) rfl (fun h_119 => ?_) (fun h_119 => ?_)
    · rw [bI_0, decide_eq_false_iff_not, Classical.not_not] at h_119
      exact kE h_119
    · rw [bI_0, decide_eq_false_iff_not] at h_119
      exact kT h_119
end
/-- the text is the tape -/
theorem m_read_copy {d : Nat} {Q : Option Value → MW → Prop} (τ : TS) (n : Nat) (hn : n ≤ 2000) (σ : RS) (h4 : σ 0 4 = nI n) (kk : Ev (d + 7) M7_read Q 36 [some (.ref 0), some (.int (nI n))] [] (WM (s1 σ 2 (cpyTo (fun i => vp_nar .byte (σ 1 i)) (σ 2) n)) τ)) : ∀ (c i : Nat), i + c = n → Ev (d + 7) M7_read Q 10 [some (.ref 0), some (.int (nI i))] [] (WM (s1 σ 2 (cpyTo (fun i => vp_nar .byte (σ 1 i)) (σ 2) i)) τ) := by
  intro c
  induction c with
  | zero =>
    intro i hi
    have hi : i = n := by omega
    subst hi
    refine ev_iload_n (pc' := 11) dX7_read_10 rfl rfl ?_
    refine ev_aload_n (pc' := 12) dX7_read_11 rfl rfl ?_
    refine ev_getf (pc' := 15) fl_7_169 dX7_read_12 rfl rfl rfl ?_
    refine ev_icmp_ge (tgt := 36) (pc' := 18) dX7_read_15 (by decide) rfl (fun h_15 => ?_) (fun h_15 => ?_)
    · exact kk --
    · exact absurd (by rw [show (s1 σ 2 (cpyTo (fun i => vp_nar .byte (σ 1 i)) (σ 2) i)) 0 4 = σ 0 4 from rfl, h4]; exact nI_le (Nat.le_refl _) (by omega)) h_15 --
  | succ c ih =>
    intro i hi
    have ei : (nI i).toNatClampNeg = i := nI_clamp (by omega)
    have vi : vp_in (nI i) 2000 := vp_in_nI (by omega) (by omega)
    refine ev_iload_n (pc' := 11) dX7_read_10 rfl rfl ?_
    refine ev_aload_n (pc' := 12) dX7_read_11 rfl rfl ?_
    refine ev_getf (pc' := 15) fl_7_169 dX7_read_12 rfl rfl rfl ?_
    refine ev_icmp_ge (tgt := 36) (pc' := 18) dX7_read_15 (by decide) rfl (fun h_15 => ?_) (fun h_15 => ?_)
    · exact absurd h_15 (by rw [show (s1 σ 2 (cpyTo (fun i => vp_nar .byte (σ 1 i)) (σ 2) i)) 0 4 = σ 0 4 from rfl, h4]; exact nI_ge (by omega) (by omega)) --
    · refine ev_aload_n (pc' := 19) dX7_read_18 rfl rfl ?_
      refine ev_getf (pc' := 22) fl_7_17 dX7_read_19 rfl rfl rfl ?_
      refine ev_iload_n (pc' := 23) dX7_read_22 rfl rfl ?_
      refine ev_aload_n (pc' := 24) dX7_read_23 rfl rfl ?_
      refine ev_getf (pc' := 27) fl_7_13 dX7_read_24 rfl rfl rfl ?_
      refine ev_iload_n (pc' := 28) dX7_read_27 rfl rfl ?_
      refine ev_bald (pc' := 29) dX7_read_28 rfl rfl ?_ ?_
      · exact vi
      refine ev_bast (pc' := 30) dX7_read_29 rfl rfl ?_ (WM_a2 _ _ _) ?_
      · exact vi
      refine ev_iinc (pc' := 33) (ls' := [_, _]) dX7_read_30 rfl rfl rfl rfl rfl ?_
      refine ev_goto (tgt := 10) dX7_read_33 (by decide) ?_
      rw [nI_p1]
      refine ev_world (w' := WM (s1 σ 2 (cpyTo (fun i => vp_nar .byte (σ 1 i)) (σ 2) (i + 1))) τ) ?_ (ih (i + 1) (by omega))
      show WM (s1 (s1 σ 2 (cpyTo (fun i => vp_nar .byte (σ 1 i)) (σ 2) i)) 2 (upd (cpyTo (fun i => vp_nar .byte (σ 1 i)) (σ 2) i) (nI i).toNatClampNeg (vp_nar .byte (σ 1 (nI i).toNatClampNeg)))) τ = _
      rw [ei, cpyTo_s (fun i => vp_nar .byte (σ 1 i)), s1_s1]
def rdK (b : Nat) (σ σ' : RS) : Prop := σ' 1 = σ 1 ∧ (∀ c, 22 < c → σ' c = σ c) ∧ (∀ j, j = 37 ∨ j = 39 ∨ 48 ≤ j → σ' 0 j = σ 0 j) ∧ ∀ c i, 8 ≤ c → c ≤ 21 → i < pW c * b ∨ pW c * b + pW c ≤ i → σ' c i = σ c i
theorem rdK.refl (b : Nat) (σ : RS) : rdK b σ σ := ⟨rfl, fun _ _ => rfl, fun _ _ => rfl, fun _ _ _ _ _ => rfl⟩
theorem rdK.trans {b : Nat} {x y z : RS} (h : rdK b x y) (g : rdK b y z) : rdK b x z := ⟨g.1.trans h.1, fun c h1 => (g.2.1 c h1).trans (h.2.1 c h1), fun j h1 => (g.2.2.1 j h1).trans (h.2.2.1 j h1), fun c i h1 h2 h3 => (g.2.2.2 c i h1 h2 h3).trans (h.2.2.2 c i h1 h2 h3)⟩
theorem pk.rdK {b : Nat} {σ σ' : RS} (h : pk b σ σ') : rdK b σ σ' := ⟨h.1 1 (by omega) (by omega), fun c h1 => h.1 c (by omega) (by omega), fun j h1 => h.2.1 j (by omega) (by omega) (by omega) (by omega) (by omega) (by omega), h.2.2⟩
theorem rdK_slot {b : Nat} {σ : RS} {j : Nat} (v : Int32) (h1 : j ≠ 37) (h2 : j ≠ 39) (h3 : j < 48) : rdK b σ (s2 σ 0 j v) := ⟨rfl, fun c h => s1_ne _ _ (by omega), fun i hi => upd_ne _ _ (by omega), fun c i c1 c2 _ => by rw [show (s2 σ 0 j v) c = σ c from s1_ne _ _ (by omega)]⟩
theorem rdK_2 {b : Nat} {σ : RS} (f : Nat → Int32) : rdK b σ (s1 σ 2 f) := ⟨rfl, fun c h => s1_ne _ _ (by omega), fun i hi => rfl, fun c i c1 c2 _ => by rw [show (s1 σ 2 f) c = σ c from s1_ne _ _ (by omega)]⟩
theorem rdK_b {b : Nat} {σ : RS} {c : Nat} (v : Int32) (hc : c = 8 ∨ c = 14) : rdK b σ (s2 σ c b v) := by
  refine ⟨s1_ne _ _ (by omega), fun k h => s1_ne _ _ (by omega), fun i hi => by rw [show (s2 σ c b v) 0 = σ 0 from s1_ne _ _ (by omega)], fun k i k1 k2 k3 => ?_⟩
  by_cases e : k = c
  · subst e
    have hw : pW k = 1 := if_pos hc
    rw [hw] at k3
    rw [show (s2 σ k b v) k = upd (σ k) b v from s1_same _ _ _]
    exact upd_ne _ _ (by omega)
  · rw [show (s2 σ c b v) k = σ k from s1_ne _ _ e]
theorem rdK_cut {b : Nat} {σ σ' : RS} {n J : Nat} (h : cut_ok σ n J σ') : rdK b σ σ' := ⟨h.1 1 (by omega) (by omega) (by omega) (by omega), fun c h1 => h.1 c (by omega) (by omega) (by omega) (by omega), fun j h1 => h.2.1 j (by omega), fun c i h1 h2 _ => by rw [h.1 c (by omega) (by omega) (by omega) (by omega)]⟩
def rd_init (b : Nat) (σ : RS) : RS := s2 (s2 (s2 (s2 (s2 (s2 (s2 (s2 σ 0 11 0) 0 12 0) 0 13 0) 0 15 0) 0 19 (nI b)) 8 b 0) 14 b 0) 0 32 (nI (500 * b))
def rdQ (l : Nat) (R : Int32 × Nat × YS) (σ : RS) (τ : TS) (v : Option Value) (w : MW) : Prop := ∃ σ' τ', w = WM σ' τ' ∧ τ' 7 = τ 7 ∧ rdK (1 - l) σ σ' ∧ σ' 0 2 = 0 ∧ (((R.1 = 1 ∨ R.1 = 2) ∧ v = some (.int R.1) ∧ σ' 0 17 = nI R.2.1 ∧ σ' 0 18 = σ 0 18 ∧ σ' 0 47 = σ 0 47) ∨ (R.1 = 0 ∧ v = some (.int 0) ∧ σ' 0 17 = -1 ∧ σ' 0 18 = nI (1 - l) ∧ σ' 0 47 = -1 ∧ msR (1 - l) R.2.2.2.2.1.1 σ' ∧ ym_ok R.2.2 ∧ R.2.2.1.1 = 0))
theorem m_read {d : Nat} (τ : TS) (σ : RS) (k l f : Nat) (R : Int32 × Nat × YS) (hk : k ≤ 2000) (h2 : σ 0 2 = nI k) (hl : l ≤ 1) (h18 : σ 0 18 = nI l) (hks : keysok τ) (hrun : ym_run k (fun i => σ 1 i &&& 255) f 0 ym_0 = some R) : Ok (d + 7) M7_read [.ref 0] (WM σ τ) (rdQ l R σ τ) := by
  obtain ⟨σC, hC⟩ : ∃ σC, σC = s2 (s1 (s2 σ 0 4 (nI k)) 2 (cpyTo (fun i => vp_nar .byte (σ 1 i)) (σ 2) k)) 0 2 0 := ⟨_, rfl⟩
  have c4 : σC 0 4 = nI k := by rw [hC]; rfl
  have c18 : σC 0 18 = nI l := by rw [hC]; exact h18
  have c47 : σC 0 47 = σ 0 47 := by rw [hC]; rfl
  have c2 : σC 0 2 = 0 := by rw [hC]; rfl
  have cK : rdK (1 - l) σ σC := by
    rw [hC]
    exact ((rdK_slot _ (by omega) (by omega) (by omega)).trans (rdK_2 _)).trans (rdK_slot _ (by omega) (by omega) (by omega))
  have ct : ∀ i, i < k → m_bt σC i = σ 1 i &&& 255 := fun i hi => by
    have : σC 2 i = vp_nar .byte (σ 1 i) := by rw [hC]; exact if_pos hi
    unfold m_bt
    rw [this, nar_and]
  have hrunC : ym_run k (m_bt σC) f (tpos k (m_bt σC) 0) ym_0 = some R := by rw [ym_run_congr ct]; exact hrun
  have cC := m_cut (d := d + 4) (τ := τ) hk c4 hks
  have k45 : ∀ σ1 τ1, τ1 7 = τ 7 → cut_end σC k σ1 → ∀ z1, Ev (d + 7) M7_read (rdQ l R σ τ) 45 [some (.ref 0), z1] [] (WM σ1 τ1) := by
    intro σ1 τ1 ht hce z1
    have hen := ents_of hce
    obtain ⟨J, hco, -⟩ := hce
    have s18 : σ1 0 18 = nI l := (hco.2.1 18 (by omega)).trans c18
    have e1 : 1 - σ1 0 18 = nI (1 - l) := by rw [s18]; exact nI_sub (a := 1) (b := l) hl
    have eb : (nI (1 - l)).toNatClampNeg = 1 - l := nI_clamp (by omega)
    have vb2 : vp_in (nI (1 - l)) 2 := vp_in_nI (by omega) (by omega)
    have e500 : (500 : Int32) * nI (1 - l) = nI (500 * (1 - l)) := nI_mul 500 (1 - l)
    obtain ⟨b, hb⟩ : ∃ b, b = 1 - l := ⟨_, rfl⟩
    rw [← hb] at e1 eb vb2 e500 cK
    have k107 : Ev (d + 7) M7_read (rdQ l R σ τ) 107 [some (.ref 0), z1] [] (WM (rd_init b σ1) τ1) := by
      have i2 : (rd_init b σ1) 0 2 = 0 := (hco.2.1 2 (by omega)).trans c2
      have i18 : (rd_init b σ1) 0 18 = σ 0 18 := s18.trans h18.symm
      have i47 : (rd_init b σ1) 0 47 = σ 0 47 := (hco.2.1 47 (by omega)).trans c47
      have iK : rdK b σ (rd_init b σ1) := (cK.trans (rdK_cut hco)).trans ((((((((rdK_slot _ (by omega) (by omega) (by omega)).trans (rdK_slot _ (by omega) (by omega) (by omega))).trans (rdK_slot _ (by omega) (by omega) (by omega))).trans (rdK_slot _ (by omega) (by omega) (by omega))).trans (rdK_slot _ (by omega) (by omega) (by omega))).trans (rdK_b _ (by omega))).trans (rdK_b _ (by omega))).trans (rdK_slot _ (by omega) (by omega) (by omega)))
      have gS0 : gS k (m_bt σC) f R ym_0 0 (rd_init b σ1) := ⟨⟨hrunC, ym_ok_0, fun i hi => by omega⟩, ⟨rfl, by omega⟩, ⟨rfl, rfl, rfl⟩, ents_keep hen rfl rfl rfl⟩
      have hM : msR b [] (rd_init b σ1) := ⟨upd_same _ _ _, upd_same _ _ _, ⟨rfl, fun i c h => by cases h⟩, trivial⟩
      refine m_read_107 (R := R) (σ0 := rd_init b σ1) (by omega) ?_ ?_ f 0 0 false [] _ gS0 hM (Nat.zero_le _) rfl (pk.refl _ _)
      · intro σ' hF hx
        have hn := flt_ne hF
        have hK := iK.trans hx.rdK
        have j2 : σ' 0 2 = 0 := (hx.2.1 2 (by omega) (by omega) (by omega) (by omega) (by omega) (by omega)).trans i2
        have j18 : σ' 0 18 = σ 0 18 := (hx.2.1 18 (by omega) (by omega) (by omega) (by omega) (by omega) (by omega)).trans i18
        have j47 : σ' 0 47 = σ 0 47 := (hx.2.1 47 (by omega) (by omega) (by omega) (by omega) (by omega) (by omega)).trans i47
        have fin : rdQ l R σ τ (some (.int (σ' 0 13))) (WM (s2 σ' 0 17 (σ' 0 14)) τ1) := by
          refine ⟨_, τ1, rfl, ht, ?_, j2, Or.inl ⟨hF.1, by rw [hF.2.1], hF.2.2.1, j18, j47⟩⟩
          rw [← hb]
          exact hK.trans (rdK_slot _ (by omega) (by omega) (by omega))
        refine ev_aload_n (pc' := 130) dX7_read_129 rfl rfl ?_
        refine ev_aload_n (pc' := 131) dX7_read_130 rfl rfl ?_
        refine ev_getf (pc' := 134) fl_7_200 dX7_read_131 rfl rfl rfl ?_
        refine ev_if_le (tgt := 144) (pc' := 137) dX7_read_134 (by decide) rfl (fun h_134 => ?_) (fun h_134 => ?_)
        · exact absurd hn.2 (Int32.not_lt.mpr h_134) --
        · refine ev_aload_n (pc' := 138) dX7_read_137 rfl rfl ?_
          refine ev_getf (pc' := 141) fl_7_206 dX7_read_138 rfl rfl rfl ?_
          refine ev_goto (tgt := 145) dX7_read_141 (by decide) ?_
          refine ev_putf (pc' := 148) fs_7_37 dX7_read_145 rfl rfl (Nat.le_of_ble_eq_true rfl) (fun _ => rfl) (fun _ => rfl) (WM_p7_17 _ _ _) ?_
          refine ev_aload_n (pc' := 149) dX7_read_148 rfl rfl ?_
          refine ev_getf (pc' := 152) fl_7_200 dX7_read_149 rfl rfl rfl ?_
          refine ev_if_le (tgt := 160) (pc' := 155) dX7_read_152 (by decide) rfl (fun h_152 => ?_) (fun h_152 => ?_)
          · exact absurd hn.2 (Int32.not_lt.mpr h_152) --
          · refine ev_aload_n (pc' := 156) dX7_read_155 rfl rfl ?_
            refine ev_getf (pc' := 159) fl_7_200 dX7_read_156 rfl rfl rfl ?_
            refine ev_ireturn rfl dX7_read_159 ?_
            exact fin
      · intro σ' pl S hR hM' s13 hx hok hS0
        have hK := iK.trans hx.rdK
        have j2 : σ' 0 2 = 0 := (hx.2.1 2 (by omega) (by omega) (by omega) (by omega) (by omega) (by omega)).trans i2
        have j19 : σ' 0 19 = nI b := (hx.2.1 19 (by omega) (by omega) (by omega) (by omega) (by omega) (by omega)).trans rfl
        have fin : rdQ l R σ τ (some (.int 0)) (WM (s2 (s2 (s2 σ' 0 17 (-1)) 0 18 (σ' 0 19)) 0 47 (-1)) τ1) := by
          refine ⟨_, τ1, rfl, ht, ?_, j2, Or.inr ⟨by rw [hR], rfl, rfl, ?_, rfl, ?_, ?_, ?_⟩⟩
          · rw [← hb]
            exact ((hK.trans (rdK_slot _ (by omega) (by omega) (by omega))).trans (rdK_slot _ (by omega) (by omega) (by omega))).trans (rdK_slot _ (by omega) (by omega) (by omega))
          · rw [← hb]; exact j19
          · rw [← hb, hR]
            obtain ⟨m1, m2, m3, m4⟩ := hM'
            exact ⟨m1, m2, mc_same m3 rfl rfl rfl, mll_same (σ := σ') (fun c j c1 c2 _ => by rw [show (s2 (s2 (s2 σ' 0 17 (-1)) 0 18 (σ' 0 19)) 0 47 (-1)) c = (s2 (s2 σ' 0 17 (-1)) 0 18 (σ' 0 19)) c from s1_ne _ _ (by omega), show (s2 (s2 σ' 0 17 (-1)) 0 18 (σ' 0 19)) c = (s2 σ' 0 17 (-1)) c from s1_ne _ _ (by omega), show (s2 σ' 0 17 (-1)) c = σ' c from s1_ne _ _ (by omega)]) (fun c j c1 c2 _ => by rw [show (s2 (s2 (s2 σ' 0 17 (-1)) 0 18 (σ' 0 19)) 0 47 (-1)) c = (s2 (s2 σ' 0 17 (-1)) 0 18 (σ' 0 19)) c from s1_ne _ _ (by omega), show (s2 (s2 σ' 0 17 (-1)) 0 18 (σ' 0 19)) c = (s2 σ' 0 17 (-1)) c from s1_ne _ _ (by omega), show (s2 σ' 0 17 (-1)) c = σ' c from s1_ne _ _ (by omega)]) m4⟩
          · rw [hR]; exact hok
          · rw [hR]; exact hS0
        refine ev_aload_n (pc' := 130) dX7_read_129 rfl rfl ?_
        refine ev_aload_n (pc' := 131) dX7_read_130 rfl rfl ?_
        refine ev_getf (pc' := 134) fl_7_200 dX7_read_131 rfl rfl rfl ?_
        refine ev_if_le (tgt := 144) (pc' := 137) dX7_read_134 (by decide) rfl (fun h_134 => ?_) (fun h_134 => ?_)
        · refine ev_iconst (pc' := 145) (v := -1) dX7_read_144 rfl (by decide) ?_
          refine ev_putf (pc' := 148) fs_7_37 dX7_read_145 rfl rfl (Nat.le_of_ble_eq_true rfl) (fun _ => rfl) (fun _ => rfl) (WM_p7_17 _ _ _) ?_
          refine ev_aload_n (pc' := 149) dX7_read_148 rfl rfl ?_
          refine ev_getf (pc' := 152) fl_7_200 dX7_read_149 rfl rfl rfl ?_
          refine ev_if_le (tgt := 160) (pc' := 155) dX7_read_152 (by decide) rfl (fun h_152 => ?_) (fun h_152 => ?_)
          · refine ev_aload_n (pc' := 161) dX7_read_160 rfl rfl ?_
            refine ev_aload_n (pc' := 162) dX7_read_161 rfl rfl ?_
            refine ev_getf (pc' := 165) fl_7_233 dX7_read_162 rfl rfl rfl ?_
            refine ev_putf (pc' := 168) fs_7_230 dX7_read_165 rfl rfl (Nat.le_of_ble_eq_true rfl) (fun _ => rfl) (fun _ => rfl) (WM_p7_18 _ _ _) ?_
            refine ev_aload_n (pc' := 169) dX7_read_168 rfl rfl ?_
            refine ev_iconst (pc' := 170) (v := -1) dX7_read_169 rfl (by decide) ?_
            refine ev_putf (pc' := 173) fs_7_110 dX7_read_170 rfl rfl (Nat.le_of_ble_eq_true rfl) (fun _ => rfl) (fun _ => rfl) (WM_p7_47 _ _ _) ?_
            refine ev_iconst (pc' := 174) (v := 0) dX7_read_173 rfl (by decide) ?_
            refine ev_ireturn rfl dX7_read_174 ?_
            exact fin
          · exact absurd (by show σ' 0 13 ≤ 0; rw [s13]; decide) h_152 --
        · exact absurd (by rw [s13]; decide) h_134 --
    refine ev_aload_n (pc' := 46) dX7_read_45 rfl rfl ?_
    refine ev_iconst (pc' := 47) (v := 0) dX7_read_46 rfl (by decide) ?_
    refine ev_putf (pc' := 50) fs_7_203 dX7_read_47 rfl rfl (Nat.le_of_ble_eq_true rfl) (fun _ => rfl) (fun _ => rfl) (WM_p7_11 _ _ _) ?_
    refine ev_aload_n (pc' := 51) dX7_read_50 rfl rfl ?_
    refine ev_iconst (pc' := 52) (v := 0) dX7_read_51 rfl (by decide) ?_
    refine ev_putf (pc' := 55) fs_7_227 dX7_read_52 rfl rfl (Nat.le_of_ble_eq_true rfl) (fun _ => rfl) (fun _ => rfl) (WM_p7_12 _ _ _) ?_
    refine ev_aload_n (pc' := 56) dX7_read_55 rfl rfl ?_
    refine ev_iconst (pc' := 57) (v := 0) dX7_read_56 rfl (by decide) ?_
    refine ev_putf (pc' := 60) fs_7_200 dX7_read_57 rfl rfl (Nat.le_of_ble_eq_true rfl) (fun _ => rfl) (fun _ => rfl) (WM_p7_13 _ _ _) ?_
    refine ev_aload_n (pc' := 61) dX7_read_60 rfl rfl ?_
    refine ev_iconst (pc' := 62) (v := 0) dX7_read_61 rfl (by decide) ?_
    refine ev_putf (pc' := 65) fs_7_209 dX7_read_62 rfl rfl (Nat.le_of_ble_eq_true rfl) (fun _ => rfl) (fun _ => rfl) (WM_p7_15 _ _ _) ?_
    refine ev_aload_n (pc' := 66) dX7_read_65 rfl rfl ?_
    refine ev_iconst (pc' := 67) (v := 1) dX7_read_66 rfl (by decide) ?_
    refine ev_aload_n (pc' := 68) dX7_read_67 rfl rfl ?_
    refine ev_getf (pc' := 71) fl_7_230 dX7_read_68 rfl rfl rfl ?_
    refine ev_isub (pc' := 72) dX7_read_71 rfl ?_
    refine ev_putf (pc' := 75) fs_7_233 dX7_read_72 rfl rfl (Nat.le_of_ble_eq_true rfl) (fun _ => rfl) (fun _ => rfl) (WM_p7_19 _ _ _) ?_
    refine ev_aload_n (pc' := 76) dX7_read_75 rfl rfl ?_
    refine ev_getf (pc' := 79) fl_7_40 dX7_read_76 rfl rfl rfl ?_
    refine ev_aload_n (pc' := 80) dX7_read_79 rfl rfl ?_
    refine ev_getf (pc' := 83) fl_7_233 dX7_read_80 rfl rfl rfl ?_
    refine ev_iconst (pc' := 84) (v := 0) dX7_read_83 rfl (by decide) ?_
    refine ev_iast (pc' := 85) dX7_read_84 rfl rfl ?_ (WM_a8 _ _ _) ?_
    · show vp_in (1 - σ1 0 18) 2; rw [e1]; exact vb2
    refine ev_aload_n (pc' := 86) dX7_read_85 rfl rfl ?_
    refine ev_getf (pc' := 89) fl_7_58 dX7_read_86 rfl rfl rfl ?_
    refine ev_aload_n (pc' := 90) dX7_read_89 rfl rfl ?_
    refine ev_getf (pc' := 93) fl_7_233 dX7_read_90 rfl rfl rfl ?_
    refine ev_iconst (pc' := 94) (v := 0) dX7_read_93 rfl (by decide) ?_
    refine ev_iast (pc' := 95) dX7_read_94 rfl rfl ?_ (WM_a14 _ _ _) ?_
    · show vp_in (1 - σ1 0 18) 2; rw [e1]; exact vb2
    refine ev_aload_n (pc' := 96) dX7_read_95 rfl rfl ?_
    refine ev_sipush (pc' := 99) (v := 500) dX7_read_96 rfl (by decide) ?_
    refine ev_aload_n (pc' := 100) dX7_read_99 rfl rfl ?_
    refine ev_getf (pc' := 103) fl_7_233 dX7_read_100 rfl rfl rfl ?_
    refine ev_imul (pc' := 104) dX7_read_103 rfl ?_
    refine ev_putf (pc' := 107) fs_7_236 dX7_read_104 rfl rfl (Nat.le_of_ble_eq_true rfl) (fun _ => rfl) (fun _ => rfl) (WM_p7_32 _ _ _) ?_
    refine ev_world (w' := WM (rd_init b σ1) τ1) ?_ k107
    show WM (s2 (s1 (s1 (s2 (s2 (s2 (s2 (s2 σ1 0 11 0) 0 12 0) 0 13 0) 0 15 0) 0 19 (1 - σ1 0 18)) 8 (upd (σ1 8) (1 - σ1 0 18).toNatClampNeg 0)) 14 (upd (σ1 14) (1 - σ1 0 18).toNatClampNeg 0)) 0 32 (500 * (1 - σ1 0 18))) τ1 = _
    rw [e1, eb, e500]
    rfl
  have k36 : Ev (d + 7) M7_read (rdQ l R σ τ) 36 [some (.ref 0), some (.int (nI k))] [] (WM (s1 (s2 σ 0 4 (nI k)) 2 (cpyTo (fun i => vp_nar .byte ((s2 σ 0 4 (nI k)) 1 i)) ((s2 σ 0 4 (nI k)) 2) k)) τ) := by
    refine ev_aload_n (pc' := 37) dX7_read_36 rfl rfl ?_
    refine ev_iconst (pc' := 38) (v := 0) dX7_read_37 rfl (by decide) ?_
    refine ev_putf (pc' := 41) fs_7_162 dX7_read_38 rfl rfl (Nat.le_of_ble_eq_true rfl) (fun _ => rfl) (fun _ => rfl) (WM_p7_2 _ _ _) ?_
    refine ev_world (w' := WM σC τ) (by rw [hC]; rfl) ?_
    refine ev_aload_n (pc' := 42) dX7_read_41 rfl rfl ?_
    refine ev_cVr0 (pc' := 45) cl_7_224 (cC) dX7_read_42 rfl rfl rfl rfl ?_
    rintro v w1 hq -
    obtain ⟨rfl, σ1, τ1, rfl, ht, hce⟩ := hq
    exact k45 σ1 τ1 ht hce _
  refine Ok.of (ls := [some _, none]) (by decide +kernel) (Nat.le_of_ble_eq_true rfl) rfl ?_
  refine ev_aload_n (pc' := 1) dX7_read_0 rfl rfl ?_
  refine ev_aload_n (pc' := 2) dX7_read_1 rfl rfl ?_
  refine ev_getf (pc' := 5) fl_7_162 dX7_read_2 rfl rfl rfl ?_
  refine ev_putf (pc' := 8) fs_7_169 dX7_read_5 rfl rfl (Nat.le_of_ble_eq_true rfl) (fun _ => rfl) (fun _ => rfl) (WM_p7_4 _ _ _) ?_
  refine ev_world (w' := WM (s2 σ 0 4 (nI k)) τ) (by rw [← h2]) ?_
  refine ev_iconst (pc' := 9) (v := 0) dX7_read_8 rfl (by decide) ?_
  refine ev_istore_n (pc' := 10) (ls' := [_, _]) dX7_read_9 rfl rfl rfl ?_
  refine ev_world (w' := WM (s1 (s2 σ 0 4 (nI k)) 2 (cpyTo (fun i => vp_nar .byte ((s2 σ 0 4 (nI k)) 1 i)) ((s2 σ 0 4 (nI k)) 2) 0)) τ) ?_ (m_read_copy τ k hk (s2 σ 0 4 (nI k)) rfl k36 k 0 (by omega))
  rw [cpyTo_0]
  exact congrArg (fun s => WM s τ) (s1_self _ 2).symm
