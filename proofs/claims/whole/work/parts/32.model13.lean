/-! The model, thirteenth part: a paper. -/
/-- b is a, but for some cells -/
def oc (L : List Nat) (a b : RS) : Prop := ∀ c, c ∉ L → b c = a c
theorem oc.refl (L : List Nat) (a : RS) : oc L a a := fun _ _ => rfl
theorem oc.trans {L : List Nat} {a b c : RS} (h : oc L a b) (g : oc L b c) : oc L a c := fun k hk => (g k hk).trans (h k hk)
theorem oc.s1 {L : List Nat} {a b : RS} (h : oc L a b) {c : Nat} (hc : c ∈ L) (f : Nat → Int32) : oc L a (s1 b c f) := fun k hk => by rw [s1_ne _ _ (fun e => hk (by rw [e]; exact hc))]; exact h k hk
theorem oc.s2 {L : List Nat} {a b : RS} (h : oc L a b) {c : Nat} (hc : c ∈ L) (j : Nat) (v : Int32) : oc L a (s2 b c j v) := h.s1 hc _
theorem h_val_oc {L : List Nat} (h : 40 ∈ L) (σ : RS) (a b : Nat) : oc L σ (h_val σ a b).2 := (oc.refl L σ).s1 h _
theorem h_rel_oc {L : List Nat} (h : 40 ∈ L) (σ : RS) (i : Nat) : oc L σ (h_rel σ i).2 := (h_val_oc h _ _ _).trans (h_val_oc h _ _ _)
theorem h_run_oc {L : List Nat} (h : 40 ∈ L) (b : Nat) : ∀ (c k : Nat) (all : Bool) (σ : RS), oc L σ (h_run b c k all σ).2 := by
  intro c
  induction c with
  | zero => intro k all σ; exact oc.refl L σ
  | succ c ih =>
    intro k all σ
    rw [h_run]
    split
    · exact oc.refl L σ
    · split
      · exact (h_rel_oc h σ _).trans (ih _ _ _)
      · exact ih _ _ _
theorem h_holds_oc {L : List Nat} (h : 40 ∈ L) (l : Nat) (σ : RS) (r : Nat) : oc L σ (h_holds l σ r).2 := by
  unfold h_holds
  split
  · exact oc.refl L σ
  · exact h_run_oc h _ _ _ _ _
theorem u_of_oc {L : List Nat} (h : 40 ∈ L) (l : Nat) (s : Int32) : ∀ (c r : Nat) (σ : RS), oc L σ (u_of l s c r σ).2 := by
  intro c
  induction c with
  | zero => intro r σ; exact oc.refl L σ
  | succ c ih =>
    intro r σ
    rw [u_of]
    split
    · split
      · exact h_holds_oc h _ _ _
      · exact (h_holds_oc h _ _ _).trans (ih _ _)
    · exact ih _ _
theorem a_vars_oc {L : List Nat} (h : 39 ∈ L) (P : Nat) (σ : RS) (k : Nat) : oc L σ (a_vars P σ k) := by
  unfold a_vars
  exact (((((((((oc.refl L σ).s2 h _ _).s2 h _ _).s2 h _ _).s2 h _ _).s2 h _ _).s2 h _ _).s2 h _ _).s2 h _ _).s2 h _ _
abbrev pL : List Nat := [34, 35, 36, 39, 40]
theorem a_ban_oc (P l m : Nat) (σ : RS) (k : Nat) : oc pL σ (a_ban P l m σ k) := ((a_vars_oc (by decide) P σ k).trans (u_of_oc (by decide) _ _ _ _ _)).s2 (by decide) _ _
theorem a_asks_oc (P l m : Nat) (σ : RS) (k : Nat) : oc pL σ (a_asks P l m σ k) := by
  unfold a_asks
  dsimp only
  split
  · exact ((a_ban_oc P l m σ k).trans (u_of_oc (by decide) _ _ _ _ _)).s2 (by decide) _ _
  · exact (a_ban_oc P l m σ k).s2 (by decide) _ _
theorem u_of_res (l : Nat) (s : Int32) : ∀ (c r : Nat) (σ : RS), (u_of l s c r σ).1 = -1 ∨ ∃ k, r ≤ k ∧ k < r + c ∧ (u_of l s c r σ).1 = nI k := by
  intro c
  induction c with
  | zero => intro r σ; exact Or.inl rfl
  | succ c ih =>
    intro r σ
    have step : ∀ σ', (u_of l s c (r + 1) σ').1 = -1 ∨ ∃ k, r ≤ k ∧ k < r + (c + 1) ∧ (u_of l s c (r + 1) σ').1 = nI k := by
      intro σ'
      rcases ih (r + 1) σ' with h | ⟨k, h1, h2, h3⟩
      · exact Or.inl h
      · exact Or.inr ⟨k, by omega, by omega, h3⟩
    rw [u_of]
    split
    · split
      · exact Or.inr ⟨r, Nat.le_refl _, by omega, rfl⟩
      · exact step _
    · exact step _
def p_leaf (σ : RS) (k : Nat) : Nat := 400 * nt (σ 28 k) + nt (σ 29 k)
def p_ab (σ : RS) (k : Nat) : Nat := 8 * nt (σ 26 k) + nt (σ 27 k)
def p_ba (σ : RS) (k : Nat) : Nat := 8 * nt (σ 27 k) + nt (σ 26 k)
def p_clear (σ : RS) (k : Nat) : RS := s2 (s2 (s2 σ 34 k (if σ 38 k = 0 then 0 else 1)) 35 k (-1)) 36 k (-1)
def p_why (P l m : Nat) (σ : RS) (k : Nat) : RS :=
  if ¬ σ 31 (p_leaf σ k) = σ 26 k then s2 σ 34 k 2
  else if σ 29 k ≤ σ 25 k then s2 σ 34 k 3
  else if σ 24 k = 0 then a_asks P l m σ k
  else if σ 33 (p_ab σ k) = 0 then s2 σ 34 k 5 else σ
def p_move (σ : RS) (k : Nat) : RS := s2 (s2 σ 31 (p_leaf σ k) (σ 27 k)) 32 (p_leaf σ k) (σ 32 (p_leaf σ k) + 1)
def p_clamp (v : Int32) : Int32 := if v < 0 then 0 else if 100 < v then 100 else v
def p_rule (l : Nat) (σ : RS) (k : Nat) : Nat := 16 * l + nt (σ 36 k)
def p_grown (l : Nat) (σ : RS) (k : Nat) : Int32 × RS := h_val σ (nt (σ 10 (p_rule l σ k))) (nt (σ 11 (p_rule l σ k)))
def p_owe (l : Nat) (σ : RS) (k : Nat) : RS :=
  if σ 24 k = 1 then s2 σ 33 (p_ab σ k) (if σ 33 (p_ab σ k) - 10 < 0 then 0 else σ 33 (p_ab σ k) - 10)
  else if σ 36 k = -1 then s2 σ 33 (p_ba σ k) (σ 33 (p_ba σ k) + 11)
  else s2 (p_grown l σ k).2 33 (p_ba σ k) ((p_grown l σ k).2 33 (p_ba σ k) + p_clamp (p_grown l σ k).1)
def p_paper (P l m : Nat) (σ : RS) (k : Nat) : RS :=
  if 0 < (p_clear σ k) 34 k then p_clear σ k
  else if σ 24 k = 2 then g_meets P 64 (f_find P (p_clear σ k))
  else if 0 < (p_why P l m (p_clear σ k) k) 34 k then p_why P l m (p_clear σ k) k
  else p_owe l (p_move (p_why P l m (p_clear σ k) k) k) k
theorem p_fact_oc {σ σ' : RS} {k s m a b p y w : Nat} (h : p_fact σ k s m a b p y w) (e : ∀ c, 24 ≤ c → c ≤ 30 → σ' c = σ c) : p_fact σ' k s m a b p y w := by
  obtain ⟨g0, g1, g2, g3, g4, g5, g6, g7⟩ := h
  exact ⟨g0, by rw [e 24 (by omega) (by omega)]; exact g1, by rw [e 25 (by omega) (by omega)]; exact g2, by rw [e 26 (by omega) (by omega)]; exact g3, by rw [e 27 (by omega) (by omega)]; exact g4, by rw [e 28 (by omega) (by omega)]; exact g5, by rw [e 29 (by omega) (by omega)]; exact g6, by rw [e 30 (by omega) (by omega)]; exact g7⟩
theorem m_owe {d : Nat} (τ : TS) (σ T : RS) (l m k s q a b p y w : Nat) (z3 : Option Value) (hl : h_okLaw σ l m) (hk : k < 120) (hf : p_fact σ k s q a b p y w) (hg : σ 36 k = -1 ∨ ∃ R, R < m ∧ σ 36 k = nI R) (hT : T = p_owe l σ k) : Ev (d + 4) M7_paper (rt none (WM T τ)) 208 [some (.ref 0), some (.int (nI k)), some (.int (nI (400 * p + y))), z3] [] (WM σ τ) := by
  obtain ⟨⟨b1, b2, b3, b4, b5, b6, b7⟩, g1, g2, g3, g4, g5, g6, g7⟩ := hf
  have ek : (nI k).toNatClampNeg = k := nI_clamp (by omega)
  have hvk : vp_in (nI k) 120 := vp_in_nI (by omega) (by omega)
  have ec := g_cell b a
  have ec2 : (nI (8 * b + a)).toNatClampNeg = 8 * b + a := nI_clamp (by omega)
  have hvc : vp_in (nI (8 * b + a)) 64 := vp_in_nI (by omega) (by omega)
  have ed := g_cell a b
  have ed2 : (nI (8 * a + b)).toNatClampNeg = 8 * a + b := nI_clamp (by omega)
  have hvd : vp_in (nI (8 * a + b)) 64 := vp_in_nI (by omega) (by omega)
  have eab : p_ab σ k = 8 * a + b := by unfold p_ab; rw [g3, g4, nt_nI (by omega), nt_nI (by omega)]
  have eba : p_ba σ k = 8 * b + a := by unfold p_ba; rw [g3, g4, nt_nI (by omega), nt_nI (by omega)]
  unfold p_owe at hT
  rw [eab, eba, g1] at hT
  have fin : ∀ (v : Int32) (σ' : RS), oc [40] σ σ' → T = s2 σ' 33 (8 * b + a) (σ' 33 (8 * b + a) + v) → Ev (d + 4) M7_paper (rt none (WM T τ)) 351 [some (.ref 0), some (.int (nI k)), some (.int (nI (400 * p + y))), some (.int v)] [] (WM σ' τ) := by
    intro v σ' ho hT
    have g4' : σ' 27 k = nI b := by rw [ho 27 (by decide)]; exact g4
    have g3' : σ' 26 k = nI a := by rw [ho 26 (by decide)]; exact g3
    refine ev_aload_n (pc' := 352) dX7_paper_351 rfl rfl ?_
    refine ev_getf (pc' := 355) fl_7_119 dX7_paper_352 rfl rfl rfl ?_
    refine ev_bipush (pc' := 357) (v := 8) dX7_paper_355 rfl (by decide) ?_
    refine ev_aload_n (pc' := 358) dX7_paper_357 rfl rfl ?_
    refine ev_getf (pc' := 361) fl_7_98 dX7_paper_358 rfl rfl rfl ?_
    refine ev_iload_n (pc' := 362) dX7_paper_361 rfl rfl ?_
    refine ev_iald (pc' := 363) dX7_paper_362 rfl rfl ?_ ?_
    · exact hvk
    rw [ek, g4']
    refine ev_imul (pc' := 364) dX7_paper_363 rfl ?_
    refine ev_aload_n (pc' := 365) dX7_paper_364 rfl rfl ?_
    refine ev_getf (pc' := 368) fl_7_95 dX7_paper_365 rfl rfl rfl ?_
    refine ev_iload_n (pc' := 369) dX7_paper_368 rfl rfl ?_
    refine ev_iald (pc' := 370) dX7_paper_369 rfl rfl ?_ ?_
    · exact hvk
    rw [ek, g3']
    refine ev_iadd (pc' := 371) dX7_paper_370 rfl ?_
    rw [ec]
    refine ev_dup2 (pc' := 372) dX7_paper_371 rfl rfl rfl ?_
    refine ev_iald (pc' := 373) dX7_paper_372 rfl rfl ?_ ?_
    · exact hvc
    rw [ec2]
    refine ev_iload_n (pc' := 374) dX7_paper_373 rfl rfl ?_
    refine ev_iadd (pc' := 375) dX7_paper_374 rfl ?_
    refine ev_iast (pc' := 376) dX7_paper_375 rfl rfl ?_ (WM_a33 _ _ _) ?_
    · exact hvc
    refine ev_return rfl dX7_paper_376 ?_
    rw [hT]
    refine rt_of rfl ?_
    show WM (s1 _ _ (upd _ (nI (8 * b + a)).toNatClampNeg _)) τ = _
    rw [ec2]
    rfl
  by_cases hs : nI s = 1
  · rw [if_pos hs] at hT
    refine ev_aload_n (pc' := 209) dX7_paper_208 rfl rfl ?_
    refine ev_getf (pc' := 212) fl_7_89 dX7_paper_209 rfl rfl rfl ?_
    refine ev_iload_n (pc' := 213) dX7_paper_212 rfl rfl ?_
    refine ev_iald (pc' := 214) dX7_paper_213 rfl rfl ?_ ?_
    · exact hvk
    rw [ek, g1]
    refine ev_iconst (pc' := 215) (v := 1) dX7_paper_214 rfl (by decide) ?_
    refine ev_icmp_ne (tgt := 274) (pc' := 218) dX7_paper_215 (by decide) rfl (fun h_215 => ?_) (fun h_215 => ?_)
    · exact absurd hs h_215 --
    · refine ev_aload_n (pc' := 219) dX7_paper_218 rfl rfl ?_
      refine ev_getf (pc' := 222) fl_7_119 dX7_paper_219 rfl rfl rfl ?_
      refine ev_bipush (pc' := 224) (v := 8) dX7_paper_222 rfl (by decide) ?_
      refine ev_aload_n (pc' := 225) dX7_paper_224 rfl rfl ?_
      refine ev_getf (pc' := 228) fl_7_95 dX7_paper_225 rfl rfl rfl ?_
      refine ev_iload_n (pc' := 229) dX7_paper_228 rfl rfl ?_
      refine ev_iald (pc' := 230) dX7_paper_229 rfl rfl ?_ ?_
      · exact hvk
      rw [ek, g3]
      refine ev_imul (pc' := 231) dX7_paper_230 rfl ?_
      refine ev_aload_n (pc' := 232) dX7_paper_231 rfl rfl ?_
      refine ev_getf (pc' := 235) fl_7_98 dX7_paper_232 rfl rfl rfl ?_
      refine ev_iload_n (pc' := 236) dX7_paper_235 rfl rfl ?_
      refine ev_iald (pc' := 237) dX7_paper_236 rfl rfl ?_ ?_
      · exact hvk
      rw [ek, g4]
      refine ev_iadd (pc' := 238) dX7_paper_237 rfl ?_
      rw [ed]
      refine ev_iald (pc' := 239) dX7_paper_238 rfl rfl ?_ ?_
      · exact hvd
      rw [ed2]
      refine ev_bipush (pc' := 241) (v := 10) dX7_paper_239 rfl (by decide) ?_
      refine ev_isub (pc' := 242) dX7_paper_241 rfl ?_
      refine ev_istore_n (pc' := 243) (ls' := [_, _, _, _]) dX7_paper_242 rfl rfl rfl ?_
      refine ev_aload_n (pc' := 244) dX7_paper_243 rfl rfl ?_
      refine ev_getf (pc' := 247) fl_7_119 dX7_paper_244 rfl rfl rfl ?_
      refine ev_bipush (pc' := 249) (v := 8) dX7_paper_247 rfl (by decide) ?_
      refine ev_aload_n (pc' := 250) dX7_paper_249 rfl rfl ?_
      refine ev_getf (pc' := 253) fl_7_95 dX7_paper_250 rfl rfl rfl ?_
      refine ev_iload_n (pc' := 254) dX7_paper_253 rfl rfl ?_
      refine ev_iald (pc' := 255) dX7_paper_254 rfl rfl ?_ ?_
      · exact hvk
      rw [ek, g3]
      refine ev_imul (pc' := 256) dX7_paper_255 rfl ?_
      refine ev_aload_n (pc' := 257) dX7_paper_256 rfl rfl ?_
      refine ev_getf (pc' := 260) fl_7_98 dX7_paper_257 rfl rfl rfl ?_
      refine ev_iload_n (pc' := 261) dX7_paper_260 rfl rfl ?_
      refine ev_iald (pc' := 262) dX7_paper_261 rfl rfl ?_ ?_
      · exact hvk
      rw [ek, g4]
      refine ev_iadd (pc' := 263) dX7_paper_262 rfl ?_
      rw [ed]
      refine ev_iload_n (pc' := 264) dX7_paper_263 rfl rfl ?_
      refine ev_if_ge (tgt := 271) (pc' := 267) dX7_paper_264 (by decide) rfl (fun h_264 => ?_) (fun h_264 => ?_)
      · rw [if_neg (Int32.not_lt.mpr h_264)] at hT
        refine ev_iload_n (pc' := 272) dX7_paper_271 rfl rfl ?_
        refine ev_iast (pc' := 273) dX7_paper_272 rfl rfl ?_ (WM_a33 _ _ _) ?_
        · exact hvd
        refine ev_return rfl dX7_paper_273 ?_
        rw [hT]
        refine rt_of rfl ?_
        show WM (s1 _ _ (upd _ (nI (8 * a + b)).toNatClampNeg _)) τ = _
        rw [ed2]
        rfl
      · rw [if_pos (Int32.not_le.mp h_264)] at hT
        refine ev_iconst (pc' := 268) (v := 0) dX7_paper_267 rfl (by decide) ?_
        refine ev_goto (tgt := 272) dX7_paper_268 (by decide) ?_
        refine ev_iast (pc' := 273) dX7_paper_272 rfl rfl ?_ (WM_a33 _ _ _) ?_
        · exact hvd
        refine ev_return rfl dX7_paper_273 ?_
        rw [hT]
        refine rt_of rfl ?_
        show WM (s1 _ _ (upd _ (nI (8 * a + b)).toNatClampNeg _)) τ = _
        rw [ed2]
        rfl
  · rw [if_neg hs] at hT
    by_cases h36 : σ 36 k = -1
    · rw [if_pos h36] at hT
      refine ev_aload_n (pc' := 209) dX7_paper_208 rfl rfl ?_
      refine ev_getf (pc' := 212) fl_7_89 dX7_paper_209 rfl rfl rfl ?_
      refine ev_iload_n (pc' := 213) dX7_paper_212 rfl rfl ?_
      refine ev_iald (pc' := 214) dX7_paper_213 rfl rfl ?_ ?_
      · exact hvk
      rw [ek, g1]
      refine ev_iconst (pc' := 215) (v := 1) dX7_paper_214 rfl (by decide) ?_
      refine ev_icmp_ne (tgt := 274) (pc' := 218) dX7_paper_215 (by decide) rfl (fun h_215 => ?_) (fun h_215 => ?_)
      · refine ev_bipush (pc' := 276) (v := 11) dX7_paper_274 rfl (by decide) ?_
        refine ev_istore_n (pc' := 277) (ls' := [_, _, _, _]) dX7_paper_276 rfl rfl rfl ?_
        refine ev_aload_n (pc' := 278) dX7_paper_277 rfl rfl ?_
        refine ev_getf (pc' := 281) fl_7_128 dX7_paper_278 rfl rfl rfl ?_
        refine ev_iload_n (pc' := 282) dX7_paper_281 rfl rfl ?_
        refine ev_iald (pc' := 283) dX7_paper_282 rfl rfl ?_ ?_
        · exact hvk
        rw [ek]
        refine ev_iconst (pc' := 284) (v := -1) dX7_paper_283 rfl (by decide) ?_
        refine ev_icmp_eq (tgt := 351) (pc' := 287) dX7_paper_284 (by decide) rfl (fun h_284 => ?_) (fun h_284 => ?_)
        · exact fin 11 σ (oc.refl _ σ) hT
        · exact absurd h36 h_284 --
      · exact absurd h_215 hs --
    · rw [if_neg h36] at hT
      rcases hg with hg | ⟨R, hR, hg⟩
      · exact absurd hg h36
      obtain ⟨l1, l2, l3, l4, l5⟩ := hl
      obtain ⟨-, F, G, f1, f2, f3, f4, f5⟩ := l5 R hR
      have er : p_rule l σ k = 16 * l + R := by unfold p_rule; rw [hg, nt_nI (by omega)]
      have el : 16 * nI l + nI R = nI (16 * l + R) := by rw [show (16 : Int32) * nI l = nI (16 * l) from nI_mul 16 l, nI_add]
      have el2 : (nI (16 * l + R)).toNatClampNeg = 16 * l + R := nI_clamp (by omega)
      have hvl : vp_in (nI (16 * l + R)) 32 := vp_in_nI (by omega) (by omega)
      have egr : p_grown l σ k = h_val σ F G := by unfold p_grown; rw [er, f1, f2, nt_nI (by omega), nt_nI (by omega)]
      have hval := m_val (d := d + 3) σ τ F G f3 f4 f5
      have ho := h_val_oc (L := [40]) (by decide) σ F G
      rw [egr] at hT
      generalize h_val σ F G = X at *
      have k351 : ∀ v, v = p_clamp X.1 → Ev (d + 4) M7_paper (rt none (WM T τ)) 351 [some (.ref 0), some (.int (nI k)), some (.int (nI (400 * p + y))), some (.int v)] [] (WM X.2 τ) := by
        intro v hv
        exact fin v X.2 ho (by rw [hv]; exact hT)
      refine ev_aload_n (pc' := 209) dX7_paper_208 rfl rfl ?_
      refine ev_getf (pc' := 212) fl_7_89 dX7_paper_209 rfl rfl rfl ?_
      refine ev_iload_n (pc' := 213) dX7_paper_212 rfl rfl ?_
      refine ev_iald (pc' := 214) dX7_paper_213 rfl rfl ?_ ?_
      · exact hvk
      rw [ek, g1]
      refine ev_iconst (pc' := 215) (v := 1) dX7_paper_214 rfl (by decide) ?_
      refine ev_icmp_ne (tgt := 274) (pc' := 218) dX7_paper_215 (by decide) rfl (fun h_215 => ?_) (fun h_215 => ?_)
      · refine ev_bipush (pc' := 276) (v := 11) dX7_paper_274 rfl (by decide) ?_
        refine ev_istore_n (pc' := 277) (ls' := [_, _, _, _]) dX7_paper_276 rfl rfl rfl ?_
        refine ev_aload_n (pc' := 278) dX7_paper_277 rfl rfl ?_
        refine ev_getf (pc' := 281) fl_7_128 dX7_paper_278 rfl rfl rfl ?_
        refine ev_iload_n (pc' := 282) dX7_paper_281 rfl rfl ?_
        refine ev_iald (pc' := 283) dX7_paper_282 rfl rfl ?_ ?_
        · exact hvk
        rw [ek]
        refine ev_iconst (pc' := 284) (v := -1) dX7_paper_283 rfl (by decide) ?_
        refine ev_icmp_eq (tgt := 351) (pc' := 287) dX7_paper_284 (by decide) rfl (fun h_284 => ?_) (fun h_284 => ?_)
        · exact absurd h_284 h36 --
        · refine ev_aload_n (pc' := 288) dX7_paper_287 rfl rfl ?_
          refine ev_aload_n (pc' := 289) dX7_paper_288 rfl rfl ?_
          refine ev_getf (pc' := 292) fl_7_46 dX7_paper_289 rfl rfl rfl ?_
          refine ev_bipush (pc' := 294) (v := 16) dX7_paper_292 rfl (by decide) ?_
          refine ev_aload_n (pc' := 295) dX7_paper_294 rfl rfl ?_
          refine ev_getf (pc' := 298) fl_7_230 dX7_paper_295 rfl rfl rfl ?_
          refine ev_imul (pc' := 299) dX7_paper_298 rfl ?_
          refine ev_aload_n (pc' := 300) dX7_paper_299 rfl rfl ?_
          refine ev_getf (pc' := 303) fl_7_128 dX7_paper_300 rfl rfl rfl ?_
          refine ev_iload_n (pc' := 304) dX7_paper_303 rfl rfl ?_
          refine ev_iald (pc' := 305) dX7_paper_304 rfl rfl ?_ ?_
          · exact hvk
          rw [ek, hg]
          refine ev_iadd (pc' := 306) dX7_paper_305 rfl ?_
          refine ev_iald (pc' := 307) dX7_paper_306 rfl rfl ?_ ?_
          · rw [l1, el]; exact hvl
          rw [l1, el, el2, f1]
          refine ev_aload_n (pc' := 308) dX7_paper_307 rfl rfl ?_
          refine ev_getf (pc' := 311) fl_7_49 dX7_paper_308 rfl rfl rfl ?_
          refine ev_bipush (pc' := 313) (v := 16) dX7_paper_311 rfl (by decide) ?_
          refine ev_aload_n (pc' := 314) dX7_paper_313 rfl rfl ?_
          refine ev_getf (pc' := 317) fl_7_230 dX7_paper_314 rfl rfl rfl ?_
          refine ev_imul (pc' := 318) dX7_paper_317 rfl ?_
          refine ev_aload_n (pc' := 319) dX7_paper_318 rfl rfl ?_
          refine ev_getf (pc' := 322) fl_7_128 dX7_paper_319 rfl rfl rfl ?_
          refine ev_iload_n (pc' := 323) dX7_paper_322 rfl rfl ?_
          refine ev_iald (pc' := 324) dX7_paper_323 rfl rfl ?_ ?_
          · exact hvk
          rw [ek, hg]
          refine ev_iadd (pc' := 325) dX7_paper_324 rfl ?_
          refine ev_iald (pc' := 326) dX7_paper_325 rfl rfl ?_ ?_
          · rw [l1, el]; exact hvl
          rw [l1, el, el2, f2]
          refine ev_cVi2 (pc' := 329) cl_7_283 (hval) dX7_paper_326 rfl rfl rfl rfl ?_
          refine ev_istore_n (pc' := 330) (ls' := [_, _, _, _]) dX7_paper_329 rfl rfl rfl ?_
          refine ev_iload_n (pc' := 331) dX7_paper_330 rfl rfl ?_
          refine ev_if_ge (tgt := 338) (pc' := 334) dX7_paper_331 (by decide) rfl (fun h_331 => ?_) (fun h_331 => ?_)
          · refine ev_iload_n (pc' := 339) dX7_paper_338 rfl rfl ?_
            refine ev_bipush (pc' := 341) (v := 100) dX7_paper_339 rfl (by decide) ?_
            refine ev_icmp_le (tgt := 349) (pc' := 344) dX7_paper_341 (by decide) rfl (fun h_341 => ?_) (fun h_341 => ?_)
            · refine ev_iload_n (pc' := 350) dX7_paper_349 rfl rfl ?_
              refine ev_istore_n (pc' := 351) (ls' := [_, _, _, _]) dX7_paper_350 rfl rfl rfl ?_
              refine k351 _ ?_
              unfold p_clamp
              first
                | (rw [if_pos (Int32.not_le.mp h_331)]; done)
                | (rw [if_neg (Int32.not_lt.mpr h_331), if_neg (Int32.not_lt.mpr h_341)]; done)
                | (rw [if_neg (Int32.not_lt.mpr h_331), if_pos (Int32.not_le.mp h_341)]; done)
            · refine ev_bipush (pc' := 346) (v := 100) dX7_paper_344 rfl (by decide) ?_
              refine ev_goto (tgt := 350) dX7_paper_346 (by decide) ?_
              refine ev_istore_n (pc' := 351) (ls' := [_, _, _, _]) dX7_paper_350 rfl rfl rfl ?_
              refine k351 _ ?_
              unfold p_clamp
              first
                | (rw [if_pos (Int32.not_le.mp h_331)]; done)
                | (rw [if_neg (Int32.not_lt.mpr h_331), if_neg (Int32.not_lt.mpr h_341)]; done)
                | (rw [if_neg (Int32.not_lt.mpr h_331), if_pos (Int32.not_le.mp h_341)]; done)
          · refine ev_iconst (pc' := 335) (v := 0) dX7_paper_334 rfl (by decide) ?_
            refine ev_goto (tgt := 350) dX7_paper_335 (by decide) ?_
            refine ev_istore_n (pc' := 351) (ls' := [_, _, _, _]) dX7_paper_350 rfl rfl rfl ?_
            refine k351 _ ?_
            unfold p_clamp
            first
              | (rw [if_pos (Int32.not_le.mp h_331)]; done)
              | (rw [if_neg (Int32.not_lt.mpr h_331), if_neg (Int32.not_lt.mpr h_341)]; done)
              | (rw [if_neg (Int32.not_lt.mpr h_331), if_pos (Int32.not_le.mp h_341)]; done)
      · exact absurd h_215 hs --
theorem m_moved {d : Nat} (τ : TS) (σ T : RS) (l m k s q a b p y w : Nat) (z3 : Option Value) (hl : h_okLaw σ l m) (hk : k < 120) (hf : p_fact σ k s q a b p y w) (hg : σ 36 k = -1 ∨ ∃ R, R < m ∧ σ 36 k = nI R) (hT : T = if 0 < σ 34 k then σ else p_owe l (p_move σ k) k) : Ev (d + 4) M7_paper (rt none (WM T τ)) 176 [some (.ref 0), some (.int (nI k)), some (.int (nI (400 * p + y))), z3] [] (WM σ τ) := by
  have hf0 := hf
  obtain ⟨⟨b1, b2, b3, b4, b5, b6, b7⟩, g1, g2, g3, g4, g5, g6, g7⟩ := hf
  have ek : (nI k).toNatClampNeg = k := nI_clamp (by omega)
  have hvk : vp_in (nI k) 120 := vp_in_nI (by omega) (by omega)
  have ex : (nI (400 * p + y)).toNatClampNeg = 400 * p + y := nI_clamp (by omega)
  have hvx : vp_in (nI (400 * p + y)) 3200 := vp_in_nI (by omega) (by omega)
  have elf : p_leaf σ k = 400 * p + y := by unfold p_leaf; rw [g5, g6, nt_nI (by omega), nt_nI (by omega)]
  obtain ⟨σ1, h1⟩ : ∃ U, U = s2 σ 31 (400 * p + y) (nI b) := ⟨_, rfl⟩
  obtain ⟨σ2, h2⟩ : ∃ U, U = s2 σ1 32 (400 * p + y) (σ 32 (400 * p + y) + 1) := ⟨_, rfl⟩
  have q2 : oc [31, 32] σ σ2 := by rw [h2, h1]; exact ((oc.refl _ _).s2 (by decide) _ _).s2 (by decide) _ _
  have eMV : p_move σ k = σ2 := by unfold p_move; rw [elf, g4, h2, h1]
  rw [eMV] at hT
  have g32 : σ1 32 (400 * p + y) = σ 32 (400 * p + y) := by rw [h1]; rfl
  have l2 : lsame σ σ2 := ⟨fun c c1 c2 => q2 c (by simp; omega), by rw [q2 0 (by decide)]⟩
  refine ev_aload_n (pc' := 177) dX7_paper_176 rfl rfl ?_
  refine ev_getf (pc' := 180) fl_7_122 dX7_paper_177 rfl rfl rfl ?_
  refine ev_iload_n (pc' := 181) dX7_paper_180 rfl rfl ?_
  refine ev_iald (pc' := 182) dX7_paper_181 rfl rfl ?_ ?_
  · exact hvk
  rw [ek]
  refine ev_if_le (tgt := 186) (pc' := 185) dX7_paper_182 (by decide) rfl (fun h_182 => ?_) (fun h_182 => ?_)
  · rw [if_neg (Int32.not_lt.mpr h_182)] at hT
    refine ev_aload_n (pc' := 187) dX7_paper_186 rfl rfl ?_
    refine ev_getf (pc' := 190) fl_7_113 dX7_paper_187 rfl rfl rfl ?_
    refine ev_iload_n (pc' := 191) dX7_paper_190 rfl rfl ?_
    refine ev_aload_n (pc' := 192) dX7_paper_191 rfl rfl ?_
    refine ev_getf (pc' := 195) fl_7_98 dX7_paper_192 rfl rfl rfl ?_
    refine ev_iload_n (pc' := 196) dX7_paper_195 rfl rfl ?_
    refine ev_iald (pc' := 197) dX7_paper_196 rfl rfl ?_ ?_
    · exact hvk
    rw [ek, g4]
    refine ev_iast (pc' := 198) dX7_paper_197 rfl rfl ?_ (WM_a31 _ _ _) ?_
    · exact hvx
    refine ev_world (w' := WM σ1 τ) (by rw [h1]; show WM (s1 _ _ (upd _ (nI (400 * p + y)).toNatClampNeg _)) τ = _; rw [ex]; rfl) ?_
    refine ev_aload_n (pc' := 199) dX7_paper_198 rfl rfl ?_
    refine ev_getf (pc' := 202) fl_7_116 dX7_paper_199 rfl rfl rfl ?_
    refine ev_iload_n (pc' := 203) dX7_paper_202 rfl rfl ?_
    refine ev_dup2 (pc' := 204) dX7_paper_203 rfl rfl rfl ?_
    refine ev_iald (pc' := 205) dX7_paper_204 rfl rfl ?_ ?_
    · exact hvx
    rw [ex, g32]
    refine ev_iconst (pc' := 206) (v := 1) dX7_paper_205 rfl (by decide) ?_
    refine ev_iadd (pc' := 207) dX7_paper_206 rfl ?_
    refine ev_iast (pc' := 208) dX7_paper_207 rfl rfl ?_ (WM_a32 _ _ _) ?_
    · exact hvx
    refine ev_world (w' := WM σ2 τ) (by rw [h2]; show WM (s1 _ _ (upd _ (nI (400 * p + y)).toNatClampNeg _)) τ = _; rw [ex]; rfl) ?_
    exact m_owe τ σ2 T l m k s q a b p y w _ (h_okLaw_same l2 hl) hk (p_fact_oc hf0 (fun c c1 c2 => q2 c (by simp; omega))) (by rw [q2 36 (by decide)]; exact hg) hT
  · rw [if_pos (Int32.not_le.mp h_182)] at hT
    refine ev_return rfl dX7_paper_185 ?_
    rw [hT]
    exact ⟨rfl, rfl⟩
theorem m_paper {d : Nat} (τ : TS) (σ : RS) (P l m k s q a b p y w : Nat) (hP : P ≤ 8) (h37 : σ 0 37 = nI P) (hl : h_okLaw σ l m) (hk : k < 120) (hs : s ≤ 2) (hf : p_fact σ k s q a b p y w) (hm : s = 2 → ¬ 0 < (g_meets P 64 (f_find P (p_clear σ k))) 0 59) : Ok (d + 4) M7_paper [.ref 0, .int (nI k)] (WM σ τ) (rt none (WM (p_paper P l m σ k) τ)) := by
  have hf0 := hf
  obtain ⟨⟨b1, b2, b3, b4, b5, b6, b7⟩, g1, g2, g3, g4, g5, g6, g7⟩ := hf
  have ek : (nI k).toNatClampNeg = k := nI_clamp (by omega)
  have hvk : vp_in (nI k) 120 := vp_in_nI (by omega) (by omega)
  obtain ⟨T, hT⟩ : ∃ U, U = p_paper P l m σ k := ⟨_, rfl⟩
  rw [← hT]
  unfold p_paper at hT
  rw [g1] at hT
  obtain ⟨σ0, h0⟩ : ∃ U, U = p_clear σ k := ⟨_, rfl⟩
  rw [← h0] at hT hm
  have q0 : oc [34, 35, 36] σ σ0 := by rw [h0]; exact (((oc.refl _ _).s2 (by decide) _ _).s2 (by decide) _ _).s2 (by decide) _ _
  have l0 : lsame σ σ0 := ⟨fun c c1 c2 => q0 c (by simp; omega), by rw [q0 0 (by decide)]⟩
  have hf1 := p_fact_oc hf0 (σ' := σ0) (fun c c1 c2 => q0 c (by simp; omega))
  have hl0 := h_okLaw_same l0 hl
  have k37 : σ0 0 37 = nI P := by rw [q0 0 (by decide)]; exact h37
  obtain ⟨-, G1, G2, G3, G4, G5, G6, G7⟩ := hf1
  have hf1 := p_fact_oc hf0 (σ' := σ0) (fun c c1 c2 => q0 c (by simp; omega))
  have s36 : σ0 36 k = -1 := by rw [h0]; exact upd_same _ _ _
  have s34 : σ0 34 k = (if σ 38 k = 0 then 0 else 1) := by rw [h0]; exact upd_same _ _ _
  have k34 : Ev (d + 4) M7_paper (rt none (WM T τ)) 34 [some (.ref 0), some (.int (nI k)), none, none] [] (WM σ0 τ) := by
    by_cases h2 : s = 2
    · subst h2
      have callM := m_meets (d := d + 1) σ0 τ P hP k37 (hm rfl)
      rw [if_pos (show nI 2 = (2 : Int32) from rfl)] at hT
      refine ev_aload_n (pc' := 35) dX7_paper_34 rfl rfl ?_
      refine ev_getf (pc' := 38) fl_7_122 dX7_paper_35 rfl rfl rfl ?_
      refine ev_iload_n (pc' := 39) dX7_paper_38 rfl rfl ?_
      refine ev_iald (pc' := 40) dX7_paper_39 rfl rfl ?_ ?_
      · exact hvk
      rw [ek]
      refine ev_if_le (tgt := 44) (pc' := 43) dX7_paper_40 (by decide) rfl (fun h_40 => ?_) (fun h_40 => ?_)
      · rw [if_neg (Int32.not_lt.mpr h_40)] at hT
        refine ev_aload_n (pc' := 45) dX7_paper_44 rfl rfl ?_
        refine ev_getf (pc' := 48) fl_7_89 dX7_paper_45 rfl rfl rfl ?_
        refine ev_iload_n (pc' := 49) dX7_paper_48 rfl rfl ?_
        refine ev_iald (pc' := 50) dX7_paper_49 rfl rfl ?_ ?_
        · exact hvk
        rw [ek, G1]
        refine ev_iconst (pc' := 51) (v := 2) dX7_paper_50 rfl (by decide) ?_
        refine ev_icmp_ne (tgt := 59) (pc' := 54) dX7_paper_51 (by decide) rfl (fun h_51 => ?_) (fun h_51 => ?_)
        · exact absurd rfl h_51 --
        · refine ev_aload_n (pc' := 55) dX7_paper_54 rfl rfl ?_
          refine ev_cVv0 (pc' := 58) cl_7_296 (callM) dX7_paper_55 rfl rfl rfl rfl ?_
          refine ev_return rfl dX7_paper_58 ?_
          rw [hT]
          exact ⟨rfl, rfl⟩
      · rw [if_pos (Int32.not_le.mp h_40)] at hT
        refine ev_return rfl dX7_paper_43 ?_
        rw [hT]
        exact ⟨rfl, rfl⟩
    · have n2 : ¬ nI s = 2 := fun z => h2 ((nI_eq (a := s) (b := 2) (by omega) (by omega)).mp z)
      rw [if_neg n2] at hT
      have ex : (nI (400 * p + y)).toNatClampNeg = 400 * p + y := nI_clamp (by omega)
      have hvx : vp_in (nI (400 * p + y)) 3200 := vp_in_nI (by omega) (by omega)
      have e4 := m_cell p y
      have ed := g_cell a b
      have ed2 : (nI (8 * a + b)).toNatClampNeg = 8 * a + b := nI_clamp (by omega)
      have hvd : vp_in (nI (8 * a + b)) 64 := vp_in_nI (by omega) (by omega)
      have eab : p_ab σ0 k = 8 * a + b := by unfold p_ab; rw [G3, G4, nt_nI (by omega), nt_nI (by omega)]
      have elf : p_leaf σ0 k = 400 * p + y := by unfold p_leaf; rw [G5, G6, nt_nI (by omega), nt_nI (by omega)]
      have go : ∀ σ1 z3, oc pL σ0 σ1 → (σ1 36 k = -1 ∨ ∃ R, R < m ∧ σ1 36 k = nI R) → (T = if 0 < σ1 34 k then σ1 else p_owe l (p_move σ1 k) k) → Ev (d + 4) M7_paper (rt none (WM T τ)) 176 [some (.ref 0), some (.int (nI k)), some (.int (nI (400 * p + y))), z3] [] (WM σ1 τ) := by
        intro σ1 z3 ho hg hT
        have l1 : lsame σ0 σ1 := ⟨fun c c1 c2 => ho c (by simp; omega), by rw [ho 0 (by decide)]⟩
        exact m_moved τ σ1 T l m k s q a b p y w z3 (h_okLaw_same l1 hl0) hk (p_fact_oc hf1 (fun c c1 c2 => ho c (by simp; omega))) hg hT
      have callA := m_asks (d := d) τ σ0 P l m k s q a b p y w hP k37 hl0 hk hf1
      have hA := a_asks_oc P l m σ0 k
      have hA36 : (a_asks P l m σ0 k) 36 k = -1 ∨ ∃ R, R < m ∧ (a_asks P l m σ0 k) 36 k = nI R := by
        unfold a_asks
        dsimp only
        split
        · show upd _ k _ k = _ ∨ ∃ R, R < m ∧ upd _ k _ k = _
          rw [upd_same]
          rcases u_of_res l 1 m 0 (a_ban P l m σ0 k) with h | ⟨R, -, h1, h2⟩
          · exact Or.inl h
          · exact Or.inr ⟨R, by omega, h2⟩
        · refine Or.inl ?_
          show (a_ban P l m σ0 k) 36 k = -1
          unfold a_ban
          show (u_of l 0 m 0 (a_vars P σ0 k)).2 36 k = -1
          rw [u_of_oc (L := [40]) (by decide) l 0 m 0 (a_vars P σ0 k) 36 (by decide), a_vars_oc (L := [39]) (by decide) P σ0 k 36 (by decide)]
          exact s36
      obtain ⟨σW, hW⟩ : ∃ U, U = p_why P l m σ0 k := ⟨_, rfl⟩
      rw [← hW] at hT
      unfold p_why at hW
      rw [eab, elf, G1, G2, G3, G6] at hW
      generalize a_asks P l m σ0 k = σA at *
      refine ev_aload_n (pc' := 35) dX7_paper_34 rfl rfl ?_
      refine ev_getf (pc' := 38) fl_7_122 dX7_paper_35 rfl rfl rfl ?_
      refine ev_iload_n (pc' := 39) dX7_paper_38 rfl rfl ?_
      refine ev_iald (pc' := 40) dX7_paper_39 rfl rfl ?_ ?_
      · exact hvk
      rw [ek]
      refine ev_if_le (tgt := 44) (pc' := 43) dX7_paper_40 (by decide) rfl (fun h_40 => ?_) (fun h_40 => ?_)
      · rw [if_neg (Int32.not_lt.mpr h_40)] at hT
        refine ev_aload_n (pc' := 45) dX7_paper_44 rfl rfl ?_
        refine ev_getf (pc' := 48) fl_7_89 dX7_paper_45 rfl rfl rfl ?_
        refine ev_iload_n (pc' := 49) dX7_paper_48 rfl rfl ?_
        refine ev_iald (pc' := 50) dX7_paper_49 rfl rfl ?_ ?_
        · exact hvk
        rw [ek, G1]
        refine ev_iconst (pc' := 51) (v := 2) dX7_paper_50 rfl (by decide) ?_
        refine ev_icmp_ne (tgt := 59) (pc' := 54) dX7_paper_51 (by decide) rfl (fun h_51 => ?_) (fun h_51 => ?_)
        · refine ev_sipush (pc' := 62) (v := 400) dX7_paper_59 rfl (by decide) ?_
          refine ev_aload_n (pc' := 63) dX7_paper_62 rfl rfl ?_
          refine ev_getf (pc' := 66) fl_7_101 dX7_paper_63 rfl rfl rfl ?_
          refine ev_iload_n (pc' := 67) dX7_paper_66 rfl rfl ?_
          refine ev_iald (pc' := 68) dX7_paper_67 rfl rfl ?_ ?_
          · exact hvk
          rw [ek, G5]
          refine ev_imul (pc' := 69) dX7_paper_68 rfl ?_
          refine ev_aload_n (pc' := 70) dX7_paper_69 rfl rfl ?_
          refine ev_getf (pc' := 73) fl_7_104 dX7_paper_70 rfl rfl rfl ?_
          refine ev_iload_n (pc' := 74) dX7_paper_73 rfl rfl ?_
          refine ev_iald (pc' := 75) dX7_paper_74 rfl rfl ?_ ?_
          · exact hvk
          rw [ek, G6]
          refine ev_iadd (pc' := 76) dX7_paper_75 rfl ?_
          rw [e4]
          refine ev_istore_n (pc' := 77) (ls' := [_, _, _, _]) dX7_paper_76 rfl rfl rfl ?_
          refine ev_aload_n (pc' := 78) dX7_paper_77 rfl rfl ?_
          refine ev_getf (pc' := 81) fl_7_113 dX7_paper_78 rfl rfl rfl ?_
          refine ev_iload_n (pc' := 82) dX7_paper_81 rfl rfl ?_
          refine ev_iald (pc' := 83) dX7_paper_82 rfl rfl ?_ ?_
          · exact hvx
          rw [ex]
          refine ev_aload_n (pc' := 84) dX7_paper_83 rfl rfl ?_
          refine ev_getf (pc' := 87) fl_7_95 dX7_paper_84 rfl rfl rfl ?_
          refine ev_iload_n (pc' := 88) dX7_paper_87 rfl rfl ?_
          refine ev_iald (pc' := 89) dX7_paper_88 rfl rfl ?_ ?_
          · exact hvk
          rw [ek, G3]
          refine ev_icmp_eq (tgt := 102) (pc' := 92) dX7_paper_89 (by decide) rfl (fun h_89 => ?_) (fun h_89 => ?_)
          · rw [if_neg (fun z => z h_89)] at hW
            refine ev_aload_n (pc' := 103) dX7_paper_102 rfl rfl ?_
            refine ev_getf (pc' := 106) fl_7_104 dX7_paper_103 rfl rfl rfl ?_
            refine ev_iload_n (pc' := 107) dX7_paper_106 rfl rfl ?_
            refine ev_iald (pc' := 108) dX7_paper_107 rfl rfl ?_ ?_
            · exact hvk
            rw [ek, G6]
            refine ev_aload_n (pc' := 109) dX7_paper_108 rfl rfl ?_
            refine ev_getf (pc' := 112) fl_7_92 dX7_paper_109 rfl rfl rfl ?_
            refine ev_iload_n (pc' := 113) dX7_paper_112 rfl rfl ?_
            refine ev_iald (pc' := 114) dX7_paper_113 rfl rfl ?_ ?_
            · exact hvk
            rw [ek, G2]
            refine ev_icmp_gt (tgt := 127) (pc' := 117) dX7_paper_114 (by decide) rfl (fun h_114 => ?_) (fun h_114 => ?_)
            · rw [if_neg (Int32.not_le.mpr h_114)] at hW
              refine ev_aload_n (pc' := 128) dX7_paper_127 rfl rfl ?_
              refine ev_getf (pc' := 131) fl_7_89 dX7_paper_128 rfl rfl rfl ?_
              refine ev_iload_n (pc' := 132) dX7_paper_131 rfl rfl ?_
              refine ev_iald (pc' := 133) dX7_paper_132 rfl rfl ?_ ?_
              · exact hvk
              rw [ek, G1]
              refine ev_if_ne (tgt := 145) (pc' := 136) dX7_paper_133 (by decide) rfl (fun h_133 => ?_) (fun h_133 => ?_)
              · rw [if_neg h_133] at hW
                refine ev_aload_n (pc' := 146) dX7_paper_145 rfl rfl ?_
                refine ev_getf (pc' := 149) fl_7_119 dX7_paper_146 rfl rfl rfl ?_
                refine ev_bipush (pc' := 151) (v := 8) dX7_paper_149 rfl (by decide) ?_
                refine ev_aload_n (pc' := 152) dX7_paper_151 rfl rfl ?_
                refine ev_getf (pc' := 155) fl_7_95 dX7_paper_152 rfl rfl rfl ?_
                refine ev_iload_n (pc' := 156) dX7_paper_155 rfl rfl ?_
                refine ev_iald (pc' := 157) dX7_paper_156 rfl rfl ?_ ?_
                · exact hvk
                rw [ek, G3]
                refine ev_imul (pc' := 158) dX7_paper_157 rfl ?_
                refine ev_aload_n (pc' := 159) dX7_paper_158 rfl rfl ?_
                refine ev_getf (pc' := 162) fl_7_98 dX7_paper_159 rfl rfl rfl ?_
                refine ev_iload_n (pc' := 163) dX7_paper_162 rfl rfl ?_
                refine ev_iald (pc' := 164) dX7_paper_163 rfl rfl ?_ ?_
                · exact hvk
                rw [ek, G4]
                refine ev_iadd (pc' := 165) dX7_paper_164 rfl ?_
                refine ev_iald (pc' := 166) dX7_paper_165 rfl rfl ?_ ?_
                · rw [ed]; exact hvd
                rw [ed, ed2]
                refine ev_if_ne (tgt := 176) (pc' := 169) dX7_paper_166 (by decide) rfl (fun h_166 => ?_) (fun h_166 => ?_)
                · rw [if_neg h_166] at hW
                  rw [hW] at hT
                  exact go σ0 _ (oc.refl _ _) (Or.inl s36) hT --
                · rw [if_pos h_166] at hW
                  refine ev_aload_n (pc' := 170) dX7_paper_169 rfl rfl ?_
                  refine ev_getf (pc' := 173) fl_7_122 dX7_paper_170 rfl rfl rfl ?_
                  refine ev_iload_n (pc' := 174) dX7_paper_173 rfl rfl ?_
                  refine ev_iconst (pc' := 175) (v := 5) dX7_paper_174 rfl (by decide) ?_
                  refine ev_iast (pc' := 176) dX7_paper_175 rfl rfl ?_ (WM_a34 _ _ _) ?_
                  · exact hvk
                  refine ev_world (w' := WM σW τ) (by rw [hW]; show WM (s1 _ _ (upd _ (nI k).toNatClampNeg _)) τ = _; rw [ek]; rfl) ?_
                  exact go σW _ (by rw [hW]; exact (oc.refl _ _).s2 (by decide) _ _) (Or.inl (by rw [hW]; exact s36)) hT
              · rw [if_pos h_133] at hW
                refine ev_aload_n (pc' := 137) dX7_paper_136 rfl rfl ?_
                refine ev_iload_n (pc' := 138) dX7_paper_137 rfl rfl ?_
                refine ev_iload_n (pc' := 139) dX7_paper_138 rfl rfl ?_
                refine ev_cVv2 (pc' := 142) cl_7_299 (callA) dX7_paper_139 rfl rfl rfl rfl ?_
                refine ev_goto (tgt := 176) dX7_paper_142 (by decide) ?_
                rw [hW] at hT
                exact go σA _ hA hA36 hT
            · rw [if_pos (Int32.not_lt.mp h_114)] at hW
              refine ev_aload_n (pc' := 118) dX7_paper_117 rfl rfl ?_
              refine ev_getf (pc' := 121) fl_7_122 dX7_paper_118 rfl rfl rfl ?_
              refine ev_iload_n (pc' := 122) dX7_paper_121 rfl rfl ?_
              refine ev_iconst (pc' := 123) (v := 3) dX7_paper_122 rfl (by decide) ?_
              refine ev_iast (pc' := 124) dX7_paper_123 rfl rfl ?_ (WM_a34 _ _ _) ?_
              · exact hvk
              refine ev_goto (tgt := 176) dX7_paper_124 (by decide) ?_
              refine ev_world (w' := WM σW τ) (by rw [hW]; show WM (s1 _ _ (upd _ (nI k).toNatClampNeg _)) τ = _; rw [ek]; rfl) ?_
              exact go σW _ (by rw [hW]; exact (oc.refl _ _).s2 (by decide) _ _) (Or.inl (by rw [hW]; exact s36)) hT
          · rw [if_pos h_89] at hW
            refine ev_aload_n (pc' := 93) dX7_paper_92 rfl rfl ?_
            refine ev_getf (pc' := 96) fl_7_122 dX7_paper_93 rfl rfl rfl ?_
            refine ev_iload_n (pc' := 97) dX7_paper_96 rfl rfl ?_
            refine ev_iconst (pc' := 98) (v := 2) dX7_paper_97 rfl (by decide) ?_
            refine ev_iast (pc' := 99) dX7_paper_98 rfl rfl ?_ (WM_a34 _ _ _) ?_
            · exact hvk
            refine ev_goto (tgt := 176) dX7_paper_99 (by decide) ?_
            refine ev_world (w' := WM σW τ) (by rw [hW]; show WM (s1 _ _ (upd _ (nI k).toNatClampNeg _)) τ = _; rw [ek]; rfl) ?_
            exact go σW _ (by rw [hW]; exact (oc.refl _ _).s2 (by decide) _ _) (Or.inl (by rw [hW]; exact s36)) hT
        · exact absurd h_51 n2 --
      · rw [if_pos (Int32.not_le.mp h_40)] at hT
        refine ev_return rfl dX7_paper_43 ?_
        rw [hT]
        exact ⟨rfl, rfl⟩
  refine Ok.of (ls := [some _, some _, none, none]) (by decide +kernel) (Nat.le_of_ble_eq_true rfl) rfl ?_
  refine ev_aload_n (pc' := 1) dX7_paper_0 rfl rfl ?_
  refine ev_getf (pc' := 4) fl_7_122 dX7_paper_1 rfl rfl rfl ?_
  refine ev_iload_n (pc' := 5) dX7_paper_4 rfl rfl ?_
  refine ev_aload_n (pc' := 6) dX7_paper_5 rfl rfl ?_
  refine ev_getf (pc' := 9) fl_7_134 dX7_paper_6 rfl rfl rfl ?_
  refine ev_iload_n (pc' := 10) dX7_paper_9 rfl rfl ?_
  refine ev_zald (pc' := 11) dX7_paper_10 rfl rfl ?_ ?_
  · exact hvk
  rw [ek]
  refine ev_if_eq (tgt := 18) (pc' := 14) dX7_paper_11 (by decide) rfl (fun h_11 => ?_) (fun h_11 => ?_)
  · have e11 : σ0 34 k = 0 := s34.trans (if_pos h_11)
    refine ev_iconst (pc' := 19) (v := 0) dX7_paper_18 rfl (by decide) ?_
    refine ev_iast (pc' := 20) dX7_paper_19 rfl rfl ?_ (WM_a34 _ _ _) ?_
    · exact hvk
    refine ev_aload_n (pc' := 21) dX7_paper_20 rfl rfl ?_
    refine ev_getf (pc' := 24) fl_7_125 dX7_paper_21 rfl rfl rfl ?_
    refine ev_iload_n (pc' := 25) dX7_paper_24 rfl rfl ?_
    refine ev_iconst (pc' := 26) (v := -1) dX7_paper_25 rfl (by decide) ?_
    refine ev_iast (pc' := 27) dX7_paper_26 rfl rfl ?_ (WM_a35 _ _ _) ?_
    · exact hvk
    refine ev_aload_n (pc' := 28) dX7_paper_27 rfl rfl ?_
    refine ev_getf (pc' := 31) fl_7_128 dX7_paper_28 rfl rfl rfl ?_
    refine ev_iload_n (pc' := 32) dX7_paper_31 rfl rfl ?_
    refine ev_iconst (pc' := 33) (v := -1) dX7_paper_32 rfl (by decide) ?_
    refine ev_iast (pc' := 34) dX7_paper_33 rfl rfl ?_ (WM_a36 _ _ _) ?_
    · exact hvk
    refine ev_world (w' := WM σ0 τ) ?_ k34
    rw [h0]
    unfold p_clear
    first
      | rw [if_pos h_11]
      | rw [if_neg h_11]
    show WM (s1 (s1 (s1 σ 34 (upd (σ 34) (nI k).toNatClampNeg _)) 35 (upd (σ 35) (nI k).toNatClampNeg _)) 36 (upd (σ 36) (nI k).toNatClampNeg _)) τ = _
    rw [ek]
    rfl
  · have e11 : σ0 34 k = 1 := s34.trans (if_neg h_11)
    refine ev_iconst (pc' := 15) (v := 1) dX7_paper_14 rfl (by decide) ?_
    refine ev_goto (tgt := 19) dX7_paper_15 (by decide) ?_
    refine ev_iast (pc' := 20) dX7_paper_19 rfl rfl ?_ (WM_a34 _ _ _) ?_
    · exact hvk
    refine ev_aload_n (pc' := 21) dX7_paper_20 rfl rfl ?_
    refine ev_getf (pc' := 24) fl_7_125 dX7_paper_21 rfl rfl rfl ?_
    refine ev_iload_n (pc' := 25) dX7_paper_24 rfl rfl ?_
    refine ev_iconst (pc' := 26) (v := -1) dX7_paper_25 rfl (by decide) ?_
    refine ev_iast (pc' := 27) dX7_paper_26 rfl rfl ?_ (WM_a35 _ _ _) ?_
    · exact hvk
    refine ev_aload_n (pc' := 28) dX7_paper_27 rfl rfl ?_
    refine ev_getf (pc' := 31) fl_7_128 dX7_paper_28 rfl rfl rfl ?_
    refine ev_iload_n (pc' := 32) dX7_paper_31 rfl rfl ?_
    refine ev_iconst (pc' := 33) (v := -1) dX7_paper_32 rfl (by decide) ?_
    refine ev_iast (pc' := 34) dX7_paper_33 rfl rfl ?_ (WM_a36 _ _ _) ?_
    · exact hvk
    refine ev_world (w' := WM σ0 τ) ?_ k34
    rw [h0]
    unfold p_clear
    first
      | rw [if_pos h_11]
      | rw [if_neg h_11]
    show WM (s1 (s1 (s1 σ 34 (upd (σ 34) (nI k).toNatClampNeg _)) 35 (upd (σ 35) (nI k).toNatClampNeg _)) 36 (upd (σ 36) (nI k).toNatClampNeg _)) τ = _
    rw [ek]
    rfl
