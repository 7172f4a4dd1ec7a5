/-! The model, fourteenth part: all papers, day by day. -/
def kc (a b : RS) : Prop := (∀ c, 1 ≤ c → c ≤ 30 → b c = a c) ∧ b 37 = a 37 ∧ b 38 = a 38 ∧ ∀ j, j < 59 → b 0 j = a 0 j
theorem kc.refl (a : RS) : kc a a := ⟨fun _ _ _ => rfl, rfl, rfl, fun _ _ => rfl⟩
theorem kc.trans {a b c : RS} (h : kc a b) (g : kc b c) : kc a c := ⟨fun k h1 h2 => (g.1 k h1 h2).trans (h.1 k h1 h2), g.2.1.trans h.2.1, g.2.2.1.trans h.2.2.1, fun j hj => (g.2.2.2 j hj).trans (h.2.2.2 j hj)⟩
theorem oc.kc {L : List Nat} {a b : RS} (h : oc L a b) (hL : ∀ c, c ≤ 30 ∨ c = 37 ∨ c = 38 → c ∉ L) : kc a b := ⟨fun c _ h2 => h c (hL c (Or.inl h2)), h 37 (hL 37 (by omega)), h 38 (hL 38 (by omega)), fun j _ => by rw [h 0 (hL 0 (by omega))]⟩
theorem f_kp.kc {m : Nat} {a b : RS} (h : f_kp m a b) : kc a b := ⟨fun c h1 h2 => h.1 c (by omega) (by omega) (by omega) (by omega), h.1 37 (by decide) (by decide) (by decide) (by decide), h.1 38 (by decide) (by decide) (by decide) (by decide), fun j hj => h.2.1 j (by omega) (by omega) (by omega)⟩
theorem g_meetR_kc (r : Nat → Nat) (m c i : Nat) (σ : RS) : kc σ (g_meetR r m c i σ) := ⟨fun k h1 h2 => g_meetR_at r m c i σ k (by omega), g_meetR_at r m c i σ 37 (by decide), g_meetR_at r m c i σ 38 (by decide), fun j _ => by rw [g_meetR_at r m c i σ 0 (by decide)]⟩
theorem g_meets_kc (P : Nat) : ∀ (c : Nat) (σ : RS), kc σ (g_meets P c σ) := by
  intro c
  induction c with
  | zero => intro σ; exact kc.refl σ
  | succ c ih =>
    intro σ
    rw [g_meets]
    split
    · exact ((g_meetR_kc _ _ _ _ _).trans (f_kp_find P _).kc).trans (ih _)
    · exact kc.refl σ
theorem p_clear_oc (σ : RS) (k : Nat) : oc [34, 35, 36] σ (p_clear σ k) := (((oc.refl _ _).s2 (by decide) _ _).s2 (by decide) _ _).s2 (by decide) _ _
theorem p_why_oc (P l m : Nat) (σ : RS) (k : Nat) : oc pL σ (p_why P l m σ k) := by
  unfold p_why
  split
  · exact (oc.refl _ _).s2 (by decide) _ _
  · split
    · exact (oc.refl _ _).s2 (by decide) _ _
    · split
      · exact a_asks_oc _ _ _ _ _
      · split
        · exact (oc.refl _ _).s2 (by decide) _ _
        · exact oc.refl _ _
theorem p_move_oc (σ : RS) (k : Nat) : oc [31, 32] σ (p_move σ k) := ((oc.refl _ _).s2 (by decide) _ _).s2 (by decide) _ _
theorem p_owe_oc (l : Nat) (σ : RS) (k : Nat) : oc [33, 40] σ (p_owe l σ k) := by
  unfold p_owe
  split
  · exact (oc.refl _ _).s2 (by decide) _ _
  · split
    · exact (oc.refl _ _).s2 (by decide) _ _
    · exact (h_val_oc (by decide) _ _ _).s2 (by decide) _ _
theorem p_paper_kc (P l m : Nat) (σ : RS) (k : Nat) : kc σ (p_paper P l m σ k) := by
  have h0 := (p_clear_oc σ k).kc (by intro c hc; simp; omega)
  unfold p_paper
  split
  · exact h0
  · split
    · exact (h0.trans (f_kp_find P _).kc).trans (g_meets_kc P _ _)
    · have h1 := h0.trans ((p_why_oc P l m (p_clear σ k) k).kc (by intro c hc; simp; omega))
      split
      · exact h1
      · exact (h1.trans ((p_move_oc _ k).kc (by intro c hc; simp; omega))).trans ((p_owe_oc l _ k).kc (by intro c hc; simp; omega))
theorem ob.mono {B C : Nat} {o : Nat → Int32} (h : ob B o) (hBC : B ≤ C) : ob C o := fun i hi => by
  obtain ⟨v, h1, h2⟩ := h i hi
  exact ⟨v, by omega, h2⟩
theorem ob.upd {B : Nat} {o : Nat → Int32} (h : ob B o) {j v : Nat} (hv : j < 64 → v ≤ B) {x : Int32} (hx : j < 64 → x = nI v) : ob B (upd o j x) := fun i hi => by
  by_cases e : i = j
  · subst e
    rw [upd_same]
    exact ⟨v, hv hi, hx hi⟩
  · rw [upd_ne _ _ e]
    exact h i hi
theorem less10 : ∀ v : Fin 10, nI v.val - 10 < 0 := by decide +kernel
theorem pay_10 {v : Nat} (hv : v < 2 ^ 31) : (if nI v - 10 < 0 then (0 : Int32) else nI v - 10) = nI (v - 10) := by
  by_cases h : v < 10
  · rw [if_pos (less10 ⟨v, h⟩), show v - 10 = 0 by omega]
    rfl
  · have e : nI v - 10 = nI (v - 10) := nI_sub (a := v) (b := 10) (by omega)
    rw [e, if_neg (nI_pos (by omega))]
theorem clamp_100 (x : Int32) : ∃ v : Nat, v ≤ 100 ∧ p_clamp x = nI v := by
  unfold p_clamp
  split
  · exact ⟨0, by omega, rfl⟩
  · rename_i h
    split
    · exact ⟨100, by omega, rfl⟩
    · rename_i h2
      obtain ⟨j, h3, h4⟩ := nI_of2 (M := 100) (n := 100) (by decide) h (Int32.not_lt.mp h2)
      exact ⟨j, h3, h4⟩
theorem p_owe_ob {B : Nat} (hB : B ≤ 5000000) (l : Nat) (σ : RS) (k : Nat) (h : ob B (σ 33)) : ob (B + 100) ((p_owe l σ k) 33) := by
  have hb := h.mono (show B ≤ B + 100 by omega)
  unfold p_owe
  split
  · refine hb.upd (v := nt (σ 33 (p_ab σ k)) - 10) (fun hi => ?_) (fun hi => ?_)
    · have := (h.at hB hi).2; omega
    · obtain ⟨a1, a2⟩ := h.at hB hi
      rw [a1]
      rw [nt_nI (by omega)]
      exact pay_10 (by omega)
  · split
    · refine hb.upd (v := nt (σ 33 (p_ba σ k)) + 11) (fun hi => ?_) (fun hi => ?_)
      · have := (h.at hB hi).2; omega
      · obtain ⟨a1, a2⟩ := h.at hB hi
        rw [a1]
        rw [nt_nI (by omega)]
        exact nI_add _ 11
    · have e33 : (p_grown l σ k).2 33 = σ 33 := h_val_oc (L := [40]) (by decide) _ _ _ 33 (by decide)
      obtain ⟨v, v1, v2⟩ := clamp_100 (p_grown l σ k).1
      show ob _ (upd ((p_grown l σ k).2 33) _ _)
      rw [e33, v2]
      refine hb.upd (v := nt (σ 33 (p_ba σ k)) + v) (fun hi => ?_) (fun hi => ?_)
      · have := (h.at hB hi).2; omega
      · obtain ⟨a1, a2⟩ := h.at hB hi
        rw [a1]
        rw [nt_nI (by omega)]
        exact nI_add _ v
theorem p_paper_ob {P B : Nat} (hP : P ≤ 8) (hB : B ≤ 5000000) (l m : Nat) (σ : RS) (k : Nat) (h : ob B (σ 33)) : ob (B + 100) ((p_paper P l m σ k) 33) := by
  have e0 : (p_clear σ k) 33 = σ 33 := p_clear_oc σ k 33 (by decide)
  unfold p_paper
  split
  · rw [e0]; exact h.mono (by omega)
  · split
    · exact (g_meets_ok hP hB (p_clear σ k) (by rw [e0]; exact h)).2.mono (by omega)
    · have e1 : (p_why P l m (p_clear σ k) k) 33 = σ 33 := (p_why_oc P l m (p_clear σ k) k 33 (by decide)).trans e0
      split
      · rw [e1]; exact h.mono (by omega)
      · refine p_owe_ob hB l _ k ?_
        rw [p_move_oc _ k 33 (by decide), e1]
        exact h
def d_one (P l m d k : Nat) (σ : RS) : RS := if σ 24 k ≤ 2 ∧ σ 25 k = nI d then p_paper P l m σ k else σ
def d_day (P l m n d : Nat) (σ : RS) : RS := r_for (d_one P l m d) n 0 σ
theorem d_one_kc (P l m d k : Nat) (σ : RS) : kc σ (d_one P l m d k σ) := by
  unfold d_one
  split
  · exact p_paper_kc P l m σ k
  · exact kc.refl σ
theorem r_for_kc {g : Nat → RS → RS} (h : ∀ k σ, kc σ (g k σ)) : ∀ (c k : Nat) (σ : RS), kc σ (r_for g c k σ) := by
  intro c
  induction c with
  | zero => intro k σ; exact kc.refl σ
  | succ c ih => intro k σ; exact (h k σ).trans (ih (k + 1) _)
def k_mark (k : Nat) (σ : RS) : RS :=
  let σ1 := if σ 24 k = 3 then s2 σ 38 (nt (σ 30 k)) 1 else σ
  if σ1 24 k = 4 then s2 σ1 37 (nt (σ1 25 k)) (if σ1 30 k = 1 then 1 else 0) else σ1
theorem k_mark_keep (k : Nat) (σ : RS) (c : Nat) (hc : c ≤ 30) : (k_mark k σ) c = σ c := by
  have h1 : (if σ 24 k = 3 then s2 σ 38 (nt (σ 30 k)) 1 else σ) c = σ c := by
    by_cases h : σ 24 k = 3
    · rw [if_pos h]; exact s1_ne _ _ (by omega)
    · rw [if_neg h]
  unfold k_mark
  generalize (if σ 24 k = 3 then s2 σ 38 (nt (σ 30 k)) 1 else σ) = σ1 at *
  by_cases h : σ1 24 k = 4
  · rw [if_pos h]; exact (s1_ne _ _ (by omega)).trans h1
  · rw [if_neg h]; exact h1
def g_init (σ : RS) (n day : Nat) : RS := s1 (s1 (s1 (s1 (s1 (s2 (s2 σ 0 47 (nI n)) 0 48 (nI day)) 31 (cpyTo (fun i => nI (i / 400)) (σ 31) 3200)) 32 (cpyTo (fun _ => 0) (σ 32) 3200)) 33 (cpyTo (fun _ => 0) (σ 33) 64)) 37 (cpyTo (fun _ => 0) (σ 37) 400)) 38 (cpyTo (fun _ => 0) (σ 38) 120)
def g_gone (P l m n day : Nat) (σ : RS) : RS := if σ 0 47 = nI n ∧ σ 0 48 = nI day then σ else r_for (d_day P l m n) (day + 1) 0 (r_for k_mark n 0 (g_init σ n day))
/-- what goes needs of its facts -/
def p_facts (σ : RS) (n : Nat) : Prop := ∀ k, k < n → ∃ s m a b p y w, p_fact σ k s m a b p y w
theorem p_facts_kc {a b : RS} (h : kc a b) {n : Nat} (g : p_facts a n) : p_facts b n := fun k hk => by
  obtain ⟨s, m, x, y, p, q, w, hf⟩ := g k hk
  exact ⟨s, m, x, y, p, q, w, p_fact_oc hf (fun c c1 c2 => h.1 c (by omega) (by omega))⟩
theorem kc.lsame {a b : RS} (h : kc a b) : lsame a b := ⟨fun c c1 c2 => h.1 c (by omega) (by omega), h.2.2.2 18 (by omega)⟩
theorem m_day_loop {d : Nat} {Q : Option Value → MW → Prop} (τ : TS) (P l m n dd : Nat) (x2 : Int32) (hP : P ≤ 8) (hn : n ≤ 120) (hd : dd < 400) : ∀ (c k : Nat) (σ : RS), k + c = n → σ 0 37 = nI P → h_okLaw σ l m → p_facts σ n → ob (100 * (120 * dd + k)) (σ 33) → (Ev (d + 5) M7_goes Q 245 [some (.ref 0), some (.int (nI n)), some (.int x2), some (.int (nI dd)), some (.int (nI n))] [] (WM (r_for (d_one P l m dd) c k σ) τ)) → Ev (d + 5) M7_goes Q 205 [some (.ref 0), some (.int (nI n)), some (.int x2), some (.int (nI dd)), some (.int (nI k))] [] (WM σ τ) := by
  intro c
  induction c with
  | zero =>
    intro k σ hk h37 hl hf hb kk
    have hk : k = n := by omega
    subst hk
    refine ev_iload (pc' := 207) dX7_goes_205 rfl rfl ?_
    refine ev_iload_n (pc' := 208) dX7_goes_207 rfl rfl ?_
    refine ev_icmp_ge (tgt := 245) (pc' := 211) dX7_goes_208 (by decide) rfl (fun h_208 => ?_) (fun h_208 => ?_)
    · exact kk --
    · exact absurd (nI_le (Nat.le_refl _) (by omega)) h_208 --
  | succ c ih =>
    intro k σ hk h37 hl hf hb kk
    have ek : (nI k).toNatClampNeg = k := nI_clamp (by omega)
    have hvk : vp_in (nI k) 120 := vp_in_nI (by omega) (by omega)
    obtain ⟨s, q, a, b, p, y, w, hfk⟩ := hf k (by omega)
    have hs : σ 24 k = nI s := hfk.2.1
    have hkc := d_one_kc P l m dd k σ
    have hbb : ob (100 * (120 * dd + (k + 1))) ((d_one P l m dd k σ) 33) := by
      rw [show 100 * (120 * dd + (k + 1)) = 100 * (120 * dd + k) + 100 by omega]
      unfold d_one
      split
      · exact p_paper_ob hP (by omega) l m σ k hb
      · exact hb.mono (by omega)
    rw [r_for] at kk
    have ihk := ih (k + 1) (d_one P l m dd k σ) (by omega) ((hkc.2.2.2 37 (by omega)).trans h37) (h_okLaw_same hkc.lsame hl) (p_facts_kc hkc hf) hbb kk
    obtain ⟨T, hT⟩ : ∃ T, T = d_one P l m dd k σ := ⟨_, rfl⟩
    rw [← hT] at ihk
    unfold d_one at hT
    have callP : σ 24 k ≤ 2 → Ok (d + 4) M7_paper [.ref 0, .int (nI k)] (WM σ τ) (rt none (WM (p_paper P l m σ k) τ)) := by
      intro h2
      have hs2 : s ≤ 2 := by
        rw [hs] at h2
        have := hfk.1.1
        exact (nI_leI (a := s) (b := 2) (by omega) (by omega)).mp h2
      exact m_paper τ σ P l m k s q a b p y w hP h37 hl (by omega) hs2 hfk (fun _ => (g_meets_ok hP (B := 100 * (120 * dd + k)) (by omega) (p_clear σ k) (by rw [p_clear_oc σ k 33 (by decide)]; exact hb)).1)
    refine ev_iload (pc' := 207) dX7_goes_205 rfl rfl ?_
    refine ev_iload_n (pc' := 208) dX7_goes_207 rfl rfl ?_
    refine ev_icmp_ge (tgt := 245) (pc' := 211) dX7_goes_208 (by decide) rfl (fun h_208 => ?_) (fun h_208 => ?_)
    · exact absurd h_208 (nI_ge (by omega) (by omega)) --
    · refine ev_aload_n (pc' := 212) dX7_goes_211 rfl rfl ?_
      refine ev_getf (pc' := 215) fl_7_89 dX7_goes_212 rfl rfl rfl ?_
      refine ev_iload (pc' := 217) dX7_goes_215 rfl rfl ?_
      refine ev_iald (pc' := 218) dX7_goes_217 rfl rfl ?_ ?_
      · exact hvk
      rw [ek]
      refine ev_iconst (pc' := 219) (v := 2) dX7_goes_218 rfl (by decide) ?_
      refine ev_icmp_gt (tgt := 239) (pc' := 222) dX7_goes_219 (by decide) rfl (fun h_219 => ?_) (fun h_219 => ?_)
      · rw [if_neg (fun z => absurd h_219 (Int32.not_lt.mpr z.1))] at hT
        refine ev_iinc (pc' := 242) (ls' := [_, _, _, _, _]) dX7_goes_239 rfl rfl rfl rfl rfl ?_
        refine ev_goto (tgt := 205) dX7_goes_242 (by decide) ?_
        rw [nI_p1, ← hT]
        exact ihk
      · refine ev_aload_n (pc' := 223) dX7_goes_222 rfl rfl ?_
        refine ev_getf (pc' := 226) fl_7_92 dX7_goes_223 rfl rfl rfl ?_
        refine ev_iload (pc' := 228) dX7_goes_226 rfl rfl ?_
        refine ev_iald (pc' := 229) dX7_goes_228 rfl rfl ?_ ?_
        · exact hvk
        rw [ek]
        refine ev_iload_n (pc' := 230) dX7_goes_229 rfl rfl ?_
        refine ev_icmp_ne (tgt := 239) (pc' := 233) dX7_goes_230 (by decide) rfl (fun h_230 => ?_) (fun h_230 => ?_)
        · rw [if_neg (fun z => h_230 z.2)] at hT
          refine ev_iinc (pc' := 242) (ls' := [_, _, _, _, _]) dX7_goes_239 rfl rfl rfl rfl rfl ?_
          refine ev_goto (tgt := 205) dX7_goes_242 (by decide) ?_
          rw [nI_p1, ← hT]
          exact ihk
        · rw [if_pos ⟨Int32.not_lt.mp h_219, h_230⟩] at hT
          refine ev_aload_n (pc' := 234) dX7_goes_233 rfl rfl ?_
          refine ev_iload (pc' := 236) dX7_goes_234 rfl rfl ?_
          refine ev_cVv1 (pc' := 239) cl_7_293 (callP (Int32.not_lt.mp h_219)) dX7_goes_236 rfl rfl rfl rfl ?_
          refine ev_iinc (pc' := 242) (ls' := [_, _, _, _, _]) dX7_goes_239 rfl rfl rfl rfl rfl ?_
          refine ev_goto (tgt := 205) dX7_goes_242 (by decide) ?_
          rw [nI_p1, ← hT]
          exact ihk
theorem d_day_ob {P B : Nat} (hP : P ≤ 8) (l m d : Nat) : ∀ (c k : Nat) (σ : RS), B + 100 * c ≤ 5000000 → ob B (σ 33) → ob (B + 100 * c) ((r_for (d_one P l m d) c k σ) 33) := by
  intro c
  induction c generalizing B with
  | zero => intro k σ _ h; exact h
  | succ c ih =>
    intro k σ hB h
    rw [r_for, show B + 100 * (c + 1) = B + 100 + 100 * c by omega]
    refine ih (B := B + 100) (k + 1) _ (by omega) ?_
    unfold d_one
    split
    · exact p_paper_ob hP (by omega) l m σ k h
    · exact h.mono (by omega)
theorem m_days_loop {d : Nat} (τ : TS) (P l m n day : Nat) (hP : P ≤ 8) (hn : n ≤ 120) (hd : day < 400) : ∀ (c dd : Nat) (σ : RS) (z4 : Option Value), dd + c = day + 1 → σ 0 37 = nI P → h_okLaw σ l m → p_facts σ n → ob (100 * (120 * dd)) (σ 33) → Ev (d + 5) M7_goes (rt none (WM (r_for (d_day P l m n) c dd σ) τ)) 197 [some (.ref 0), some (.int (nI n)), some (.int (nI day)), some (.int (nI dd)), z4] [] (WM σ τ) := by
  intro c
  induction c with
  | zero =>
    intro dd σ z4 hc h37 hl hf hb
    have hc : dd = day + 1 := by omega
    subst hc
    refine ev_iload_n (pc' := 198) dX7_goes_197 rfl rfl ?_
    refine ev_iload_n (pc' := 199) dX7_goes_198 rfl rfl ?_
    refine ev_icmp_gt (tgt := 251) (pc' := 202) dX7_goes_199 (by decide) rfl (fun h_199 => ?_) (fun h_199 => ?_)
    · refine ev_return rfl dX7_goes_251 ?_
      exact ⟨rfl, rfl⟩
    · exact absurd (nI_lt (a := day) (b := day + 1) (by omega) (by omega)) h_199 --
  | succ c ih =>
    intro dd σ z4 hc h37 hl hf hb
    rw [r_for]
    have hkc := r_for_kc (fun k σ => d_one_kc P l m dd k σ) n 0 σ
    have hob := d_day_ob hP l m dd n 0 σ (B := 100 * (120 * dd)) (by omega) hb
    have kk : Ev (d + 5) M7_goes (rt none (WM (r_for (d_day P l m n) c (dd + 1) (d_day P l m n dd σ)) τ)) 245 [some (.ref 0), some (.int (nI n)), some (.int (nI day)), some (.int (nI dd)), some (.int (nI n))] [] (WM (r_for (d_one P l m dd) n 0 σ) τ) := by
      refine ev_iinc (pc' := 248) (ls' := [_, _, _, _, _]) dX7_goes_245 rfl rfl rfl rfl rfl ?_
      refine ev_goto (tgt := 197) dX7_goes_248 (by decide) ?_
      rw [nI_p1]
      exact ih (dd + 1) _ _ (by omega) ((hkc.2.2.2 37 (by omega)).trans h37) (h_okLaw_same hkc.lsame hl) (p_facts_kc hkc hf) (hob.mono (by omega))
    refine ev_iload_n (pc' := 198) dX7_goes_197 rfl rfl ?_
    refine ev_iload_n (pc' := 199) dX7_goes_198 rfl rfl ?_
    refine ev_icmp_gt (tgt := 251) (pc' := 202) dX7_goes_199 (by decide) rfl (fun h_199 => ?_) (fun h_199 => ?_)
    · exact absurd h_199 (nI_nlt (by omega) (by omega)) --
    · refine ev_iconst (pc' := 203) (v := 0) dX7_goes_202 rfl (by decide) ?_
      refine ev_istore (pc' := 205) (ls' := [_, _, _, _, _]) dX7_goes_203 rfl rfl rfl ?_
      exact m_day_loop τ P l m n dd _ hP hn (by omega) n 0 σ (by omega) h37 hl hf hb kk
theorem m_mark_loop {d : Nat} {Q : Option Value → MW → Prop} (τ : TS) (n : Nat) (x2 : Int32) (hn : n ≤ 120) : ∀ (c k : Nat) (σ : RS) (z4 : Option Value), k + c = n → p_facts σ n → (∀ z4, Ev (d + 5) M7_goes Q 195 [some (.ref 0), some (.int (nI n)), some (.int x2), some (.int (nI n)), z4] [] (WM (r_for k_mark c k σ) τ)) → Ev (d + 5) M7_goes Q 126 [some (.ref 0), some (.int (nI n)), some (.int x2), some (.int (nI k)), z4] [] (WM σ τ) := by
  intro c
  induction c with
  | zero =>
    intro k σ z4 hk hf kk
    have hk : k = n := by omega
    subst hk
    refine ev_iload_n (pc' := 127) dX7_goes_126 rfl rfl ?_
    refine ev_iload_n (pc' := 128) dX7_goes_127 rfl rfl ?_
    refine ev_icmp_ge (tgt := 195) (pc' := 131) dX7_goes_128 (by decide) rfl (fun h_128 => ?_) (fun h_128 => ?_)
    · exact kk _ --
    · exact absurd (nI_le (Nat.le_refl _) (by omega)) h_128 --
  | succ c ih =>
    intro k σ z4 hk hf kk
    have ek : (nI k).toNatClampNeg = k := nI_clamp (by omega)
    have hvk : vp_in (nI k) 120 := vp_in_nI (by omega) (by omega)
    obtain ⟨s, q, a, b, p, y, w, hfk⟩ := hf k (by omega)
    obtain ⟨⟨b1, b2, b3, b4, b5, b6, b7⟩, g1, g2, g3, g4, g5, g6, g7⟩ := hfk
    have eq : (nI q).toNatClampNeg = q := nI_clamp (by omega)
    have ew : (nI w).toNatClampNeg = w := nI_clamp (by omega)
    rw [r_for] at kk
    obtain ⟨T, hT⟩ : ∃ T, T = k_mark k σ := ⟨_, rfl⟩
    have keep : ∀ c, c ≤ 30 → T c = σ c := fun c hc => by rw [hT]; exact k_mark_keep k σ c hc
    have ihk : ∀ z4, Ev (d + 5) M7_goes Q 126 [some (.ref 0), some (.int (nI n)), some (.int x2), some (.int (nI (k + 1))), z4] [] (WM T τ) := by
      intro z4
      refine ih (k + 1) T z4 (by omega) (fun j hj => ?_) (by rw [hT]; exact kk)
      obtain ⟨s, q, a, b, p, y, w, hfk⟩ := hf j hj
      exact ⟨s, q, a, b, p, y, w, p_fact_oc hfk (fun c c1 c2 => keep c c2)⟩
    unfold k_mark at hT
    rw [g1, g7, nt_nI (by omega)] at hT
    by_cases hs3 : nI s = 3
    · have hs4 : ¬ nI s = 4 := fun z => by rw [hs3] at z; exact absurd z (by decide)
      rw [if_pos hs3] at hT
      dsimp only at hT
      rw [if_neg (show ¬ (s2 σ 38 w 1) 24 k = 4 from fun z => hs4 (g1.symm.trans z))] at hT
      have g1' : T 24 k = nI s := by rw [keep 24 (by omega)]; exact g1
      refine ev_iload_n (pc' := 127) dX7_goes_126 rfl rfl ?_
      refine ev_iload_n (pc' := 128) dX7_goes_127 rfl rfl ?_
      refine ev_icmp_ge (tgt := 195) (pc' := 131) dX7_goes_128 (by decide) rfl (fun h_128 => ?_) (fun h_128 => ?_)
      · exact absurd h_128 (nI_ge (by omega) (by omega)) --
      · refine ev_aload_n (pc' := 132) dX7_goes_131 rfl rfl ?_
        refine ev_getf (pc' := 135) fl_7_89 dX7_goes_132 rfl rfl rfl ?_
        refine ev_iload_n (pc' := 136) dX7_goes_135 rfl rfl ?_
        refine ev_iald (pc' := 137) dX7_goes_136 rfl rfl ?_ ?_
        · exact hvk
        rw [ek, g1]
        refine ev_iconst (pc' := 138) (v := 3) dX7_goes_137 rfl (by decide) ?_
        refine ev_icmp_ne (tgt := 153) (pc' := 141) dX7_goes_138 (by decide) rfl (fun h_138 => ?_) (fun h_138 => ?_)
        · exact absurd hs3 h_138 --
        · refine ev_aload_n (pc' := 142) dX7_goes_141 rfl rfl ?_
          refine ev_getf (pc' := 145) fl_7_134 dX7_goes_142 rfl rfl rfl ?_
          refine ev_aload_n (pc' := 146) dX7_goes_145 rfl rfl ?_
          refine ev_getf (pc' := 149) fl_7_107 dX7_goes_146 rfl rfl rfl ?_
          refine ev_iload_n (pc' := 150) dX7_goes_149 rfl rfl ?_
          refine ev_iald (pc' := 151) dX7_goes_150 rfl rfl ?_ ?_
          · exact hvk
          rw [ek, g7]
          refine ev_iconst (pc' := 152) (v := 1) dX7_goes_151 rfl (by decide) ?_
          refine ev_zast (pc' := 153) dX7_goes_152 rfl rfl ?_ (WM_a38 _ _ _) ?_
          · exact vp_in_nI (by omega) (by omega)
          refine ev_world (w' := WM T τ) (by rw [hT]; show WM (s1 σ 38 (upd (σ 38) (nI w).toNatClampNeg _)) τ = _; rw [ew]; rfl) ?_
          refine ev_aload_n (pc' := 154) dX7_goes_153 rfl rfl ?_
          refine ev_getf (pc' := 157) fl_7_89 dX7_goes_154 rfl rfl rfl ?_
          refine ev_iload_n (pc' := 158) dX7_goes_157 rfl rfl ?_
          refine ev_iald (pc' := 159) dX7_goes_158 rfl rfl ?_ ?_
          · exact hvk
          rw [ek, g1']
          refine ev_iconst (pc' := 160) (v := 4) dX7_goes_159 rfl (by decide) ?_
          refine ev_icmp_ne (tgt := 189) (pc' := 163) dX7_goes_160 (by decide) rfl (fun h_160 => ?_) (fun h_160 => ?_)
          · refine ev_iinc (pc' := 192) (ls' := [_, _, _, _, _]) dX7_goes_189 rfl rfl rfl rfl rfl ?_
            refine ev_goto (tgt := 126) dX7_goes_192 (by decide) ?_
            rw [nI_p1]
            exact ihk _
          · exact absurd h_160 hs4 --
    · rw [if_neg hs3] at hT
      dsimp only at hT
      rw [g1, g2, g7, nt_nI (by omega)] at hT
      by_cases hs4 : nI s = 4
      · rw [if_pos hs4] at hT
        refine ev_iload_n (pc' := 127) dX7_goes_126 rfl rfl ?_
        refine ev_iload_n (pc' := 128) dX7_goes_127 rfl rfl ?_
        refine ev_icmp_ge (tgt := 195) (pc' := 131) dX7_goes_128 (by decide) rfl (fun h_128 => ?_) (fun h_128 => ?_)
        · exact absurd h_128 (nI_ge (by omega) (by omega)) --
        · refine ev_aload_n (pc' := 132) dX7_goes_131 rfl rfl ?_
          refine ev_getf (pc' := 135) fl_7_89 dX7_goes_132 rfl rfl rfl ?_
          refine ev_iload_n (pc' := 136) dX7_goes_135 rfl rfl ?_
          refine ev_iald (pc' := 137) dX7_goes_136 rfl rfl ?_ ?_
          · exact hvk
          rw [ek, g1]
          refine ev_iconst (pc' := 138) (v := 3) dX7_goes_137 rfl (by decide) ?_
          refine ev_icmp_ne (tgt := 153) (pc' := 141) dX7_goes_138 (by decide) rfl (fun h_138 => ?_) (fun h_138 => ?_)
          · refine ev_aload_n (pc' := 154) dX7_goes_153 rfl rfl ?_
            refine ev_getf (pc' := 157) fl_7_89 dX7_goes_154 rfl rfl rfl ?_
            refine ev_iload_n (pc' := 158) dX7_goes_157 rfl rfl ?_
            refine ev_iald (pc' := 159) dX7_goes_158 rfl rfl ?_ ?_
            · exact hvk
            rw [ek, g1]
            refine ev_iconst (pc' := 160) (v := 4) dX7_goes_159 rfl (by decide) ?_
            refine ev_icmp_ne (tgt := 189) (pc' := 163) dX7_goes_160 (by decide) rfl (fun h_160 => ?_) (fun h_160 => ?_)
            · exact absurd hs4 h_160 --
            · refine ev_aload_n (pc' := 164) dX7_goes_163 rfl rfl ?_
              refine ev_getf (pc' := 167) fl_7_131 dX7_goes_164 rfl rfl rfl ?_
              refine ev_aload_n (pc' := 168) dX7_goes_167 rfl rfl ?_
              refine ev_getf (pc' := 171) fl_7_92 dX7_goes_168 rfl rfl rfl ?_
              refine ev_iload_n (pc' := 172) dX7_goes_171 rfl rfl ?_
              refine ev_iald (pc' := 173) dX7_goes_172 rfl rfl ?_ ?_
              · exact hvk
              rw [ek, g2]
              refine ev_aload_n (pc' := 174) dX7_goes_173 rfl rfl ?_
              refine ev_getf (pc' := 177) fl_7_107 dX7_goes_174 rfl rfl rfl ?_
              refine ev_iload_n (pc' := 178) dX7_goes_177 rfl rfl ?_
              refine ev_iald (pc' := 179) dX7_goes_178 rfl rfl ?_ ?_
              · exact hvk
              rw [ek, g7]
              refine ev_iconst (pc' := 180) (v := 1) dX7_goes_179 rfl (by decide) ?_
              refine ev_icmp_ne (tgt := 187) (pc' := 183) dX7_goes_180 (by decide) rfl (fun h_180 => ?_) (fun h_180 => ?_)
              · rw [if_neg h_180] at hT
                refine ev_iconst (pc' := 188) (v := 0) dX7_goes_187 rfl (by decide) ?_
                refine ev_zast (pc' := 189) dX7_goes_188 rfl rfl ?_ (WM_a37 _ _ _) ?_
                · exact vp_in_nI (by omega) (by omega)
                refine ev_world (w' := WM T τ) (by rw [hT]; show WM (s1 σ 37 (upd (σ 37) (nI q).toNatClampNeg _)) τ = _; rw [eq]; rfl) ?_
                refine ev_iinc (pc' := 192) (ls' := [_, _, _, _, _]) dX7_goes_189 rfl rfl rfl rfl rfl ?_
                refine ev_goto (tgt := 126) dX7_goes_192 (by decide) ?_
                rw [nI_p1]
                exact ihk _
              · rw [if_pos h_180] at hT
                refine ev_iconst (pc' := 184) (v := 1) dX7_goes_183 rfl (by decide) ?_
                refine ev_goto (tgt := 188) dX7_goes_184 (by decide) ?_
                refine ev_zast (pc' := 189) dX7_goes_188 rfl rfl ?_ (WM_a37 _ _ _) ?_
                · exact vp_in_nI (by omega) (by omega)
                refine ev_world (w' := WM T τ) (by rw [hT]; show WM (s1 σ 37 (upd (σ 37) (nI q).toNatClampNeg _)) τ = _; rw [eq]; rfl) ?_
                refine ev_iinc (pc' := 192) (ls' := [_, _, _, _, _]) dX7_goes_189 rfl rfl rfl rfl rfl ?_
                refine ev_goto (tgt := 126) dX7_goes_192 (by decide) ?_
                rw [nI_p1]
                exact ihk _
          · exact absurd h_138 hs3 --
      · rw [if_neg hs4] at hT
        subst hT
        refine ev_iload_n (pc' := 127) dX7_goes_126 rfl rfl ?_
        refine ev_iload_n (pc' := 128) dX7_goes_127 rfl rfl ?_
        refine ev_icmp_ge (tgt := 195) (pc' := 131) dX7_goes_128 (by decide) rfl (fun h_128 => ?_) (fun h_128 => ?_)
        · exact absurd h_128 (nI_ge (by omega) (by omega)) --
        · refine ev_aload_n (pc' := 132) dX7_goes_131 rfl rfl ?_
          refine ev_getf (pc' := 135) fl_7_89 dX7_goes_132 rfl rfl rfl ?_
          refine ev_iload_n (pc' := 136) dX7_goes_135 rfl rfl ?_
          refine ev_iald (pc' := 137) dX7_goes_136 rfl rfl ?_ ?_
          · exact hvk
          rw [ek, g1]
          refine ev_iconst (pc' := 138) (v := 3) dX7_goes_137 rfl (by decide) ?_
          refine ev_icmp_ne (tgt := 153) (pc' := 141) dX7_goes_138 (by decide) rfl (fun h_138 => ?_) (fun h_138 => ?_)
          · refine ev_aload_n (pc' := 154) dX7_goes_153 rfl rfl ?_
            refine ev_getf (pc' := 157) fl_7_89 dX7_goes_154 rfl rfl rfl ?_
            refine ev_iload_n (pc' := 158) dX7_goes_157 rfl rfl ?_
            refine ev_iald (pc' := 159) dX7_goes_158 rfl rfl ?_ ?_
            · exact hvk
            rw [ek, g1]
            refine ev_iconst (pc' := 160) (v := 4) dX7_goes_159 rfl (by decide) ?_
            refine ev_icmp_ne (tgt := 189) (pc' := 163) dX7_goes_160 (by decide) rfl (fun h_160 => ?_) (fun h_160 => ?_)
            · refine ev_iinc (pc' := 192) (ls' := [_, _, _, _, _]) dX7_goes_189 rfl rfl rfl rfl rfl ?_
              refine ev_goto (tgt := 126) dX7_goes_192 (by decide) ?_
              rw [nI_p1]
              exact ihk _
            · exact absurd h_160 hs4 --
          · exact absurd h_138 hs3 --
theorem m_init1 {d : Nat} {Q : Option Value → MW → Prop} (τ : TS) (σ : RS) (x1 x2 : Int32) (kk : ∀ z3 z4, Ev (d + 5) M7_goes Q 60 [some (.ref 0), some (.int x1), some (.int x2), z3, z4] [] (WM (s1 (s1 σ 31 (cpyTo (fun i => nI (i / 400)) (σ 31) 3200)) 32 (cpyTo (fun _ => 0) (σ 32) 3200)) τ)) : ∀ (c k : Nat) (z4 : Option Value), k + c = 3200 → Ev (d + 5) M7_goes Q 29 [some (.ref 0), some (.int x1), some (.int x2), some (.int (nI k)), z4] [] (WM (s1 (s1 σ 31 (cpyTo (fun i => nI (i / 400)) (σ 31) k)) 32 (cpyTo (fun _ => 0) (σ 32) k)) τ) := by
  intro c
  induction c with
  | zero =>
    intro k z4 hk
    have hk : k = 3200 := by omega
    subst hk
    refine ev_iload_n (pc' := 30) dX7_goes_29 rfl rfl ?_
    refine ev_sipush (pc' := 33) (v := 3200) dX7_goes_30 rfl (by decide) ?_
    refine ev_icmp_ge (tgt := 60) (pc' := 36) dX7_goes_33 (by decide) rfl (fun h_33 => ?_) (fun h_33 => ?_)
    · exact kk _ _ --
    · exact absurd (nI_le (a := 3200) (b := 3200) (Nat.le_refl _) (by omega)) h_33 --
  | succ c ih =>
    intro k z4 hk
    have ek : (nI k).toNatClampNeg = k := nI_clamp (by omega)
    have hvk : vp_in (nI k) 3200 := vp_in_nI (by omega) (by omega)
    have e400 : nI k / 400 = nI (k / 400) := pk_div (d := 400) (by omega) (by omega) (by omega)
    have c1 := cpyTo_s (fun i => nI (i / 400)) (σ 31) k
    have c2 := cpyTo_s (fun _ => (0 : Int32)) (σ 32) k
    generalize hA : cpyTo (fun i => nI (i / 400)) (σ 31) k = A at *
    generalize hB : cpyTo (fun _ => (0 : Int32)) (σ 32) k = B at *
    refine ev_iload_n (pc' := 30) dX7_goes_29 rfl rfl ?_
    refine ev_sipush (pc' := 33) (v := 3200) dX7_goes_30 rfl (by decide) ?_
    refine ev_icmp_ge (tgt := 60) (pc' := 36) dX7_goes_33 (by decide) rfl (fun h_33 => ?_) (fun h_33 => ?_)
    · exact absurd h_33 (nI_ge (b := 3200) (by omega) (by omega)) --
    · refine ev_aload_n (pc' := 37) dX7_goes_36 rfl rfl ?_
      refine ev_getf (pc' := 40) fl_7_113 dX7_goes_37 rfl rfl rfl ?_
      refine ev_iload_n (pc' := 41) dX7_goes_40 rfl rfl ?_
      refine ev_iload_n (pc' := 42) dX7_goes_41 rfl rfl ?_
      refine ev_sipush (pc' := 45) (v := 400) dX7_goes_42 rfl (by decide) ?_
      refine ev_idiv (pc' := 46) dX7_goes_45 rfl (by decide) ?_
      rw [e400]
      refine ev_iast (pc' := 47) dX7_goes_46 rfl rfl ?_ (WM_a31 _ _ _) ?_
      · exact hvk
      refine ev_aload_n (pc' := 48) dX7_goes_47 rfl rfl ?_
      refine ev_getf (pc' := 51) fl_7_116 dX7_goes_48 rfl rfl rfl ?_
      refine ev_iload_n (pc' := 52) dX7_goes_51 rfl rfl ?_
      refine ev_iconst (pc' := 53) (v := 0) dX7_goes_52 rfl (by decide) ?_
      refine ev_iast (pc' := 54) dX7_goes_53 rfl rfl ?_ (WM_a32 _ _ _) ?_
      · exact hvk
      refine ev_iinc (pc' := 57) (ls' := [_, _, _, _, _]) dX7_goes_54 rfl rfl rfl rfl rfl ?_
      refine ev_goto (tgt := 29) dX7_goes_57 (by decide) ?_
      refine ev_world (w' := WM (s1 (s1 σ 31 (cpyTo (fun i => nI (i / 400)) (σ 31) (k + 1))) 32 (cpyTo (fun _ => 0) (σ 32) (k + 1))) τ) ?_ ?_
      · rw [← c1, ← c2]
        show WM (s1 (s1 (s1 (s1 σ 31 A) 32 B) 31 (upd A (nI k).toNatClampNeg (nI (k / 400)))) 32 (upd B (nI k).toNatClampNeg 0)) τ = _
        rw [ek]
        rfl
      rw [nI_p1]
      exact ih (k + 1) _ (by omega)
theorem m_init2 {d : Nat} {Q : Option Value → MW → Prop} (τ : TS) (σ : RS) (x1 x2 : Int32) (kk : ∀ z3 z4, Ev (d + 5) M7_goes Q 81 [some (.ref 0), some (.int x1), some (.int x2), z3, z4] [] (WM (s1 σ 33 (cpyTo (fun _ => 0) (σ 33) 64)) τ)) : ∀ (c k : Nat) (z4 : Option Value), k + c = 64 → Ev (d + 5) M7_goes Q 62 [some (.ref 0), some (.int x1), some (.int x2), some (.int (nI k)), z4] [] (WM (s1 σ 33 (cpyTo (fun _ => 0) (σ 33) k)) τ) := by
  intro c
  induction c with
  | zero =>
    intro k z4 hk
    have hk : k = 64 := by omega
    subst hk
    refine ev_iload_n (pc' := 63) dX7_goes_62 rfl rfl ?_
    refine ev_bipush (pc' := 65) (v := 64) dX7_goes_63 rfl (by decide) ?_
    refine ev_icmp_ge (tgt := 81) (pc' := 68) dX7_goes_65 (by decide) rfl (fun h_65 => ?_) (fun h_65 => ?_)
    · exact kk _ _ --
    · exact absurd (nI_le (a := 64) (b := 64) (Nat.le_refl _) (by omega)) h_65 --
  | succ c ih =>
    intro k z4 hk
    have ek : (nI k).toNatClampNeg = k := nI_clamp (by omega)
    have hvk : vp_in (nI k) 64 := vp_in_nI (by omega) (by omega)
    have c1 := cpyTo_s (fun _ => (0 : Int32)) (σ 33) k
    generalize hA : cpyTo (fun _ => (0 : Int32)) (σ 33) k = A at *
    refine ev_iload_n (pc' := 63) dX7_goes_62 rfl rfl ?_
    refine ev_bipush (pc' := 65) (v := 64) dX7_goes_63 rfl (by decide) ?_
    refine ev_icmp_ge (tgt := 81) (pc' := 68) dX7_goes_65 (by decide) rfl (fun h_65 => ?_) (fun h_65 => ?_)
    · exact absurd h_65 (nI_ge (b := 64) (by omega) (by omega)) --
    · refine ev_aload_n (pc' := 69) dX7_goes_68 rfl rfl ?_
      refine ev_getf (pc' := 72) fl_7_119 dX7_goes_69 rfl rfl rfl ?_
      refine ev_iload_n (pc' := 73) dX7_goes_72 rfl rfl ?_
      refine ev_iconst (pc' := 74) (v := 0) dX7_goes_73 rfl (by decide) ?_
      refine ev_iast (pc' := 75) dX7_goes_74 rfl rfl ?_ (WM_a33 _ _ _) ?_
      · exact hvk
      refine ev_iinc (pc' := 78) (ls' := [_, _, _, _, _]) dX7_goes_75 rfl rfl rfl rfl rfl ?_
      refine ev_goto (tgt := 62) dX7_goes_78 (by decide) ?_
      refine ev_world (w' := WM (s1 σ 33 (cpyTo (fun _ => 0) (σ 33) (k + 1))) τ) ?_ ?_
      · rw [← c1]
        show WM (s1 (s1 σ 33 A) 33 (upd A (nI k).toNatClampNeg 0)) τ = _
        rw [ek]
        rfl
      rw [nI_p1]
      exact ih (k + 1) _ (by omega)
theorem m_init3 {d : Nat} {Q : Option Value → MW → Prop} (τ : TS) (σ : RS) (x1 x2 : Int32) (kk : ∀ z3 z4, Ev (d + 5) M7_goes Q 103 [some (.ref 0), some (.int x1), some (.int x2), z3, z4] [] (WM (s1 σ 37 (cpyTo (fun _ => 0) (σ 37) 400)) τ)) : ∀ (c k : Nat) (z4 : Option Value), k + c = 400 → Ev (d + 5) M7_goes Q 83 [some (.ref 0), some (.int x1), some (.int x2), some (.int (nI k)), z4] [] (WM (s1 σ 37 (cpyTo (fun _ => 0) (σ 37) k)) τ) := by
  intro c
  induction c with
  | zero =>
    intro k z4 hk
    have hk : k = 400 := by omega
    subst hk
    refine ev_iload_n (pc' := 84) dX7_goes_83 rfl rfl ?_
    refine ev_sipush (pc' := 87) (v := 400) dX7_goes_84 rfl (by decide) ?_
    refine ev_icmp_ge (tgt := 103) (pc' := 90) dX7_goes_87 (by decide) rfl (fun h_87 => ?_) (fun h_87 => ?_)
    · exact kk _ _ --
    · exact absurd (nI_le (a := 400) (b := 400) (Nat.le_refl _) (by omega)) h_87 --
  | succ c ih =>
    intro k z4 hk
    have ek : (nI k).toNatClampNeg = k := nI_clamp (by omega)
    have hvk : vp_in (nI k) 400 := vp_in_nI (by omega) (by omega)
    have c1 := cpyTo_s (fun _ => (0 : Int32)) (σ 37) k
    generalize hA : cpyTo (fun _ => (0 : Int32)) (σ 37) k = A at *
    refine ev_iload_n (pc' := 84) dX7_goes_83 rfl rfl ?_
    refine ev_sipush (pc' := 87) (v := 400) dX7_goes_84 rfl (by decide) ?_
    refine ev_icmp_ge (tgt := 103) (pc' := 90) dX7_goes_87 (by decide) rfl (fun h_87 => ?_) (fun h_87 => ?_)
    · exact absurd h_87 (nI_ge (b := 400) (by omega) (by omega)) --
    · refine ev_aload_n (pc' := 91) dX7_goes_90 rfl rfl ?_
      refine ev_getf (pc' := 94) fl_7_131 dX7_goes_91 rfl rfl rfl ?_
      refine ev_iload_n (pc' := 95) dX7_goes_94 rfl rfl ?_
      refine ev_iconst (pc' := 96) (v := 0) dX7_goes_95 rfl (by decide) ?_
      refine ev_zast (pc' := 97) dX7_goes_96 rfl rfl ?_ (WM_a37 _ _ _) ?_
      · exact hvk
      refine ev_iinc (pc' := 100) (ls' := [_, _, _, _, _]) dX7_goes_97 rfl rfl rfl rfl rfl ?_
      refine ev_goto (tgt := 83) dX7_goes_100 (by decide) ?_
      refine ev_world (w' := WM (s1 σ 37 (cpyTo (fun _ => 0) (σ 37) (k + 1))) τ) ?_ ?_
      · rw [← c1]
        show WM (s1 (s1 σ 37 A) 37 (upd A (nI k).toNatClampNeg 0)) τ = _
        rw [ek]
        rfl
      rw [nI_p1]
      exact ih (k + 1) _ (by omega)
theorem m_init4 {d : Nat} {Q : Option Value → MW → Prop} (τ : TS) (σ : RS) (x1 x2 : Int32) (kk : ∀ z3 z4, Ev (d + 5) M7_goes Q 124 [some (.ref 0), some (.int x1), some (.int x2), z3, z4] [] (WM (s1 σ 38 (cpyTo (fun _ => 0) (σ 38) 120)) τ)) : ∀ (c k : Nat) (z4 : Option Value), k + c = 120 → Ev (d + 5) M7_goes Q 105 [some (.ref 0), some (.int x1), some (.int x2), some (.int (nI k)), z4] [] (WM (s1 σ 38 (cpyTo (fun _ => 0) (σ 38) k)) τ) := by
  intro c
  induction c with
  | zero =>
    intro k z4 hk
    have hk : k = 120 := by omega
    subst hk
    refine ev_iload_n (pc' := 106) dX7_goes_105 rfl rfl ?_
    refine ev_bipush (pc' := 108) (v := 120) dX7_goes_106 rfl (by decide) ?_
    refine ev_icmp_ge (tgt := 124) (pc' := 111) dX7_goes_108 (by decide) rfl (fun h_108 => ?_) (fun h_108 => ?_)
    · exact kk _ _ --
    · exact absurd (nI_le (a := 120) (b := 120) (Nat.le_refl _) (by omega)) h_108 --
  | succ c ih =>
    intro k z4 hk
    have ek : (nI k).toNatClampNeg = k := nI_clamp (by omega)
    have hvk : vp_in (nI k) 120 := vp_in_nI (by omega) (by omega)
    have c1 := cpyTo_s (fun _ => (0 : Int32)) (σ 38) k
    generalize hA : cpyTo (fun _ => (0 : Int32)) (σ 38) k = A at *
    refine ev_iload_n (pc' := 106) dX7_goes_105 rfl rfl ?_
    refine ev_bipush (pc' := 108) (v := 120) dX7_goes_106 rfl (by decide) ?_
    refine ev_icmp_ge (tgt := 124) (pc' := 111) dX7_goes_108 (by decide) rfl (fun h_108 => ?_) (fun h_108 => ?_)
    · exact absurd h_108 (nI_ge (b := 120) (by omega) (by omega)) --
    · refine ev_aload_n (pc' := 112) dX7_goes_111 rfl rfl ?_
      refine ev_getf (pc' := 115) fl_7_134 dX7_goes_112 rfl rfl rfl ?_
      refine ev_iload_n (pc' := 116) dX7_goes_115 rfl rfl ?_
      refine ev_iconst (pc' := 117) (v := 0) dX7_goes_116 rfl (by decide) ?_
      refine ev_zast (pc' := 118) dX7_goes_117 rfl rfl ?_ (WM_a38 _ _ _) ?_
      · exact hvk
      refine ev_iinc (pc' := 121) (ls' := [_, _, _, _, _]) dX7_goes_118 rfl rfl rfl rfl rfl ?_
      refine ev_goto (tgt := 105) dX7_goes_121 (by decide) ?_
      refine ev_world (w' := WM (s1 σ 38 (cpyTo (fun _ => 0) (σ 38) (k + 1))) τ) ?_ ?_
      · rw [← c1]
        show WM (s1 (s1 σ 38 A) 38 (upd A (nI k).toNatClampNeg 0)) τ = _
        rw [ek]
        rfl
      rw [nI_p1]
      exact ih (k + 1) _ (by omega)
theorem cpy0_ob (f : Nat → Int32) (B : Nat) : ob B (cpyTo (fun _ => 0) f 64) := fun i hi => ⟨0, by omega, if_pos hi⟩
theorem g_init_keep (σ : RS) (n day c : Nat) (h1 : 1 ≤ c) (h2 : c ≤ 30) : (g_init σ n day) c = σ c := by
  unfold g_init
  rw [s1_ne _ _ (by omega), s1_ne _ _ (by omega), s1_ne _ _ (by omega), s1_ne _ _ (by omega), s1_ne _ _ (by omega)]
  unfold s2
  rw [s1_ne _ _ (by omega), s1_ne _ _ (by omega)]
theorem g_init_0 (σ : RS) (n day j : Nat) (h1 : j ≠ 47) (h2 : j ≠ 48) : (g_init σ n day) 0 j = σ 0 j := by
  show upd (upd (σ 0) 47 _) 48 _ j = _
  rw [upd_ne _ _ h2, upd_ne _ _ h1]
theorem k_mark_oc (k : Nat) (σ : RS) : oc [37, 38] σ (k_mark k σ) := by
  have h1 : oc [37, 38] σ (if σ 24 k = 3 then s2 σ 38 (nt (σ 30 k)) 1 else σ) := by
    by_cases h : σ 24 k = 3
    · rw [if_pos h]; exact (oc.refl _ _).s2 (by decide) _ _
    · rw [if_neg h]; exact oc.refl _ _
  unfold k_mark
  generalize (if σ 24 k = 3 then s2 σ 38 (nt (σ 30 k)) 1 else σ) = σ1 at *
  by_cases h : σ1 24 k = 4
  · rw [if_pos h]; exact h1.s2 (by decide) _ _
  · rw [if_neg h]; exact h1
theorem r_for_oc {L : List Nat} {g : Nat → RS → RS} (h : ∀ k σ, oc L σ (g k σ)) : ∀ (c k : Nat) (σ : RS), oc L σ (r_for g c k σ) := by
  intro c
  induction c with
  | zero => intro k σ; exact oc.refl L σ
  | succ c ih => intro k σ; exact (h k σ).trans (ih (k + 1) _)
theorem p_facts_keep {a b : RS} (h : ∀ c, 24 ≤ c → c ≤ 30 → b c = a c) {n : Nat} (g : p_facts a n) : p_facts b n := fun k hk => by
  obtain ⟨s, m, x, y, p, q, w, hf⟩ := g k hk
  exact ⟨s, m, x, y, p, q, w, p_fact_oc hf h⟩
theorem m_goes {d : Nat} (τ : TS) (σ : RS) (P l m n day : Nat) (hP : P ≤ 8) (hn : n ≤ 120) (hd : day < 400) (h37 : σ 0 37 = nI P) (hl : h_okLaw σ l m) (hf : p_facts σ n) : Ok (d + 5) M7_goes [.ref 0, .int (nI n), .int (nI day)] (WM σ τ) (rt none (WM (g_gone P l m n day σ) τ)) := by
  obtain ⟨T, hT⟩ : ∃ T, T = g_gone P l m n day σ := ⟨_, rfl⟩
  rw [← hT]
  unfold g_gone at hT
  by_cases h : σ 0 47 = nI n ∧ σ 0 48 = nI day
  · rw [if_pos h] at hT
    subst hT
    refine Ok.of (ls := [some _, some _, some _, none, none]) (by decide +kernel) (Nat.le_of_ble_eq_true rfl) rfl ?_
    refine ev_aload_n (pc' := 1) dX7_goes_0 rfl rfl ?_
    refine ev_getf (pc' := 4) fl_7_110 dX7_goes_1 rfl rfl rfl ?_
    refine ev_iload_n (pc' := 5) dX7_goes_4 rfl rfl ?_
    refine ev_icmp_ne (tgt := 17) (pc' := 8) dX7_goes_5 (by decide) rfl (fun h_5 => ?_) (fun h_5 => ?_)
    · exact absurd h.1 h_5 --
    · refine ev_aload_n (pc' := 9) dX7_goes_8 rfl rfl ?_
      refine ev_getf (pc' := 12) fl_7_290 dX7_goes_9 rfl rfl rfl ?_
      refine ev_iload_n (pc' := 13) dX7_goes_12 rfl rfl ?_
      refine ev_icmp_ne (tgt := 17) (pc' := 16) dX7_goes_13 (by decide) rfl (fun h_13 => ?_) (fun h_13 => ?_)
      · exact absurd h.2 h_13 --
      · refine ev_return rfl dX7_goes_16 ?_
        exact ⟨rfl, rfl⟩
  · rw [if_neg h] at hT
    have kM : ∀ z4, Ev (d + 5) M7_goes (rt none (WM T τ)) 195 [some (.ref 0), some (.int (nI n)), some (.int (nI day)), some (.int (nI n)), z4] [] (WM (r_for k_mark n 0 (g_init σ n day)) τ) := by
      intro z4
      have ho := r_for_oc k_mark_oc n 0 (g_init σ n day)
      have q0 : (r_for k_mark n 0 (g_init σ n day)) 0 = (g_init σ n day) 0 := ho 0 (by decide)
      have qc : ∀ c, 1 ≤ c → c ≤ 30 → (r_for k_mark n 0 (g_init σ n day)) c = σ c := fun c h1 h2 => (ho c (by simp; omega)).trans (g_init_keep σ n day c h1 h2)
      have hl1 : h_okLaw (r_for k_mark n 0 (g_init σ n day)) l m := h_okLaw_same ⟨fun c c1 c2 => qc c (by omega) (by omega), by rw [q0]; exact g_init_0 σ n day 18 (by decide) (by decide)⟩ hl
      have hf1 := p_facts_keep (b := r_for k_mark n 0 (g_init σ n day)) (fun c c1 c2 => qc c (by omega) (by omega)) hf
      have e37 : (r_for k_mark n 0 (g_init σ n day)) 0 37 = nI P := by rw [q0]; exact (g_init_0 σ n day 37 (by decide) (by decide)).trans h37
      have hb1 : ob (100 * (120 * 0)) ((r_for k_mark n 0 (g_init σ n day)) 33) := by
        rw [ho 33 (by decide)]
        exact cpy0_ob (σ 33) _
      refine ev_iconst (pc' := 196) (v := 0) dX7_goes_195 rfl (by decide) ?_
      refine ev_istore_n (pc' := 197) (ls' := [_, _, _, _, _]) dX7_goes_196 rfl rfl rfl ?_
      rw [hT]
      exact m_days_loop τ P l m n day hP hn hd (day + 1) 0 _ _ (by omega) e37 hl1 hf1 hb1
    have kI : ∀ z3 z4, Ev (d + 5) M7_goes (rt none (WM T τ)) 124 [some (.ref 0), some (.int (nI n)), some (.int (nI day)), z3, z4] [] (WM (g_init σ n day) τ) := by
      intro z3 z4
      have hf1 := p_facts_keep (b := g_init σ n day) (fun c c1 c2 => g_init_keep σ n day c (by omega) c2) hf
      refine ev_iconst (pc' := 125) (v := 0) dX7_goes_124 rfl (by decide) ?_
      refine ev_istore_n (pc' := 126) (ls' := [_, _, _, _, _]) dX7_goes_125 rfl rfl rfl ?_
      exact m_mark_loop τ n _ hn n 0 _ _ (by omega) hf1 kM
    obtain ⟨σ1, e1⟩ : ∃ U, U = s2 (s2 σ 0 47 (nI n)) 0 48 (nI day) := ⟨_, rfl⟩
    obtain ⟨σ2, e2⟩ : ∃ U, U = s1 (s1 σ1 31 (cpyTo (fun i => nI (i / 400)) (σ1 31) 3200)) 32 (cpyTo (fun _ => 0) (σ1 32) 3200) := ⟨_, rfl⟩
    obtain ⟨σ3, e3⟩ : ∃ U, U = s1 σ2 33 (cpyTo (fun _ => 0) (σ2 33) 64) := ⟨_, rfl⟩
    obtain ⟨σ4, e4⟩ : ∃ U, U = s1 σ3 37 (cpyTo (fun _ => 0) (σ3 37) 400) := ⟨_, rfl⟩
    have e5 : g_init σ n day = s1 σ4 38 (cpyTo (fun _ => 0) (σ4 38) 120) := by
      rw [e4, e3, e2, e1]
      rfl
    rw [e5] at kI
    have k4 : ∀ z3 z4, Ev (d + 5) M7_goes (rt none (WM T τ)) 103 [some (.ref 0), some (.int (nI n)), some (.int (nI day)), z3, z4] [] (WM σ4 τ) := by
      intro z3 z4
      refine ev_iconst (pc' := 104) (v := 0) dX7_goes_103 rfl (by decide) ?_
      refine ev_istore_n (pc' := 105) (ls' := [_, _, _, _, _]) dX7_goes_104 rfl rfl rfl ?_
      refine ev_world (w' := WM (s1 σ4 38 (cpyTo (fun _ => 0) (σ4 38) 0)) τ) (by rw [cpyTo_0]; rfl) ?_
      exact m_init4 τ σ4 _ _ kI 120 0 _ (by omega)
    rw [e4] at k4
    have k3 : ∀ z3 z4, Ev (d + 5) M7_goes (rt none (WM T τ)) 81 [some (.ref 0), some (.int (nI n)), some (.int (nI day)), z3, z4] [] (WM σ3 τ) := by
      intro z3 z4
      refine ev_iconst (pc' := 82) (v := 0) dX7_goes_81 rfl (by decide) ?_
      refine ev_istore_n (pc' := 83) (ls' := [_, _, _, _, _]) dX7_goes_82 rfl rfl rfl ?_
      refine ev_world (w' := WM (s1 σ3 37 (cpyTo (fun _ => 0) (σ3 37) 0)) τ) (by rw [cpyTo_0]; rfl) ?_
      exact m_init3 τ σ3 _ _ k4 400 0 _ (by omega)
    rw [e3] at k3
    have k2 : ∀ z3 z4, Ev (d + 5) M7_goes (rt none (WM T τ)) 60 [some (.ref 0), some (.int (nI n)), some (.int (nI day)), z3, z4] [] (WM σ2 τ) := by
      intro z3 z4
      refine ev_iconst (pc' := 61) (v := 0) dX7_goes_60 rfl (by decide) ?_
      refine ev_istore_n (pc' := 62) (ls' := [_, _, _, _, _]) dX7_goes_61 rfl rfl rfl ?_
      refine ev_world (w' := WM (s1 σ2 33 (cpyTo (fun _ => 0) (σ2 33) 0)) τ) (by rw [cpyTo_0]; rfl) ?_
      exact m_init2 τ σ2 _ _ k3 64 0 _ (by omega)
    rw [e2] at k2
    have k1 : Ev (d + 5) M7_goes (rt none (WM T τ)) 17 [some (.ref 0), some (.int (nI n)), some (.int (nI day)), none, none] [] (WM σ τ) := by
      refine ev_aload_n (pc' := 18) dX7_goes_17 rfl rfl ?_
      refine ev_iload_n (pc' := 19) dX7_goes_18 rfl rfl ?_
      refine ev_putf (pc' := 22) fs_7_110 dX7_goes_19 rfl rfl (Nat.le_of_ble_eq_true rfl) (fun _ => rfl) (fun _ => rfl) (WM_p7_47 _ _ _) ?_
      refine ev_aload_n (pc' := 23) dX7_goes_22 rfl rfl ?_
      refine ev_iload_n (pc' := 24) dX7_goes_23 rfl rfl ?_
      refine ev_putf (pc' := 27) fs_7_290 dX7_goes_24 rfl rfl (Nat.le_of_ble_eq_true rfl) (fun _ => rfl) (fun _ => rfl) (WM_p7_48 _ _ _) ?_
      refine ev_iconst (pc' := 28) (v := 0) dX7_goes_27 rfl (by decide) ?_
      refine ev_istore_n (pc' := 29) (ls' := [_, _, _, _, _]) dX7_goes_28 rfl rfl rfl ?_
      refine ev_world (w' := WM (s1 (s1 σ1 31 (cpyTo (fun i => nI (i / 400)) (σ1 31) 0)) 32 (cpyTo (fun _ => 0) (σ1 32) 0)) τ) (by rw [cpyTo_0, cpyTo_0, e1]; rfl) ?_
      exact m_init1 τ σ1 _ _ k2 3200 0 _ (by omega)
    refine Ok.of (ls := [some _, some _, some _, none, none]) (by decide +kernel) (Nat.le_of_ble_eq_true rfl) rfl ?_
    refine ev_aload_n (pc' := 1) dX7_goes_0 rfl rfl ?_
    refine ev_getf (pc' := 4) fl_7_110 dX7_goes_1 rfl rfl rfl ?_
    refine ev_iload_n (pc' := 5) dX7_goes_4 rfl rfl ?_
    refine ev_icmp_ne (tgt := 17) (pc' := 8) dX7_goes_5 (by decide) rfl (fun h_5 => ?_) (fun h_5 => ?_)
    · exact k1
    · refine ev_aload_n (pc' := 9) dX7_goes_8 rfl rfl ?_
      refine ev_getf (pc' := 12) fl_7_290 dX7_goes_9 rfl rfl rfl ?_
      refine ev_iload_n (pc' := 13) dX7_goes_12 rfl rfl ?_
      refine ev_icmp_ne (tgt := 17) (pc' := 16) dX7_goes_13 (by decide) rfl (fun h_13 => ?_) (fun h_13 => ?_)
      · exact k1
      · exact absurd ⟨h_5, h_13⟩ h --
