/-! What the model's law says. -/
def okc (c : YC) (h : Nat) : Prop := if c.1 = 6 ∨ c.1 = 5 then (c.1 = 5 → vp_in c.2 9) else 2 ≤ h ∧ (c.1 = 8 ∨ c.1 = 9 ∨ c.1 = 10)
theorem cv_lt {c : YC} {h : Nat} (hw : okc c h) : (cv c.1 < 2) = (c.1 = 6 ∨ c.1 = 5) ∧ ((cv c.1 = 0) = (c.1 = 6)) := by
  unfold okc at hw
  by_cases e6 : c.1 = 6
  · rw [e6]; decide
  · by_cases e5 : c.1 = 5
    · rw [e5]; decide
    · rw [if_neg (fun z => z.elim e6 e5)] at hw
      rcases hw.2 with e | e | e <;> rw [e] <;> decide
theorem v_step_le {σ : RS} {i : Nat} {c : YC} {s : List Int32} {f : Nat → Int32} (h1 : σ 20 i = cv c.1) (h2 : σ 21 i = c.2) (hs : stk f s) (hw : okc c s.length) : (v_step σ i (s.length, f)).1 = (le1 (σ 39) c s).length ∧ stk (v_step σ i (s.length, f)).2 (le1 (σ 39) c s) := by
  obtain ⟨q1, q2⟩ := cv_lt hw
  unfold v_step le1
  rw [h1, h2]
  dsimp only
  unfold okc at hw
  by_cases c6 : c.1 = 6
  · rw [if_pos (by rw [q1]; exact Or.inl c6), if_pos c6, if_pos (by rw [q2]; exact c6)]
    exact ⟨rfl, upd_same _ _ _, stk_upd _ _ _ (Nat.le_refl _) hs⟩
  · rw [if_neg c6]
    by_cases c5 : c.1 = 5
    · rw [if_pos (by rw [q1]; exact Or.inr c5), if_pos c5, if_neg (by rw [q2]; exact c6)]
      exact ⟨rfl, upd_same _ _ _, stk_upd _ _ _ (Nat.le_refl _) hs⟩
    · have hn : ¬ (c.1 = 6 ∨ c.1 = 5) := fun z => z.elim c6 c5
      rw [if_neg (by rw [q1]; exact hn), if_neg c5]
      rw [if_neg hn] at hw
      cases s with
      | nil => exact absurd hw.1 (by rw [List.length_nil]; omega)
      | cons y s =>
        cases s with
        | nil => exact absurd hw.1 (by rw [List.length_cons, List.length_nil]; omega)
        | cons x r =>
          show r.length + 1 + 1 - 1 = r.length + 1 ∧ stk (upd f (r.length + 1 + 1 - 2) (if cv c.1 = 2 then f (r.length + 1 + 1 - 2) + f (r.length + 1 + 1 - 1) else if cv c.1 = 3 then f (r.length + 1 + 1 - 2) - f (r.length + 1 + 1 - 1) else f (r.length + 1 + 1 - 2) * f (r.length + 1 + 1 - 1))) (jn c.1 x y :: r)
          have a1 : f (r.length + 1) = y := hs.1
          have a2 : f r.length = x := hs.2.1
          rw [show r.length + 1 + 1 - 2 = r.length by omega, show r.length + 1 + 1 - 1 = r.length + 1 by omega, a1, a2]
          have ej : (if cv c.1 = 2 then x + y else if cv c.1 = 3 then x - y else x * y) = jn c.1 x y := by
            rcases hw.2 with e | e | e <;> rw [e] <;> rfl
          rw [ej]
          exact ⟨rfl, upd_same _ _ _, stk_upd _ _ _ (Nat.le_refl _) hs.2.2⟩
theorem okc_of {c : YC} {cs : List YC} {h h' : Nat} (hw : ym_wf (c :: cs) h h') : okc c h := by
  rw [ym_wf] at hw
  unfold okc
  split
  · rename_i e; rw [if_pos e] at hw; exact hw.1
  · rename_i e; rw [if_neg e] at hw; exact ⟨hw.1, hw.2.1⟩
theorem v_run_le {σ : RS} : ∀ (l : List YC) (i : Nat) (s : List Int32) (f : Nat → Int32) (h' : Nat), (∀ j c, l[j]? = some c → σ 20 (i + j) = cv c.1 ∧ σ 21 (i + j) = c.2) → stk f s → ym_wf l s.length h' → s.length + l.length ≤ 500 → stk (v_run σ l.length i (s.length, f)).2 (le (σ 39) l s) ∧ v_wf σ l.length i s.length := by
  intro l
  induction l with
  | nil => intro i s f h' _ hs _ _; exact ⟨hs, trivial⟩
  | cons c cs ih =>
    intro i s f h' hc hs hw hl
    have hk := okc_of hw
    obtain ⟨q1, q2⟩ := cv_lt hk
    rw [List.length_cons] at hl
    rw [ym_wf] at hw
    obtain ⟨c1, c2⟩ := hc 0 c rfl
    rw [Nat.add_zero] at c1 c2
    have hst := v_step_le (σ := σ) c1 c2 hs hk
    have hl1 : (le1 (σ 39) c s).length = (if c.1 = 6 ∨ c.1 = 5 then s.length + 1 else s.length - 1) := (le1_up (σ 39) c s [] (fun z => by rw [if_neg z] at hw; exact hw.1)).2
    have e : v_step σ i (s.length, f) = ((le1 (σ 39) c s).length, (v_step σ i (s.length, f)).2) := by rw [← hst.1]
    have hc' : ∀ j x, cs[j]? = some x → σ 20 (i + 1 + j) = cv x.1 ∧ σ 21 (i + 1 + j) = x.2 := fun j x hx => by
      have := hc (j + 1) x (by rw [List.getElem?_cons_succ]; exact hx)
      rw [show i + (j + 1) = i + 1 + j by omega] at this
      exact this
    have hrec := ih (i + 1) (le1 (σ 39) c s) (v_step σ i (s.length, f)).2 h' hc' hst.2 (by
      rw [hl1]
      split
      · rename_i e; rw [if_pos e] at hw; exact hw.2
      · rename_i e; rw [if_neg e] at hw; exact hw.2.2) (by rw [hl1]; split <;> omega)
    rw [List.length_cons, v_run, le, v_wf, e, c1, c2]
    refine ⟨hrec.1, ?_⟩
    rw [hl1] at hrec
    by_cases e6 : c.1 = 6 ∨ c.1 = 5
    · rw [if_pos (by rw [q1]; exact e6)]
      rw [if_pos e6] at hrec hw
      refine ⟨by omega, fun z => ?_, hrec.2⟩
      rw [q2] at z
      exact hw.1 (e6.resolve_left z)
    · rw [if_neg (by rw [q1]; exact e6)]
      rw [if_neg e6] at hrec hw
      exact ⟨hw.1, by omega, hrec.2⟩
/-- a stretch of the model's codes -/
def mcd (σ : RS) (a : Nat) (l : List YC) : Prop := ∀ j c, l[j]? = some c → σ 20 (a + j) = cv c.1 ∧ σ 21 (a + j) = c.2
theorem h_val_le {σ : RS} {l : List YC} {a : Nat} (hc : mcd σ a l) (hw : ym_wf l 0 1) (hl : l.length ≤ 400) : (h_val σ a (a + l.length)).1 = ev1 (σ 39) l ∧ v_wf σ l.length a 0 := by
  have h := v_run_le l a [] (σ 40) 1 hc trivial hw (by rw [List.length_nil]; omega)
  rw [le_ev (σ 39) hw [], List.length_nil] at h
  refine ⟨?_, h.2⟩
  unfold h_val
  dsimp only
  rw [show a + l.length - a = l.length by omega]
  exact h.1.1
def mrE (b : Nat) (σ : RS) (i : Nat) (r : YR) (a : Nat) : Prop := rlE b σ i r a ∧ mcd σ (500 * b + a) (r.2.1 ++ r.2.2.2) ∧ a + (r.2.1 ++ r.2.2.2).length ≤ 400
theorem h_cmp_eq {op : Int32} (h : z_isRel op = true) (a b : Int32) : h_cmp (op - 11) a b = cmp1 op a b := by
  rcases of_decide_eq_true h with rfl | rfl | rfl | rfl <;> rfl
theorem mcd_l {σ : RS} {a : Nat} {x y : List YC} (h : mcd σ a (x ++ y)) : mcd σ a x := fun j c hj => h j c (app_get_l hj)
theorem mcd_r {σ : RS} {a : Nat} {x y : List YC} (h : mcd σ a (x ++ y)) : mcd σ (a + x.length) y := fun j c hj => by
  rw [Nat.add_assoc]; exact h _ c (app_get_r hj)
theorem h_rel_eq {b : Nat} {σ : RS} {i a : Nat} {r : YR} (hb : b ≤ 1) (h : mrE b σ i r a) (hok : ym_okR r) : (h_rel σ i).1 = relv (σ 39) r ∧ h_okRel σ i := by
  obtain ⟨⟨h15, h16, h17, h18, h19⟩, hc, hl⟩ := h
  obtain ⟨w1, w2, w3⟩ := hok
  rw [List.length_append] at hl
  have e16 : nt (σ 16 i) = 500 * b + a := by rw [h16]; exact nt_nI (by omega)
  have e17 : nt (σ 17 i) = 500 * b + a + r.2.1.length := by rw [h17]; exact nt_nI (by omega)
  have e18 : nt (σ 18 i) = 500 * b + a + r.2.1.length + r.2.2.2.length := by rw [h18]; exact nt_nI (by omega)
  have v1 := h_val_le (mcd_l hc) w1 (by omega)
  have c2 : mcd (h_val σ (500 * b + a) (500 * b + a + r.2.1.length)).2 (500 * b + a + r.2.1.length) r.2.2.2 := mcd_r hc
  have v2 := h_val_le c2 w2 (by omega)
  refine ⟨?_, 500 * b + a, 500 * b + a + r.2.1.length, 500 * b + a + r.2.1.length + r.2.2.2.length, h16, h17, h18, by omega, by omega, by omega, ?_, ?_⟩
  · unfold h_rel relv
    dsimp only
    rw [e16, e17, e18, v1.1, v2.1, h15, h_cmp_eq w3]
    rfl
  · rw [show 500 * b + a + r.2.1.length - (500 * b + a) = r.2.1.length by omega]
    exact v1.2
  · rw [show 500 * b + a + r.2.1.length + r.2.2.2.length - (500 * b + a + r.2.1.length) = r.2.2.2.length by omega]
    exact (h_val_le (mcd_r hc) w2 (by omega)).2
/-- relations with their codes -/
def mrl (b : Nat) (σ : RS) (q0 c0 : Nat) : List YR → Prop
  | [] => True
  | r :: rs => mrl b σ q0 c0 rs ∧ mrE b σ (200 * b + (q0 + rs.length)) r (c0 + (mq_rels rs).length)
theorem mrl_get {b : Nat} {σ : RS} {q0 c0 : Nat} : ∀ {l : List YR} {k : Nat} {r : YR}, mrl b σ q0 c0 l → l[k]? = some r → ∃ a, mrE b σ (200 * b + (q0 + (l.length - 1 - k))) r a := by
  intro l
  induction l with
  | nil => intro k r _ h; cases h
  | cons x l ih =>
    intro k r h hk
    cases k with
    | zero => cases hk; exact ⟨_, by rw [List.length_cons, show l.length + 1 - 1 - 0 = l.length by omega]; exact h.2⟩
    | succ k =>
      rw [List.getElem?_cons_succ] at hk
      obtain ⟨a, ha⟩ := ih h.1 hk
      have := (List.getElem?_eq_some_iff.mp hk).1
      exact ⟨a, by rw [List.length_cons, show l.length + 1 - 1 - (k + 1) = l.length - 1 - k by omega]; exact ha⟩
theorem mrE_same {b : Nat} {σ σ' : RS} (h : lsame σ σ') {i a : Nat} {r : YR} (g : mrE b σ i r a) : mrE b σ' i r a := ⟨rlE_same (fun c h1 h2 => by rw [h.1 c (by omega) (by omega)]) g.1, fun j c hj => by rw [h.1 20 (by omega) (by omega), h.1 21 (by omega) (by omega)]; exact g.2.1 j c hj, g.2.2⟩
theorem mrl_same {b : Nat} {σ σ' : RS} (h : lsame σ σ') {q0 c0 : Nat} : ∀ {l : List YR}, mrl b σ q0 c0 l → mrl b σ' q0 c0 l := by
  intro l
  induction l with
  | nil => intro _; trivial
  | cons r rs ih => intro g; exact ⟨ih g.1, mrE_same h g.2⟩
theorem sm_up (vs : Nat → Int32) : ∀ (a b : List YR), (sm vs b).1 = true → (sm vs (a ++ b)).1 = true := by
  intro a
  induction a with
  | nil => intro b h; exact h
  | cons r a ih =>
    intro b h
    rw [List.cons_append, sm]
    split
    · rw [ih b h]; rfl
    · exact ih b h
theorem h_run_eq {b : Nat} (hb : b ≤ 1) (vs : Nat → Int32) (q0 c0 : Nat) (rels : List YR) (hok : ∀ r ∈ rels, ym_okR r) : ∀ (c : Nat) (σ : RS), c ≤ rels.length → mrl b σ q0 c0 rels → σ 39 = vs → (sm vs (rels.drop c)).1 = false → (h_run (200 * b) c (q0 + (rels.length - c)) (sm vs (rels.drop c)).2 σ).1 = dnf vs rels := by
  intro c
  induction c with
  | zero =>
    intro σ _ _ _ h
    rw [List.drop_zero] at h ⊢
    rw [h_run]
    unfold dnf
    rw [h]; rfl
  | succ c ih =>
    intro σ hc hm hv h
    have hlt : c < rels.length := by omega
    obtain ⟨r, hr⟩ : ∃ r, rels[c]? = some r := ⟨rels[c], List.getElem?_eq_getElem hlt⟩
    obtain ⟨hlt', hr'⟩ := List.getElem?_eq_some_iff.mp hr
    have hd : rels.drop c = r :: rels.drop (c + 1) := by rw [List.drop_eq_getElem_cons hlt, hr']
    obtain ⟨a, ha⟩ := mrl_get hm hr
    have okr := hok r (List.mem_of_getElem? hr)
    obtain ⟨v1, v2⟩ := h_rel_eq hb ha okr
    have ei : q0 + (rels.length - (c + 1)) = q0 + (rels.length - 1 - c) := by omega
    have e19 : σ 19 (200 * b + (q0 + (rels.length - 1 - c))) = bI r.1 := ha.1.2.2.2.2
    rw [h_run, ei, e19]
    have eo : (¬ bI r.1 = 0) = (r.1 = true) := by rw [bI_0]; cases r.1 <;> simp
    have ek : q0 + (rels.length - 1 - c) + 1 = q0 + (rels.length - c) := by omega
    rw [ek]
    generalize hS : sm vs (rels.drop (c + 1)) = S at *
    have hsm : sm vs (rels.drop c) = if r.1 = true then (S.1 || S.2, relv vs r) else (S.1, S.2 && relv vs r) := by rw [hd, sm, hS]
    by_cases hor : r.1 = true
    · rw [if_pos hor] at hsm
      by_cases hall : S.2 = true
      · rw [if_pos ⟨eo.mpr hor, hall⟩]
        have h1 : (sm vs (rels.drop c)).1 = true := by rw [hsm, hall]; exact Bool.or_true _
        have h2 := sm_up vs (rels.take c) (rels.drop c) h1
        rw [List.take_append_drop] at h2
        unfold dnf
        rw [h2]; rfl
      · have hall : S.2 = false := by simpa using hall
        rw [if_neg (fun z => by rw [hall] at z; cases z.2), if_pos (Or.inl (eo.mpr hor)), v1]
        have := ih (h_rel σ (200 * b + (q0 + (rels.length - 1 - c)))).2 (by omega) (mrl_same (h_rel_same _ _) hm) (by
          have : (h_rel σ (200 * b + (q0 + (rels.length - 1 - c)))).2 39 = σ 39 := h_rel_oc (L := [40]) (by decide) _ _ 39 (by decide)
          rw [this]; exact hv) (by rw [hsm, h, hall]; rfl)
        rw [hsm] at this
        rw [hv]
        exact this
    · rw [if_neg hor] at hsm
      by_cases hall : S.2 = true
      · rw [if_neg (fun z => hor (eo.mp z.1)), if_pos (Or.inr hall), v1]
        have := ih (h_rel σ (200 * b + (q0 + (rels.length - 1 - c)))).2 (by omega) (mrl_same (h_rel_same _ _) hm) (by
          have : (h_rel σ (200 * b + (q0 + (rels.length - 1 - c)))).2 39 = σ 39 := h_rel_oc (L := [40]) (by decide) _ _ 39 (by decide)
          rw [this]; exact hv) (by rw [hsm]; exact h)
        rw [hsm, hall] at this
        rw [hv]
        exact this
      · have hall : S.2 = false := by simpa using hall
        rw [if_neg (fun z => hor (eo.mp z.1)), if_neg (fun z => z.elim (fun y => hor (eo.mp y)) (fun z => by rw [hall] at z; cases z))]
        have := ih σ (by omega) hm hv (by rw [hsm]; exact h)
        rw [hsm, hall] at this
        exact this
/-- a rule in the model's rows, with its codes -/
def mrR (b : Nat) (σ : RS) (r q a : Nat) (R : YL) : Prop := (σ 9 (16 * b + r) = bI R.1 ∧ σ 10 (16 * b + r) = nI (500 * b + a) ∧ σ 11 (16 * b + r) = nI (500 * b + a + R.2.1.length) ∧ σ 12 (16 * b + r) = nI q ∧ σ 13 (16 * b + r) = nI (q + R.2.2.length)) ∧ mcd σ (500 * b + a) R.2.1 ∧ a + R.2.1.length ≤ 400 ∧ mrl b σ q (a + R.2.1.length) R.2.2 ∧ q + R.2.2.length ≤ 200
def mrls (b : Nat) (σ : RS) : Nat → Nat → Nat → List YL → Prop
  | _, _, _, [] => True
  | r, q, a, R :: rest => mrR b σ r q a R ∧ mrls b σ (r + 1) (q + R.2.2.length) (a + (mq1 R).length) rest
theorem h_holds_eq {b : Nat} {σ : RS} {r q a : Nat} {R : YL} (hb : b ≤ 1) (h : mrR b σ r q a R) (hok : ym_okL R) : (h_holds b σ (16 * b + r)).1 = hold1 (σ 39) R ∧ h_okRule σ b (16 * b + r) := by
  obtain ⟨⟨h9, h10, h11, h12, h13⟩, hc, ha, hm, hq⟩ := h
  refine ⟨?_, q, q + R.2.2.length, h12, h13, by omega, hq, fun k h1 h2 => ?_⟩
  · unfold h_holds hold1
    by_cases hn : R.2.2 = []
    · rw [hn] at h13 ⊢
      rw [if_pos (by rw [h12, h13]; rfl)]
      rfl
    · have hpos : 0 < R.2.2.length := by
        cases hR : R.2.2 with
        | nil => exact absurd hR hn
        | cons x l => rw [List.length_cons]; omega
      rw [if_neg (by rw [h12, h13, nI_eq (by omega) (by omega)]; omega), h12, h13, nt_nI (by omega), nt_nI (by omega), show q + R.2.2.length - q = R.2.2.length by omega]
      have := h_run_eq hb (σ 39) q (a + R.2.1.length) R.2.2 hok.2.2.1 R.2.2.length σ (Nat.le_refl _) hm rfl (by rw [List.drop_length]; rfl)
      rw [List.drop_length, Nat.sub_self, Nat.add_zero] at this
      have hne : R.2.2.isEmpty = false := by
        cases hq : R.2.2 with
        | nil => exact absurd hq hn
        | cons x l => rfl
      rw [hne, Bool.false_or]
      exact this
  · have hlt : R.2.2.length - 1 - (k - q) < R.2.2.length := by omega
    obtain ⟨a', ha'⟩ := mrl_get (k := R.2.2.length - 1 - (k - q)) hm (List.getElem?_eq_getElem hlt)
    have := (h_rel_eq hb ha' (hok.2.2.1 _ (List.getElem_mem hlt))).2
    rw [show q + (R.2.2.length - 1 - (R.2.2.length - 1 - (k - q))) = k by omega] at this
    exact this
theorem mrR_same {b : Nat} {σ σ' : RS} (h : lsame σ σ') {r q a : Nat} {R : YL} (g : mrR b σ r q a R) : mrR b σ' r q a R := by
  obtain ⟨⟨g9, g10, g11, g12, g13⟩, hc, ha, hm, hq⟩ := g
  exact ⟨⟨by rw [h.1 9 (by omega) (by omega)]; exact g9, by rw [h.1 10 (by omega) (by omega)]; exact g10, by rw [h.1 11 (by omega) (by omega)]; exact g11, by rw [h.1 12 (by omega) (by omega)]; exact g12, by rw [h.1 13 (by omega) (by omega)]; exact g13⟩, fun j c hj => by rw [h.1 20 (by omega) (by omega), h.1 21 (by omega) (by omega)]; exact hc j c hj, ha, mrl_same h hm, hq⟩
theorem mrls_same {b : Nat} {σ σ' : RS} (h : lsame σ σ') : ∀ {l : List YL} {r q a : Nat}, mrls b σ r q a l → mrls b σ' r q a l := by
  intro l
  induction l with
  | nil => intro r q a _; trivial
  | cons R l ih => intro r q a g; exact ⟨mrR_same h g.1, ih g.2⟩
theorem u_of_eq {b : Nat} (hb : b ≤ 1) (gr : Bool) (vs : Nat → Int32) : ∀ (rest : List YL) (r q a : Nat) (σ : RS), mrls b σ r q a rest → (∀ R ∈ rest, ym_okL R) → σ 39 = vs → (u_of b (bI gr) rest.length r σ).1 = frule vs gr r rest := by
  intro rest
  induction rest with
  | nil => intro r q a σ _ _ _; rfl
  | cons R rest ih =>
    intro r q a σ h hok hv
    have hE := (h_holds_eq hb h.1 (hok R List.mem_cons_self)).1
    have h9 := h.1.1.1
    have hok' : ∀ S ∈ rest, ym_okL S := fun S hS => hok S (List.mem_cons_of_mem _ hS)
    rw [List.length_cons, u_of, frule, h9, hE, hv]
    by_cases hg : R.1 = gr
    · rw [if_pos (by rw [hg])]
      by_cases hh : hold1 vs R = true
      · rw [if_pos hh, if_pos ⟨hg, hh⟩]
      · rw [if_neg hh, if_neg (fun z => hh z.2)]
        refine ih (r + 1) _ _ _ (mrls_same (h_holds_same _ _ _) h.2) hok' ?_
        rw [h_holds_oc (L := [40]) (by decide) b σ (16 * b + r) 39 (by decide)]
        exact hv
    · rw [if_neg (fun z => hg (bI_inj.mp z)), if_neg (fun z => hg z.1)]
      exact ih (r + 1) _ _ σ h.2 hok' hv
theorem mrls_get {b : Nat} {σ : RS} : ∀ {l : List YL} {r q a k : Nat} {R : YL}, mrls b σ r q a l → l[k]? = some R → ∃ q' a', mrR b σ (r + k) q' a' R := by
  intro l
  induction l with
  | nil => intro r q a k R _ h; cases h
  | cons S l ih =>
    intro r q a k R h hk
    cases k with
    | zero => cases hk; exact ⟨q, a, h.1⟩
    | succ k =>
      rw [List.getElem?_cons_succ] at hk
      obtain ⟨q', a', ha⟩ := ih h.2 hk
      exact ⟨q', a', by rw [show r + (k + 1) = r + 1 + k by omega]; exact ha⟩
/-- the law that is in force: the model's rows on the side b hold A -/
def mlaw (b : Nat) (σ : RS) (A : List YL) : Prop := b ≤ 1 ∧ σ 0 18 = nI b ∧ σ 8 b = nI A.length ∧ A.length ≤ 16 ∧ mrls b σ 0 0 0 A ∧ ∀ R ∈ A, ym_okL R
theorem ym_okE_ev {gr : Bool} {E : List YC} (h : ym_okE gr E) (hg : gr = true) : ym_wf E 0 1 := by
  unfold ym_okE at h; rw [if_pos hg] at h; exact h
theorem mlaw_ok {b : Nat} {σ : RS} {A : List YL} (h : mlaw b σ A) : h_okLaw σ b A.length := by
  obtain ⟨h1, h2, h3, h4, h5, h6⟩ := h
  refine ⟨h2, h1, h3, h4, fun r hr => ?_⟩
  have hR := List.getElem?_eq_getElem hr
  obtain ⟨q, a, hm⟩ := mrls_get h5 hR
  rw [Nat.zero_add] at hm
  have hok := h6 _ (List.getElem_mem hr)
  refine ⟨(h_holds_eq h1 hm hok).2, 500 * b + a, 500 * b + a + A[r].2.1.length, hm.1.2.1, hm.1.2.2.1, by omega, by have := hm.2.2.1; omega, ?_⟩
  rw [show 500 * b + a + A[r].2.1.length - (500 * b + a) = A[r].2.1.length by omega]
  by_cases hg : A[r].1 = true
  · exact (h_val_le hm.2.1 (ym_okE_ev hok.1 hg) (by have := hm.2.2.1; omega)).2
  · have he : A[r].2.1 = [] := by
      have := hok.1
      unfold ym_okE at this
      rwa [if_neg hg] at this
    rw [he]; trivial
theorem mlaw_same {b : Nat} {σ σ' : RS} {A : List YL} (h : lsame σ σ') (g : mlaw b σ A) : mlaw b σ' A := ⟨g.1, h.2.trans g.2.1, by rw [h.1 8 (by omega) (by omega)]; exact g.2.2.1, g.2.2.2.1, mrls_same h g.2.2.2.2.1, g.2.2.2.2.2⟩
