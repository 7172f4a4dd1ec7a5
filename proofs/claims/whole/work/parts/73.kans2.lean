/-! What a Known answers, second part: chains, witnesses, doers; why a paper is void. -/
def wok (x : Int32) : Prop := ∃ v : Nat, v ≤ 5 ∧ x = nI v
theorem wok_step {F : FF} {lv : Nat → Int32} {A : List YL} {n k : Nat} {S : SS} (h : ∀ f, wok (S.2.2.2.1 f)) : ∀ f, wok ((sp_step F lv A n k S).2.2.2.1 f) := by
  have one : ∀ (T : SS) (v : Nat), v ≤ 5 → (∀ f, wok (T.2.2.2.1 f)) → ∀ f, wok ((ss_why T k (nI v)).2.2.2.1 f) := fun T v hv hT f => by
    show wok (upd T.2.2.2.1 k (nI v) f)
    by_cases e : f = k
    · rw [e, upd_same]; exact ⟨v, hv, rfl⟩
    · rw [upd_ne _ _ e]; exact hT f
  unfold sp_step
  split
  · exact one S 1 (by omega) h
  · split
    · exact one (ss_owes S _) 0 (by omega) h
    · split
      · exact one S 2 (by omega) h
      · split
        · exact one S 3 (by omega) h
        · split
          · split
            · exact one S 5 (by omega) h
            · exact one (ss_owes (ss_move S _ _) _) 0 (by omega) h
          · split
            · exact one S 4 (by omega) h
            · exact one (ss_owes (ss_move S _ _) _) 0 (by omega) h
theorem wok_run {F : FF} {lv : Nat → Int32} {A : List YL} {n : Nat} : ∀ (l : List Nat) (S : SS), (∀ f, wok (S.2.2.2.1 f)) → ∀ f, wok ((sp_run F lv A n l S).2.2.2.1 f) := by
  intro l
  induction l with
  | nil => intro S h; exact h
  | cons k l ih => intro S h; exact ih _ (wok_step h)
theorem wok_dS (F : FF) (lv : Nat → Int32) (A : List YL) (n f : Nat) : wok ((dS F lv A n).2.2.2.1 f) := wok_run _ ss0 (fun _ => ⟨0, by omega, rfl⟩) f
theorem wok.pos {x : Int32} (h : wok x) : (0 < x) ↔ ¬ x = 0 := by
  obtain ⟨v, v1, v2⟩ := h
  rw [v2, show (0 : Int32) = nI 0 from rfl, nI_ltI (by omega) (by omega), nI_eq (by omega) (by omega)]
  omega
/-- the links of a chain -/
def chn (F : FF) (wy : Nat → Int32) (p y : Nat) : List Nat → Nat → Int32
  | [], _ => -1
  | f :: fs, left => if wy f = 0 ∧ F 0 f ≤ 1 ∧ F 4 f = p ∧ F 5 f = y then (if left = 1 then nI (F 3 f) else chn F wy p y fs (left - 1)) else chn F wy p y fs left
theorem link_chn {F : FF} {wy gf tf : Nat → Int32} {p y i : Nat} (hp : p < 8) (hy : y < 400) (hi : i < 2 ^ 31) : ∀ (L : List Nat) (k l : Nat) (h : Int32), (∀ j f, L[j]? = some f → gf (k + j) = (if wy f = 0 ∧ F 0 f ≤ 1 then nI (F 4 f * 400 + F 5 f) else -1) ∧ (F 0 f ≤ 1 → tf (k + j) = nI (F 3 f) ∧ F 4 f < 8 ∧ F 5 f < 400)) → l ≤ i → (if (kn_link gf tf (nI (p * 400 + y)) (nI i) L.length k h (nI l)).2 = nI i then (kn_link gf tf (nI (p * 400 + y)) (nI i) L.length k h (nI l)).1 else -1) = if l = i then h else chn F wy p y L (i - l) := by
  intro L
  induction L with
  | nil =>
    intro k l h _ hl
    show (if nI l = nI i then h else -1) = _
    by_cases e : l = i
    · rw [if_pos (by rw [e]), if_pos e]
    · rw [if_neg (fun z => e ((nI_eq (by omega) hi).mp z)), if_neg e]
      rfl
  | cons f L ih =>
    intro k l h hg hl
    rw [List.length_cons, kn_link]
    by_cases e : l = i
    · subst e
      rw [if_neg (nI_nlt (Nat.le_refl l) hi), if_pos rfl, if_pos rfl]
    · have hlt : l < i := by omega
      rw [if_pos (nI_lt hlt hi), if_neg e]
      obtain ⟨q1, q2⟩ := hg 0 f rfl
      rw [Nat.add_zero] at q1 q2
      have hrest : ∀ j f', L[j]? = some f' → gf (k + 1 + j) = (if wy f' = 0 ∧ F 0 f' ≤ 1 then nI (F 4 f' * 400 + F 5 f') else -1) ∧ (F 0 f' ≤ 1 → tf (k + 1 + j) = nI (F 3 f') ∧ F 4 f' < 8 ∧ F 5 f' < 400) := fun j f' hj => by
        have := hg (j + 1) f' hj
        rwa [show k + (j + 1) = k + 1 + j by omega] at this
      have ih1 := fun l h hl => ih (k + 1) l h hrest hl
      rw [q1, chn]
      by_cases hc : wy f = 0 ∧ F 0 f ≤ 1 ∧ F 4 f = p ∧ F 5 f = y
      · obtain ⟨c1, c2, c3, c4⟩ := hc
        have g0 : (if wy f = 0 ∧ F 0 f ≤ 1 then nI (F 4 f * 400 + F 5 f) else -1) = nI (p * 400 + y) := by
          have c12 : wy f = 0 ∧ F 0 f ≤ 1 := ⟨c1, c2⟩
          rw [if_pos c12, c3, c4]
        have c1234 : wy f = 0 ∧ F 0 f ≤ 1 ∧ F 4 f = p ∧ F 5 f = y := ⟨c1, c2, c3, c4⟩
        rw [if_pos g0, if_pos c1234, (q2 c2).1, nI_1, ih1 (l + 1) _ (by omega)]
        by_cases e1 : l + 1 = i
        · rw [if_pos e1, if_pos (by omega)]
        · rw [if_neg e1, if_neg (by omega), show i - (l + 1) = i - l - 1 by omega]
      · rw [if_neg hc]
        have hn : ¬ (if wy f = 0 ∧ F 0 f ≤ 1 then nI (F 4 f * 400 + F 5 f) else -1) = nI (p * 400 + y) := by
          by_cases h2 : wy f = 0 ∧ F 0 f ≤ 1
          · rw [if_pos h2]
            obtain ⟨-, b1, b2⟩ := q2 h2.2
            intro z
            have := (nI_eq (by omega) (by omega)).mp z
            exact hc ⟨h2.1, h2.2, by omega, by omega⟩
          · rw [if_neg h2]
            intro z
            exact leaf_m1 hp hy z.symm
        rw [if_neg hn, ih1 l h hl, if_neg e]
theorem a_chain {F : FF} {lv : Nat → Int32} {A : List YL} {P N n : Nat} {τ : RS} (h : KB F lv A P N n τ) {p y : Nat} (hp : p < 8) (hy : y < 400) {i : Int32} (hi : 0 ≤ i) : kn_linkV τ (nI p) (nI y) i (ml F n) = if i = 0 then nI p else chn F (dS F lv A n).2.2.2.1 p y (mlist F n 399) (nt i) := by
  obtain ⟨⟨hP, hN, hn, hok⟩, ⟨g1, g2, g3⟩, hF, -⟩ := h
  obtain ⟨j, j1, j2⟩ := nI_of (Int32.not_lt.mpr hi)
  subst j2
  have := link_chn (F := F) (wy := (dS F lv A n).2.2.2.1) (gf := τ 4) (tf := τ 6) hp hy j1 (mlist F n 399) 0 0 (nI p) (fun q f hf => ?_) (Nat.zero_le _)
  · unfold kn_linkV
    rw [show nI p * (400 : Int32) = nI (p * 400) from nI_mul p 400, nI_add, nt_nI j1]
    refine this.trans ?_
    by_cases e : j = 0
    · rw [if_pos e.symm, if_pos (by rw [e]; rfl)]
    · rw [if_neg (fun z => e z.symm), if_neg (show ¬ nI j = 0 from fun z => e ((nI_eq (b := 0) (by omega) (by omega)).mp z)), Nat.sub_zero]
  · have hlt := (List.getElem?_eq_some_iff.mp hf).1
    have hm := (mlist_mem (F := F) (n := n) f).mp (List.mem_of_getElem? hf)
    obtain ⟨q1, q2⟩ := g3.2.2.2.2 q f hlt hf
    have eS : cS F lv A n (mlist F n 399).length = dS F lv A n := cS_full F lv A n
    rw [eS] at q1
    rw [Nat.zero_add]
    refine ⟨q1, fun h1 => ?_⟩
    obtain ⟨⟨b0, b1, b2, b3, b4, b5, b6⟩, -⟩ := hok f (by omega)
    exact ⟨q2.trans ((hF f (by omega)).2.2.1 h1).2.2.2, b4, b5⟩
