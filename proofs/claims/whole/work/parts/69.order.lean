/-! The papers' order: the class's row and the model's days. -/
/-- x goes behind all that were made no later; the latest first -/
def insR (F : FF) (x : Nat) : List Nat → List Nat
  | [] => [x]
  | y :: l => if F 1 x < F 1 y then y :: insR F x l else x :: y :: l
theorem insR_len (F : FF) (x : Nat) : ∀ l, (insR F x l).length = l.length + 1 := by
  intro l
  induction l with
  | nil => rfl
  | cons y l ih =>
    rw [insR]
    split
    · rw [List.length_cons, ih, List.length_cons]
    · rfl
theorem insR_mem (F : FF) (x : Nat) : ∀ l z, z ∈ insR F x l ↔ z = x ∨ z ∈ l := by
  intro l
  induction l with
  | nil => intro z; rw [insR]; simp
  | cons y l ih =>
    intro z
    rw [insR]
    split
    · rw [List.mem_cons, ih, List.mem_cons]
      constructor
      · rintro (h | h | h)
        · exact Or.inr (Or.inl h)
        · exact Or.inl h
        · exact Or.inr (Or.inr h)
      · rintro (h | h | h)
        · exact Or.inr (Or.inl h)
        · exact Or.inl h
        · exact Or.inr (Or.inr h)
    · rw [List.mem_cons]
def ltF (F : FF) (a b : Nat) : Prop := F 1 a < F 1 b ∨ (F 1 a = F 1 b ∧ a < b)
theorem insR_ok (F : FF) (x : Nat) : ∀ l, (∀ z, z ∈ l → z < x) → l.Pairwise (fun a b => ltF F b a) → (insR F x l).Pairwise (fun a b => ltF F b a) := by
  intro l
  induction l with
  | nil => intro _ _; rw [insR]; exact List.pairwise_singleton _ _
  | cons y l ih =>
    intro h1 h2
    obtain ⟨h3, h4⟩ := List.pairwise_cons.mp h2
    rw [insR]
    split
    · rename_i h
      refine List.pairwise_cons.mpr ⟨fun z hz => ?_, ih (fun z hz => h1 z (List.mem_cons_of_mem _ hz)) h4⟩
      rcases (insR_mem F x l z).mp hz with e | e
      · rw [e]; exact Or.inl h
      · exact h3 z e
    · rename_i h
      refine List.pairwise_cons.mpr ⟨fun z hz => ?_, h2⟩
      have hzx := h1 z hz
      rcases List.mem_cons.mp hz with e | e
      · rw [e] at hzx ⊢
        unfold ltF
        omega
      · have := h3 z e
        unfold ltF at this ⊢
        omega
/-- a strictly ordered list is told by what it holds -/
theorem sorted_eq (F : FF) : ∀ (a b : List Nat), a.Pairwise (ltF F) → b.Pairwise (ltF F) → (∀ z, z ∈ a ↔ z ∈ b) → a = b := by
  intro a
  induction a with
  | nil =>
    intro b _ _ h
    cases b with
    | nil => rfl
    | cons y l => exact absurd ((h y).mpr List.mem_cons_self) List.not_mem_nil
  | cons x l ih =>
    intro b ha hb h
    cases b with
    | nil => exact absurd ((h x).mp List.mem_cons_self) List.not_mem_nil
    | cons y m =>
      obtain ⟨a1, a2⟩ := List.pairwise_cons.mp ha
      obtain ⟨b1, b2⟩ := List.pairwise_cons.mp hb
      have hxy : x = y := by
        rcases List.mem_cons.mp ((h x).mp List.mem_cons_self) with e | e
        · exact e
        · rcases List.mem_cons.mp ((h y).mpr List.mem_cons_self) with e2 | e2
          · exact e2.symm
          · have h1 := b1 x e
            have h2 := a1 y e2
            unfold ltF at h1 h2
            omega
      subst hxy
      congr 1
      refine ih m a2 b2 (fun z => ⟨fun hz => ?_, fun hz => ?_⟩)
      · rcases List.mem_cons.mp ((h z).mp (List.mem_cons_of_mem _ hz)) with e | e
        · have := a1 z hz
          rw [e] at this
          unfold ltF at this
          omega
        · exact e
      · rcases List.mem_cons.mp ((h z).mpr (List.mem_cons_of_mem _ hz)) with e | e
        · have := b1 z hz
          rw [e] at this
          unfold ltF at this
          omega
        · exact e
theorem mday_mem (F : FF) (d : Nat) : ∀ c k z, z ∈ mday F d c k ↔ (k ≤ z ∧ z < k + c ∧ F 0 z ≤ 2 ∧ F 1 z = d) := by
  intro c
  induction c with
  | zero => intro k z; rw [mday]; exact ⟨fun h => absurd h List.not_mem_nil, fun h => by omega⟩
  | succ c ih =>
    intro k z
    rw [mday]
    split
    · rename_i h
      rw [List.mem_cons, ih]
      constructor
      · rintro (e | e)
        · rw [e]; exact ⟨by omega, by omega, h.1, h.2⟩
        · exact ⟨by omega, by omega, e.2.2⟩
      · intro e
        by_cases hz : z = k
        · exact Or.inl hz
        · exact Or.inr ⟨by omega, by omega, e.2.2⟩
    · rename_i h
      rw [ih]
      constructor
      · intro e; exact ⟨by omega, by omega, e.2.2⟩
      · intro e
        by_cases hz : z = k
        · subst hz; exact absurd e.2.2 h
        · exact ⟨by omega, by omega, e.2.2⟩
theorem mall_mem (F : FF) (n : Nat) : ∀ c d z, z ∈ mall F n c d ↔ (z < n ∧ F 0 z ≤ 2 ∧ d ≤ F 1 z ∧ F 1 z < d + c) := by
  intro c
  induction c with
  | zero => intro d z; rw [mall]; exact ⟨fun h => absurd h List.not_mem_nil, fun h => by omega⟩
  | succ c ih =>
    intro d z
    rw [mall, List.mem_append, mday_mem, ih]
    omega
theorem mday_ok (F : FF) (d : Nat) : ∀ c k, (mday F d c k).Pairwise (ltF F) := by
  intro c
  induction c with
  | zero => intro k; exact List.Pairwise.nil
  | succ c ih =>
    intro k
    rw [mday]
    split
    · rename_i h
      refine List.pairwise_cons.mpr ⟨fun z hz => ?_, ih (k + 1)⟩
      obtain ⟨h1, h2, h3, h4⟩ := (mday_mem F d c (k + 1) z).mp hz
      exact Or.inr ⟨by omega, by omega⟩
    · exact ih (k + 1)
theorem mall_ok (F : FF) (n : Nat) : ∀ c d, (mall F n c d).Pairwise (ltF F) := by
  intro c
  induction c with
  | zero => intro d; exact List.Pairwise.nil
  | succ c ih =>
    intro d
    rw [mall]
    refine List.pairwise_append.mpr ⟨mday_ok F d n 0, ih (d + 1), fun a ha b hb => ?_⟩
    obtain ⟨h1, h2, h3, h4⟩ := (mday_mem F d n 0 a).mp ha
    obtain ⟨g1, g2, g3, g4⟩ := (mall_mem F n c (d + 1) b).mp hb
    exact Or.inl (by omega)
theorem mall_add (F : FF) (n : Nat) : ∀ c e d, mall F n (c + e) d = mall F n c d ++ mall F n e (d + c) := by
  intro c
  induction c with
  | zero => intro e d; rw [Nat.zero_add]; rfl
  | succ c ih =>
    intro e d
    rw [show c + 1 + e = (c + e) + 1 by omega, mall, mall, ih, List.append_assoc, show d + 1 + c = d + (c + 1) by omega]
/-- the papers of the first days stand first -/
theorem mlist_day {F : FF} {n day : Nat} (hd : day < 400) : ∃ rest, mlist F n 399 = mlist F n day ++ rest ∧ ∀ z, z ∈ rest → day < F 1 z := by
  refine ⟨mall F n (399 - day) (day + 1), ?_, fun z hz => ?_⟩
  · unfold mlist
    rw [show 399 + 1 = (day + 1) + (399 - day) by omega, mall_add, Nat.zero_add]
  · have := (mall_mem F n _ _ z).mp hz
    omega
/-- the class's row, the latest first -/
def ordR (F : FF) : Nat → Nat → List Nat → List Nat
  | 0, _, l => l
  | c + 1, x, l => ordR F c (x + 1) (if F 0 x ≤ 2 then insR F x l else l)
theorem ordR_ok (F : FF) : ∀ c x l, (∀ z, z ∈ l → z < x) → l.Pairwise (fun a b => ltF F b a) → (ordR F c x l).Pairwise (fun a b => ltF F b a) ∧ ∀ z, z ∈ ordR F c x l ↔ z ∈ l ∨ (x ≤ z ∧ z < x + c ∧ F 0 z ≤ 2) := by
  intro c
  induction c with
  | zero => intro x l h1 h2; exact ⟨h2, fun z => ⟨Or.inl, fun h => h.resolve_right (by omega)⟩⟩
  | succ c ih =>
    intro x l h1 h2
    rw [ordR]
    by_cases h : F 0 x ≤ 2
    · rw [if_pos h]
      obtain ⟨g1, g2⟩ := ih (x + 1) (insR F x l) (fun z hz => by
        rcases (insR_mem F x l z).mp hz with e | e
        · omega
        · have := h1 z e; omega) (insR_ok F x l h1 h2)
      refine ⟨g1, fun z => ?_⟩
      rw [g2, insR_mem]
      constructor
      · rintro ((e | e) | e)
        · rw [e]; exact Or.inr ⟨by omega, by omega, h⟩
        · exact Or.inl e
        · exact Or.inr ⟨by omega, by omega, e.2.2⟩
      · rintro (e | e)
        · exact Or.inl (Or.inr e)
        · by_cases hz : z = x
          · exact Or.inl (Or.inl hz)
          · exact Or.inr ⟨by omega, by omega, e.2.2⟩
    · rw [if_neg h]
      obtain ⟨g1, g2⟩ := ih (x + 1) l (fun z hz => by have := h1 z hz; omega) h2
      refine ⟨g1, fun z => ?_⟩
      rw [g2]
      constructor
      · rintro (e | e)
        · exact Or.inl e
        · exact Or.inr ⟨by omega, by omega, e.2.2⟩
      · rintro (e | e)
        · exact Or.inl e
        · by_cases hz : z = x
          · subst hz; exact absurd e.2.2 h
          · exact Or.inr ⟨by omega, by omega, e.2.2⟩
theorem ordR_eq {F : FF} {n : Nat} (hF : ∀ k, k < n → F 1 k < 400) : (ordR F n 0 []).reverse = mlist F n 399 := by
  obtain ⟨h1, h2⟩ := ordR_ok F n 0 [] (fun z hz => absurd hz List.not_mem_nil) List.Pairwise.nil
  refine sorted_eq F _ _ (List.pairwise_reverse.mpr h1) (mall_ok F n 400 0) (fun z => ?_)
  rw [List.mem_reverse, h2]
  unfold mlist
  rw [mall_mem]
  constructor
  · rintro (e | e)
    · exact absurd e List.not_mem_nil
    · exact ⟨by omega, e.2.2, by omega, by have := hF z (by omega); omega⟩
  · intro e
    exact Or.inr ⟨by omega, by omega, e.2.1⟩
theorem stk_get {f : Nat → Int32} : ∀ {l : List Int32} {i : Nat} {x : Int32}, stk f l → l.reverse[i]? = some x → f i = x := by
  intro l
  induction l with
  | nil => intro i x _ h; simp at h
  | cons y r ih =>
    intro i x h hi
    rw [List.reverse_cons] at hi
    by_cases hl : i < r.length
    · rw [List.getElem?_append_left (by rw [List.length_reverse]; exact hl)] at hi
      exact ih h.2 hi
    · have hlen := (List.getElem?_eq_some_iff.mp hi).1
      rw [List.length_append, List.length_reverse, List.length_cons, List.length_nil] at hlen
      have e : i = r.length := by omega
      subst e
      rw [List.getElem?_append_right (by rw [List.length_reverse]; exact Nat.le_refl _), List.length_reverse, Nat.sub_self] at hi
      cases hi
      exact h.1
theorem ins_rep {F : FF} {σ : RS} {N x : Nat} (hF : cFacts N F σ) (hok : ∀ k, k < N → F 1 k < 400) (hN : N ≤ 120) (hx : x < N) (hxp : F 0 x ≤ 2) : ∀ (l : List Nat) (o : Nat → Int32), (∀ z, z ∈ l → z < N ∧ F 0 z ≤ 2) → stk o (l.map nI) → stk (upd (kn_ins σ x l.length o).2 (kn_ins σ x l.length o).1 (nI x)) ((insR F x l).map nI) ∧ ∀ j, l.length < j → (upd (kn_ins σ x l.length o).2 (kn_ins σ x l.length o).1 (nI x)) j = o j := by
  intro l
  induction l with
  | nil =>
    intro o _ _
    exact ⟨⟨upd_same _ _ _, trivial⟩, fun j hj => upd_ne _ _ (by show j ≠ 0; rw [List.length_nil] at hj; omega)⟩
  | cons y l ih =>
    intro o hl hs
    obtain ⟨hy1, hy2⟩ := hl y List.mem_cons_self
    have hoy : o l.length = nI y := by
      have := hs.1
      rwa [List.length_map] at this
    have ex : atF 120 (σ 13) (nI x) = nI (F 1 x) := by rw [atF_nI _ (by omega) (by omega)]; exact (hF x hx).2.1 hxp
    have ey : atF 120 (σ 13) (nI y) = nI (F 1 y) := by rw [atF_nI _ (by omega) (by omega)]; exact (hF y hy1).2.1 hy2
    have hc : (nI (F 1 x) < nI (F 1 y)) ↔ F 1 x < F 1 y := nI_ltI (by have := hok x hx; omega) (by have := hok y hy1; omega)
    rw [List.length_cons, kn_ins, hoy, ex, ey, insR]
    by_cases h : F 1 x < F 1 y
    · rw [if_pos (hc.mpr h), if_pos h]
      have hs1 : stk (upd o (l.length + 1) (nI y)) (l.map nI) := stk_upd _ _ _ (by rw [List.length_map]; omega) hs.2
      obtain ⟨g1, g2⟩ := ih (upd o (l.length + 1) (nI y)) (fun z hz => hl z (List.mem_cons_of_mem _ hz)) hs1
      refine ⟨⟨?_, g1⟩, fun j hj => ?_⟩
      · rw [List.length_map, insR_len, g2 _ (by omega), upd_same]
      · rw [g2 j (by omega), upd_ne _ _ (by omega)]
    · rw [if_neg (fun z => h (hc.mp z)), if_neg h]
      refine ⟨⟨?_, ?_⟩, fun j hj => upd_ne _ _ (by show j ≠ l.length + 1; omega)⟩
      · show upd o (l.length + 1) (nI x) ((y :: l).map nI).length = nI x
        rw [List.length_map, List.length_cons, upd_same]
      · exact stk_upd _ _ _ (by rw [List.length_map, List.length_cons]; exact Nat.le_refl _) hs
theorem arr_rep {F : FF} {σ : RS} {N : Nat} (hF : cFacts N F σ) (hok : ∀ k, k < N → F 0 k ≤ 5 ∧ F 1 k < 400) (h8 : σ 10 8 = nI N) (hN : N ≤ 120) : ∀ (c x : Nat) (l : List Nat) (o : Nat → Int32), x + c ≤ N → (∀ z, z ∈ l → z < x ∧ F 0 z ≤ 2) → stk o (l.map nI) → (kn_arr σ c x l.length o).1 = (ordR F c x l).length ∧ stk (kn_arr σ c x l.length o).2 ((ordR F c x l).map nI) := by
  intro c
  induction c with
  | zero => intro x l o _ _ h; exact ⟨rfl, h⟩
  | succ c ih =>
    intro x l o hx hl hs
    have hk := c_kind hF h8 hN (show x < N by omega)
    have b0 := (hok x (by omega)).1
    have hp : b_isPaper (bk σ) (nI x) = decide (F 0 x ≤ 2) := by
      unfold b_isPaper
      rw [hk]
      refine decide_eq_decide.mpr ?_
      rw [show (2 : Int32) = nI 2 from rfl, nI_leI (by omega) (by omega)]
      exact ⟨fun z => z.2, fun z => ⟨nI_pos' (by omega), z⟩⟩
    rw [kn_arr, ordR, hp]
    by_cases h : F 0 x ≤ 2
    · rw [if_pos (decide_eq_true h), if_pos h]
      obtain ⟨g1, g2⟩ := ins_rep hF (fun k hk => (hok k hk).2) hN (show x < N by omega) h l o (fun z hz => ⟨by have := (hl z hz).1; omega, (hl z hz).2⟩) hs
      have := ih (x + 1) (insR F x l) _ (by omega) (fun z hz => by
        rcases (insR_mem F x l z).mp hz with e | e
        · rw [e]; exact ⟨by omega, h⟩
        · exact ⟨by have := (hl z e).1; omega, (hl z e).2⟩) g1
      rw [insR_len] at this
      exact this
    · rw [if_neg (by rw [decide_eq_false h]; decide), if_neg h]
      exact ih (x + 1) l o (by omega) (fun z hz => ⟨by have := (hl z hz).1; omega, (hl z hz).2⟩) hs
theorem forge_rep {F : FF} {σ : RS} {N : Nat} (hF : cFacts N F σ) (hok : ∀ k, k < N → F 0 k ≤ 5 ∧ F 6 k < 120) (h8 : σ 10 8 = nI N) (hN : N ≤ 120) : ∀ (c x : Nat) (f : Nat → Int32), x + c ≤ N → (∀ j, j < 120 → f j = bI (sforged F j x)) → ∀ j, j < 120 → (kn_forge σ c x f) j = bI (sforged F j (x + c)) := by
  intro c
  induction c with
  | zero => intro x f _ h; exact h
  | succ c ih =>
    intro x f hx h
    have hk := c_kind hF h8 hN (show x < N by omega)
    obtain ⟨b0, b6⟩ := hok x (by omega)
    rw [kn_forge, hk, show x + (c + 1) = x + 1 + c by omega]
    refine ih (x + 1) _ (by omega) (fun j hj => ?_)
    have c3 : (nI (F 0 x) = 3) ↔ F 0 x = 3 := nI_eq (a := F 0 x) (b := 3) (by omega) (by omega)
    rw [sforged]
    by_cases h3 : F 0 x = 3
    · rw [if_pos (c3.mpr h3), atF_nI _ (by omega) (by omega), (hF x (by omega)).2.2.2.1 h3, putF_nI _ _ (by omega) (by omega)]
      by_cases e : j = F 6 x
      · rw [e, upd_same, if_pos ⟨h3, rfl⟩]; rfl
      · rw [upd_ne _ _ e, if_neg (fun z => e z.2.symm)]
        exact h j hj
    · rw [if_neg (fun z => h3 (c3.mp z)), if_neg (fun z => h3 z.1)]
      exact h j hj
