/-! A MEETING as a function of the debts alone. -/
def mtR (r : Nat → Nat) (m : Nat) (L : Int32) : Nat → Nat → (Nat → Int32) → (Nat → Int32)
  | 0, _, o => o
  | c + 1, i, o => mtR r m L c (i + 1) (upd o (lk r m i) (o (lk r m i) - L))
def mtS : Nat → (Nat → Int32) → (Nat → Int32)
  | 0, o => o
  | c + 1, o => if 0 < (sp_find o 8).1 then mtS c (mtR (sp_find o 8).2.2.2 (sp_find o 8).1 (nI (sp_find o 8).2.2.1) (sp_find o 8).1 0 o) else o
theorem g_meetR_mtR (r : Nat → Nat) (m : Nat) (L : Int32) : ∀ (c i : Nat) (σ : RS), σ 0 61 = L → (g_meetR r m c i σ) 33 = mtR r m L c i (σ 33) := by
  intro c
  induction c with
  | zero => intro i σ _; rfl
  | succ c ih =>
    intro i σ h
    have h2 : (g_meet1 σ r m i) 0 61 = L := h
    rw [g_meetR, mtR, ih (i + 1) _ h2]
    have e : (g_meet1 σ r m i) 33 = upd (σ 33) (lk r m i) (σ 33 (lk r m i) - L) := by
      unfold g_meet1
      rw [s1_same, h]
      rfl
    rw [e]
theorem meets_mtS {B P : Nat} (hB : B ≤ 5000000) (hP : P ≤ 8) : ∀ (c : Nat) (σm : RS), obd B P (σm 33) → (g_meets P c (f_find P σm)) 33 = mtS c (σm 33) := by
  intro c
  induction c with
  | zero =>
    intro σm ho
    exact (f_kp_find P _).1 33 (by decide) (by decide) (by decide) (by decide)
  | succ c ih =>
    intro σm ho
    have hm := sp_find_model hB hP σm ho.1
    rw [← sp_find_few hP ho.2.2] at hm
    have e33 : (f_find P σm) 33 = σm 33 := (f_kp_find P _).1 33 (by decide) (by decide) (by decide) (by decide)
    have h59 := hm.1
    have hb8 := hm.2.1
    rw [g_meets, mtS]
    by_cases h0 : 0 < (sp_find (σm 33) 8).1
    · have p2 : 0 < (f_find P σm) 0 59 := by rw [h59]; exact nI_lt (a := 0) h0 (by omega)
      rw [if_pos p2, if_pos h0]
      obtain ⟨hr, em, er, eg⟩ := mb_found hP hm h0
      have hL := (hm.2.2.2.1 h0).2.1
      have e1 := g_meetR_mtR (sp_find (σm 33) 8).2.2.2 (sp_find (σm 33) 8).1 (nI (sp_find (σm 33) 8).2.2.1) (sp_find (σm 33) 8).1 0 _ hL
      rw [em, g_meetR_same er _ 0 _ (by omega), ih _ (obd_meet hB (by rw [e33]; exact ho) (by rw [e33]; exact hr) (by rw [e33]; exact eg)), e1, e33]
    · have hb : (sp_find (σm 33) 8).1 = 0 := by omega
      rw [if_neg (by rw [h59, hb]; decide), if_neg h0, e33]
theorem meetc_mtS {B P : Nat} (hB : B ≤ 5000000) (hP : P ≤ 8) (c : Nat) (σc : RS) (ho : obd B P (σc 1)) : (r_meet c σc) 1 = mtS c (σc 1) ∧ obd B P (mtS c (σc 1)) := by
  have h := meet_eq hB hP c σc (s1 σc 33 (σc 1)) (s1_same _ _ _).symm (by rw [s1_same]; exact ho)
  have h2 := meets_mtS hB hP c (s1 σc 33 (σc 1)) (by rw [s1_same]; exact ho)
  rw [s1_same] at h2
  rw [h2] at h
  exact h
/-- debts that are alike among the eight are met alike -/
def like64 (o p : Nat → Int32) : Prop := ∀ j, j < 64 → o j = p j
theorem sp_node_like {o p : Nat → Int32} (h : like64 o p) {s : Nat} (hs : s < 8) : ∀ (f n u a : Nat) (r : Nat → Nat) (b : BS), r n < 8 → sp_node o 8 s f n u a r b = sp_node p 8 s f n u a r b := by
  have cl : ∀ n a r b, r n < 8 → sp_close o s n a r b = sp_close p s n a r b := fun n a r b hr => by
    unfold sp_close
    rw [h (8 * r n + s) (by omega)]
  intro f
  induction f with
  | zero =>
    intro n u a r b hr
    rw [sp_node, sp_node, cl n a r b hr]
    refine bfor_congr _ _ _ (fun x b h1 h2 => ?_)
    unfold sp_try
    rw [h (8 * r n + x) (by omega)]
  | succ f ih =>
    intro n u a r b hr
    rw [sp_node, sp_node, cl n a r b hr]
    refine bfor_congr _ _ _ (fun x b h1 h2 => ?_)
    unfold sp_try
    rw [h (8 * r n + x) (by omega), ih (n + 1) _ _ _ b (by rw [updN_same]; omega)]
theorem sp_find_like {o p : Nat → Int32} (h : like64 o p) : sp_find o 8 = sp_find p 8 := bfor_congr _ _ _ (fun s b _ h2 => sp_node_like h (by omega) 7 0 _ _ _ b (by show s < 8; omega))
theorem mtR_like {r : Nat → Nat} {m : Nat} (L : Int32) : ∀ (c i : Nat) (o p : Nat → Int32), like64 o p → like64 (mtR r m L c i o) (mtR r m L c i p) := by
  intro c
  induction c with
  | zero => intro i o p h; exact h
  | succ c ih =>
    intro i o p h
    refine ih (i + 1) _ _ (fun j hj => ?_)
    by_cases e : j = lk r m i
    · subst e; rw [upd_same, upd_same, h _ hj]
    · rw [upd_ne _ _ e, upd_ne _ _ e]; exact h j hj
theorem mtS_like : ∀ (c : Nat) (o p : Nat → Int32), like64 o p → like64 (mtS c o) (mtS c p) := by
  intro c
  induction c with
  | zero => intro o p h; exact h
  | succ c ih =>
    intro o p h
    rw [mtS, mtS, sp_find_like h]
    split
    · exact ih _ _ (mtR_like _ _ _ _ _ h)
    · exact h
theorem ob_like {B : Nat} {o p : Nat → Int32} (h : like64 o p) (g : ob B o) : ob B p := fun i hi => by
  rw [← h i hi]; exact g i hi
theorem obd_like {B P : Nat} {o p : Nat → Int32} (h : like64 o p) (g : obd B P o) : obd B P p := ⟨ob_like h g.1, fun i hi => by rw [← h _ (by omega)]; exact g.2.1 i hi, fun i j hi hj hP => by rw [← h _ (by omega)]; exact g.2.2 i j hi hj hP⟩
theorem like64.symm {o p : Nat → Int32} (h : like64 o p) : like64 p o := fun j hj => (h j hj).symm
theorem like64.trans {o p q : Nat → Int32} (h : like64 o p) (g : like64 p q) : like64 o q := fun j hj => (h j hj).trans (g j hj)
