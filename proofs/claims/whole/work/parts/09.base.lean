/-! Words for values, and the smallest methods. -/
theorem fa_lt (a b : Int32) : a < b ↔ a.toInt < b.toInt := Int32.lt_iff_toInt_lt
theorem fa_le (a b : Int32) : a ≤ b ↔ a.toInt ≤ b.toInt := Int32.le_iff_toInt_le
theorem fa_eq (a b : Int32) : a = b ↔ a.toInt = b.toInt := Int32.toInt_inj.symm
def bI (b : Bool) : Int32 := if b then 1 else 0
theorem bI_t : bI true = 1 := rfl
theorem bI_f : bI false = 0 := rfl
theorem bI_0 {b : Bool} : (bI b = 0) = (b = false) := by cases b <;> simp [bI]
theorem bI_1 {b : Bool} : (bI b = 1) = (b = true) := by cases b <;> simp [bI]
theorem nar_bI (b : Bool) : narrow .boolean (.int (bI b)) = .int (bI b) := by cases b <;> rfl
theorem nI_m1 (x : Int32) : x + Int32.ofInt (-1) = x - 1 := by rw [Int32.sub_eq_add_neg]; rfl
theorem nI_p1 (k : Nat) : nI k + Int32.ofInt 1 = nI (k + 1) := nI_1 k
def s1 (σ : Nat → Nat → Int32) (c : Nat) (g : Nat → Int32) : Nat → Nat → Int32 := fun k => if k = c then g else σ k
def s2 (σ : Nat → Nat → Int32) (c j : Nat) (v : Int32) : Nat → Nat → Int32 := s1 σ c (upd (σ c) j v)
def l1 (τ : Nat → Nat → Int64) (c : Nat) (g : Nat → Int64) : Nat → Nat → Int64 := fun k => if k = c then g else τ k
theorem s1_same (σ : Nat → Nat → Int32) (c : Nat) (g : Nat → Int32) : s1 σ c g c = g := if_pos rfl
theorem s1_ne (σ : Nat → Nat → Int32) {c k : Nat} (g : Nat → Int32) (h : k ≠ c) : s1 σ c g k = σ k := if_neg h
theorem upd_same (f : Nat → Int32) (k : Nat) (x : Int32) : upd f k x k = x := if_pos rfl
theorem upd_ne (f : Nat → Int32) {k j : Nat} (x : Int32) (h : j ≠ k) : upd f k x j = f j := if_neg h
theorem rt_of {v v' : Option Value} {w w' : MW} (h1 : v' = v) (h2 : w' = w) : rt v w v' w' := ⟨h1, h2⟩
theorem rt_i {x x' : Int32} {w w' : MW} (h1 : x' = x) (h2 : w' = w) : rt (some (.int x)) w (some (.int x')) w' := ⟨by rw [h1], h2⟩
theorem ev_case {d : Nat} {y : MI} {Q : Option Value → MW → Prop} {pc : Nat} {ls : List (Option Value)} {st : List Value} {w : MW} {x : Int32} (c : Int32) (k1 : x = c → Ev d y Q pc ls (.int c :: st) w) (k2 : ¬ x = c → Ev d y Q pc ls (.int x :: st) w) : Ev d y Q pc ls (.int x :: st) w := by
  by_cases h : x = c
  · rw [h]; exact k1 h
  · exact k2 h
/-- a world that is the same under another name -/
theorem ev_world {d : Nat} {y : MI} {Q : Option Value → MW → Prop} {pc : Nat} {ls : List (Option Value)} {st : List Value} {w w' : MW} (h : w = w') (k : Ev d y Q pc ls st w') : Ev d y Q pc ls st w := h ▸ k
theorem ev_gen {W : (Nat → Nat → Int32) → MW} {d : Nat} {y : MI} {Q : Option Value → MW → Prop} {pc : Nat} {ls : List (Option Value)} {st : List Value} {σ' : Nat → Nat → Int32} (k : ∀ σ1, σ1 = σ' → Ev d y Q pc ls st (W σ1)) : Ev d y Q pc ls st (W σ') := k σ' rfl
def atF (n : Nat) (f : Nat → Int32) (i : Int32) : Int32 := if 0 ≤ i ∧ i < nI n then f i.toNatClampNeg else 0
def putF (n : Nat) (f : Nat → Int32) (i v : Int32) : Nat → Int32 := if 0 ≤ i ∧ i < nI n then upd f i.toNatClampNeg v else f
theorem atF_nI {n k : Nat} (f : Nat → Int32) (h : k < n) (hn : n < 2 ^ 31) : atF n f (nI k) = f k := by
  unfold atF
  rw [if_pos ⟨nI_pos' (by omega), nI_lt h hn⟩, nI_clamp (by omega)]
theorem putF_nI {n k : Nat} (f : Nat → Int32) (v : Int32) (h : k < n) (hn : n < 2 ^ 31) : putF n f (nI k) v = upd f k v := by
  unfold putF
  rw [if_pos ⟨nI_pos' (by omega), nI_lt h hn⟩, nI_clamp (by omega)]
theorem vin_of {i : Int32} {n : Nat} (h1 : 0 ≤ i) (h2 : i < nI n) (hn : n < 2 ^ 31) : vp_in i n := by
  rw [vp_in_iff]
  rw [fa_le, Int32.toInt_zero] at h1
  rw [fa_lt, nI_toInt hn] at h2
  exact ⟨h1, h2⟩
theorem k_at {d r n : Nat} {w : MW} {f : Nat → Int32} {i : Int32} (hr : w[r]? = some (.inl (.int, n, .inl f))) (hn : n < 2 ^ 31) : Ok d M6_at [.ref r, .int i] w (rt (some (.int (atF n f i))) w) := by
  refine Ok.of (ls := [some _, some _]) (by decide +kernel) (Nat.le_of_ble_eq_true rfl) rfl ?_
  refine ev_iload_n (pc' := 1) dX6_at_0 rfl rfl ?_
  refine ev_if_lt (tgt := 16) (pc' := 4) dX6_at_1 (by decide) rfl (fun h1 => ?_) (fun h1 => ?_)
  · refine ev_iconst (pc' := 17) (v := 0) dX6_at_16 rfl (by decide) ?_
    refine ev_ireturn rfl dX6_at_17 ?_
    refine rt_i ?_ rfl
    unfold atF
    rw [if_neg]
    intro h
    rw [fa_lt] at h1; rw [fa_le] at h; omega
  · refine ev_iload_n (pc' := 5) dX6_at_4 rfl rfl ?_
    refine ev_aload_n (pc' := 6) dX6_at_5 rfl rfl ?_
    refine ev_alen (pc' := 7) (t := 0) dX6_at_6 rfl hr rfl rfl ?_
    refine ev_icmp_ge (tgt := 16) (pc' := 10) dX6_at_7 (by decide) rfl (fun h2 => ?_) (fun h2 => ?_)
    · refine ev_iconst (pc' := 17) (v := 0) dX6_at_16 rfl (by decide) ?_
      refine ev_ireturn rfl dX6_at_17 ?_
      refine rt_i ?_ rfl
      unfold atF
      rw [if_neg]
      intro h
      have h3 := h.2
      rw [fa_lt] at h3; rw [fa_le] at h2
      exact absurd h2 (by show ¬ (nI n).toInt ≤ _; omega)
    · have g1 : 0 ≤ i := by rw [fa_le]; rw [fa_lt] at h1; omega
      have g2 : i < nI n := by rw [fa_lt]; rw [fa_le] at h2; show i.toInt < (Int32.ofNat n).toInt; omega
      refine ev_aload_n (pc' := 11) dX6_at_10 rfl rfl ?_
      refine ev_iload_n (pc' := 12) dX6_at_11 rfl rfl ?_
      refine ev_iald (pc' := 13) dX6_at_12 rfl hr (vin_of g1 g2 hn) ?_
      refine ev_goto (tgt := 17) dX6_at_13 (by decide) ?_
      refine ev_ireturn rfl dX6_at_17 ?_
      refine rt_i ?_ rfl
      unfold atF
      rw [if_pos ⟨g1, g2⟩]
theorem k_put {d r n : Nat} {w w' : MW} {f : Nat → Int32} {i v : Int32} (hr : w[r]? = some (.inl (.int, n, .inl f))) (hn : n < 2 ^ 31) (hw : w.set r (.inl (.int, n, .inl (putF n f i v))) = w') : Ok d M6_put [.ref r, .int i, .int v] w (rt none w') := by
  have hself : w.set r (.inl (.int, n, .inl f)) = w := by
    apply List.ext_getElem?
    intro k
    by_cases hk : r = k
    · subst hk
      rw [List.getElem?_set_self (List.getElem?_eq_some_iff.mp hr).1, hr]
    · rw [List.getElem?_set_ne hk]
  refine Ok.of (ls := [some _, some _, some _]) (by decide +kernel) (Nat.le_of_ble_eq_true rfl) rfl ?_
  refine ev_iload_n (pc' := 1) dX6_put_0 rfl rfl ?_
  refine ev_if_lt (tgt := 14) (pc' := 4) dX6_put_1 (by decide) rfl (fun h1 => ?_) (fun h1 => ?_)
  · refine ev_return rfl dX6_put_14 ?_
    refine rt_of rfl ?_
    rw [← hw]
    unfold putF
    rw [if_neg, hself]
    intro h
    rw [fa_lt] at h1; rw [fa_le] at h; omega
  · refine ev_iload_n (pc' := 5) dX6_put_4 rfl rfl ?_
    refine ev_aload_n (pc' := 6) dX6_put_5 rfl rfl ?_
    refine ev_alen (pc' := 7) (t := 0) dX6_put_6 rfl hr rfl rfl ?_
    refine ev_icmp_ge (tgt := 14) (pc' := 10) dX6_put_7 (by decide) rfl (fun h2 => ?_) (fun h2 => ?_)
    · refine ev_return rfl dX6_put_14 ?_
      refine rt_of rfl ?_
      rw [← hw]
      unfold putF
      rw [if_neg, hself]
      intro h
      have h3 := h.2
      rw [fa_lt] at h3; rw [fa_le] at h2
      exact absurd h2 (by show ¬ (nI n).toInt ≤ _; omega)
    · have g1 : 0 ≤ i := by rw [fa_le]; rw [fa_lt] at h1; omega
      have g2 : i < nI n := by rw [fa_lt]; rw [fa_le] at h2; show i.toInt < (Int32.ofNat n).toInt; omega
      refine ev_aload_n (pc' := 11) dX6_put_10 rfl rfl ?_
      refine ev_iload_n (pc' := 12) dX6_put_11 rfl rfl ?_
      refine ev_iload_n (pc' := 13) dX6_put_12 rfl rfl ?_
      refine ev_iast (pc' := 14) dX6_put_13 rfl hr (vin_of g1 g2 hn) rfl ?_
      refine ev_return rfl dX6_put_14 ?_
      refine rt_of rfl ?_
      rw [← hw]
      unfold putF
      rw [if_pos ⟨g1, g2⟩]
