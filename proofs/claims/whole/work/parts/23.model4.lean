/-! The model, fourth part: counting. -/
def m_awk (hf : Nat → Int32) (p : Int32) (y : Nat) : Nat → Int32
  | 0 => 0
  | o + 1 => if hf (400 * o + y) = p then m_awk hf p y o + 1 else m_awk hf p y o
theorem m_cell (o y : Nat) : 400 * nI o + nI y = nI (400 * o + y) := by rw [show (400 : Int32) * nI o = nI (400 * o) from nI_mul 400 o, nI_add]
theorem m_awake_loop {d : Nat} (σ : RS) (τ : TS) (p : Int32) (y P : Nat) (hy : y < 400) (hP : P ≤ 8) (h37 : σ 0 37 = nI P) : ∀ (c o : Nat), o + c = P → Ev d M7_awakeOf (rt (some (.int (m_awk (σ 31) p y P))) (WM σ τ)) 5 [some (.ref 0), some (.int p), some (.int (nI y)), some (.int (m_awk (σ 31) p y o)), some (.int (nI o))] [] (WM σ τ) := by
  intro c
  induction c with
  | zero =>
    intro o ho
    have ho : o = P := by omega
    subst ho
    refine ev_iload (pc' := 7) dX7_awakeOf_5 rfl rfl ?_
    refine ev_aload_n (pc' := 8) dX7_awakeOf_7 rfl rfl ?_
    refine ev_getf (pc' := 11) fl_7_262 dX7_awakeOf_8 rfl rfl rfl ?_
    refine ev_icmp_ge (tgt := 40) (pc' := 14) dX7_awakeOf_11 (by decide) rfl (fun h_11 => ?_) (fun h_11 => ?_)
    · refine ev_iload_n (pc' := 41) dX7_awakeOf_40 rfl rfl ?_
      refine ev_ireturn rfl dX7_awakeOf_41 ?_
      exact ⟨rfl, rfl⟩
    · exact absurd (by rw [h37]; exact nI_le (Nat.le_refl _) (by omega)) h_11 --
  | succ c ih =>
    intro o ho
    have e0 := m_cell o y
    have e1 : (nI (400 * o + y)).toNatClampNeg = 400 * o + y := nI_clamp (by omega)
    refine ev_iload (pc' := 7) dX7_awakeOf_5 rfl rfl ?_
    refine ev_aload_n (pc' := 8) dX7_awakeOf_7 rfl rfl ?_
    refine ev_getf (pc' := 11) fl_7_262 dX7_awakeOf_8 rfl rfl rfl ?_
    refine ev_icmp_ge (tgt := 40) (pc' := 14) dX7_awakeOf_11 (by decide) rfl (fun h_11 => ?_) (fun h_11 => ?_)
    · exact absurd h_11 (by rw [h37]; exact nI_ge (by omega) (by omega)) --
    · refine ev_aload_n (pc' := 15) dX7_awakeOf_14 rfl rfl ?_
      refine ev_getf (pc' := 18) fl_7_113 dX7_awakeOf_15 rfl rfl rfl ?_
      refine ev_sipush (pc' := 21) (v := 400) dX7_awakeOf_18 rfl (by decide) ?_
      refine ev_iload (pc' := 23) dX7_awakeOf_21 rfl rfl ?_
      refine ev_imul (pc' := 24) dX7_awakeOf_23 rfl ?_
      refine ev_iload_n (pc' := 25) dX7_awakeOf_24 rfl rfl ?_
      refine ev_iadd (pc' := 26) dX7_awakeOf_25 rfl ?_
      refine ev_iald (pc' := 27) dX7_awakeOf_26 rfl rfl ?_ ?_
      · rw [e0]; exact vp_in_nI (by omega) (by omega)
      rw [e0, e1]
      refine ev_iload_n (pc' := 28) dX7_awakeOf_27 rfl rfl ?_
      refine ev_icmp_ne (tgt := 34) (pc' := 31) dX7_awakeOf_28 (by decide) rfl (fun h_28 => ?_) (fun h_28 => ?_)
      · have e2 : m_awk (σ 31) p y (o + 1) = m_awk (σ 31) p y o := if_neg h_28
        refine ev_iinc (pc' := 37) (ls' := [_, _, _, _, _]) dX7_awakeOf_34 rfl rfl rfl rfl rfl ?_
        refine ev_goto (tgt := 5) dX7_awakeOf_37 (by decide) ?_
        rw [nI_p1]
        first
          | (show Ev _ _ _ _ [_, _, _, some (.int (m_awk (σ 31) p y o + 1)), _] _ _; rw [← e2]; exact ih (o + 1) (by omega))
          | (rw [← e2]; exact ih (o + 1) (by omega))
      · have e2 : m_awk (σ 31) p y (o + 1) = m_awk (σ 31) p y o + 1 := if_pos h_28
        refine ev_iinc (pc' := 34) (ls' := [_, _, _, _, _]) dX7_awakeOf_31 rfl rfl rfl rfl rfl ?_
        refine ev_iinc (pc' := 37) (ls' := [_, _, _, _, _]) dX7_awakeOf_34 rfl rfl rfl rfl rfl ?_
        refine ev_goto (tgt := 5) dX7_awakeOf_37 (by decide) ?_
        rw [nI_p1]
        first
          | (show Ev _ _ _ _ [_, _, _, some (.int (m_awk (σ 31) p y o + 1)), _] _ _; rw [← e2]; exact ih (o + 1) (by omega))
          | (rw [← e2]; exact ih (o + 1) (by omega))
theorem m_awakeOf {d : Nat} (σ : RS) (τ : TS) (p : Int32) (y P : Nat) (hy : y < 400) (hP : P ≤ 8) (h37 : σ 0 37 = nI P) : Ok d M7_awakeOf [.ref 0, .int p, .int (nI y)] (WM σ τ) (rt (some (.int (m_awk (σ 31) p y P))) (WM σ τ)) := by
  refine Ok.of (ls := [some _, some _, some _, none, none]) (by decide +kernel) (Nat.le_of_ble_eq_true rfl) rfl ?_
  refine ev_iconst (pc' := 1) (v := 0) dX7_awakeOf_0 rfl (by decide) ?_
  refine ev_istore_n (pc' := 2) (ls' := [_, _, _, _, _]) dX7_awakeOf_1 rfl rfl rfl ?_
  refine ev_iconst (pc' := 3) (v := 0) dX7_awakeOf_2 rfl (by decide) ?_
  refine ev_istore (pc' := 5) (ls' := [_, _, _, _, _]) dX7_awakeOf_3 rfl rfl rfl ?_
  exact m_awake_loop σ τ p y P hy hP h37 P 0 (by omega)
theorem m_owes_loop {d : Nat} (σ : RS) (τ : TS) (p : Nat) (hp : p < 8) : ∀ (c o : Nat), o + c = 8 → Ev d M7_owesAll (rt (some (.int (sumTo (fun o => σ 33 (8 * p + o)) 8))) (WM σ τ)) 4 [some (.ref 0), some (.int (nI p)), some (.int (sumTo (fun o => σ 33 (8 * p + o)) o)), some (.int (nI o))] [] (WM σ τ) := by
  intro c
  induction c with
  | zero =>
    intro o ho
    have ho : o = 8 := by omega
    subst ho
    refine ev_iload_n (pc' := 5) dX7_owesAll_4 rfl rfl ?_
    refine ev_bipush (pc' := 7) (v := 8) dX7_owesAll_5 rfl (by decide) ?_
    refine ev_icmp_ge (tgt := 30) (pc' := 10) dX7_owesAll_7 (by decide) rfl (fun h_7 => ?_) (fun h_7 => ?_)
    · refine ev_iload_n (pc' := 31) dX7_owesAll_30 rfl rfl ?_
      refine ev_ireturn rfl dX7_owesAll_31 ?_
      exact ⟨rfl, rfl⟩
    · exact absurd (show (8 : Int32) ≤ nI 8 from nI_le (a := 8) (by omega) (by omega)) h_7 --
  | succ c ih =>
    intro o ho
    have e0 : 8 * nI p + nI o = nI (8 * p + o) := by rw [show (8 : Int32) * nI p = nI (8 * p) from nI_mul 8 p, nI_add]
    have e1 : (nI (8 * p + o)).toNatClampNeg = 8 * p + o := nI_clamp (by omega)
    refine ev_iload_n (pc' := 5) dX7_owesAll_4 rfl rfl ?_
    refine ev_bipush (pc' := 7) (v := 8) dX7_owesAll_5 rfl (by decide) ?_
    refine ev_icmp_ge (tgt := 30) (pc' := 10) dX7_owesAll_7 (by decide) rfl (fun h_7 => ?_) (fun h_7 => ?_)
    · exact absurd h_7 (nI_ge (b := 8) (by omega) (by omega)) --
    · refine ev_iload_n (pc' := 11) dX7_owesAll_10 rfl rfl ?_
      refine ev_aload_n (pc' := 12) dX7_owesAll_11 rfl rfl ?_
      refine ev_getf (pc' := 15) fl_7_119 dX7_owesAll_12 rfl rfl rfl ?_
      refine ev_bipush (pc' := 17) (v := 8) dX7_owesAll_15 rfl (by decide) ?_
      refine ev_iload_n (pc' := 18) dX7_owesAll_17 rfl rfl ?_
      refine ev_imul (pc' := 19) dX7_owesAll_18 rfl ?_
      refine ev_iload_n (pc' := 20) dX7_owesAll_19 rfl rfl ?_
      refine ev_iadd (pc' := 21) dX7_owesAll_20 rfl ?_
      refine ev_iald (pc' := 22) dX7_owesAll_21 rfl rfl ?_ ?_
      · rw [e0]; exact vp_in_nI (by omega) (by omega)
      rw [e0, e1]
      refine ev_iadd (pc' := 23) dX7_owesAll_22 rfl ?_
      refine ev_istore_n (pc' := 24) (ls' := [_, _, _, _]) dX7_owesAll_23 rfl rfl rfl ?_
      refine ev_iinc (pc' := 27) (ls' := [_, _, _, _]) dX7_owesAll_24 rfl rfl rfl rfl rfl ?_
      refine ev_goto (tgt := 4) dX7_owesAll_27 (by decide) ?_
      rw [nI_p1]
      exact ih (o + 1) (by omega)
theorem m_owesAll {d : Nat} (σ : RS) (τ : TS) (p : Nat) (hp : p < 8) : Ok d M7_owesAll [.ref 0, .int (nI p)] (WM σ τ) (rt (some (.int (sumTo (fun o => σ 33 (8 * p + o)) 8))) (WM σ τ)) := by
  refine Ok.of (ls := [some _, some _, none, none]) (by decide +kernel) (Nat.le_of_ble_eq_true rfl) rfl ?_
  refine ev_iconst (pc' := 1) (v := 0) dX7_owesAll_0 rfl (by decide) ?_
  refine ev_istore_n (pc' := 2) (ls' := [_, _, _, _]) dX7_owesAll_1 rfl rfl rfl ?_
  refine ev_iconst (pc' := 3) (v := 0) dX7_owesAll_2 rfl (by decide) ?_
  refine ev_istore_n (pc' := 4) (ls' := [_, _, _, _]) dX7_owesAll_3 rfl rfl rfl ?_
  exact m_owes_loop σ τ p hp 8 0 rfl
/-- the leaves of o's days before k that p holds, counted on from a -/
def m_ageIn (hf : Nat → Int32) (p : Int32) (o : Nat) (a : Int32) : Nat → Int32
  | 0 => a
  | k + 1 => if hf (400 * o + k) = p then m_ageIn hf p o a k + 1 else m_ageIn hf p o a k
def m_ageOut (hf : Nat → Int32) (p : Int32) (y : Nat) (a : Int32) : Nat → Int32
  | 0 => a
  | o + 1 => m_ageIn hf p o (m_ageOut hf p y a o) (y + 1)
theorem m_ageIn_loop {d : Nat} {Q : Option Value → MW → Prop} (σ : RS) (τ : TS) (p a : Int32) (y o : Nat) (hy : y < 400) (ho : o < 8) : ∀ (c k : Nat), k + c = y + 1 → Ev d M7_ageOf Q 55 [some (.ref 0), some (.int p), some (.int (nI y)), some (.int (m_ageIn (σ 31) p o a (y + 1))), some (.int (nI o)), some (.int (nI (y + 1)))] [] (WM σ τ) → Ev d M7_ageOf Q 22 [some (.ref 0), some (.int p), some (.int (nI y)), some (.int (m_ageIn (σ 31) p o a k)), some (.int (nI o)), some (.int (nI k))] [] (WM σ τ) := by
  intro c
  induction c with
  | zero =>
    intro k hk kk
    have hk : k = y + 1 := by omega
    subst hk
    refine ev_iload (pc' := 24) dX7_ageOf_22 rfl rfl ?_
    refine ev_iload_n (pc' := 25) dX7_ageOf_24 rfl rfl ?_
    refine ev_icmp_gt (tgt := 55) (pc' := 28) dX7_ageOf_25 (by decide) rfl (fun h_25 => ?_) (fun h_25 => ?_)
    · exact kk --
    · exact absurd (nI_lt (a := y) (b := y + 1) (by omega) (by omega)) h_25 --
  | succ c ih =>
    intro k hk kk
    have e0 := m_cell o k
    have e1 : (nI (400 * o + k)).toNatClampNeg = 400 * o + k := nI_clamp (by omega)
    refine ev_iload (pc' := 24) dX7_ageOf_22 rfl rfl ?_
    refine ev_iload_n (pc' := 25) dX7_ageOf_24 rfl rfl ?_
    refine ev_icmp_gt (tgt := 55) (pc' := 28) dX7_ageOf_25 (by decide) rfl (fun h_25 => ?_) (fun h_25 => ?_)
    · exact absurd h_25 (nI_nlt (by omega) (by omega)) --
    · refine ev_aload_n (pc' := 29) dX7_ageOf_28 rfl rfl ?_
      refine ev_getf (pc' := 32) fl_7_113 dX7_ageOf_29 rfl rfl rfl ?_
      refine ev_sipush (pc' := 35) (v := 400) dX7_ageOf_32 rfl (by decide) ?_
      refine ev_iload (pc' := 37) dX7_ageOf_35 rfl rfl ?_
      refine ev_imul (pc' := 38) dX7_ageOf_37 rfl ?_
      refine ev_iload (pc' := 40) dX7_ageOf_38 rfl rfl ?_
      refine ev_iadd (pc' := 41) dX7_ageOf_40 rfl ?_
      refine ev_iald (pc' := 42) dX7_ageOf_41 rfl rfl ?_ ?_
      · rw [e0]; exact vp_in_nI (by omega) (by omega)
      rw [e0, e1]
      refine ev_iload_n (pc' := 43) dX7_ageOf_42 rfl rfl ?_
      refine ev_icmp_ne (tgt := 49) (pc' := 46) dX7_ageOf_43 (by decide) rfl (fun h_43 => ?_) (fun h_43 => ?_)
      · have e2 : m_ageIn (σ 31) p o a (k + 1) = m_ageIn (σ 31) p o a k := if_neg h_43
        refine ev_iinc (pc' := 52) (ls' := [_, _, _, _, _, _]) dX7_ageOf_49 rfl rfl rfl rfl rfl ?_
        refine ev_goto (tgt := 22) dX7_ageOf_52 (by decide) ?_
        rw [nI_p1]
        first
          | (show Ev _ _ _ _ [_, _, _, some (.int (m_ageIn (σ 31) p o a k + 1)), _, _] _ _; rw [← e2]; exact ih (k + 1) (by omega) kk)
          | (rw [← e2]; exact ih (k + 1) (by omega) kk)
      · have e2 : m_ageIn (σ 31) p o a (k + 1) = m_ageIn (σ 31) p o a k + 1 := if_pos h_43
        refine ev_iinc (pc' := 49) (ls' := [_, _, _, _, _, _]) dX7_ageOf_46 rfl rfl rfl rfl rfl ?_
        refine ev_iinc (pc' := 52) (ls' := [_, _, _, _, _, _]) dX7_ageOf_49 rfl rfl rfl rfl rfl ?_
        refine ev_goto (tgt := 22) dX7_ageOf_52 (by decide) ?_
        rw [nI_p1]
        first
          | (show Ev _ _ _ _ [_, _, _, some (.int (m_ageIn (σ 31) p o a k + 1)), _, _] _ _; rw [← e2]; exact ih (k + 1) (by omega) kk)
          | (rw [← e2]; exact ih (k + 1) (by omega) kk)
theorem m_ageOut_loop {d : Nat} (σ : RS) (τ : TS) (p a : Int32) (y P : Nat) (hy : y < 400) (hP : P ≤ 8) (h37 : σ 0 37 = nI P) : ∀ (c o : Nat) (z5 : Option Value), o + c = P → Ev d M7_ageOf (rt (some (.int (m_ageOut (σ 31) p y a P))) (WM σ τ)) 10 [some (.ref 0), some (.int p), some (.int (nI y)), some (.int (m_ageOut (σ 31) p y a o)), some (.int (nI o)), z5] [] (WM σ τ) := by
  intro c
  induction c with
  | zero =>
    intro o z5 ho
    have ho : o = P := by omega
    subst ho
    refine ev_iload (pc' := 12) dX7_ageOf_10 rfl rfl ?_
    refine ev_aload_n (pc' := 13) dX7_ageOf_12 rfl rfl ?_
    refine ev_getf (pc' := 16) fl_7_262 dX7_ageOf_13 rfl rfl rfl ?_
    refine ev_icmp_ge (tgt := 61) (pc' := 19) dX7_ageOf_16 (by decide) rfl (fun h_16 => ?_) (fun h_16 => ?_)
    · refine ev_iload_n (pc' := 62) dX7_ageOf_61 rfl rfl ?_
      refine ev_ireturn rfl dX7_ageOf_62 ?_
      exact ⟨rfl, rfl⟩
    · exact absurd (by rw [h37]; exact nI_le (Nat.le_refl _) (by omega)) h_16 --
  | succ c ih =>
    intro o z5 ho
    have kk : Ev d M7_ageOf (rt (some (.int (m_ageOut (σ 31) p y a P))) (WM σ τ)) 55 [some (.ref 0), some (.int p), some (.int (nI y)), some (.int (m_ageOut (σ 31) p y a (o + 1))), some (.int (nI o)), some (.int (nI (y + 1)))] [] (WM σ τ) := by
      refine ev_iinc (pc' := 58) (ls' := [_, _, _, _, _, _]) dX7_ageOf_55 rfl rfl rfl rfl rfl ?_
      refine ev_goto (tgt := 10) dX7_ageOf_58 (by decide) ?_
      rw [nI_p1]
      exact ih (o + 1) _ (by omega)
    refine ev_iload (pc' := 12) dX7_ageOf_10 rfl rfl ?_
    refine ev_aload_n (pc' := 13) dX7_ageOf_12 rfl rfl ?_
    refine ev_getf (pc' := 16) fl_7_262 dX7_ageOf_13 rfl rfl rfl ?_
    refine ev_icmp_ge (tgt := 61) (pc' := 19) dX7_ageOf_16 (by decide) rfl (fun h_16 => ?_) (fun h_16 => ?_)
    · exact absurd h_16 (by rw [h37]; exact nI_ge (by omega) (by omega)) --
    · refine ev_iconst (pc' := 20) (v := 0) dX7_ageOf_19 rfl (by decide) ?_
      refine ev_istore (pc' := 22) (ls' := [_, _, _, _, _, _]) dX7_ageOf_20 rfl rfl rfl ?_
      exact m_ageIn_loop σ τ p _ y o hy (by omega) (y + 1) 0 (by omega) kk
theorem m_ageOf {d : Nat} (σ : RS) (τ : TS) (p y P : Nat) (hp : p < 8) (hy : y < 400) (hP : P ≤ 8) (h37 : σ 0 37 = nI P) : Ok d M7_ageOf [.ref 0, .int (nI p), .int (nI y)] (WM σ τ) (rt (some (.int (m_ageOut (σ 31) (nI p) y (σ 23 p) P))) (WM σ τ)) := by
  have e1 : (nI p).toNatClampNeg = p := nI_clamp (by omega)
  refine Ok.of (ls := [some _, some _, some _, none, none, none]) (by decide +kernel) (Nat.le_of_ble_eq_true rfl) rfl ?_
  refine ev_aload_n (pc' := 1) dX7_ageOf_0 rfl rfl ?_
  refine ev_getf (pc' := 4) fl_7_86 dX7_ageOf_1 rfl rfl rfl ?_
  refine ev_iload_n (pc' := 5) dX7_ageOf_4 rfl rfl ?_
  refine ev_iald (pc' := 6) dX7_ageOf_5 rfl rfl ?_ ?_
  · exact vp_in_nI (by omega) (by omega)
  rw [e1]
  refine ev_istore_n (pc' := 7) (ls' := [_, _, _, _, _, _]) dX7_ageOf_6 rfl rfl rfl ?_
  refine ev_iconst (pc' := 8) (v := 0) dX7_ageOf_7 rfl (by decide) ?_
  refine ev_istore (pc' := 10) (ls' := [_, _, _, _, _, _]) dX7_ageOf_8 rfl rfl rfl ?_
  exact m_ageOut_loop σ τ (nI p) (σ 23 p) y P hy hP h37 P 0 _ (by omega)
