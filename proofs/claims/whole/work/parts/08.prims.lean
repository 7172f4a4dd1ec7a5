/-! Math.max, Math.min, System.arraycopy: rows of Ev. -/
def MXw (own : String) (idx : Nat) : Prop := Cond.methodLink own idx Lib.Math.max.name ∈ gtbl ∧ Cond.static Lib.Math.max.name ∈ gtbl ∧ Cond.initialized "java/lang/Math" ∈ gtbl ∧ Cond.code Lib.Math.max.name Lib.Math.max.code 2 (some .int) ∈ gtbl
def MNw (own : String) (idx : Nat) : Prop := Cond.methodLink own idx Lib.Math.min.name ∈ gtbl ∧ Cond.static Lib.Math.min.name ∈ gtbl ∧ Cond.initialized "java/lang/Math" ∈ gtbl ∧ Cond.code Lib.Math.min.name Lib.Math.min.code 2 (some .int) ∈ gtbl
def CPw (own : String) (idx : Nat) : Prop := Cond.methodLink own idx arraycopyName ∈ gtbl ∧ Cond.native arraycopyName ∈ gtbl ∧ Cond.static arraycopyName ∈ gtbl ∧ Cond.initialized "java/lang/System" ∈ gtbl
theorem hasL_size {adr : Nat → Nat} {L : Array Slot} {nL : Nat} {ls : List (Option Value)} (h : hasL adr L nL ls) : L.size = nL := h.1
theorem ev_mmax {d : Nat} {y : MI} {Q : Option Value → MW → Prop} {pc pc' : Nat} {ls : List (Option Value)} {rest : List Value} {w : MW} {idx : Nat} {a b : Int32} (hw : MXw y.1.cls idx) (hd : decode y.2.1 pc = .ok (.invokestatic idx, 3)) (hpc : pc + 3 = pc') (hcat : (decide ((rest.map fun v => v.category).sum ≤ 8)) = true) (k : Ev d y Q pc' ls (.int (if a < b then b else a) :: rest) w) : Ev d y Q pc ls (.int b :: .int a :: rest) w := by
  subst hpc
  obtain ⟨g1, g2, g3, g4⟩ := hw
  intro p l e s m args below meth c dC dI cA adr A n0 H locs L C h hl
  have hts := C.2.2.2.2.2.1
  refine va_mmax C.1 C.2.1 (C.2.2.2.1.trans hl.1.symm) C.2.2.2.2.1 (hts _ g1) (hts _ g2) (hts _ g3) (hts _ g4) (Nat.le_add_left 1 d) ?_ (Nat.zero_le _) (Nat.zero_le _) hd (k p l e s m args below meth c dC dI cA adr A n0 H locs L C h hl)
  have := of_decide_eq_true hcat
  rw [cat_map]
  show _ ≤ 100 * d + 100
  omega
theorem ev_mmin {d : Nat} {y : MI} {Q : Option Value → MW → Prop} {pc pc' : Nat} {ls : List (Option Value)} {rest : List Value} {w : MW} {idx : Nat} {a b : Int32} (hw : MNw y.1.cls idx) (hd : decode y.2.1 pc = .ok (.invokestatic idx, 3)) (hpc : pc + 3 = pc') (hcat : (decide ((rest.map fun v => v.category).sum ≤ 8)) = true) (k : Ev d y Q pc' ls (.int (if b < a then b else a) :: rest) w) : Ev d y Q pc ls (.int b :: .int a :: rest) w := by
  subst hpc
  obtain ⟨g1, g2, g3, g4⟩ := hw
  intro p l e s m args below meth c dC dI cA adr A n0 H locs L C h hl
  have hts := C.2.2.2.2.2.1
  refine va_mmin C.1 C.2.1 (C.2.2.2.1.trans hl.1.symm) C.2.2.2.2.1 (hts _ g1) (hts _ g2) (hts _ g3) (hts _ g4) (Nat.le_add_left 1 d) ?_ (Nat.zero_le _) (Nat.zero_le _) hd (k p l e s m args below meth c dC dI cA adr A n0 H locs L C h hl)
  have := of_decide_eq_true hcat
  rw [cat_map]
  show _ ≤ 100 * d + 100
  omega
theorem ev_copy {d : Nat} {y : MI} {Q : Option Value → MW → Prop} {pc pc' : Nat} {ls : List (Option Value)} {rest : List Value} {w w' : MW} {idx r0 r1 n0' n1' : Nat} {f g : Nat → Int32} {sp dp n : Int32} (hw : CPw y.1.cls idx) (hd : decode y.2.1 pc = .ok (.invokestatic idx, 3)) (hpc : pc + 3 = pc') (hr0 : w[r0]? = some (.inl (.int, n0', .inl f))) (hr1 : w[r1]? = some (.inl (.int, n1', .inl g))) (h1 : ¬ sp < 0) (h2 : ¬ dp < 0) (h3 : ¬ n < 0) (h4 : sp.toNatClampNeg + n.toNatClampNeg ≤ n0') (h5 : dp.toNatClampNeg + n.toNatClampNeg ≤ n1') (hcat : (decide ((rest.map fun v => v.category).sum ≤ 8)) = true) (hw' : w.set r1 (.inl (.int, n1', .inl (va_cpy f g sp.toNatClampNeg dp.toNatClampNeg n.toNatClampNeg))) = w') (k : Ev d y Q pc' ls rest w') : Ev d y Q pc ls (.int n :: .int dp :: .ref r1 :: .int sp :: .ref r0 :: rest) w := by
  subst hpc; subst hw'
  obtain ⟨g1, g2, g3, g4⟩ := hw
  intro p l e s m args below meth c dC dI cA adr A n0 H locs L C h hl
  have hts := C.2.2.2.2.2.1
  refine va_copyi C.1 C.2.1 (C.2.2.2.1.trans hl.1.symm) C.2.2.2.2.1 (hts _ g1) (hts _ g2) (hts _ g3) (hts _ g4) C.2.2.2.2.2.2.2.1 h.2.1 h.2.2.1 h.2.2.2.1 r0 r1 0 0 (ty := .int) (cw_at hr0) (cw_at hr1) rfl rfl rfl h1 h2 h3 h4 h5 (fun _ _ => rfl) (Nat.le_add_left 1 d) ?_ hd (fun H1 locs1 hP1 hD1 hS1 => ?_)
  · have h6 := of_decide_eq_true hcat
    have h7 : nativeFrameWords "java/lang/System" "arraycopy" 5 + 11 ≤ 90 := by decide +kernel
    rw [cat_map]
    show _ ≤ 100 * d + 100
    omega
  · exact k p l e s m args below meth c dC dI cA adr A n0 H1 locs1 L C ⟨by rw [List.length_set]; exact h.1, by rw [cw_set]; exact hP1, by rw [cw_set]; exact hD1, hS1, h.2.2.2.2⟩ hl
theorem pw_3_68 : MXw RX3 68 := ⟨gt2 138 (by decide +kernel) rfl, gt2 139 (by decide +kernel) rfl, gt1 9 (by decide +kernel) rfl, gt2 140 (by decide +kernel) rfl⟩
theorem pw_1_201 : MXw RX1 201 := ⟨gt3 230 (by decide +kernel) rfl, gt2 139 (by decide +kernel) rfl, gt1 9 (by decide +kernel) rfl, gt2 140 (by decide +kernel) rfl⟩
theorem pw_2_63 : MXw RX2 63 := ⟨gt3 236 (by decide +kernel) rfl, gt2 139 (by decide +kernel) rfl, gt1 9 (by decide +kernel) rfl, gt2 140 (by decide +kernel) rfl⟩
theorem pw_6_173 : MNw RX6 173 := ⟨gt4 125 (by decide +kernel) rfl, gt2 58 (by decide +kernel) rfl, gt1 9 (by decide +kernel) rfl, gt2 59 (by decide +kernel) rfl⟩
theorem pw_2_57 : MNw RX2 57 := ⟨gt3 235 (by decide +kernel) rfl, gt2 58 (by decide +kernel) rfl, gt1 9 (by decide +kernel) rfl, gt2 59 (by decide +kernel) rfl⟩
theorem pw_3_31 : MNw RX3 31 := ⟨gt2 57 (by decide +kernel) rfl, gt2 58 (by decide +kernel) rfl, gt1 9 (by decide +kernel) rfl, gt2 59 (by decide +kernel) rfl⟩
theorem pw_5_59 : MNw RX5 59 := ⟨gt3 217 (by decide +kernel) rfl, gt2 58 (by decide +kernel) rfl, gt1 9 (by decide +kernel) rfl, gt2 59 (by decide +kernel) rfl⟩
theorem pw_1_173 : CPw RX1 173 := ⟨gt3 190 (by decide +kernel) rfl, gt3 192 (by decide +kernel) rfl, gt3 191 (by decide +kernel) rfl, gt1 15 (by decide +kernel) rfl⟩
theorem pw_5_34 : CPw RX5 34 := ⟨gt3 201 (by decide +kernel) rfl, gt3 192 (by decide +kernel) rfl, gt3 191 (by decide +kernel) rfl, gt1 15 (by decide +kernel) rfl⟩
