/-! What the start gives: the classes. -/
theorem ar_of {args : Array Value} {s : State} {ty : FieldType} (h : (Cond.arrayClass ty).before args s = true) : ∃ cA : ClassId, ArrOfT s cA ty ∧ s.vm.findClass ("[" ++ ty.toString) = some cA := by
  obtain ⟨cA, kA, comp, h1, h2, h3⟩ := Cond.arrayClass_spec h
  exact ⟨cA, fun n z => ⟨fun k h => (by cases h), kA, h2, comp, h3⟩, h1⟩
theorem start_K {s : State} {args : Array Value} (htg : ∀ w ∈ gtbl, w.before args s = true) : ∃ (dC : Nat → ClassId) (dI : Nat → Nat → Nat) (cA : FieldType → ClassId), va_K (dC, dI) classes (tysA cA) s := by

  obtain ⟨c0, i0, h0⟩ := u_known (C := RX0) (T := TX0) (N := 10) (n := 10) htg inG0 (htg _ ins_0)
  obtain ⟨c1, i1, h1⟩ := u_known (C := RX1) (T := TX1) (N := 14) (n := 14) htg inG1 (htg _ ins_1)
  obtain ⟨c2, i2, h2⟩ := u_known (C := RX2) (T := TX2) (N := 9) (n := 9) htg inG2 (htg _ ins_2)
  obtain ⟨c3, i3, h3⟩ := u_known (C := RX3) (T := TX3) (N := 6) (n := 6) htg inG3 (htg _ ins_3)
  obtain ⟨c4, i4, h4⟩ := u_known (C := RX4) (T := TX4) (N := 9) (n := 9) htg inG4 (htg _ ins_4)
  obtain ⟨c5, i5, h5⟩ := u_known (C := RX5) (T := TX5) (N := 7) (n := 7) htg inG5 (htg _ ins_5)
  obtain ⟨c6, i6, h6⟩ := u_known (C := RX6) (T := TX6) (N := 11) (n := 11) htg inG6 (htg _ ins_6)
  obtain ⟨c7, i7, h7⟩ := u_known (C := RX7) (T := TX7) (N := 67) (n := 67) htg inG7 (htg _ ins_7)
  obtain ⟨a0, a1, a2⟩ := ar_of (htg _ (show Cond.arrayClass .int ∈ gtbl from aw_int))
  obtain ⟨b0, b1, b2⟩ := ar_of (htg _ (show Cond.arrayClass .byte ∈ gtbl from aw_byte))
  obtain ⟨e0, e1, e2⟩ := ar_of (htg _ (show Cond.arrayClass .long ∈ gtbl from aw_long))
  obtain ⟨d0, d1, d2⟩ := ar_of (htg _ (show Cond.arrayClass .boolean ∈ gtbl from aw_boolean))
  refine ⟨fun k => [c0, c1, c2, c3, c4, c5, c6, c7].getD k c0, fun k => [i0, i1, i2, i3, i4, i5, i6, i7].getD k i0, fun t => match t with | .int => a0 | .byte => b0 | .long => e0 | .boolean => d0 | _ => a0, fun k q hq => ?_, fun k q hq => ?_⟩
  · match k, hq with
    | 0, hq => cases hq; exact h0
    | 1, hq => cases hq; exact h1
    | 2, hq => cases hq; exact h2
    | 3, hq => cases hq; exact h3
    | 4, hq => cases hq; exact h4
    | 5, hq => cases hq; exact h5
    | 6, hq => cases hq; exact h6
    | 7, hq => cases hq; exact h7
    | k + 8, hq => exact absurd (List.getElem?_eq_some_iff.mp hq).1 (Nat.not_lt.mpr (Nat.le_add_left 8 k))
  · match k, hq with
    | 0, hq => cases hq; exact ⟨a1, a2⟩
    | 1, hq => cases hq; exact ⟨b1, b2⟩
    | 2, hq => cases hq; exact ⟨e1, e2⟩
    | 3, hq => cases hq; exact ⟨d1, d2⟩
    | k + 4, hq => exact absurd (List.getElem?_eq_some_iff.mp hq).1 (Nat.not_lt.mpr (Nat.le_add_left 4 k))
