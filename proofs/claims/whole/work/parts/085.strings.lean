/-! The text constant: String.length, String.charAt. -/
section STR
variable {d : Nat} {y : MI} {Q : Option Value → MW → Prop} {pc pc' : Nat} {ls : List (Option Value)} {st : List Value} {w : MW} {idx : Nat}
theorem ev_ldcS (hcls : y.1.cls = "DayTown$Lexer") (hd : decode y.2.1 pc = .ok (.ldc 71, 2)) (hpc : pc + 2 = pc') (k : Ev d y Q pc' ls (.ref 999 :: st) w) : Ev d y Q pc ls st w := by
  subst hpc
  intro p l e s m args below meth c dC dI cA adr A n0 H locs L C h hl
  have ho := C.2.2.2.2.1
  rw [hcls] at ho
  exact va_ldcS C.1 C.2.1 ho h.2.2.2.2.1 hd (k p l e s m args below meth c dC dI cA adr A n0 H locs L C h hl)
theorem ev_getsC (hw : Cond.fieldLink y.1.cls idx "java/lang/String" "COMPACT_STRINGS" "Z" ∈ gtbl) (hd : decode y.2.1 pc = .ok (.getstatic idx, 3)) (hpc : pc + 3 = pc') (k : Ev d y Q pc' ls (.int 1 :: st) w) : Ev d y Q pc ls st w := by
  subst hpc
  intro p l e s m args below meth c dC dI cA adr A n0 H locs L C h hl
  exact va_gets C.1 C.2.1 h.2.2.2.2.2.2.1 h.2.2.2.1 C.2.2.2.2.1 (C.2.2.2.2.2.1 _ hw) (fun _ h => h) hd (k p l e s m args below meth c dC dI cA adr A n0 H locs L C h hl)
theorem ev_getsF (hw : Cond.fieldLink y.1.cls idx FMT "SIOOBE_FORMATTER" FMTd ∈ gtbl) (hd : decode y.2.1 pc = .ok (.getstatic idx, 3)) (hpc : pc + 3 = pc') (k : ∀ v : Value, (v = .null ∨ v = .ref 997) → Ev d y Q pc' ls (v :: st) w) : Ev d y Q pc ls st w := by
  subst hpc
  intro p l e s m args below meth c dC dI cA adr A n0 H locs L C h hl
  rcases h.2.2.2.2.2.2.2 with hz | hz
  · exact va_gets C.1 C.2.1 hz h.2.2.2.1 C.2.2.2.2.1 (C.2.2.2.2.2.1 _ hw) (fun _ h => h) hd (k .null (Or.inl rfl) p l e s m args below meth c dC dI cA adr A n0 H locs L C h hl)
  · exact va_gets C.1 C.2.1 hz h.2.2.2.1 C.2.2.2.2.1 (C.2.2.2.2.2.1 _ hw) (fun _ h => h) hd (k (.ref 997) (Or.inr rfl) p l e s m args below meth c dC dI cA adr A n0 H locs L C h hl)
theorem ev_getS {n ds : String} {v : Value} (hn : (n = "coder" ∧ ds = "B" ∧ v = .int 0) ∨ (n = "value" ∧ ds = "[B" ∧ v = .ref 998)) (hw : Cond.fieldLink y.1.cls idx "java/lang/String" n ds ∈ gtbl) (hd : decode y.2.1 pc = .ok (.getfield idx, 3)) (hpc : pc + 3 = pc') (k : Ev d y Q pc' ls (v :: st) w) : Ev d y Q pc ls (.ref 999 :: st) w := by
  subst hpc
  intro p l e s m args below meth c dC dI cA adr A n0 H locs L C h hl
  have h1 := h.2.2.2.2.2.1.1 0 (by omega)
  rcases hn with ⟨rfl, rfl, rfl⟩ | ⟨rfl, rfl, rfl⟩
  · exact vk_getf C.1 C.2.1 h1.2.1 h.2.2.2.1 C.2.2.2.2.1 (C.2.2.2.2.2.1 _ hw) (fun _ h => h) hd (k p l e s m args below meth c dC dI cA adr A n0 H locs L C h hl)
  · exact vk_getf C.1 C.2.1 h1.2.2.1 h.2.2.2.1 C.2.2.2.2.1 (C.2.2.2.2.2.1 _ hw) (fun _ h => h) hd (k p l e s m args below meth c dC dI cA adr A n0 H locs L C h hl)
theorem ev_alenS (hd : decode y.2.1 pc = .ok (.arraylength, 1)) (hpc : pc + 1 = pc') (k : Ev d y Q pc' ls (.int 70 :: st) w) : Ev d y Q pc ls (.ref 998 :: st) w := by
  subst hpc
  intro p l e s m args below meth c dC dI cA adr A n0 H locs L C h hl
  have h1 := h.2.2.2.2.2.1.1 0 (by omega)
  exact va_tlen C.1 C.2.1 h1.2.2.2 h.2.2.2.1 (by rfl) hd (k p l e s m args below meth c dC dI cA adr A n0 H locs L C h hl)
theorem ev_baldS {i : Int32} (hi : vp_in i 70) (hd : decode y.2.1 pc = .ok (.baload, 1)) (hpc : pc + 1 = pc') (k : Ev d y Q pc' ls (.int (BYT.getD i.toNatClampNeg 0) :: st) w) : Ev d y Q pc ls (.int i :: .ref 998 :: st) w := by
  subst hpc
  intro p l e s m args below meth c dC dI cA adr A n0 H locs L C h hl
  have h1 := h.2.2.2.2.2.1.1 0 (by omega)
  exact va_tb C.1 C.2.1 h1.2.2.2 h.2.2.2.1 hi rfl hd (k p l e s m args below meth c dC dI cA adr A n0 H locs L C h hl)
end STR
