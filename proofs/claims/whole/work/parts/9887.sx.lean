/-! What the start gives: the text constant, the classes. -/
theorem start_SX {s : State} {b : Nat} (hts : ∀ w ∈ lw_tbl, w.before #[Value.ref b] s = true) (hgv : (Jvm.Cond.and given_1 narrow_1).before #[Value.ref b] s = true) : ∃ adr : Nat → Nat, adr 996 = b ∧ SX adr (fun q => s.heap.size ≤ q) s s.heap := by
  have hA : ∀ a : Nat, a < s.heap.size → ¬ (fun q => s.heap.size ≤ q) a := fun a h => Nat.not_le.mpr h
  have hs := flat_of_before _ hgv
  have hel : ∀ j : Nat, j < 70 → (Cond.eq (.elem (.field (.string "DayTown$Lexer" 71) "java/lang/String" "value" "[B") (.int (Int32.ofNat j))) (.int (BYT.getD j 0))) ∈ flatC (Jvm.Cond.and given_1 narrow_1) := by decide +kernel
  obtain ⟨adK, adV, h1, h2⟩ := vk_Sof (args := #[Value.ref b]) (s := s) (N := 1) (tm := fun _ => .string "DayTown$Lexer" 71) (len := [70]) (byt := [BYT]) (A := fun q => s.heap.size ≤ q)
    (fun i hi => by
      have : i = 0 := by omega
      subst this
      decide)
    (fun i hi => hs _ (by decide +kernel)) (fun i hi => hs _ (by decide +kernel)) (fun i hi => hs _ (by decide +kernel))
    (fun i hi => by
      have : i = 0 := by omega
      subst this
      exact hs _ (by decide +kernel))
    (fun i hi j hj => by
      have : i = 0 := by omega
      subst this
      exact hs _ (hel j hj))
    (fun i j hi hj hne => absurd (show i = j by omega) hne) hA
  have zc := va_Zof (A := fun q => s.heap.size ≤ q) (hts (.laysStatic "java/lang/String" "COMPACT_STRINGS" "Z") (List.mem_append_right _ (List.mem_append_right _ (List.mem_append_left _ (List.mem_of_getElem? (i := 99) rfl))))) (hts (.initialized "java/lang/String") (List.mem_append_right _ (List.mem_append_left _ (List.mem_of_getElem? (i := 10) rfl)))) (va_eqt (hs (Cond.eq (.static "java/lang/String" "COMPACT_STRINGS" "Z") (.int 1)) (by decide +kernel))) hA
  have zf := va_Zqof (A := fun q => s.heap.size ≤ q) (hts (.laysStatic FMT "SIOOBE_FORMATTER" FMTd) (List.mem_append_right _ (List.mem_append_right _ (List.mem_append_left _ (List.mem_of_getElem? (i := 115) rfl))))) (hts (.initialized FMT) (List.mem_append_right _ (List.mem_append_left _ (List.mem_of_getElem? (i := 12) rfl)))) (hs (Cond.isRef (.static FMT "SIOOBE_FORMATTER" FMTd)) (by decide +kernel)) hA
  have hR : vk_R "DayTown$Lexer" 71 TXT (adK 0) s := vk_R.of (hts (.stringRef "DayTown$Lexer" 71 TXT) (List.mem_append_right _ (List.mem_append_right _ (List.mem_append_left _ (List.mem_of_getElem? (i := 89) rfl))))) (h2 0 (by omega))
  have hS : ∀ (f g : Nat → Nat), f 0 = adK 0 → g 0 = adV 0 → vk_S 1 [70] [BYT] f g (fun q => s.heap.size ≤ q) s s.heap := fun f g ef eg => ⟨fun i hi => by
    have : i = 0 := by omega
    subst this
    rw [ef, eg]
    exact h1.1 0 (by omega), fun i j hi hj _ => by omega⟩
  rcases zf with zf | ⟨t, zf⟩
  · exact ⟨fun k => if k = 996 then b else if k = 999 then adK 0 else adV 0, rfl, hR, hS _ _ rfl rfl, zc, Or.inl zf⟩
  · exact ⟨fun k => if k = 996 then b else if k = 999 then adK 0 else if k = 998 then adV 0 else t, rfl, hR, hS _ _ rfl rfl, zc, Or.inr zf⟩
