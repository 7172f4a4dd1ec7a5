/-! The start of both. -/
def st0 : RS
  | 0 => upd (upd (fun _ => 0) 6 (-1)) 10 1
  | 28 => upd (fun _ => 0) 1 17
  | 30 => upd (upd (fun _ => 0) 11 (-1)) 12 (-1)
  | 40 => upd (upd (fun _ => 0) 11 (-1)) 12 (-1)
  | _ => fun _ => 0
def sm0 : RS
  | 0 => upd (upd (fun _ => 0) 17 (-1)) 47 (-1)
  | _ => fun _ => 0
def tm0 : TS
  | 7 => kG14
  | _ => fun _ => 0
def pi0 : List Nat := [0, 9, 1, 2, 3, 4, 5, 6, 7, 8, 10, 11, 12, 13, 14, 15, 16, 17, 18, 19, 20, 21, 22, 23, 24, 25, 26, 29, 27, 28, 34, 35, 36, 37, 38, 39, 40, 41, 42, 43, 44, 45, 46, 47, 48, 49, 50, 51, 52, 53, 30, 31, 32, 33]
def rho0 : Nat → Nat := fun k => if 900 ≤ k then k else if k < 54 then pi0.getD k 0 else k
theorem inv0 : LInv 0 (fun _ _ => 0) (fun _ => 0) [] 0 0 0 10 18 0 0 st0 sm0 tm0 := by
  refine ⟨⟨Or.inl rfl, ⟨Nat.zero_le _, Nat.zero_le _, fun k hk => absurd hk (Nat.not_lt_zero k)⟩, rfl, rfl, fun k hk => absurd hk (Nat.not_lt_zero k), fun p hp => absurd hp (Nat.not_lt_zero p), ⟨rfl, Nat.zero_le _, trivial, fun R hR => absurd hR List.not_mem_nil⟩, rfl, by decide, ⟨fun _ _ => rfl, Or.inl rfl⟩, ⟨fun _ _ => rfl, Or.inl rfl⟩⟩, Or.inl ⟨rfl, rfl⟩, rfl, ⟨⟨rfl, rfl, fun j hj => absurd hj (Nat.not_lt_zero j)⟩, Nat.zero_le _⟩, rfl, ⟨⟨⟨Nat.zero_le _, Nat.zero_le _, fun k hk => absurd hk (Nat.not_lt_zero k)⟩, rfl, rfl, fun k hk => absurd hk (Nat.not_lt_zero k), ⟨Nat.zero_le _, rfl, rfl, Nat.zero_le _, trivial, fun R hR => absurd hR List.not_mem_nil⟩, fun p hp => absurd hp (Nat.not_lt_zero p)⟩, Or.inl rfl⟩, ?_, Nat.le_refl _⟩
  show ∀ w, w < 14 → kG14 w = lN (nvr (kd w))
  decide +kernel
