/-! THE LAW FROM ITS ENTRY. Written by wip/gen/start.py; the rows of the given skeleton stand in it where its own remarks say so. -/
set_option maxRecDepth 100000 in
set_option maxHeartbeats 4000000 in
theorem nw_L_7 : NW RL 7 6 11 [.null, .null, .int 0, .null, .null, .null, .int 0, .int 0, .null, .null, .int 0] := ⟨RX6, TX6, rfl, inG6, ⟨tyX6, tyX6_ok, fun j hj => match j, hj with | 0, _ => rfl | 1, _ => rfl | 2, _ => rfl | 3, _ => rfl | 4, _ => rfl | 5, _ => rfl | 6, _ => rfl | 7, _ => rfl | 8, _ => rfl | 9, _ => rfl | 10, _ => rfl | n + 11, h => absurd h (Nat.not_lt.mpr (Nat.le_add_left 11 n))⟩, gt1 16 (by decide +kernel) rfl, gt1 17 (by decide +kernel) rfl, gt1 1 (by decide +kernel) rfl, fun _ => rfl, fun _ => rfl⟩
set_option maxRecDepth 100000 in
set_option maxHeartbeats 4000000 in
theorem nw_L_10 : NW RL 10 7 67 [.int 0, .null, .int 0, .null, .int 0, .null, .null, .null, .null, .null, .int 0, .int 0, .int 0, .int 0, .int 0, .int 0, .int 0, .int 0, .int 0, .int 0, .null, .null, .null, .null, .null, .null, .null, .null, .null, .null, .null, .null, .int 0, .null, .null, .null, .int 0, .int 0, .null, .int 0, .null, .null, .null, .null, .null, .null, .null, .int 0, .int 0, .null, .null, .null, .null, .null, .null, .null, .null, .null, .null, .int 0, .int 0, .int 0, .null, .null, .null, .null, .null] := ⟨RX7, TX7, rfl, inG7, ⟨tyX7, tyX7_ok, fun j hj => match j, hj with | 0, _ => rfl | 1, _ => rfl | 2, _ => rfl | 3, _ => rfl | 4, _ => rfl | 5, _ => rfl | 6, _ => rfl | 7, _ => rfl | 8, _ => rfl | 9, _ => rfl | 10, _ => rfl | 11, _ => rfl | 12, _ => rfl | 13, _ => rfl | 14, _ => rfl | 15, _ => rfl | 16, _ => rfl | 17, _ => rfl | 18, _ => rfl | 19, _ => rfl | 20, _ => rfl | 21, _ => rfl | 22, _ => rfl | 23, _ => rfl | 24, _ => rfl | 25, _ => rfl | 26, _ => rfl | 27, _ => rfl | 28, _ => rfl | 29, _ => rfl | 30, _ => rfl | 31, _ => rfl | 32, _ => rfl | 33, _ => rfl | 34, _ => rfl | 35, _ => rfl | 36, _ => rfl | 37, _ => rfl | 38, _ => rfl | 39, _ => rfl | 40, _ => rfl | 41, _ => rfl | 42, _ => rfl | 43, _ => rfl | 44, _ => rfl | 45, _ => rfl | 46, _ => rfl | 47, _ => rfl | 48, _ => rfl | 49, _ => rfl | 50, _ => rfl | 51, _ => rfl | 52, _ => rfl | 53, _ => rfl | 54, _ => rfl | 55, _ => rfl | 56, _ => rfl | 57, _ => rfl | 58, _ => rfl | 59, _ => rfl | 60, _ => rfl | 61, _ => rfl | 62, _ => rfl | 63, _ => rfl | 64, _ => rfl | 65, _ => rfl | 66, _ => rfl | n + 67, h => absurd h (Nat.not_lt.mpr (Nat.le_add_left 67 n))⟩, gt4 143 (by decide +kernel) rfl, gt4 144 (by decide +kernel) rfl, gt1 8 (by decide +kernel) rfl, fun _ => rfl, fun _ => rfl⟩
theorem ins_0 : Cond.instantiable RX0 10 ∈ gtbl := gt1 25 (by decide +kernel) rfl
theorem ins_1 : Cond.instantiable RX1 14 ∈ gtbl := gt1 188 (by decide +kernel) rfl
theorem ins_2 : Cond.instantiable RX2 9 ∈ gtbl := gt1 63 (by decide +kernel) rfl
theorem ins_3 : Cond.instantiable RX3 6 ∈ gtbl := gt1 104 (by decide +kernel) rfl
theorem ins_4 : Cond.instantiable RX4 9 ∈ gtbl := gt1 98 (by decide +kernel) rfl
theorem ins_5 : Cond.instantiable RX5 7 ∈ gtbl := gt1 160 (by decide +kernel) rfl
theorem ins_6 : Cond.instantiable RX6 11 ∈ gtbl := gt1 17 (by decide +kernel) rfl
theorem ins_7 : Cond.instantiable RX7 67 ∈ gtbl := gt4 144 (by decide +kernel) rfl
theorem mlI6 : ML M6_init 0 := ⟨gt1 20 rfl rfl, gt1 1 (by decide +kernel) rfl, ⟨by decide +kernel, by decide +kernel⟩, by decide +kernel, by decide⟩
theorem ci_L_9 : CLi RL 9 M6_init 0 := ⟨mlI6, gt1 18 (by decide +kernel) rfl, gt1 19 (by decide +kernel) rfl, rfl, rfl⟩
theorem mlI7 : ML M7_init 0 := ⟨gt4 147 rfl rfl, gt1 8 (by decide +kernel) rfl, ⟨by decide +kernel, by decide +kernel⟩, by decide +kernel, by decide⟩
theorem ci_L_12 : CLi RL 12 M7_init 0 := ⟨mlI7, gt4 145 (by decide +kernel) rfl, gt4 146 (by decide +kernel) rfl, rfl, rfl⟩
