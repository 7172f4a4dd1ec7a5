/-! THE MODEL (class 7): its world, and its smallest methods. Cells: tape 1, text 2, tKind 3, tPlace 4, tValue 5, tName 6, keys 7, rules 8, ruleSort 9, ruleFrom 10, ruleTo 11, relFirst 12, relLast 13, relations 14, relSort 15, relLeft 16, relRight 17, relEnd 18, relOr 19, code 20, codeInt 21, waits 22, lived 23, sort 24, made 25, from 26, to 27, leafOf 28, leafDay 29, about 30, holder 31, given 32, owes 33, why 34, banBy 35, growsBy 36, isFeast 37, isForged 38, variables 39, pile 40, ring 41, row 42, tried 43, named 44, wasVoid 45. Slots of the object: taped 2, size 4, tokens 10, t 11, open 12, fault 13, faultPlace 14, worst 15, worstPlace 16, place 17, live 18, side 19, codes 32, waiting 36, persons 37, facts 39, goneN 47, goneDay 48, ringMany 59, ringWorth 60, ringLeast 61. -/
def WM (σ : Nat → Nat → Int32) (τ : Nat → Nat → Int64) : MW := [.inr (7, [.int (σ 0 0), .ref 1, .int (σ 0 2), .ref 2, .int (σ 0 4), .ref 3, .ref 4, .ref 5, .ref 6, .ref 7, .int (σ 0 10), .int (σ 0 11), .int (σ 0 12), .int (σ 0 13), .int (σ 0 14), .int (σ 0 15), .int (σ 0 16), .int (σ 0 17), .int (σ 0 18), .int (σ 0 19), .ref 8, .ref 9, .ref 10, .ref 11, .ref 12, .ref 13, .ref 14, .ref 15, .ref 16, .ref 17, .ref 18, .ref 19, .int (σ 0 32), .ref 20, .ref 21, .ref 22, .int (σ 0 36), .int (σ 0 37), .ref 23, .int (σ 0 39), .ref 24, .ref 25, .ref 26, .ref 27, .ref 28, .ref 29, .ref 30, .int (σ 0 47), .int (σ 0 48), .ref 31, .ref 32, .ref 33, .ref 34, .ref 35, .ref 36, .ref 37, .ref 38, .ref 39, .ref 40, .int (σ 0 59), .int (σ 0 60), .int (σ 0 61), .ref 41, .ref 42, .ref 43, .ref 44, .ref 45]), .inl (.byte, 2000, .inl (σ 1)), .inl (.byte, 2000, .inl (σ 2)), .inl (.int, 403, .inl (σ 3)), .inl (.int, 403, .inl (σ 4)), .inl (.int, 403, .inl (σ 5)), .inl (.long, 403, .inr (.inl (τ 6))), .inl (.long, 14, .inr (.inl (τ 7))), .inl (.int, 2, .inl (σ 8)), .inl (.int, 32, .inl (σ 9)), .inl (.int, 32, .inl (σ 10)), .inl (.int, 32, .inl (σ 11)), .inl (.int, 32, .inl (σ 12)), .inl (.int, 32, .inl (σ 13)), .inl (.int, 2, .inl (σ 14)), .inl (.int, 400, .inl (σ 15)), .inl (.int, 400, .inl (σ 16)), .inl (.int, 400, .inl (σ 17)), .inl (.int, 400, .inl (σ 18)), .inl (.boolean, 400, .inl (σ 19)), .inl (.int, 1000, .inl (σ 20)), .inl (.int, 1000, .inl (σ 21)), .inl (.int, 48, .inl (σ 22)), .inl (.int, 8, .inl (σ 23)), .inl (.int, 120, .inl (σ 24)), .inl (.int, 120, .inl (σ 25)), .inl (.int, 120, .inl (σ 26)), .inl (.int, 120, .inl (σ 27)), .inl (.int, 120, .inl (σ 28)), .inl (.int, 120, .inl (σ 29)), .inl (.int, 120, .inl (σ 30)), .inl (.int, 3200, .inl (σ 31)), .inl (.int, 3200, .inl (σ 32)), .inl (.int, 64, .inl (σ 33)), .inl (.int, 120, .inl (σ 34)), .inl (.int, 120, .inl (σ 35)), .inl (.int, 120, .inl (σ 36)), .inl (.boolean, 400, .inl (σ 37)), .inl (.boolean, 120, .inl (σ 38)), .inl (.int, 9, .inl (σ 39)), .inl (.int, 500, .inl (σ 40)), .inl (.int, 8, .inl (σ 41)), .inl (.int, 8, .inl (σ 42)), .inl (.int, 8, .inl (σ 43)), .inl (.int, 8, .inl (σ 44)), .inl (.boolean, 120, .inl (σ 45))]
theorem WM_p7_0 (σ : Nat → Nat → Int32) (τ : Nat → Nat → Int64) (v : Int32) : (WM σ τ).set 0 (.inr (7, [.int (σ 0 0), .ref 1, .int (σ 0 2), .ref 2, .int (σ 0 4), .ref 3, .ref 4, .ref 5, .ref 6, .ref 7, .int (σ 0 10), .int (σ 0 11), .int (σ 0 12), .int (σ 0 13), .int (σ 0 14), .int (σ 0 15), .int (σ 0 16), .int (σ 0 17), .int (σ 0 18), .int (σ 0 19), .ref 8, .ref 9, .ref 10, .ref 11, .ref 12, .ref 13, .ref 14, .ref 15, .ref 16, .ref 17, .ref 18, .ref 19, .int (σ 0 32), .ref 20, .ref 21, .ref 22, .int (σ 0 36), .int (σ 0 37), .ref 23, .int (σ 0 39), .ref 24, .ref 25, .ref 26, .ref 27, .ref 28, .ref 29, .ref 30, .int (σ 0 47), .int (σ 0 48), .ref 31, .ref 32, .ref 33, .ref 34, .ref 35, .ref 36, .ref 37, .ref 38, .ref 39, .ref 40, .int (σ 0 59), .int (σ 0 60), .int (σ 0 61), .ref 41, .ref 42, .ref 43, .ref 44, .ref 45].set 0 (.int v))) = WM (s2 σ 0 0 v) τ := rfl
theorem WM_p7_2 (σ : Nat → Nat → Int32) (τ : Nat → Nat → Int64) (v : Int32) : (WM σ τ).set 0 (.inr (7, [.int (σ 0 0), .ref 1, .int (σ 0 2), .ref 2, .int (σ 0 4), .ref 3, .ref 4, .ref 5, .ref 6, .ref 7, .int (σ 0 10), .int (σ 0 11), .int (σ 0 12), .int (σ 0 13), .int (σ 0 14), .int (σ 0 15), .int (σ 0 16), .int (σ 0 17), .int (σ 0 18), .int (σ 0 19), .ref 8, .ref 9, .ref 10, .ref 11, .ref 12, .ref 13, .ref 14, .ref 15, .ref 16, .ref 17, .ref 18, .ref 19, .int (σ 0 32), .ref 20, .ref 21, .ref 22, .int (σ 0 36), .int (σ 0 37), .ref 23, .int (σ 0 39), .ref 24, .ref 25, .ref 26, .ref 27, .ref 28, .ref 29, .ref 30, .int (σ 0 47), .int (σ 0 48), .ref 31, .ref 32, .ref 33, .ref 34, .ref 35, .ref 36, .ref 37, .ref 38, .ref 39, .ref 40, .int (σ 0 59), .int (σ 0 60), .int (σ 0 61), .ref 41, .ref 42, .ref 43, .ref 44, .ref 45].set 2 (.int v))) = WM (s2 σ 0 2 v) τ := rfl
theorem WM_p7_4 (σ : Nat → Nat → Int32) (τ : Nat → Nat → Int64) (v : Int32) : (WM σ τ).set 0 (.inr (7, [.int (σ 0 0), .ref 1, .int (σ 0 2), .ref 2, .int (σ 0 4), .ref 3, .ref 4, .ref 5, .ref 6, .ref 7, .int (σ 0 10), .int (σ 0 11), .int (σ 0 12), .int (σ 0 13), .int (σ 0 14), .int (σ 0 15), .int (σ 0 16), .int (σ 0 17), .int (σ 0 18), .int (σ 0 19), .ref 8, .ref 9, .ref 10, .ref 11, .ref 12, .ref 13, .ref 14, .ref 15, .ref 16, .ref 17, .ref 18, .ref 19, .int (σ 0 32), .ref 20, .ref 21, .ref 22, .int (σ 0 36), .int (σ 0 37), .ref 23, .int (σ 0 39), .ref 24, .ref 25, .ref 26, .ref 27, .ref 28, .ref 29, .ref 30, .int (σ 0 47), .int (σ 0 48), .ref 31, .ref 32, .ref 33, .ref 34, .ref 35, .ref 36, .ref 37, .ref 38, .ref 39, .ref 40, .int (σ 0 59), .int (σ 0 60), .int (σ 0 61), .ref 41, .ref 42, .ref 43, .ref 44, .ref 45].set 4 (.int v))) = WM (s2 σ 0 4 v) τ := rfl
theorem WM_p7_10 (σ : Nat → Nat → Int32) (τ : Nat → Nat → Int64) (v : Int32) : (WM σ τ).set 0 (.inr (7, [.int (σ 0 0), .ref 1, .int (σ 0 2), .ref 2, .int (σ 0 4), .ref 3, .ref 4, .ref 5, .ref 6, .ref 7, .int (σ 0 10), .int (σ 0 11), .int (σ 0 12), .int (σ 0 13), .int (σ 0 14), .int (σ 0 15), .int (σ 0 16), .int (σ 0 17), .int (σ 0 18), .int (σ 0 19), .ref 8, .ref 9, .ref 10, .ref 11, .ref 12, .ref 13, .ref 14, .ref 15, .ref 16, .ref 17, .ref 18, .ref 19, .int (σ 0 32), .ref 20, .ref 21, .ref 22, .int (σ 0 36), .int (σ 0 37), .ref 23, .int (σ 0 39), .ref 24, .ref 25, .ref 26, .ref 27, .ref 28, .ref 29, .ref 30, .int (σ 0 47), .int (σ 0 48), .ref 31, .ref 32, .ref 33, .ref 34, .ref 35, .ref 36, .ref 37, .ref 38, .ref 39, .ref 40, .int (σ 0 59), .int (σ 0 60), .int (σ 0 61), .ref 41, .ref 42, .ref 43, .ref 44, .ref 45].set 10 (.int v))) = WM (s2 σ 0 10 v) τ := rfl
theorem WM_p7_11 (σ : Nat → Nat → Int32) (τ : Nat → Nat → Int64) (v : Int32) : (WM σ τ).set 0 (.inr (7, [.int (σ 0 0), .ref 1, .int (σ 0 2), .ref 2, .int (σ 0 4), .ref 3, .ref 4, .ref 5, .ref 6, .ref 7, .int (σ 0 10), .int (σ 0 11), .int (σ 0 12), .int (σ 0 13), .int (σ 0 14), .int (σ 0 15), .int (σ 0 16), .int (σ 0 17), .int (σ 0 18), .int (σ 0 19), .ref 8, .ref 9, .ref 10, .ref 11, .ref 12, .ref 13, .ref 14, .ref 15, .ref 16, .ref 17, .ref 18, .ref 19, .int (σ 0 32), .ref 20, .ref 21, .ref 22, .int (σ 0 36), .int (σ 0 37), .ref 23, .int (σ 0 39), .ref 24, .ref 25, .ref 26, .ref 27, .ref 28, .ref 29, .ref 30, .int (σ 0 47), .int (σ 0 48), .ref 31, .ref 32, .ref 33, .ref 34, .ref 35, .ref 36, .ref 37, .ref 38, .ref 39, .ref 40, .int (σ 0 59), .int (σ 0 60), .int (σ 0 61), .ref 41, .ref 42, .ref 43, .ref 44, .ref 45].set 11 (.int v))) = WM (s2 σ 0 11 v) τ := rfl
theorem WM_p7_12 (σ : Nat → Nat → Int32) (τ : Nat → Nat → Int64) (v : Int32) : (WM σ τ).set 0 (.inr (7, [.int (σ 0 0), .ref 1, .int (σ 0 2), .ref 2, .int (σ 0 4), .ref 3, .ref 4, .ref 5, .ref 6, .ref 7, .int (σ 0 10), .int (σ 0 11), .int (σ 0 12), .int (σ 0 13), .int (σ 0 14), .int (σ 0 15), .int (σ 0 16), .int (σ 0 17), .int (σ 0 18), .int (σ 0 19), .ref 8, .ref 9, .ref 10, .ref 11, .ref 12, .ref 13, .ref 14, .ref 15, .ref 16, .ref 17, .ref 18, .ref 19, .int (σ 0 32), .ref 20, .ref 21, .ref 22, .int (σ 0 36), .int (σ 0 37), .ref 23, .int (σ 0 39), .ref 24, .ref 25, .ref 26, .ref 27, .ref 28, .ref 29, .ref 30, .int (σ 0 47), .int (σ 0 48), .ref 31, .ref 32, .ref 33, .ref 34, .ref 35, .ref 36, .ref 37, .ref 38, .ref 39, .ref 40, .int (σ 0 59), .int (σ 0 60), .int (σ 0 61), .ref 41, .ref 42, .ref 43, .ref 44, .ref 45].set 12 (.int v))) = WM (s2 σ 0 12 v) τ := rfl
theorem WM_p7_13 (σ : Nat → Nat → Int32) (τ : Nat → Nat → Int64) (v : Int32) : (WM σ τ).set 0 (.inr (7, [.int (σ 0 0), .ref 1, .int (σ 0 2), .ref 2, .int (σ 0 4), .ref 3, .ref 4, .ref 5, .ref 6, .ref 7, .int (σ 0 10), .int (σ 0 11), .int (σ 0 12), .int (σ 0 13), .int (σ 0 14), .int (σ 0 15), .int (σ 0 16), .int (σ 0 17), .int (σ 0 18), .int (σ 0 19), .ref 8, .ref 9, .ref 10, .ref 11, .ref 12, .ref 13, .ref 14, .ref 15, .ref 16, .ref 17, .ref 18, .ref 19, .int (σ 0 32), .ref 20, .ref 21, .ref 22, .int (σ 0 36), .int (σ 0 37), .ref 23, .int (σ 0 39), .ref 24, .ref 25, .ref 26, .ref 27, .ref 28, .ref 29, .ref 30, .int (σ 0 47), .int (σ 0 48), .ref 31, .ref 32, .ref 33, .ref 34, .ref 35, .ref 36, .ref 37, .ref 38, .ref 39, .ref 40, .int (σ 0 59), .int (σ 0 60), .int (σ 0 61), .ref 41, .ref 42, .ref 43, .ref 44, .ref 45].set 13 (.int v))) = WM (s2 σ 0 13 v) τ := rfl
theorem WM_p7_14 (σ : Nat → Nat → Int32) (τ : Nat → Nat → Int64) (v : Int32) : (WM σ τ).set 0 (.inr (7, [.int (σ 0 0), .ref 1, .int (σ 0 2), .ref 2, .int (σ 0 4), .ref 3, .ref 4, .ref 5, .ref 6, .ref 7, .int (σ 0 10), .int (σ 0 11), .int (σ 0 12), .int (σ 0 13), .int (σ 0 14), .int (σ 0 15), .int (σ 0 16), .int (σ 0 17), .int (σ 0 18), .int (σ 0 19), .ref 8, .ref 9, .ref 10, .ref 11, .ref 12, .ref 13, .ref 14, .ref 15, .ref 16, .ref 17, .ref 18, .ref 19, .int (σ 0 32), .ref 20, .ref 21, .ref 22, .int (σ 0 36), .int (σ 0 37), .ref 23, .int (σ 0 39), .ref 24, .ref 25, .ref 26, .ref 27, .ref 28, .ref 29, .ref 30, .int (σ 0 47), .int (σ 0 48), .ref 31, .ref 32, .ref 33, .ref 34, .ref 35, .ref 36, .ref 37, .ref 38, .ref 39, .ref 40, .int (σ 0 59), .int (σ 0 60), .int (σ 0 61), .ref 41, .ref 42, .ref 43, .ref 44, .ref 45].set 14 (.int v))) = WM (s2 σ 0 14 v) τ := rfl
theorem WM_p7_15 (σ : Nat → Nat → Int32) (τ : Nat → Nat → Int64) (v : Int32) : (WM σ τ).set 0 (.inr (7, [.int (σ 0 0), .ref 1, .int (σ 0 2), .ref 2, .int (σ 0 4), .ref 3, .ref 4, .ref 5, .ref 6, .ref 7, .int (σ 0 10), .int (σ 0 11), .int (σ 0 12), .int (σ 0 13), .int (σ 0 14), .int (σ 0 15), .int (σ 0 16), .int (σ 0 17), .int (σ 0 18), .int (σ 0 19), .ref 8, .ref 9, .ref 10, .ref 11, .ref 12, .ref 13, .ref 14, .ref 15, .ref 16, .ref 17, .ref 18, .ref 19, .int (σ 0 32), .ref 20, .ref 21, .ref 22, .int (σ 0 36), .int (σ 0 37), .ref 23, .int (σ 0 39), .ref 24, .ref 25, .ref 26, .ref 27, .ref 28, .ref 29, .ref 30, .int (σ 0 47), .int (σ 0 48), .ref 31, .ref 32, .ref 33, .ref 34, .ref 35, .ref 36, .ref 37, .ref 38, .ref 39, .ref 40, .int (σ 0 59), .int (σ 0 60), .int (σ 0 61), .ref 41, .ref 42, .ref 43, .ref 44, .ref 45].set 15 (.int v))) = WM (s2 σ 0 15 v) τ := rfl
theorem WM_p7_16 (σ : Nat → Nat → Int32) (τ : Nat → Nat → Int64) (v : Int32) : (WM σ τ).set 0 (.inr (7, [.int (σ 0 0), .ref 1, .int (σ 0 2), .ref 2, .int (σ 0 4), .ref 3, .ref 4, .ref 5, .ref 6, .ref 7, .int (σ 0 10), .int (σ 0 11), .int (σ 0 12), .int (σ 0 13), .int (σ 0 14), .int (σ 0 15), .int (σ 0 16), .int (σ 0 17), .int (σ 0 18), .int (σ 0 19), .ref 8, .ref 9, .ref 10, .ref 11, .ref 12, .ref 13, .ref 14, .ref 15, .ref 16, .ref 17, .ref 18, .ref 19, .int (σ 0 32), .ref 20, .ref 21, .ref 22, .int (σ 0 36), .int (σ 0 37), .ref 23, .int (σ 0 39), .ref 24, .ref 25, .ref 26, .ref 27, .ref 28, .ref 29, .ref 30, .int (σ 0 47), .int (σ 0 48), .ref 31, .ref 32, .ref 33, .ref 34, .ref 35, .ref 36, .ref 37, .ref 38, .ref 39, .ref 40, .int (σ 0 59), .int (σ 0 60), .int (σ 0 61), .ref 41, .ref 42, .ref 43, .ref 44, .ref 45].set 16 (.int v))) = WM (s2 σ 0 16 v) τ := rfl
theorem WM_p7_17 (σ : Nat → Nat → Int32) (τ : Nat → Nat → Int64) (v : Int32) : (WM σ τ).set 0 (.inr (7, [.int (σ 0 0), .ref 1, .int (σ 0 2), .ref 2, .int (σ 0 4), .ref 3, .ref 4, .ref 5, .ref 6, .ref 7, .int (σ 0 10), .int (σ 0 11), .int (σ 0 12), .int (σ 0 13), .int (σ 0 14), .int (σ 0 15), .int (σ 0 16), .int (σ 0 17), .int (σ 0 18), .int (σ 0 19), .ref 8, .ref 9, .ref 10, .ref 11, .ref 12, .ref 13, .ref 14, .ref 15, .ref 16, .ref 17, .ref 18, .ref 19, .int (σ 0 32), .ref 20, .ref 21, .ref 22, .int (σ 0 36), .int (σ 0 37), .ref 23, .int (σ 0 39), .ref 24, .ref 25, .ref 26, .ref 27, .ref 28, .ref 29, .ref 30, .int (σ 0 47), .int (σ 0 48), .ref 31, .ref 32, .ref 33, .ref 34, .ref 35, .ref 36, .ref 37, .ref 38, .ref 39, .ref 40, .int (σ 0 59), .int (σ 0 60), .int (σ 0 61), .ref 41, .ref 42, .ref 43, .ref 44, .ref 45].set 17 (.int v))) = WM (s2 σ 0 17 v) τ := rfl
theorem WM_p7_18 (σ : Nat → Nat → Int32) (τ : Nat → Nat → Int64) (v : Int32) : (WM σ τ).set 0 (.inr (7, [.int (σ 0 0), .ref 1, .int (σ 0 2), .ref 2, .int (σ 0 4), .ref 3, .ref 4, .ref 5, .ref 6, .ref 7, .int (σ 0 10), .int (σ 0 11), .int (σ 0 12), .int (σ 0 13), .int (σ 0 14), .int (σ 0 15), .int (σ 0 16), .int (σ 0 17), .int (σ 0 18), .int (σ 0 19), .ref 8, .ref 9, .ref 10, .ref 11, .ref 12, .ref 13, .ref 14, .ref 15, .ref 16, .ref 17, .ref 18, .ref 19, .int (σ 0 32), .ref 20, .ref 21, .ref 22, .int (σ 0 36), .int (σ 0 37), .ref 23, .int (σ 0 39), .ref 24, .ref 25, .ref 26, .ref 27, .ref 28, .ref 29, .ref 30, .int (σ 0 47), .int (σ 0 48), .ref 31, .ref 32, .ref 33, .ref 34, .ref 35, .ref 36, .ref 37, .ref 38, .ref 39, .ref 40, .int (σ 0 59), .int (σ 0 60), .int (σ 0 61), .ref 41, .ref 42, .ref 43, .ref 44, .ref 45].set 18 (.int v))) = WM (s2 σ 0 18 v) τ := rfl
theorem WM_p7_19 (σ : Nat → Nat → Int32) (τ : Nat → Nat → Int64) (v : Int32) : (WM σ τ).set 0 (.inr (7, [.int (σ 0 0), .ref 1, .int (σ 0 2), .ref 2, .int (σ 0 4), .ref 3, .ref 4, .ref 5, .ref 6, .ref 7, .int (σ 0 10), .int (σ 0 11), .int (σ 0 12), .int (σ 0 13), .int (σ 0 14), .int (σ 0 15), .int (σ 0 16), .int (σ 0 17), .int (σ 0 18), .int (σ 0 19), .ref 8, .ref 9, .ref 10, .ref 11, .ref 12, .ref 13, .ref 14, .ref 15, .ref 16, .ref 17, .ref 18, .ref 19, .int (σ 0 32), .ref 20, .ref 21, .ref 22, .int (σ 0 36), .int (σ 0 37), .ref 23, .int (σ 0 39), .ref 24, .ref 25, .ref 26, .ref 27, .ref 28, .ref 29, .ref 30, .int (σ 0 47), .int (σ 0 48), .ref 31, .ref 32, .ref 33, .ref 34, .ref 35, .ref 36, .ref 37, .ref 38, .ref 39, .ref 40, .int (σ 0 59), .int (σ 0 60), .int (σ 0 61), .ref 41, .ref 42, .ref 43, .ref 44, .ref 45].set 19 (.int v))) = WM (s2 σ 0 19 v) τ := rfl
theorem WM_p7_32 (σ : Nat → Nat → Int32) (τ : Nat → Nat → Int64) (v : Int32) : (WM σ τ).set 0 (.inr (7, [.int (σ 0 0), .ref 1, .int (σ 0 2), .ref 2, .int (σ 0 4), .ref 3, .ref 4, .ref 5, .ref 6, .ref 7, .int (σ 0 10), .int (σ 0 11), .int (σ 0 12), .int (σ 0 13), .int (σ 0 14), .int (σ 0 15), .int (σ 0 16), .int (σ 0 17), .int (σ 0 18), .int (σ 0 19), .ref 8, .ref 9, .ref 10, .ref 11, .ref 12, .ref 13, .ref 14, .ref 15, .ref 16, .ref 17, .ref 18, .ref 19, .int (σ 0 32), .ref 20, .ref 21, .ref 22, .int (σ 0 36), .int (σ 0 37), .ref 23, .int (σ 0 39), .ref 24, .ref 25, .ref 26, .ref 27, .ref 28, .ref 29, .ref 30, .int (σ 0 47), .int (σ 0 48), .ref 31, .ref 32, .ref 33, .ref 34, .ref 35, .ref 36, .ref 37, .ref 38, .ref 39, .ref 40, .int (σ 0 59), .int (σ 0 60), .int (σ 0 61), .ref 41, .ref 42, .ref 43, .ref 44, .ref 45].set 32 (.int v))) = WM (s2 σ 0 32 v) τ := rfl
theorem WM_p7_36 (σ : Nat → Nat → Int32) (τ : Nat → Nat → Int64) (v : Int32) : (WM σ τ).set 0 (.inr (7, [.int (σ 0 0), .ref 1, .int (σ 0 2), .ref 2, .int (σ 0 4), .ref 3, .ref 4, .ref 5, .ref 6, .ref 7, .int (σ 0 10), .int (σ 0 11), .int (σ 0 12), .int (σ 0 13), .int (σ 0 14), .int (σ 0 15), .int (σ 0 16), .int (σ 0 17), .int (σ 0 18), .int (σ 0 19), .ref 8, .ref 9, .ref 10, .ref 11, .ref 12, .ref 13, .ref 14, .ref 15, .ref 16, .ref 17, .ref 18, .ref 19, .int (σ 0 32), .ref 20, .ref 21, .ref 22, .int (σ 0 36), .int (σ 0 37), .ref 23, .int (σ 0 39), .ref 24, .ref 25, .ref 26, .ref 27, .ref 28, .ref 29, .ref 30, .int (σ 0 47), .int (σ 0 48), .ref 31, .ref 32, .ref 33, .ref 34, .ref 35, .ref 36, .ref 37, .ref 38, .ref 39, .ref 40, .int (σ 0 59), .int (σ 0 60), .int (σ 0 61), .ref 41, .ref 42, .ref 43, .ref 44, .ref 45].set 36 (.int v))) = WM (s2 σ 0 36 v) τ := rfl
theorem WM_p7_37 (σ : Nat → Nat → Int32) (τ : Nat → Nat → Int64) (v : Int32) : (WM σ τ).set 0 (.inr (7, [.int (σ 0 0), .ref 1, .int (σ 0 2), .ref 2, .int (σ 0 4), .ref 3, .ref 4, .ref 5, .ref 6, .ref 7, .int (σ 0 10), .int (σ 0 11), .int (σ 0 12), .int (σ 0 13), .int (σ 0 14), .int (σ 0 15), .int (σ 0 16), .int (σ 0 17), .int (σ 0 18), .int (σ 0 19), .ref 8, .ref 9, .ref 10, .ref 11, .ref 12, .ref 13, .ref 14, .ref 15, .ref 16, .ref 17, .ref 18, .ref 19, .int (σ 0 32), .ref 20, .ref 21, .ref 22, .int (σ 0 36), .int (σ 0 37), .ref 23, .int (σ 0 39), .ref 24, .ref 25, .ref 26, .ref 27, .ref 28, .ref 29, .ref 30, .int (σ 0 47), .int (σ 0 48), .ref 31, .ref 32, .ref 33, .ref 34, .ref 35, .ref 36, .ref 37, .ref 38, .ref 39, .ref 40, .int (σ 0 59), .int (σ 0 60), .int (σ 0 61), .ref 41, .ref 42, .ref 43, .ref 44, .ref 45].set 37 (.int v))) = WM (s2 σ 0 37 v) τ := rfl
theorem WM_p7_39 (σ : Nat → Nat → Int32) (τ : Nat → Nat → Int64) (v : Int32) : (WM σ τ).set 0 (.inr (7, [.int (σ 0 0), .ref 1, .int (σ 0 2), .ref 2, .int (σ 0 4), .ref 3, .ref 4, .ref 5, .ref 6, .ref 7, .int (σ 0 10), .int (σ 0 11), .int (σ 0 12), .int (σ 0 13), .int (σ 0 14), .int (σ 0 15), .int (σ 0 16), .int (σ 0 17), .int (σ 0 18), .int (σ 0 19), .ref 8, .ref 9, .ref 10, .ref 11, .ref 12, .ref 13, .ref 14, .ref 15, .ref 16, .ref 17, .ref 18, .ref 19, .int (σ 0 32), .ref 20, .ref 21, .ref 22, .int (σ 0 36), .int (σ 0 37), .ref 23, .int (σ 0 39), .ref 24, .ref 25, .ref 26, .ref 27, .ref 28, .ref 29, .ref 30, .int (σ 0 47), .int (σ 0 48), .ref 31, .ref 32, .ref 33, .ref 34, .ref 35, .ref 36, .ref 37, .ref 38, .ref 39, .ref 40, .int (σ 0 59), .int (σ 0 60), .int (σ 0 61), .ref 41, .ref 42, .ref 43, .ref 44, .ref 45].set 39 (.int v))) = WM (s2 σ 0 39 v) τ := rfl
theorem WM_p7_47 (σ : Nat → Nat → Int32) (τ : Nat → Nat → Int64) (v : Int32) : (WM σ τ).set 0 (.inr (7, [.int (σ 0 0), .ref 1, .int (σ 0 2), .ref 2, .int (σ 0 4), .ref 3, .ref 4, .ref 5, .ref 6, .ref 7, .int (σ 0 10), .int (σ 0 11), .int (σ 0 12), .int (σ 0 13), .int (σ 0 14), .int (σ 0 15), .int (σ 0 16), .int (σ 0 17), .int (σ 0 18), .int (σ 0 19), .ref 8, .ref 9, .ref 10, .ref 11, .ref 12, .ref 13, .ref 14, .ref 15, .ref 16, .ref 17, .ref 18, .ref 19, .int (σ 0 32), .ref 20, .ref 21, .ref 22, .int (σ 0 36), .int (σ 0 37), .ref 23, .int (σ 0 39), .ref 24, .ref 25, .ref 26, .ref 27, .ref 28, .ref 29, .ref 30, .int (σ 0 47), .int (σ 0 48), .ref 31, .ref 32, .ref 33, .ref 34, .ref 35, .ref 36, .ref 37, .ref 38, .ref 39, .ref 40, .int (σ 0 59), .int (σ 0 60), .int (σ 0 61), .ref 41, .ref 42, .ref 43, .ref 44, .ref 45].set 47 (.int v))) = WM (s2 σ 0 47 v) τ := rfl
theorem WM_p7_48 (σ : Nat → Nat → Int32) (τ : Nat → Nat → Int64) (v : Int32) : (WM σ τ).set 0 (.inr (7, [.int (σ 0 0), .ref 1, .int (σ 0 2), .ref 2, .int (σ 0 4), .ref 3, .ref 4, .ref 5, .ref 6, .ref 7, .int (σ 0 10), .int (σ 0 11), .int (σ 0 12), .int (σ 0 13), .int (σ 0 14), .int (σ 0 15), .int (σ 0 16), .int (σ 0 17), .int (σ 0 18), .int (σ 0 19), .ref 8, .ref 9, .ref 10, .ref 11, .ref 12, .ref 13, .ref 14, .ref 15, .ref 16, .ref 17, .ref 18, .ref 19, .int (σ 0 32), .ref 20, .ref 21, .ref 22, .int (σ 0 36), .int (σ 0 37), .ref 23, .int (σ 0 39), .ref 24, .ref 25, .ref 26, .ref 27, .ref 28, .ref 29, .ref 30, .int (σ 0 47), .int (σ 0 48), .ref 31, .ref 32, .ref 33, .ref 34, .ref 35, .ref 36, .ref 37, .ref 38, .ref 39, .ref 40, .int (σ 0 59), .int (σ 0 60), .int (σ 0 61), .ref 41, .ref 42, .ref 43, .ref 44, .ref 45].set 48 (.int v))) = WM (s2 σ 0 48 v) τ := rfl
theorem WM_p7_59 (σ : Nat → Nat → Int32) (τ : Nat → Nat → Int64) (v : Int32) : (WM σ τ).set 0 (.inr (7, [.int (σ 0 0), .ref 1, .int (σ 0 2), .ref 2, .int (σ 0 4), .ref 3, .ref 4, .ref 5, .ref 6, .ref 7, .int (σ 0 10), .int (σ 0 11), .int (σ 0 12), .int (σ 0 13), .int (σ 0 14), .int (σ 0 15), .int (σ 0 16), .int (σ 0 17), .int (σ 0 18), .int (σ 0 19), .ref 8, .ref 9, .ref 10, .ref 11, .ref 12, .ref 13, .ref 14, .ref 15, .ref 16, .ref 17, .ref 18, .ref 19, .int (σ 0 32), .ref 20, .ref 21, .ref 22, .int (σ 0 36), .int (σ 0 37), .ref 23, .int (σ 0 39), .ref 24, .ref 25, .ref 26, .ref 27, .ref 28, .ref 29, .ref 30, .int (σ 0 47), .int (σ 0 48), .ref 31, .ref 32, .ref 33, .ref 34, .ref 35, .ref 36, .ref 37, .ref 38, .ref 39, .ref 40, .int (σ 0 59), .int (σ 0 60), .int (σ 0 61), .ref 41, .ref 42, .ref 43, .ref 44, .ref 45].set 59 (.int v))) = WM (s2 σ 0 59 v) τ := rfl
theorem WM_p7_60 (σ : Nat → Nat → Int32) (τ : Nat → Nat → Int64) (v : Int32) : (WM σ τ).set 0 (.inr (7, [.int (σ 0 0), .ref 1, .int (σ 0 2), .ref 2, .int (σ 0 4), .ref 3, .ref 4, .ref 5, .ref 6, .ref 7, .int (σ 0 10), .int (σ 0 11), .int (σ 0 12), .int (σ 0 13), .int (σ 0 14), .int (σ 0 15), .int (σ 0 16), .int (σ 0 17), .int (σ 0 18), .int (σ 0 19), .ref 8, .ref 9, .ref 10, .ref 11, .ref 12, .ref 13, .ref 14, .ref 15, .ref 16, .ref 17, .ref 18, .ref 19, .int (σ 0 32), .ref 20, .ref 21, .ref 22, .int (σ 0 36), .int (σ 0 37), .ref 23, .int (σ 0 39), .ref 24, .ref 25, .ref 26, .ref 27, .ref 28, .ref 29, .ref 30, .int (σ 0 47), .int (σ 0 48), .ref 31, .ref 32, .ref 33, .ref 34, .ref 35, .ref 36, .ref 37, .ref 38, .ref 39, .ref 40, .int (σ 0 59), .int (σ 0 60), .int (σ 0 61), .ref 41, .ref 42, .ref 43, .ref 44, .ref 45].set 60 (.int v))) = WM (s2 σ 0 60 v) τ := rfl
theorem WM_p7_61 (σ : Nat → Nat → Int32) (τ : Nat → Nat → Int64) (v : Int32) : (WM σ τ).set 0 (.inr (7, [.int (σ 0 0), .ref 1, .int (σ 0 2), .ref 2, .int (σ 0 4), .ref 3, .ref 4, .ref 5, .ref 6, .ref 7, .int (σ 0 10), .int (σ 0 11), .int (σ 0 12), .int (σ 0 13), .int (σ 0 14), .int (σ 0 15), .int (σ 0 16), .int (σ 0 17), .int (σ 0 18), .int (σ 0 19), .ref 8, .ref 9, .ref 10, .ref 11, .ref 12, .ref 13, .ref 14, .ref 15, .ref 16, .ref 17, .ref 18, .ref 19, .int (σ 0 32), .ref 20, .ref 21, .ref 22, .int (σ 0 36), .int (σ 0 37), .ref 23, .int (σ 0 39), .ref 24, .ref 25, .ref 26, .ref 27, .ref 28, .ref 29, .ref 30, .int (σ 0 47), .int (σ 0 48), .ref 31, .ref 32, .ref 33, .ref 34, .ref 35, .ref 36, .ref 37, .ref 38, .ref 39, .ref 40, .int (σ 0 59), .int (σ 0 60), .int (σ 0 61), .ref 41, .ref 42, .ref 43, .ref 44, .ref 45].set 61 (.int v))) = WM (s2 σ 0 61 v) τ := rfl
theorem WM_a1 (σ : Nat → Nat → Int32) (τ : Nat → Nat → Int64) (g_ : Nat → Int32) : (WM σ τ).set 1 (.inl (.byte, 2000, .inl g_)) = WM (s1 σ 1 g_) τ := rfl
theorem WM_a2 (σ : Nat → Nat → Int32) (τ : Nat → Nat → Int64) (g_ : Nat → Int32) : (WM σ τ).set 2 (.inl (.byte, 2000, .inl g_)) = WM (s1 σ 2 g_) τ := rfl
theorem WM_a3 (σ : Nat → Nat → Int32) (τ : Nat → Nat → Int64) (g_ : Nat → Int32) : (WM σ τ).set 3 (.inl (.int, 403, .inl g_)) = WM (s1 σ 3 g_) τ := rfl
theorem WM_a4 (σ : Nat → Nat → Int32) (τ : Nat → Nat → Int64) (g_ : Nat → Int32) : (WM σ τ).set 4 (.inl (.int, 403, .inl g_)) = WM (s1 σ 4 g_) τ := rfl
theorem WM_a5 (σ : Nat → Nat → Int32) (τ : Nat → Nat → Int64) (g_ : Nat → Int32) : (WM σ τ).set 5 (.inl (.int, 403, .inl g_)) = WM (s1 σ 5 g_) τ := rfl
theorem WM_a6 (σ : Nat → Nat → Int32) (τ : Nat → Nat → Int64) (g_ : Nat → Int64) : (WM σ τ).set 6 (.inl (.long, 403, .inr (.inl g_))) = WM σ (l1 τ 6 g_) := rfl
theorem WM_a7 (σ : Nat → Nat → Int32) (τ : Nat → Nat → Int64) (g_ : Nat → Int64) : (WM σ τ).set 7 (.inl (.long, 14, .inr (.inl g_))) = WM σ (l1 τ 7 g_) := rfl
theorem WM_a8 (σ : Nat → Nat → Int32) (τ : Nat → Nat → Int64) (g_ : Nat → Int32) : (WM σ τ).set 8 (.inl (.int, 2, .inl g_)) = WM (s1 σ 8 g_) τ := rfl
theorem WM_a9 (σ : Nat → Nat → Int32) (τ : Nat → Nat → Int64) (g_ : Nat → Int32) : (WM σ τ).set 9 (.inl (.int, 32, .inl g_)) = WM (s1 σ 9 g_) τ := rfl
theorem WM_a10 (σ : Nat → Nat → Int32) (τ : Nat → Nat → Int64) (g_ : Nat → Int32) : (WM σ τ).set 10 (.inl (.int, 32, .inl g_)) = WM (s1 σ 10 g_) τ := rfl
theorem WM_a11 (σ : Nat → Nat → Int32) (τ : Nat → Nat → Int64) (g_ : Nat → Int32) : (WM σ τ).set 11 (.inl (.int, 32, .inl g_)) = WM (s1 σ 11 g_) τ := rfl
theorem WM_a12 (σ : Nat → Nat → Int32) (τ : Nat → Nat → Int64) (g_ : Nat → Int32) : (WM σ τ).set 12 (.inl (.int, 32, .inl g_)) = WM (s1 σ 12 g_) τ := rfl
theorem WM_a13 (σ : Nat → Nat → Int32) (τ : Nat → Nat → Int64) (g_ : Nat → Int32) : (WM σ τ).set 13 (.inl (.int, 32, .inl g_)) = WM (s1 σ 13 g_) τ := rfl
theorem WM_a14 (σ : Nat → Nat → Int32) (τ : Nat → Nat → Int64) (g_ : Nat → Int32) : (WM σ τ).set 14 (.inl (.int, 2, .inl g_)) = WM (s1 σ 14 g_) τ := rfl
theorem WM_a15 (σ : Nat → Nat → Int32) (τ : Nat → Nat → Int64) (g_ : Nat → Int32) : (WM σ τ).set 15 (.inl (.int, 400, .inl g_)) = WM (s1 σ 15 g_) τ := rfl
theorem WM_a16 (σ : Nat → Nat → Int32) (τ : Nat → Nat → Int64) (g_ : Nat → Int32) : (WM σ τ).set 16 (.inl (.int, 400, .inl g_)) = WM (s1 σ 16 g_) τ := rfl
theorem WM_a17 (σ : Nat → Nat → Int32) (τ : Nat → Nat → Int64) (g_ : Nat → Int32) : (WM σ τ).set 17 (.inl (.int, 400, .inl g_)) = WM (s1 σ 17 g_) τ := rfl
theorem WM_a18 (σ : Nat → Nat → Int32) (τ : Nat → Nat → Int64) (g_ : Nat → Int32) : (WM σ τ).set 18 (.inl (.int, 400, .inl g_)) = WM (s1 σ 18 g_) τ := rfl
theorem WM_a19 (σ : Nat → Nat → Int32) (τ : Nat → Nat → Int64) (g_ : Nat → Int32) : (WM σ τ).set 19 (.inl (.boolean, 400, .inl g_)) = WM (s1 σ 19 g_) τ := rfl
theorem WM_a20 (σ : Nat → Nat → Int32) (τ : Nat → Nat → Int64) (g_ : Nat → Int32) : (WM σ τ).set 20 (.inl (.int, 1000, .inl g_)) = WM (s1 σ 20 g_) τ := rfl
theorem WM_a21 (σ : Nat → Nat → Int32) (τ : Nat → Nat → Int64) (g_ : Nat → Int32) : (WM σ τ).set 21 (.inl (.int, 1000, .inl g_)) = WM (s1 σ 21 g_) τ := rfl
theorem WM_a22 (σ : Nat → Nat → Int32) (τ : Nat → Nat → Int64) (g_ : Nat → Int32) : (WM σ τ).set 22 (.inl (.int, 48, .inl g_)) = WM (s1 σ 22 g_) τ := rfl
theorem WM_a23 (σ : Nat → Nat → Int32) (τ : Nat → Nat → Int64) (g_ : Nat → Int32) : (WM σ τ).set 23 (.inl (.int, 8, .inl g_)) = WM (s1 σ 23 g_) τ := rfl
theorem WM_a24 (σ : Nat → Nat → Int32) (τ : Nat → Nat → Int64) (g_ : Nat → Int32) : (WM σ τ).set 24 (.inl (.int, 120, .inl g_)) = WM (s1 σ 24 g_) τ := rfl
theorem WM_a25 (σ : Nat → Nat → Int32) (τ : Nat → Nat → Int64) (g_ : Nat → Int32) : (WM σ τ).set 25 (.inl (.int, 120, .inl g_)) = WM (s1 σ 25 g_) τ := rfl
theorem WM_a26 (σ : Nat → Nat → Int32) (τ : Nat → Nat → Int64) (g_ : Nat → Int32) : (WM σ τ).set 26 (.inl (.int, 120, .inl g_)) = WM (s1 σ 26 g_) τ := rfl
theorem WM_a27 (σ : Nat → Nat → Int32) (τ : Nat → Nat → Int64) (g_ : Nat → Int32) : (WM σ τ).set 27 (.inl (.int, 120, .inl g_)) = WM (s1 σ 27 g_) τ := rfl
theorem WM_a28 (σ : Nat → Nat → Int32) (τ : Nat → Nat → Int64) (g_ : Nat → Int32) : (WM σ τ).set 28 (.inl (.int, 120, .inl g_)) = WM (s1 σ 28 g_) τ := rfl
theorem WM_a29 (σ : Nat → Nat → Int32) (τ : Nat → Nat → Int64) (g_ : Nat → Int32) : (WM σ τ).set 29 (.inl (.int, 120, .inl g_)) = WM (s1 σ 29 g_) τ := rfl
theorem WM_a30 (σ : Nat → Nat → Int32) (τ : Nat → Nat → Int64) (g_ : Nat → Int32) : (WM σ τ).set 30 (.inl (.int, 120, .inl g_)) = WM (s1 σ 30 g_) τ := rfl
theorem WM_a31 (σ : Nat → Nat → Int32) (τ : Nat → Nat → Int64) (g_ : Nat → Int32) : (WM σ τ).set 31 (.inl (.int, 3200, .inl g_)) = WM (s1 σ 31 g_) τ := rfl
theorem WM_a32 (σ : Nat → Nat → Int32) (τ : Nat → Nat → Int64) (g_ : Nat → Int32) : (WM σ τ).set 32 (.inl (.int, 3200, .inl g_)) = WM (s1 σ 32 g_) τ := rfl
theorem WM_a33 (σ : Nat → Nat → Int32) (τ : Nat → Nat → Int64) (g_ : Nat → Int32) : (WM σ τ).set 33 (.inl (.int, 64, .inl g_)) = WM (s1 σ 33 g_) τ := rfl
theorem WM_a34 (σ : Nat → Nat → Int32) (τ : Nat → Nat → Int64) (g_ : Nat → Int32) : (WM σ τ).set 34 (.inl (.int, 120, .inl g_)) = WM (s1 σ 34 g_) τ := rfl
theorem WM_a35 (σ : Nat → Nat → Int32) (τ : Nat → Nat → Int64) (g_ : Nat → Int32) : (WM σ τ).set 35 (.inl (.int, 120, .inl g_)) = WM (s1 σ 35 g_) τ := rfl
theorem WM_a36 (σ : Nat → Nat → Int32) (τ : Nat → Nat → Int64) (g_ : Nat → Int32) : (WM σ τ).set 36 (.inl (.int, 120, .inl g_)) = WM (s1 σ 36 g_) τ := rfl
theorem WM_a37 (σ : Nat → Nat → Int32) (τ : Nat → Nat → Int64) (g_ : Nat → Int32) : (WM σ τ).set 37 (.inl (.boolean, 400, .inl g_)) = WM (s1 σ 37 g_) τ := rfl
theorem WM_a38 (σ : Nat → Nat → Int32) (τ : Nat → Nat → Int64) (g_ : Nat → Int32) : (WM σ τ).set 38 (.inl (.boolean, 120, .inl g_)) = WM (s1 σ 38 g_) τ := rfl
theorem WM_a39 (σ : Nat → Nat → Int32) (τ : Nat → Nat → Int64) (g_ : Nat → Int32) : (WM σ τ).set 39 (.inl (.int, 9, .inl g_)) = WM (s1 σ 39 g_) τ := rfl
theorem WM_a40 (σ : Nat → Nat → Int32) (τ : Nat → Nat → Int64) (g_ : Nat → Int32) : (WM σ τ).set 40 (.inl (.int, 500, .inl g_)) = WM (s1 σ 40 g_) τ := rfl
theorem WM_a41 (σ : Nat → Nat → Int32) (τ : Nat → Nat → Int64) (g_ : Nat → Int32) : (WM σ τ).set 41 (.inl (.int, 8, .inl g_)) = WM (s1 σ 41 g_) τ := rfl
theorem WM_a42 (σ : Nat → Nat → Int32) (τ : Nat → Nat → Int64) (g_ : Nat → Int32) : (WM σ τ).set 42 (.inl (.int, 8, .inl g_)) = WM (s1 σ 42 g_) τ := rfl
theorem WM_a43 (σ : Nat → Nat → Int32) (τ : Nat → Nat → Int64) (g_ : Nat → Int32) : (WM σ τ).set 43 (.inl (.int, 8, .inl g_)) = WM (s1 σ 43 g_) τ := rfl
theorem WM_a44 (σ : Nat → Nat → Int32) (τ : Nat → Nat → Int64) (g_ : Nat → Int32) : (WM σ τ).set 44 (.inl (.int, 8, .inl g_)) = WM (s1 σ 44 g_) τ := rfl
theorem WM_a45 (σ : Nat → Nat → Int32) (τ : Nat → Nat → Int64) (g_ : Nat → Int32) : (WM σ τ).set 45 (.inl (.boolean, 120, .inl g_)) = WM (s1 σ 45 g_) τ := rfl
abbrev TS : Type := Nat → Nat → Int64
theorem m_isDigit {d : Nat} (w : MW) (c : Int32) : Ok d M7_isDigit [.int c] w (rt (some (.int (bI (x_digit c)))) w) := by
  refine Ok.of (ls := [some _]) (by decide +kernel) (Nat.le_of_ble_eq_true rfl) rfl ?_
  refine ev_iload_n (pc' := 1) dX7_isDigit_0 rfl rfl ?_
  refine ev_bipush (pc' := 3) (v := 48) dX7_isDigit_1 rfl (by decide) ?_
  refine ev_icmp_lt (tgt := 16) (pc' := 6) dX7_isDigit_3 (by decide) rfl (fun h_3 => ?_) (fun h_3 => ?_)
  · refine ev_iconst (pc' := 17) (v := 0) dX7_isDigit_16 rfl (by decide) ?_
    refine ev_zreturn rfl rfl dX7_isDigit_17 ?_
    refine rt_i ?_ rfl
    unfold x_digit
    simp only [fa_lt, fa_le, Int32.reduceToInt] at *
    first | (rw [decide_eq_true (by omega)]; rfl) | (rw [decide_eq_false (by omega)]; rfl)
  · refine ev_iload_n (pc' := 7) dX7_isDigit_6 rfl rfl ?_
    refine ev_bipush (pc' := 9) (v := 57) dX7_isDigit_7 rfl (by decide) ?_
    refine ev_icmp_gt (tgt := 16) (pc' := 12) dX7_isDigit_9 (by decide) rfl (fun h_9 => ?_) (fun h_9 => ?_)
    · refine ev_iconst (pc' := 17) (v := 0) dX7_isDigit_16 rfl (by decide) ?_
      refine ev_zreturn rfl rfl dX7_isDigit_17 ?_
      refine rt_i ?_ rfl
      unfold x_digit
      simp only [fa_lt, fa_le, Int32.reduceToInt] at *
      first | (rw [decide_eq_true (by omega)]; rfl) | (rw [decide_eq_false (by omega)]; rfl)
    · refine ev_iconst (pc' := 13) (v := 1) dX7_isDigit_12 rfl (by decide) ?_
      refine ev_goto (tgt := 17) dX7_isDigit_13 (by decide) ?_
      refine ev_zreturn rfl rfl dX7_isDigit_17 ?_
      refine rt_i ?_ rfl
      unfold x_digit
      simp only [fa_lt, fa_le, Int32.reduceToInt] at *
      first | (rw [decide_eq_true (by omega)]; rfl) | (rw [decide_eq_false (by omega)]; rfl)
theorem m_isLetter {d : Nat} (w : MW) (c : Int32) : Ok d M7_isLetter [.int c] w (rt (some (.int (bI (x_letter c)))) w) := by
  refine Ok.of (ls := [some _]) (by decide +kernel) (Nat.le_of_ble_eq_true rfl) rfl ?_
  refine ev_iload_n (pc' := 1) dX7_isLetter_0 rfl rfl ?_
  refine ev_bipush (pc' := 3) (v := 97) dX7_isLetter_1 rfl (by decide) ?_
  refine ev_icmp_lt (tgt := 16) (pc' := 6) dX7_isLetter_3 (by decide) rfl (fun h_3 => ?_) (fun h_3 => ?_)
  · refine ev_iconst (pc' := 17) (v := 0) dX7_isLetter_16 rfl (by decide) ?_
    refine ev_zreturn rfl rfl dX7_isLetter_17 ?_
    refine rt_i ?_ rfl
    unfold x_letter
    simp only [fa_lt, fa_le, Int32.reduceToInt] at *
    first | (rw [decide_eq_true (by omega)]; rfl) | (rw [decide_eq_false (by omega)]; rfl)
  · refine ev_iload_n (pc' := 7) dX7_isLetter_6 rfl rfl ?_
    refine ev_bipush (pc' := 9) (v := 122) dX7_isLetter_7 rfl (by decide) ?_
    refine ev_icmp_gt (tgt := 16) (pc' := 12) dX7_isLetter_9 (by decide) rfl (fun h_9 => ?_) (fun h_9 => ?_)
    · refine ev_iconst (pc' := 17) (v := 0) dX7_isLetter_16 rfl (by decide) ?_
      refine ev_zreturn rfl rfl dX7_isLetter_17 ?_
      refine rt_i ?_ rfl
      unfold x_letter
      simp only [fa_lt, fa_le, Int32.reduceToInt] at *
      first | (rw [decide_eq_true (by omega)]; rfl) | (rw [decide_eq_false (by omega)]; rfl)
    · refine ev_iconst (pc' := 13) (v := 1) dX7_isLetter_12 rfl (by decide) ?_
      refine ev_goto (tgt := 17) dX7_isLetter_13 (by decide) ?_
      refine ev_zreturn rfl rfl dX7_isLetter_17 ?_
      refine rt_i ?_ rfl
      unfold x_letter
      simp only [fa_lt, fa_le, Int32.reduceToInt] at *
      first | (rw [decide_eq_true (by omega)]; rfl) | (rw [decide_eq_false (by omega)]; rfl)
def m_more' (n : Int64) (c : Int32) : Int64 := if c = 0 then n else 27 * n + (c - 97 + 1).toInt64
theorem m_more {d : Nat} (w : MW) (n : Int64) (c : Int32) : Ok d M7_more [.long n, .int c] w (rt (some (.long (m_more' n c))) w) := by
  refine Ok.of (ls := [some _, none, some _]) (by decide +kernel) (Nat.le_of_ble_eq_true rfl) rfl ?_
  refine ev_iload_n (pc' := 1) dX7_more_0 rfl rfl ?_
  refine ev_if_ne (tgt := 8) (pc' := 4) dX7_more_1 (by decide) rfl (fun h_1 => ?_) (fun h_1 => ?_)
  · have e : m_more' n c = _ := if_neg h_1
    refine ev_ldc2_w (pc' := 11) cn_7_172 dX7_more_8 rfl ?_
    refine ev_lload_n (pc' := 12) dX7_more_11 rfl rfl ?_
    refine ev_lmul (pc' := 13) dX7_more_12 rfl ?_
    refine ev_iload_n (pc' := 14) dX7_more_13 rfl rfl ?_
    refine ev_bipush (pc' := 16) (v := 97) dX7_more_14 rfl (by decide) ?_
    refine ev_isub (pc' := 17) dX7_more_16 rfl ?_
    refine ev_iconst (pc' := 18) (v := 1) dX7_more_17 rfl (by decide) ?_
    refine ev_iadd (pc' := 19) dX7_more_18 rfl ?_
    refine ev_i2l (pc' := 20) dX7_more_19 rfl ?_
    refine ev_ladd (pc' := 21) dX7_more_20 rfl ?_
    refine ev_lreturn rfl dX7_more_21 ?_
    rw [e]
    exact ⟨rfl, rfl⟩
  · have e : m_more' n c = n := if_pos h_1
    refine ev_lload_n (pc' := 5) dX7_more_4 rfl rfl ?_
    refine ev_goto (tgt := 21) dX7_more_5 (by decide) ?_
    refine ev_lreturn rfl dX7_more_21 ?_
    rw [e]
    exact ⟨rfl, rfl⟩
theorem m_word {d : Nat} (w : MW) (a b c e f g h : Int32) : Ok (d + 1) M7_word [.int a, .int b, .int c, .int e, .int f, .int g, .int h] w (rt (some (.long (m_more' (m_more' (m_more' (m_more' (m_more' (m_more' (m_more' 0 a) b) c) e) f) g) h))) w) := by
  refine Ok.of (ls := [some _, some _, some _, some _, some _, some _, some _]) (by decide +kernel) (Nat.le_of_ble_eq_true rfl) rfl ?_
  refine ev_lconst (pc' := 1) (v := 0) dX7_word_0 rfl rfl ?_
  refine ev_iload_n (pc' := 2) dX7_word_1 rfl rfl ?_
  refine ev_cSi2 (pc' := 5) cl_7_174 (m_more _ _ _) dX7_word_2 rfl rfl ?_
  refine ev_iload_n (pc' := 6) dX7_word_5 rfl rfl ?_
  refine ev_cSi2 (pc' := 9) cl_7_174 (m_more _ _ _) dX7_word_6 rfl rfl ?_
  refine ev_iload_n (pc' := 10) dX7_word_9 rfl rfl ?_
  refine ev_cSi2 (pc' := 13) cl_7_174 (m_more _ _ _) dX7_word_10 rfl rfl ?_
  refine ev_iload_n (pc' := 14) dX7_word_13 rfl rfl ?_
  refine ev_cSi2 (pc' := 17) cl_7_174 (m_more _ _ _) dX7_word_14 rfl rfl ?_
  refine ev_iload (pc' := 19) dX7_word_17 rfl rfl ?_
  refine ev_cSi2 (pc' := 22) cl_7_174 (m_more _ _ _) dX7_word_19 rfl rfl ?_
  refine ev_iload (pc' := 24) dX7_word_22 rfl rfl ?_
  refine ev_cSi2 (pc' := 27) cl_7_174 (m_more _ _ _) dX7_word_24 rfl rfl ?_
  refine ev_iload (pc' := 29) dX7_word_27 rfl rfl ?_
  refine ev_cSi2 (pc' := 32) cl_7_174 (m_more _ _ _) dX7_word_29 rfl rfl ?_
  refine ev_lreturn rfl dX7_word_32 ?_
  exact ⟨rfl, rfl⟩
theorem m_place {d : Nat} (σ : RS) (τ : TS) : Ok d M7_place [.ref 0] (WM σ τ) (rt (some (.int (σ 0 17))) (WM σ τ)) := by
  refine Ok.of (ls := [some _]) (by decide +kernel) (Nat.le_of_ble_eq_true rfl) rfl ?_
  refine ev_aload_n (pc' := 1) dX7_place_0 rfl rfl ?_
  refine ev_getf (pc' := 4) fl_7_37 dX7_place_1 rfl rfl rfl ?_
  refine ev_ireturn rfl dX7_place_4 ?_
  exact ⟨rfl, rfl⟩
theorem m_back {d : Nat} (σ : RS) (τ : TS) (n : Int32) : Ok d M7_back [.ref 0, .int n] (WM σ τ) (if n < 0 ∨ σ 0 2 < n then rt (some (.int (-1))) (WM σ τ) else rt (some (.int (σ 0 2 - n))) (WM (s2 σ 0 2 (σ 0 2 - n)) τ)) := by
  refine Ok.of (ls := [some _, some _]) (by decide +kernel) (Nat.le_of_ble_eq_true rfl) rfl ?_
  refine ev_iload_n (pc' := 1) dX7_back_0 rfl rfl ?_
  refine ev_if_lt (tgt := 12) (pc' := 4) dX7_back_1 (by decide) rfl (fun h_1 => ?_) (fun h_1 => ?_)
  · refine ev_iconst (pc' := 13) (v := -1) dX7_back_12 rfl (by decide) ?_
    refine ev_ireturn rfl dX7_back_13 ?_
    first
      | (rw [if_pos (by simp only [fa_lt, fa_le] at *; omega)]; exact ⟨rfl, rfl⟩)
      | (rw [if_neg (by simp only [fa_lt, fa_le] at *; omega)]; exact ⟨rfl, rfl⟩)
  · refine ev_iload_n (pc' := 5) dX7_back_4 rfl rfl ?_
    refine ev_aload_n (pc' := 6) dX7_back_5 rfl rfl ?_
    refine ev_getf (pc' := 9) fl_7_162 dX7_back_6 rfl rfl rfl ?_
    refine ev_icmp_le (tgt := 14) (pc' := 12) dX7_back_9 (by decide) rfl (fun h_9 => ?_) (fun h_9 => ?_)
    · refine ev_aload_n (pc' := 15) dX7_back_14 rfl rfl ?_
      refine ev_dup (pc' := 16) dX7_back_15 rfl rfl ?_
      refine ev_getf (pc' := 19) fl_7_162 dX7_back_16 rfl rfl rfl ?_
      refine ev_iload_n (pc' := 20) dX7_back_19 rfl rfl ?_
      refine ev_isub (pc' := 21) dX7_back_20 rfl ?_
      refine ev_putf (pc' := 24) fs_7_162 dX7_back_21 rfl rfl (Nat.le_of_ble_eq_true rfl) (fun _ => rfl) (fun _ => rfl) (WM_p7_2 _ _ _) ?_
      refine ev_aload_n (pc' := 25) dX7_back_24 rfl rfl ?_
      refine ev_getf (pc' := 28) fl_7_162 dX7_back_25 rfl rfl rfl ?_
      refine ev_ireturn rfl dX7_back_28 ?_
      first
        | (rw [if_pos (by simp only [fa_lt, fa_le] at *; omega)]; exact ⟨rfl, rfl⟩)
        | (rw [if_neg (by simp only [fa_lt, fa_le] at *; omega)]; exact ⟨rfl, rfl⟩)
    · refine ev_iconst (pc' := 13) (v := -1) dX7_back_12 rfl (by decide) ?_
      refine ev_ireturn rfl dX7_back_13 ?_
      first
        | (rw [if_pos (by simp only [fa_lt, fa_le] at *; omega)]; exact ⟨rfl, rfl⟩)
        | (rw [if_neg (by simp only [fa_lt, fa_le] at *; omega)]; exact ⟨rfl, rfl⟩)
def m_puts (w : Int32) : Nat → RS → RS
  | 0, σ => σ
  | c + 1, σ => m_puts w c (s2 (s1 σ 1 (upd (σ 1) (σ 0 2).toNatClampNeg (vp_nar .byte (w >>> (nI (8 * c) &&& 31)).toInt8.toInt32))) 0 2 (σ 0 2 + 1))
theorem m_put_loop {d : Nat} (τ : TS) (w : Int32) : ∀ (c k : Nat) (σ : RS) (x : Int32), σ 0 2 = nI k → k + c ≤ 2000 → x = nI (8 * c) - 8 → Ev d M7_put (rt none (WM (m_puts w c σ) τ)) 3 [some (.ref 0), some (.int w), some (.int x)] [] (WM σ τ) := by
  intro c
  induction c with
  | zero =>
    intro k σ x hk hc hx
    refine ev_iload_n (pc' := 4) dX7_put_3 rfl rfl ?_
    refine ev_if_lt (tgt := 36) (pc' := 7) dX7_put_4 (by decide) rfl (fun h_4 => ?_) (fun h_4 => ?_)
    · refine ev_return rfl dX7_put_36 ?_
      exact ⟨rfl, rfl⟩
    · exact absurd (by rw [hx]; decide) h_4 --
  | succ c ih =>
    intro k σ x hk hc hx
    have hx : x = nI (8 * c) := by
      rw [hx, show 8 * (c + 1) = 8 * c + 8 by omega]
      exact nI_sub (a := 8 * c + 8) (b := 8) (by omega)
    subst hx
    have hi : vp_in (σ 0 2) 2000 := by rw [hk]; exact vp_in_nI (by omega) (by omega)
    have e8 : nI (8 * c) + Int32.ofInt (-8) = nI (8 * c) - 8 := by rw [Int32.sub_eq_add_neg]; rfl
    refine ev_iload_n (pc' := 4) dX7_put_3 rfl rfl ?_
    refine ev_if_lt (tgt := 36) (pc' := 7) dX7_put_4 (by decide) rfl (fun h_4 => ?_) (fun h_4 => ?_)
    · exact absurd h_4 (nI_pos (by omega)) --
    · refine ev_aload_n (pc' := 8) dX7_put_7 rfl rfl ?_
      refine ev_getf (pc' := 11) fl_7_13 dX7_put_8 rfl rfl rfl ?_
      refine ev_aload_n (pc' := 12) dX7_put_11 rfl rfl ?_
      refine ev_getf (pc' := 15) fl_7_162 dX7_put_12 rfl rfl rfl ?_
      refine ev_iload_n (pc' := 16) dX7_put_15 rfl rfl ?_
      refine ev_iload_n (pc' := 17) dX7_put_16 rfl rfl ?_
      refine ev_ishr (pc' := 18) dX7_put_17 rfl ?_
      refine ev_i2b (pc' := 19) dX7_put_18 rfl ?_
      refine ev_bast (pc' := 20) dX7_put_19 rfl rfl ?_ (WM_a1 _ _ _) ?_
      · exact hi
      refine ev_aload_n (pc' := 21) dX7_put_20 rfl rfl ?_
      refine ev_dup (pc' := 22) dX7_put_21 rfl rfl ?_
      refine ev_getf (pc' := 25) fl_7_162 dX7_put_22 rfl rfl rfl ?_
      refine ev_iconst (pc' := 26) (v := 1) dX7_put_25 rfl (by decide) ?_
      refine ev_iadd (pc' := 27) dX7_put_26 rfl ?_
      refine ev_putf (pc' := 30) fs_7_162 dX7_put_27 rfl rfl (Nat.le_of_ble_eq_true rfl) (fun _ => rfl) (fun _ => rfl) (WM_p7_2 _ _ _) ?_
      refine ev_iinc (pc' := 33) (ls' := [_, _, _]) dX7_put_30 rfl rfl rfl rfl rfl ?_
      refine ev_goto (tgt := 3) dX7_put_33 (by decide) ?_
      rw [e8]
      exact ih (k + 1) _ _ (by show σ 0 2 + 1 = _; rw [hk, nI_1]) (by omega) rfl
theorem m_put {d : Nat} (σ : RS) (τ : TS) (w : Int32) (k : Nat) (hk : σ 0 2 = nI k) (hc : k + 4 ≤ 2000) : Ok d M7_put [.ref 0, .int w] (WM σ τ) (rt none (WM (m_puts w 4 σ) τ)) := by
  refine Ok.of (ls := [some _, some _, none]) (by decide +kernel) (Nat.le_of_ble_eq_true rfl) rfl ?_
  refine ev_bipush (pc' := 2) (v := 24) dX7_put_0 rfl (by decide) ?_
  refine ev_istore_n (pc' := 3) (ls' := [_, _, _]) dX7_put_2 rfl rfl rfl ?_
  exact m_put_loop τ w 4 k σ _ hk hc (by decide)
theorem m_at {d : Nat} (σ : RS) (τ : TS) (n i : Nat) (hn : n ≤ 2000) (hi : i < 2 ^ 31) (h4 : σ 0 4 = nI n) : Ok d M7_at [.ref 0, .int (nI i)] (WM σ τ) (rt (some (.int (if i < n then σ 2 i &&& 255 else 0))) (WM σ τ)) := by
  refine Ok.of (ls := [some _, some _]) (by decide +kernel) (Nat.le_of_ble_eq_true rfl) rfl ?_
  refine ev_iload_n (pc' := 1) dX7_at_0 rfl rfl ?_
  refine ev_aload_n (pc' := 2) dX7_at_1 rfl rfl ?_
  refine ev_getf (pc' := 5) fl_7_169 dX7_at_2 rfl rfl rfl ?_
  refine ev_icmp_ge (tgt := 21) (pc' := 8) dX7_at_5 (by decide) rfl (fun h_5 => ?_) (fun h_5 => ?_)
  · rw [h4, nI_leI (by omega) hi] at h_5
    rw [if_neg (by omega)]
    refine ev_iconst (pc' := 22) (v := 0) dX7_at_21 rfl (by decide) ?_
    refine ev_ireturn rfl dX7_at_22 ?_
    exact ⟨rfl, rfl⟩
  · rw [h4, nI_leI (by omega) hi] at h_5
    rw [if_pos (by omega)]
    refine ev_aload_n (pc' := 9) dX7_at_8 rfl rfl ?_
    refine ev_getf (pc' := 12) fl_7_17 dX7_at_9 rfl rfl rfl ?_
    refine ev_iload_n (pc' := 13) dX7_at_12 rfl rfl ?_
    refine ev_bald (pc' := 14) dX7_at_13 rfl rfl ?_ ?_
    · exact vp_in_nI (by omega) (by omega)
    rw [nI_clamp hi]
    refine ev_sipush (pc' := 17) (v := 255) dX7_at_14 rfl (by decide) ?_
    refine ev_iand (pc' := 18) dX7_at_17 rfl ?_
    refine ev_goto (tgt := 22) dX7_at_18 (by decide) ?_
    refine ev_ireturn rfl dX7_at_22 ?_
    exact ⟨rfl, rfl⟩
