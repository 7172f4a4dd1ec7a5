/-! THE PAPERS AS KNOWN (class 1). Its world: the object (first 11, lawNumber 12, size 13), reasons 1, rules 2, order 3, gifts 4, givers 5, takers 6, debts 7, vars 8, votes 9; the book 10 to 17; the rings 18 to 21; a law 22 to 29 (29: its stack, g). -/
def WK (σ : Nat → Nat → Int32) (g : Nat → Int32) : MW := [.inr (1, [.ref 10, .ref 18, .ref 1, .ref 2, .ref 3, .ref 4, .ref 5, .ref 6, .ref 7, .ref 8, .ref 9, .int (σ 0 11), .int (σ 0 12), .int (σ 0 13)]), .inl (.int, 120, .inl (σ 1)), .inl (.int, 120, .inl (σ 2)), .inl (.int, 120, .inl (σ 3)), .inl (.int, 120, .inl (σ 4)), .inl (.int, 120, .inl (σ 5)), .inl (.int, 120, .inl (σ 6)), .inl (.int, 7744, .inl (σ 7)), .inl (.int, 9, .inl (σ 8)), .inl (.int, 8, .inl (σ 9)), .inr (0, [.ref 11, .ref 12, .ref 13, .ref 14, .ref 15, .ref 16, .ref 17, .int (σ 10 7), .int (σ 10 8), .int (σ 10 9)]), .inl (.int, 8, .inl (σ 11)), .inl (.int, 120, .inl (σ 12)), .inl (.int, 120, .inl (σ 13)), .inl (.int, 120, .inl (σ 14)), .inl (.int, 120, .inl (σ 15)), .inl (.int, 120, .inl (σ 16)), .inl (.int, 120, .inl (σ 17)), .inr (5, [.ref 19, .ref 20, .ref 21, .int (σ 18 3), .int (σ 18 4), .int (σ 18 5), .int (σ 18 6)]), .inl (.int, 64, .inl (σ 19)), .inl (.int, 8, .inl (σ 20)), .inl (.int, 8, .inl (σ 21)), .inr (2, [.ref 23, .ref 24, .ref 25, .ref 26, .ref 27, .ref 28, .ref 29, .int (σ 22 7), .int (σ 22 8)]), .inl (.int, 400, .inl (σ 23)), .inl (.int, 400, .inl (σ 24)), .inl (.boolean, 16, .inl (σ 25)), .inl (.int, 16, .inl (σ 26)), .inl (.int, 16, .inl (σ 27)), .inl (.int, 16, .inl (σ 28)), .inl (.int, 400, .inl g)]
theorem WK_p1_11 (σ : Nat → Nat → Int32) (g : Nat → Int32) (v : Int32) : (WK σ g).set 0 (.inr (1, [.ref 10, .ref 18, .ref 1, .ref 2, .ref 3, .ref 4, .ref 5, .ref 6, .ref 7, .ref 8, .ref 9, .int (σ 0 11), .int (σ 0 12), .int (σ 0 13)].set 11 (.int v))) = WK (s2 σ 0 11 v) g := rfl
theorem WK_p1_12 (σ : Nat → Nat → Int32) (g : Nat → Int32) (v : Int32) : (WK σ g).set 0 (.inr (1, [.ref 10, .ref 18, .ref 1, .ref 2, .ref 3, .ref 4, .ref 5, .ref 6, .ref 7, .ref 8, .ref 9, .int (σ 0 11), .int (σ 0 12), .int (σ 0 13)].set 12 (.int v))) = WK (s2 σ 0 12 v) g := rfl
theorem WK_p1_13 (σ : Nat → Nat → Int32) (g : Nat → Int32) (v : Int32) : (WK σ g).set 0 (.inr (1, [.ref 10, .ref 18, .ref 1, .ref 2, .ref 3, .ref 4, .ref 5, .ref 6, .ref 7, .ref 8, .ref 9, .int (σ 0 11), .int (σ 0 12), .int (σ 0 13)].set 13 (.int v))) = WK (s2 σ 0 13 v) g := rfl
theorem WK_a1 (σ : Nat → Nat → Int32) (g : Nat → Int32) (g_ : Nat → Int32) : (WK σ g).set 1 (.inl (.int, 120, .inl g_)) = WK (s1 σ 1 g_) g := rfl
theorem WK_a2 (σ : Nat → Nat → Int32) (g : Nat → Int32) (g_ : Nat → Int32) : (WK σ g).set 2 (.inl (.int, 120, .inl g_)) = WK (s1 σ 2 g_) g := rfl
theorem WK_a3 (σ : Nat → Nat → Int32) (g : Nat → Int32) (g_ : Nat → Int32) : (WK σ g).set 3 (.inl (.int, 120, .inl g_)) = WK (s1 σ 3 g_) g := rfl
theorem WK_a4 (σ : Nat → Nat → Int32) (g : Nat → Int32) (g_ : Nat → Int32) : (WK σ g).set 4 (.inl (.int, 120, .inl g_)) = WK (s1 σ 4 g_) g := rfl
theorem WK_a5 (σ : Nat → Nat → Int32) (g : Nat → Int32) (g_ : Nat → Int32) : (WK σ g).set 5 (.inl (.int, 120, .inl g_)) = WK (s1 σ 5 g_) g := rfl
theorem WK_a6 (σ : Nat → Nat → Int32) (g : Nat → Int32) (g_ : Nat → Int32) : (WK σ g).set 6 (.inl (.int, 120, .inl g_)) = WK (s1 σ 6 g_) g := rfl
theorem WK_a7 (σ : Nat → Nat → Int32) (g : Nat → Int32) (g_ : Nat → Int32) : (WK σ g).set 7 (.inl (.int, 7744, .inl g_)) = WK (s1 σ 7 g_) g := rfl
theorem WK_a8 (σ : Nat → Nat → Int32) (g : Nat → Int32) (g_ : Nat → Int32) : (WK σ g).set 8 (.inl (.int, 9, .inl g_)) = WK (s1 σ 8 g_) g := rfl
theorem WK_a9 (σ : Nat → Nat → Int32) (g : Nat → Int32) (g_ : Nat → Int32) : (WK σ g).set 9 (.inl (.int, 8, .inl g_)) = WK (s1 σ 9 g_) g := rfl
theorem WK_p0_7 (σ : Nat → Nat → Int32) (g : Nat → Int32) (v : Int32) : (WK σ g).set 10 (.inr (0, [.ref 11, .ref 12, .ref 13, .ref 14, .ref 15, .ref 16, .ref 17, .int (σ 10 7), .int (σ 10 8), .int (σ 10 9)].set 7 (.int v))) = WK (s2 σ 10 7 v) g := rfl
theorem WK_p0_8 (σ : Nat → Nat → Int32) (g : Nat → Int32) (v : Int32) : (WK σ g).set 10 (.inr (0, [.ref 11, .ref 12, .ref 13, .ref 14, .ref 15, .ref 16, .ref 17, .int (σ 10 7), .int (σ 10 8), .int (σ 10 9)].set 8 (.int v))) = WK (s2 σ 10 8 v) g := rfl
theorem WK_p0_9 (σ : Nat → Nat → Int32) (g : Nat → Int32) (v : Int32) : (WK σ g).set 10 (.inr (0, [.ref 11, .ref 12, .ref 13, .ref 14, .ref 15, .ref 16, .ref 17, .int (σ 10 7), .int (σ 10 8), .int (σ 10 9)].set 9 (.int v))) = WK (s2 σ 10 9 v) g := rfl
theorem WK_a11 (σ : Nat → Nat → Int32) (g : Nat → Int32) (g_ : Nat → Int32) : (WK σ g).set 11 (.inl (.int, 8, .inl g_)) = WK (s1 σ 11 g_) g := rfl
theorem WK_a12 (σ : Nat → Nat → Int32) (g : Nat → Int32) (g_ : Nat → Int32) : (WK σ g).set 12 (.inl (.int, 120, .inl g_)) = WK (s1 σ 12 g_) g := rfl
theorem WK_a13 (σ : Nat → Nat → Int32) (g : Nat → Int32) (g_ : Nat → Int32) : (WK σ g).set 13 (.inl (.int, 120, .inl g_)) = WK (s1 σ 13 g_) g := rfl
theorem WK_a14 (σ : Nat → Nat → Int32) (g : Nat → Int32) (g_ : Nat → Int32) : (WK σ g).set 14 (.inl (.int, 120, .inl g_)) = WK (s1 σ 14 g_) g := rfl
theorem WK_a15 (σ : Nat → Nat → Int32) (g : Nat → Int32) (g_ : Nat → Int32) : (WK σ g).set 15 (.inl (.int, 120, .inl g_)) = WK (s1 σ 15 g_) g := rfl
theorem WK_a16 (σ : Nat → Nat → Int32) (g : Nat → Int32) (g_ : Nat → Int32) : (WK σ g).set 16 (.inl (.int, 120, .inl g_)) = WK (s1 σ 16 g_) g := rfl
theorem WK_a17 (σ : Nat → Nat → Int32) (g : Nat → Int32) (g_ : Nat → Int32) : (WK σ g).set 17 (.inl (.int, 120, .inl g_)) = WK (s1 σ 17 g_) g := rfl
theorem WK_p5_3 (σ : Nat → Nat → Int32) (g : Nat → Int32) (v : Int32) : (WK σ g).set 18 (.inr (5, [.ref 19, .ref 20, .ref 21, .int (σ 18 3), .int (σ 18 4), .int (σ 18 5), .int (σ 18 6)].set 3 (.int v))) = WK (s2 σ 18 3 v) g := rfl
theorem WK_p5_4 (σ : Nat → Nat → Int32) (g : Nat → Int32) (v : Int32) : (WK σ g).set 18 (.inr (5, [.ref 19, .ref 20, .ref 21, .int (σ 18 3), .int (σ 18 4), .int (σ 18 5), .int (σ 18 6)].set 4 (.int v))) = WK (s2 σ 18 4 v) g := rfl
theorem WK_p5_5 (σ : Nat → Nat → Int32) (g : Nat → Int32) (v : Int32) : (WK σ g).set 18 (.inr (5, [.ref 19, .ref 20, .ref 21, .int (σ 18 3), .int (σ 18 4), .int (σ 18 5), .int (σ 18 6)].set 5 (.int v))) = WK (s2 σ 18 5 v) g := rfl
theorem WK_p5_6 (σ : Nat → Nat → Int32) (g : Nat → Int32) (v : Int32) : (WK σ g).set 18 (.inr (5, [.ref 19, .ref 20, .ref 21, .int (σ 18 3), .int (σ 18 4), .int (σ 18 5), .int (σ 18 6)].set 6 (.int v))) = WK (s2 σ 18 6 v) g := rfl
theorem WK_a19 (σ : Nat → Nat → Int32) (g : Nat → Int32) (g_ : Nat → Int32) : (WK σ g).set 19 (.inl (.int, 64, .inl g_)) = WK (s1 σ 19 g_) g := rfl
theorem WK_a20 (σ : Nat → Nat → Int32) (g : Nat → Int32) (g_ : Nat → Int32) : (WK σ g).set 20 (.inl (.int, 8, .inl g_)) = WK (s1 σ 20 g_) g := rfl
theorem WK_a21 (σ : Nat → Nat → Int32) (g : Nat → Int32) (g_ : Nat → Int32) : (WK σ g).set 21 (.inl (.int, 8, .inl g_)) = WK (s1 σ 21 g_) g := rfl
theorem WK_p2_7 (σ : Nat → Nat → Int32) (g : Nat → Int32) (v : Int32) : (WK σ g).set 22 (.inr (2, [.ref 23, .ref 24, .ref 25, .ref 26, .ref 27, .ref 28, .ref 29, .int (σ 22 7), .int (σ 22 8)].set 7 (.int v))) = WK (s2 σ 22 7 v) g := rfl
theorem WK_p2_8 (σ : Nat → Nat → Int32) (g : Nat → Int32) (v : Int32) : (WK σ g).set 22 (.inr (2, [.ref 23, .ref 24, .ref 25, .ref 26, .ref 27, .ref 28, .ref 29, .int (σ 22 7), .int (σ 22 8)].set 8 (.int v))) = WK (s2 σ 22 8 v) g := rfl
theorem WK_a23 (σ : Nat → Nat → Int32) (g : Nat → Int32) (g_ : Nat → Int32) : (WK σ g).set 23 (.inl (.int, 400, .inl g_)) = WK (s1 σ 23 g_) g := rfl
theorem WK_a24 (σ : Nat → Nat → Int32) (g : Nat → Int32) (g_ : Nat → Int32) : (WK σ g).set 24 (.inl (.int, 400, .inl g_)) = WK (s1 σ 24 g_) g := rfl
theorem WK_a25 (σ : Nat → Nat → Int32) (g : Nat → Int32) (g_ : Nat → Int32) : (WK σ g).set 25 (.inl (.boolean, 16, .inl g_)) = WK (s1 σ 25 g_) g := rfl
theorem WK_a26 (σ : Nat → Nat → Int32) (g : Nat → Int32) (g_ : Nat → Int32) : (WK σ g).set 26 (.inl (.int, 16, .inl g_)) = WK (s1 σ 26 g_) g := rfl
theorem WK_a27 (σ : Nat → Nat → Int32) (g : Nat → Int32) (g_ : Nat → Int32) : (WK σ g).set 27 (.inl (.int, 16, .inl g_)) = WK (s1 σ 27 g_) g := rfl
theorem WK_a28 (σ : Nat → Nat → Int32) (g : Nat → Int32) (g_ : Nat → Int32) : (WK σ g).set 28 (.inl (.int, 16, .inl g_)) = WK (s1 σ 28 g_) g := rfl
theorem WK_a29 (σ : Nat → Nat → Int32) (g : Nat → Int32) (g_ : Nat → Int32) : (WK σ g).set 29 (.inl (.int, 400, .inl g_)) = WK σ g_ := rfl
theorem Ok.ro {d : Nat} {z : MI} {args0 args : List Value} {w0 w : MW} {π : List Nat} {ρ : Nat → Nat} {x : Int32} (hM : Ok d z args0 w0 (rt (some (.int x)) w0)) (hπ : Part w π ρ w0) (ha : args = args0.map (cV ρ)) (hw : wput w π (w0.map (renE ρ)) = w) : Ok d z args w (rt (some (.int x)) w) :=
  Ok.frame hM hπ ha (fun v w' h _ => by rw [h.1, h.2]; exact ⟨rfl, hw⟩)
theorem Ok.wr {d : Nat} {z : MI} {args0 args : List Value} {w0 w1 w w2 : MW} {π : List Nat} {ρ : Nat → Nat} {v : Option Value} (hM : Ok d z args0 w0 (rt v w1)) (hπ : Part w π ρ w0) (ha : args = args0.map (cV ρ)) (hv : v.map (cV ρ) = v) (hw : wput w π (w1.map (renE ρ)) = w2) : Ok d z args w (rt v w2) :=
  Ok.frame hM hπ ha (fun v w' h _ => by rw [h.1, h.2]; exact ⟨hv, hw⟩)
abbrev bk (σ : RS) : RS := fun k => σ (10 + k)
theorem PK_book (σ : RS) (g : Nat → Int32) : Part (WK σ g) [10, 11, 12, 13, 14, 15, 16, 17] (ρo [10, 11, 12, 13, 14, 15, 16, 17]) (WB (bk σ)) := Part.of _ rfl rfl rfl
theorem kK_kindOf {d : Nat} (σ : RS) (g : Nat → Int32) (x : Int32) : Ok (d + 1) M0_kindOf [.ref 10, .int x] (WK σ g) (rt (some (.int (b_kind (bk σ) x))) (WK σ g)) := Ok.ro (k_kindOf _ _) (PK_book σ g) rfl rfl
theorem kK_isPaper {d : Nat} (σ : RS) (g : Nat → Int32) (x : Int32) : Ok (d + 2) M0_isPaper [.ref 10, .int x] (WK σ g) (rt (some (.int (bI (b_isPaper (bk σ) x)))) (WK σ g)) := Ok.ro (k_isPaper _ _) (PK_book σ g) rfl rfl
theorem kK_madeOn {d : Nat} (σ : RS) (g : Nat → Int32) (x : Int32) : Ok (d + 1) M0_madeOn [.ref 10, .int x] (WK σ g) (rt (some (.int (atF 120 (σ 13) x))) (WK σ g)) := Ok.ro (k_madeOn (bk σ) _) (PK_book σ g) rfl rfl
theorem kK_oneOf {d : Nat} (σ : RS) (g : Nat → Int32) (x : Int32) : Ok (d + 1) M0_oneOf [.ref 10, .int x] (WK σ g) (rt (some (.int (atF 120 (σ 14) x))) (WK σ g)) := Ok.ro (k_oneOf (bk σ) _) (PK_book σ g) rfl rfl
theorem kK_thingOf {d : Nat} (σ : RS) (g : Nat → Int32) (x : Int32) : Ok (d + 1) M0_thingOf [.ref 10, .int x] (WK σ g) (rt (some (.int (atF 120 (σ 15) x))) (WK σ g)) := Ok.ro (k_thingOf (bk σ) _) (PK_book σ g) rfl rfl
theorem kK_dayOf {d : Nat} (σ : RS) (g : Nat → Int32) (x : Int32) : Ok (d + 1) M0_dayOf [.ref 10, .int x] (WK σ g) (rt (some (.int (atF 120 (σ 16) x))) (WK σ g)) := Ok.ro (k_dayOf (bk σ) _) (PK_book σ g) rfl rfl
theorem kK_otherOf {d : Nat} (σ : RS) (g : Nat → Int32) (x : Int32) : Ok (d + 1) M0_otherOf [.ref 10, .int x] (WK σ g) (rt (some (.int (atF 120 (σ 17) x))) (WK σ g)) := Ok.ro (k_otherOf (bk σ) _) (PK_book σ g) rfl rfl
theorem kK_livedAhead {d : Nat} (σ : RS) (g : Nat → Int32) (x : Int32) : Ok (d + 1) M0_livedAhead [.ref 10, .int x] (WK σ g) (rt (some (.int (atF 8 (σ 11) x))) (WK σ g)) := Ok.ro (k_livedAhead (bk σ) _) (PK_book σ g) rfl rfl
theorem kK_isFeast {d : Nat} (σ : RS) (g : Nat → Int32) (day : Int32) (n : Nat) (hn : n < 2 ^ 31) : Ok (d + 2) M0_isFeast [.ref 10, .int day, .int (nI n)] (WK σ g) (rt (some (.int (bI (b_feast (bk σ) day n)))) (WK σ g)) := Ok.ro (k_isFeast (bk σ) _ _ hn) (PK_book σ g) rfl rfl
theorem k_leaf {d : Nat} (w : MW) (p y : Int32) : Ok d M1_leaf [.int p, .int y] w (rt (some (.int (p * 400 + y))) w) := by
  refine Ok.of (ls := [some _, some _]) (by decide +kernel) (Nat.le_of_ble_eq_true rfl) rfl ?_
  refine ev_iload_n (pc' := 1) dX1_leaf_0 rfl rfl ?_
  refine ev_sipush (pc' := 4) (v := 400) dX1_leaf_1 rfl (by decide) ?_
  refine ev_imul (pc' := 5) dX1_leaf_4 rfl ?_
  refine ev_iload_n (pc' := 6) dX1_leaf_5 rfl rfl ?_
  refine ev_iadd (pc' := 7) dX1_leaf_6 rfl ?_
  refine ev_ireturn rfl dX1_leaf_7 ?_
  exact ⟨rfl, rfl⟩
theorem k_cell {d : Nat} (w : MW) (n a b : Int32) : Ok d M1_cell [.int n, .int a, .int b] w (rt (some (.int (n * 64 + a * 8 + b))) w) := by
  refine Ok.of (ls := [some _, some _, some _]) (by decide +kernel) (Nat.le_of_ble_eq_true rfl) rfl ?_
  refine ev_iload_n (pc' := 1) dX1_cell_0 rfl rfl ?_
  refine ev_bipush (pc' := 3) (v := 64) dX1_cell_1 rfl (by decide) ?_
  refine ev_imul (pc' := 4) dX1_cell_3 rfl ?_
  refine ev_iload_n (pc' := 5) dX1_cell_4 rfl rfl ?_
  refine ev_bipush (pc' := 7) (v := 8) dX1_cell_5 rfl (by decide) ?_
  refine ev_imul (pc' := 8) dX1_cell_7 rfl ?_
  refine ev_iadd (pc' := 9) dX1_cell_8 rfl ?_
  refine ev_iload_n (pc' := 10) dX1_cell_9 rfl rfl ?_
  refine ev_iadd (pc' := 11) dX1_cell_10 rfl ?_
  refine ev_ireturn rfl dX1_cell_11 ?_
  exact ⟨rfl, rfl⟩
theorem k_isOf {d : Nat} (σ : RS) (g : Nat → Int32) (n m : Int32) : Ok d M1_isOf [.ref 0, .int n, .int m] (WK σ g) (rt (some (.int (bI (decide (σ 0 11 = n ∧ σ 0 12 = m))))) (WK σ g)) := by
  refine Ok.of (ls := [some _, some _, some _]) (by decide +kernel) (Nat.le_of_ble_eq_true rfl) rfl ?_
  refine ev_aload_n (pc' := 1) dX1_isOf_0 rfl rfl ?_
  refine ev_getf (pc' := 4) fl_1_39 dX1_isOf_1 rfl rfl rfl ?_
  refine ev_iload_n (pc' := 5) dX1_isOf_4 rfl rfl ?_
  refine ev_icmp_ne (tgt := 20) (pc' := 8) dX1_isOf_5 (by decide) rfl (fun h_5 => ?_) (fun h_5 => ?_)
  · refine ev_iconst (pc' := 21) (v := 0) dX1_isOf_20 rfl (by decide) ?_
    refine ev_zreturn rfl rfl dX1_isOf_21 ?_
    refine rt_i ?_ rfl
    simp_all [bI]
  · refine ev_aload_n (pc' := 9) dX1_isOf_8 rfl rfl ?_
    refine ev_getf (pc' := 12) fl_1_43 dX1_isOf_9 rfl rfl rfl ?_
    refine ev_iload_n (pc' := 13) dX1_isOf_12 rfl rfl ?_
    refine ev_icmp_ne (tgt := 20) (pc' := 16) dX1_isOf_13 (by decide) rfl (fun h_13 => ?_) (fun h_13 => ?_)
    · refine ev_iconst (pc' := 21) (v := 0) dX1_isOf_20 rfl (by decide) ?_
      refine ev_zreturn rfl rfl dX1_isOf_21 ?_
      refine rt_i ?_ rfl
      simp_all [bI]
    · refine ev_iconst (pc' := 17) (v := 1) dX1_isOf_16 rfl (by decide) ?_
      refine ev_goto (tgt := 21) dX1_isOf_17 (by decide) ?_
      refine ev_zreturn rfl rfl dX1_isOf_21 ?_
      refine rt_i ?_ rfl
      simp_all [bI]
theorem k_reasonOf {d : Nat} (σ : RS) (g : Nat → Int32) (x : Int32) : Ok (d + 1) M1_reasonOf [.ref 0, .int x] (WK σ g) (rt (some (.int (atF 120 (σ 1) x))) (WK σ g)) := by
  refine Ok.of (ls := [some _, some _]) (by decide +kernel) (Nat.le_of_ble_eq_true rfl) rfl ?_
  refine ev_aload_n (pc' := 1) dX1_reasonOf_0 rfl rfl ?_
  refine ev_getf (pc' := 4) fl_1_9 dX1_reasonOf_1 rfl rfl rfl ?_
  refine ev_iload_n (pc' := 5) dX1_reasonOf_4 rfl rfl ?_
  refine ev_cNi2 (pc' := 8) cl_1_63 (k_at rfl (by decide)) dX1_reasonOf_5 rfl rfl ?_
  refine ev_ireturn rfl dX1_reasonOf_8 ?_
  exact ⟨rfl, rfl⟩
def kn_grows (σ : RS) (x : Int32) : Int32 := if ¬ atF 120 (σ 1) x = 0 then -1 else if atF 120 (σ 2) x = -1 then -2 else atF 120 (σ 2) x
theorem k_growsRule {d : Nat} (σ : RS) (g : Nat → Int32) (x : Int32) : Ok (d + 2) M1_growsRule [.ref 0, .int x] (WK σ g) (rt (some (.int (kn_grows σ x))) (WK σ g)) := by
  refine Ok.of (ls := [some _, some _, none]) (by decide +kernel) (Nat.le_of_ble_eq_true rfl) rfl ?_
  refine ev_aload_n (pc' := 1) dX1_growsRule_0 rfl rfl ?_
  refine ev_iload_n (pc' := 2) dX1_growsRule_1 rfl rfl ?_
  refine ev_cVi1 (pc' := 5) cl_1_95 (k_reasonOf _ _ _) dX1_growsRule_2 rfl rfl rfl rfl ?_
  refine ev_if_eq (tgt := 10) (pc' := 8) dX1_growsRule_5 (by decide) rfl (fun h_5 => ?_) (fun h_5 => ?_)
  · refine ev_aload_n (pc' := 11) dX1_growsRule_10 rfl rfl ?_
    refine ev_getf (pc' := 14) fl_1_15 dX1_growsRule_11 rfl rfl rfl ?_
    refine ev_iload_n (pc' := 15) dX1_growsRule_14 rfl rfl ?_
    refine ev_cNi2 (pc' := 18) cl_1_63 (k_at rfl (by decide)) dX1_growsRule_15 rfl rfl ?_
    refine ev_istore_n (pc' := 19) (ls' := [_, _, _]) dX1_growsRule_18 rfl rfl rfl ?_
    refine ev_iload_n (pc' := 20) dX1_growsRule_19 rfl rfl ?_
    refine ev_iconst (pc' := 21) (v := -1) dX1_growsRule_20 rfl (by decide) ?_
    refine ev_icmp_ne (tgt := 29) (pc' := 24) dX1_growsRule_21 (by decide) rfl (fun h_21 => ?_) (fun h_21 => ?_)
    · refine ev_iload_n (pc' := 30) dX1_growsRule_29 rfl rfl ?_
      refine ev_ireturn rfl dX1_growsRule_30 ?_
      refine rt_i ?_ rfl
      unfold kn_grows
      simp_all
    · refine ev_bipush (pc' := 26) (v := -2) dX1_growsRule_24 rfl (by decide) ?_
      refine ev_goto (tgt := 30) dX1_growsRule_26 (by decide) ?_
      refine ev_ireturn rfl dX1_growsRule_30 ?_
      refine rt_i ?_ rfl
      unfold kn_grows
      simp_all
  · refine ev_iconst (pc' := 9) (v := -1) dX1_growsRule_8 rfl (by decide) ?_
    refine ev_ireturn rfl dX1_growsRule_9 ?_
    refine rt_i ?_ rfl
    unfold kn_grows
    simp_all
def kn_ban (σ : RS) (x : Int32) : Int32 := if atF 120 (σ 1) x = 4 then atF 120 (σ 2) x else -1
theorem k_banRule {d : Nat} (σ : RS) (g : Nat → Int32) (x : Int32) : Ok (d + 2) M1_banRule [.ref 0, .int x] (WK σ g) (rt (some (.int (kn_ban σ x))) (WK σ g)) := by
  refine Ok.of (ls := [some _, some _]) (by decide +kernel) (Nat.le_of_ble_eq_true rfl) rfl ?_
  refine ev_aload_n (pc' := 1) dX1_banRule_0 rfl rfl ?_
  refine ev_iload_n (pc' := 2) dX1_banRule_1 rfl rfl ?_
  refine ev_cVi1 (pc' := 5) cl_1_95 (k_reasonOf _ _ _) dX1_banRule_2 rfl rfl rfl rfl ?_
  refine ev_iconst (pc' := 6) (v := 4) dX1_banRule_5 rfl (by decide) ?_
  refine ev_icmp_ne (tgt := 20) (pc' := 9) dX1_banRule_6 (by decide) rfl (fun h_6 => ?_) (fun h_6 => ?_)
  · refine ev_iconst (pc' := 21) (v := -1) dX1_banRule_20 rfl (by decide) ?_
    refine ev_ireturn rfl dX1_banRule_21 ?_
    refine rt_i ?_ rfl
    unfold kn_ban
    simp_all
  · refine ev_aload_n (pc' := 10) dX1_banRule_9 rfl rfl ?_
    refine ev_getf (pc' := 13) fl_1_15 dX1_banRule_10 rfl rfl rfl ?_
    refine ev_iload_n (pc' := 14) dX1_banRule_13 rfl rfl ?_
    refine ev_cNi2 (pc' := 17) cl_1_63 (k_at rfl (by decide)) dX1_banRule_14 rfl rfl ?_
    refine ev_goto (tgt := 21) dX1_banRule_17 (by decide) ?_
    refine ev_ireturn rfl dX1_banRule_21 ?_
    refine rt_i ?_ rfl
    unfold kn_ban
    simp_all
/-- the holder by the first k gifts -/
def kn_hold (gf tf : Nat → Int32) (leaf p : Int32) : Nat → Int32
  | 0 => p
  | k + 1 => if gf k = leaf then tf k else kn_hold gf tf leaf p k
theorem k_hold_loop {d : Nat} (σ : RS) (g : Nat → Int32) (x1 leaf p : Int32) : ∀ (k : Nat) (x : Int32), k ≤ 120 → x = nI k - 1 → Ev (d + 1) M1_holderBefore (rt (some (.int (kn_hold (σ 4) (σ 6) leaf p k))) (WK σ g)) 5 [some (.ref 0), some (.int x1), some (.int leaf), some (.int p), some (.int x)] [] (WK σ g) := by
  intro k
  induction k with
  | zero =>
    intro x hk hx
    refine ev_iload (pc' := 7) dX1_holderBefore_5 rfl rfl ?_
    refine ev_if_lt (tgt := 39) (pc' := 10) dX1_holderBefore_7 (by decide) rfl (fun h_7 => ?_) (fun h_7 => ?_)
    · refine ev_iload_n (pc' := 40) dX1_holderBefore_39 rfl rfl ?_
      refine ev_ireturn rfl dX1_holderBefore_40 ?_
      exact ⟨rfl, rfl⟩
    · exact absurd (by rw [hx]; decide) h_7 --
  | succ k ih =>
    intro x hk hx
    have hx : x = nI k := by rw [hx, nI_pred]
    subst hx
    have e1 : atF 120 (σ 4) (nI k) = σ 4 k := atF_nI _ (by omega) (by omega)
    have e2 : atF 120 (σ 6) (nI k) = σ 6 k := atF_nI _ (by omega) (by omega)
    rw [kn_hold]
    refine ev_iload (pc' := 7) dX1_holderBefore_5 rfl rfl ?_
    refine ev_if_lt (tgt := 39) (pc' := 10) dX1_holderBefore_7 (by decide) rfl (fun h_7 => ?_) (fun h_7 => ?_)
    · exact absurd h_7 (nI_pos (by omega)) --
    · refine ev_aload_n (pc' := 11) dX1_holderBefore_10 rfl rfl ?_
      refine ev_getf (pc' := 14) fl_1_21 dX1_holderBefore_11 rfl rfl rfl ?_
      refine ev_iload (pc' := 16) dX1_holderBefore_14 rfl rfl ?_
      refine ev_cNi2 (pc' := 19) cl_1_63 (k_at rfl (by decide)) dX1_holderBefore_16 rfl rfl ?_
      refine ev_iload_n (pc' := 20) dX1_holderBefore_19 rfl rfl ?_
      rw [e1]
      refine ev_icmp_ne (tgt := 33) (pc' := 23) dX1_holderBefore_20 (by decide) rfl (fun h_20 => ?_) (fun h_20 => ?_)
      · rw [if_neg h_20]
        refine ev_iinc (pc' := 36) (ls' := [_, _, _, _, _]) dX1_holderBefore_33 rfl rfl rfl rfl rfl ?_
        refine ev_goto (tgt := 5) dX1_holderBefore_36 (by decide) ?_
        exact ih _ (by omega) (nI_m1 _)
      · rw [if_pos h_20]
        refine ev_aload_n (pc' := 24) dX1_holderBefore_23 rfl rfl ?_
        refine ev_getf (pc' := 27) fl_1_27 dX1_holderBefore_24 rfl rfl rfl ?_
        refine ev_iload (pc' := 29) dX1_holderBefore_27 rfl rfl ?_
        refine ev_cNi2 (pc' := 32) cl_1_63 (k_at rfl (by decide)) dX1_holderBefore_29 rfl rfl ?_
        refine ev_ireturn rfl dX1_holderBefore_32 ?_
        rw [e2]
        exact ⟨rfl, rfl⟩
theorem k_holderBefore {d : Nat} (σ : RS) (g : Nat → Int32) (leaf p : Int32) (k : Nat) (hk : k ≤ 120) : Ok (d + 1) M1_holderBefore [.ref 0, .int (nI k), .int leaf, .int p] (WK σ g) (rt (some (.int (kn_hold (σ 4) (σ 6) leaf p k))) (WK σ g)) := by
  refine Ok.of (ls := [some _, some _, some _, some _, none]) (by decide +kernel) (Nat.le_of_ble_eq_true rfl) rfl ?_
  refine ev_iload_n (pc' := 1) dX1_holderBefore_0 rfl rfl ?_
  refine ev_iconst (pc' := 2) (v := 1) dX1_holderBefore_1 rfl (by decide) ?_
  refine ev_isub (pc' := 3) dX1_holderBefore_2 rfl ?_
  refine ev_istore (pc' := 5) (ls' := [_, _, _, _, _]) dX1_holderBefore_3 rfl rfl rfl ?_
  exact k_hold_loop σ g _ leaf p k _ hk rfl
def kn_given (gf : Nat → Int32) (leaf : Int32) : Nat → Int32
  | 0 => 0
  | k + 1 => kn_given gf leaf k + (if gf k = leaf then 1 else 0)
theorem k_given_loop {d : Nat} (σ : RS) (g : Nat → Int32) (leaf : Int32) (n : Nat) (hn : n ≤ 120) : ∀ (c k : Nat), k + c = n → Ev (d + 1) M1_timesGivenBefore (rt (some (.int (kn_given (σ 4) leaf n))) (WK σ g)) 5 [some (.ref 0), some (.int (nI n)), some (.int leaf), some (.int (kn_given (σ 4) leaf k)), some (.int (nI k))] [] (WK σ g) := by
  intro c
  induction c with
  | zero =>
    intro k hk
    have hk : k = n := by omega
    subst hk
    refine ev_iload (pc' := 7) dX1_timesGivenBefore_5 rfl rfl ?_
    refine ev_iload_n (pc' := 8) dX1_timesGivenBefore_7 rfl rfl ?_
    refine ev_icmp_ge (tgt := 38) (pc' := 11) dX1_timesGivenBefore_8 (by decide) rfl (fun h_8 => ?_) (fun h_8 => ?_)
    · refine ev_iload_n (pc' := 39) dX1_timesGivenBefore_38 rfl rfl ?_
      refine ev_ireturn rfl dX1_timesGivenBefore_39 ?_
      exact ⟨rfl, rfl⟩
    · exact absurd (nI_le (Nat.le_refl _) (by omega)) h_8 --
  | succ c ih =>
    intro k hk
    have e1 : atF 120 (σ 4) (nI k) = σ 4 k := atF_nI _ (by omega) (by omega)
    refine ev_iload (pc' := 7) dX1_timesGivenBefore_5 rfl rfl ?_
    refine ev_iload_n (pc' := 8) dX1_timesGivenBefore_7 rfl rfl ?_
    refine ev_icmp_ge (tgt := 38) (pc' := 11) dX1_timesGivenBefore_8 (by decide) rfl (fun h_8 => ?_) (fun h_8 => ?_)
    · exact absurd h_8 (nI_ge (by omega) (by omega)) --
    · refine ev_iload_n (pc' := 12) dX1_timesGivenBefore_11 rfl rfl ?_
      refine ev_aload_n (pc' := 13) dX1_timesGivenBefore_12 rfl rfl ?_
      refine ev_getf (pc' := 16) fl_1_21 dX1_timesGivenBefore_13 rfl rfl rfl ?_
      refine ev_iload (pc' := 18) dX1_timesGivenBefore_16 rfl rfl ?_
      refine ev_cNi2 (pc' := 21) cl_1_63 (k_at rfl (by decide)) dX1_timesGivenBefore_18 rfl rfl ?_
      rw [e1]
      refine ev_iload_n (pc' := 22) dX1_timesGivenBefore_21 rfl rfl ?_
      refine ev_icmp_ne (tgt := 29) (pc' := 25) dX1_timesGivenBefore_22 (by decide) rfl (fun h_22 => ?_) (fun h_22 => ?_)
      · have e2 : kn_given (σ 4) leaf (k + 1) = kn_given (σ 4) leaf k + 0 := by rw [kn_given, if_neg h_22]
        refine ev_iconst (pc' := 30) (v := 0) dX1_timesGivenBefore_29 rfl (by decide) ?_
        refine ev_iadd (pc' := 31) dX1_timesGivenBefore_30 rfl ?_
        refine ev_istore_n (pc' := 32) (ls' := [_, _, _, _, _]) dX1_timesGivenBefore_31 rfl rfl rfl ?_
        refine ev_iinc (pc' := 35) (ls' := [_, _, _, _, _]) dX1_timesGivenBefore_32 rfl rfl rfl rfl rfl ?_
        refine ev_goto (tgt := 5) dX1_timesGivenBefore_35 (by decide) ?_
        rw [nI_p1, ← e2]
        exact ih (k + 1) (by omega)
      · have e2 : kn_given (σ 4) leaf (k + 1) = kn_given (σ 4) leaf k + 1 := by rw [kn_given, if_pos h_22]
        refine ev_iconst (pc' := 26) (v := 1) dX1_timesGivenBefore_25 rfl (by decide) ?_
        refine ev_goto (tgt := 30) dX1_timesGivenBefore_26 (by decide) ?_
        refine ev_iadd (pc' := 31) dX1_timesGivenBefore_30 rfl ?_
        refine ev_istore_n (pc' := 32) (ls' := [_, _, _, _, _]) dX1_timesGivenBefore_31 rfl rfl rfl ?_
        refine ev_iinc (pc' := 35) (ls' := [_, _, _, _, _]) dX1_timesGivenBefore_32 rfl rfl rfl rfl rfl ?_
        refine ev_goto (tgt := 5) dX1_timesGivenBefore_35 (by decide) ?_
        rw [nI_p1, ← e2]
        exact ih (k + 1) (by omega)
theorem k_timesGivenBefore {d : Nat} (σ : RS) (g : Nat → Int32) (leaf : Int32) (n : Nat) (hn : n ≤ 120) : Ok (d + 1) M1_timesGivenBefore [.ref 0, .int (nI n), .int leaf] (WK σ g) (rt (some (.int (kn_given (σ 4) leaf n))) (WK σ g)) := by
  refine Ok.of (ls := [some _, some _, some _, none, none]) (by decide +kernel) (Nat.le_of_ble_eq_true rfl) rfl ?_
  refine ev_iconst (pc' := 1) (v := 0) dX1_timesGivenBefore_0 rfl (by decide) ?_
  refine ev_istore_n (pc' := 2) (ls' := [_, _, _, _, _]) dX1_timesGivenBefore_1 rfl rfl rfl ?_
  refine ev_iconst (pc' := 3) (v := 0) dX1_timesGivenBefore_2 rfl (by decide) ?_
  refine ev_istore (pc' := 5) (ls' := [_, _, _, _, _]) dX1_timesGivenBefore_3 rfl rfl rfl ?_
  exact k_given_loop σ g leaf n hn n 0 (by omega)
/-- a gift's day -/
def kn_day (x : Int32) : Int32 := x - x / 400 * 400
def kn_gain (gf vf tf : Nat → Int32) (p from' to' : Int32) : Nat → Int32
  | 0 => 0
  | k + 1 => if ¬ gf k = -1 ∧ from' ≤ kn_day (gf k) ∧ kn_day (gf k) ≤ to' then kn_gain gf vf tf p from' to' k + (if tf k = p then 1 else 0) - (if vf k = p then 1 else 0) else kn_gain gf vf tf p from' to' k
theorem k_gain_loop {d : Nat} (σ : RS) (g : Nat → Int32) (p a b : Int32) (n : Nat) (hn : n ≤ 120) : ∀ (c k : Nat) (z7 z8 : Option Value), k + c = n → Ev (d + 1) M1_gained (rt (some (.int (kn_gain (σ 4) (σ 5) (σ 6) p a b n))) (WK σ g)) 6 [some (.ref 0), some (.int (nI n)), some (.int p), some (.int a), some (.int b), some (.int (kn_gain (σ 4) (σ 5) (σ 6) p a b k)), some (.int (nI k)), z7, z8] [] (WK σ g) := by
  intro c
  induction c with
  | zero =>
    intro k z7 z8 hk
    have hk : k = n := by omega
    subst hk
    refine ev_iload (pc' := 8) dX1_gained_6 rfl rfl ?_
    refine ev_iload_n (pc' := 9) dX1_gained_8 rfl rfl ?_
    refine ev_icmp_ge (tgt := 102) (pc' := 12) dX1_gained_9 (by decide) rfl (fun h_9 => ?_) (fun h_9 => ?_)
    · refine ev_iload (pc' := 104) dX1_gained_102 rfl rfl ?_
      refine ev_ireturn rfl dX1_gained_104 ?_
      exact ⟨rfl, rfl⟩
    · exact absurd (nI_le (Nat.le_refl _) (by omega)) h_9 --
  | succ c ih =>
    intro k z7 z8 hk
    have e1 : atF 120 (σ 4) (nI k) = σ 4 k := atF_nI _ (by omega) (by omega)
    have e2 : atF 120 (σ 6) (nI k) = σ 6 k := atF_nI _ (by omega) (by omega)
    have e3 : atF 120 (σ 5) (nI k) = σ 5 k := atF_nI _ (by omega) (by omega)
    have e0 : kn_gain (σ 4) (σ 5) (σ 6) p a b (k + 1) = _ := kn_gain.eq_2 (σ 4) (σ 5) (σ 6) p a b k
    refine ev_iload (pc' := 8) dX1_gained_6 rfl rfl ?_
    refine ev_iload_n (pc' := 9) dX1_gained_8 rfl rfl ?_
    refine ev_icmp_ge (tgt := 102) (pc' := 12) dX1_gained_9 (by decide) rfl (fun h_9 => ?_) (fun h_9 => ?_)
    · exact absurd h_9 (nI_ge (by omega) (by omega)) --
    · refine ev_aload_n (pc' := 13) dX1_gained_12 rfl rfl ?_
      refine ev_getf (pc' := 16) fl_1_21 dX1_gained_13 rfl rfl rfl ?_
      refine ev_iload (pc' := 18) dX1_gained_16 rfl rfl ?_
      refine ev_cNi2 (pc' := 21) cl_1_63 (k_at rfl (by decide)) dX1_gained_18 rfl rfl ?_
      rw [e1]
      refine ev_istore (pc' := 23) (ls' := [_, _, _, _, _, _, _, _, _]) dX1_gained_21 rfl rfl rfl ?_
      refine ev_iload (pc' := 25) dX1_gained_23 rfl rfl ?_
      refine ev_sipush (pc' := 28) (v := 400) dX1_gained_25 rfl (by decide) ?_
      refine ev_irem (pc' := 29) dX1_gained_28 rfl (by decide) ?_
      refine ev_istore (pc' := 31) (ls' := [_, _, _, _, _, _, _, _, _]) dX1_gained_29 rfl rfl rfl ?_
      refine ev_iload (pc' := 33) dX1_gained_31 rfl rfl ?_
      refine ev_iconst (pc' := 34) (v := -1) dX1_gained_33 rfl (by decide) ?_
      refine ev_icmp_eq (tgt := 96) (pc' := 37) dX1_gained_34 (by decide) rfl (fun h_34 => ?_) (fun h_34 => ?_)
      · rw [if_neg (fun z => z.1 h_34)] at e0
        refine ev_iinc (pc' := 99) (ls' := [_, _, _, _, _, _, _, _, _]) dX1_gained_96 rfl rfl rfl rfl rfl ?_
        refine ev_goto (tgt := 6) dX1_gained_99 (by decide) ?_
        rw [nI_p1, ← e0]
        exact ih (k + 1) _ _ (by omega)
      · refine ev_iload (pc' := 39) dX1_gained_37 rfl rfl ?_
        refine ev_iload_n (pc' := 40) dX1_gained_39 rfl rfl ?_
        refine ev_icmp_lt (tgt := 96) (pc' := 43) dX1_gained_40 (by decide) rfl (fun h_40 => ?_) (fun h_40 => ?_)
        · rw [if_neg (fun z => absurd h_40 (Int32.not_lt.mpr z.2.1))] at e0
          refine ev_iinc (pc' := 99) (ls' := [_, _, _, _, _, _, _, _, _]) dX1_gained_96 rfl rfl rfl rfl rfl ?_
          refine ev_goto (tgt := 6) dX1_gained_99 (by decide) ?_
          rw [nI_p1, ← e0]
          exact ih (k + 1) _ _ (by omega)
        · refine ev_iload (pc' := 45) dX1_gained_43 rfl rfl ?_
          refine ev_iload (pc' := 47) dX1_gained_45 rfl rfl ?_
          refine ev_icmp_gt (tgt := 96) (pc' := 50) dX1_gained_47 (by decide) rfl (fun h_47 => ?_) (fun h_47 => ?_)
          · rw [if_neg (fun z => absurd h_47 (Int32.not_lt.mpr z.2.2))] at e0
            refine ev_iinc (pc' := 99) (ls' := [_, _, _, _, _, _, _, _, _]) dX1_gained_96 rfl rfl rfl rfl rfl ?_
            refine ev_goto (tgt := 6) dX1_gained_99 (by decide) ?_
            rw [nI_p1, ← e0]
            exact ih (k + 1) _ _ (by omega)
          · rw [if_pos ⟨h_34, Int32.not_lt.mp h_40, Int32.not_lt.mp h_47⟩] at e0
            refine ev_iload (pc' := 52) dX1_gained_50 rfl rfl ?_
            refine ev_aload_n (pc' := 53) dX1_gained_52 rfl rfl ?_
            refine ev_getf (pc' := 56) fl_1_27 dX1_gained_53 rfl rfl rfl ?_
            refine ev_iload (pc' := 58) dX1_gained_56 rfl rfl ?_
            refine ev_cNi2 (pc' := 61) cl_1_63 (k_at rfl (by decide)) dX1_gained_58 rfl rfl ?_
            rw [e2]
            refine ev_iload_n (pc' := 62) dX1_gained_61 rfl rfl ?_
            refine ev_icmp_ne (tgt := 69) (pc' := 65) dX1_gained_62 (by decide) rfl (fun h_62 => ?_) (fun h_62 => ?_)
            · rw [if_neg h_62] at e0
              refine ev_iconst (pc' := 70) (v := 0) dX1_gained_69 rfl (by decide) ?_
              refine ev_iadd (pc' := 71) dX1_gained_70 rfl ?_
              refine ev_istore (pc' := 73) (ls' := [_, _, _, _, _, _, _, _, _]) dX1_gained_71 rfl rfl rfl ?_
              refine ev_iload (pc' := 75) dX1_gained_73 rfl rfl ?_
              refine ev_aload_n (pc' := 76) dX1_gained_75 rfl rfl ?_
              refine ev_getf (pc' := 79) fl_1_24 dX1_gained_76 rfl rfl rfl ?_
              refine ev_iload (pc' := 81) dX1_gained_79 rfl rfl ?_
              refine ev_cNi2 (pc' := 84) cl_1_63 (k_at rfl (by decide)) dX1_gained_81 rfl rfl ?_
              rw [e3]
              refine ev_iload_n (pc' := 85) dX1_gained_84 rfl rfl ?_
              refine ev_icmp_ne (tgt := 92) (pc' := 88) dX1_gained_85 (by decide) rfl (fun h_85 => ?_) (fun h_85 => ?_)
              · rw [if_neg h_85] at e0
                refine ev_iconst (pc' := 93) (v := 0) dX1_gained_92 rfl (by decide) ?_
                refine ev_isub (pc' := 94) dX1_gained_93 rfl ?_
                refine ev_istore (pc' := 96) (ls' := [_, _, _, _, _, _, _, _, _]) dX1_gained_94 rfl rfl rfl ?_
                refine ev_iinc (pc' := 99) (ls' := [_, _, _, _, _, _, _, _, _]) dX1_gained_96 rfl rfl rfl rfl rfl ?_
                refine ev_goto (tgt := 6) dX1_gained_99 (by decide) ?_
                rw [nI_p1, ← e0]
                exact ih (k + 1) _ _ (by omega)
              · rw [if_pos h_85] at e0
                refine ev_iconst (pc' := 89) (v := 1) dX1_gained_88 rfl (by decide) ?_
                refine ev_goto (tgt := 93) dX1_gained_89 (by decide) ?_
                refine ev_isub (pc' := 94) dX1_gained_93 rfl ?_
                refine ev_istore (pc' := 96) (ls' := [_, _, _, _, _, _, _, _, _]) dX1_gained_94 rfl rfl rfl ?_
                refine ev_iinc (pc' := 99) (ls' := [_, _, _, _, _, _, _, _, _]) dX1_gained_96 rfl rfl rfl rfl rfl ?_
                refine ev_goto (tgt := 6) dX1_gained_99 (by decide) ?_
                rw [nI_p1, ← e0]
                exact ih (k + 1) _ _ (by omega)
            · rw [if_pos h_62] at e0
              refine ev_iconst (pc' := 66) (v := 1) dX1_gained_65 rfl (by decide) ?_
              refine ev_goto (tgt := 70) dX1_gained_66 (by decide) ?_
              refine ev_iadd (pc' := 71) dX1_gained_70 rfl ?_
              refine ev_istore (pc' := 73) (ls' := [_, _, _, _, _, _, _, _, _]) dX1_gained_71 rfl rfl rfl ?_
              refine ev_iload (pc' := 75) dX1_gained_73 rfl rfl ?_
              refine ev_aload_n (pc' := 76) dX1_gained_75 rfl rfl ?_
              refine ev_getf (pc' := 79) fl_1_24 dX1_gained_76 rfl rfl rfl ?_
              refine ev_iload (pc' := 81) dX1_gained_79 rfl rfl ?_
              refine ev_cNi2 (pc' := 84) cl_1_63 (k_at rfl (by decide)) dX1_gained_81 rfl rfl ?_
              rw [e3]
              refine ev_iload_n (pc' := 85) dX1_gained_84 rfl rfl ?_
              refine ev_icmp_ne (tgt := 92) (pc' := 88) dX1_gained_85 (by decide) rfl (fun h_85 => ?_) (fun h_85 => ?_)
              · rw [if_neg h_85] at e0
                refine ev_iconst (pc' := 93) (v := 0) dX1_gained_92 rfl (by decide) ?_
                refine ev_isub (pc' := 94) dX1_gained_93 rfl ?_
                refine ev_istore (pc' := 96) (ls' := [_, _, _, _, _, _, _, _, _]) dX1_gained_94 rfl rfl rfl ?_
                refine ev_iinc (pc' := 99) (ls' := [_, _, _, _, _, _, _, _, _]) dX1_gained_96 rfl rfl rfl rfl rfl ?_
                refine ev_goto (tgt := 6) dX1_gained_99 (by decide) ?_
                rw [nI_p1, ← e0]
                exact ih (k + 1) _ _ (by omega)
              · rw [if_pos h_85] at e0
                refine ev_iconst (pc' := 89) (v := 1) dX1_gained_88 rfl (by decide) ?_
                refine ev_goto (tgt := 93) dX1_gained_89 (by decide) ?_
                refine ev_isub (pc' := 94) dX1_gained_93 rfl ?_
                refine ev_istore (pc' := 96) (ls' := [_, _, _, _, _, _, _, _, _]) dX1_gained_94 rfl rfl rfl ?_
                refine ev_iinc (pc' := 99) (ls' := [_, _, _, _, _, _, _, _, _]) dX1_gained_96 rfl rfl rfl rfl rfl ?_
                refine ev_goto (tgt := 6) dX1_gained_99 (by decide) ?_
                rw [nI_p1, ← e0]
                exact ih (k + 1) _ _ (by omega)
theorem k_gained {d : Nat} (σ : RS) (g : Nat → Int32) (p a b : Int32) (n : Nat) (hn : n ≤ 120) : Ok (d + 1) M1_gained [.ref 0, .int (nI n), .int p, .int a, .int b] (WK σ g) (rt (some (.int (kn_gain (σ 4) (σ 5) (σ 6) p a b n))) (WK σ g)) := by
  refine Ok.of (ls := [some _, some _, some _, some _, some _, none, none, none, none]) (by decide +kernel) (Nat.le_of_ble_eq_true rfl) rfl ?_
  refine ev_iconst (pc' := 1) (v := 0) dX1_gained_0 rfl (by decide) ?_
  refine ev_istore (pc' := 3) (ls' := [_, _, _, _, _, _, _, _, _]) dX1_gained_1 rfl rfl rfl ?_
  refine ev_iconst (pc' := 4) (v := 0) dX1_gained_3 rfl (by decide) ?_
  refine ev_istore (pc' := 6) (ls' := [_, _, _, _, _, _, _, _, _]) dX1_gained_4 rfl rfl rfl ?_
  exact k_gain_loop σ g p a b n hn n 0 _ _ (by omega)
def kn_age (σ : RS) (p day : Int32) (n : Nat) : Int32 := atF 8 (σ 11) p + day + 1 + kn_gain (σ 4) (σ 5) (σ 6) p 0 day n
theorem k_ageBefore {d : Nat} (σ : RS) (g : Nat → Int32) (p day : Int32) (n : Nat) (hn : n ≤ 120) : Ok (d + 2) M1_ageBefore [.ref 0, .int (nI n), .int p, .int day] (WK σ g) (rt (some (.int (kn_age σ p day n))) (WK σ g)) := by
  refine Ok.of (ls := [some _, some _, some _, some _]) (by decide +kernel) (Nat.le_of_ble_eq_true rfl) rfl ?_
  refine ev_aload_n (pc' := 1) dX1_ageBefore_0 rfl rfl ?_
  refine ev_getf (pc' := 4) fl_1_49 dX1_ageBefore_1 rfl rfl rfl ?_
  refine ev_iload_n (pc' := 5) dX1_ageBefore_4 rfl rfl ?_
  refine ev_cVi1 (pc' := 8) cl_1_210 (kK_livedAhead _ _ _) dX1_ageBefore_5 rfl rfl rfl rfl ?_
  refine ev_iload_n (pc' := 9) dX1_ageBefore_8 rfl rfl ?_
  refine ev_iadd (pc' := 10) dX1_ageBefore_9 rfl ?_
  refine ev_iconst (pc' := 11) (v := 1) dX1_ageBefore_10 rfl (by decide) ?_
  refine ev_iadd (pc' := 12) dX1_ageBefore_11 rfl ?_
  refine ev_aload_n (pc' := 13) dX1_ageBefore_12 rfl rfl ?_
  refine ev_iload_n (pc' := 14) dX1_ageBefore_13 rfl rfl ?_
  refine ev_iload_n (pc' := 15) dX1_ageBefore_14 rfl rfl ?_
  refine ev_iconst (pc' := 16) (v := 0) dX1_ageBefore_15 rfl (by decide) ?_
  refine ev_iload_n (pc' := 17) dX1_ageBefore_16 rfl rfl ?_
  refine ev_cVi4 (pc' := 20) cl_1_106 (k_gained σ g _ _ _ n hn) dX1_ageBefore_17 rfl rfl rfl rfl ?_
  refine ev_iadd (pc' := 21) dX1_ageBefore_20 rfl ?_
  refine ev_ireturn rfl dX1_ageBefore_21 ?_
  exact ⟨rfl, rfl⟩
theorem k_ageOf {d : Nat} (σ : RS) (g : Nat → Int32) (p day : Int32) (n : Nat) (hn : n ≤ 120) (h13 : σ 0 13 = nI n) : Ok (d + 3) M1_ageOf [.ref 0, .int p, .int day] (WK σ g) (rt (some (.int (kn_age σ p day n))) (WK σ g)) := by
  refine Ok.of (ls := [some _, some _, some _]) (by decide +kernel) (Nat.le_of_ble_eq_true rfl) rfl ?_
  refine ev_aload_n (pc' := 1) dX1_ageOf_0 rfl rfl ?_
  refine ev_aload_n (pc' := 2) dX1_ageOf_1 rfl rfl ?_
  refine ev_getf (pc' := 5) fl_1_46 dX1_ageOf_2 rfl rfl rfl ?_
  rw [h13]
  refine ev_iload_n (pc' := 6) dX1_ageOf_5 rfl rfl ?_
  refine ev_iload_n (pc' := 7) dX1_ageOf_6 rfl rfl ?_
  refine ev_cVi3 (pc' := 10) cl_1_110 (k_ageBefore σ g _ _ n hn) dX1_ageOf_7 rfl rfl rfl rfl ?_
  refine ev_ireturn rfl dX1_ageOf_10 ?_
  exact ⟨rfl, rfl⟩
def kn_awake (σ : RS) (p day : Int32) (n : Nat) : Int32 := 1 + kn_gain (σ 4) (σ 5) (σ 6) p day day n
theorem k_timesAwake {d : Nat} (σ : RS) (g : Nat → Int32) (p day : Int32) (n : Nat) (hn : n ≤ 120) (h13 : σ 0 13 = nI n) : Ok (d + 2) M1_timesAwake [.ref 0, .int p, .int day] (WK σ g) (rt (some (.int (kn_awake σ p day n))) (WK σ g)) := by
  refine Ok.of (ls := [some _, some _, some _]) (by decide +kernel) (Nat.le_of_ble_eq_true rfl) rfl ?_
  refine ev_iconst (pc' := 1) (v := 1) dX1_timesAwake_0 rfl (by decide) ?_
  refine ev_aload_n (pc' := 2) dX1_timesAwake_1 rfl rfl ?_
  refine ev_aload_n (pc' := 3) dX1_timesAwake_2 rfl rfl ?_
  refine ev_getf (pc' := 6) fl_1_46 dX1_timesAwake_3 rfl rfl rfl ?_
  rw [h13]
  refine ev_iload_n (pc' := 7) dX1_timesAwake_6 rfl rfl ?_
  refine ev_iload_n (pc' := 8) dX1_timesAwake_7 rfl rfl ?_
  refine ev_iload_n (pc' := 9) dX1_timesAwake_8 rfl rfl ?_
  refine ev_cVi4 (pc' := 12) cl_1_106 (k_gained σ g _ _ _ n hn) dX1_timesAwake_9 rfl rfl rfl rfl ?_
  refine ev_iadd (pc' := 13) dX1_timesAwake_12 rfl ?_
  refine ev_ireturn rfl dX1_timesAwake_13 ?_
  exact ⟨rfl, rfl⟩
theorem k_holderOf {d : Nat} (σ : RS) (g : Nat → Int32) (p day : Int32) (n : Nat) (hn : n ≤ 120) (h13 : σ 0 13 = nI n) : Ok (d + 2) M1_holderOf [.ref 0, .int p, .int day] (WK σ g) (rt (some (.int (kn_hold (σ 4) (σ 6) (p * 400 + day) p n))) (WK σ g)) := by
  refine Ok.of (ls := [some _, some _, some _]) (by decide +kernel) (Nat.le_of_ble_eq_true rfl) rfl ?_
  refine ev_aload_n (pc' := 1) dX1_holderOf_0 rfl rfl ?_
  refine ev_aload_n (pc' := 2) dX1_holderOf_1 rfl rfl ?_
  refine ev_getf (pc' := 5) fl_1_46 dX1_holderOf_2 rfl rfl rfl ?_
  rw [h13]
  refine ev_iload_n (pc' := 6) dX1_holderOf_5 rfl rfl ?_
  refine ev_iload_n (pc' := 7) dX1_holderOf_6 rfl rfl ?_
  refine ev_cSi2 (pc' := 10) cl_1_98 (k_leaf _ _ _) dX1_holderOf_7 rfl rfl ?_
  refine ev_iload_n (pc' := 11) dX1_holderOf_10 rfl rfl ?_
  refine ev_cVi3 (pc' := 14) cl_1_102 (k_holderBefore σ g _ _ n hn) dX1_holderOf_11 rfl rfl rfl rfl ?_
  refine ev_ireturn rfl dX1_holderOf_14 ?_
  exact ⟨rfl, rfl⟩
def kn_debt (σ : RS) (n a b : Int32) : Int32 := atF 7744 (σ 7) (n * 64 + a * 8 + b)
theorem k_debt {d : Nat} (σ : RS) (g : Nat → Int32) (n a b : Int32) : Ok (d + 1) M1_debt [.ref 0, .int n, .int a, .int b] (WK σ g) (rt (some (.int (kn_debt σ n a b))) (WK σ g)) := by
  refine Ok.of (ls := [some _, some _, some _, some _]) (by decide +kernel) (Nat.le_of_ble_eq_true rfl) rfl ?_
  refine ev_aload_n (pc' := 1) dX1_debt_0 rfl rfl ?_
  refine ev_getf (pc' := 4) fl_1_30 dX1_debt_1 rfl rfl rfl ?_
  refine ev_iload_n (pc' := 5) dX1_debt_4 rfl rfl ?_
  refine ev_iload_n (pc' := 6) dX1_debt_5 rfl rfl ?_
  refine ev_iload_n (pc' := 7) dX1_debt_6 rfl rfl ?_
  refine ev_cSi3 (pc' := 10) cl_1_116 (k_cell _ _ _ _) dX1_debt_7 rfl rfl ?_
  refine ev_cNi2 (pc' := 13) cl_1_63 (k_at rfl (by decide)) dX1_debt_10 rfl rfl ?_
  refine ev_ireturn rfl dX1_debt_13 ?_
  exact ⟨rfl, rfl⟩
theorem k_owedBy_loop {d : Nat} (σ : RS) (g : Nat → Int32) (n p : Int32) : ∀ (c k : Nat), k + c = 8 → Ev (d + 2) M1_owedBy (rt (some (.int (sumTo (fun o => kn_debt σ n p (nI o)) 8))) (WK σ g)) 5 [some (.ref 0), some (.int n), some (.int p), some (.int (sumTo (fun o => kn_debt σ n p (nI o)) k)), some (.int (nI k))] [] (WK σ g) := by
  intro c
  induction c with
  | zero =>
    intro k hk
    have hk : k = 8 := by omega
    subst hk
    refine ev_iload (pc' := 7) dX1_owedBy_5 rfl rfl ?_
    refine ev_bipush (pc' := 9) (v := 8) dX1_owedBy_7 rfl (by decide) ?_
    refine ev_icmp_ge (tgt := 29) (pc' := 12) dX1_owedBy_9 (by decide) rfl (fun h_9 => ?_) (fun h_9 => ?_)
    · refine ev_iload_n (pc' := 30) dX1_owedBy_29 rfl rfl ?_
      refine ev_ireturn rfl dX1_owedBy_30 ?_
      exact ⟨rfl, rfl⟩
    · exact absurd (show (8 : Int32) ≤ nI 8 from nI_le (a := 8) (by omega) (by omega)) h_9 --
  | succ c ih =>
    intro k hk
    refine ev_iload (pc' := 7) dX1_owedBy_5 rfl rfl ?_
    refine ev_bipush (pc' := 9) (v := 8) dX1_owedBy_7 rfl (by decide) ?_
    refine ev_icmp_ge (tgt := 29) (pc' := 12) dX1_owedBy_9 (by decide) rfl (fun h_9 => ?_) (fun h_9 => ?_)
    · exact absurd h_9 (nI_ge (b := 8) (by omega) (by omega)) --
    · refine ev_iload_n (pc' := 13) dX1_owedBy_12 rfl rfl ?_
      refine ev_aload_n (pc' := 14) dX1_owedBy_13 rfl rfl ?_
      refine ev_iload_n (pc' := 15) dX1_owedBy_14 rfl rfl ?_
      refine ev_iload_n (pc' := 16) dX1_owedBy_15 rfl rfl ?_
      refine ev_iload (pc' := 18) dX1_owedBy_16 rfl rfl ?_
      refine ev_cVi3 (pc' := 21) cl_1_119 (k_debt _ _ _ _ _) dX1_owedBy_18 rfl rfl rfl rfl ?_
      refine ev_iadd (pc' := 22) dX1_owedBy_21 rfl ?_
      refine ev_istore_n (pc' := 23) (ls' := [_, _, _, _, _]) dX1_owedBy_22 rfl rfl rfl ?_
      refine ev_iinc (pc' := 26) (ls' := [_, _, _, _, _]) dX1_owedBy_23 rfl rfl rfl rfl rfl ?_
      refine ev_goto (tgt := 5) dX1_owedBy_26 (by decide) ?_
      rw [nI_p1]
      exact ih (k + 1) (by omega)
theorem k_owedBy {d : Nat} (σ : RS) (g : Nat → Int32) (n p : Int32) : Ok (d + 2) M1_owedBy [.ref 0, .int n, .int p] (WK σ g) (rt (some (.int (sumTo (fun o => kn_debt σ n p (nI o)) 8))) (WK σ g)) := by
  refine Ok.of (ls := [some _, some _, some _, none, none]) (by decide +kernel) (Nat.le_of_ble_eq_true rfl) rfl ?_
  refine ev_iconst (pc' := 1) (v := 0) dX1_owedBy_0 rfl (by decide) ?_
  refine ev_istore_n (pc' := 2) (ls' := [_, _, _, _, _]) dX1_owedBy_1 rfl rfl rfl ?_
  refine ev_iconst (pc' := 3) (v := 0) dX1_owedBy_2 rfl (by decide) ?_
  refine ev_istore (pc' := 5) (ls' := [_, _, _, _, _]) dX1_owedBy_3 rfl rfl rfl ?_
  exact k_owedBy_loop σ g n p 8 0 rfl
theorem k_owedTo_loop {d : Nat} (σ : RS) (g : Nat → Int32) (n p : Int32) : ∀ (c k : Nat), k + c = 8 → Ev (d + 2) M1_owedTo (rt (some (.int (sumTo (fun o => kn_debt σ n (nI o) p) 8))) (WK σ g)) 5 [some (.ref 0), some (.int n), some (.int p), some (.int (sumTo (fun o => kn_debt σ n (nI o) p) k)), some (.int (nI k))] [] (WK σ g) := by
  intro c
  induction c with
  | zero =>
    intro k hk
    have hk : k = 8 := by omega
    subst hk
    refine ev_iload (pc' := 7) dX1_owedTo_5 rfl rfl ?_
    refine ev_bipush (pc' := 9) (v := 8) dX1_owedTo_7 rfl (by decide) ?_
    refine ev_icmp_ge (tgt := 29) (pc' := 12) dX1_owedTo_9 (by decide) rfl (fun h_9 => ?_) (fun h_9 => ?_)
    · refine ev_iload_n (pc' := 30) dX1_owedTo_29 rfl rfl ?_
      refine ev_ireturn rfl dX1_owedTo_30 ?_
      exact ⟨rfl, rfl⟩
    · exact absurd (show (8 : Int32) ≤ nI 8 from nI_le (a := 8) (by omega) (by omega)) h_9 --
  | succ c ih =>
    intro k hk
    refine ev_iload (pc' := 7) dX1_owedTo_5 rfl rfl ?_
    refine ev_bipush (pc' := 9) (v := 8) dX1_owedTo_7 rfl (by decide) ?_
    refine ev_icmp_ge (tgt := 29) (pc' := 12) dX1_owedTo_9 (by decide) rfl (fun h_9 => ?_) (fun h_9 => ?_)
    · exact absurd h_9 (nI_ge (b := 8) (by omega) (by omega)) --
    · refine ev_iload_n (pc' := 13) dX1_owedTo_12 rfl rfl ?_
      refine ev_aload_n (pc' := 14) dX1_owedTo_13 rfl rfl ?_
      refine ev_iload_n (pc' := 15) dX1_owedTo_14 rfl rfl ?_
      refine ev_iload (pc' := 17) dX1_owedTo_15 rfl rfl ?_
      refine ev_iload_n (pc' := 18) dX1_owedTo_17 rfl rfl ?_
      refine ev_cVi3 (pc' := 21) cl_1_119 (k_debt _ _ _ _ _) dX1_owedTo_18 rfl rfl rfl rfl ?_
      refine ev_iadd (pc' := 22) dX1_owedTo_21 rfl ?_
      refine ev_istore_n (pc' := 23) (ls' := [_, _, _, _, _]) dX1_owedTo_22 rfl rfl rfl ?_
      refine ev_iinc (pc' := 26) (ls' := [_, _, _, _, _]) dX1_owedTo_23 rfl rfl rfl rfl rfl ?_
      refine ev_goto (tgt := 5) dX1_owedTo_26 (by decide) ?_
      rw [nI_p1]
      exact ih (k + 1) (by omega)
theorem k_owedTo {d : Nat} (σ : RS) (g : Nat → Int32) (n p : Int32) : Ok (d + 2) M1_owedTo [.ref 0, .int n, .int p] (WK σ g) (rt (some (.int (sumTo (fun o => kn_debt σ n (nI o) p) 8))) (WK σ g)) := by
  refine Ok.of (ls := [some _, some _, some _, none, none]) (by decide +kernel) (Nat.le_of_ble_eq_true rfl) rfl ?_
  refine ev_iconst (pc' := 1) (v := 0) dX1_owedTo_0 rfl (by decide) ?_
  refine ev_istore_n (pc' := 2) (ls' := [_, _, _, _, _]) dX1_owedTo_1 rfl rfl rfl ?_
  refine ev_iconst (pc' := 3) (v := 0) dX1_owedTo_2 rfl (by decide) ?_
  refine ev_istore (pc' := 5) (ls' := [_, _, _, _, _]) dX1_owedTo_3 rfl rfl rfl ?_
  exact k_owedTo_loop σ g n p 8 0 rfl
def kn_leaf (σ : RS) (x : Int32) : Int32 := if b_kind (bk σ) x = 2 then -1 else atF 120 (σ 15) x * 400 + atF 120 (σ 16) x
theorem k_leafOf {d : Nat} (σ : RS) (g : Nat → Int32) (x : Int32) : Ok (d + 2) M1_leafOf [.ref 0, .int x] (WK σ g) (rt (some (.int (kn_leaf σ x))) (WK σ g)) := by
  refine Ok.of (ls := [some _, some _, none]) (by decide +kernel) (Nat.le_of_ble_eq_true rfl) rfl ?_
  refine ev_aload_n (pc' := 1) dX1_leafOf_0 rfl rfl ?_
  refine ev_getf (pc' := 4) fl_1_49 dX1_leafOf_1 rfl rfl rfl ?_
  refine ev_iload_n (pc' := 5) dX1_leafOf_4 rfl rfl ?_
  refine ev_cVi1 (pc' := 8) cl_1_164 (kK_kindOf _ _ _) dX1_leafOf_5 rfl rfl rfl rfl ?_
  refine ev_iconst (pc' := 9) (v := 2) dX1_leafOf_8 rfl (by decide) ?_
  refine ev_icmp_ne (tgt := 16) (pc' := 12) dX1_leafOf_9 (by decide) rfl (fun h_9 => ?_) (fun h_9 => ?_)
  · have e : kn_leaf σ x = _ := if_neg h_9
    refine ev_iconst (pc' := 17) (v := 0) dX1_leafOf_16 rfl (by decide) ?_
    refine ev_istore_n (pc' := 18) (ls' := [_, _, _]) dX1_leafOf_17 rfl rfl rfl ?_
    refine ev_iload_n (pc' := 19) dX1_leafOf_18 rfl rfl ?_
    refine ev_if_eq (tgt := 26) (pc' := 22) dX1_leafOf_19 (by decide) rfl (fun h_19 => ?_) (fun h_19 => ?_)
    · refine ev_aload_n (pc' := 27) dX1_leafOf_26 rfl rfl ?_
      refine ev_getf (pc' := 30) fl_1_49 dX1_leafOf_27 rfl rfl rfl ?_
      refine ev_iload_n (pc' := 31) dX1_leafOf_30 rfl rfl ?_
      refine ev_cVi1 (pc' := 34) cl_1_167 (kK_thingOf _ _ _) dX1_leafOf_31 rfl rfl rfl rfl ?_
      refine ev_aload_n (pc' := 35) dX1_leafOf_34 rfl rfl ?_
      refine ev_getf (pc' := 38) fl_1_49 dX1_leafOf_35 rfl rfl rfl ?_
      refine ev_iload_n (pc' := 39) dX1_leafOf_38 rfl rfl ?_
      refine ev_cVi1 (pc' := 42) cl_1_142 (kK_dayOf _ _ _) dX1_leafOf_39 rfl rfl rfl rfl ?_
      refine ev_cSi2 (pc' := 45) cl_1_98 (k_leaf _ _ _) dX1_leafOf_42 rfl rfl ?_
      refine ev_ireturn rfl dX1_leafOf_45 ?_
      exact rt_i e.symm rfl
    · first | exact absurd h_19 (by decide) | exact absurd (by decide) h_19 --
  · have e : kn_leaf σ x = -1 := if_pos h_9
    refine ev_iconst (pc' := 13) (v := 1) dX1_leafOf_12 rfl (by decide) ?_
    refine ev_goto (tgt := 17) dX1_leafOf_13 (by decide) ?_
    refine ev_istore_n (pc' := 18) (ls' := [_, _, _]) dX1_leafOf_17 rfl rfl rfl ?_
    refine ev_iload_n (pc' := 19) dX1_leafOf_18 rfl rfl ?_
    refine ev_if_eq (tgt := 26) (pc' := 22) dX1_leafOf_19 (by decide) rfl (fun h_19 => ?_) (fun h_19 => ?_)
    · first | exact absurd h_19 (by decide) | exact absurd (by decide) h_19 --
    · refine ev_iconst (pc' := 23) (v := -1) dX1_leafOf_22 rfl (by decide) ?_
      refine ev_goto (tgt := 45) dX1_leafOf_23 (by decide) ?_
      refine ev_ireturn rfl dX1_leafOf_45 ?_
      exact rt_i e.symm rfl
/-- the i-th link of a chain: the holder and the links, from place k on -/
def kn_link (gf tf : Nat → Int32) (leaf i : Int32) : Nat → Nat → Int32 → Int32 → Int32 × Int32
  | 0, _, h, l => (h, l)
  | c + 1, k, h, l => if l < i then (if gf k = leaf then kn_link gf tf leaf i c (k + 1) (tf k) (l + 1) else kn_link gf tf leaf i c (k + 1) h l) else (h, l)
theorem k_link_loop {d : Nat} {Q : Option Value → MW → Prop} (σ : RS) (g : Nat → Int32) (p day i : Int32) (n : Nat) (hn : n ≤ 120) (h13 : σ 0 13 = nI n) : ∀ (c k : Nat) (h l : Int32), k + c = n → (∀ x6, Ev (d + 1) M1_linkOf Q 61 [some (.ref 0), some (.int p), some (.int day), some (.int i), some (.int (kn_link (σ 4) (σ 6) (p * 400 + day) i c k h l).1), some (.int (kn_link (σ 4) (σ 6) (p * 400 + day) i c k h l).2), some (.int x6)] [] (WK σ g)) → Ev (d + 1) M1_linkOf Q 9 [some (.ref 0), some (.int p), some (.int day), some (.int i), some (.int h), some (.int l), some (.int (nI k))] [] (WK σ g) := by
  intro c
  induction c with
  | zero =>
    intro k h l hk kk
    have hk : k = n := by omega
    subst hk
    refine ev_iload (pc' := 11) dX1_linkOf_9 rfl rfl ?_
    refine ev_aload_n (pc' := 12) dX1_linkOf_11 rfl rfl ?_
    refine ev_getf (pc' := 15) fl_1_46 dX1_linkOf_12 rfl rfl rfl ?_
    refine ev_icmp_ge (tgt := 61) (pc' := 18) dX1_linkOf_15 (by decide) rfl (fun h_15 => ?_) (fun h_15 => ?_)
    · exact kk _ --
    · exact absurd (by rw [h13]; exact nI_le (Nat.le_refl _) (by omega)) h_15 --
  | succ c ih =>
    intro k h l hk kk
    have e1 : atF 120 (σ 4) (nI k) = σ 4 k := atF_nI _ (by omega) (by omega)
    have e2 : atF 120 (σ 6) (nI k) = σ 6 k := atF_nI _ (by omega) (by omega)
    rw [kn_link] at kk
    refine ev_iload (pc' := 11) dX1_linkOf_9 rfl rfl ?_
    refine ev_aload_n (pc' := 12) dX1_linkOf_11 rfl rfl ?_
    refine ev_getf (pc' := 15) fl_1_46 dX1_linkOf_12 rfl rfl rfl ?_
    refine ev_icmp_ge (tgt := 61) (pc' := 18) dX1_linkOf_15 (by decide) rfl (fun h_15 => ?_) (fun h_15 => ?_)
    · exact absurd h_15 (by rw [h13]; exact nI_ge (by omega) (by omega)) --
    · refine ev_iload (pc' := 20) dX1_linkOf_18 rfl rfl ?_
      refine ev_iload_n (pc' := 21) dX1_linkOf_20 rfl rfl ?_
      refine ev_icmp_ge (tgt := 61) (pc' := 24) dX1_linkOf_21 (by decide) rfl (fun h_21 => ?_) (fun h_21 => ?_)
      · rw [if_neg (Int32.not_lt.mpr h_21)] at kk
        exact kk _ --
      · rw [if_pos (Int32.not_le.mp h_21)] at kk
        refine ev_aload_n (pc' := 25) dX1_linkOf_24 rfl rfl ?_
        refine ev_getf (pc' := 28) fl_1_21 dX1_linkOf_25 rfl rfl rfl ?_
        refine ev_iload (pc' := 30) dX1_linkOf_28 rfl rfl ?_
        refine ev_cNi2 (pc' := 33) cl_1_63 (k_at rfl (by decide)) dX1_linkOf_30 rfl rfl ?_
        rw [e1]
        refine ev_iload_n (pc' := 34) dX1_linkOf_33 rfl rfl ?_
        refine ev_iload_n (pc' := 35) dX1_linkOf_34 rfl rfl ?_
        refine ev_cSi2 (pc' := 38) cl_1_98 (k_leaf _ _ _) dX1_linkOf_35 rfl rfl ?_
        refine ev_icmp_ne (tgt := 55) (pc' := 41) dX1_linkOf_38 (by decide) rfl (fun h_38 => ?_) (fun h_38 => ?_)
        · rw [if_neg h_38] at kk
          refine ev_iinc (pc' := 58) (ls' := [_, _, _, _, _, _, _]) dX1_linkOf_55 rfl rfl rfl rfl rfl ?_
          refine ev_goto (tgt := 9) dX1_linkOf_58 (by decide) ?_
          rw [nI_p1]
          exact ih (k + 1) _ _ (by omega) kk
        · rw [if_pos h_38] at kk
          refine ev_aload_n (pc' := 42) dX1_linkOf_41 rfl rfl ?_
          refine ev_getf (pc' := 45) fl_1_27 dX1_linkOf_42 rfl rfl rfl ?_
          refine ev_iload (pc' := 47) dX1_linkOf_45 rfl rfl ?_
          refine ev_cNi2 (pc' := 50) cl_1_63 (k_at rfl (by decide)) dX1_linkOf_47 rfl rfl ?_
          rw [e2]
          refine ev_istore (pc' := 52) (ls' := [_, _, _, _, _, _, _]) dX1_linkOf_50 rfl rfl rfl ?_
          refine ev_iinc (pc' := 55) (ls' := [_, _, _, _, _, _, _]) dX1_linkOf_52 rfl rfl rfl rfl rfl ?_
          refine ev_iinc (pc' := 58) (ls' := [_, _, _, _, _, _, _]) dX1_linkOf_55 rfl rfl rfl rfl rfl ?_
          refine ev_goto (tgt := 9) dX1_linkOf_58 (by decide) ?_
          rw [nI_p1]
          exact ih (k + 1) _ _ (by omega) kk
def kn_linkV (σ : RS) (p day i : Int32) (n : Nat) : Int32 := if (kn_link (σ 4) (σ 6) (p * 400 + day) i n 0 p 0).2 = i then (kn_link (σ 4) (σ 6) (p * 400 + day) i n 0 p 0).1 else -1
theorem k_linkOf {d : Nat} (σ : RS) (g : Nat → Int32) (p day i : Int32) (n : Nat) (hn : n ≤ 120) (h13 : σ 0 13 = nI n) : Ok (d + 1) M1_linkOf [.ref 0, .int p, .int day, .int i] (WK σ g) (rt (some (.int (kn_linkV σ p day i n))) (WK σ g)) := by
  refine Ok.of (ls := [some _, some _, some _, some _, none, none, none]) (by decide +kernel) (Nat.le_of_ble_eq_true rfl) rfl ?_
  refine ev_iload_n (pc' := 1) dX1_linkOf_0 rfl rfl ?_
  refine ev_istore (pc' := 3) (ls' := [_, _, _, _, _, _, _]) dX1_linkOf_1 rfl rfl rfl ?_
  refine ev_iconst (pc' := 4) (v := 0) dX1_linkOf_3 rfl (by decide) ?_
  refine ev_istore (pc' := 6) (ls' := [_, _, _, _, _, _, _]) dX1_linkOf_4 rfl rfl rfl ?_
  refine ev_iconst (pc' := 7) (v := 0) dX1_linkOf_6 rfl (by decide) ?_
  refine ev_istore (pc' := 9) (ls' := [_, _, _, _, _, _, _]) dX1_linkOf_7 rfl rfl rfl ?_
  refine k_link_loop σ g p day i n hn h13 n 0 p 0 (by omega) (fun x6 => ?_)
  refine ev_iload (pc' := 63) dX1_linkOf_61 rfl rfl ?_
  refine ev_iload_n (pc' := 64) dX1_linkOf_63 rfl rfl ?_
  refine ev_icmp_ne (tgt := 72) (pc' := 67) dX1_linkOf_64 (by decide) rfl (fun h_64 => ?_) (fun h_64 => ?_)
  · refine ev_iconst (pc' := 73) (v := -1) dX1_linkOf_72 rfl (by decide) ?_
    refine ev_ireturn rfl dX1_linkOf_73 ?_
    refine rt_i ?_ rfl
    unfold kn_linkV
    first | rw [if_pos h_64] | rw [if_neg h_64]
  · refine ev_iload (pc' := 69) dX1_linkOf_67 rfl rfl ?_
    refine ev_goto (tgt := 73) dX1_linkOf_69 (by decide) ?_
    refine ev_ireturn rfl dX1_linkOf_73 ?_
    refine rt_i ?_ rfl
    unfold kn_linkV
    first | rw [if_pos h_64] | rw [if_neg h_64]
/-- how many papers were made on days up to one -/
def kn_upTo (df of : Nat → Int32) (day : Int32) : Nat → Nat → Nat
  | 0, k => k
  | c + 1, k => if atF 120 df (of k) ≤ day then kn_upTo df of day c (k + 1) else k
theorem kn_upTo_le (df of : Nat → Int32) (day : Int32) : ∀ c k, kn_upTo df of day c k ≤ k + c := by
  intro c
  induction c with
  | zero => intro k; exact Nat.le_refl _
  | succ c ih =>
    intro k
    rw [kn_upTo]
    split
    · have := ih (k + 1); omega
    · omega
theorem k_upTo_loop {d : Nat} (σ : RS) (g : Nat → Int32) (day : Int32) (n : Nat) (hn : n ≤ 120) (h13 : σ 0 13 = nI n) : ∀ (c k : Nat), k + c = n → Ev (d + 2) M1_papersUpTo (rt (some (.int (nI (kn_upTo (σ 13) (σ 3) day c k)))) (WK σ g)) 2 [some (.ref 0), some (.int day), some (.int (nI k))] [] (WK σ g) := by
  intro c
  induction c with
  | zero =>
    intro k hk
    have hk : k = n := by omega
    subst hk
    refine ev_iload_n (pc' := 3) dX1_papersUpTo_2 rfl rfl ?_
    refine ev_aload_n (pc' := 4) dX1_papersUpTo_3 rfl rfl ?_
    refine ev_getf (pc' := 7) fl_1_46 dX1_papersUpTo_4 rfl rfl rfl ?_
    refine ev_icmp_ge (tgt := 35) (pc' := 10) dX1_papersUpTo_7 (by decide) rfl (fun h_7 => ?_) (fun h_7 => ?_)
    · refine ev_iload_n (pc' := 36) dX1_papersUpTo_35 rfl rfl ?_
      refine ev_ireturn rfl dX1_papersUpTo_36 ?_
      exact ⟨rfl, rfl⟩
    · exact absurd (by rw [h13]; exact nI_le (Nat.le_refl _) (by omega)) h_7 --
  | succ c ih =>
    intro k hk
    have e1 : atF 120 (σ 3) (nI k) = σ 3 k := atF_nI _ (by omega) (by omega)
    rw [kn_upTo]
    refine ev_iload_n (pc' := 3) dX1_papersUpTo_2 rfl rfl ?_
    refine ev_aload_n (pc' := 4) dX1_papersUpTo_3 rfl rfl ?_
    refine ev_getf (pc' := 7) fl_1_46 dX1_papersUpTo_4 rfl rfl rfl ?_
    refine ev_icmp_ge (tgt := 35) (pc' := 10) dX1_papersUpTo_7 (by decide) rfl (fun h_7 => ?_) (fun h_7 => ?_)
    · exact absurd h_7 (by rw [h13]; exact nI_ge (by omega) (by omega)) --
    · refine ev_aload_n (pc' := 11) dX1_papersUpTo_10 rfl rfl ?_
      refine ev_getf (pc' := 14) fl_1_49 dX1_papersUpTo_11 rfl rfl rfl ?_
      refine ev_aload_n (pc' := 15) dX1_papersUpTo_14 rfl rfl ?_
      refine ev_getf (pc' := 18) fl_1_18 dX1_papersUpTo_15 rfl rfl rfl ?_
      refine ev_iload_n (pc' := 19) dX1_papersUpTo_18 rfl rfl ?_
      refine ev_cNi2 (pc' := 22) cl_1_63 (k_at rfl (by decide)) dX1_papersUpTo_19 rfl rfl ?_
      rw [e1]
      refine ev_cVi1 (pc' := 25) cl_1_113 (kK_madeOn _ _ _) dX1_papersUpTo_22 rfl rfl rfl rfl ?_
      refine ev_iload_n (pc' := 26) dX1_papersUpTo_25 rfl rfl ?_
      refine ev_icmp_gt (tgt := 35) (pc' := 29) dX1_papersUpTo_26 (by decide) rfl (fun h_26 => ?_) (fun h_26 => ?_)
      · rw [if_neg (Int32.not_le.mpr h_26)]
        refine ev_iload_n (pc' := 36) dX1_papersUpTo_35 rfl rfl ?_
        refine ev_ireturn rfl dX1_papersUpTo_36 ?_
        exact ⟨rfl, rfl⟩
      · rw [if_pos (Int32.not_lt.mp h_26)]
        refine ev_iinc (pc' := 32) (ls' := [_, _, _]) dX1_papersUpTo_29 rfl rfl rfl rfl rfl ?_
        refine ev_goto (tgt := 2) dX1_papersUpTo_32 (by decide) ?_
        rw [nI_p1]
        exact ih (k + 1) (by omega)
theorem k_papersUpTo {d : Nat} (σ : RS) (g : Nat → Int32) (day : Int32) (n : Nat) (hn : n ≤ 120) (h13 : σ 0 13 = nI n) : Ok (d + 2) M1_papersUpTo [.ref 0, .int day] (WK σ g) (rt (some (.int (nI (kn_upTo (σ 13) (σ 3) day n 0)))) (WK σ g)) := by
  refine Ok.of (ls := [some _, some _, none]) (by decide +kernel) (Nat.le_of_ble_eq_true rfl) rfl ?_
  refine ev_iconst (pc' := 1) (v := 0) dX1_papersUpTo_0 rfl (by decide) ?_
  refine ev_istore_n (pc' := 2) (ls' := [_, _, _]) dX1_papersUpTo_1 rfl rfl rfl ?_
  exact k_upTo_loop σ g day n hn h13 n 0 (by omega)
