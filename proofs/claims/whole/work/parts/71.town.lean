/-! THE CLASS DAYTOWN (class 6). Its world: the object (length 2, faultPlace 6, lawsRead 7, knownIsOlder 10), the tape 1, the book 2 to 9, a law 10 to 17, the other 18 to 25, the reader 26, its operators 27, the lexer 28, no text 29, one Known 30 to 39, the other 40 to 49, the rings 50 to 53. la, sp: where law and spareLaw are; rl, tx: the reader's law, the lexer's text. -/
def WD (σ : Nat → Nat → Int32) (la : Nat) (sp : Nat) (rl : Nat) (tx : Nat) : MW := [.inr (6, [.ref 2, .ref 1, .int (σ 0 2), .ref la, .ref sp, .ref 26, .int (σ 0 6), .int (σ 0 7), .ref 30, .ref 40, .int (σ 0 10)]), .inl (.int, 2000, .inl (σ 1)), .inr (0, [.ref 3, .ref 4, .ref 5, .ref 6, .ref 7, .ref 8, .ref 9, .int (σ 2 7), .int (σ 2 8), .int (σ 2 9)]), .inl (.int, 8, .inl (σ 3)), .inl (.int, 120, .inl (σ 4)), .inl (.int, 120, .inl (σ 5)), .inl (.int, 120, .inl (σ 6)), .inl (.int, 120, .inl (σ 7)), .inl (.int, 120, .inl (σ 8)), .inl (.int, 120, .inl (σ 9)), .inr (2, [.ref 11, .ref 12, .ref 13, .ref 14, .ref 15, .ref 16, .ref 17, .int (σ 10 7), .int (σ 10 8)]), .inl (.int, 400, .inl (σ 11)), .inl (.int, 400, .inl (σ 12)), .inl (.boolean, 16, .inl (σ 13)), .inl (.int, 16, .inl (σ 14)), .inl (.int, 16, .inl (σ 15)), .inl (.int, 16, .inl (σ 16)), .inl (.int, 400, .inl (σ 17)), .inr (2, [.ref 19, .ref 20, .ref 21, .ref 22, .ref 23, .ref 24, .ref 25, .int (σ 18 7), .int (σ 18 8)]), .inl (.int, 400, .inl (σ 19)), .inl (.int, 400, .inl (σ 20)), .inl (.boolean, 16, .inl (σ 21)), .inl (.int, 16, .inl (σ 22)), .inl (.int, 16, .inl (σ 23)), .inl (.int, 16, .inl (σ 24)), .inl (.int, 400, .inl (σ 25)), .inr (4, [.ref 28, .ref 27, .ref rl, .int (σ 26 3), .int (σ 26 4), .int (σ 26 5), .int (σ 26 6), .int (σ 26 7), .int (σ 26 8)]), .inl (.int, 400, .inl (σ 27)), .inr (3, [.int (σ 28 0), .int (σ 28 1), .int (σ 28 2), .ref tx, .int (σ 28 4), .int (σ 28 5)]), .inl (.int, 0, .inl (σ 29)), .inr (1, [.ref 2, .ref 50, .ref 31, .ref 32, .ref 33, .ref 34, .ref 35, .ref 36, .ref 37, .ref 38, .ref 39, .int (σ 30 11), .int (σ 30 12), .int (σ 30 13)]), .inl (.int, 120, .inl (σ 31)), .inl (.int, 120, .inl (σ 32)), .inl (.int, 120, .inl (σ 33)), .inl (.int, 120, .inl (σ 34)), .inl (.int, 120, .inl (σ 35)), .inl (.int, 120, .inl (σ 36)), .inl (.int, 7744, .inl (σ 37)), .inl (.int, 9, .inl (σ 38)), .inl (.int, 8, .inl (σ 39)), .inr (1, [.ref 2, .ref 50, .ref 41, .ref 42, .ref 43, .ref 44, .ref 45, .ref 46, .ref 47, .ref 48, .ref 49, .int (σ 40 11), .int (σ 40 12), .int (σ 40 13)]), .inl (.int, 120, .inl (σ 41)), .inl (.int, 120, .inl (σ 42)), .inl (.int, 120, .inl (σ 43)), .inl (.int, 120, .inl (σ 44)), .inl (.int, 120, .inl (σ 45)), .inl (.int, 120, .inl (σ 46)), .inl (.int, 7744, .inl (σ 47)), .inl (.int, 9, .inl (σ 48)), .inl (.int, 8, .inl (σ 49)), .inr (5, [.ref 51, .ref 52, .ref 53, .int (σ 50 3), .int (σ 50 4), .int (σ 50 5), .int (σ 50 6)]), .inl (.int, 64, .inl (σ 51)), .inl (.int, 8, .inl (σ 52)), .inl (.int, 8, .inl (σ 53))]
theorem WD_p6_2 (σ : Nat → Nat → Int32) (la : Nat) (sp : Nat) (rl : Nat) (tx : Nat) (v : Int32) : (WD σ la sp rl tx).set 0 (.inr (6, [.ref 2, .ref 1, .int (σ 0 2), .ref la, .ref sp, .ref 26, .int (σ 0 6), .int (σ 0 7), .ref 30, .ref 40, .int (σ 0 10)].set 2 (.int v))) = WD (s2 σ 0 2 v) la sp rl tx := rfl
theorem WD_p6_3 (σ : Nat → Nat → Int32) (la : Nat) (sp : Nat) (rl : Nat) (tx : Nat) (v : Nat) : (WD σ la sp rl tx).set 0 (.inr (6, [.ref 2, .ref 1, .int (σ 0 2), .ref la, .ref sp, .ref 26, .int (σ 0 6), .int (σ 0 7), .ref 30, .ref 40, .int (σ 0 10)].set 3 (.ref v))) = WD σ v sp rl tx := rfl
theorem WD_p6_4 (σ : Nat → Nat → Int32) (la : Nat) (sp : Nat) (rl : Nat) (tx : Nat) (v : Nat) : (WD σ la sp rl tx).set 0 (.inr (6, [.ref 2, .ref 1, .int (σ 0 2), .ref la, .ref sp, .ref 26, .int (σ 0 6), .int (σ 0 7), .ref 30, .ref 40, .int (σ 0 10)].set 4 (.ref v))) = WD σ la v rl tx := rfl
theorem WD_p6_6 (σ : Nat → Nat → Int32) (la : Nat) (sp : Nat) (rl : Nat) (tx : Nat) (v : Int32) : (WD σ la sp rl tx).set 0 (.inr (6, [.ref 2, .ref 1, .int (σ 0 2), .ref la, .ref sp, .ref 26, .int (σ 0 6), .int (σ 0 7), .ref 30, .ref 40, .int (σ 0 10)].set 6 (.int v))) = WD (s2 σ 0 6 v) la sp rl tx := rfl
theorem WD_p6_7 (σ : Nat → Nat → Int32) (la : Nat) (sp : Nat) (rl : Nat) (tx : Nat) (v : Int32) : (WD σ la sp rl tx).set 0 (.inr (6, [.ref 2, .ref 1, .int (σ 0 2), .ref la, .ref sp, .ref 26, .int (σ 0 6), .int (σ 0 7), .ref 30, .ref 40, .int (σ 0 10)].set 7 (.int v))) = WD (s2 σ 0 7 v) la sp rl tx := rfl
theorem WD_p6_10 (σ : Nat → Nat → Int32) (la : Nat) (sp : Nat) (rl : Nat) (tx : Nat) (v : Int32) : (WD σ la sp rl tx).set 0 (.inr (6, [.ref 2, .ref 1, .int (σ 0 2), .ref la, .ref sp, .ref 26, .int (σ 0 6), .int (σ 0 7), .ref 30, .ref 40, .int (σ 0 10)].set 10 (.int v))) = WD (s2 σ 0 10 v) la sp rl tx := rfl
theorem WD_a1 (σ : Nat → Nat → Int32) (la : Nat) (sp : Nat) (rl : Nat) (tx : Nat) (g_ : Nat → Int32) : (WD σ la sp rl tx).set 1 (.inl (.int, 2000, .inl g_)) = WD (s1 σ 1 g_) la sp rl tx := rfl
theorem WD_p0_7 (σ : Nat → Nat → Int32) (la : Nat) (sp : Nat) (rl : Nat) (tx : Nat) (v : Int32) : (WD σ la sp rl tx).set 2 (.inr (0, [.ref 3, .ref 4, .ref 5, .ref 6, .ref 7, .ref 8, .ref 9, .int (σ 2 7), .int (σ 2 8), .int (σ 2 9)].set 7 (.int v))) = WD (s2 σ 2 7 v) la sp rl tx := rfl
theorem WD_p0_8 (σ : Nat → Nat → Int32) (la : Nat) (sp : Nat) (rl : Nat) (tx : Nat) (v : Int32) : (WD σ la sp rl tx).set 2 (.inr (0, [.ref 3, .ref 4, .ref 5, .ref 6, .ref 7, .ref 8, .ref 9, .int (σ 2 7), .int (σ 2 8), .int (σ 2 9)].set 8 (.int v))) = WD (s2 σ 2 8 v) la sp rl tx := rfl
theorem WD_p0_9 (σ : Nat → Nat → Int32) (la : Nat) (sp : Nat) (rl : Nat) (tx : Nat) (v : Int32) : (WD σ la sp rl tx).set 2 (.inr (0, [.ref 3, .ref 4, .ref 5, .ref 6, .ref 7, .ref 8, .ref 9, .int (σ 2 7), .int (σ 2 8), .int (σ 2 9)].set 9 (.int v))) = WD (s2 σ 2 9 v) la sp rl tx := rfl
theorem WD_a3 (σ : Nat → Nat → Int32) (la : Nat) (sp : Nat) (rl : Nat) (tx : Nat) (g_ : Nat → Int32) : (WD σ la sp rl tx).set 3 (.inl (.int, 8, .inl g_)) = WD (s1 σ 3 g_) la sp rl tx := rfl
theorem WD_a4 (σ : Nat → Nat → Int32) (la : Nat) (sp : Nat) (rl : Nat) (tx : Nat) (g_ : Nat → Int32) : (WD σ la sp rl tx).set 4 (.inl (.int, 120, .inl g_)) = WD (s1 σ 4 g_) la sp rl tx := rfl
theorem WD_a5 (σ : Nat → Nat → Int32) (la : Nat) (sp : Nat) (rl : Nat) (tx : Nat) (g_ : Nat → Int32) : (WD σ la sp rl tx).set 5 (.inl (.int, 120, .inl g_)) = WD (s1 σ 5 g_) la sp rl tx := rfl
theorem WD_a6 (σ : Nat → Nat → Int32) (la : Nat) (sp : Nat) (rl : Nat) (tx : Nat) (g_ : Nat → Int32) : (WD σ la sp rl tx).set 6 (.inl (.int, 120, .inl g_)) = WD (s1 σ 6 g_) la sp rl tx := rfl
theorem WD_a7 (σ : Nat → Nat → Int32) (la : Nat) (sp : Nat) (rl : Nat) (tx : Nat) (g_ : Nat → Int32) : (WD σ la sp rl tx).set 7 (.inl (.int, 120, .inl g_)) = WD (s1 σ 7 g_) la sp rl tx := rfl
theorem WD_a8 (σ : Nat → Nat → Int32) (la : Nat) (sp : Nat) (rl : Nat) (tx : Nat) (g_ : Nat → Int32) : (WD σ la sp rl tx).set 8 (.inl (.int, 120, .inl g_)) = WD (s1 σ 8 g_) la sp rl tx := rfl
theorem WD_a9 (σ : Nat → Nat → Int32) (la : Nat) (sp : Nat) (rl : Nat) (tx : Nat) (g_ : Nat → Int32) : (WD σ la sp rl tx).set 9 (.inl (.int, 120, .inl g_)) = WD (s1 σ 9 g_) la sp rl tx := rfl
theorem WD_p2_7_10 (σ : Nat → Nat → Int32) (la : Nat) (sp : Nat) (rl : Nat) (tx : Nat) (v : Int32) : (WD σ la sp rl tx).set 10 (.inr (2, [.ref 11, .ref 12, .ref 13, .ref 14, .ref 15, .ref 16, .ref 17, .int (σ 10 7), .int (σ 10 8)].set 7 (.int v))) = WD (s2 σ 10 7 v) la sp rl tx := rfl
theorem WD_p2_8_10 (σ : Nat → Nat → Int32) (la : Nat) (sp : Nat) (rl : Nat) (tx : Nat) (v : Int32) : (WD σ la sp rl tx).set 10 (.inr (2, [.ref 11, .ref 12, .ref 13, .ref 14, .ref 15, .ref 16, .ref 17, .int (σ 10 7), .int (σ 10 8)].set 8 (.int v))) = WD (s2 σ 10 8 v) la sp rl tx := rfl
theorem WD_a11 (σ : Nat → Nat → Int32) (la : Nat) (sp : Nat) (rl : Nat) (tx : Nat) (g_ : Nat → Int32) : (WD σ la sp rl tx).set 11 (.inl (.int, 400, .inl g_)) = WD (s1 σ 11 g_) la sp rl tx := rfl
theorem WD_a12 (σ : Nat → Nat → Int32) (la : Nat) (sp : Nat) (rl : Nat) (tx : Nat) (g_ : Nat → Int32) : (WD σ la sp rl tx).set 12 (.inl (.int, 400, .inl g_)) = WD (s1 σ 12 g_) la sp rl tx := rfl
theorem WD_a13 (σ : Nat → Nat → Int32) (la : Nat) (sp : Nat) (rl : Nat) (tx : Nat) (g_ : Nat → Int32) : (WD σ la sp rl tx).set 13 (.inl (.boolean, 16, .inl g_)) = WD (s1 σ 13 g_) la sp rl tx := rfl
theorem WD_a14 (σ : Nat → Nat → Int32) (la : Nat) (sp : Nat) (rl : Nat) (tx : Nat) (g_ : Nat → Int32) : (WD σ la sp rl tx).set 14 (.inl (.int, 16, .inl g_)) = WD (s1 σ 14 g_) la sp rl tx := rfl
theorem WD_a15 (σ : Nat → Nat → Int32) (la : Nat) (sp : Nat) (rl : Nat) (tx : Nat) (g_ : Nat → Int32) : (WD σ la sp rl tx).set 15 (.inl (.int, 16, .inl g_)) = WD (s1 σ 15 g_) la sp rl tx := rfl
theorem WD_a16 (σ : Nat → Nat → Int32) (la : Nat) (sp : Nat) (rl : Nat) (tx : Nat) (g_ : Nat → Int32) : (WD σ la sp rl tx).set 16 (.inl (.int, 16, .inl g_)) = WD (s1 σ 16 g_) la sp rl tx := rfl
theorem WD_a17 (σ : Nat → Nat → Int32) (la : Nat) (sp : Nat) (rl : Nat) (tx : Nat) (g_ : Nat → Int32) : (WD σ la sp rl tx).set 17 (.inl (.int, 400, .inl g_)) = WD (s1 σ 17 g_) la sp rl tx := rfl
theorem WD_p2_7_18 (σ : Nat → Nat → Int32) (la : Nat) (sp : Nat) (rl : Nat) (tx : Nat) (v : Int32) : (WD σ la sp rl tx).set 18 (.inr (2, [.ref 19, .ref 20, .ref 21, .ref 22, .ref 23, .ref 24, .ref 25, .int (σ 18 7), .int (σ 18 8)].set 7 (.int v))) = WD (s2 σ 18 7 v) la sp rl tx := rfl
theorem WD_p2_8_18 (σ : Nat → Nat → Int32) (la : Nat) (sp : Nat) (rl : Nat) (tx : Nat) (v : Int32) : (WD σ la sp rl tx).set 18 (.inr (2, [.ref 19, .ref 20, .ref 21, .ref 22, .ref 23, .ref 24, .ref 25, .int (σ 18 7), .int (σ 18 8)].set 8 (.int v))) = WD (s2 σ 18 8 v) la sp rl tx := rfl
theorem WD_a19 (σ : Nat → Nat → Int32) (la : Nat) (sp : Nat) (rl : Nat) (tx : Nat) (g_ : Nat → Int32) : (WD σ la sp rl tx).set 19 (.inl (.int, 400, .inl g_)) = WD (s1 σ 19 g_) la sp rl tx := rfl
theorem WD_a20 (σ : Nat → Nat → Int32) (la : Nat) (sp : Nat) (rl : Nat) (tx : Nat) (g_ : Nat → Int32) : (WD σ la sp rl tx).set 20 (.inl (.int, 400, .inl g_)) = WD (s1 σ 20 g_) la sp rl tx := rfl
theorem WD_a21 (σ : Nat → Nat → Int32) (la : Nat) (sp : Nat) (rl : Nat) (tx : Nat) (g_ : Nat → Int32) : (WD σ la sp rl tx).set 21 (.inl (.boolean, 16, .inl g_)) = WD (s1 σ 21 g_) la sp rl tx := rfl
theorem WD_a22 (σ : Nat → Nat → Int32) (la : Nat) (sp : Nat) (rl : Nat) (tx : Nat) (g_ : Nat → Int32) : (WD σ la sp rl tx).set 22 (.inl (.int, 16, .inl g_)) = WD (s1 σ 22 g_) la sp rl tx := rfl
theorem WD_a23 (σ : Nat → Nat → Int32) (la : Nat) (sp : Nat) (rl : Nat) (tx : Nat) (g_ : Nat → Int32) : (WD σ la sp rl tx).set 23 (.inl (.int, 16, .inl g_)) = WD (s1 σ 23 g_) la sp rl tx := rfl
theorem WD_a24 (σ : Nat → Nat → Int32) (la : Nat) (sp : Nat) (rl : Nat) (tx : Nat) (g_ : Nat → Int32) : (WD σ la sp rl tx).set 24 (.inl (.int, 16, .inl g_)) = WD (s1 σ 24 g_) la sp rl tx := rfl
theorem WD_a25 (σ : Nat → Nat → Int32) (la : Nat) (sp : Nat) (rl : Nat) (tx : Nat) (g_ : Nat → Int32) : (WD σ la sp rl tx).set 25 (.inl (.int, 400, .inl g_)) = WD (s1 σ 25 g_) la sp rl tx := rfl
theorem WD_p4_2 (σ : Nat → Nat → Int32) (la : Nat) (sp : Nat) (rl : Nat) (tx : Nat) (v : Nat) : (WD σ la sp rl tx).set 26 (.inr (4, [.ref 28, .ref 27, .ref rl, .int (σ 26 3), .int (σ 26 4), .int (σ 26 5), .int (σ 26 6), .int (σ 26 7), .int (σ 26 8)].set 2 (.ref v))) = WD σ la sp v tx := rfl
theorem WD_p4_3 (σ : Nat → Nat → Int32) (la : Nat) (sp : Nat) (rl : Nat) (tx : Nat) (v : Int32) : (WD σ la sp rl tx).set 26 (.inr (4, [.ref 28, .ref 27, .ref rl, .int (σ 26 3), .int (σ 26 4), .int (σ 26 5), .int (σ 26 6), .int (σ 26 7), .int (σ 26 8)].set 3 (.int v))) = WD (s2 σ 26 3 v) la sp rl tx := rfl
theorem WD_p4_4 (σ : Nat → Nat → Int32) (la : Nat) (sp : Nat) (rl : Nat) (tx : Nat) (v : Int32) : (WD σ la sp rl tx).set 26 (.inr (4, [.ref 28, .ref 27, .ref rl, .int (σ 26 3), .int (σ 26 4), .int (σ 26 5), .int (σ 26 6), .int (σ 26 7), .int (σ 26 8)].set 4 (.int v))) = WD (s2 σ 26 4 v) la sp rl tx := rfl
theorem WD_p4_5 (σ : Nat → Nat → Int32) (la : Nat) (sp : Nat) (rl : Nat) (tx : Nat) (v : Int32) : (WD σ la sp rl tx).set 26 (.inr (4, [.ref 28, .ref 27, .ref rl, .int (σ 26 3), .int (σ 26 4), .int (σ 26 5), .int (σ 26 6), .int (σ 26 7), .int (σ 26 8)].set 5 (.int v))) = WD (s2 σ 26 5 v) la sp rl tx := rfl
theorem WD_p4_6 (σ : Nat → Nat → Int32) (la : Nat) (sp : Nat) (rl : Nat) (tx : Nat) (v : Int32) : (WD σ la sp rl tx).set 26 (.inr (4, [.ref 28, .ref 27, .ref rl, .int (σ 26 3), .int (σ 26 4), .int (σ 26 5), .int (σ 26 6), .int (σ 26 7), .int (σ 26 8)].set 6 (.int v))) = WD (s2 σ 26 6 v) la sp rl tx := rfl
theorem WD_p4_7 (σ : Nat → Nat → Int32) (la : Nat) (sp : Nat) (rl : Nat) (tx : Nat) (v : Int32) : (WD σ la sp rl tx).set 26 (.inr (4, [.ref 28, .ref 27, .ref rl, .int (σ 26 3), .int (σ 26 4), .int (σ 26 5), .int (σ 26 6), .int (σ 26 7), .int (σ 26 8)].set 7 (.int v))) = WD (s2 σ 26 7 v) la sp rl tx := rfl
theorem WD_p4_8 (σ : Nat → Nat → Int32) (la : Nat) (sp : Nat) (rl : Nat) (tx : Nat) (v : Int32) : (WD σ la sp rl tx).set 26 (.inr (4, [.ref 28, .ref 27, .ref rl, .int (σ 26 3), .int (σ 26 4), .int (σ 26 5), .int (σ 26 6), .int (σ 26 7), .int (σ 26 8)].set 8 (.int v))) = WD (s2 σ 26 8 v) la sp rl tx := rfl
theorem WD_a27 (σ : Nat → Nat → Int32) (la : Nat) (sp : Nat) (rl : Nat) (tx : Nat) (g_ : Nat → Int32) : (WD σ la sp rl tx).set 27 (.inl (.int, 400, .inl g_)) = WD (s1 σ 27 g_) la sp rl tx := rfl
theorem WD_p3_0 (σ : Nat → Nat → Int32) (la : Nat) (sp : Nat) (rl : Nat) (tx : Nat) (v : Int32) : (WD σ la sp rl tx).set 28 (.inr (3, [.int (σ 28 0), .int (σ 28 1), .int (σ 28 2), .ref tx, .int (σ 28 4), .int (σ 28 5)].set 0 (.int v))) = WD (s2 σ 28 0 v) la sp rl tx := rfl
theorem WD_p3_1 (σ : Nat → Nat → Int32) (la : Nat) (sp : Nat) (rl : Nat) (tx : Nat) (v : Int32) : (WD σ la sp rl tx).set 28 (.inr (3, [.int (σ 28 0), .int (σ 28 1), .int (σ 28 2), .ref tx, .int (σ 28 4), .int (σ 28 5)].set 1 (.int v))) = WD (s2 σ 28 1 v) la sp rl tx := rfl
theorem WD_p3_2 (σ : Nat → Nat → Int32) (la : Nat) (sp : Nat) (rl : Nat) (tx : Nat) (v : Int32) : (WD σ la sp rl tx).set 28 (.inr (3, [.int (σ 28 0), .int (σ 28 1), .int (σ 28 2), .ref tx, .int (σ 28 4), .int (σ 28 5)].set 2 (.int v))) = WD (s2 σ 28 2 v) la sp rl tx := rfl
theorem WD_p3_3 (σ : Nat → Nat → Int32) (la : Nat) (sp : Nat) (rl : Nat) (tx : Nat) (v : Nat) : (WD σ la sp rl tx).set 28 (.inr (3, [.int (σ 28 0), .int (σ 28 1), .int (σ 28 2), .ref tx, .int (σ 28 4), .int (σ 28 5)].set 3 (.ref v))) = WD σ la sp rl v := rfl
theorem WD_p3_4 (σ : Nat → Nat → Int32) (la : Nat) (sp : Nat) (rl : Nat) (tx : Nat) (v : Int32) : (WD σ la sp rl tx).set 28 (.inr (3, [.int (σ 28 0), .int (σ 28 1), .int (σ 28 2), .ref tx, .int (σ 28 4), .int (σ 28 5)].set 4 (.int v))) = WD (s2 σ 28 4 v) la sp rl tx := rfl
theorem WD_p3_5 (σ : Nat → Nat → Int32) (la : Nat) (sp : Nat) (rl : Nat) (tx : Nat) (v : Int32) : (WD σ la sp rl tx).set 28 (.inr (3, [.int (σ 28 0), .int (σ 28 1), .int (σ 28 2), .ref tx, .int (σ 28 4), .int (σ 28 5)].set 5 (.int v))) = WD (s2 σ 28 5 v) la sp rl tx := rfl
theorem WD_a29 (σ : Nat → Nat → Int32) (la : Nat) (sp : Nat) (rl : Nat) (tx : Nat) (g_ : Nat → Int32) : (WD σ la sp rl tx).set 29 (.inl (.int, 0, .inl g_)) = WD (s1 σ 29 g_) la sp rl tx := rfl
theorem WD_p1_11_30 (σ : Nat → Nat → Int32) (la : Nat) (sp : Nat) (rl : Nat) (tx : Nat) (v : Int32) : (WD σ la sp rl tx).set 30 (.inr (1, [.ref 2, .ref 50, .ref 31, .ref 32, .ref 33, .ref 34, .ref 35, .ref 36, .ref 37, .ref 38, .ref 39, .int (σ 30 11), .int (σ 30 12), .int (σ 30 13)].set 11 (.int v))) = WD (s2 σ 30 11 v) la sp rl tx := rfl
theorem WD_p1_12_30 (σ : Nat → Nat → Int32) (la : Nat) (sp : Nat) (rl : Nat) (tx : Nat) (v : Int32) : (WD σ la sp rl tx).set 30 (.inr (1, [.ref 2, .ref 50, .ref 31, .ref 32, .ref 33, .ref 34, .ref 35, .ref 36, .ref 37, .ref 38, .ref 39, .int (σ 30 11), .int (σ 30 12), .int (σ 30 13)].set 12 (.int v))) = WD (s2 σ 30 12 v) la sp rl tx := rfl
theorem WD_p1_13_30 (σ : Nat → Nat → Int32) (la : Nat) (sp : Nat) (rl : Nat) (tx : Nat) (v : Int32) : (WD σ la sp rl tx).set 30 (.inr (1, [.ref 2, .ref 50, .ref 31, .ref 32, .ref 33, .ref 34, .ref 35, .ref 36, .ref 37, .ref 38, .ref 39, .int (σ 30 11), .int (σ 30 12), .int (σ 30 13)].set 13 (.int v))) = WD (s2 σ 30 13 v) la sp rl tx := rfl
theorem WD_a31 (σ : Nat → Nat → Int32) (la : Nat) (sp : Nat) (rl : Nat) (tx : Nat) (g_ : Nat → Int32) : (WD σ la sp rl tx).set 31 (.inl (.int, 120, .inl g_)) = WD (s1 σ 31 g_) la sp rl tx := rfl
theorem WD_a32 (σ : Nat → Nat → Int32) (la : Nat) (sp : Nat) (rl : Nat) (tx : Nat) (g_ : Nat → Int32) : (WD σ la sp rl tx).set 32 (.inl (.int, 120, .inl g_)) = WD (s1 σ 32 g_) la sp rl tx := rfl
theorem WD_a33 (σ : Nat → Nat → Int32) (la : Nat) (sp : Nat) (rl : Nat) (tx : Nat) (g_ : Nat → Int32) : (WD σ la sp rl tx).set 33 (.inl (.int, 120, .inl g_)) = WD (s1 σ 33 g_) la sp rl tx := rfl
theorem WD_a34 (σ : Nat → Nat → Int32) (la : Nat) (sp : Nat) (rl : Nat) (tx : Nat) (g_ : Nat → Int32) : (WD σ la sp rl tx).set 34 (.inl (.int, 120, .inl g_)) = WD (s1 σ 34 g_) la sp rl tx := rfl
theorem WD_a35 (σ : Nat → Nat → Int32) (la : Nat) (sp : Nat) (rl : Nat) (tx : Nat) (g_ : Nat → Int32) : (WD σ la sp rl tx).set 35 (.inl (.int, 120, .inl g_)) = WD (s1 σ 35 g_) la sp rl tx := rfl
theorem WD_a36 (σ : Nat → Nat → Int32) (la : Nat) (sp : Nat) (rl : Nat) (tx : Nat) (g_ : Nat → Int32) : (WD σ la sp rl tx).set 36 (.inl (.int, 120, .inl g_)) = WD (s1 σ 36 g_) la sp rl tx := rfl
theorem WD_a37 (σ : Nat → Nat → Int32) (la : Nat) (sp : Nat) (rl : Nat) (tx : Nat) (g_ : Nat → Int32) : (WD σ la sp rl tx).set 37 (.inl (.int, 7744, .inl g_)) = WD (s1 σ 37 g_) la sp rl tx := rfl
theorem WD_a38 (σ : Nat → Nat → Int32) (la : Nat) (sp : Nat) (rl : Nat) (tx : Nat) (g_ : Nat → Int32) : (WD σ la sp rl tx).set 38 (.inl (.int, 9, .inl g_)) = WD (s1 σ 38 g_) la sp rl tx := rfl
theorem WD_a39 (σ : Nat → Nat → Int32) (la : Nat) (sp : Nat) (rl : Nat) (tx : Nat) (g_ : Nat → Int32) : (WD σ la sp rl tx).set 39 (.inl (.int, 8, .inl g_)) = WD (s1 σ 39 g_) la sp rl tx := rfl
theorem WD_p1_11_40 (σ : Nat → Nat → Int32) (la : Nat) (sp : Nat) (rl : Nat) (tx : Nat) (v : Int32) : (WD σ la sp rl tx).set 40 (.inr (1, [.ref 2, .ref 50, .ref 41, .ref 42, .ref 43, .ref 44, .ref 45, .ref 46, .ref 47, .ref 48, .ref 49, .int (σ 40 11), .int (σ 40 12), .int (σ 40 13)].set 11 (.int v))) = WD (s2 σ 40 11 v) la sp rl tx := rfl
theorem WD_p1_12_40 (σ : Nat → Nat → Int32) (la : Nat) (sp : Nat) (rl : Nat) (tx : Nat) (v : Int32) : (WD σ la sp rl tx).set 40 (.inr (1, [.ref 2, .ref 50, .ref 41, .ref 42, .ref 43, .ref 44, .ref 45, .ref 46, .ref 47, .ref 48, .ref 49, .int (σ 40 11), .int (σ 40 12), .int (σ 40 13)].set 12 (.int v))) = WD (s2 σ 40 12 v) la sp rl tx := rfl
theorem WD_p1_13_40 (σ : Nat → Nat → Int32) (la : Nat) (sp : Nat) (rl : Nat) (tx : Nat) (v : Int32) : (WD σ la sp rl tx).set 40 (.inr (1, [.ref 2, .ref 50, .ref 41, .ref 42, .ref 43, .ref 44, .ref 45, .ref 46, .ref 47, .ref 48, .ref 49, .int (σ 40 11), .int (σ 40 12), .int (σ 40 13)].set 13 (.int v))) = WD (s2 σ 40 13 v) la sp rl tx := rfl
theorem WD_a41 (σ : Nat → Nat → Int32) (la : Nat) (sp : Nat) (rl : Nat) (tx : Nat) (g_ : Nat → Int32) : (WD σ la sp rl tx).set 41 (.inl (.int, 120, .inl g_)) = WD (s1 σ 41 g_) la sp rl tx := rfl
theorem WD_a42 (σ : Nat → Nat → Int32) (la : Nat) (sp : Nat) (rl : Nat) (tx : Nat) (g_ : Nat → Int32) : (WD σ la sp rl tx).set 42 (.inl (.int, 120, .inl g_)) = WD (s1 σ 42 g_) la sp rl tx := rfl
theorem WD_a43 (σ : Nat → Nat → Int32) (la : Nat) (sp : Nat) (rl : Nat) (tx : Nat) (g_ : Nat → Int32) : (WD σ la sp rl tx).set 43 (.inl (.int, 120, .inl g_)) = WD (s1 σ 43 g_) la sp rl tx := rfl
theorem WD_a44 (σ : Nat → Nat → Int32) (la : Nat) (sp : Nat) (rl : Nat) (tx : Nat) (g_ : Nat → Int32) : (WD σ la sp rl tx).set 44 (.inl (.int, 120, .inl g_)) = WD (s1 σ 44 g_) la sp rl tx := rfl
theorem WD_a45 (σ : Nat → Nat → Int32) (la : Nat) (sp : Nat) (rl : Nat) (tx : Nat) (g_ : Nat → Int32) : (WD σ la sp rl tx).set 45 (.inl (.int, 120, .inl g_)) = WD (s1 σ 45 g_) la sp rl tx := rfl
theorem WD_a46 (σ : Nat → Nat → Int32) (la : Nat) (sp : Nat) (rl : Nat) (tx : Nat) (g_ : Nat → Int32) : (WD σ la sp rl tx).set 46 (.inl (.int, 120, .inl g_)) = WD (s1 σ 46 g_) la sp rl tx := rfl
theorem WD_a47 (σ : Nat → Nat → Int32) (la : Nat) (sp : Nat) (rl : Nat) (tx : Nat) (g_ : Nat → Int32) : (WD σ la sp rl tx).set 47 (.inl (.int, 7744, .inl g_)) = WD (s1 σ 47 g_) la sp rl tx := rfl
theorem WD_a48 (σ : Nat → Nat → Int32) (la : Nat) (sp : Nat) (rl : Nat) (tx : Nat) (g_ : Nat → Int32) : (WD σ la sp rl tx).set 48 (.inl (.int, 9, .inl g_)) = WD (s1 σ 48 g_) la sp rl tx := rfl
theorem WD_a49 (σ : Nat → Nat → Int32) (la : Nat) (sp : Nat) (rl : Nat) (tx : Nat) (g_ : Nat → Int32) : (WD σ la sp rl tx).set 49 (.inl (.int, 8, .inl g_)) = WD (s1 σ 49 g_) la sp rl tx := rfl
theorem WD_p5_3 (σ : Nat → Nat → Int32) (la : Nat) (sp : Nat) (rl : Nat) (tx : Nat) (v : Int32) : (WD σ la sp rl tx).set 50 (.inr (5, [.ref 51, .ref 52, .ref 53, .int (σ 50 3), .int (σ 50 4), .int (σ 50 5), .int (σ 50 6)].set 3 (.int v))) = WD (s2 σ 50 3 v) la sp rl tx := rfl
theorem WD_p5_4 (σ : Nat → Nat → Int32) (la : Nat) (sp : Nat) (rl : Nat) (tx : Nat) (v : Int32) : (WD σ la sp rl tx).set 50 (.inr (5, [.ref 51, .ref 52, .ref 53, .int (σ 50 3), .int (σ 50 4), .int (σ 50 5), .int (σ 50 6)].set 4 (.int v))) = WD (s2 σ 50 4 v) la sp rl tx := rfl
theorem WD_p5_5 (σ : Nat → Nat → Int32) (la : Nat) (sp : Nat) (rl : Nat) (tx : Nat) (v : Int32) : (WD σ la sp rl tx).set 50 (.inr (5, [.ref 51, .ref 52, .ref 53, .int (σ 50 3), .int (σ 50 4), .int (σ 50 5), .int (σ 50 6)].set 5 (.int v))) = WD (s2 σ 50 5 v) la sp rl tx := rfl
theorem WD_p5_6 (σ : Nat → Nat → Int32) (la : Nat) (sp : Nat) (rl : Nat) (tx : Nat) (v : Int32) : (WD σ la sp rl tx).set 50 (.inr (5, [.ref 51, .ref 52, .ref 53, .int (σ 50 3), .int (σ 50 4), .int (σ 50 5), .int (σ 50 6)].set 6 (.int v))) = WD (s2 σ 50 6 v) la sp rl tx := rfl
theorem WD_a51 (σ : Nat → Nat → Int32) (la : Nat) (sp : Nat) (rl : Nat) (tx : Nat) (g_ : Nat → Int32) : (WD σ la sp rl tx).set 51 (.inl (.int, 64, .inl g_)) = WD (s1 σ 51 g_) la sp rl tx := rfl
theorem WD_a52 (σ : Nat → Nat → Int32) (la : Nat) (sp : Nat) (rl : Nat) (tx : Nat) (g_ : Nat → Int32) : (WD σ la sp rl tx).set 52 (.inl (.int, 8, .inl g_)) = WD (s1 σ 52 g_) la sp rl tx := rfl
theorem WD_a53 (σ : Nat → Nat → Int32) (la : Nat) (sp : Nat) (rl : Nat) (tx : Nat) (g_ : Nat → Int32) : (WD σ la sp rl tx).set 53 (.inl (.int, 8, .inl g_)) = WD (s1 σ 53 g_) la sp rl tx := rfl
abbrev bd (σ : RS) : RS := fun k => σ (2 + k)
def bdp (σ τ : RS) : RS := fun k => if 2 ≤ k ∧ k ≤ 9 then τ (k - 2) else σ k
theorem PD_book (σ : RS) (la sp rl tx : Nat) : Part (WD σ la sp rl tx) [2, 3, 4, 5, 6, 7, 8, 9] (ρo [2, 3, 4, 5, 6, 7, 8, 9]) (WB (bd σ)) := Part.of _ rfl rfl rfl
theorem PD_bput (σ τ : RS) (la sp rl tx : Nat) : wput (WD σ la sp rl tx) [2, 3, 4, 5, 6, 7, 8, 9] ((WB τ).map (renE (ρo [2, 3, 4, 5, 6, 7, 8, 9]))) = WD (bdp σ τ) la sp rl tx := rfl
/-- a Known at kb with the law at lb -/
def pkk (kb lb c : Nat) : Nat := if c < 10 then kb + c else if c < 18 then c - 8 else if c < 22 then c + 32 else lb + (c - 22)
def dk (kb lb : Nat) (σ : RS) : RS := fun c => σ (pkk kb lb c)
def kπ (kb lb : Nat) : List Nat := [kb, kb + 1, kb + 2, kb + 3, kb + 4, kb + 5, kb + 6, kb + 7, kb + 8, kb + 9, 2, 3, 4, 5, 6, 7, 8, 9, 50, 51, 52, 53, lb, lb + 1, lb + 2, lb + 3, lb + 4, lb + 5, lb + 6, lb + 7]
theorem PD_k1a (σ : RS) (la sp rl tx : Nat) : Part (WD σ la sp rl tx) (kπ 30 10) (ρo (kπ 30 10)) (WK (dk 30 10 σ) (σ 17)) := Part.of _ rfl rfl rfl
theorem PD_k1b (σ : RS) (la sp rl tx : Nat) : Part (WD σ la sp rl tx) (kπ 30 18) (ρo (kπ 30 18)) (WK (dk 30 18 σ) (σ 25)) := Part.of _ rfl rfl rfl
theorem PD_k2a (σ : RS) (la sp rl tx : Nat) : Part (WD σ la sp rl tx) (kπ 40 10) (ρo (kπ 40 10)) (WK (dk 40 10 σ) (σ 17)) := Part.of _ rfl rfl rfl
theorem PD_k2b (σ : RS) (la sp rl tx : Nat) : Part (WD σ la sp rl tx) (kπ 40 18) (ρo (kπ 40 18)) (WK (dk 40 18 σ) (σ 25)) := Part.of _ rfl rfl rfl
theorem wput_cons {w w' r : MW} {k : Nat} {ks : List Nat} {e : ME} {es : List ME} (h : w.set k e = w') (h2 : wput w' ks es = r) : wput w (k :: ks) (e :: es) = r := by
  rw [wput, h]
  exact h2
def pl : List Nat → List (Nat → Int32) → RS → RS
  | k :: ks, f :: fs, σ => pl ks fs (s1 σ k f)
  | _, _, σ => σ
theorem pl_out : ∀ (ks : List Nat) (fs : List (Nat → Int32)) (σ : RS) (k : Nat), k ∉ ks → pl ks fs σ k = σ k := by
  intro ks
  induction ks with
  | nil => intro fs σ k _; cases fs <;> rfl
  | cons a ks ih =>
    intro fs σ k h
    cases fs with
    | nil => rfl
    | cons f fs =>
      rw [pl, ih fs _ k (fun z => h (List.mem_cons_of_mem _ z)), s1_ne _ _ (fun z => h (by rw [z]; exact List.mem_cons_self))]
theorem pl_in : ∀ (ks : List Nat) (fs : List (Nat → Int32)) (σ : RS) (i k : Nat) (f : Nat → Int32), va_nd ks = true → ks[i]? = some k → fs[i]? = some f → pl ks fs σ k = f := by
  intro ks
  induction ks with
  | nil => intro fs σ i k f _ h; cases h
  | cons a ks ih =>
    intro fs σ i k f hn h1 h2
    have hn' : a ∉ ks ∧ va_nd ks = true := by simpa [va_nd] using hn
    cases fs with
    | nil => cases h2
    | cons f0 fs =>
      rw [pl]
      cases i with
      | zero =>
        cases h1
        cases h2
        rw [pl_out _ _ _ _ hn'.1, s1_same]
      | succ i => exact ih fs _ i k f hn'.2 h1 h2
theorem WD_o30 (σ : RS) (la sp rl tx : Nat) (f : Nat → Int32) : (WD σ la sp rl tx).set 30 (.inr (1, [.ref 2, .ref 50, .ref 31, .ref 32, .ref 33, .ref 34, .ref 35, .ref 36, .ref 37, .ref 38, .ref 39, .int (f 11), .int (f 12), .int (f 13)])) = WD (s1 σ 30 f) la sp rl tx := rfl
theorem WD_o40 (σ : RS) (la sp rl tx : Nat) (f : Nat → Int32) : (WD σ la sp rl tx).set 40 (.inr (1, [.ref 2, .ref 50, .ref 41, .ref 42, .ref 43, .ref 44, .ref 45, .ref 46, .ref 47, .ref 48, .ref 49, .int (f 11), .int (f 12), .int (f 13)])) = WD (s1 σ 40 f) la sp rl tx := rfl
theorem WD_o2 (σ : RS) (la sp rl tx : Nat) (f : Nat → Int32) : (WD σ la sp rl tx).set 2 (.inr (0, [.ref 3, .ref 4, .ref 5, .ref 6, .ref 7, .ref 8, .ref 9, .int (f 7), .int (f 8), .int (f 9)])) = WD (s1 σ 2 f) la sp rl tx := rfl
theorem WD_o50 (σ : RS) (la sp rl tx : Nat) (f : Nat → Int32) : (WD σ la sp rl tx).set 50 (.inr (5, [.ref 51, .ref 52, .ref 53, .int (f 3), .int (f 4), .int (f 5), .int (f 6)])) = WD (s1 σ 50 f) la sp rl tx := rfl
theorem WD_o10 (σ : RS) (la sp rl tx : Nat) (f : Nat → Int32) : (WD σ la sp rl tx).set 10 (.inr (2, [.ref 11, .ref 12, .ref 13, .ref 14, .ref 15, .ref 16, .ref 17, .int (f 7), .int (f 8)])) = WD (s1 σ 10 f) la sp rl tx := rfl
theorem WD_o18 (σ : RS) (la sp rl tx : Nat) (f : Nat → Int32) : (WD σ la sp rl tx).set 18 (.inr (2, [.ref 19, .ref 20, .ref 21, .ref 22, .ref 23, .ref 24, .ref 25, .int (f 7), .int (f 8)])) = WD (s1 σ 18 f) la sp rl tx := rfl
theorem PD_u1a (σ τ : RS) (g : Nat → Int32) (la sp rl tx : Nat) : wput (WD σ la sp rl tx) (kπ 30 10) ((WK τ g).map (renE (ρo (kπ 30 10)))) = WD (pl (kπ 30 10) [τ 0, τ 1, τ 2, τ 3, τ 4, τ 5, τ 6, τ 7, τ 8, τ 9, τ 10, τ 11, τ 12, τ 13, τ 14, τ 15, τ 16, τ 17, τ 18, τ 19, τ 20, τ 21, τ 22, τ 23, τ 24, τ 25, τ 26, τ 27, τ 28, g] σ) la sp rl tx := by
  refine wput_cons (WD_o30 _ la sp rl tx (τ 0)) ?_
  refine wput_cons (WD_a31 _ la sp rl tx (τ 1)) ?_
  refine wput_cons (WD_a32 _ la sp rl tx (τ 2)) ?_
  refine wput_cons (WD_a33 _ la sp rl tx (τ 3)) ?_
  refine wput_cons (WD_a34 _ la sp rl tx (τ 4)) ?_
  refine wput_cons (WD_a35 _ la sp rl tx (τ 5)) ?_
  refine wput_cons (WD_a36 _ la sp rl tx (τ 6)) ?_
  refine wput_cons (WD_a37 _ la sp rl tx (τ 7)) ?_
  refine wput_cons (WD_a38 _ la sp rl tx (τ 8)) ?_
  refine wput_cons (WD_a39 _ la sp rl tx (τ 9)) ?_
  refine wput_cons (WD_o2 _ la sp rl tx (τ 10)) ?_
  refine wput_cons (WD_a3 _ la sp rl tx (τ 11)) ?_
  refine wput_cons (WD_a4 _ la sp rl tx (τ 12)) ?_
  refine wput_cons (WD_a5 _ la sp rl tx (τ 13)) ?_
  refine wput_cons (WD_a6 _ la sp rl tx (τ 14)) ?_
  refine wput_cons (WD_a7 _ la sp rl tx (τ 15)) ?_
  refine wput_cons (WD_a8 _ la sp rl tx (τ 16)) ?_
  refine wput_cons (WD_a9 _ la sp rl tx (τ 17)) ?_
  refine wput_cons (WD_o50 _ la sp rl tx (τ 18)) ?_
  refine wput_cons (WD_a51 _ la sp rl tx (τ 19)) ?_
  refine wput_cons (WD_a52 _ la sp rl tx (τ 20)) ?_
  refine wput_cons (WD_a53 _ la sp rl tx (τ 21)) ?_
  refine wput_cons (WD_o10 _ la sp rl tx (τ 22)) ?_
  refine wput_cons (WD_a11 _ la sp rl tx (τ 23)) ?_
  refine wput_cons (WD_a12 _ la sp rl tx (τ 24)) ?_
  refine wput_cons (WD_a13 _ la sp rl tx (τ 25)) ?_
  refine wput_cons (WD_a14 _ la sp rl tx (τ 26)) ?_
  refine wput_cons (WD_a15 _ la sp rl tx (τ 27)) ?_
  refine wput_cons (WD_a16 _ la sp rl tx (τ 28)) ?_
  refine wput_cons (WD_a17 _ la sp rl tx g) ?_
  rfl
theorem PD_u1b (σ τ : RS) (g : Nat → Int32) (la sp rl tx : Nat) : wput (WD σ la sp rl tx) (kπ 30 18) ((WK τ g).map (renE (ρo (kπ 30 18)))) = WD (pl (kπ 30 18) [τ 0, τ 1, τ 2, τ 3, τ 4, τ 5, τ 6, τ 7, τ 8, τ 9, τ 10, τ 11, τ 12, τ 13, τ 14, τ 15, τ 16, τ 17, τ 18, τ 19, τ 20, τ 21, τ 22, τ 23, τ 24, τ 25, τ 26, τ 27, τ 28, g] σ) la sp rl tx := by
  refine wput_cons (WD_o30 _ la sp rl tx (τ 0)) ?_
  refine wput_cons (WD_a31 _ la sp rl tx (τ 1)) ?_
  refine wput_cons (WD_a32 _ la sp rl tx (τ 2)) ?_
  refine wput_cons (WD_a33 _ la sp rl tx (τ 3)) ?_
  refine wput_cons (WD_a34 _ la sp rl tx (τ 4)) ?_
  refine wput_cons (WD_a35 _ la sp rl tx (τ 5)) ?_
  refine wput_cons (WD_a36 _ la sp rl tx (τ 6)) ?_
  refine wput_cons (WD_a37 _ la sp rl tx (τ 7)) ?_
  refine wput_cons (WD_a38 _ la sp rl tx (τ 8)) ?_
  refine wput_cons (WD_a39 _ la sp rl tx (τ 9)) ?_
  refine wput_cons (WD_o2 _ la sp rl tx (τ 10)) ?_
  refine wput_cons (WD_a3 _ la sp rl tx (τ 11)) ?_
  refine wput_cons (WD_a4 _ la sp rl tx (τ 12)) ?_
  refine wput_cons (WD_a5 _ la sp rl tx (τ 13)) ?_
  refine wput_cons (WD_a6 _ la sp rl tx (τ 14)) ?_
  refine wput_cons (WD_a7 _ la sp rl tx (τ 15)) ?_
  refine wput_cons (WD_a8 _ la sp rl tx (τ 16)) ?_
  refine wput_cons (WD_a9 _ la sp rl tx (τ 17)) ?_
  refine wput_cons (WD_o50 _ la sp rl tx (τ 18)) ?_
  refine wput_cons (WD_a51 _ la sp rl tx (τ 19)) ?_
  refine wput_cons (WD_a52 _ la sp rl tx (τ 20)) ?_
  refine wput_cons (WD_a53 _ la sp rl tx (τ 21)) ?_
  refine wput_cons (WD_o18 _ la sp rl tx (τ 22)) ?_
  refine wput_cons (WD_a19 _ la sp rl tx (τ 23)) ?_
  refine wput_cons (WD_a20 _ la sp rl tx (τ 24)) ?_
  refine wput_cons (WD_a21 _ la sp rl tx (τ 25)) ?_
  refine wput_cons (WD_a22 _ la sp rl tx (τ 26)) ?_
  refine wput_cons (WD_a23 _ la sp rl tx (τ 27)) ?_
  refine wput_cons (WD_a24 _ la sp rl tx (τ 28)) ?_
  refine wput_cons (WD_a25 _ la sp rl tx g) ?_
  rfl
theorem PD_u2a (σ τ : RS) (g : Nat → Int32) (la sp rl tx : Nat) : wput (WD σ la sp rl tx) (kπ 40 10) ((WK τ g).map (renE (ρo (kπ 40 10)))) = WD (pl (kπ 40 10) [τ 0, τ 1, τ 2, τ 3, τ 4, τ 5, τ 6, τ 7, τ 8, τ 9, τ 10, τ 11, τ 12, τ 13, τ 14, τ 15, τ 16, τ 17, τ 18, τ 19, τ 20, τ 21, τ 22, τ 23, τ 24, τ 25, τ 26, τ 27, τ 28, g] σ) la sp rl tx := by
  refine wput_cons (WD_o40 _ la sp rl tx (τ 0)) ?_
  refine wput_cons (WD_a41 _ la sp rl tx (τ 1)) ?_
  refine wput_cons (WD_a42 _ la sp rl tx (τ 2)) ?_
  refine wput_cons (WD_a43 _ la sp rl tx (τ 3)) ?_
  refine wput_cons (WD_a44 _ la sp rl tx (τ 4)) ?_
  refine wput_cons (WD_a45 _ la sp rl tx (τ 5)) ?_
  refine wput_cons (WD_a46 _ la sp rl tx (τ 6)) ?_
  refine wput_cons (WD_a47 _ la sp rl tx (τ 7)) ?_
  refine wput_cons (WD_a48 _ la sp rl tx (τ 8)) ?_
  refine wput_cons (WD_a49 _ la sp rl tx (τ 9)) ?_
  refine wput_cons (WD_o2 _ la sp rl tx (τ 10)) ?_
  refine wput_cons (WD_a3 _ la sp rl tx (τ 11)) ?_
  refine wput_cons (WD_a4 _ la sp rl tx (τ 12)) ?_
  refine wput_cons (WD_a5 _ la sp rl tx (τ 13)) ?_
  refine wput_cons (WD_a6 _ la sp rl tx (τ 14)) ?_
  refine wput_cons (WD_a7 _ la sp rl tx (τ 15)) ?_
  refine wput_cons (WD_a8 _ la sp rl tx (τ 16)) ?_
  refine wput_cons (WD_a9 _ la sp rl tx (τ 17)) ?_
  refine wput_cons (WD_o50 _ la sp rl tx (τ 18)) ?_
  refine wput_cons (WD_a51 _ la sp rl tx (τ 19)) ?_
  refine wput_cons (WD_a52 _ la sp rl tx (τ 20)) ?_
  refine wput_cons (WD_a53 _ la sp rl tx (τ 21)) ?_
  refine wput_cons (WD_o10 _ la sp rl tx (τ 22)) ?_
  refine wput_cons (WD_a11 _ la sp rl tx (τ 23)) ?_
  refine wput_cons (WD_a12 _ la sp rl tx (τ 24)) ?_
  refine wput_cons (WD_a13 _ la sp rl tx (τ 25)) ?_
  refine wput_cons (WD_a14 _ la sp rl tx (τ 26)) ?_
  refine wput_cons (WD_a15 _ la sp rl tx (τ 27)) ?_
  refine wput_cons (WD_a16 _ la sp rl tx (τ 28)) ?_
  refine wput_cons (WD_a17 _ la sp rl tx g) ?_
  rfl
theorem PD_u2b (σ τ : RS) (g : Nat → Int32) (la sp rl tx : Nat) : wput (WD σ la sp rl tx) (kπ 40 18) ((WK τ g).map (renE (ρo (kπ 40 18)))) = WD (pl (kπ 40 18) [τ 0, τ 1, τ 2, τ 3, τ 4, τ 5, τ 6, τ 7, τ 8, τ 9, τ 10, τ 11, τ 12, τ 13, τ 14, τ 15, τ 16, τ 17, τ 18, τ 19, τ 20, τ 21, τ 22, τ 23, τ 24, τ 25, τ 26, τ 27, τ 28, g] σ) la sp rl tx := by
  refine wput_cons (WD_o40 _ la sp rl tx (τ 0)) ?_
  refine wput_cons (WD_a41 _ la sp rl tx (τ 1)) ?_
  refine wput_cons (WD_a42 _ la sp rl tx (τ 2)) ?_
  refine wput_cons (WD_a43 _ la sp rl tx (τ 3)) ?_
  refine wput_cons (WD_a44 _ la sp rl tx (τ 4)) ?_
  refine wput_cons (WD_a45 _ la sp rl tx (τ 5)) ?_
  refine wput_cons (WD_a46 _ la sp rl tx (τ 6)) ?_
  refine wput_cons (WD_a47 _ la sp rl tx (τ 7)) ?_
  refine wput_cons (WD_a48 _ la sp rl tx (τ 8)) ?_
  refine wput_cons (WD_a49 _ la sp rl tx (τ 9)) ?_
  refine wput_cons (WD_o2 _ la sp rl tx (τ 10)) ?_
  refine wput_cons (WD_a3 _ la sp rl tx (τ 11)) ?_
  refine wput_cons (WD_a4 _ la sp rl tx (τ 12)) ?_
  refine wput_cons (WD_a5 _ la sp rl tx (τ 13)) ?_
  refine wput_cons (WD_a6 _ la sp rl tx (τ 14)) ?_
  refine wput_cons (WD_a7 _ la sp rl tx (τ 15)) ?_
  refine wput_cons (WD_a8 _ la sp rl tx (τ 16)) ?_
  refine wput_cons (WD_a9 _ la sp rl tx (τ 17)) ?_
  refine wput_cons (WD_o50 _ la sp rl tx (τ 18)) ?_
  refine wput_cons (WD_a51 _ la sp rl tx (τ 19)) ?_
  refine wput_cons (WD_a52 _ la sp rl tx (τ 20)) ?_
  refine wput_cons (WD_a53 _ la sp rl tx (τ 21)) ?_
  refine wput_cons (WD_o18 _ la sp rl tx (τ 22)) ?_
  refine wput_cons (WD_a19 _ la sp rl tx (τ 23)) ?_
  refine wput_cons (WD_a20 _ la sp rl tx (τ 24)) ?_
  refine wput_cons (WD_a21 _ la sp rl tx (τ 25)) ?_
  refine wput_cons (WD_a22 _ la sp rl tx (τ 26)) ?_
  refine wput_cons (WD_a23 _ la sp rl tx (τ 27)) ?_
  refine wput_cons (WD_a24 _ la sp rl tx (τ 28)) ?_
  refine wput_cons (WD_a25 _ la sp rl tx g) ?_
  rfl
