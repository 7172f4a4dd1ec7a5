/-! THE LEXER (class 3). Its world: the object (start, kind, value, length, next) and the text. -/
def WX (sa : Int32) (kd : Int32) (va : Int32) (ln : Int32) (nx : Int32) (t : Nat → Int32) : MW := [.inr (3, [.int sa, .int kd, .int va, .ref 1, .int ln, .int nx]), .inl (.int, 2000, .inl t)]
theorem WX_p3_0 (sa : Int32) (kd : Int32) (va : Int32) (ln : Int32) (nx : Int32) (t : Nat → Int32) (v_ : Int32) : (WX sa kd va ln nx t).set 0 (.inr (3, [.int sa, .int kd, .int va, .ref 1, .int ln, .int nx].set 0 (.int v_))) = WX v_ kd va ln nx t := rfl
theorem WX_p3_1 (sa : Int32) (kd : Int32) (va : Int32) (ln : Int32) (nx : Int32) (t : Nat → Int32) (v_ : Int32) : (WX sa kd va ln nx t).set 0 (.inr (3, [.int sa, .int kd, .int va, .ref 1, .int ln, .int nx].set 1 (.int v_))) = WX sa v_ va ln nx t := rfl
theorem WX_p3_2 (sa : Int32) (kd : Int32) (va : Int32) (ln : Int32) (nx : Int32) (t : Nat → Int32) (v_ : Int32) : (WX sa kd va ln nx t).set 0 (.inr (3, [.int sa, .int kd, .int va, .ref 1, .int ln, .int nx].set 2 (.int v_))) = WX sa kd v_ ln nx t := rfl
theorem WX_p3_4 (sa : Int32) (kd : Int32) (va : Int32) (ln : Int32) (nx : Int32) (t : Nat → Int32) (v_ : Int32) : (WX sa kd va ln nx t).set 0 (.inr (3, [.int sa, .int kd, .int va, .ref 1, .int ln, .int nx].set 4 (.int v_))) = WX sa kd va v_ nx t := rfl
theorem WX_p3_5 (sa : Int32) (kd : Int32) (va : Int32) (ln : Int32) (nx : Int32) (t : Nat → Int32) (v_ : Int32) : (WX sa kd va ln nx t).set 0 (.inr (3, [.int sa, .int kd, .int va, .ref 1, .int ln, .int nx].set 5 (.int v_))) = WX sa kd va ln v_ t := rfl
theorem WX_a1 (sa : Int32) (kd : Int32) (va : Int32) (ln : Int32) (nx : Int32) (t : Nat → Int32) (g_ : Nat → Int32) : (WX sa kd va ln nx t).set 1 (.inl (.int, 2000, .inl g_)) = WX sa kd va ln nx g_ := rfl
theorem nI_sub {a b : Nat} (h : b ≤ a) : nI a - nI b = nI (a - b) := by
  have := nI_add (a - b) b
  rw [Nat.sub_add_cancel h] at this
  rw [← this, Int32.add_sub_cancel]
theorem nI_mul (a b : Nat) : nI a * nI b = nI (a * b) := (Int32.ofNat_mul a b).symm
def x_blank (c : Int32) : Bool := decide (c = 9 ∨ c = 10 ∨ c = 13 ∨ c = 32)
def x_letter (c : Int32) : Bool := decide (97 ≤ c ∧ c ≤ 122)
def x_digit (c : Int32) : Bool := decide (48 ≤ c ∧ c ≤ 57)
theorem k_isBlank {d : Nat} (w : MW) (c : Int32) : Ok d M3_isBlank [.int c] w (rt (some (.int (bI (x_blank c)))) w) := by
  refine Ok.of (ls := [some _]) (by decide +kernel) (Nat.le_of_ble_eq_true rfl) rfl ?_
  refine ev_iload_n (pc' := 1) dX3_isBlank_0 rfl rfl ?_
  refine ev_bipush (pc' := 3) (v := 9) dX3_isBlank_1 rfl (by decide) ?_
  refine ev_icmp_eq (tgt := 24) (pc' := 6) dX3_isBlank_3 (by decide) rfl (fun h_3 => ?_) (fun h_3 => ?_)
  · refine ev_iconst (pc' := 25) (v := 1) dX3_isBlank_24 rfl (by decide) ?_
    refine ev_goto (tgt := 29) dX3_isBlank_25 (by decide) ?_
    refine ev_zreturn rfl rfl dX3_isBlank_29 ?_
    refine rt_i ?_ rfl
    unfold x_blank
    simp_all [bI]
  · refine ev_iload_n (pc' := 7) dX3_isBlank_6 rfl rfl ?_
    refine ev_bipush (pc' := 9) (v := 10) dX3_isBlank_7 rfl (by decide) ?_
    refine ev_icmp_eq (tgt := 24) (pc' := 12) dX3_isBlank_9 (by decide) rfl (fun h_9 => ?_) (fun h_9 => ?_)
    · refine ev_iconst (pc' := 25) (v := 1) dX3_isBlank_24 rfl (by decide) ?_
      refine ev_goto (tgt := 29) dX3_isBlank_25 (by decide) ?_
      refine ev_zreturn rfl rfl dX3_isBlank_29 ?_
      refine rt_i ?_ rfl
      unfold x_blank
      simp_all [bI]
    · refine ev_iload_n (pc' := 13) dX3_isBlank_12 rfl rfl ?_
      refine ev_bipush (pc' := 15) (v := 13) dX3_isBlank_13 rfl (by decide) ?_
      refine ev_icmp_eq (tgt := 24) (pc' := 18) dX3_isBlank_15 (by decide) rfl (fun h_15 => ?_) (fun h_15 => ?_)
      · refine ev_iconst (pc' := 25) (v := 1) dX3_isBlank_24 rfl (by decide) ?_
        refine ev_goto (tgt := 29) dX3_isBlank_25 (by decide) ?_
        refine ev_zreturn rfl rfl dX3_isBlank_29 ?_
        refine rt_i ?_ rfl
        unfold x_blank
        simp_all [bI]
      · refine ev_iload_n (pc' := 19) dX3_isBlank_18 rfl rfl ?_
        refine ev_bipush (pc' := 21) (v := 32) dX3_isBlank_19 rfl (by decide) ?_
        refine ev_icmp_ne (tgt := 28) (pc' := 24) dX3_isBlank_21 (by decide) rfl (fun h_21 => ?_) (fun h_21 => ?_)
        · refine ev_iconst (pc' := 29) (v := 0) dX3_isBlank_28 rfl (by decide) ?_
          refine ev_zreturn rfl rfl dX3_isBlank_29 ?_
          refine rt_i ?_ rfl
          unfold x_blank
          simp_all [bI]
        · refine ev_iconst (pc' := 25) (v := 1) dX3_isBlank_24 rfl (by decide) ?_
          refine ev_goto (tgt := 29) dX3_isBlank_25 (by decide) ?_
          refine ev_zreturn rfl rfl dX3_isBlank_29 ?_
          refine rt_i ?_ rfl
          unfold x_blank
          simp_all [bI]
theorem k_isLetter {d : Nat} (w : MW) (c : Int32) : Ok d M3_isLetter [.int c] w (rt (some (.int (bI (x_letter c)))) w) := by
  refine Ok.of (ls := [some _]) (by decide +kernel) (Nat.le_of_ble_eq_true rfl) rfl ?_
  refine ev_iload_n (pc' := 1) dX3_isLetter_0 rfl rfl ?_
  refine ev_bipush (pc' := 3) (v := 97) dX3_isLetter_1 rfl (by decide) ?_
  refine ev_icmp_lt (tgt := 16) (pc' := 6) dX3_isLetter_3 (by decide) rfl (fun h_3 => ?_) (fun h_3 => ?_)
  · refine ev_iconst (pc' := 17) (v := 0) dX3_isLetter_16 rfl (by decide) ?_
    refine ev_zreturn rfl rfl dX3_isLetter_17 ?_
    refine rt_i ?_ rfl
    unfold x_letter
    simp only [fa_lt, fa_le, Int32.reduceToInt] at *
    first | (rw [decide_eq_true (by omega)]; rfl) | (rw [decide_eq_false (by omega)]; rfl)
  · refine ev_iload_n (pc' := 7) dX3_isLetter_6 rfl rfl ?_
    refine ev_bipush (pc' := 9) (v := 122) dX3_isLetter_7 rfl (by decide) ?_
    refine ev_icmp_gt (tgt := 16) (pc' := 12) dX3_isLetter_9 (by decide) rfl (fun h_9 => ?_) (fun h_9 => ?_)
    · refine ev_iconst (pc' := 17) (v := 0) dX3_isLetter_16 rfl (by decide) ?_
      refine ev_zreturn rfl rfl dX3_isLetter_17 ?_
      refine rt_i ?_ rfl
      unfold x_letter
      simp only [fa_lt, fa_le, Int32.reduceToInt] at *
      first | (rw [decide_eq_true (by omega)]; rfl) | (rw [decide_eq_false (by omega)]; rfl)
    · refine ev_iconst (pc' := 13) (v := 1) dX3_isLetter_12 rfl (by decide) ?_
      refine ev_goto (tgt := 17) dX3_isLetter_13 (by decide) ?_
      refine ev_zreturn rfl rfl dX3_isLetter_17 ?_
      refine rt_i ?_ rfl
      unfold x_letter
      simp only [fa_lt, fa_le, Int32.reduceToInt] at *
      first | (rw [decide_eq_true (by omega)]; rfl) | (rw [decide_eq_false (by omega)]; rfl)
theorem k_isDigit {d : Nat} (w : MW) (c : Int32) : Ok d M3_isDigit [.int c] w (rt (some (.int (bI (x_digit c)))) w) := by
  refine Ok.of (ls := [some _]) (by decide +kernel) (Nat.le_of_ble_eq_true rfl) rfl ?_
  refine ev_iload_n (pc' := 1) dX3_isDigit_0 rfl rfl ?_
  refine ev_bipush (pc' := 3) (v := 48) dX3_isDigit_1 rfl (by decide) ?_
  refine ev_icmp_lt (tgt := 16) (pc' := 6) dX3_isDigit_3 (by decide) rfl (fun h_3 => ?_) (fun h_3 => ?_)
  · refine ev_iconst (pc' := 17) (v := 0) dX3_isDigit_16 rfl (by decide) ?_
    refine ev_zreturn rfl rfl dX3_isDigit_17 ?_
    refine rt_i ?_ rfl
    unfold x_digit
    simp only [fa_lt, fa_le, Int32.reduceToInt] at *
    first | (rw [decide_eq_true (by omega)]; rfl) | (rw [decide_eq_false (by omega)]; rfl)
  · refine ev_iload_n (pc' := 7) dX3_isDigit_6 rfl rfl ?_
    refine ev_bipush (pc' := 9) (v := 57) dX3_isDigit_7 rfl (by decide) ?_
    refine ev_icmp_gt (tgt := 16) (pc' := 12) dX3_isDigit_9 (by decide) rfl (fun h_9 => ?_) (fun h_9 => ?_)
    · refine ev_iconst (pc' := 17) (v := 0) dX3_isDigit_16 rfl (by decide) ?_
      refine ev_zreturn rfl rfl dX3_isDigit_17 ?_
      refine rt_i ?_ rfl
      unfold x_digit
      simp only [fa_lt, fa_le, Int32.reduceToInt] at *
      first | (rw [decide_eq_true (by omega)]; rfl) | (rw [decide_eq_false (by omega)]; rfl)
    · refine ev_iconst (pc' := 13) (v := 1) dX3_isDigit_12 rfl (by decide) ?_
      refine ev_goto (tgt := 17) dX3_isDigit_13 (by decide) ?_
      refine ev_zreturn rfl rfl dX3_isDigit_17 ?_
      refine rt_i ?_ rfl
      unfold x_digit
      simp only [fa_lt, fa_le, Int32.reduceToInt] at *
      first | (rw [decide_eq_true (by omega)]; rfl) | (rw [decide_eq_false (by omega)]; rfl)
def x_byte (n : Nat) (t : Nat → Int32) (i : Nat) : Int32 := if i < n then t i else -1
theorem k_byteAt {d : Nat} {sa kd va nx : Int32} {t : Nat → Int32} {n : Nat} (hn : n ≤ 2000) (i : Nat) (hi : i < 2 ^ 31) : Ok (d + 1) M3_byteAt [.ref 0, .int (nI i)] (WX sa kd va (nI n) nx t) (rt (some (.int (x_byte n t i))) (WX sa kd va (nI n) nx t)) := by
  refine Ok.of (ls := [some _, some _]) (by decide +kernel) (Nat.le_of_ble_eq_true rfl) rfl ?_
  refine ev_iload_n (pc' := 1) dX3_byteAt_0 rfl rfl ?_
  refine ev_aload_n (pc' := 2) dX3_byteAt_1 rfl rfl ?_
  refine ev_getf (pc' := 5) fl_3_25 dX3_byteAt_2 rfl rfl rfl ?_
  refine ev_icmp_ge (tgt := 19) (pc' := 8) dX3_byteAt_5 (by decide) rfl (fun h_5 => ?_) (fun h_5 => ?_)
  · refine ev_iconst (pc' := 20) (v := -1) dX3_byteAt_19 rfl (by decide) ?_
    refine ev_ireturn rfl dX3_byteAt_20 ?_
    refine rt_i ?_ rfl
    unfold x_byte
    rw [nI_leI (by omega) hi] at h_5
    first | (rw [if_neg (by omega)]; done) | (rw [if_pos (by omega), atF_nI _ (by omega) (by omega)]; done)
  · refine ev_aload_n (pc' := 9) dX3_byteAt_8 rfl rfl ?_
    refine ev_getf (pc' := 12) fl_3_21 dX3_byteAt_9 rfl rfl rfl ?_
    refine ev_iload_n (pc' := 13) dX3_byteAt_12 rfl rfl ?_
    refine ev_cNi2 (pc' := 16) cl_3_61 (k_at rfl (by decide)) dX3_byteAt_13 rfl rfl ?_
    refine ev_goto (tgt := 20) dX3_byteAt_16 (by decide) ?_
    refine ev_ireturn rfl dX3_byteAt_20 ?_
    refine rt_i ?_ rfl
    unfold x_byte
    rw [nI_leI (by omega) hi] at h_5
    first | (rw [if_neg (by omega)]; done) | (rw [if_pos (by omega), atF_nI _ (by omega) (by omega)]; done)
/-- from i on as long as p holds: where it ends -/
def x_skip (p : Int32 → Bool) (t : Nat → Int32) : Nat → Nat → Nat
  | 0, i => i
  | c + 1, i => if p (t i) = true then x_skip p t c (i + 1) else i
theorem x_skip_le (p : Int32 → Bool) (t : Nat → Int32) : ∀ c i, i ≤ x_skip p t c i ∧ x_skip p t c i ≤ i + c := by
  intro c
  induction c with
  | zero => intro i; exact ⟨Nat.le_refl _, Nat.le_refl _⟩
  | succ c ih =>
    intro i
    unfold x_skip
    split
    · have := ih (i + 1); omega
    · omega
theorem k_blanks {d : Nat} {Q : Option Value → MW → Prop} {sa kd va : Int32} {t : Nat → Int32} {n : Nat} (hn : n ≤ 2000) {z : Option Value} : ∀ (c i : Nat), i + c = n → Ev (d + 2) M3_cutToken Q 38 [some (.ref 0), z] [] (WX sa kd va (nI n) (nI (x_skip x_blank t c i)) t) → Ev (d + 2) M3_cutToken Q 0 [some (.ref 0), z] [] (WX sa kd va (nI n) (nI i) t) := by
  intro c
  induction c with
  | zero =>
    intro i hi kk
    have hi : i = n := by omega
    subst hi
    refine ev_aload_n (pc' := 1) dX3_cutToken_0 rfl rfl ?_
    refine ev_getf (pc' := 4) fl_3_28 dX3_cutToken_1 rfl rfl rfl ?_
    refine ev_aload_n (pc' := 5) dX3_cutToken_4 rfl rfl ?_
    refine ev_getf (pc' := 8) fl_3_25 dX3_cutToken_5 rfl rfl rfl ?_
    refine ev_icmp_ge (tgt := 38) (pc' := 11) dX3_cutToken_8 (by decide) rfl (fun h_8 => ?_) (fun h_8 => ?_)
    · exact kk --
    · exact absurd (nI_le (Nat.le_refl _) (by omega)) h_8 --
  | succ c ih =>
    intro i hi kk
    rw [x_skip] at kk
    have hb : x_byte n t i = t i := if_pos (by omega)
    refine ev_aload_n (pc' := 1) dX3_cutToken_0 rfl rfl ?_
    refine ev_getf (pc' := 4) fl_3_28 dX3_cutToken_1 rfl rfl rfl ?_
    refine ev_aload_n (pc' := 5) dX3_cutToken_4 rfl rfl ?_
    refine ev_getf (pc' := 8) fl_3_25 dX3_cutToken_5 rfl rfl rfl ?_
    refine ev_icmp_ge (tgt := 38) (pc' := 11) dX3_cutToken_8 (by decide) rfl (fun h_8 => ?_) (fun h_8 => ?_)
    · exact absurd h_8 (nI_ge (by omega) (by omega)) --
    · refine ev_aload_n (pc' := 12) dX3_cutToken_11 rfl rfl ?_
      refine ev_aload_n (pc' := 13) dX3_cutToken_12 rfl rfl ?_
      refine ev_getf (pc' := 16) fl_3_28 dX3_cutToken_13 rfl rfl rfl ?_
      refine ev_cVi1 (pc' := 19) cl_3_37 (k_byteAt hn i (by omega)) dX3_cutToken_16 rfl rfl rfl rfl ?_
      rw [hb]
      refine ev_cSi1 (pc' := 22) cl_3_41 (k_isBlank _ _) dX3_cutToken_19 rfl rfl ?_
      refine ev_if_eq (tgt := 38) (pc' := 25) dX3_cutToken_22 (by decide) rfl (fun h_22 => ?_) (fun h_22 => ?_)
      · rw [bI_0] at h_22
        rw [if_neg (by rw [h_22]; decide)] at kk
        exact kk --
      · rw [bI_0, Bool.not_eq_false] at h_22
        rw [if_pos h_22] at kk
        refine ev_aload_n (pc' := 26) dX3_cutToken_25 rfl rfl ?_
        refine ev_dup (pc' := 27) dX3_cutToken_26 rfl rfl ?_
        refine ev_getf (pc' := 30) fl_3_28 dX3_cutToken_27 rfl rfl rfl ?_
        refine ev_iconst (pc' := 31) (v := 1) dX3_cutToken_30 rfl (by decide) ?_
        refine ev_iadd (pc' := 32) dX3_cutToken_31 rfl ?_
        refine ev_putf (pc' := 35) fs_3_28 dX3_cutToken_32 rfl rfl (Nat.le_of_ble_eq_true rfl) (fun _ => rfl) (fun _ => rfl) (WX_p3_5 _ _ _ _ _ _ _) ?_
        refine ev_goto (tgt := 0) dX3_cutToken_35 (by decide) ?_
        rw [nI_1]
        exact ih (i + 1) (by omega) kk
theorem k_letters {d : Nat} {Q : Option Value → MW → Prop} {sa kd va : Int32} {t : Nat → Int32} {n : Nat} (hn : n ≤ 2000) {z : Option Value} : ∀ (c i : Nat), i + c = n → Ev (d + 2) M3_cutWord Q 38 [some (.ref 0), z] [] (WX sa kd va (nI n) (nI (x_skip x_letter t c i)) t) → Ev (d + 2) M3_cutWord Q 0 [some (.ref 0), z] [] (WX sa kd va (nI n) (nI i) t) := by
  intro c
  induction c with
  | zero =>
    intro i hi kk
    have hi : i = n := by omega
    subst hi
    refine ev_aload_n (pc' := 1) dX3_cutWord_0 rfl rfl ?_
    refine ev_getf (pc' := 4) fl_3_28 dX3_cutWord_1 rfl rfl rfl ?_
    refine ev_aload_n (pc' := 5) dX3_cutWord_4 rfl rfl ?_
    refine ev_getf (pc' := 8) fl_3_25 dX3_cutWord_5 rfl rfl rfl ?_
    refine ev_icmp_ge (tgt := 38) (pc' := 11) dX3_cutWord_8 (by decide) rfl (fun h_8 => ?_) (fun h_8 => ?_)
    · exact kk --
    · exact absurd (nI_le (Nat.le_refl _) (by omega)) h_8 --
  | succ c ih =>
    intro i hi kk
    rw [x_skip] at kk
    have hb : x_byte n t i = t i := if_pos (by omega)
    refine ev_aload_n (pc' := 1) dX3_cutWord_0 rfl rfl ?_
    refine ev_getf (pc' := 4) fl_3_28 dX3_cutWord_1 rfl rfl rfl ?_
    refine ev_aload_n (pc' := 5) dX3_cutWord_4 rfl rfl ?_
    refine ev_getf (pc' := 8) fl_3_25 dX3_cutWord_5 rfl rfl rfl ?_
    refine ev_icmp_ge (tgt := 38) (pc' := 11) dX3_cutWord_8 (by decide) rfl (fun h_8 => ?_) (fun h_8 => ?_)
    · exact absurd h_8 (nI_ge (by omega) (by omega)) --
    · refine ev_aload_n (pc' := 12) dX3_cutWord_11 rfl rfl ?_
      refine ev_aload_n (pc' := 13) dX3_cutWord_12 rfl rfl ?_
      refine ev_getf (pc' := 16) fl_3_28 dX3_cutWord_13 rfl rfl rfl ?_
      refine ev_cVi1 (pc' := 19) cl_3_37 (k_byteAt hn i (by omega)) dX3_cutWord_16 rfl rfl rfl rfl ?_
      rw [hb]
      refine ev_cSi1 (pc' := 22) cl_3_45 (k_isLetter _ _) dX3_cutWord_19 rfl rfl ?_
      refine ev_if_eq (tgt := 38) (pc' := 25) dX3_cutWord_22 (by decide) rfl (fun h_22 => ?_) (fun h_22 => ?_)
      · rw [bI_0] at h_22
        rw [if_neg (by rw [h_22]; decide)] at kk
        exact kk --
      · rw [bI_0, Bool.not_eq_false] at h_22
        rw [if_pos h_22] at kk
        refine ev_aload_n (pc' := 26) dX3_cutWord_25 rfl rfl ?_
        refine ev_dup (pc' := 27) dX3_cutWord_26 rfl rfl ?_
        refine ev_getf (pc' := 30) fl_3_28 dX3_cutWord_27 rfl rfl rfl ?_
        refine ev_iconst (pc' := 31) (v := 1) dX3_cutWord_30 rfl (by decide) ?_
        refine ev_iadd (pc' := 32) dX3_cutWord_31 rfl ?_
        refine ev_putf (pc' := 35) fs_3_28 dX3_cutWord_32 rfl rfl (Nat.le_of_ble_eq_true rfl) (fun _ => rfl) (fun _ => rfl) (WX_p3_5 _ _ _ _ _ _ _) ?_
        refine ev_goto (tgt := 0) dX3_cutWord_35 (by decide) ?_
        rw [nI_1]
        exact ih (i + 1) (by omega) kk
def x_let (s e : Nat) (t : Nat → Int32) (i : Nat) : Int32 := if s + i < e then t (s + i) else 32
def x_match (s e : Nat) (t : Nat → Int32) (w : Nat) : Nat → Nat → Bool
  | 0, _ => true
  | c + 1, i => if BYT.getD (w * 5 + i) 0 = x_let s e t i then x_match s e t w c (i + 1) else false
def x_isWord (s e : Nat) (t : Nat → Int32) (w : Nat) : Bool := if 5 < e - s then false else x_match s e t w 5 0
theorem k_isWord_loop {d : Nat} {kd va : Int32} {t : Nat → Int32} {n s e w : Nat} (hn : n ≤ 2000) (hs : s ≤ e) (he : e ≤ n) (hw : w < 14) : ∀ (c i : Nat) (z3 z4 : Option Value), i + c = 5 → Ev (d + 4) M3_isWord (rt (some (.int (bI (x_match s e t w c i)))) (WX (nI s) kd va (nI n) (nI e) t)) 17 [some (.ref 0), some (.int (nI w)), some (.int (nI i)), z3, z4] [] (WX (nI s) kd va (nI n) (nI e) t) := by
  intro c
  induction c with
  | zero =>
    intro i z3 z4 hi
    have hi : i = 5 := by omega
    subst hi
    refine ev_iload_n (pc' := 18) dX3_isWord_17 rfl rfl ?_
    refine ev_iconst (pc' := 19) (v := 5) dX3_isWord_18 rfl (by decide) ?_
    refine ev_icmp_ge (tgt := 86) (pc' := 22) dX3_isWord_19 (by decide) rfl (fun h_19 => ?_) (fun h_19 => ?_)
    · refine ev_iconst (pc' := 87) (v := 1) dX3_isWord_86 rfl (by decide) ?_
      refine ev_zreturn rfl rfl dX3_isWord_87 ?_
      exact ⟨rfl, rfl⟩
    · exact absurd (show (5 : Int32) ≤ nI 5 from nI_le (a := 5) (by omega) (by omega)) h_19 --
  | succ c ih =>
    intro i z3 z4 hi
    have e1 : nI w * 5 + nI i = nI (w * 5 + i) := by rw [show nI w * 5 = nI (w * 5) from nI_mul w 5, nI_add]
    have e2 : nI s + nI i = nI (s + i) := nI_add _ _
    rw [x_match]
    refine ev_iload_n (pc' := 18) dX3_isWord_17 rfl rfl ?_
    refine ev_iconst (pc' := 19) (v := 5) dX3_isWord_18 rfl (by decide) ?_
    refine ev_icmp_ge (tgt := 86) (pc' := 22) dX3_isWord_19 (by decide) rfl (fun h_19 => ?_) (fun h_19 => ?_)
    · exact absurd h_19 (nI_ge (b := 5) (by omega) (by omega)) --
    · refine ev_iload_n (pc' := 23) dX3_isWord_22 rfl rfl ?_
      refine ev_iconst (pc' := 24) (v := 5) dX3_isWord_23 rfl (by decide) ?_
      refine ev_imul (pc' := 25) dX3_isWord_24 rfl ?_
      refine ev_iload_n (pc' := 26) dX3_isWord_25 rfl rfl ?_
      refine ev_iadd (pc' := 27) dX3_isWord_26 rfl ?_
      rw [e1]
      refine ev_istore_n (pc' := 28) (ls' := [_, _, _, _, _]) dX3_isWord_27 rfl rfl rfl ?_
      refine ev_aload_n (pc' := 29) dX3_isWord_28 rfl rfl ?_
      refine ev_getf (pc' := 32) fl_3_9 dX3_isWord_29 rfl rfl rfl ?_
      refine ev_iload_n (pc' := 33) dX3_isWord_32 rfl rfl ?_
      refine ev_iadd (pc' := 34) dX3_isWord_33 rfl ?_
      rw [e2]
      refine ev_aload_n (pc' := 35) dX3_isWord_34 rfl rfl ?_
      refine ev_getf (pc' := 38) fl_3_28 dX3_isWord_35 rfl rfl rfl ?_
      refine ev_icmp_ge (tgt := 54) (pc' := 41) dX3_isWord_38 (by decide) rfl (fun h_38 => ?_) (fun h_38 => ?_)
      · rw [nI_leI (by omega) (by omega)] at h_38
        have e3 : (32 : Int32) = x_let s e t i := (if_neg (by omega)).symm
        refine ev_bipush (pc' := 56) (v := 32) dX3_isWord_54 rfl (by decide) ?_
        refine ev_istore (pc' := 58) (ls' := [_, _, _, _, _]) dX3_isWord_56 rfl rfl rfl ?_
        refine ev_iload_n (pc' := 59) dX3_isWord_58 rfl rfl ?_
        refine ev_ldcS (pc' := 61) rfl dX3_isWord_59 rfl ?_
        refine ev_cTi (pc' := 64) (rest := [_]) [] clJ_length (j_length _) dX3_isWord_61 rfl rfl rfl rfl rfl ?_
        refine ev_icmp_ge (tgt := 78) (pc' := 67) dX3_isWord_64 (by decide) rfl (fun h_64 => ?_) (fun h_64 => ?_)
        · exact absurd h_64 (nI_ge (b := 70) (by omega) (by omega)) --
        · refine ev_ldcS (pc' := 69) rfl dX3_isWord_67 rfl ?_
          refine ev_iload_n (pc' := 70) dX3_isWord_69 rfl rfl ?_
          refine ev_cTi (pc' := 73) (rest := []) [_] clJ_charAt (j_charAt _ (w * 5 + i) (by omega)) dX3_isWord_70 rfl rfl rfl rfl rfl ?_
          refine ev_iload (pc' := 75) dX3_isWord_73 rfl rfl ?_
          refine ev_icmp_eq (tgt := 80) (pc' := 78) dX3_isWord_75 (by decide) rfl (fun h_75 => ?_) (fun h_75 => ?_)
          · rw [if_pos (h_75.trans e3)]
            refine ev_iinc (pc' := 83) (ls' := [_, _, _, _, _]) dX3_isWord_80 rfl rfl rfl rfl rfl ?_
            refine ev_goto (tgt := 17) dX3_isWord_83 (by decide) ?_
            rw [nI_p1]
            exact ih (i + 1) _ _ (by omega)
          · rw [if_neg (fun z => h_75 (z.trans e3.symm))]
            refine ev_iconst (pc' := 79) (v := 0) dX3_isWord_78 rfl (by decide) ?_
            refine ev_zreturn rfl rfl dX3_isWord_79 ?_
            exact ⟨rfl, rfl⟩
      · rw [nI_leI (by omega) (by omega)] at h_38
        have e3 : x_byte n t (s + i) = x_let s e t i := (if_pos (by omega)).trans (if_pos (by omega)).symm
        refine ev_aload_n (pc' := 42) dX3_isWord_41 rfl rfl ?_
        refine ev_aload_n (pc' := 43) dX3_isWord_42 rfl rfl ?_
        refine ev_getf (pc' := 46) fl_3_9 dX3_isWord_43 rfl rfl rfl ?_
        refine ev_iload_n (pc' := 47) dX3_isWord_46 rfl rfl ?_
        refine ev_iadd (pc' := 48) dX3_isWord_47 rfl ?_
        rw [e2]
        refine ev_cVi1 (pc' := 51) cl_3_37 (k_byteAt hn _ (by omega)) dX3_isWord_48 rfl rfl rfl rfl ?_
        refine ev_goto (tgt := 56) dX3_isWord_51 (by decide) ?_
        refine ev_istore (pc' := 58) (ls' := [_, _, _, _, _]) dX3_isWord_56 rfl rfl rfl ?_
        refine ev_iload_n (pc' := 59) dX3_isWord_58 rfl rfl ?_
        refine ev_ldcS (pc' := 61) rfl dX3_isWord_59 rfl ?_
        refine ev_cTi (pc' := 64) (rest := [_]) [] clJ_length (j_length _) dX3_isWord_61 rfl rfl rfl rfl rfl ?_
        refine ev_icmp_ge (tgt := 78) (pc' := 67) dX3_isWord_64 (by decide) rfl (fun h_64 => ?_) (fun h_64 => ?_)
        · exact absurd h_64 (nI_ge (b := 70) (by omega) (by omega)) --
        · refine ev_ldcS (pc' := 69) rfl dX3_isWord_67 rfl ?_
          refine ev_iload_n (pc' := 70) dX3_isWord_69 rfl rfl ?_
          refine ev_cTi (pc' := 73) (rest := []) [_] clJ_charAt (j_charAt _ (w * 5 + i) (by omega)) dX3_isWord_70 rfl rfl rfl rfl rfl ?_
          refine ev_iload (pc' := 75) dX3_isWord_73 rfl rfl ?_
          refine ev_icmp_eq (tgt := 80) (pc' := 78) dX3_isWord_75 (by decide) rfl (fun h_75 => ?_) (fun h_75 => ?_)
          · rw [if_pos (h_75.trans e3)]
            refine ev_iinc (pc' := 83) (ls' := [_, _, _, _, _]) dX3_isWord_80 rfl rfl rfl rfl rfl ?_
            refine ev_goto (tgt := 17) dX3_isWord_83 (by decide) ?_
            rw [nI_p1]
            exact ih (i + 1) _ _ (by omega)
          · rw [if_neg (fun z => h_75 (z.trans e3.symm))]
            refine ev_iconst (pc' := 79) (v := 0) dX3_isWord_78 rfl (by decide) ?_
            refine ev_zreturn rfl rfl dX3_isWord_79 ?_
            exact ⟨rfl, rfl⟩
theorem k_isWord {d : Nat} {kd va : Int32} {t : Nat → Int32} {n s e w : Nat} (hn : n ≤ 2000) (hs : s ≤ e) (he : e ≤ n) (hw : w < 14) : Ok (d + 4) M3_isWord [.ref 0, .int (nI w)] (WX (nI s) kd va (nI n) (nI e) t) (rt (some (.int (bI (x_isWord s e t w)))) (WX (nI s) kd va (nI n) (nI e) t)) := by
  have e1 : nI e - nI s = nI (e - s) := nI_sub hs
  refine Ok.of (ls := [some _, some _, none, none, none]) (by decide +kernel) (Nat.le_of_ble_eq_true rfl) rfl ?_
  refine ev_aload_n (pc' := 1) dX3_isWord_0 rfl rfl ?_
  refine ev_getf (pc' := 4) fl_3_28 dX3_isWord_1 rfl rfl rfl ?_
  refine ev_aload_n (pc' := 5) dX3_isWord_4 rfl rfl ?_
  refine ev_getf (pc' := 8) fl_3_9 dX3_isWord_5 rfl rfl rfl ?_
  refine ev_isub (pc' := 9) dX3_isWord_8 rfl ?_
  rw [e1]
  refine ev_iconst (pc' := 10) (v := 5) dX3_isWord_9 rfl (by decide) ?_
  refine ev_icmp_le (tgt := 15) (pc' := 13) dX3_isWord_10 (by decide) rfl (fun h_10 => ?_) (fun h_10 => ?_)
  · have h5 : ¬ 5 < e - s := by
      have := (nI_leI (a := e - s) (b := 5) (by omega) (by omega)).mp h_10
      omega
    rw [x_isWord, if_neg h5]
    refine ev_iconst (pc' := 16) (v := 0) dX3_isWord_15 rfl (by decide) ?_
    refine ev_istore_n (pc' := 17) (ls' := [_, _, _, _, _]) dX3_isWord_16 rfl rfl rfl ?_
    exact k_isWord_loop hn hs he hw 5 0 _ _ rfl
  · have h5 : 5 < e - s := Nat.lt_of_not_le (fun z => h_10 ((nI_leI (a := e - s) (b := 5) (by omega) (by omega)).mpr z))
    rw [x_isWord, if_pos h5]
    refine ev_iconst (pc' := 14) (v := 0) dX3_isWord_13 rfl (by decide) ?_
    refine ev_zreturn rfl rfl dX3_isWord_14 ?_
    exact ⟨rfl, rfl⟩
/-- the first word that stands there -/
def x_find (s e : Nat) (t : Nat → Int32) : Nat → Nat → Option Nat
  | 0, _ => none
  | c + 1, w => if x_isWord s e t w = true then some w else x_find s e t c (w + 1)
theorem k_find {d : Nat} {kd va : Int32} {t : Nat → Int32} {n s e : Nat} (hn : n ≤ 2000) (hs : s ≤ e) (he : e ≤ n) : ∀ (c w : Nat), w + c = 14 → Ev (d + 5) M3_cutWord (match x_find s e t c w with | some k => rt (some (.int (if (5 : Int32) < nI k then 5 else nI k))) (WX (nI s) kd (if (0 : Int32) < nI k - 5 then nI k - 5 else 0) (nI n) (nI e) t) | none => rt (some (.int 18)) (WX (nI s) kd va (nI n) (nI e) t)) 40 [some (.ref 0), some (.int (nI w))] [] (WX (nI s) kd va (nI n) (nI e) t) := by
  intro c
  induction c with
  | zero =>
    intro w hw
    have hw : w = 14 := by omega
    subst hw
    refine ev_iload_n (pc' := 41) dX3_cutWord_40 rfl rfl ?_
    refine ev_bipush (pc' := 43) (v := 14) dX3_cutWord_41 rfl (by decide) ?_
    refine ev_icmp_ge (tgt := 77) (pc' := 46) dX3_cutWord_43 (by decide) rfl (fun h_43 => ?_) (fun h_43 => ?_)
    · refine ev_bipush (pc' := 79) (v := 18) dX3_cutWord_77 rfl (by decide) ?_
      refine ev_ireturn rfl dX3_cutWord_79 ?_
      exact ⟨rfl, rfl⟩
    · exact absurd (show (14 : Int32) ≤ nI 14 from nI_le (a := 14) (by omega) (by omega)) h_43 --
  | succ c ih =>
    intro w hw
    rw [x_find]
    refine ev_iload_n (pc' := 41) dX3_cutWord_40 rfl rfl ?_
    refine ev_bipush (pc' := 43) (v := 14) dX3_cutWord_41 rfl (by decide) ?_
    refine ev_icmp_ge (tgt := 77) (pc' := 46) dX3_cutWord_43 (by decide) rfl (fun h_43 => ?_) (fun h_43 => ?_)
    · exact absurd h_43 (nI_ge (b := 14) (by omega) (by omega)) --
    · refine ev_aload_n (pc' := 47) dX3_cutWord_46 rfl rfl ?_
      refine ev_iload_n (pc' := 48) dX3_cutWord_47 rfl rfl ?_
      refine ev_cVi1 (pc' := 51) cl_3_65 (k_isWord hn hs he (by omega)) dX3_cutWord_48 rfl rfl rfl rfl ?_
      refine ev_if_eq (tgt := 71) (pc' := 54) dX3_cutWord_51 (by decide) rfl (fun h_51 => ?_) (fun h_51 => ?_)
      · rw [bI_0] at h_51
        rw [if_neg (by rw [h_51]; decide)]
        refine ev_iinc (pc' := 74) (ls' := [_, _]) dX3_cutWord_71 rfl rfl rfl rfl rfl ?_
        refine ev_goto (tgt := 40) dX3_cutWord_74 (by decide) ?_
        rw [nI_p1]
        exact ih (w + 1) (by omega)
      · rw [bI_0, Bool.not_eq_false] at h_51
        rw [if_pos h_51]
        refine ev_aload_n (pc' := 55) dX3_cutWord_54 rfl rfl ?_
        refine ev_iconst (pc' := 56) (v := 0) dX3_cutWord_55 rfl (by decide) ?_
        refine ev_iload_n (pc' := 57) dX3_cutWord_56 rfl rfl ?_
        refine ev_iconst (pc' := 58) (v := 5) dX3_cutWord_57 rfl (by decide) ?_
        refine ev_isub (pc' := 59) dX3_cutWord_58 rfl ?_
        refine ev_mmax (pc' := 62) pw_3_68 dX3_cutWord_59 rfl rfl ?_
        refine ev_putf (pc' := 65) fs_3_18 dX3_cutWord_62 rfl rfl (Nat.le_of_ble_eq_true rfl) (fun _ => rfl) (fun _ => rfl) (WX_p3_2 _ _ _ _ _ _ _) ?_
        refine ev_iload_n (pc' := 66) dX3_cutWord_65 rfl rfl ?_
        refine ev_iconst (pc' := 67) (v := 5) dX3_cutWord_66 rfl (by decide) ?_
        refine ev_mmin (pc' := 70) pw_3_31 dX3_cutWord_67 rfl rfl ?_
        refine ev_ireturn rfl dX3_cutWord_70 ?_
        exact ⟨rfl, rfl⟩
def x_wk (k : Option Nat) : Int32 := match k with | some k => if (5 : Int32) < nI k then 5 else nI k | none => 18
def x_wv (va : Int32) (k : Option Nat) : Int32 := match k with | some k => if (0 : Int32) < nI k - 5 then nI k - 5 else 0 | none => va
theorem k_cutWord {d : Nat} {kd va : Int32} {t : Nat → Int32} {n s : Nat} (hn : n ≤ 2000) (hs : s ≤ n) : Ok (d + 5) M3_cutWord [.ref 0] (WX (nI s) kd va (nI n) (nI s) t) (rt (some (.int (x_wk (x_find s (x_skip x_letter t (n - s) s) t 14 0)))) (WX (nI s) kd (x_wv va (x_find s (x_skip x_letter t (n - s) s) t 14 0)) (nI n) (nI (x_skip x_letter t (n - s) s)) t)) := by
  have hx := x_skip_le x_letter t (n - s) s
  refine Ok.of (ls := [some _, none]) (by decide +kernel) (Nat.le_of_ble_eq_true rfl) rfl ?_
  refine k_letters hn (n - s) s (by omega) ?_
  have hq := k_find (d := d) (kd := kd) (va := va) (t := t) (n := n) (s := s) (e := x_skip x_letter t (n - s) s) hn hx.1 (by omega) 14 0 rfl
  refine ev_iconst (pc' := 39) (v := 0) dX3_cutWord_38 rfl (by decide) ?_
  refine ev_istore_n (pc' := 40) (ls' := [_, _]) dX3_cutWord_39 rfl rfl rfl ?_
  cases hf : x_find s (x_skip x_letter t (n - s) s) t 14 0 with
  | some k => rw [hf] at hq; exact hq
  | none => rw [hf] at hq; exact hq
/-- digits: where they end, and their number -/
def x_int (t : Nat → Int32) : Nat → Nat → Int32 → Nat × Int32
  | 0, i, v => (i, v)
  | c + 1, i, v => if x_digit (t i) = true then x_int t c (i + 1) (v * 10 + t i - 48) else (i, v)
theorem x_int_skip (t : Nat → Int32) : ∀ c i v, (x_int t c i v).1 = x_skip x_digit t c i := by
  intro c
  induction c with
  | zero => intro i v; rfl
  | succ c ih =>
    intro i v
    rw [x_int, x_skip]
    split
    · exact ih _ _
    · rfl
theorem k_digits {d : Nat} {Q : Option Value → MW → Prop} {sa kd : Int32} {t : Nat → Int32} {n : Nat} (hn : n ≤ 2000) : ∀ (c i : Nat) (va : Int32), i + c = n → Ev (d + 2) M3_cutInt Q 61 [some (.ref 0)] [] (WX sa kd (x_int t c i va).2 (nI n) (nI (x_int t c i va).1) t) → Ev (d + 2) M3_cutInt Q 0 [some (.ref 0)] [] (WX sa kd va (nI n) (nI i) t) := by
  intro c
  induction c with
  | zero =>
    intro i va hi kk
    have hi : i = n := by omega
    subst hi
    refine ev_aload_n (pc' := 1) dX3_cutInt_0 rfl rfl ?_
    refine ev_getf (pc' := 4) fl_3_28 dX3_cutInt_1 rfl rfl rfl ?_
    refine ev_aload_n (pc' := 5) dX3_cutInt_4 rfl rfl ?_
    refine ev_getf (pc' := 8) fl_3_25 dX3_cutInt_5 rfl rfl rfl ?_
    refine ev_icmp_ge (tgt := 61) (pc' := 11) dX3_cutInt_8 (by decide) rfl (fun h_8 => ?_) (fun h_8 => ?_)
    · exact kk --
    · exact absurd (nI_le (Nat.le_refl _) (by omega)) h_8 --
  | succ c ih =>
    intro i va hi kk
    rw [x_int] at kk
    have hb : x_byte n t i = t i := if_pos (by omega)
    refine ev_aload_n (pc' := 1) dX3_cutInt_0 rfl rfl ?_
    refine ev_getf (pc' := 4) fl_3_28 dX3_cutInt_1 rfl rfl rfl ?_
    refine ev_aload_n (pc' := 5) dX3_cutInt_4 rfl rfl ?_
    refine ev_getf (pc' := 8) fl_3_25 dX3_cutInt_5 rfl rfl rfl ?_
    refine ev_icmp_ge (tgt := 61) (pc' := 11) dX3_cutInt_8 (by decide) rfl (fun h_8 => ?_) (fun h_8 => ?_)
    · exact absurd h_8 (nI_ge (by omega) (by omega)) --
    · refine ev_aload_n (pc' := 12) dX3_cutInt_11 rfl rfl ?_
      refine ev_aload_n (pc' := 13) dX3_cutInt_12 rfl rfl ?_
      refine ev_getf (pc' := 16) fl_3_28 dX3_cutInt_13 rfl rfl rfl ?_
      refine ev_cVi1 (pc' := 19) cl_3_37 (k_byteAt hn i (by omega)) dX3_cutInt_16 rfl rfl rfl rfl ?_
      rw [hb]
      refine ev_cSi1 (pc' := 22) cl_3_52 (k_isDigit _ _) dX3_cutInt_19 rfl rfl ?_
      refine ev_if_eq (tgt := 61) (pc' := 25) dX3_cutInt_22 (by decide) rfl (fun h_22 => ?_) (fun h_22 => ?_)
      · rw [bI_0] at h_22
        rw [if_neg (by rw [h_22]; decide)] at kk
        exact kk --
      · rw [bI_0, Bool.not_eq_false] at h_22
        rw [if_pos h_22] at kk
        refine ev_aload_n (pc' := 26) dX3_cutInt_25 rfl rfl ?_
        refine ev_aload_n (pc' := 27) dX3_cutInt_26 rfl rfl ?_
        refine ev_getf (pc' := 30) fl_3_18 dX3_cutInt_27 rfl rfl rfl ?_
        refine ev_bipush (pc' := 32) (v := 10) dX3_cutInt_30 rfl (by decide) ?_
        refine ev_imul (pc' := 33) dX3_cutInt_32 rfl ?_
        refine ev_aload_n (pc' := 34) dX3_cutInt_33 rfl rfl ?_
        refine ev_aload_n (pc' := 35) dX3_cutInt_34 rfl rfl ?_
        refine ev_getf (pc' := 38) fl_3_28 dX3_cutInt_35 rfl rfl rfl ?_
        refine ev_cVi1 (pc' := 41) cl_3_37 (k_byteAt hn i (by omega)) dX3_cutInt_38 rfl rfl rfl rfl ?_
        rw [hb]
        refine ev_iadd (pc' := 42) dX3_cutInt_41 rfl ?_
        refine ev_bipush (pc' := 44) (v := 48) dX3_cutInt_42 rfl (by decide) ?_
        refine ev_isub (pc' := 45) dX3_cutInt_44 rfl ?_
        refine ev_putf (pc' := 48) fs_3_18 dX3_cutInt_45 rfl rfl (Nat.le_of_ble_eq_true rfl) (fun _ => rfl) (fun _ => rfl) (WX_p3_2 _ _ _ _ _ _ _) ?_
        refine ev_aload_n (pc' := 49) dX3_cutInt_48 rfl rfl ?_
        refine ev_dup (pc' := 50) dX3_cutInt_49 rfl rfl ?_
        refine ev_getf (pc' := 53) fl_3_28 dX3_cutInt_50 rfl rfl rfl ?_
        refine ev_iconst (pc' := 54) (v := 1) dX3_cutInt_53 rfl (by decide) ?_
        refine ev_iadd (pc' := 55) dX3_cutInt_54 rfl ?_
        refine ev_putf (pc' := 58) fs_3_28 dX3_cutInt_55 rfl rfl (Nat.le_of_ble_eq_true rfl) (fun _ => rfl) (fun _ => rfl) (WX_p3_5 _ _ _ _ _ _ _) ?_
        refine ev_goto (tgt := 0) dX3_cutInt_58 (by decide) ?_
        rw [nI_1]
        exact ih (i + 1) _ (by omega) kk
theorem k_cutInt {d : Nat} {kd va : Int32} {t : Nat → Int32} {n s : Nat} (hn : n ≤ 2000) (hs : s ≤ n) : Ok (d + 2) M3_cutInt [.ref 0] (WX (nI s) kd va (nI n) (nI s) t) (rt (some (.int (if 4 < x_skip x_digit t (n - s) s - s then 18 else 6))) (WX (nI s) kd (x_int t (n - s) s va).2 (nI n) (nI (x_skip x_digit t (n - s) s)) t)) := by
  have hx := x_skip_le x_digit t (n - s) s
  refine Ok.of (ls := [some _]) (by decide +kernel) (Nat.le_of_ble_eq_true rfl) rfl ?_
  refine k_digits hn (n - s) s va (by omega) ?_
  rw [x_int_skip]
  have e1 : nI (x_skip x_digit t (n - s) s) - nI s = nI (x_skip x_digit t (n - s) s - s) := nI_sub hx.1
  refine ev_aload_n (pc' := 62) dX3_cutInt_61 rfl rfl ?_
  refine ev_getf (pc' := 65) fl_3_28 dX3_cutInt_62 rfl rfl rfl ?_
  refine ev_aload_n (pc' := 66) dX3_cutInt_65 rfl rfl ?_
  refine ev_getf (pc' := 69) fl_3_9 dX3_cutInt_66 rfl rfl rfl ?_
  refine ev_isub (pc' := 70) dX3_cutInt_69 rfl ?_
  rw [e1]
  refine ev_iconst (pc' := 71) (v := 4) dX3_cutInt_70 rfl (by decide) ?_
  refine ev_icmp_le (tgt := 79) (pc' := 74) dX3_cutInt_71 (by decide) rfl (fun h_71 => ?_) (fun h_71 => ?_)
  · have h5 := (nI_leI (a := x_skip x_digit t (n - s) s - s) (b := 4) (by omega) (by omega)).mp h_71
    rw [if_neg (by omega)]
    refine ev_bipush (pc' := 81) (v := 6) dX3_cutInt_79 rfl (by decide) ?_
    refine ev_ireturn rfl dX3_cutInt_81 ?_
    exact ⟨rfl, rfl⟩
  · have h5 := Nat.lt_of_not_le (fun z => h_71 ((nI_leI (a := x_skip x_digit t (n - s) s - s) (b := 4) (by omega) (by omega)).mpr z))
    rw [if_pos h5]
    refine ev_bipush (pc' := 76) (v := 18) dX3_cutInt_74 rfl (by decide) ?_
    refine ev_goto (tgt := 81) dX3_cutInt_76 (by decide) ?_
    refine ev_ireturn rfl dX3_cutInt_81 ?_
    exact ⟨rfl, rfl⟩
def x_eq (n : Nat) (t : Nat → Int32) (i : Nat) : Bool := decide (x_byte n t i = 61)
theorem k_cutEqualSign {d : Nat} {sa kd va a b : Int32} {t : Nat → Int32} {n : Nat} (hn : n ≤ 2000) (i : Nat) (hi : i ≤ n) : Ok (d + 2) M3_cutEqualSign [.ref 0, .int a, .int b] (WX sa kd va (nI n) (nI i) t) (rt (some (.int (if x_eq n t i = true then a else b))) (WX sa kd va (nI n) (nI (if x_eq n t i = true then i + 1 else i)) t)) := by
  refine Ok.of (ls := [some _, some _, some _]) (by decide +kernel) (Nat.le_of_ble_eq_true rfl) rfl ?_
  refine ev_aload_n (pc' := 1) dX3_cutEqualSign_0 rfl rfl ?_
  refine ev_aload_n (pc' := 2) dX3_cutEqualSign_1 rfl rfl ?_
  refine ev_getf (pc' := 5) fl_3_28 dX3_cutEqualSign_2 rfl rfl rfl ?_
  refine ev_cVi1 (pc' := 8) cl_3_37 (k_byteAt hn i (by omega)) dX3_cutEqualSign_5 rfl rfl rfl rfl ?_
  refine ev_bipush (pc' := 10) (v := 61) dX3_cutEqualSign_8 rfl (by decide) ?_
  refine ev_icmp_eq (tgt := 15) (pc' := 13) dX3_cutEqualSign_10 (by decide) rfl (fun h_10 => ?_) (fun h_10 => ?_)
  · have hx : x_eq n t i = true := decide_eq_true h_10
    rw [if_pos hx, if_pos hx]
    refine ev_aload_n (pc' := 16) dX3_cutEqualSign_15 rfl rfl ?_
    refine ev_dup (pc' := 17) dX3_cutEqualSign_16 rfl rfl ?_
    refine ev_getf (pc' := 20) fl_3_28 dX3_cutEqualSign_17 rfl rfl rfl ?_
    refine ev_iconst (pc' := 21) (v := 1) dX3_cutEqualSign_20 rfl (by decide) ?_
    refine ev_iadd (pc' := 22) dX3_cutEqualSign_21 rfl ?_
    refine ev_putf (pc' := 25) fs_3_28 dX3_cutEqualSign_22 rfl rfl (Nat.le_of_ble_eq_true rfl) (fun _ => rfl) (fun _ => rfl) (WX_p3_5 _ _ _ _ _ _ _) ?_
    refine ev_iload_n (pc' := 26) dX3_cutEqualSign_25 rfl rfl ?_
    refine ev_ireturn rfl dX3_cutEqualSign_26 ?_
    first | exact ⟨rfl, rfl⟩ | (rw [nI_1]; exact ⟨rfl, rfl⟩)
  · have hx : ¬ x_eq n t i = true := fun z => h_10 (of_decide_eq_true z)
    rw [if_neg hx, if_neg hx]
    refine ev_iload_n (pc' := 14) dX3_cutEqualSign_13 rfl rfl ?_
    refine ev_ireturn rfl dX3_cutEqualSign_14 ?_
    first | exact ⟨rfl, rfl⟩ | (rw [nI_1]; exact ⟨rfl, rfl⟩)
/-- a sign's kind, and how many bytes it has -/
def x_sign (n : Nat) (t : Nat → Int32) (i : Nat) (c : Int32) : Int32 × Nat :=
  if c = 59 then (7, 1) else if c = 43 then (8, 1) else if c = 45 then (9, 1) else if c = 42 then (10, 1) else if c = 40 then (15, 1) else if c = 41 then (16, 1)
  else if c = 61 then (if x_eq n t (i + 1) = true then 11 else 18, if x_eq n t (i + 1) = true then 2 else 1)
  else if c = 33 then (if x_eq n t (i + 1) = true then 12 else 18, if x_eq n t (i + 1) = true then 2 else 1)
  else if c = 60 then (if x_eq n t (i + 1) = true then 14 else 13, if x_eq n t (i + 1) = true then 2 else 1)
  else (18, 1)
theorem x_two (i : Nat) (b : Bool) : i + (if b = true then 2 else 1) = if b = true then i + 1 + 1 else i + 1 := by cases b <;> rfl
theorem k_cutSign {d : Nat} {sa kd va : Int32} {t : Nat → Int32} {n : Nat} (hn : n ≤ 2000) (i : Nat) (hi : i < n) (c : Int32) : Ok (d + 3) M3_cutSign [.ref 0, .int c] (WX sa kd va (nI n) (nI i) t) (rt (some (.int (x_sign n t i c).1)) (WX sa kd va (nI n) (nI (i + (x_sign n t i c).2)) t)) := by
  refine Ok.of (ls := [some _, some _]) (by decide +kernel) (Nat.le_of_ble_eq_true rfl) rfl ?_
  refine ev_aload_n (pc' := 1) dX3_cutSign_0 rfl rfl ?_
  refine ev_dup (pc' := 2) dX3_cutSign_1 rfl rfl ?_
  refine ev_getf (pc' := 5) fl_3_28 dX3_cutSign_2 rfl rfl rfl ?_
  refine ev_iconst (pc' := 6) (v := 1) dX3_cutSign_5 rfl (by decide) ?_
  refine ev_iadd (pc' := 7) dX3_cutSign_6 rfl ?_
  refine ev_putf (pc' := 10) fs_3_28 dX3_cutSign_7 rfl rfl (Nat.le_of_ble_eq_true rfl) (fun _ => rfl) (fun _ => rfl) (WX_p3_5 _ _ _ _ _ _ _) ?_
  rw [nI_1]
  refine ev_iload_n (pc' := 11) dX3_cutSign_10 rfl rfl ?_
  refine ev_case (c := 33) (fun h_11_33 => ?_) (fun h_11_33 => ?_)
  · refine ev_tableIn (off := 156) (tgt := 167) dX3_cutSign_11 (by decide) (by decide) (by decide) (by decide) ?_
    refine ev_aload_n (pc' := 168) dX3_cutSign_167 rfl rfl ?_
    refine ev_bipush (pc' := 170) (v := 12) dX3_cutSign_168 rfl (by decide) ?_
    refine ev_bipush (pc' := 172) (v := 18) dX3_cutSign_170 rfl (by decide) ?_
    refine ev_cVi2 (pc' := 175) cl_3_81 (k_cutEqualSign hn (i + 1) (by omega)) dX3_cutSign_172 rfl rfl rfl rfl ?_
    refine ev_ireturn rfl dX3_cutSign_175 ?_
    unfold x_sign
    simp_all
    first | (rw [x_two]; exact ⟨rfl, rfl⟩) | exact ⟨rfl, rfl⟩
  refine ev_case (c := 34) (fun h_11_34 => ?_) (fun h_11_34 => ?_)
  · refine ev_tableIn (off := 174) (tgt := 185) dX3_cutSign_11 (by decide) (by decide) (by decide) (by decide) ?_
    refine ev_bipush (pc' := 187) (v := 18) dX3_cutSign_185 rfl (by decide) ?_
    refine ev_ireturn rfl dX3_cutSign_187 ?_
    unfold x_sign
    simp_all
    first | (rw [x_two]; exact ⟨rfl, rfl⟩) | exact ⟨rfl, rfl⟩
  refine ev_case (c := 35) (fun h_11_35 => ?_) (fun h_11_35 => ?_)
  · refine ev_tableIn (off := 174) (tgt := 185) dX3_cutSign_11 (by decide) (by decide) (by decide) (by decide) ?_
    refine ev_bipush (pc' := 187) (v := 18) dX3_cutSign_185 rfl (by decide) ?_
    refine ev_ireturn rfl dX3_cutSign_187 ?_
    unfold x_sign
    simp_all
    first | (rw [x_two]; exact ⟨rfl, rfl⟩) | exact ⟨rfl, rfl⟩
  refine ev_case (c := 36) (fun h_11_36 => ?_) (fun h_11_36 => ?_)
  · refine ev_tableIn (off := 174) (tgt := 185) dX3_cutSign_11 (by decide) (by decide) (by decide) (by decide) ?_
    refine ev_bipush (pc' := 187) (v := 18) dX3_cutSign_185 rfl (by decide) ?_
    refine ev_ireturn rfl dX3_cutSign_187 ?_
    unfold x_sign
    simp_all
    first | (rw [x_two]; exact ⟨rfl, rfl⟩) | exact ⟨rfl, rfl⟩
  refine ev_case (c := 37) (fun h_11_37 => ?_) (fun h_11_37 => ?_)
  · refine ev_tableIn (off := 174) (tgt := 185) dX3_cutSign_11 (by decide) (by decide) (by decide) (by decide) ?_
    refine ev_bipush (pc' := 187) (v := 18) dX3_cutSign_185 rfl (by decide) ?_
    refine ev_ireturn rfl dX3_cutSign_187 ?_
    unfold x_sign
    simp_all
    first | (rw [x_two]; exact ⟨rfl, rfl⟩) | exact ⟨rfl, rfl⟩
  refine ev_case (c := 38) (fun h_11_38 => ?_) (fun h_11_38 => ?_)
  · refine ev_tableIn (off := 174) (tgt := 185) dX3_cutSign_11 (by decide) (by decide) (by decide) (by decide) ?_
    refine ev_bipush (pc' := 187) (v := 18) dX3_cutSign_185 rfl (by decide) ?_
    refine ev_ireturn rfl dX3_cutSign_187 ?_
    unfold x_sign
    simp_all
    first | (rw [x_two]; exact ⟨rfl, rfl⟩) | exact ⟨rfl, rfl⟩
  refine ev_case (c := 39) (fun h_11_39 => ?_) (fun h_11_39 => ?_)
  · refine ev_tableIn (off := 174) (tgt := 185) dX3_cutSign_11 (by decide) (by decide) (by decide) (by decide) ?_
    refine ev_bipush (pc' := 187) (v := 18) dX3_cutSign_185 rfl (by decide) ?_
    refine ev_ireturn rfl dX3_cutSign_187 ?_
    unfold x_sign
    simp_all
    first | (rw [x_two]; exact ⟨rfl, rfl⟩) | exact ⟨rfl, rfl⟩
  refine ev_case (c := 40) (fun h_11_40 => ?_) (fun h_11_40 => ?_)
  · refine ev_tableIn (off := 141) (tgt := 152) dX3_cutSign_11 (by decide) (by decide) (by decide) (by decide) ?_
    refine ev_bipush (pc' := 154) (v := 15) dX3_cutSign_152 rfl (by decide) ?_
    refine ev_ireturn rfl dX3_cutSign_154 ?_
    unfold x_sign
    simp_all
    first | (rw [x_two]; exact ⟨rfl, rfl⟩) | exact ⟨rfl, rfl⟩
  refine ev_case (c := 41) (fun h_11_41 => ?_) (fun h_11_41 => ?_)
  · refine ev_tableIn (off := 144) (tgt := 155) dX3_cutSign_11 (by decide) (by decide) (by decide) (by decide) ?_
    refine ev_bipush (pc' := 157) (v := 16) dX3_cutSign_155 rfl (by decide) ?_
    refine ev_ireturn rfl dX3_cutSign_157 ?_
    unfold x_sign
    simp_all
    first | (rw [x_two]; exact ⟨rfl, rfl⟩) | exact ⟨rfl, rfl⟩
  refine ev_case (c := 42) (fun h_11_42 => ?_) (fun h_11_42 => ?_)
  · refine ev_tableIn (off := 138) (tgt := 149) dX3_cutSign_11 (by decide) (by decide) (by decide) (by decide) ?_
    refine ev_bipush (pc' := 151) (v := 10) dX3_cutSign_149 rfl (by decide) ?_
    refine ev_ireturn rfl dX3_cutSign_151 ?_
    unfold x_sign
    simp_all
    first | (rw [x_two]; exact ⟨rfl, rfl⟩) | exact ⟨rfl, rfl⟩
  refine ev_case (c := 43) (fun h_11_43 => ?_) (fun h_11_43 => ?_)
  · refine ev_tableIn (off := 132) (tgt := 143) dX3_cutSign_11 (by decide) (by decide) (by decide) (by decide) ?_
    refine ev_bipush (pc' := 145) (v := 8) dX3_cutSign_143 rfl (by decide) ?_
    refine ev_ireturn rfl dX3_cutSign_145 ?_
    unfold x_sign
    simp_all
    first | (rw [x_two]; exact ⟨rfl, rfl⟩) | exact ⟨rfl, rfl⟩
  refine ev_case (c := 44) (fun h_11_44 => ?_) (fun h_11_44 => ?_)
  · refine ev_tableIn (off := 174) (tgt := 185) dX3_cutSign_11 (by decide) (by decide) (by decide) (by decide) ?_
    refine ev_bipush (pc' := 187) (v := 18) dX3_cutSign_185 rfl (by decide) ?_
    refine ev_ireturn rfl dX3_cutSign_187 ?_
    unfold x_sign
    simp_all
    first | (rw [x_two]; exact ⟨rfl, rfl⟩) | exact ⟨rfl, rfl⟩
  refine ev_case (c := 45) (fun h_11_45 => ?_) (fun h_11_45 => ?_)
  · refine ev_tableIn (off := 135) (tgt := 146) dX3_cutSign_11 (by decide) (by decide) (by decide) (by decide) ?_
    refine ev_bipush (pc' := 148) (v := 9) dX3_cutSign_146 rfl (by decide) ?_
    refine ev_ireturn rfl dX3_cutSign_148 ?_
    unfold x_sign
    simp_all
    first | (rw [x_two]; exact ⟨rfl, rfl⟩) | exact ⟨rfl, rfl⟩
  refine ev_case (c := 46) (fun h_11_46 => ?_) (fun h_11_46 => ?_)
  · refine ev_tableIn (off := 174) (tgt := 185) dX3_cutSign_11 (by decide) (by decide) (by decide) (by decide) ?_
    refine ev_bipush (pc' := 187) (v := 18) dX3_cutSign_185 rfl (by decide) ?_
    refine ev_ireturn rfl dX3_cutSign_187 ?_
    unfold x_sign
    simp_all
    first | (rw [x_two]; exact ⟨rfl, rfl⟩) | exact ⟨rfl, rfl⟩
  refine ev_case (c := 47) (fun h_11_47 => ?_) (fun h_11_47 => ?_)
  · refine ev_tableIn (off := 174) (tgt := 185) dX3_cutSign_11 (by decide) (by decide) (by decide) (by decide) ?_
    refine ev_bipush (pc' := 187) (v := 18) dX3_cutSign_185 rfl (by decide) ?_
    refine ev_ireturn rfl dX3_cutSign_187 ?_
    unfold x_sign
    simp_all
    first | (rw [x_two]; exact ⟨rfl, rfl⟩) | exact ⟨rfl, rfl⟩
  refine ev_case (c := 48) (fun h_11_48 => ?_) (fun h_11_48 => ?_)
  · refine ev_tableIn (off := 174) (tgt := 185) dX3_cutSign_11 (by decide) (by decide) (by decide) (by decide) ?_
    refine ev_bipush (pc' := 187) (v := 18) dX3_cutSign_185 rfl (by decide) ?_
    refine ev_ireturn rfl dX3_cutSign_187 ?_
    unfold x_sign
    simp_all
    first | (rw [x_two]; exact ⟨rfl, rfl⟩) | exact ⟨rfl, rfl⟩
  refine ev_case (c := 49) (fun h_11_49 => ?_) (fun h_11_49 => ?_)
  · refine ev_tableIn (off := 174) (tgt := 185) dX3_cutSign_11 (by decide) (by decide) (by decide) (by decide) ?_
    refine ev_bipush (pc' := 187) (v := 18) dX3_cutSign_185 rfl (by decide) ?_
    refine ev_ireturn rfl dX3_cutSign_187 ?_
    unfold x_sign
    simp_all
    first | (rw [x_two]; exact ⟨rfl, rfl⟩) | exact ⟨rfl, rfl⟩
  refine ev_case (c := 50) (fun h_11_50 => ?_) (fun h_11_50 => ?_)
  · refine ev_tableIn (off := 174) (tgt := 185) dX3_cutSign_11 (by decide) (by decide) (by decide) (by decide) ?_
    refine ev_bipush (pc' := 187) (v := 18) dX3_cutSign_185 rfl (by decide) ?_
    refine ev_ireturn rfl dX3_cutSign_187 ?_
    unfold x_sign
    simp_all
    first | (rw [x_two]; exact ⟨rfl, rfl⟩) | exact ⟨rfl, rfl⟩
  refine ev_case (c := 51) (fun h_11_51 => ?_) (fun h_11_51 => ?_)
  · refine ev_tableIn (off := 174) (tgt := 185) dX3_cutSign_11 (by decide) (by decide) (by decide) (by decide) ?_
    refine ev_bipush (pc' := 187) (v := 18) dX3_cutSign_185 rfl (by decide) ?_
    refine ev_ireturn rfl dX3_cutSign_187 ?_
    unfold x_sign
    simp_all
    first | (rw [x_two]; exact ⟨rfl, rfl⟩) | exact ⟨rfl, rfl⟩
  refine ev_case (c := 52) (fun h_11_52 => ?_) (fun h_11_52 => ?_)
  · refine ev_tableIn (off := 174) (tgt := 185) dX3_cutSign_11 (by decide) (by decide) (by decide) (by decide) ?_
    refine ev_bipush (pc' := 187) (v := 18) dX3_cutSign_185 rfl (by decide) ?_
    refine ev_ireturn rfl dX3_cutSign_187 ?_
    unfold x_sign
    simp_all
    first | (rw [x_two]; exact ⟨rfl, rfl⟩) | exact ⟨rfl, rfl⟩
  refine ev_case (c := 53) (fun h_11_53 => ?_) (fun h_11_53 => ?_)
  · refine ev_tableIn (off := 174) (tgt := 185) dX3_cutSign_11 (by decide) (by decide) (by decide) (by decide) ?_
    refine ev_bipush (pc' := 187) (v := 18) dX3_cutSign_185 rfl (by decide) ?_
    refine ev_ireturn rfl dX3_cutSign_187 ?_
    unfold x_sign
    simp_all
    first | (rw [x_two]; exact ⟨rfl, rfl⟩) | exact ⟨rfl, rfl⟩
  refine ev_case (c := 54) (fun h_11_54 => ?_) (fun h_11_54 => ?_)
  · refine ev_tableIn (off := 174) (tgt := 185) dX3_cutSign_11 (by decide) (by decide) (by decide) (by decide) ?_
    refine ev_bipush (pc' := 187) (v := 18) dX3_cutSign_185 rfl (by decide) ?_
    refine ev_ireturn rfl dX3_cutSign_187 ?_
    unfold x_sign
    simp_all
    first | (rw [x_two]; exact ⟨rfl, rfl⟩) | exact ⟨rfl, rfl⟩
  refine ev_case (c := 55) (fun h_11_55 => ?_) (fun h_11_55 => ?_)
  · refine ev_tableIn (off := 174) (tgt := 185) dX3_cutSign_11 (by decide) (by decide) (by decide) (by decide) ?_
    refine ev_bipush (pc' := 187) (v := 18) dX3_cutSign_185 rfl (by decide) ?_
    refine ev_ireturn rfl dX3_cutSign_187 ?_
    unfold x_sign
    simp_all
    first | (rw [x_two]; exact ⟨rfl, rfl⟩) | exact ⟨rfl, rfl⟩
  refine ev_case (c := 56) (fun h_11_56 => ?_) (fun h_11_56 => ?_)
  · refine ev_tableIn (off := 174) (tgt := 185) dX3_cutSign_11 (by decide) (by decide) (by decide) (by decide) ?_
    refine ev_bipush (pc' := 187) (v := 18) dX3_cutSign_185 rfl (by decide) ?_
    refine ev_ireturn rfl dX3_cutSign_187 ?_
    unfold x_sign
    simp_all
    first | (rw [x_two]; exact ⟨rfl, rfl⟩) | exact ⟨rfl, rfl⟩
  refine ev_case (c := 57) (fun h_11_57 => ?_) (fun h_11_57 => ?_)
  · refine ev_tableIn (off := 174) (tgt := 185) dX3_cutSign_11 (by decide) (by decide) (by decide) (by decide) ?_
    refine ev_bipush (pc' := 187) (v := 18) dX3_cutSign_185 rfl (by decide) ?_
    refine ev_ireturn rfl dX3_cutSign_187 ?_
    unfold x_sign
    simp_all
    first | (rw [x_two]; exact ⟨rfl, rfl⟩) | exact ⟨rfl, rfl⟩
  refine ev_case (c := 58) (fun h_11_58 => ?_) (fun h_11_58 => ?_)
  · refine ev_tableIn (off := 174) (tgt := 185) dX3_cutSign_11 (by decide) (by decide) (by decide) (by decide) ?_
    refine ev_bipush (pc' := 187) (v := 18) dX3_cutSign_185 rfl (by decide) ?_
    refine ev_ireturn rfl dX3_cutSign_187 ?_
    unfold x_sign
    simp_all
    first | (rw [x_two]; exact ⟨rfl, rfl⟩) | exact ⟨rfl, rfl⟩
  refine ev_case (c := 59) (fun h_11_59 => ?_) (fun h_11_59 => ?_)
  · refine ev_tableIn (off := 129) (tgt := 140) dX3_cutSign_11 (by decide) (by decide) (by decide) (by decide) ?_
    refine ev_bipush (pc' := 142) (v := 7) dX3_cutSign_140 rfl (by decide) ?_
    refine ev_ireturn rfl dX3_cutSign_142 ?_
    unfold x_sign
    simp_all
    first | (rw [x_two]; exact ⟨rfl, rfl⟩) | exact ⟨rfl, rfl⟩
  refine ev_case (c := 60) (fun h_11_60 => ?_) (fun h_11_60 => ?_)
  · refine ev_tableIn (off := 165) (tgt := 176) dX3_cutSign_11 (by decide) (by decide) (by decide) (by decide) ?_
    refine ev_aload_n (pc' := 177) dX3_cutSign_176 rfl rfl ?_
    refine ev_bipush (pc' := 179) (v := 14) dX3_cutSign_177 rfl (by decide) ?_
    refine ev_bipush (pc' := 181) (v := 13) dX3_cutSign_179 rfl (by decide) ?_
    refine ev_cVi2 (pc' := 184) cl_3_81 (k_cutEqualSign hn (i + 1) (by omega)) dX3_cutSign_181 rfl rfl rfl rfl ?_
    refine ev_ireturn rfl dX3_cutSign_184 ?_
    unfold x_sign
    simp_all
    first | (rw [x_two]; exact ⟨rfl, rfl⟩) | exact ⟨rfl, rfl⟩
  refine ev_case (c := 61) (fun h_11_61 => ?_) (fun h_11_61 => ?_)
  · refine ev_tableIn (off := 147) (tgt := 158) dX3_cutSign_11 (by decide) (by decide) (by decide) (by decide) ?_
    refine ev_aload_n (pc' := 159) dX3_cutSign_158 rfl rfl ?_
    refine ev_bipush (pc' := 161) (v := 11) dX3_cutSign_159 rfl (by decide) ?_
    refine ev_bipush (pc' := 163) (v := 18) dX3_cutSign_161 rfl (by decide) ?_
    refine ev_cVi2 (pc' := 166) cl_3_81 (k_cutEqualSign hn (i + 1) (by omega)) dX3_cutSign_163 rfl rfl rfl rfl ?_
    refine ev_ireturn rfl dX3_cutSign_166 ?_
    unfold x_sign
    simp_all
    first | (rw [x_two]; exact ⟨rfl, rfl⟩) | exact ⟨rfl, rfl⟩
  refine ev_tableOut (tgt := 185) dX3_cutSign_11 (by simp only [fa_eq, Int32.reduceToInt] at h_11_33 h_11_34 h_11_35 h_11_36 h_11_37 h_11_38 h_11_39 h_11_40 h_11_41 h_11_42 h_11_43 h_11_44 h_11_45 h_11_46 h_11_47 h_11_48 h_11_49 h_11_50 h_11_51 h_11_52 h_11_53 h_11_54 h_11_55 h_11_56 h_11_57 h_11_58 h_11_59 h_11_60 h_11_61; omega) (by decide) ?_
  refine ev_bipush (pc' := 187) (v := 18) dX3_cutSign_185 rfl (by decide) ?_
  refine ev_ireturn rfl dX3_cutSign_187 ?_
  unfold x_sign
  simp_all
  first | (rw [x_two]; exact ⟨rfl, rfl⟩) | exact ⟨rfl, rfl⟩
/-- a token from i on: where it begins, its kind, its value, what comes behind it -/
def x_tokAt (n : Nat) (t : Nat → Int32) (s : Nat) : Nat × Int32 × Int32 × Nat :=
  if x_byte n t s = -1 then (s, 17, 0, s)
  else if x_letter (x_byte n t s) = true then (s, x_wk (x_find s (x_skip x_letter t (n - s) s) t 14 0), x_wv 0 (x_find s (x_skip x_letter t (n - s) s) t 14 0), x_skip x_letter t (n - s) s)
  else if x_digit (x_byte n t s) = true then (s, if 4 < x_skip x_digit t (n - s) s - s then 18 else 6, (x_int t (n - s) s 0).2, x_skip x_digit t (n - s) s)
  else (s, (x_sign n t s (x_byte n t s)).1, 0, s + (x_sign n t s (x_byte n t s)).2)
def x_tok (n : Nat) (t : Nat → Int32) (i : Nat) : Nat × Int32 × Int32 × Nat := x_tokAt n t (x_skip x_blank t (n - i) i)
theorem k_cutToken {d : Nat} {sa kd va : Int32} {t : Nat → Int32} {n : Nat} (hn : n ≤ 2000) (ht : ∀ j, j < n → ¬ t j = -1) (i : Nat) (hi : i ≤ n) : Ok (d + 6) M3_cutToken [.ref 0] (WX sa kd va (nI n) (nI i) t) (rt none (WX (nI (x_tok n t i).1) (x_tok n t i).2.1 (x_tok n t i).2.2.1 (nI n) (nI (x_tok n t i).2.2.2) t)) := by
  refine Ok.of (ls := [some _, none]) (by decide +kernel) (Nat.le_of_ble_eq_true rfl) rfl ?_
  refine k_blanks hn (n - i) i (by omega) ?_
  have hx := x_skip_le x_blank t (n - i) i
  unfold x_tok
  generalize hs : x_skip x_blank t (n - i) i = s at hx ⊢
  obtain ⟨T, hq⟩ : ∃ T, T = x_tokAt n t s := ⟨_, rfl⟩
  rw [← hq]
  unfold x_tokAt at hq
  have hsn : s ≤ n := by omega
  have hlt : ¬ x_byte n t s = -1 → s < n := fun z => Nat.lt_of_not_le (fun z2 => z (if_neg (by omega)))
  refine ev_aload_n (pc' := 39) dX3_cutToken_38 rfl rfl ?_
  refine ev_aload_n (pc' := 40) dX3_cutToken_39 rfl rfl ?_
  refine ev_getf (pc' := 43) fl_3_28 dX3_cutToken_40 rfl rfl rfl ?_
  refine ev_putf (pc' := 46) fs_3_9 dX3_cutToken_43 rfl rfl (Nat.le_of_ble_eq_true rfl) (fun _ => rfl) (fun _ => rfl) (WX_p3_0 _ _ _ _ _ _ _) ?_
  refine ev_aload_n (pc' := 47) dX3_cutToken_46 rfl rfl ?_
  refine ev_iconst (pc' := 48) (v := 0) dX3_cutToken_47 rfl (by decide) ?_
  refine ev_putf (pc' := 51) fs_3_18 dX3_cutToken_48 rfl rfl (Nat.le_of_ble_eq_true rfl) (fun _ => rfl) (fun _ => rfl) (WX_p3_2 _ _ _ _ _ _ _) ?_
  refine ev_aload_n (pc' := 52) dX3_cutToken_51 rfl rfl ?_
  refine ev_aload_n (pc' := 53) dX3_cutToken_52 rfl rfl ?_
  refine ev_getf (pc' := 56) fl_3_9 dX3_cutToken_53 rfl rfl rfl ?_
  refine ev_cVi1 (pc' := 59) cl_3_37 (k_byteAt hn s (by omega)) dX3_cutToken_56 rfl rfl rfl rfl ?_
  refine ev_istore_n (pc' := 60) (ls' := [_, _]) dX3_cutToken_59 rfl rfl rfl ?_
  refine ev_iload_n (pc' := 61) dX3_cutToken_60 rfl rfl ?_
  refine ev_iconst (pc' := 62) (v := -1) dX3_cutToken_61 rfl (by decide) ?_
  refine ev_icmp_ne (tgt := 74) (pc' := 65) dX3_cutToken_62 (by decide) rfl (fun h_62 => ?_) (fun h_62 => ?_)
  · rw [if_neg h_62] at hq
    refine ev_iload_n (pc' := 75) dX3_cutToken_74 rfl rfl ?_
    refine ev_cSi1 (pc' := 78) cl_3_45 (k_isLetter _ _) dX3_cutToken_75 rfl rfl ?_
    refine ev_if_eq (tgt := 92) (pc' := 81) dX3_cutToken_78 (by decide) rfl (fun h_78 => ?_) (fun h_78 => ?_)
    · rw [bI_0] at h_78
      rw [if_neg (by rw [h_78]; decide)] at hq
      refine ev_iload_n (pc' := 93) dX3_cutToken_92 rfl rfl ?_
      refine ev_cSi1 (pc' := 96) cl_3_52 (k_isDigit _ _) dX3_cutToken_93 rfl rfl ?_
      refine ev_if_eq (tgt := 110) (pc' := 99) dX3_cutToken_96 (by decide) rfl (fun h_96 => ?_) (fun h_96 => ?_)
      · rw [bI_0] at h_96
        rw [if_neg (by rw [h_96]; decide)] at hq
        refine ev_aload_n (pc' := 111) dX3_cutToken_110 rfl rfl ?_
        refine ev_aload_n (pc' := 112) dX3_cutToken_111 rfl rfl ?_
        refine ev_iload_n (pc' := 113) dX3_cutToken_112 rfl rfl ?_
        refine ev_cVi1 (pc' := 116) cl_3_58 (k_cutSign hn s (hlt h_62) _) dX3_cutToken_113 rfl rfl rfl rfl ?_
        refine ev_putf (pc' := 119) fs_3_15 dX3_cutToken_116 rfl rfl (Nat.le_of_ble_eq_true rfl) (fun _ => rfl) (fun _ => rfl) (WX_p3_1 _ _ _ _ _ _ _) ?_
        refine ev_return rfl dX3_cutToken_119 ?_
        rw [hq]
        exact ⟨rfl, rfl⟩
      · rw [bI_0, Bool.not_eq_false] at h_96
        rw [if_pos h_96] at hq
        refine ev_aload_n (pc' := 100) dX3_cutToken_99 rfl rfl ?_
        refine ev_aload_n (pc' := 101) dX3_cutToken_100 rfl rfl ?_
        refine ev_cVi0 (pc' := 104) cl_3_55 (k_cutInt hn hsn) dX3_cutToken_101 rfl rfl rfl rfl ?_
        refine ev_putf (pc' := 107) fs_3_15 dX3_cutToken_104 rfl rfl (Nat.le_of_ble_eq_true rfl) (fun _ => rfl) (fun _ => rfl) (WX_p3_1 _ _ _ _ _ _ _) ?_
        refine ev_goto (tgt := 119) dX3_cutToken_107 (by decide) ?_
        refine ev_return rfl dX3_cutToken_119 ?_
        rw [hq]
        exact ⟨rfl, rfl⟩
    · rw [bI_0, Bool.not_eq_false] at h_78
      rw [if_pos h_78] at hq
      refine ev_aload_n (pc' := 82) dX3_cutToken_81 rfl rfl ?_
      refine ev_aload_n (pc' := 83) dX3_cutToken_82 rfl rfl ?_
      refine ev_cVi0 (pc' := 86) cl_3_48 (k_cutWord hn hsn) dX3_cutToken_83 rfl rfl rfl rfl ?_
      refine ev_putf (pc' := 89) fs_3_15 dX3_cutToken_86 rfl rfl (Nat.le_of_ble_eq_true rfl) (fun _ => rfl) (fun _ => rfl) (WX_p3_1 _ _ _ _ _ _ _) ?_
      refine ev_goto (tgt := 119) dX3_cutToken_89 (by decide) ?_
      refine ev_return rfl dX3_cutToken_119 ?_
      rw [hq]
      exact ⟨rfl, rfl⟩
  · rw [if_pos h_62] at hq
    refine ev_aload_n (pc' := 66) dX3_cutToken_65 rfl rfl ?_
    refine ev_bipush (pc' := 68) (v := 17) dX3_cutToken_66 rfl (by decide) ?_
    refine ev_putf (pc' := 71) fs_3_15 dX3_cutToken_68 rfl rfl (Nat.le_of_ble_eq_true rfl) (fun _ => rfl) (fun _ => rfl) (WX_p3_1 _ _ _ _ _ _ _) ?_
    refine ev_goto (tgt := 119) dX3_cutToken_71 (by decide) ?_
    refine ev_return rfl dX3_cutToken_119 ?_
    rw [hq]
    exact ⟨rfl, rfl⟩
theorem x_sign_pos (n : Nat) (t : Nat → Int32) (i : Nat) (c : Int32) (hi : i < n) : i < i + (x_sign n t i c).2 ∧ i + (x_sign n t i c).2 ≤ n := by
  have h2 : ∀ b : Bool, b = x_eq n t (i + 1) → i < i + (if b = true then 2 else 1) ∧ i + (if b = true then 2 else 1) ≤ n := by
    intro b hb
    cases b with
    | false => exact ⟨by simp, by simp; omega⟩
    | true =>
      have : ¬ n ≤ i + 1 := fun z => by
        have h3 : x_byte n t (i + 1) = 61 := of_decide_eq_true hb.symm
        rw [x_byte, if_neg (by omega)] at h3
        exact absurd h3 (by decide)
      exact ⟨by simp, by simp; omega⟩
  have h1 : i < i + 1 ∧ i + 1 ≤ n := by omega
  unfold x_sign
  iterate 6 (split; · exact h1)
  iterate 3 (split; · exact h2 _ rfl)
  exact h1
/-- a token that isn't the text's end has a byte at least -/
theorem x_tok_le (n : Nat) (t : Nat → Int32) (i : Nat) (hi : i ≤ n) : i ≤ (x_tok n t i).1 ∧ (x_tok n t i).1 ≤ (x_tok n t i).2.2.2 ∧ (x_tok n t i).2.2.2 ≤ n := by
  have hx := x_skip_le x_blank t (n - i) i
  unfold x_tok
  generalize hs : x_skip x_blank t (n - i) i = s at hx ⊢
  unfold x_tokAt
  split
  · exact ⟨hx.1, Nat.le_refl _, by show s ≤ n; omega⟩
  · rename_i h1
    have hsn : s < n := Nat.lt_of_not_le (fun z => h1 (if_neg (by omega)))
    split
    · have := x_skip_le x_letter t (n - s) s
      exact ⟨hx.1, this.1, by show x_skip x_letter t (n - s) s ≤ n; omega⟩
    · split
      · have := x_skip_le x_digit t (n - s) s
        exact ⟨hx.1, this.1, by show x_skip x_digit t (n - s) s ≤ n; omega⟩
      · have := x_sign_pos n t s (x_byte n t s) hsn
        exact ⟨hx.1, Nat.le_of_lt this.1, this.2⟩
