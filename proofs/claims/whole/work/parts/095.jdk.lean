abbrev MJ_length : MI := (yJ0_length_8abf5, cJ0_length_8abf5, 1, some .int)
theorem mlJ_length : ML MJ_length 0 := ⟨gt2 93 (by decide +kernel) rfl, gt1 10 (by decide +kernel) rfl, ⟨by decide +kernel, by decide +kernel⟩, by decide +kernel, by decide⟩
abbrev MJ_charAt : MI := (yJ0_charAt_5068e, cJ0_charAt_5068e, 2, some .char)
theorem mlJ_charAt : ML MJ_charAt 1 := ⟨gt2 103 (by decide +kernel) rfl, gt1 10 (by decide +kernel) rfl, ⟨by decide +kernel, by decide +kernel⟩, by decide +kernel, by decide⟩
abbrev MJ_coder : MI := (yJ0_coder_7d493, cJ0_coder_7d493, 1, some .byte)
theorem mlJ_coder : ML MJ_coder 0 := ⟨gt2 97 (by decide +kernel) rfl, gt1 10 (by decide +kernel) rfl, ⟨by decide +kernel, by decide +kernel⟩, by decide +kernel, by decide⟩
abbrev MJ_isLatin1 : MI := (yJ0_isLatin1_aae02, cJ0_isLatin1_aae02, 1, some .boolean)
theorem mlJ_isLatin1 : ML MJ_isLatin1 0 := ⟨gt2 107 (by decide +kernel) rfl, gt1 10 (by decide +kernel) rfl, ⟨by decide +kernel, by decide +kernel⟩, by decide +kernel, by decide⟩
abbrev MJ_checkIndex : MI := (yJ0_checkIndex_df160, cJ0_checkIndex_df160, 2, none)
theorem mlJ_checkIndex : ML MJ_checkIndex 2 := ⟨gt2 113 (by decide +kernel) rfl, gt1 10 (by decide +kernel) rfl, ⟨by decide +kernel, by decide +kernel⟩, by decide +kernel, by decide⟩
abbrev MJ_lcharAt : MI := (yJ1_charAt_3b067, cJ1_charAt_3b067, 2, some .char)
theorem mlJ_lcharAt : ML MJ_lcharAt 2 := ⟨gt2 110 (by decide +kernel) rfl, gt1 11 (by decide +kernel) rfl, ⟨by decide +kernel, by decide +kernel⟩, by decide +kernel, by decide⟩
abbrev MJ_pcheck : MI := (yJ3_checkIndex_8e157, cJ3_checkIndex_8e157, 3, some .int)
theorem mlJ_pcheck : ML MJ_pcheck 3 := ⟨gt2 118 (by decide +kernel) rfl, gt1 12 (by decide +kernel) rfl, ⟨by decide +kernel, by decide +kernel⟩, by decide +kernel, by decide⟩
abbrev MJ_fill : MI := (yJ7_fill_53178, cJ7_fill_53178, 4, none)
theorem mlJ_fill : ML MJ_fill 2 := ⟨gt3 96 (by decide +kernel) rfl, gt1 14 (by decide +kernel) rfl, ⟨by decide +kernel, by decide +kernel⟩, by decide +kernel, by decide⟩
theorem clJ_coder : CLv RJ0 335 MJ_coder 0 := ⟨mlJ_coder, gt2 94 (by decide +kernel) rfl, gt2 95 (by decide +kernel) rfl, gt2 96 (by decide +kernel) rfl⟩
theorem clJ_isLatin1 : CLv RJ0 492 MJ_isLatin1 0 := ⟨mlJ_isLatin1, gt2 104 (by decide +kernel) rfl, gt2 105 (by decide +kernel) rfl, gt2 106 (by decide +kernel) rfl⟩
theorem clJ_lcharAt : CLs RJ0 495 MJ_lcharAt 2 := ⟨mlJ_lcharAt, gt2 108 (by decide +kernel) rfl, gt2 109 (by decide +kernel) rfl⟩
theorem clJ_checkIndex : CLs RJ1 9 MJ_checkIndex 2 := ⟨mlJ_checkIndex, gt2 111 (by decide +kernel) rfl, gt2 112 (by decide +kernel) rfl⟩
theorem clJ_pcheck : CLs RJ0 1059 MJ_pcheck 3 := ⟨mlJ_pcheck, gt2 116 (by decide +kernel) rfl, gt2 117 (by decide +kernel) rfl⟩
theorem clJ_length : CLv RX3 73 MJ_length 0 := ⟨mlJ_length, gt2 90 (by decide +kernel) rfl, gt2 91 (by decide +kernel) rfl, gt2 92 (by decide +kernel) rfl⟩
theorem clJ_charAt : CLv RX3 77 MJ_charAt 1 := ⟨mlJ_charAt, gt2 100 (by decide +kernel) rfl, gt2 101 (by decide +kernel) rfl, gt2 102 (by decide +kernel) rfl⟩
theorem clJ_fill : CLs RX1 152 MJ_fill 2 := ⟨mlJ_fill, gt3 94 (by decide +kernel) rfl, gt3 95 (by decide +kernel) rfl⟩
theorem id_args (l : List Value) : l = l.map (cV (fun k => k)) := by rw [show cV (fun k => k) = id from funext cV_id, List.map_id]
theorem id_ans (v : Option Value) : v.map (cV (fun k => k)) = v := by rw [show cV (fun k => k) = id from funext cV_id]; cases v <;> rfl
/-- a call on the text constant -/
theorem ev_cTi {d : Nat} {y : MI} {Q : Option Value → MW → Prop} {pc pc' : Nat} {ls : List (Option Value)} {st rest : List Value} {w : MW} {z : MI} {idx n : Nat} {u : Value} (As : List Value) (hcl : CLv y.1.cls idx z n) (hM : Ok d z (.ref 999 :: As) w (rt (some u) w)) (hd : decode y.2.1 pc = .ok (.invokevirtual idx, 3)) (hpc : pc + 3 = pc') (hst : st = As.reverse ++ .ref 999 :: rest) (hn : As.length = n) (hcat : (decide ((rest.map fun v => v.category).sum ≤ 8)) = true) (hzc : z.1.cls = "java/lang/String") (k : Ev (d + 1) y Q pc' ls (u :: rest) w) : Ev (d + 1) y Q pc ls st w := by
  refine ev_callT (As := As) (rest := rest) hcl hM hd hpc (Part.self w) hst (id_args _) hn (of_decide_eq_true hcat) hzc (fun v w' hq hl => ?_)
  rw [wput_self w w' hl, id_ans, hq.1, hq.2]
  exact k
theorem j_coder {d : Nat} (w : MW) : Ok d MJ_coder [.ref 999] w (rt (some (.int 0)) w) := by
  refine Ok.of (ls := [some _]) (by decide +kernel) (Nat.le_of_ble_eq_true rfl) rfl ?_
  refine ev_getsC (pc' := 3) (gt2 98 (by decide +kernel) rfl) dJ0_coder_7d493_0 rfl ?_
  refine ev_if_eq (tgt := 13) (pc' := 6) dJ0_coder_7d493_3 (by decide) rfl (fun h => absurd h (by decide)) (fun h => ?_)
  refine ev_aload_n (pc' := 7) dJ0_coder_7d493_6 rfl rfl ?_
  refine ev_getS (pc' := 10) (Or.inl ⟨rfl, rfl, rfl⟩) (gt6 120 (by decide +kernel) rfl) dJ0_coder_7d493_7 rfl ?_
  refine ev_goto (tgt := 14) dJ0_coder_7d493_10 (by decide) ?_
  exact ev_nreturn rfl rfl dJ0_coder_7d493_14 ⟨rfl, rfl⟩
theorem j_length {d : Nat} (w : MW) : Ok (d + 1) MJ_length [.ref 999] w (rt (some (.int 70)) w) := by
  refine Ok.of (ls := [some _]) (by decide +kernel) (Nat.le_of_ble_eq_true rfl) rfl ?_
  refine ev_aload_n (pc' := 1) dJ0_length_8abf5_0 rfl rfl ?_
  refine ev_getS (pc' := 4) (Or.inr ⟨rfl, rfl, rfl⟩) (gt6 119 (by decide +kernel) rfl) dJ0_length_8abf5_1 rfl ?_
  refine ev_alenS (pc' := 5) dJ0_length_8abf5_4 rfl ?_
  refine ev_aload_n (pc' := 6) dJ0_length_8abf5_5 rfl rfl ?_
  refine ev_cTi (pc' := 9) (rest := [_]) [] clJ_coder (j_coder w) dJ0_length_8abf5_6 rfl rfl rfl rfl rfl ?_
  refine ev_ishr (pc' := 10) dJ0_length_8abf5_9 rfl ?_
  exact ev_ireturn rfl dJ0_length_8abf5_10 ⟨rfl, rfl⟩
theorem j_isLatin1 {d : Nat} (w : MW) : Ok d MJ_isLatin1 [.ref 999] w (rt (some (.int 1)) w) := by
  refine Ok.of (ls := [some _]) (by decide +kernel) (Nat.le_of_ble_eq_true rfl) rfl ?_
  refine ev_getsC (pc' := 3) (gt2 98 (by decide +kernel) rfl) dJ0_isLatin1_aae02_0 rfl ?_
  refine ev_if_eq (tgt := 17) (pc' := 6) dJ0_isLatin1_aae02_3 (by decide) rfl (fun h => absurd h (by decide)) (fun h => ?_)
  refine ev_aload_n (pc' := 7) dJ0_isLatin1_aae02_6 rfl rfl ?_
  refine ev_getS (pc' := 10) (Or.inl ⟨rfl, rfl, rfl⟩) (gt6 120 (by decide +kernel) rfl) dJ0_isLatin1_aae02_7 rfl ?_
  refine ev_if_ne (tgt := 17) (pc' := 13) dJ0_isLatin1_aae02_10 (by decide) rfl (fun h => absurd rfl h) (fun h => ?_)
  refine ev_iconst (pc' := 14) (v := 1) dJ0_isLatin1_aae02_13 rfl (by decide) ?_
  refine ev_goto (tgt := 18) dJ0_isLatin1_aae02_14 (by decide) ?_
  exact ev_nreturn rfl rfl dJ0_isLatin1_aae02_18 ⟨rfl, rfl⟩
theorem j_pcheck {d : Nat} (w : MW) (i n : Int32) (v : Value) (hv : v = .null ∨ v = .ref 997) (h1 : ¬ i < 0) (h2 : i < n) : Ok d MJ_pcheck [.int i, .int n, v] w (rt (some (.int i)) w) := by
  refine Ok.of (ls := [some (.int i), some (.int n), some v]) (by decide +kernel) (by rcases hv with rfl | rfl <;> exact Nat.le_of_ble_eq_true rfl) (by rcases hv with rfl | rfl <;> rfl) ?_
  refine ev_iload_n (pc' := 1) dJ3_checkIndex_8e157_0 rfl rfl ?_
  refine ev_if_lt (tgt := 9) (pc' := 4) dJ3_checkIndex_8e157_1 (by decide) rfl (fun h => absurd h h1) (fun h => ?_)
  refine ev_iload_n (pc' := 5) dJ3_checkIndex_8e157_4 rfl rfl ?_
  refine ev_iload_n (pc' := 6) dJ3_checkIndex_8e157_5 rfl rfl ?_
  refine ev_icmp_lt (tgt := 16) (pc' := 9) dJ3_checkIndex_8e157_6 (by decide) rfl (fun h => ?_) (fun h => absurd h2 h)
  refine ev_iload_n (pc' := 17) dJ3_checkIndex_8e157_16 rfl rfl ?_
  exact ev_ireturn rfl dJ3_checkIndex_8e157_17 ⟨rfl, rfl⟩
theorem j_checkIndex {d : Nat} (w : MW) (i n : Int32) (h1 : ¬ i < 0) (h2 : i < n) : Ok (d + 1) MJ_checkIndex [.int i, .int n] w (rt none w) := by
  refine Ok.of (ls := [some _, some _]) (by decide +kernel) (Nat.le_of_ble_eq_true rfl) rfl ?_
  refine ev_iload_n (pc' := 1) dJ0_checkIndex_df160_0 rfl rfl ?_
  refine ev_iload_n (pc' := 2) dJ0_checkIndex_df160_1 rfl rfl ?_
  refine ev_getsF (pc' := 5) (gt2 114 (by decide +kernel) rfl) dJ0_checkIndex_df160_2 rfl (fun v hv => ?_)
  refine ev_cSi3 (pc' := 8) clJ_pcheck (j_pcheck w i n v hv h1 h2) dJ0_checkIndex_df160_5 rfl rfl ?_
  refine ev_pop (pc' := 9) dJ0_checkIndex_df160_8 rfl rfl ?_
  exact ev_return rfl dJ0_checkIndex_df160_9 ⟨rfl, rfl⟩
theorem j_lcharAt {d : Nat} (w : MW) (i : Nat) (hi : i < 70) : Ok (d + 2) MJ_lcharAt [.ref 998, .int (nI i)] w (rt (some (.int (BYT.getD i 0))) w) := by
  refine Ok.of (ls := [some _, some _]) (by decide +kernel) (Nat.le_of_ble_eq_true rfl) rfl ?_
  refine ev_iload_n (pc' := 1) dJ1_charAt_3b067_0 rfl rfl ?_
  refine ev_aload_n (pc' := 2) dJ1_charAt_3b067_1 rfl rfl ?_
  refine ev_alenS (pc' := 3) dJ1_charAt_3b067_2 rfl ?_
  refine ev_cSv2 (pc' := 6) clJ_checkIndex (j_checkIndex w (nI i) 70 (nI_pos (by omega)) (nI_lt (b := 70) hi (by omega))) dJ1_charAt_3b067_3 rfl rfl ?_
  refine ev_aload_n (pc' := 7) dJ1_charAt_3b067_6 rfl rfl ?_
  refine ev_iload_n (pc' := 8) dJ1_charAt_3b067_7 rfl rfl ?_
  refine ev_baldS (pc' := 9) (vp_in_nI hi (by omega)) dJ1_charAt_3b067_8 rfl ?_
  refine ev_sipush (pc' := 12) (v := 255) dJ1_charAt_3b067_9 rfl (by decide) ?_
  refine ev_iand (pc' := 13) dJ1_charAt_3b067_12 rfl ?_
  refine ev_i2c (pc' := 14) dJ1_charAt_3b067_13 rfl ?_
  have hB : ∀ k, k < 70 → (((BYT.getD k 0) &&& 255).toUInt32 % 65536).toInt32 = BYT.getD k 0 ∧ narrow .char (.int (BYT.getD k 0)) = .int (BYT.getD k 0) := by decide +kernel
  rw [nI_clamp (by omega), (hB i hi).1]
  exact ev_nreturn rfl (hB i hi).2 dJ1_charAt_3b067_14 ⟨rfl, rfl⟩
theorem j_charAt {d : Nat} (w : MW) (i : Nat) (hi : i < 70) : Ok (d + 3) MJ_charAt [.ref 999, .int (nI i)] w (rt (some (.int (BYT.getD i 0))) w) := by
  have hB : ∀ k, k < 70 → narrow .char (.int (BYT.getD k 0)) = .int (BYT.getD k 0) := by decide +kernel
  refine Ok.of (ls := [some _, some _]) (by decide +kernel) (Nat.le_of_ble_eq_true rfl) rfl ?_
  refine ev_aload_n (pc' := 1) dJ0_charAt_5068e_0 rfl rfl ?_
  refine ev_cTi (pc' := 4) (rest := []) [] clJ_isLatin1 (j_isLatin1 w) dJ0_charAt_5068e_1 rfl rfl rfl rfl rfl ?_
  refine ev_if_eq (tgt := 16) (pc' := 7) dJ0_charAt_5068e_4 (by decide) rfl (fun h => absurd h (by decide)) (fun h => ?_)
  refine ev_aload_n (pc' := 8) dJ0_charAt_5068e_7 rfl rfl ?_
  refine ev_getS (pc' := 11) (Or.inr ⟨rfl, rfl, rfl⟩) (gt6 119 (by decide +kernel) rfl) dJ0_charAt_5068e_8 rfl ?_
  refine ev_iload_n (pc' := 12) dJ0_charAt_5068e_11 rfl rfl ?_
  refine ev_cSi2 (pc' := 15) clJ_lcharAt (j_lcharAt w i hi) dJ0_charAt_5068e_12 rfl rfl ?_
  exact ev_nreturn rfl (hB i hi) dJ0_charAt_5068e_15 ⟨rfl, rfl⟩
