/-! readText, token by token. -/
theorem zv_congr {σ τ : RS} {ops : List Int32} {cds : List YC} (h : zv σ ops cds) (e : ∀ c, c ≤ 10 → c ≠ 2 → c ≠ 3 → τ c = σ c) : zv τ ops cds := by
  unfold zv
  rw [e 0 (by omega) (by omega) (by omega), e 1 (by omega) (by omega) (by omega), e 4 (by omega) (by omega) (by omega), e 5 (by omega) (by omega) (by omega), e 6 (by omega) (by omega) (by omega)]
  exact h
theorem zr_congr {S : YS} {σ τ : RS} (h : zr S σ) (e : ∀ c, c ≤ 10 → c ≠ 2 → c ≠ 3 → τ c = σ c) : zr S τ := by
  obtain ⟨⟨aw, sd, tk, gr⟩, ⟨wt, out⟩, ⟨done, E, rels⟩, orf, L, op⟩ := S
  obtain ⟨h1, hv, h48, hzl, hcu, hcc⟩ := h
  refine ⟨?_, zv_congr hv e, ?_, zl_keep (fun c c1 c2 => e c c2 (by omega) (by omega)) hzl, ?_, ?_⟩
  · rw [e 0 (by omega) (by omega) (by omega)]; exact h1
  · rw [e 4 (by omega) (by omega) (by omega)]; exact h48
  · rw [e 7 (by omega) (by omega) (by omega), e 8 (by omega) (by omega) (by omega)]; exact hcu
  · rw [e 9 (by omega) (by omega) (by omega)]; exact hcc
theorem zr_fault {S : YS} {σ : RS} (h : zr S σ) : σ 0 8 = 0 := by
  obtain ⟨⟨aw, sd, tk, gr⟩, ⟨wt, out⟩, ⟨done, E, rels⟩, orf, L, op⟩ := S
  exact h.1.2.2.2.2
theorem zr_take_pre {S : YS} {σ : RS} (h : zr S σ) (ho : ym_ok S) (hf : ym_fits S (σ 2 1) = true) (hr : ym_room S (σ 2 1) = true) : (ym_ops S).length ≤ 400 ∧ σ 0 3 = nI (ym_ops S).length ∧ (σ 2 1 = 0 ∨ σ 2 1 = 2 → S.2.2.1.1.length < 16 ∧ σ 4 8 = nI S.2.2.1.1.length) := by
  obtain ⟨⟨aw, sd, tk, gr⟩, ⟨wt, out⟩, ⟨done, E, rels⟩, orf, L, op⟩ := S
  obtain ⟨h1, hv, h48, hzl, hcu, hcc⟩ := h
  obtain ⟨a1, a2, a3, a4, a5, a6, a7, a8, a9, a10⟩ := ho
  have hc := ym_cases a1 a2 hf
  obtain ⟨r1, r2, r3⟩ := ym_room_of hr
  dsimp only at hc r1 r2 r3 ⊢
  refine ⟨by omega, hv.1, fun hk => ?_⟩
  have haw : aw = 0 := by
    rcases hc with ⟨e, -⟩ | ⟨e, z⟩ | ⟨e, z⟩ | ⟨e, z⟩ | ⟨e, z⟩ | ⟨e, -, z⟩ | ⟨e, -, -, z⟩ | ⟨e, -, -, z⟩ | ⟨e, -, -, z⟩
    · exact e
    all_goals (exfalso; rcases hk with q | q <;> rw [q] at z <;> revert z <;> decide)
  subst haw
  exact ⟨r2 rfl, h48⟩
def zQ (la sp : Nat) (R : Int32 × Nat × YS) (σ0 : RS) : Option Value → MW → Prop := fun v w => v = some (.int R.1) ∧ ∃ σ', w = WD σ' la sp sp 1 ∧ zK sp σ0 σ' ∧ σ' 26 8 = R.1 ∧ (R.1 = 0 ∨ R.1 = 1 ∨ R.1 = 2) ∧ (¬ R.1 = 0 → σ' 28 0 = nI R.2.1) ∧ (R.1 = 0 → zr R.2.2 (zd sp σ') ∧ ym_ok R.2.2 ∧ R.2.2.1.1 = 0)
theorem zQ_fault {la sp : Nat} {R : Int32 × Nat × YS} {σ0 σ : RS} (hK : zK sp σ0 σ) (h8 : σ 26 8 = R.1) (h0 : σ 28 0 = nI R.2.1) (hR : R.1 = 1 ∨ R.1 = 2) : zQ la sp R σ0 (some (.int R.1)) (WD σ la sp sp 1) := by
  have hn : ¬ R.1 = 0 := by rcases hR with e | e <;> rw [e] <;> decide
  exact ⟨rfl, σ, rfl, hK, h8, Or.inr hR, fun _ => h0, fun z => absurd z hn⟩
theorem d_read_out {d la sp n k : Nat} {R : Int32 × Nat × YS} {σ0 σ : RS} (hK : zK sp σ0 σ) (h8 : σ 26 8 = R.1) (h0 : σ 28 0 = nI R.2.1) (hR : R.1 = 1 ∨ R.1 = 2) : Ev (d + 7) M4_readText (zQ la sp R σ0) 49 [some (.ref 26), some (.ref 1), some (.int (nI n)), some (.ref sp), some (.int (nI k))] [] (WD σ la sp sp 1) := by
  have hn : ¬ R.1 = 0 := by rcases hR with e | e <;> rw [e] <;> decide
  have fin := zQ_fault (la := la) hK h8 h0 hR
  refine ev_iload (pc' := 51) dX4_readText_49 rfl rfl ?_
  refine ev_iload_n (pc' := 52) dX4_readText_51 rfl rfl ?_
  refine ev_icmp_gt (tgt := 116) (pc' := 55) dX4_readText_52 (by decide) rfl (fun h_52 => ?_) (fun h_52 => ?_)
  · refine ev_aload_n (pc' := 117) dX4_readText_116 rfl rfl ?_
    skip
    refine ev_getf (pc' := 120) fl_4_38 dX4_readText_117 rfl rfl rfl ?_
    refine ev_ireturn rfl dX4_readText_120 ?_
    rw [h8]
    exact fin
  · refine ev_aload_n (pc' := 56) dX4_readText_55 rfl rfl ?_
    refine ev_getf (pc' := 59) fl_4_38 dX4_readText_56 rfl rfl rfl ?_
    refine ev_if_ne (tgt := 116) (pc' := 62) dX4_readText_59 (by decide) rfl (fun h_59 => ?_) (fun h_59 => ?_)
    · refine ev_aload_n (pc' := 117) dX4_readText_116 rfl rfl ?_
      skip
      refine ev_getf (pc' := 120) fl_4_38 dX4_readText_117 rfl rfl rfl ?_
      refine ev_ireturn rfl dX4_readText_120 ?_
      rw [h8]
      exact fin
    · exact absurd (h8.symm.trans h_59) hn --
theorem s2_self (σ : RS) {c j : Nat} {x : Int32} (h : σ c j = x) : s2 σ c j x = σ := by
  funext k
  unfold s2
  by_cases e : k = c
  · subst e
    rw [s1_same]
    funext i
    by_cases e2 : i = j
    · rw [e2, upd_same, h]
    · rw [upd_ne _ _ e2]
  · rw [s1_ne _ _ e]
theorem d_read_loop {d la sp n : Nat} {t : Nat → Int32} {R : Int32 × Nat × YS} {σ0 : RS} (hs : la_ok sp) (hn : n ≤ 2000) (ht : ∀ j, j < n → ¬ t j = -1) : ∀ (f i k : Nat) (S : YS) (σ : RS), ym_run n t f i S = some R → zr S (zd sp σ) → ym_ok S → σ 28 4 = nI n → σ 28 5 = nI i → k ≤ i → i ≤ n → σ 1 = t → zK sp σ0 σ → Ev (d + 7) M4_readText (zQ la sp R σ0) 49 [some (.ref 26), some (.ref 1), some (.int (nI n)), some (.ref sp), some (.int (nI k))] [] (WD σ la sp sp 1) := by
  intro f
  induction f with
  | zero => intro i k S σ hrun; cases hrun
  | succ f ih =>
    intro i k S σ hrun hz ho h4 h5 hki hin ht1 hK
    have hsp : sp = 10 ∨ sp = 18 := hs
    have oC := kD_cutToken (d := d) σ la sp sp n i hn (by rw [ht1]; exact ht) hin h4 h5
    obtain ⟨σ1, h1⟩ : ∃ σ1, σ1 = xcut n i σ := ⟨_, rfl⟩
    rw [← h1] at oC
    have x28 : ∀ j, σ1 28 j = if j = 0 then nI (x_tok n t i).1 else if j = 1 then (x_tok n t i).2.1 else if j = 2 then (x_tok n t i).2.2.1 else if j = 5 then nI (x_tok n t i).2.2.2 else σ 28 j := fun j => by
      rw [h1, ← ht1]
      unfold xcut
      rw [s1_same]
    have xne : ∀ c, c ≠ 28 → σ1 c = σ c := fun c hc => by rw [h1]; exact s1_ne _ _ hc
    have y0 : σ1 28 0 = nI (x_tok n t i).1 := x28 0
    have y1 : σ1 28 1 = (x_tok n t i).2.1 := x28 1
    have y2 : σ1 28 2 = (x_tok n t i).2.2.1 := x28 2
    have y4 : σ1 28 4 = nI n := (x28 4).trans h4
    have y5 : σ1 28 5 = nI (x_tok n t i).2.2.2 := x28 5
    have hz1 : zr S (zd sp σ1) := zr_congr hz (fun c c1 c2 c3 => xne _ (by
      unfold pz
      rw [if_neg c3]
      split <;> omega))
    have hK1 : zK sp σ0 σ1 := hK.trans (by rw [h1]; exact zK_s1 σ _ (by omega))
    have h8 : σ 26 8 = 0 := zr_fault hz
    have g8 : σ1 26 8 = 0 := zr_fault hz1
    have z21 : (zd sp σ1) 2 1 = (x_tok n t i).2.1 := y1
    have z22 : (zd sp σ1) 2 2 = (x_tok n t i).2.2.1 := y2
    have hfit := zr_fits hz1 ho
    have hroom := zr_room hz1 ho
    rw [z21] at hfit hroom
    have oF := kD_fits (d := d + 4) σ1 la sp hs
    have oT := kD_faultOfToken (d := d + 3) σ1 la sp hs
    unfold z_fault at oT
    rw [hfit] at oF oT
    rw [hroom] at oT
    have hnt := (x_tok_le n t i hin).2.2
    have hlt := x_tok_lt n t i hin
    rw [ym_run] at hrun
    generalize htok : x_tok n t i = tok at *
    by_cases hf : ym_fits S tok.2.1 = true
    · rw [if_pos hf] at hrun
      rw [hf] at oF
      rw [if_pos hf] at oT
      by_cases hk : tok.2.1 = 17
      · rw [if_pos hk] at hrun
        have hR : R = (0, tok.1, S) := (Option.some.inj hrun).symm
        have haw : S.1.1 = 0 := by
          obtain ⟨⟨aw, sd, tk, gr⟩, ⟨wt, out⟩, ⟨done, E, rels⟩, orf, L, op⟩ := S
          obtain ⟨a1, a2, -⟩ := ho
          have hc := ym_cases a1 a2 hf
          rw [hk] at hc
          dsimp only at hc ⊢
          rcases hc with ⟨e, -⟩ | ⟨e, z⟩ | ⟨e, z⟩ | ⟨e, z⟩ | ⟨e, z⟩ | ⟨e, -, z⟩ | ⟨e, -, -, z⟩ | ⟨e, -, -, z⟩ | ⟨e, -, -, z⟩
          · exact e
          all_goals (exfalso; revert z; decide)
        have fin : zQ la sp R σ0 (some (.int 0)) (WD σ1 la sp sp 1) := by
          rw [hR]
          exact ⟨rfl, σ1, rfl, hK1, g8, Or.inl rfl, fun z => absurd rfl z, fun _ => ⟨hz1, ho, haw⟩⟩
        refine ev_iload (pc' := 51) dX4_readText_49 rfl rfl ?_
        refine ev_iload_n (pc' := 52) dX4_readText_51 rfl rfl ?_
        refine ev_icmp_gt (tgt := 116) (pc' := 55) dX4_readText_52 (by decide) rfl (fun h_52 => ?_) (fun h_52 => ?_)
        · exact absurd h_52 (nI_nlt (by omega) (by omega)) --
        · refine ev_aload_n (pc' := 56) dX4_readText_55 rfl rfl ?_
          refine ev_getf (pc' := 59) fl_4_38 dX4_readText_56 rfl rfl rfl ?_
          refine ev_if_ne (tgt := 116) (pc' := 62) dX4_readText_59 (by decide) rfl (fun h_59 => ?_) (fun h_59 => ?_)
          · exact absurd h8 h_59 --
          · refine ev_aload_n (pc' := 63) dX4_readText_62 rfl rfl ?_
            refine ev_getf (pc' := 66) fl_4_12 dX4_readText_63 rfl rfl rfl ?_
            refine ev_cVv0 (pc' := 69) cl_4_54 (oC) dX4_readText_66 rfl rfl rfl rfl ?_
            refine ev_aload_n (pc' := 70) dX4_readText_69 rfl rfl ?_
            refine ev_getf (pc' := 73) fl_4_12 dX4_readText_70 rfl rfl rfl ?_
            refine ev_getf (pc' := 76) fl_4_57 dX4_readText_73 rfl rfl rfl ?_
            refine ev_bipush (pc' := 78) (v := 17) dX4_readText_76 rfl (by decide) ?_
            refine ev_icmp_ne (tgt := 91) (pc' := 81) dX4_readText_78 (by decide) rfl (fun h_78 => ?_) (fun h_78 => ?_)
            · exact absurd (y1.trans hk) h_78 --
            · refine ev_aload_n (pc' := 82) dX4_readText_81 rfl rfl ?_
              refine ev_cVi0 (pc' := 85) cl_4_60 (oF) dX4_readText_82 rfl rfl rfl rfl ?_
              refine ev_if_eq (tgt := 91) (pc' := 88) dX4_readText_85 (by decide) rfl (fun h_85 => ?_) (fun h_85 => ?_)
              · exact absurd h_85 (by decide) --
              · refine ev_goto (tgt := 116) dX4_readText_88 (by decide) ?_
                refine ev_aload_n (pc' := 117) dX4_readText_116 rfl rfl ?_
                refine ev_getf (pc' := 120) fl_4_38 dX4_readText_117 rfl rfl rfl ?_
                refine ev_ireturn rfl dX4_readText_120 ?_
                rw [g8]
                exact fin
      · rw [if_neg hk] at hrun
        by_cases hm : ym_room S tok.2.1 = true
        · rw [if_pos hm] at hrun
          rw [if_pos hm] at oT
          obtain ⟨p1, p2, p3⟩ := zr_take_pre hz1 ho (by rw [z21]; exact hf) (by rw [z21]; exact hm)
          obtain ⟨q1, q2, q3⟩ := zr_take hz1 ho (by rw [z21]; exact hf) (by rw [z21]; exact hm) (by rw [z21]; exact hk)
          have oK := kD_take (d := d + 2) σ1 la sp hs (ym_ops S).length S.2.2.1.1.length p1 p2 p3
          rw [z21, z22] at q1
          have ew : WD (s2 σ1 26 8 0) la sp sp 1 = WD σ1 la sp sp 1 := by rw [s2_self σ1 g8]
          obtain ⟨T, hT⟩ : ∃ T, T = z_take (ym_ops S).length S.2.2.1.1.length (zd sp σ1) := ⟨_, rfl⟩
          have hdz := fun i hi => dz_in (i := i) hs T (σ1 (sp + 7)) σ1 hi
          have hdo := fun c => dz_out (c := c) sp T (σ1 (sp + 7)) σ1
          unfold dTake at oK
          rw [← hT] at oK q1 q2 q3
          have hlt' := hlt hk
          have kE : Ev (d + 7) M4_readText (zQ la sp R σ0) 49 [some (.ref 26), some (.ref 1), some (.int (nI n)), some (.ref sp), some (.int (nI (k + 1)))] [] (WD (dz sp T (σ1 (sp + 7)) σ1) la sp sp 1) := by
            have e2 : dz sp T (σ1 (sp + 7)) σ1 28 = σ1 28 := (hdz 2 (by omega)).trans q2
            have e3 : dz sp T (σ1 (sp + 7)) σ1 1 = σ1 1 := (hdz 3 (by omega)).trans q3
            refine ih tok.2.2.2 (k + 1) _ _ hrun (zr_congr q1 (fun c c1 c2 c3 => hdz c (by omega))) (ym_ok_step ho hf hm hk (by rw [← htok]; exact (x_tok_kind n t i).elim fun q hq => hq.2.2)) (by rw [e2]; exact y4) (by rw [e2]; exact y5) (by omega) hnt (by rw [e3, xne 1 (by omega)]; exact ht1) (hK1.trans (fun c c1 c2 c3 c4 => ?_))
            by_cases e : c = 1
            · rw [e]; exact e3
            · exact hdo c ⟨c1, c2, c3, e⟩ c4
          refine ev_iload (pc' := 51) dX4_readText_49 rfl rfl ?_
          refine ev_iload_n (pc' := 52) dX4_readText_51 rfl rfl ?_
          refine ev_icmp_gt (tgt := 116) (pc' := 55) dX4_readText_52 (by decide) rfl (fun h_52 => ?_) (fun h_52 => ?_)
          · exact absurd h_52 (nI_nlt (by omega) (by omega)) --
          · refine ev_aload_n (pc' := 56) dX4_readText_55 rfl rfl ?_
            refine ev_getf (pc' := 59) fl_4_38 dX4_readText_56 rfl rfl rfl ?_
            refine ev_if_ne (tgt := 116) (pc' := 62) dX4_readText_59 (by decide) rfl (fun h_59 => ?_) (fun h_59 => ?_)
            · exact absurd h8 h_59 --
            · refine ev_aload_n (pc' := 63) dX4_readText_62 rfl rfl ?_
              refine ev_getf (pc' := 66) fl_4_12 dX4_readText_63 rfl rfl rfl ?_
              refine ev_cVv0 (pc' := 69) cl_4_54 (oC) dX4_readText_66 rfl rfl rfl rfl ?_
              refine ev_aload_n (pc' := 70) dX4_readText_69 rfl rfl ?_
              refine ev_getf (pc' := 73) fl_4_12 dX4_readText_70 rfl rfl rfl ?_
              refine ev_getf (pc' := 76) fl_4_57 dX4_readText_73 rfl rfl rfl ?_
              refine ev_bipush (pc' := 78) (v := 17) dX4_readText_76 rfl (by decide) ?_
              refine ev_icmp_ne (tgt := 91) (pc' := 81) dX4_readText_78 (by decide) rfl (fun h_78 => ?_) (fun h_78 => ?_)
              · refine ev_aload_n (pc' := 92) dX4_readText_91 rfl rfl ?_
                refine ev_aload_n (pc' := 93) dX4_readText_92 rfl rfl ?_
                refine ev_cVi0 (pc' := 96) cl_4_64 (oT) dX4_readText_93 rfl rfl rfl rfl ?_
                refine ev_putf (pc' := 99) fs_4_38 dX4_readText_96 rfl rfl (Nat.le_of_ble_eq_true rfl) (fun _ => rfl) (fun _ => rfl) (WD_p4_8 _ _ _ _ _ _) ?_
                refine ev_world (w' := WD σ1 la sp sp 1) ew ?_
                refine ev_aload_n (pc' := 100) dX4_readText_99 rfl rfl ?_
                refine ev_getf (pc' := 103) fl_4_38 dX4_readText_100 rfl rfl rfl ?_
                refine ev_if_ne (tgt := 110) (pc' := 106) dX4_readText_103 (by decide) rfl (fun h_103 => ?_) (fun h_103 => ?_)
                · exact absurd g8 h_103 --
                · refine ev_aload_n (pc' := 107) dX4_readText_106 rfl rfl ?_
                  refine ev_cVv0 (pc' := 110) cl_4_68 (oK) dX4_readText_107 rfl rfl rfl rfl ?_
                  refine ev_iinc (pc' := 113) (ls' := [_, _, _, _, _]) dX4_readText_110 rfl rfl rfl rfl rfl ?_
                  refine ev_goto (tgt := 49) dX4_readText_113 (by decide) ?_
                  rw [nI_p1]
                  exact kE
              · exact absurd (y1.symm.trans h_78) hk --
        · rw [if_neg hm] at hrun
          rw [if_neg hm] at oT
          have hR : R = (2, tok.1, S) := (Option.some.inj hrun).symm
          have kE := fun k => d_read_out (d := d) (la := la) (n := n) (k := k) (R := R) (σ := s2 σ1 26 8 2) (hK1.trans (zK_s1 σ1 _ (by omega))) (by rw [hR]; rfl) (by rw [hR]; exact y0) (by rw [hR]; exact Or.inr rfl)
          refine ev_iload (pc' := 51) dX4_readText_49 rfl rfl ?_
          refine ev_iload_n (pc' := 52) dX4_readText_51 rfl rfl ?_
          refine ev_icmp_gt (tgt := 116) (pc' := 55) dX4_readText_52 (by decide) rfl (fun h_52 => ?_) (fun h_52 => ?_)
          · exact absurd h_52 (nI_nlt (by omega) (by omega)) --
          · refine ev_aload_n (pc' := 56) dX4_readText_55 rfl rfl ?_
            refine ev_getf (pc' := 59) fl_4_38 dX4_readText_56 rfl rfl rfl ?_
            refine ev_if_ne (tgt := 116) (pc' := 62) dX4_readText_59 (by decide) rfl (fun h_59 => ?_) (fun h_59 => ?_)
            · exact absurd h8 h_59 --
            · refine ev_aload_n (pc' := 63) dX4_readText_62 rfl rfl ?_
              refine ev_getf (pc' := 66) fl_4_12 dX4_readText_63 rfl rfl rfl ?_
              refine ev_cVv0 (pc' := 69) cl_4_54 (oC) dX4_readText_66 rfl rfl rfl rfl ?_
              refine ev_aload_n (pc' := 70) dX4_readText_69 rfl rfl ?_
              refine ev_getf (pc' := 73) fl_4_12 dX4_readText_70 rfl rfl rfl ?_
              refine ev_getf (pc' := 76) fl_4_57 dX4_readText_73 rfl rfl rfl ?_
              refine ev_bipush (pc' := 78) (v := 17) dX4_readText_76 rfl (by decide) ?_
              refine ev_icmp_ne (tgt := 91) (pc' := 81) dX4_readText_78 (by decide) rfl (fun h_78 => ?_) (fun h_78 => ?_)
              · refine ev_aload_n (pc' := 92) dX4_readText_91 rfl rfl ?_
                refine ev_aload_n (pc' := 93) dX4_readText_92 rfl rfl ?_
                refine ev_cVi0 (pc' := 96) cl_4_64 (oT) dX4_readText_93 rfl rfl rfl rfl ?_
                refine ev_putf (pc' := 99) fs_4_38 dX4_readText_96 rfl rfl (Nat.le_of_ble_eq_true rfl) (fun _ => rfl) (fun _ => rfl) (WD_p4_8 _ _ _ _ _ _) ?_
                refine ev_aload_n (pc' := 100) dX4_readText_99 rfl rfl ?_
                refine ev_getf (pc' := 103) fl_4_38 dX4_readText_100 rfl rfl rfl ?_
                refine ev_if_ne (tgt := 110) (pc' := 106) dX4_readText_103 (by decide) rfl (fun h_103 => ?_) (fun h_103 => ?_)
                · refine ev_iinc (pc' := 113) (ls' := [_, _, _, _, _]) dX4_readText_110 rfl rfl rfl rfl rfl ?_
                  refine ev_goto (tgt := 49) dX4_readText_113 (by decide) ?_
                  rw [nI_p1]
                  exact kE (k + 1)
                · exact absurd h_103 (by show ¬ (2 : Int32) = 0; decide) --
              · exact absurd (y1.symm.trans h_78) hk --
    · rw [if_neg hf] at hrun
      have hf' : ym_fits S tok.2.1 = false := by
        cases h : ym_fits S tok.2.1 with
        | true => exact absurd h hf
        | false => rfl
      rw [hf'] at oF
      rw [if_neg hf] at oT
      have hR : R = (1, tok.1, S) := (Option.some.inj hrun).symm
      have kE := fun k => d_read_out (d := d) (la := la) (n := n) (k := k) (R := R) (σ := s2 σ1 26 8 1) (hK1.trans (zK_s1 σ1 _ (by omega))) (by rw [hR]; rfl) (by rw [hR]; exact y0) (by rw [hR]; exact Or.inl rfl)
      refine ev_iload (pc' := 51) dX4_readText_49 rfl rfl ?_
      refine ev_iload_n (pc' := 52) dX4_readText_51 rfl rfl ?_
      refine ev_icmp_gt (tgt := 116) (pc' := 55) dX4_readText_52 (by decide) rfl (fun h_52 => ?_) (fun h_52 => ?_)
      · exact absurd h_52 (nI_nlt (by omega) (by omega)) --
      · refine ev_aload_n (pc' := 56) dX4_readText_55 rfl rfl ?_
        refine ev_getf (pc' := 59) fl_4_38 dX4_readText_56 rfl rfl rfl ?_
        refine ev_if_ne (tgt := 116) (pc' := 62) dX4_readText_59 (by decide) rfl (fun h_59 => ?_) (fun h_59 => ?_)
        · exact absurd h8 h_59 --
        · refine ev_aload_n (pc' := 63) dX4_readText_62 rfl rfl ?_
          refine ev_getf (pc' := 66) fl_4_12 dX4_readText_63 rfl rfl rfl ?_
          refine ev_cVv0 (pc' := 69) cl_4_54 (oC) dX4_readText_66 rfl rfl rfl rfl ?_
          refine ev_aload_n (pc' := 70) dX4_readText_69 rfl rfl ?_
          refine ev_getf (pc' := 73) fl_4_12 dX4_readText_70 rfl rfl rfl ?_
          refine ev_getf (pc' := 76) fl_4_57 dX4_readText_73 rfl rfl rfl ?_
          refine ev_bipush (pc' := 78) (v := 17) dX4_readText_76 rfl (by decide) ?_
          refine ev_icmp_ne (tgt := 91) (pc' := 81) dX4_readText_78 (by decide) rfl (fun h_78 => ?_) (fun h_78 => ?_)
          · refine ev_aload_n (pc' := 92) dX4_readText_91 rfl rfl ?_
            refine ev_aload_n (pc' := 93) dX4_readText_92 rfl rfl ?_
            refine ev_cVi0 (pc' := 96) cl_4_64 (oT) dX4_readText_93 rfl rfl rfl rfl ?_
            refine ev_putf (pc' := 99) fs_4_38 dX4_readText_96 rfl rfl (Nat.le_of_ble_eq_true rfl) (fun _ => rfl) (fun _ => rfl) (WD_p4_8 _ _ _ _ _ _) ?_
            refine ev_aload_n (pc' := 100) dX4_readText_99 rfl rfl ?_
            refine ev_getf (pc' := 103) fl_4_38 dX4_readText_100 rfl rfl rfl ?_
            refine ev_if_ne (tgt := 110) (pc' := 106) dX4_readText_103 (by decide) rfl (fun h_103 => ?_) (fun h_103 => ?_)
            · refine ev_iinc (pc' := 113) (ls' := [_, _, _, _, _]) dX4_readText_110 rfl rfl rfl rfl rfl ?_
              refine ev_goto (tgt := 49) dX4_readText_113 (by decide) ?_
              rw [nI_p1]
              exact kE (k + 1)
            · exact absurd h_103 (by show ¬ (1 : Int32) = 0; decide) --
          · refine ev_aload_n (pc' := 82) dX4_readText_81 rfl rfl ?_
            refine ev_cVi0 (pc' := 85) cl_4_60 (oF) dX4_readText_82 rfl rfl rfl rfl ?_
            refine ev_if_eq (tgt := 91) (pc' := 88) dX4_readText_85 (by decide) rfl (fun h_85 => ?_) (fun h_85 => ?_)
            · refine ev_aload_n (pc' := 92) dX4_readText_91 rfl rfl ?_
              refine ev_aload_n (pc' := 93) dX4_readText_92 rfl rfl ?_
              refine ev_cVi0 (pc' := 96) cl_4_64 (oT) dX4_readText_93 rfl rfl rfl rfl ?_
              refine ev_putf (pc' := 99) fs_4_38 dX4_readText_96 rfl rfl (Nat.le_of_ble_eq_true rfl) (fun _ => rfl) (fun _ => rfl) (WD_p4_8 _ _ _ _ _ _) ?_
              refine ev_aload_n (pc' := 100) dX4_readText_99 rfl rfl ?_
              refine ev_getf (pc' := 103) fl_4_38 dX4_readText_100 rfl rfl rfl ?_
              refine ev_if_ne (tgt := 110) (pc' := 106) dX4_readText_103 (by decide) rfl (fun h_103 => ?_) (fun h_103 => ?_)
              · refine ev_iinc (pc' := 113) (ls' := [_, _, _, _, _]) dX4_readText_110 rfl rfl rfl rfl rfl ?_
                refine ev_goto (tgt := 49) dX4_readText_113 (by decide) ?_
                rw [nI_p1]
                exact kE (k + 1)
              · exact absurd h_103 (by show ¬ (1 : Int32) = 0; decide) --
            · exact absurd rfl h_85 --
