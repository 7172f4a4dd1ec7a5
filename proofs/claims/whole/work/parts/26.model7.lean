/-! The model, seventh part: signs that come out. -/
def e_op (w : Int32) : Int32 := if w = 8 then 2 else if w = 9 then 3 else 4
def e_out (times : Bool) : Nat → Nat → RS → RS
  | 0, _, σ => σ
  | h + 1, j, σ => if ¬ σ 22 h = 6 ∧ (times = false ∨ σ 22 h = 10) then e_out times h (j + 1) (m_emit' (s2 σ 0 36 (nI h)) j (e_op (σ 22 h)) 0) else σ
theorem e_out_loop {d : Nat} (τ : TS) (times : Bool) : ∀ (h j : Nat) (σ : RS) (z2 : Option Value), h ≤ 48 → j + h ≤ 1000 → σ 0 36 = nI h → σ 0 32 = nI j → Ev (d + 1) M7_comesOut (rt none (WM (e_out times h j σ) τ)) 0 [some (.ref 0), some (.int (bI times)), z2] [] (WM σ τ) := by
  intro h
  induction h with
  | zero =>
    intro j σ z2 hh hj h36 h32
    refine ev_aload_n (pc' := 1) dX7_comesOut_0 rfl rfl ?_
    refine ev_getf (pc' := 4) fl_7_252 dX7_comesOut_1 rfl rfl rfl ?_
    refine ev_if_le (tgt := 92) (pc' := 7) dX7_comesOut_4 (by decide) rfl (fun h_4 => ?_) (fun h_4 => ?_)
    · refine ev_return rfl dX7_comesOut_92 ?_
      exact ⟨rfl, rfl⟩
    · exact absurd (show σ 0 36 ≤ 0 by rw [h36]; decide) h_4 --
  | succ h ih =>
    intro j σ z2 hh hj h36 h32
    have e1 : σ 0 36 - 1 = nI h := by rw [h36, nI_pred]
    have e2 : (nI h).toNatClampNeg = h := nI_clamp (by omega)
    have hv : vp_in (nI h) 48 := vp_in_nI (by omega) (by omega)
    rw [e_out]
    refine ev_aload_n (pc' := 1) dX7_comesOut_0 rfl rfl ?_
    refine ev_getf (pc' := 4) fl_7_252 dX7_comesOut_1 rfl rfl rfl ?_
    refine ev_if_le (tgt := 92) (pc' := 7) dX7_comesOut_4 (by decide) rfl (fun h_4 => ?_) (fun h_4 => ?_)
    · exact absurd h_4 (by rw [h36]; exact nI_nle (by omega) (by omega)) --
    · refine ev_aload_n (pc' := 8) dX7_comesOut_7 rfl rfl ?_
      refine ev_getf (pc' := 11) fl_7_83 dX7_comesOut_8 rfl rfl rfl ?_
      refine ev_aload_n (pc' := 12) dX7_comesOut_11 rfl rfl ?_
      refine ev_getf (pc' := 15) fl_7_252 dX7_comesOut_12 rfl rfl rfl ?_
      refine ev_iconst (pc' := 16) (v := 1) dX7_comesOut_15 rfl (by decide) ?_
      refine ev_isub (pc' := 17) dX7_comesOut_16 rfl ?_
      refine ev_iald (pc' := 18) dX7_comesOut_17 rfl rfl ?_ ?_
      · rw [e1]; exact hv
      rw [e1, e2]
      refine ev_bipush (pc' := 20) (v := 6) dX7_comesOut_18 rfl (by decide) ?_
      refine ev_icmp_eq (tgt := 92) (pc' := 23) dX7_comesOut_20 (by decide) rfl (fun h_20 => ?_) (fun h_20 => ?_)
      · rw [if_neg (fun z => z.1 h_20)]
        refine ev_return rfl dX7_comesOut_92 ?_
        exact ⟨rfl, rfl⟩
      · refine ev_iload_n (pc' := 24) dX7_comesOut_23 rfl rfl ?_
        refine ev_if_eq (tgt := 43) (pc' := 27) dX7_comesOut_24 (by decide) rfl (fun h_24 => ?_) (fun h_24 => ?_)
        · rw [bI_0] at h_24
          rw [if_pos ⟨h_20, Or.inl h_24⟩]
          refine ev_aload_n (pc' := 44) dX7_comesOut_43 rfl rfl ?_
          refine ev_dup (pc' := 45) dX7_comesOut_44 rfl rfl ?_
          refine ev_getf (pc' := 48) fl_7_252 dX7_comesOut_45 rfl rfl rfl ?_
          refine ev_iconst (pc' := 49) (v := 1) dX7_comesOut_48 rfl (by decide) ?_
          refine ev_isub (pc' := 50) dX7_comesOut_49 rfl ?_
          refine ev_putf (pc' := 53) fs_7_252 dX7_comesOut_50 rfl rfl (Nat.le_of_ble_eq_true rfl) (fun _ => rfl) (fun _ => rfl) (WM_p7_36 _ _ _) ?_
          refine ev_aload_n (pc' := 54) dX7_comesOut_53 rfl rfl ?_
          refine ev_getf (pc' := 57) fl_7_83 dX7_comesOut_54 rfl rfl rfl ?_
          refine ev_aload_n (pc' := 58) dX7_comesOut_57 rfl rfl ?_
          refine ev_getf (pc' := 61) fl_7_252 dX7_comesOut_58 rfl rfl rfl ?_
          refine ev_iald (pc' := 62) dX7_comesOut_61 rfl rfl ?_ ?_
          · rw [e1]; exact hv
          rw [e1]
          show Ev _ _ _ _ _ [.int (σ 22 (nI h).toNatClampNeg)] _
          rw [e2]
          refine ev_istore_n (pc' := 63) (ls' := [_, _, _]) dX7_comesOut_62 rfl rfl rfl ?_
          refine ev_aload_n (pc' := 64) dX7_comesOut_63 rfl rfl ?_
          refine ev_iload_n (pc' := 65) dX7_comesOut_64 rfl rfl ?_
          refine ev_bipush (pc' := 67) (v := 8) dX7_comesOut_65 rfl (by decide) ?_
          refine ev_icmp_ne (tgt := 74) (pc' := 70) dX7_comesOut_67 (by decide) rfl (fun h_67 => ?_) (fun h_67 => ?_)
          · have e7 : e_op (σ 22 h) = _ := if_neg h_67
            refine ev_iload_n (pc' := 75) dX7_comesOut_74 rfl rfl ?_
            refine ev_bipush (pc' := 77) (v := 9) dX7_comesOut_75 rfl (by decide) ?_
            refine ev_icmp_ne (tgt := 84) (pc' := 80) dX7_comesOut_77 (by decide) rfl (fun h_77 => ?_) (fun h_77 => ?_)
            · rw [if_neg h_77] at e7
              refine ev_iconst (pc' := 85) (v := 4) dX7_comesOut_84 rfl (by decide) ?_
              refine ev_iconst (pc' := 86) (v := 0) dX7_comesOut_85 rfl (by decide) ?_
              refine ev_cVv2 (pc' := 89) cl_7_255 (m_emit (s2 σ 0 36 (nI h)) τ j (by omega) h32 _ _) dX7_comesOut_86 rfl rfl rfl rfl ?_
              refine ev_goto (tgt := 0) dX7_comesOut_89 (by decide) ?_
              rw [e7]
              exact ih (j + 1) _ _ (by omega) (by omega) rfl rfl
            · rw [if_pos h_77] at e7
              refine ev_iconst (pc' := 81) (v := 3) dX7_comesOut_80 rfl (by decide) ?_
              refine ev_goto (tgt := 85) dX7_comesOut_81 (by decide) ?_
              refine ev_iconst (pc' := 86) (v := 0) dX7_comesOut_85 rfl (by decide) ?_
              refine ev_cVv2 (pc' := 89) cl_7_255 (m_emit (s2 σ 0 36 (nI h)) τ j (by omega) h32 _ _) dX7_comesOut_86 rfl rfl rfl rfl ?_
              refine ev_goto (tgt := 0) dX7_comesOut_89 (by decide) ?_
              rw [e7]
              exact ih (j + 1) _ _ (by omega) (by omega) rfl rfl
          · have e7 : e_op (σ 22 h) = 2 := if_pos h_67
            refine ev_iconst (pc' := 71) (v := 2) dX7_comesOut_70 rfl (by decide) ?_
            refine ev_goto (tgt := 85) dX7_comesOut_71 (by decide) ?_
            refine ev_iconst (pc' := 86) (v := 0) dX7_comesOut_85 rfl (by decide) ?_
            refine ev_cVv2 (pc' := 89) cl_7_255 (m_emit (s2 σ 0 36 (nI h)) τ j (by omega) h32 _ _) dX7_comesOut_86 rfl rfl rfl rfl ?_
            refine ev_goto (tgt := 0) dX7_comesOut_89 (by decide) ?_
            rw [e7]
            exact ih (j + 1) _ _ (by omega) (by omega) rfl rfl
        · rw [bI_0, Bool.not_eq_false] at h_24
          refine ev_aload_n (pc' := 28) dX7_comesOut_27 rfl rfl ?_
          refine ev_getf (pc' := 31) fl_7_83 dX7_comesOut_28 rfl rfl rfl ?_
          refine ev_aload_n (pc' := 32) dX7_comesOut_31 rfl rfl ?_
          refine ev_getf (pc' := 35) fl_7_252 dX7_comesOut_32 rfl rfl rfl ?_
          refine ev_iconst (pc' := 36) (v := 1) dX7_comesOut_35 rfl (by decide) ?_
          refine ev_isub (pc' := 37) dX7_comesOut_36 rfl ?_
          refine ev_iald (pc' := 38) dX7_comesOut_37 rfl rfl ?_ ?_
          · rw [e1]; exact hv
          rw [e1, e2]
          refine ev_bipush (pc' := 40) (v := 10) dX7_comesOut_38 rfl (by decide) ?_
          refine ev_icmp_ne (tgt := 92) (pc' := 43) dX7_comesOut_40 (by decide) rfl (fun h_40 => ?_) (fun h_40 => ?_)
          · rw [if_neg (fun z => z.2.elim (fun q => by rw [h_24] at q; exact absurd q (by decide)) h_40)]
            refine ev_return rfl dX7_comesOut_92 ?_
            exact ⟨rfl, rfl⟩
          · rw [if_pos ⟨h_20, Or.inr h_40⟩]
            refine ev_aload_n (pc' := 44) dX7_comesOut_43 rfl rfl ?_
            refine ev_dup (pc' := 45) dX7_comesOut_44 rfl rfl ?_
            refine ev_getf (pc' := 48) fl_7_252 dX7_comesOut_45 rfl rfl rfl ?_
            refine ev_iconst (pc' := 49) (v := 1) dX7_comesOut_48 rfl (by decide) ?_
            refine ev_isub (pc' := 50) dX7_comesOut_49 rfl ?_
            refine ev_putf (pc' := 53) fs_7_252 dX7_comesOut_50 rfl rfl (Nat.le_of_ble_eq_true rfl) (fun _ => rfl) (fun _ => rfl) (WM_p7_36 _ _ _) ?_
            refine ev_aload_n (pc' := 54) dX7_comesOut_53 rfl rfl ?_
            refine ev_getf (pc' := 57) fl_7_83 dX7_comesOut_54 rfl rfl rfl ?_
            refine ev_aload_n (pc' := 58) dX7_comesOut_57 rfl rfl ?_
            refine ev_getf (pc' := 61) fl_7_252 dX7_comesOut_58 rfl rfl rfl ?_
            refine ev_iald (pc' := 62) dX7_comesOut_61 rfl rfl ?_ ?_
            · rw [e1]; exact hv
            rw [e1]
            show Ev _ _ _ _ _ [.int (σ 22 (nI h).toNatClampNeg)] _
            rw [e2]
            refine ev_istore_n (pc' := 63) (ls' := [_, _, _]) dX7_comesOut_62 rfl rfl rfl ?_
            refine ev_aload_n (pc' := 64) dX7_comesOut_63 rfl rfl ?_
            refine ev_iload_n (pc' := 65) dX7_comesOut_64 rfl rfl ?_
            refine ev_bipush (pc' := 67) (v := 8) dX7_comesOut_65 rfl (by decide) ?_
            refine ev_icmp_ne (tgt := 74) (pc' := 70) dX7_comesOut_67 (by decide) rfl (fun h_67 => ?_) (fun h_67 => ?_)
            · have e7 : e_op (σ 22 h) = _ := if_neg h_67
              refine ev_iload_n (pc' := 75) dX7_comesOut_74 rfl rfl ?_
              refine ev_bipush (pc' := 77) (v := 9) dX7_comesOut_75 rfl (by decide) ?_
              refine ev_icmp_ne (tgt := 84) (pc' := 80) dX7_comesOut_77 (by decide) rfl (fun h_77 => ?_) (fun h_77 => ?_)
              · rw [if_neg h_77] at e7
                refine ev_iconst (pc' := 85) (v := 4) dX7_comesOut_84 rfl (by decide) ?_
                refine ev_iconst (pc' := 86) (v := 0) dX7_comesOut_85 rfl (by decide) ?_
                refine ev_cVv2 (pc' := 89) cl_7_255 (m_emit (s2 σ 0 36 (nI h)) τ j (by omega) h32 _ _) dX7_comesOut_86 rfl rfl rfl rfl ?_
                refine ev_goto (tgt := 0) dX7_comesOut_89 (by decide) ?_
                rw [e7]
                exact ih (j + 1) _ _ (by omega) (by omega) rfl rfl
              · rw [if_pos h_77] at e7
                refine ev_iconst (pc' := 81) (v := 3) dX7_comesOut_80 rfl (by decide) ?_
                refine ev_goto (tgt := 85) dX7_comesOut_81 (by decide) ?_
                refine ev_iconst (pc' := 86) (v := 0) dX7_comesOut_85 rfl (by decide) ?_
                refine ev_cVv2 (pc' := 89) cl_7_255 (m_emit (s2 σ 0 36 (nI h)) τ j (by omega) h32 _ _) dX7_comesOut_86 rfl rfl rfl rfl ?_
                refine ev_goto (tgt := 0) dX7_comesOut_89 (by decide) ?_
                rw [e7]
                exact ih (j + 1) _ _ (by omega) (by omega) rfl rfl
            · have e7 : e_op (σ 22 h) = 2 := if_pos h_67
              refine ev_iconst (pc' := 71) (v := 2) dX7_comesOut_70 rfl (by decide) ?_
              refine ev_goto (tgt := 85) dX7_comesOut_71 (by decide) ?_
              refine ev_iconst (pc' := 86) (v := 0) dX7_comesOut_85 rfl (by decide) ?_
              refine ev_cVv2 (pc' := 89) cl_7_255 (m_emit (s2 σ 0 36 (nI h)) τ j (by omega) h32 _ _) dX7_comesOut_86 rfl rfl rfl rfl ?_
              refine ev_goto (tgt := 0) dX7_comesOut_89 (by decide) ?_
              rw [e7]
              exact ih (j + 1) _ _ (by omega) (by omega) rfl rfl
theorem m_comesOut {d : Nat} (σ : RS) (τ : TS) (times : Bool) (h j : Nat) (hh : h ≤ 48) (hj : j + h ≤ 1000) (h36 : σ 0 36 = nI h) (h32 : σ 0 32 = nI j) : Ok (d + 1) M7_comesOut [.ref 0, .int (bI times)] (WM σ τ) (rt none (WM (e_out times h j σ) τ)) := by
  refine Ok.of (ls := [some _, some _, none]) (by decide +kernel) (Nat.le_of_ble_eq_true rfl) rfl ?_
  exact e_out_loop τ times h j σ _ hh hj h36 h32
