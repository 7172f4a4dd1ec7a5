/-! The model, eighth part: signs of the text. -/
def sg_two (c e : Int32) : Int32 := if e = 61 then (if c = 61 then 11 else if c = 33 then 12 else if c = 60 then 14 else 0) else 0
def sg_one (c : Int32) : Int32 := if c = 59 then 4 else if c = 40 then 6 else if c = 41 then 7 else if c = 43 then 8 else if c = 45 then 9 else if c = 42 then 10 else if c = 60 then 13 else 3
def sg_kind (c e : Int32) : Int32 := if 0 < sg_two c e then sg_two c e else sg_one c
def m_tok (σ : RS) (j : Nat) (k p v : Int32) : RS := s2 (s1 (s1 (s1 σ 3 (upd (σ 3) j k)) 4 (upd (σ 4) j p)) 5 (upd (σ 5) j v)) 0 10 (nI (j + 1))
theorem m_sign {d : Nat} (σ : RS) (τ : TS) (j : Nat) (hj : j < 403) (h10 : σ 0 10 = nI j) (p c e : Int32) : Ok (d + 1) M7_sign [.ref 0, .int p, .int c, .int e] (WM σ τ) (rt (some (.int (if 0 < sg_two c e then 2 else 1))) (WM (m_tok σ j (sg_kind c e) p 0) (l1 τ 6 (vp_updL (τ 6) j 0)))) := by
  obtain ⟨T, hT⟩ : ∃ T, T = sg_two c e := ⟨_, rfl⟩
  unfold sg_kind
  rw [← hT]
  unfold sg_two at hT
  obtain ⟨U, hU⟩ : ∃ U, U = sg_one c := ⟨_, rfl⟩
  rw [← hU]
  unfold sg_one at hU
  refine Ok.of (ls := [some _, some _, some _, some _, none, none]) (by decide +kernel) (Nat.le_of_ble_eq_true rfl) rfl ?_
  refine ev_iload_n (pc' := 1) dX7_sign_0 rfl rfl ?_
  refine ev_bipush (pc' := 3) (v := 61) dX7_sign_1 rfl (by decide) ?_
  refine ev_icmp_eq (tgt := 10) (pc' := 6) dX7_sign_3 (by decide) rfl (fun h_3 => ?_) (fun h_3 => ?_)
  · rw [if_pos h_3] at hT
    refine ev_iload_n (pc' := 11) dX7_sign_10 rfl rfl ?_
    refine ev_bipush (pc' := 13) (v := 61) dX7_sign_11 rfl (by decide) ?_
    refine ev_icmp_ne (tgt := 21) (pc' := 16) dX7_sign_13 (by decide) rfl (fun h_13 => ?_) (fun h_13 => ?_)
    · rw [if_neg h_13] at hT
      refine ev_iload_n (pc' := 22) dX7_sign_21 rfl rfl ?_
      refine ev_bipush (pc' := 24) (v := 33) dX7_sign_22 rfl (by decide) ?_
      refine ev_icmp_ne (tgt := 32) (pc' := 27) dX7_sign_24 (by decide) rfl (fun h_24 => ?_) (fun h_24 => ?_)
      · rw [if_neg h_24] at hT
        refine ev_iload_n (pc' := 33) dX7_sign_32 rfl rfl ?_
        refine ev_bipush (pc' := 35) (v := 60) dX7_sign_33 rfl (by decide) ?_
        refine ev_icmp_ne (tgt := 43) (pc' := 38) dX7_sign_35 (by decide) rfl (fun h_35 => ?_) (fun h_35 => ?_)
        · rw [if_neg h_35] at hT
          refine ev_iconst (pc' := 44) (v := 0) dX7_sign_43 rfl (by decide) ?_
          refine ev_istore (pc' := 46) (ls' := [_, _, _, _, _, _]) dX7_sign_44 rfl rfl rfl ?_
          refine ev_iconst (pc' := 47) (v := 3) dX7_sign_46 rfl (by decide) ?_
          refine ev_istore (pc' := 49) (ls' := [_, _, _, _, _, _]) dX7_sign_47 rfl rfl rfl ?_
          refine ev_iload (pc' := 51) dX7_sign_49 rfl rfl ?_
          refine ev_if_le (tgt := 61) (pc' := 54) dX7_sign_51 (by decide) rfl (fun h_51 => ?_) (fun h_51 => ?_)
          · refine ev_iload_n (pc' := 62) dX7_sign_61 rfl rfl ?_
            refine ev_bipush (pc' := 64) (v := 59) dX7_sign_62 rfl (by decide) ?_
            refine ev_icmp_ne (tgt := 73) (pc' := 67) dX7_sign_64 (by decide) rfl (fun h_64 => ?_) (fun h_64 => ?_)
            · rw [if_neg h_64] at hU
              refine ev_iload_n (pc' := 74) dX7_sign_73 rfl rfl ?_
              refine ev_bipush (pc' := 76) (v := 40) dX7_sign_74 rfl (by decide) ?_
              refine ev_icmp_ne (tgt := 86) (pc' := 79) dX7_sign_76 (by decide) rfl (fun h_76 => ?_) (fun h_76 => ?_)
              · rw [if_neg h_76] at hU
                refine ev_iload_n (pc' := 87) dX7_sign_86 rfl rfl ?_
                refine ev_bipush (pc' := 89) (v := 41) dX7_sign_87 rfl (by decide) ?_
                refine ev_icmp_ne (tgt := 99) (pc' := 92) dX7_sign_89 (by decide) rfl (fun h_89 => ?_) (fun h_89 => ?_)
                · rw [if_neg h_89] at hU
                  refine ev_iload_n (pc' := 100) dX7_sign_99 rfl rfl ?_
                  refine ev_bipush (pc' := 102) (v := 43) dX7_sign_100 rfl (by decide) ?_
                  refine ev_icmp_ne (tgt := 112) (pc' := 105) dX7_sign_102 (by decide) rfl (fun h_102 => ?_) (fun h_102 => ?_)
                  · rw [if_neg h_102] at hU
                    refine ev_iload_n (pc' := 113) dX7_sign_112 rfl rfl ?_
                    refine ev_bipush (pc' := 115) (v := 45) dX7_sign_113 rfl (by decide) ?_
                    refine ev_icmp_ne (tgt := 125) (pc' := 118) dX7_sign_115 (by decide) rfl (fun h_115 => ?_) (fun h_115 => ?_)
                    · rw [if_neg h_115] at hU
                      refine ev_iload_n (pc' := 126) dX7_sign_125 rfl rfl ?_
                      refine ev_bipush (pc' := 128) (v := 42) dX7_sign_126 rfl (by decide) ?_
                      refine ev_icmp_ne (tgt := 138) (pc' := 131) dX7_sign_128 (by decide) rfl (fun h_128 => ?_) (fun h_128 => ?_)
                      · rw [if_neg h_128] at hU
                        refine ev_iload_n (pc' := 139) dX7_sign_138 rfl rfl ?_
                        refine ev_bipush (pc' := 141) (v := 60) dX7_sign_139 rfl (by decide) ?_
                        refine ev_icmp_ne (tgt := 148) (pc' := 144) dX7_sign_141 (by decide) rfl (fun h_141 => ?_) (fun h_141 => ?_)
                        · rw [if_neg h_141] at hU
                          refine ev_aload_n (pc' := 149) dX7_sign_148 rfl rfl ?_
                          refine ev_iload (pc' := 151) dX7_sign_149 rfl rfl ?_
                          refine ev_iload_n (pc' := 152) dX7_sign_151 rfl rfl ?_
                          refine ev_iconst (pc' := 153) (v := 0) dX7_sign_152 rfl (by decide) ?_
                          refine ev_lconst (pc' := 154) (v := 0) dX7_sign_153 rfl rfl ?_
                          refine ev_cVv4 (pc' := 157) cl_7_185 (m_token σ τ j hj h10 _ _ _ _) dX7_sign_154 rfl rfl rfl rfl ?_
                          refine ev_iload (pc' := 159) dX7_sign_157 rfl rfl ?_
                          refine ev_if_le (tgt := 166) (pc' := 162) dX7_sign_159 (by decide) rfl (fun h_159 => ?_) (fun h_159 => ?_)
                          · refine ev_iconst (pc' := 167) (v := 1) dX7_sign_166 rfl (by decide) ?_
                            refine ev_ireturn rfl dX7_sign_167 ?_
                            rw [hT]
                            first | exact ⟨rfl, rfl⟩ | (rw [hU]; exact ⟨rfl, rfl⟩)
                          · first | exact absurd h_159 (by decide) | exact absurd (by decide) h_159 --
                        · rw [if_pos h_141] at hU
                          refine ev_bipush (pc' := 146) (v := 13) dX7_sign_144 rfl (by decide) ?_
                          refine ev_istore (pc' := 148) (ls' := [_, _, _, _, _, _]) dX7_sign_146 rfl rfl rfl ?_
                          refine ev_aload_n (pc' := 149) dX7_sign_148 rfl rfl ?_
                          refine ev_iload (pc' := 151) dX7_sign_149 rfl rfl ?_
                          refine ev_iload_n (pc' := 152) dX7_sign_151 rfl rfl ?_
                          refine ev_iconst (pc' := 153) (v := 0) dX7_sign_152 rfl (by decide) ?_
                          refine ev_lconst (pc' := 154) (v := 0) dX7_sign_153 rfl rfl ?_
                          refine ev_cVv4 (pc' := 157) cl_7_185 (m_token σ τ j hj h10 _ _ _ _) dX7_sign_154 rfl rfl rfl rfl ?_
                          refine ev_iload (pc' := 159) dX7_sign_157 rfl rfl ?_
                          refine ev_if_le (tgt := 166) (pc' := 162) dX7_sign_159 (by decide) rfl (fun h_159 => ?_) (fun h_159 => ?_)
                          · refine ev_iconst (pc' := 167) (v := 1) dX7_sign_166 rfl (by decide) ?_
                            refine ev_ireturn rfl dX7_sign_167 ?_
                            rw [hT]
                            first | exact ⟨rfl, rfl⟩ | (rw [hU]; exact ⟨rfl, rfl⟩)
                          · first | exact absurd h_159 (by decide) | exact absurd (by decide) h_159 --
                      · rw [if_pos h_128] at hU
                        refine ev_bipush (pc' := 133) (v := 10) dX7_sign_131 rfl (by decide) ?_
                        refine ev_istore (pc' := 135) (ls' := [_, _, _, _, _, _]) dX7_sign_133 rfl rfl rfl ?_
                        refine ev_goto (tgt := 148) dX7_sign_135 (by decide) ?_
                        refine ev_aload_n (pc' := 149) dX7_sign_148 rfl rfl ?_
                        refine ev_iload (pc' := 151) dX7_sign_149 rfl rfl ?_
                        refine ev_iload_n (pc' := 152) dX7_sign_151 rfl rfl ?_
                        refine ev_iconst (pc' := 153) (v := 0) dX7_sign_152 rfl (by decide) ?_
                        refine ev_lconst (pc' := 154) (v := 0) dX7_sign_153 rfl rfl ?_
                        refine ev_cVv4 (pc' := 157) cl_7_185 (m_token σ τ j hj h10 _ _ _ _) dX7_sign_154 rfl rfl rfl rfl ?_
                        refine ev_iload (pc' := 159) dX7_sign_157 rfl rfl ?_
                        refine ev_if_le (tgt := 166) (pc' := 162) dX7_sign_159 (by decide) rfl (fun h_159 => ?_) (fun h_159 => ?_)
                        · refine ev_iconst (pc' := 167) (v := 1) dX7_sign_166 rfl (by decide) ?_
                          refine ev_ireturn rfl dX7_sign_167 ?_
                          rw [hT]
                          first | exact ⟨rfl, rfl⟩ | (rw [hU]; exact ⟨rfl, rfl⟩)
                        · first | exact absurd h_159 (by decide) | exact absurd (by decide) h_159 --
                    · rw [if_pos h_115] at hU
                      refine ev_bipush (pc' := 120) (v := 9) dX7_sign_118 rfl (by decide) ?_
                      refine ev_istore (pc' := 122) (ls' := [_, _, _, _, _, _]) dX7_sign_120 rfl rfl rfl ?_
                      refine ev_goto (tgt := 148) dX7_sign_122 (by decide) ?_
                      refine ev_aload_n (pc' := 149) dX7_sign_148 rfl rfl ?_
                      refine ev_iload (pc' := 151) dX7_sign_149 rfl rfl ?_
                      refine ev_iload_n (pc' := 152) dX7_sign_151 rfl rfl ?_
                      refine ev_iconst (pc' := 153) (v := 0) dX7_sign_152 rfl (by decide) ?_
                      refine ev_lconst (pc' := 154) (v := 0) dX7_sign_153 rfl rfl ?_
                      refine ev_cVv4 (pc' := 157) cl_7_185 (m_token σ τ j hj h10 _ _ _ _) dX7_sign_154 rfl rfl rfl rfl ?_
                      refine ev_iload (pc' := 159) dX7_sign_157 rfl rfl ?_
                      refine ev_if_le (tgt := 166) (pc' := 162) dX7_sign_159 (by decide) rfl (fun h_159 => ?_) (fun h_159 => ?_)
                      · refine ev_iconst (pc' := 167) (v := 1) dX7_sign_166 rfl (by decide) ?_
                        refine ev_ireturn rfl dX7_sign_167 ?_
                        rw [hT]
                        first | exact ⟨rfl, rfl⟩ | (rw [hU]; exact ⟨rfl, rfl⟩)
                      · first | exact absurd h_159 (by decide) | exact absurd (by decide) h_159 --
                  · rw [if_pos h_102] at hU
                    refine ev_bipush (pc' := 107) (v := 8) dX7_sign_105 rfl (by decide) ?_
                    refine ev_istore (pc' := 109) (ls' := [_, _, _, _, _, _]) dX7_sign_107 rfl rfl rfl ?_
                    refine ev_goto (tgt := 148) dX7_sign_109 (by decide) ?_
                    refine ev_aload_n (pc' := 149) dX7_sign_148 rfl rfl ?_
                    refine ev_iload (pc' := 151) dX7_sign_149 rfl rfl ?_
                    refine ev_iload_n (pc' := 152) dX7_sign_151 rfl rfl ?_
                    refine ev_iconst (pc' := 153) (v := 0) dX7_sign_152 rfl (by decide) ?_
                    refine ev_lconst (pc' := 154) (v := 0) dX7_sign_153 rfl rfl ?_
                    refine ev_cVv4 (pc' := 157) cl_7_185 (m_token σ τ j hj h10 _ _ _ _) dX7_sign_154 rfl rfl rfl rfl ?_
                    refine ev_iload (pc' := 159) dX7_sign_157 rfl rfl ?_
                    refine ev_if_le (tgt := 166) (pc' := 162) dX7_sign_159 (by decide) rfl (fun h_159 => ?_) (fun h_159 => ?_)
                    · refine ev_iconst (pc' := 167) (v := 1) dX7_sign_166 rfl (by decide) ?_
                      refine ev_ireturn rfl dX7_sign_167 ?_
                      rw [hT]
                      first | exact ⟨rfl, rfl⟩ | (rw [hU]; exact ⟨rfl, rfl⟩)
                    · first | exact absurd h_159 (by decide) | exact absurd (by decide) h_159 --
                · rw [if_pos h_89] at hU
                  refine ev_bipush (pc' := 94) (v := 7) dX7_sign_92 rfl (by decide) ?_
                  refine ev_istore (pc' := 96) (ls' := [_, _, _, _, _, _]) dX7_sign_94 rfl rfl rfl ?_
                  refine ev_goto (tgt := 148) dX7_sign_96 (by decide) ?_
                  refine ev_aload_n (pc' := 149) dX7_sign_148 rfl rfl ?_
                  refine ev_iload (pc' := 151) dX7_sign_149 rfl rfl ?_
                  refine ev_iload_n (pc' := 152) dX7_sign_151 rfl rfl ?_
                  refine ev_iconst (pc' := 153) (v := 0) dX7_sign_152 rfl (by decide) ?_
                  refine ev_lconst (pc' := 154) (v := 0) dX7_sign_153 rfl rfl ?_
                  refine ev_cVv4 (pc' := 157) cl_7_185 (m_token σ τ j hj h10 _ _ _ _) dX7_sign_154 rfl rfl rfl rfl ?_
                  refine ev_iload (pc' := 159) dX7_sign_157 rfl rfl ?_
                  refine ev_if_le (tgt := 166) (pc' := 162) dX7_sign_159 (by decide) rfl (fun h_159 => ?_) (fun h_159 => ?_)
                  · refine ev_iconst (pc' := 167) (v := 1) dX7_sign_166 rfl (by decide) ?_
                    refine ev_ireturn rfl dX7_sign_167 ?_
                    rw [hT]
                    first | exact ⟨rfl, rfl⟩ | (rw [hU]; exact ⟨rfl, rfl⟩)
                  · first | exact absurd h_159 (by decide) | exact absurd (by decide) h_159 --
              · rw [if_pos h_76] at hU
                refine ev_bipush (pc' := 81) (v := 6) dX7_sign_79 rfl (by decide) ?_
                refine ev_istore (pc' := 83) (ls' := [_, _, _, _, _, _]) dX7_sign_81 rfl rfl rfl ?_
                refine ev_goto (tgt := 148) dX7_sign_83 (by decide) ?_
                refine ev_aload_n (pc' := 149) dX7_sign_148 rfl rfl ?_
                refine ev_iload (pc' := 151) dX7_sign_149 rfl rfl ?_
                refine ev_iload_n (pc' := 152) dX7_sign_151 rfl rfl ?_
                refine ev_iconst (pc' := 153) (v := 0) dX7_sign_152 rfl (by decide) ?_
                refine ev_lconst (pc' := 154) (v := 0) dX7_sign_153 rfl rfl ?_
                refine ev_cVv4 (pc' := 157) cl_7_185 (m_token σ τ j hj h10 _ _ _ _) dX7_sign_154 rfl rfl rfl rfl ?_
                refine ev_iload (pc' := 159) dX7_sign_157 rfl rfl ?_
                refine ev_if_le (tgt := 166) (pc' := 162) dX7_sign_159 (by decide) rfl (fun h_159 => ?_) (fun h_159 => ?_)
                · refine ev_iconst (pc' := 167) (v := 1) dX7_sign_166 rfl (by decide) ?_
                  refine ev_ireturn rfl dX7_sign_167 ?_
                  rw [hT]
                  first | exact ⟨rfl, rfl⟩ | (rw [hU]; exact ⟨rfl, rfl⟩)
                · first | exact absurd h_159 (by decide) | exact absurd (by decide) h_159 --
            · rw [if_pos h_64] at hU
              refine ev_iconst (pc' := 68) (v := 4) dX7_sign_67 rfl (by decide) ?_
              refine ev_istore (pc' := 70) (ls' := [_, _, _, _, _, _]) dX7_sign_68 rfl rfl rfl ?_
              refine ev_goto (tgt := 148) dX7_sign_70 (by decide) ?_
              refine ev_aload_n (pc' := 149) dX7_sign_148 rfl rfl ?_
              refine ev_iload (pc' := 151) dX7_sign_149 rfl rfl ?_
              refine ev_iload_n (pc' := 152) dX7_sign_151 rfl rfl ?_
              refine ev_iconst (pc' := 153) (v := 0) dX7_sign_152 rfl (by decide) ?_
              refine ev_lconst (pc' := 154) (v := 0) dX7_sign_153 rfl rfl ?_
              refine ev_cVv4 (pc' := 157) cl_7_185 (m_token σ τ j hj h10 _ _ _ _) dX7_sign_154 rfl rfl rfl rfl ?_
              refine ev_iload (pc' := 159) dX7_sign_157 rfl rfl ?_
              refine ev_if_le (tgt := 166) (pc' := 162) dX7_sign_159 (by decide) rfl (fun h_159 => ?_) (fun h_159 => ?_)
              · refine ev_iconst (pc' := 167) (v := 1) dX7_sign_166 rfl (by decide) ?_
                refine ev_ireturn rfl dX7_sign_167 ?_
                rw [hT]
                first | exact ⟨rfl, rfl⟩ | (rw [hU]; exact ⟨rfl, rfl⟩)
              · first | exact absurd h_159 (by decide) | exact absurd (by decide) h_159 --
          · first | exact absurd h_51 (by decide) | exact absurd (by decide) h_51 --
        · rw [if_pos h_35] at hT
          refine ev_bipush (pc' := 40) (v := 14) dX7_sign_38 rfl (by decide) ?_
          refine ev_goto (tgt := 44) dX7_sign_40 (by decide) ?_
          refine ev_istore (pc' := 46) (ls' := [_, _, _, _, _, _]) dX7_sign_44 rfl rfl rfl ?_
          refine ev_iconst (pc' := 47) (v := 3) dX7_sign_46 rfl (by decide) ?_
          refine ev_istore (pc' := 49) (ls' := [_, _, _, _, _, _]) dX7_sign_47 rfl rfl rfl ?_
          refine ev_iload (pc' := 51) dX7_sign_49 rfl rfl ?_
          refine ev_if_le (tgt := 61) (pc' := 54) dX7_sign_51 (by decide) rfl (fun h_51 => ?_) (fun h_51 => ?_)
          · first | exact absurd h_51 (by decide) | exact absurd (by decide) h_51 --
          · refine ev_iload (pc' := 56) dX7_sign_54 rfl rfl ?_
            refine ev_istore (pc' := 58) (ls' := [_, _, _, _, _, _]) dX7_sign_56 rfl rfl rfl ?_
            refine ev_goto (tgt := 148) dX7_sign_58 (by decide) ?_
            refine ev_aload_n (pc' := 149) dX7_sign_148 rfl rfl ?_
            refine ev_iload (pc' := 151) dX7_sign_149 rfl rfl ?_
            refine ev_iload_n (pc' := 152) dX7_sign_151 rfl rfl ?_
            refine ev_iconst (pc' := 153) (v := 0) dX7_sign_152 rfl (by decide) ?_
            refine ev_lconst (pc' := 154) (v := 0) dX7_sign_153 rfl rfl ?_
            refine ev_cVv4 (pc' := 157) cl_7_185 (m_token σ τ j hj h10 _ _ _ _) dX7_sign_154 rfl rfl rfl rfl ?_
            refine ev_iload (pc' := 159) dX7_sign_157 rfl rfl ?_
            refine ev_if_le (tgt := 166) (pc' := 162) dX7_sign_159 (by decide) rfl (fun h_159 => ?_) (fun h_159 => ?_)
            · first | exact absurd h_159 (by decide) | exact absurd (by decide) h_159 --
            · refine ev_iconst (pc' := 163) (v := 2) dX7_sign_162 rfl (by decide) ?_
              refine ev_goto (tgt := 167) dX7_sign_163 (by decide) ?_
              refine ev_ireturn rfl dX7_sign_167 ?_
              rw [hT]
              first | exact ⟨rfl, rfl⟩ | (rw [hU]; exact ⟨rfl, rfl⟩)
      · rw [if_pos h_24] at hT
        refine ev_bipush (pc' := 29) (v := 12) dX7_sign_27 rfl (by decide) ?_
        refine ev_goto (tgt := 44) dX7_sign_29 (by decide) ?_
        refine ev_istore (pc' := 46) (ls' := [_, _, _, _, _, _]) dX7_sign_44 rfl rfl rfl ?_
        refine ev_iconst (pc' := 47) (v := 3) dX7_sign_46 rfl (by decide) ?_
        refine ev_istore (pc' := 49) (ls' := [_, _, _, _, _, _]) dX7_sign_47 rfl rfl rfl ?_
        refine ev_iload (pc' := 51) dX7_sign_49 rfl rfl ?_
        refine ev_if_le (tgt := 61) (pc' := 54) dX7_sign_51 (by decide) rfl (fun h_51 => ?_) (fun h_51 => ?_)
        · first | exact absurd h_51 (by decide) | exact absurd (by decide) h_51 --
        · refine ev_iload (pc' := 56) dX7_sign_54 rfl rfl ?_
          refine ev_istore (pc' := 58) (ls' := [_, _, _, _, _, _]) dX7_sign_56 rfl rfl rfl ?_
          refine ev_goto (tgt := 148) dX7_sign_58 (by decide) ?_
          refine ev_aload_n (pc' := 149) dX7_sign_148 rfl rfl ?_
          refine ev_iload (pc' := 151) dX7_sign_149 rfl rfl ?_
          refine ev_iload_n (pc' := 152) dX7_sign_151 rfl rfl ?_
          refine ev_iconst (pc' := 153) (v := 0) dX7_sign_152 rfl (by decide) ?_
          refine ev_lconst (pc' := 154) (v := 0) dX7_sign_153 rfl rfl ?_
          refine ev_cVv4 (pc' := 157) cl_7_185 (m_token σ τ j hj h10 _ _ _ _) dX7_sign_154 rfl rfl rfl rfl ?_
          refine ev_iload (pc' := 159) dX7_sign_157 rfl rfl ?_
          refine ev_if_le (tgt := 166) (pc' := 162) dX7_sign_159 (by decide) rfl (fun h_159 => ?_) (fun h_159 => ?_)
          · first | exact absurd h_159 (by decide) | exact absurd (by decide) h_159 --
          · refine ev_iconst (pc' := 163) (v := 2) dX7_sign_162 rfl (by decide) ?_
            refine ev_goto (tgt := 167) dX7_sign_163 (by decide) ?_
            refine ev_ireturn rfl dX7_sign_167 ?_
            rw [hT]
            first | exact ⟨rfl, rfl⟩ | (rw [hU]; exact ⟨rfl, rfl⟩)
    · rw [if_pos h_13] at hT
      refine ev_bipush (pc' := 18) (v := 11) dX7_sign_16 rfl (by decide) ?_
      refine ev_goto (tgt := 44) dX7_sign_18 (by decide) ?_
      refine ev_istore (pc' := 46) (ls' := [_, _, _, _, _, _]) dX7_sign_44 rfl rfl rfl ?_
      refine ev_iconst (pc' := 47) (v := 3) dX7_sign_46 rfl (by decide) ?_
      refine ev_istore (pc' := 49) (ls' := [_, _, _, _, _, _]) dX7_sign_47 rfl rfl rfl ?_
      refine ev_iload (pc' := 51) dX7_sign_49 rfl rfl ?_
      refine ev_if_le (tgt := 61) (pc' := 54) dX7_sign_51 (by decide) rfl (fun h_51 => ?_) (fun h_51 => ?_)
      · first | exact absurd h_51 (by decide) | exact absurd (by decide) h_51 --
      · refine ev_iload (pc' := 56) dX7_sign_54 rfl rfl ?_
        refine ev_istore (pc' := 58) (ls' := [_, _, _, _, _, _]) dX7_sign_56 rfl rfl rfl ?_
        refine ev_goto (tgt := 148) dX7_sign_58 (by decide) ?_
        refine ev_aload_n (pc' := 149) dX7_sign_148 rfl rfl ?_
        refine ev_iload (pc' := 151) dX7_sign_149 rfl rfl ?_
        refine ev_iload_n (pc' := 152) dX7_sign_151 rfl rfl ?_
        refine ev_iconst (pc' := 153) (v := 0) dX7_sign_152 rfl (by decide) ?_
        refine ev_lconst (pc' := 154) (v := 0) dX7_sign_153 rfl rfl ?_
        refine ev_cVv4 (pc' := 157) cl_7_185 (m_token σ τ j hj h10 _ _ _ _) dX7_sign_154 rfl rfl rfl rfl ?_
        refine ev_iload (pc' := 159) dX7_sign_157 rfl rfl ?_
        refine ev_if_le (tgt := 166) (pc' := 162) dX7_sign_159 (by decide) rfl (fun h_159 => ?_) (fun h_159 => ?_)
        · first | exact absurd h_159 (by decide) | exact absurd (by decide) h_159 --
        · refine ev_iconst (pc' := 163) (v := 2) dX7_sign_162 rfl (by decide) ?_
          refine ev_goto (tgt := 167) dX7_sign_163 (by decide) ?_
          refine ev_ireturn rfl dX7_sign_167 ?_
          rw [hT]
          first | exact ⟨rfl, rfl⟩ | (rw [hU]; exact ⟨rfl, rfl⟩)
  · rw [if_neg h_3] at hT
    refine ev_iconst (pc' := 7) (v := 0) dX7_sign_6 rfl (by decide) ?_
    refine ev_goto (tgt := 44) dX7_sign_7 (by decide) ?_
    refine ev_istore (pc' := 46) (ls' := [_, _, _, _, _, _]) dX7_sign_44 rfl rfl rfl ?_
    refine ev_iconst (pc' := 47) (v := 3) dX7_sign_46 rfl (by decide) ?_
    refine ev_istore (pc' := 49) (ls' := [_, _, _, _, _, _]) dX7_sign_47 rfl rfl rfl ?_
    refine ev_iload (pc' := 51) dX7_sign_49 rfl rfl ?_
    refine ev_if_le (tgt := 61) (pc' := 54) dX7_sign_51 (by decide) rfl (fun h_51 => ?_) (fun h_51 => ?_)
    · refine ev_iload_n (pc' := 62) dX7_sign_61 rfl rfl ?_
      refine ev_bipush (pc' := 64) (v := 59) dX7_sign_62 rfl (by decide) ?_
      refine ev_icmp_ne (tgt := 73) (pc' := 67) dX7_sign_64 (by decide) rfl (fun h_64 => ?_) (fun h_64 => ?_)
      · rw [if_neg h_64] at hU
        refine ev_iload_n (pc' := 74) dX7_sign_73 rfl rfl ?_
        refine ev_bipush (pc' := 76) (v := 40) dX7_sign_74 rfl (by decide) ?_
        refine ev_icmp_ne (tgt := 86) (pc' := 79) dX7_sign_76 (by decide) rfl (fun h_76 => ?_) (fun h_76 => ?_)
        · rw [if_neg h_76] at hU
          refine ev_iload_n (pc' := 87) dX7_sign_86 rfl rfl ?_
          refine ev_bipush (pc' := 89) (v := 41) dX7_sign_87 rfl (by decide) ?_
          refine ev_icmp_ne (tgt := 99) (pc' := 92) dX7_sign_89 (by decide) rfl (fun h_89 => ?_) (fun h_89 => ?_)
          · rw [if_neg h_89] at hU
            refine ev_iload_n (pc' := 100) dX7_sign_99 rfl rfl ?_
            refine ev_bipush (pc' := 102) (v := 43) dX7_sign_100 rfl (by decide) ?_
            refine ev_icmp_ne (tgt := 112) (pc' := 105) dX7_sign_102 (by decide) rfl (fun h_102 => ?_) (fun h_102 => ?_)
            · rw [if_neg h_102] at hU
              refine ev_iload_n (pc' := 113) dX7_sign_112 rfl rfl ?_
              refine ev_bipush (pc' := 115) (v := 45) dX7_sign_113 rfl (by decide) ?_
              refine ev_icmp_ne (tgt := 125) (pc' := 118) dX7_sign_115 (by decide) rfl (fun h_115 => ?_) (fun h_115 => ?_)
              · rw [if_neg h_115] at hU
                refine ev_iload_n (pc' := 126) dX7_sign_125 rfl rfl ?_
                refine ev_bipush (pc' := 128) (v := 42) dX7_sign_126 rfl (by decide) ?_
                refine ev_icmp_ne (tgt := 138) (pc' := 131) dX7_sign_128 (by decide) rfl (fun h_128 => ?_) (fun h_128 => ?_)
                · rw [if_neg h_128] at hU
                  refine ev_iload_n (pc' := 139) dX7_sign_138 rfl rfl ?_
                  refine ev_bipush (pc' := 141) (v := 60) dX7_sign_139 rfl (by decide) ?_
                  refine ev_icmp_ne (tgt := 148) (pc' := 144) dX7_sign_141 (by decide) rfl (fun h_141 => ?_) (fun h_141 => ?_)
                  · rw [if_neg h_141] at hU
                    refine ev_aload_n (pc' := 149) dX7_sign_148 rfl rfl ?_
                    refine ev_iload (pc' := 151) dX7_sign_149 rfl rfl ?_
                    refine ev_iload_n (pc' := 152) dX7_sign_151 rfl rfl ?_
                    refine ev_iconst (pc' := 153) (v := 0) dX7_sign_152 rfl (by decide) ?_
                    refine ev_lconst (pc' := 154) (v := 0) dX7_sign_153 rfl rfl ?_
                    refine ev_cVv4 (pc' := 157) cl_7_185 (m_token σ τ j hj h10 _ _ _ _) dX7_sign_154 rfl rfl rfl rfl ?_
                    refine ev_iload (pc' := 159) dX7_sign_157 rfl rfl ?_
                    refine ev_if_le (tgt := 166) (pc' := 162) dX7_sign_159 (by decide) rfl (fun h_159 => ?_) (fun h_159 => ?_)
                    · refine ev_iconst (pc' := 167) (v := 1) dX7_sign_166 rfl (by decide) ?_
                      refine ev_ireturn rfl dX7_sign_167 ?_
                      rw [hT]
                      first | exact ⟨rfl, rfl⟩ | (rw [hU]; exact ⟨rfl, rfl⟩)
                    · first | exact absurd h_159 (by decide) | exact absurd (by decide) h_159 --
                  · rw [if_pos h_141] at hU
                    refine ev_bipush (pc' := 146) (v := 13) dX7_sign_144 rfl (by decide) ?_
                    refine ev_istore (pc' := 148) (ls' := [_, _, _, _, _, _]) dX7_sign_146 rfl rfl rfl ?_
                    refine ev_aload_n (pc' := 149) dX7_sign_148 rfl rfl ?_
                    refine ev_iload (pc' := 151) dX7_sign_149 rfl rfl ?_
                    refine ev_iload_n (pc' := 152) dX7_sign_151 rfl rfl ?_
                    refine ev_iconst (pc' := 153) (v := 0) dX7_sign_152 rfl (by decide) ?_
                    refine ev_lconst (pc' := 154) (v := 0) dX7_sign_153 rfl rfl ?_
                    refine ev_cVv4 (pc' := 157) cl_7_185 (m_token σ τ j hj h10 _ _ _ _) dX7_sign_154 rfl rfl rfl rfl ?_
                    refine ev_iload (pc' := 159) dX7_sign_157 rfl rfl ?_
                    refine ev_if_le (tgt := 166) (pc' := 162) dX7_sign_159 (by decide) rfl (fun h_159 => ?_) (fun h_159 => ?_)
                    · refine ev_iconst (pc' := 167) (v := 1) dX7_sign_166 rfl (by decide) ?_
                      refine ev_ireturn rfl dX7_sign_167 ?_
                      rw [hT]
                      first | exact ⟨rfl, rfl⟩ | (rw [hU]; exact ⟨rfl, rfl⟩)
                    · first | exact absurd h_159 (by decide) | exact absurd (by decide) h_159 --
                · rw [if_pos h_128] at hU
                  refine ev_bipush (pc' := 133) (v := 10) dX7_sign_131 rfl (by decide) ?_
                  refine ev_istore (pc' := 135) (ls' := [_, _, _, _, _, _]) dX7_sign_133 rfl rfl rfl ?_
                  refine ev_goto (tgt := 148) dX7_sign_135 (by decide) ?_
                  refine ev_aload_n (pc' := 149) dX7_sign_148 rfl rfl ?_
                  refine ev_iload (pc' := 151) dX7_sign_149 rfl rfl ?_
                  refine ev_iload_n (pc' := 152) dX7_sign_151 rfl rfl ?_
                  refine ev_iconst (pc' := 153) (v := 0) dX7_sign_152 rfl (by decide) ?_
                  refine ev_lconst (pc' := 154) (v := 0) dX7_sign_153 rfl rfl ?_
                  refine ev_cVv4 (pc' := 157) cl_7_185 (m_token σ τ j hj h10 _ _ _ _) dX7_sign_154 rfl rfl rfl rfl ?_
                  refine ev_iload (pc' := 159) dX7_sign_157 rfl rfl ?_
                  refine ev_if_le (tgt := 166) (pc' := 162) dX7_sign_159 (by decide) rfl (fun h_159 => ?_) (fun h_159 => ?_)
                  · refine ev_iconst (pc' := 167) (v := 1) dX7_sign_166 rfl (by decide) ?_
                    refine ev_ireturn rfl dX7_sign_167 ?_
                    rw [hT]
                    first | exact ⟨rfl, rfl⟩ | (rw [hU]; exact ⟨rfl, rfl⟩)
                  · first | exact absurd h_159 (by decide) | exact absurd (by decide) h_159 --
              · rw [if_pos h_115] at hU
                refine ev_bipush (pc' := 120) (v := 9) dX7_sign_118 rfl (by decide) ?_
                refine ev_istore (pc' := 122) (ls' := [_, _, _, _, _, _]) dX7_sign_120 rfl rfl rfl ?_
                refine ev_goto (tgt := 148) dX7_sign_122 (by decide) ?_
                refine ev_aload_n (pc' := 149) dX7_sign_148 rfl rfl ?_
                refine ev_iload (pc' := 151) dX7_sign_149 rfl rfl ?_
                refine ev_iload_n (pc' := 152) dX7_sign_151 rfl rfl ?_
                refine ev_iconst (pc' := 153) (v := 0) dX7_sign_152 rfl (by decide) ?_
                refine ev_lconst (pc' := 154) (v := 0) dX7_sign_153 rfl rfl ?_
                refine ev_cVv4 (pc' := 157) cl_7_185 (m_token σ τ j hj h10 _ _ _ _) dX7_sign_154 rfl rfl rfl rfl ?_
                refine ev_iload (pc' := 159) dX7_sign_157 rfl rfl ?_
                refine ev_if_le (tgt := 166) (pc' := 162) dX7_sign_159 (by decide) rfl (fun h_159 => ?_) (fun h_159 => ?_)
                · refine ev_iconst (pc' := 167) (v := 1) dX7_sign_166 rfl (by decide) ?_
                  refine ev_ireturn rfl dX7_sign_167 ?_
                  rw [hT]
                  first | exact ⟨rfl, rfl⟩ | (rw [hU]; exact ⟨rfl, rfl⟩)
                · first | exact absurd h_159 (by decide) | exact absurd (by decide) h_159 --
            · rw [if_pos h_102] at hU
              refine ev_bipush (pc' := 107) (v := 8) dX7_sign_105 rfl (by decide) ?_
              refine ev_istore (pc' := 109) (ls' := [_, _, _, _, _, _]) dX7_sign_107 rfl rfl rfl ?_
              refine ev_goto (tgt := 148) dX7_sign_109 (by decide) ?_
              refine ev_aload_n (pc' := 149) dX7_sign_148 rfl rfl ?_
              refine ev_iload (pc' := 151) dX7_sign_149 rfl rfl ?_
              refine ev_iload_n (pc' := 152) dX7_sign_151 rfl rfl ?_
              refine ev_iconst (pc' := 153) (v := 0) dX7_sign_152 rfl (by decide) ?_
              refine ev_lconst (pc' := 154) (v := 0) dX7_sign_153 rfl rfl ?_
              refine ev_cVv4 (pc' := 157) cl_7_185 (m_token σ τ j hj h10 _ _ _ _) dX7_sign_154 rfl rfl rfl rfl ?_
              refine ev_iload (pc' := 159) dX7_sign_157 rfl rfl ?_
              refine ev_if_le (tgt := 166) (pc' := 162) dX7_sign_159 (by decide) rfl (fun h_159 => ?_) (fun h_159 => ?_)
              · refine ev_iconst (pc' := 167) (v := 1) dX7_sign_166 rfl (by decide) ?_
                refine ev_ireturn rfl dX7_sign_167 ?_
                rw [hT]
                first | exact ⟨rfl, rfl⟩ | (rw [hU]; exact ⟨rfl, rfl⟩)
              · first | exact absurd h_159 (by decide) | exact absurd (by decide) h_159 --
          · rw [if_pos h_89] at hU
            refine ev_bipush (pc' := 94) (v := 7) dX7_sign_92 rfl (by decide) ?_
            refine ev_istore (pc' := 96) (ls' := [_, _, _, _, _, _]) dX7_sign_94 rfl rfl rfl ?_
            refine ev_goto (tgt := 148) dX7_sign_96 (by decide) ?_
            refine ev_aload_n (pc' := 149) dX7_sign_148 rfl rfl ?_
            refine ev_iload (pc' := 151) dX7_sign_149 rfl rfl ?_
            refine ev_iload_n (pc' := 152) dX7_sign_151 rfl rfl ?_
            refine ev_iconst (pc' := 153) (v := 0) dX7_sign_152 rfl (by decide) ?_
            refine ev_lconst (pc' := 154) (v := 0) dX7_sign_153 rfl rfl ?_
            refine ev_cVv4 (pc' := 157) cl_7_185 (m_token σ τ j hj h10 _ _ _ _) dX7_sign_154 rfl rfl rfl rfl ?_
            refine ev_iload (pc' := 159) dX7_sign_157 rfl rfl ?_
            refine ev_if_le (tgt := 166) (pc' := 162) dX7_sign_159 (by decide) rfl (fun h_159 => ?_) (fun h_159 => ?_)
            · refine ev_iconst (pc' := 167) (v := 1) dX7_sign_166 rfl (by decide) ?_
              refine ev_ireturn rfl dX7_sign_167 ?_
              rw [hT]
              first | exact ⟨rfl, rfl⟩ | (rw [hU]; exact ⟨rfl, rfl⟩)
            · first | exact absurd h_159 (by decide) | exact absurd (by decide) h_159 --
        · rw [if_pos h_76] at hU
          refine ev_bipush (pc' := 81) (v := 6) dX7_sign_79 rfl (by decide) ?_
          refine ev_istore (pc' := 83) (ls' := [_, _, _, _, _, _]) dX7_sign_81 rfl rfl rfl ?_
          refine ev_goto (tgt := 148) dX7_sign_83 (by decide) ?_
          refine ev_aload_n (pc' := 149) dX7_sign_148 rfl rfl ?_
          refine ev_iload (pc' := 151) dX7_sign_149 rfl rfl ?_
          refine ev_iload_n (pc' := 152) dX7_sign_151 rfl rfl ?_
          refine ev_iconst (pc' := 153) (v := 0) dX7_sign_152 rfl (by decide) ?_
          refine ev_lconst (pc' := 154) (v := 0) dX7_sign_153 rfl rfl ?_
          refine ev_cVv4 (pc' := 157) cl_7_185 (m_token σ τ j hj h10 _ _ _ _) dX7_sign_154 rfl rfl rfl rfl ?_
          refine ev_iload (pc' := 159) dX7_sign_157 rfl rfl ?_
          refine ev_if_le (tgt := 166) (pc' := 162) dX7_sign_159 (by decide) rfl (fun h_159 => ?_) (fun h_159 => ?_)
          · refine ev_iconst (pc' := 167) (v := 1) dX7_sign_166 rfl (by decide) ?_
            refine ev_ireturn rfl dX7_sign_167 ?_
            rw [hT]
            first | exact ⟨rfl, rfl⟩ | (rw [hU]; exact ⟨rfl, rfl⟩)
          · first | exact absurd h_159 (by decide) | exact absurd (by decide) h_159 --
      · rw [if_pos h_64] at hU
        refine ev_iconst (pc' := 68) (v := 4) dX7_sign_67 rfl (by decide) ?_
        refine ev_istore (pc' := 70) (ls' := [_, _, _, _, _, _]) dX7_sign_68 rfl rfl rfl ?_
        refine ev_goto (tgt := 148) dX7_sign_70 (by decide) ?_
        refine ev_aload_n (pc' := 149) dX7_sign_148 rfl rfl ?_
        refine ev_iload (pc' := 151) dX7_sign_149 rfl rfl ?_
        refine ev_iload_n (pc' := 152) dX7_sign_151 rfl rfl ?_
        refine ev_iconst (pc' := 153) (v := 0) dX7_sign_152 rfl (by decide) ?_
        refine ev_lconst (pc' := 154) (v := 0) dX7_sign_153 rfl rfl ?_
        refine ev_cVv4 (pc' := 157) cl_7_185 (m_token σ τ j hj h10 _ _ _ _) dX7_sign_154 rfl rfl rfl rfl ?_
        refine ev_iload (pc' := 159) dX7_sign_157 rfl rfl ?_
        refine ev_if_le (tgt := 166) (pc' := 162) dX7_sign_159 (by decide) rfl (fun h_159 => ?_) (fun h_159 => ?_)
        · refine ev_iconst (pc' := 167) (v := 1) dX7_sign_166 rfl (by decide) ?_
          refine ev_ireturn rfl dX7_sign_167 ?_
          rw [hT]
          first | exact ⟨rfl, rfl⟩ | (rw [hU]; exact ⟨rfl, rfl⟩)
        · first | exact absurd h_159 (by decide) | exact absurd (by decide) h_159 --
    · first | exact absurd h_51 (by decide) | exact absurd (by decide) h_51 --
