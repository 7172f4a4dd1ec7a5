/-! What questions of a Known leave. -/
theorem cI_view {F : FF} {lv : Nat → Int32} {A : List YL} {P N r la kb : Nat} {σ : RS} (h : cI F lv A P N r la σ) (hk : kb_ok kb) {T : RS} (hT : ∀ i, i < 29 → i ≠ 8 → i ≠ 9 → (i < 18 ∨ 22 ≤ i) → T i = dk kb 10 σ i) : cI F lv A P N r la (du kb 10 T (σ 17) σ) ∧ dK la σ (du kb 10 T (σ 17) σ) ∧ (∀ n, kGood F lv A n (dk kb 10 σ) → kGood F lv A n (dk kb 10 (du kb 10 T (σ 17) σ))) := by
  obtain ⟨hl, ⟨hP, hN, hok⟩, h7, h8, hF, hlv, hA, hr, hr2, hk1, hk2⟩ := h
  have hkb : kb = 30 ∨ kb = 40 := hk
  have hla : la = 10 ∨ la = 18 := hl
  have i1 : ∀ i, i < 29 → du kb 10 T (σ 17) σ (pkk kb 10 i) = T i := fun i hi => du_in hk (Or.inl rfl) T _ σ hi
  have lo : ∀ i, i < 8 → du kb 10 T (σ 17) σ (kb + i) = σ (kb + i) := fun i hi => by
    rw [← pkk_lo kb 10 (by omega), i1 i (by omega), hT i (by omega) (by omega) (by omega) (by omega)]
    rfl
  have book : ∀ c, 2 ≤ c → c < 10 → du kb 10 T (σ 17) σ c = σ c := fun c c1 c2 => by
    have := i1 (c + 8) (by omega)
    rw [pkk_book kb 10 (by omega) (by omega), show c + 8 - 8 = c by omega] at this
    rw [this, hT (c + 8) (by omega) (by omega) (by omega) (by omega), dk_book _ _ _ (by omega) (by omega), show c + 8 - 8 = c by omega]
  have law : ∀ c, 10 ≤ c → c < 18 → du kb 10 T (σ 17) σ c = σ c := fun c c1 c2 => by
    by_cases e : c = 17
    · rw [e]; exact du_stack hk (Or.inl rfl) T _ σ
    · have := i1 (c + 12) (by omega)
      rw [pkk_law kb 10 (by omega), show 10 + (c + 12 - 22) = c by omega] at this
      rw [this, hT (c + 12) (by omega) (by omega) (by omega) (by omega), dk_law _ _ _ (by omega), show 10 + (c + 12 - 22) = c by omega]
  have out : ∀ c, c < 30 → du kb 10 T (σ 17) σ c = σ c := fun c c1 => by
    by_cases hb : 2 ≤ c ∧ c < 10
    · exact book c hb.1 hb.2
    · by_cases hb2 : 10 ≤ c ∧ c < 18
      · exact law c hb2.1 hb2.2
      · exact du_out kb 10 T _ σ (by omega) (by omega) (by omega) (by omega)
  have kis : ∀ kb', kb_ok kb' → kI F lv A N r σ kb' → kI F lv A N r (du kb 10 T (σ 17) σ) kb' := fun kb' hk' hi => by
    have hkb' : kb' = 30 ∨ kb' = 40 := hk'
    by_cases e : kb' = kb
    · subst e
      exact kI_same hi lo (book 9 (by omega) (by omega))
    · exact kI_same hi (fun c hc => du_out kb 10 T _ σ (by omega) (by omega) (by omega) (by omega)) (book 9 (by omega) (by omega))
  refine ⟨⟨hl, ⟨hP, hN, hok⟩, ?_, ?_, ?_, ?_, claw_dk hA (fun k hk7 => out _ (by omega)), by rw [out 0 (by omega)]; exact hr, hr2, kis 30 (Or.inl rfl) hk1, kis 40 (Or.inr rfl) hk2⟩, ⟨fun j _ => by rw [out 0 (by omega)], fun c c1 c2 c3 => out c c2⟩, fun n g => ?_⟩
  · rw [out 2 (by omega)]; exact h7
  · rw [out 2 (by omega)]; exact h8
  · refine cFacts_same hF (fun c c1 c2 => ?_)
    rw [dk_book _ _ _ (by omega) c2, dk_book _ _ _ (by omega) c2]
    exact out _ (by omega)
  · intro p hp
    rw [out 3 (by omega)]; exact hlv p hp
  · refine kGood_same g (fun c hc => ?_) ?_
    · rw [dk_lo _ _ _ (by omega), dk_lo _ _ _ (by omega)]; exact lo c hc
    · rw [dk_book _ _ _ (by omega) (by omega), dk_book _ _ _ (by omega) (by omega)]; exact out _ (by omega)
theorem PD_rings (σ : RS) (la sp rl tx : Nat) : Part (WD σ la sp rl tx) [50, 51, 52, 53] (ρo [50, 51, 52, 53]) (WR (fun k => σ (50 + k))) := Part.of _ rfl rfl rfl
theorem kD_link {d : Nat} (σ : RS) (la sp rl tx : Nat) (i : Int32) : Ok (d + 1) M5_link [.ref 50, .int i] (WD σ la sp rl tx) (rt (some (.int (if 0 ≤ i ∧ i < σ 50 4 then atF 8 (σ 53) i else -1))) (WD σ la sp rl tx)) := Ok.roP (r_link (fun k => σ (50 + k)) i) (PD_rings σ la sp rl tx) rfl
/-- the town behind the first ring, a meeting tried, votes counted -/
def dRing (kb u : Nat) (σ : RS) : RS := du kb 10 (rgp (kn_loaded (dk kb 10 σ) u) (r_find (rg (kn_loaded (dk kb 10 σ) u)))) (σ 17) σ
def dMet (kb u : Nat) (σ : RS) : RS := du kb 10 (kn_met (dk kb 10 σ) u) (σ 17) σ
def dVoted (kb n z : Nat) (deed day : Int32) (σ : RS) : RS := du kb 10 (kn_voted (dk kb 10 σ) deed day n z) (σ 17) σ
theorem kD_firstRing {d : Nat} (σ : RS) (la sp rl tx kb : Nat) (hk : kb_ok kb) (z : Nat) (hz : z ≤ 120) (h13 : σ kb 13 = nI z) (day : Int32) : Ok (d + 17) M1_firstRing [.ref kb, .int day] (WD σ la sp rl tx) (rt (some (.ref 50)) (WD (dRing kb (kn_upTo (σ 5) (σ (kb + 3)) day z 0) σ) la sp rl tx)) := by
  rcases hk with rfl | rfl
  · exact Ok.frame (k_firstRing (dk 30 10 σ) (σ 17) day z hz h13) (PD_k1a σ la sp rl tx) rfl (fun v w' h _ => by rw [h.1, h.2]; exact ⟨rfl, PD_w1a σ _ _ la sp rl tx⟩)
  · exact Ok.frame (k_firstRing (dk 40 10 σ) (σ 17) day z hz h13) (PD_k2a σ la sp rl tx) rfl (fun v w' h _ => by rw [h.1, h.2]; exact ⟨rfl, PD_w2a σ _ _ la sp rl tx⟩)
theorem kD_leftByMeeting {d : Nat} (σ : RS) (la sp rl tx kb : Nat) (hk : kb_ok kb) (z : Nat) (hz : z ≤ 120) (h13 : σ kb 13 = nI z) (day : Int32) : Ok (d + 18) M1_leftByMeeting [.ref kb, .int day] (WD σ la sp rl tx) (rt (some (.int (sumTo (kn_met (dk kb 10 σ) (kn_upTo (σ 5) (σ (kb + 3)) day z 0) 19) 64))) (WD (dMet kb (kn_upTo (σ 5) (σ (kb + 3)) day z 0) σ) la sp rl tx)) := by
  rcases hk with rfl | rfl
  · exact Ok.wr (k_leftByMeeting (dk 30 10 σ) (σ 17) day z hz h13) (PD_k1a σ la sp rl tx) rfl rfl (PD_w1a σ _ _ la sp rl tx)
  · exact Ok.wr (k_leftByMeeting (dk 40 10 σ) (σ 17) day z hz h13) (PD_k2a σ la sp rl tx) rfl rfl (PD_w2a σ _ _ la sp rl tx)
theorem kD_doerOf {d : Nat} (σ : RS) (la sp rl tx kb : Nat) (hk : kb_ok kb) (n z : Nat) (hn : n ≤ 120) (hz : z ≤ 120) (h11 : σ kb 11 = nI n) (h13 : σ kb 13 = nI z) (deed day : Int32) : Ok (d + 5) M1_doerOf [.ref kb, .int deed, .int day] (WD σ la sp rl tx) (rt (some (.int (kn_doer (kn_voted (dk kb 10 σ) deed day n z) (kn_voted (dk kb 10 σ) deed day n z 9) day z 8 0 (0, -1)).2)) (WD (dVoted kb n z deed day σ) la sp rl tx)) := by
  rcases hk with rfl | rfl
  · exact Ok.wr (k_doerOf (dk 30 10 σ) (σ 17) deed day n z hn hz h11 h13) (PD_k1a σ la sp rl tx) rfl rfl (PD_w1a σ _ _ la sp rl tx)
  · exact Ok.wr (k_doerOf (dk 40 10 σ) (σ 17) deed day n z hn hz h11 h13) (PD_k2a σ la sp rl tx) rfl rfl (PD_w2a σ _ _ la sp rl tx)
theorem loaded_ne (τ : RS) (u : Nat) {i : Nat} (h : i ≠ 19) : kn_loaded τ u i = τ i := s1_ne _ _ h
theorem cI_ring {F : FF} {lv : Nat → Int32} {A : List YL} {P N r la kb : Nat} {σ : RS} (h : cI F lv A P N r la σ) (hk : kb_ok kb) (u : Nat) : cI F lv A P N r la (dRing kb u σ) ∧ dK la σ (dRing kb u σ) := by
  obtain ⟨h1, h2, -⟩ := cI_view h hk (T := rgp (kn_loaded (dk kb 10 σ) u) (r_find (rg (kn_loaded (dk kb 10 σ) u)))) (fun i _ _ _ h4 => by rw [rgp_ne _ _ (by omega), loaded_ne _ _ (by omega)])
  exact ⟨h1, h2⟩
theorem cI_met {F : FF} {lv : Nat → Int32} {A : List YL} {P N r la kb : Nat} {σ : RS} (h : cI F lv A P N r la σ) (hk : kb_ok kb) (u : Nat) : cI F lv A P N r la (dMet kb u σ) ∧ dK la σ (dMet kb u σ) := by
  obtain ⟨h1, h2, -⟩ := cI_view h hk (T := kn_met (dk kb 10 σ) u) (fun i _ _ _ h4 => by unfold kn_met; rw [rgp_ne _ _ (by omega), loaded_ne _ _ (by omega)])
  exact ⟨h1, h2⟩
theorem cI_voted {F : FF} {lv : Nat → Int32} {A : List YL} {P N r la kb : Nat} {σ : RS} (h : cI F lv A P N r la σ) (hk : kb_ok kb) (n z : Nat) (deed day : Int32) : cI F lv A P N r la (dVoted kb n z deed day σ) ∧ dK la σ (dVoted kb n z deed day σ) := by
  obtain ⟨h1, h2, -⟩ := cI_view h hk (T := kn_voted (dk kb 10 σ) deed day n z) (fun i _ _ h9 _ => by unfold kn_voted; rw [s1_ne _ _ h9])
  exact ⟨h1, h2⟩
/-- the rings' answer behind firstRing -/
theorem dRing_link {kb u : Nat} (hk : kb_ok kb) (σ : RS) : (dRing kb u σ) 50 = (r_find (rg (kn_loaded (dk kb 10 σ) u))) 0 ∧ (dRing kb u σ) 53 = (r_find (rg (kn_loaded (dk kb 10 σ) u))) 3 := by
  have i1 := fun i hi => du_in (i := i) hk (Or.inl rfl : la_ok 10) (rgp (kn_loaded (dk kb 10 σ) u) (r_find (rg (kn_loaded (dk kb 10 σ) u)))) (σ 17) σ hi
  unfold dRing
  generalize r_find (rg (kn_loaded (dk kb 10 σ) u)) = R at *
  have a := i1 18 (by omega)
  have b := i1 21 (by omega)
  rw [pkk_rings kb 10 (by omega) (by omega)] at a b
  exact ⟨a.trans (if_pos (show 18 ≤ 18 ∧ 18 ≤ 21 by omega)), b.trans (if_pos (show 18 ≤ 21 ∧ 21 ≤ 21 by omega))⟩
