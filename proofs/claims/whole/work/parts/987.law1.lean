/-! The law, case by case. Written by a program (bytecode of the law). -/
theorem cl_L_13 : CLv RL 13 M6_feed 5 := ⟨ml6_feed, gt2 30 (by decide +kernel) rfl, gt2 31 (by decide +kernel) rfl, gt2 32 (by decide +kernel) rfl⟩
theorem cl_L_17 : CLv RL 17 M7_feed 5 := ⟨ml7_feed, gt5 117 (by decide +kernel) rfl, gt5 118 (by decide +kernel) rfl, gt5 119 (by decide +kernel) rfl⟩
theorem lc_0 {X : GX} {a0 : Nat → Nat} {b L : Nat} {xs : Nat → Int32} {kc ks i : Nat} {U : MW} {fs : List Value} {Q1 Q2 : Option Value → MW → Prop} {σm : RS} {τ : TS} (E : lawE X a0 b L xs) (hi : i + 5 < L) (hc : kc ≤ 600000 ∧ ks ≤ 7302250) (hU : U.length = 54) (hU0 : U[0]? = some (.inr (6, fs))) (h1 : Ok 21 M6_feed [.ref 0, .int (xs (i + 1)), .int (xs (i + 2)), .int (xs (i + 3)), .int (xs (i + 4)), .int (xs (i + 5))] U Q1) (h2 : Ok 21 M7_feed [.ref 0, .int (xs (i + 1)), .int (xs (i + 2)), .int (xs (i + 3)), .int (xs (i + 4)), .int (xs (i + 5))] (WM σm τ) Q2) (hF : FIN (fun w => GEv X MLaw 0 a0 kc ks 1146 (lsL i) [] w) Q1 Q2) : GEv X MLaw 0 a0 kc ks 152 (lsL i) [] (U ++ (WM σm τ).map (renE (sh 54))) := by
  refine g_aload_n (pc' := 153) E.1 dL_law_152 rfl rfl ?_
  refine g_arg (k := 1) (pc' := 158) E (by omega) rfl dL_law_153 dL_law_154 dL_law_155 dL_law_156 dL_law_157 rfl ?_
  refine g_arg (k := 2) (pc' := 163) E (by omega) rfl dL_law_158 dL_law_159 dL_law_160 dL_law_161 dL_law_162 rfl ?_
  refine g_arg (k := 3) (pc' := 168) E (by omega) rfl dL_law_163 dL_law_164 dL_law_165 dL_law_166 dL_law_167 rfl ?_
  refine g_arg (k := 4) (pc' := 173) E (by omega) rfl dL_law_168 dL_law_169 dL_law_170 dL_law_171 dL_law_172 rfl ?_
  refine g_arg (k := 5) (pc' := 178) E (by omega) rfl dL_law_173 dL_law_174 dL_law_175 dL_law_176 dL_law_177 rfl ?_
  refine l_callC (pc' := 181) (fs := fs) (As := [.int (xs (i + 1)), .int (xs (i + 2)), .int (xs (i + 3)), .int (xs (i + 4)), .int (xs (i + 5))]) (rest := []) E cl_L_13 h1 hU0 rfl dL_law_178 rfl rfl rfl (by decide) hc ?_
  intro v w1 q1 hw1
  obtain ⟨x, rfl⟩ := hF.1 v w1 q1
  refine g_aload_n (pc' := 182) E.1 dL_law_181 rfl rfl ?_
  refine g_arg (k := 1) (pc' := 187) E (by omega) rfl dL_law_182 dL_law_183 dL_law_184 dL_law_185 dL_law_186 rfl ?_
  refine g_arg (k := 2) (pc' := 192) E (by omega) rfl dL_law_187 dL_law_188 dL_law_189 dL_law_190 dL_law_191 rfl ?_
  refine g_arg (k := 3) (pc' := 197) E (by omega) rfl dL_law_192 dL_law_193 dL_law_194 dL_law_195 dL_law_196 rfl ?_
  refine g_arg (k := 4) (pc' := 202) E (by omega) rfl dL_law_197 dL_law_198 dL_law_199 dL_law_200 dL_law_201 rfl ?_
  refine g_arg (k := 5) (pc' := 207) E (by omega) rfl dL_law_202 dL_law_203 dL_law_204 dL_law_205 dL_law_206 rfl ?_
  refine l_callM (pc' := 210) (As := [.int (xs (i + 1)), .int (xs (i + 2)), .int (xs (i + 3)), .int (xs (i + 4)), .int (xs (i + 5))]) (rest := [.int x]) E cl_L_17 (hw1.trans hU) h2 rfl rfl dL_law_207 rfl rfl rfl (Nat.le_of_ble_eq_true rfl) hc ?_
  intro v w2 q2
  obtain ⟨y, rfl⟩ := hF.2.1 v w2 q2
  obtain ⟨e, kG⟩ := hF.2.2 x w1 y w2 q1 q2
  exact g_icmp_eq (pc' := 213) (tgt := 1146) E.1 dL_law_210 (by decide) rfl (fun _ => kG) (fun hne => absurd e hne)
theorem cl_L_18 : CLv RL 18 M6_back 1 := ⟨ml6_back, gt2 41 (by decide +kernel) rfl, gt2 42 (by decide +kernel) rfl, gt2 43 (by decide +kernel) rfl⟩
theorem cl_L_22 : CLv RL 22 M7_back 1 := ⟨ml7_back, gt5 125 (by decide +kernel) rfl, gt5 126 (by decide +kernel) rfl, gt5 127 (by decide +kernel) rfl⟩
theorem lc_1 {X : GX} {a0 : Nat → Nat} {b L : Nat} {xs : Nat → Int32} {kc ks i : Nat} {U : MW} {fs : List Value} {Q1 Q2 : Option Value → MW → Prop} {σm : RS} {τ : TS} (E : lawE X a0 b L xs) (hi : i + 5 < L) (hc : kc ≤ 600000 ∧ ks ≤ 7302250) (hU : U.length = 54) (hU0 : U[0]? = some (.inr (6, fs))) (h1 : Ok 21 M6_back [.ref 0, .int (xs (i + 1))] U Q1) (h2 : Ok 21 M7_back [.ref 0, .int (xs (i + 1))] (WM σm τ) Q2) (hF : FIN (fun w => GEv X MLaw 0 a0 kc ks 1146 (lsL i) [] w) Q1 Q2) : GEv X MLaw 0 a0 kc ks 215 (lsL i) [] (U ++ (WM σm τ).map (renE (sh 54))) := by
  refine g_aload_n (pc' := 216) E.1 dL_law_215 rfl rfl ?_
  refine g_arg (k := 1) (pc' := 221) E (by omega) rfl dL_law_216 dL_law_217 dL_law_218 dL_law_219 dL_law_220 rfl ?_
  refine l_callC (pc' := 224) (fs := fs) (As := [.int (xs (i + 1))]) (rest := []) E cl_L_18 h1 hU0 rfl dL_law_221 rfl rfl rfl (by decide) hc ?_
  intro v w1 q1 hw1
  obtain ⟨x, rfl⟩ := hF.1 v w1 q1
  refine g_aload_n (pc' := 225) E.1 dL_law_224 rfl rfl ?_
  refine g_arg (k := 1) (pc' := 230) E (by omega) rfl dL_law_225 dL_law_226 dL_law_227 dL_law_228 dL_law_229 rfl ?_
  refine l_callM (pc' := 233) (As := [.int (xs (i + 1))]) (rest := [.int x]) E cl_L_22 (hw1.trans hU) h2 rfl rfl dL_law_230 rfl rfl rfl (Nat.le_of_ble_eq_true rfl) hc ?_
  intro v w2 q2
  obtain ⟨y, rfl⟩ := hF.2.1 v w2 q2
  obtain ⟨e, kG⟩ := hF.2.2 x w1 y w2 q1 q2
  exact g_icmp_eq (pc' := 236) (tgt := 1146) E.1 dL_law_233 (by decide) rfl (fun _ => kG) (fun hne => absurd e hne)
theorem cl_L_23 : CLv RL 23 M6_read 0 := ⟨ml6_read, gt2 45 (by decide +kernel) rfl, gt2 46 (by decide +kernel) rfl, gt2 47 (by decide +kernel) rfl⟩
theorem cl_L_27 : CLv RL 27 M7_read 0 := ⟨ml7_read, gt5 129 (by decide +kernel) rfl, gt5 130 (by decide +kernel) rfl, gt5 131 (by decide +kernel) rfl⟩
theorem lc_2 {X : GX} {a0 : Nat → Nat} {b L : Nat} {xs : Nat → Int32} {kc ks i : Nat} {U : MW} {fs : List Value} {Q1 Q2 : Option Value → MW → Prop} {σm : RS} {τ : TS} (E : lawE X a0 b L xs) (hi : i + 5 < L) (hc : kc ≤ 600000 ∧ ks ≤ 7302250) (hU : U.length = 54) (hU0 : U[0]? = some (.inr (6, fs))) (h1 : Ok 21 M6_read [.ref 0] U Q1) (h2 : Ok 21 M7_read [.ref 0] (WM σm τ) Q2) (hF : FIN (fun w => GEv X MLaw 0 a0 kc ks 1146 (lsL i) [] w) Q1 Q2) : GEv X MLaw 0 a0 kc ks 238 (lsL i) [] (U ++ (WM σm τ).map (renE (sh 54))) := by
  refine g_aload_n (pc' := 239) E.1 dL_law_238 rfl rfl ?_
  refine l_callC (pc' := 242) (fs := fs) (As := []) (rest := []) E cl_L_23 h1 hU0 rfl dL_law_239 rfl rfl rfl (by decide) hc ?_
  intro v w1 q1 hw1
  obtain ⟨x, rfl⟩ := hF.1 v w1 q1
  refine g_aload_n (pc' := 243) E.1 dL_law_242 rfl rfl ?_
  refine l_callM (pc' := 246) (As := []) (rest := [.int x]) E cl_L_27 (hw1.trans hU) h2 rfl rfl dL_law_243 rfl rfl rfl (Nat.le_of_ble_eq_true rfl) hc ?_
  intro v w2 q2
  obtain ⟨y, rfl⟩ := hF.2.1 v w2 q2
  obtain ⟨e, kG⟩ := hF.2.2 x w1 y w2 q1 q2
  exact g_icmp_eq (pc' := 249) (tgt := 1146) E.1 dL_law_246 (by decide) rfl (fun _ => kG) (fun hne => absurd e hne)
theorem cl_L_28 : CLv RL 28 M6_place 0 := ⟨ml6_place, gt2 226 (by decide +kernel) rfl, gt2 227 (by decide +kernel) rfl, gt2 228 (by decide +kernel) rfl⟩
theorem cl_L_31 : CLv RL 31 M7_place 0 := ⟨ml7_place, gt5 191 (by decide +kernel) rfl, gt5 192 (by decide +kernel) rfl, gt5 193 (by decide +kernel) rfl⟩
theorem lc_3 {X : GX} {a0 : Nat → Nat} {b L : Nat} {xs : Nat → Int32} {kc ks i : Nat} {U : MW} {fs : List Value} {Q1 Q2 : Option Value → MW → Prop} {σm : RS} {τ : TS} (E : lawE X a0 b L xs) (hi : i + 5 < L) (hc : kc ≤ 600000 ∧ ks ≤ 7302250) (hU : U.length = 54) (hU0 : U[0]? = some (.inr (6, fs))) (h1 : Ok 21 M6_place [.ref 0] U Q1) (h2 : Ok 21 M7_place [.ref 0] (WM σm τ) Q2) (hF : FIN (fun w => GEv X MLaw 0 a0 kc ks 1146 (lsL i) [] w) Q1 Q2) : GEv X MLaw 0 a0 kc ks 251 (lsL i) [] (U ++ (WM σm τ).map (renE (sh 54))) := by
  refine g_aload_n (pc' := 252) E.1 dL_law_251 rfl rfl ?_
  refine l_callC (pc' := 255) (fs := fs) (As := []) (rest := []) E cl_L_28 h1 hU0 rfl dL_law_252 rfl rfl rfl (by decide) hc ?_
  intro v w1 q1 hw1
  obtain ⟨x, rfl⟩ := hF.1 v w1 q1
  refine g_aload_n (pc' := 256) E.1 dL_law_255 rfl rfl ?_
  refine l_callM (pc' := 259) (As := []) (rest := [.int x]) E cl_L_31 (hw1.trans hU) h2 rfl rfl dL_law_256 rfl rfl rfl (Nat.le_of_ble_eq_true rfl) hc ?_
  intro v w2 q2
  obtain ⟨y, rfl⟩ := hF.2.1 v w2 q2
  obtain ⟨e, kG⟩ := hF.2.2 x w1 y w2 q1 q2
  exact g_icmp_eq (pc' := 262) (tgt := 1146) E.1 dL_law_259 (by decide) rfl (fun _ => kG) (fun hne => absurd e hne)
theorem cl_L_32 : CLv RL 32 M6_person 1 := ⟨ml6_person, gt2 230 (by decide +kernel) rfl, gt2 231 (by decide +kernel) rfl, gt2 232 (by decide +kernel) rfl⟩
theorem cl_L_35 : CLv RL 35 M7_person 1 := ⟨ml7_person, gt5 195 (by decide +kernel) rfl, gt5 196 (by decide +kernel) rfl, gt5 197 (by decide +kernel) rfl⟩
theorem lc_4 {X : GX} {a0 : Nat → Nat} {b L : Nat} {xs : Nat → Int32} {kc ks i : Nat} {U : MW} {fs : List Value} {Q1 Q2 : Option Value → MW → Prop} {σm : RS} {τ : TS} (E : lawE X a0 b L xs) (hi : i + 5 < L) (hc : kc ≤ 600000 ∧ ks ≤ 7302250) (hU : U.length = 54) (hU0 : U[0]? = some (.inr (6, fs))) (h1 : Ok 21 M6_person [.ref 0, .int (xs (i + 1))] U Q1) (h2 : Ok 21 M7_person [.ref 0, .int (xs (i + 1))] (WM σm τ) Q2) (hF : FIN (fun w => GEv X MLaw 0 a0 kc ks 1146 (lsL i) [] w) Q1 Q2) : GEv X MLaw 0 a0 kc ks 264 (lsL i) [] (U ++ (WM σm τ).map (renE (sh 54))) := by
  refine g_aload_n (pc' := 265) E.1 dL_law_264 rfl rfl ?_
  refine g_arg (k := 1) (pc' := 270) E (by omega) rfl dL_law_265 dL_law_266 dL_law_267 dL_law_268 dL_law_269 rfl ?_
  refine l_callC (pc' := 273) (fs := fs) (As := [.int (xs (i + 1))]) (rest := []) E cl_L_32 h1 hU0 rfl dL_law_270 rfl rfl rfl (by decide) hc ?_
  intro v w1 q1 hw1
  obtain ⟨x, rfl⟩ := hF.1 v w1 q1
  refine g_aload_n (pc' := 274) E.1 dL_law_273 rfl rfl ?_
  refine g_arg (k := 1) (pc' := 279) E (by omega) rfl dL_law_274 dL_law_275 dL_law_276 dL_law_277 dL_law_278 rfl ?_
  refine l_callM (pc' := 282) (As := [.int (xs (i + 1))]) (rest := [.int x]) E cl_L_35 (hw1.trans hU) h2 rfl rfl dL_law_279 rfl rfl rfl (Nat.le_of_ble_eq_true rfl) hc ?_
  intro v w2 q2
  obtain ⟨y, rfl⟩ := hF.2.1 v w2 q2
  obtain ⟨e, kG⟩ := hF.2.2 x w1 y w2 q1 q2
  exact g_icmp_eq (pc' := 285) (tgt := 1146) E.1 dL_law_282 (by decide) rfl (fun _ => kG) (fun hne => absurd e hne)
theorem cl_L_36 : CLv RL 36 M6_loan 5 := ⟨ml6_loan, gt3 0 (by decide +kernel) rfl, gt3 1 (by decide +kernel) rfl, gt3 2 (by decide +kernel) rfl⟩
theorem cl_L_39 : CLv RL 39 M7_loan 5 := ⟨ml7_loan, gt5 200 (by decide +kernel) rfl, gt5 201 (by decide +kernel) rfl, gt5 202 (by decide +kernel) rfl⟩
theorem lc_5 {X : GX} {a0 : Nat → Nat} {b L : Nat} {xs : Nat → Int32} {kc ks i : Nat} {U : MW} {fs : List Value} {Q1 Q2 : Option Value → MW → Prop} {σm : RS} {τ : TS} (E : lawE X a0 b L xs) (hi : i + 5 < L) (hc : kc ≤ 600000 ∧ ks ≤ 7302250) (hU : U.length = 54) (hU0 : U[0]? = some (.inr (6, fs))) (h1 : Ok 21 M6_loan [.ref 0, .int (xs (i + 1)), .int (xs (i + 2)), .int (xs (i + 3)), .int (xs (i + 4)), .int (xs (i + 5))] U Q1) (h2 : Ok 21 M7_loan [.ref 0, .int (xs (i + 1)), .int (xs (i + 2)), .int (xs (i + 3)), .int (xs (i + 4)), .int (xs (i + 5))] (WM σm τ) Q2) (hF : FIN (fun w => GEv X MLaw 0 a0 kc ks 1146 (lsL i) [] w) Q1 Q2) : GEv X MLaw 0 a0 kc ks 287 (lsL i) [] (U ++ (WM σm τ).map (renE (sh 54))) := by
  refine g_aload_n (pc' := 288) E.1 dL_law_287 rfl rfl ?_
  refine g_arg (k := 1) (pc' := 293) E (by omega) rfl dL_law_288 dL_law_289 dL_law_290 dL_law_291 dL_law_292 rfl ?_
  refine g_arg (k := 2) (pc' := 298) E (by omega) rfl dL_law_293 dL_law_294 dL_law_295 dL_law_296 dL_law_297 rfl ?_
  refine g_arg (k := 3) (pc' := 303) E (by omega) rfl dL_law_298 dL_law_299 dL_law_300 dL_law_301 dL_law_302 rfl ?_
  refine g_arg (k := 4) (pc' := 308) E (by omega) rfl dL_law_303 dL_law_304 dL_law_305 dL_law_306 dL_law_307 rfl ?_
  refine g_arg (k := 5) (pc' := 313) E (by omega) rfl dL_law_308 dL_law_309 dL_law_310 dL_law_311 dL_law_312 rfl ?_
  refine l_callC (pc' := 316) (fs := fs) (As := [.int (xs (i + 1)), .int (xs (i + 2)), .int (xs (i + 3)), .int (xs (i + 4)), .int (xs (i + 5))]) (rest := []) E cl_L_36 h1 hU0 rfl dL_law_313 rfl rfl rfl (by decide) hc ?_
  intro v w1 q1 hw1
  obtain ⟨x, rfl⟩ := hF.1 v w1 q1
  refine g_aload_n (pc' := 317) E.1 dL_law_316 rfl rfl ?_
  refine g_arg (k := 1) (pc' := 322) E (by omega) rfl dL_law_317 dL_law_318 dL_law_319 dL_law_320 dL_law_321 rfl ?_
  refine g_arg (k := 2) (pc' := 327) E (by omega) rfl dL_law_322 dL_law_323 dL_law_324 dL_law_325 dL_law_326 rfl ?_
  refine g_arg (k := 3) (pc' := 332) E (by omega) rfl dL_law_327 dL_law_328 dL_law_329 dL_law_330 dL_law_331 rfl ?_
  refine g_arg (k := 4) (pc' := 337) E (by omega) rfl dL_law_332 dL_law_333 dL_law_334 dL_law_335 dL_law_336 rfl ?_
  refine g_arg (k := 5) (pc' := 342) E (by omega) rfl dL_law_337 dL_law_338 dL_law_339 dL_law_340 dL_law_341 rfl ?_
  refine l_callM (pc' := 345) (As := [.int (xs (i + 1)), .int (xs (i + 2)), .int (xs (i + 3)), .int (xs (i + 4)), .int (xs (i + 5))]) (rest := [.int x]) E cl_L_39 (hw1.trans hU) h2 rfl rfl dL_law_342 rfl rfl rfl (Nat.le_of_ble_eq_true rfl) hc ?_
  intro v w2 q2
  obtain ⟨y, rfl⟩ := hF.2.1 v w2 q2
  obtain ⟨e, kG⟩ := hF.2.2 x w1 y w2 q1 q2
  exact g_icmp_eq (pc' := 348) (tgt := 1146) E.1 dL_law_345 (by decide) rfl (fun _ => kG) (fun hne => absurd e hne)
theorem cl_L_40 : CLv RL 40 M6_pays 5 := ⟨ml6_pays, gt3 23 (by decide +kernel) rfl, gt3 24 (by decide +kernel) rfl, gt3 25 (by decide +kernel) rfl⟩
theorem cl_L_43 : CLv RL 43 M7_pays 5 := ⟨ml7_pays, gt5 219 (by decide +kernel) rfl, gt5 220 (by decide +kernel) rfl, gt5 221 (by decide +kernel) rfl⟩
theorem lc_6 {X : GX} {a0 : Nat → Nat} {b L : Nat} {xs : Nat → Int32} {kc ks i : Nat} {U : MW} {fs : List Value} {Q1 Q2 : Option Value → MW → Prop} {σm : RS} {τ : TS} (E : lawE X a0 b L xs) (hi : i + 5 < L) (hc : kc ≤ 600000 ∧ ks ≤ 7302250) (hU : U.length = 54) (hU0 : U[0]? = some (.inr (6, fs))) (h1 : Ok 21 M6_pays [.ref 0, .int (xs (i + 1)), .int (xs (i + 2)), .int (xs (i + 3)), .int (xs (i + 4)), .int (xs (i + 5))] U Q1) (h2 : Ok 21 M7_pays [.ref 0, .int (xs (i + 1)), .int (xs (i + 2)), .int (xs (i + 3)), .int (xs (i + 4)), .int (xs (i + 5))] (WM σm τ) Q2) (hF : FIN (fun w => GEv X MLaw 0 a0 kc ks 1146 (lsL i) [] w) Q1 Q2) : GEv X MLaw 0 a0 kc ks 350 (lsL i) [] (U ++ (WM σm τ).map (renE (sh 54))) := by
  refine g_aload_n (pc' := 351) E.1 dL_law_350 rfl rfl ?_
  refine g_arg (k := 1) (pc' := 356) E (by omega) rfl dL_law_351 dL_law_352 dL_law_353 dL_law_354 dL_law_355 rfl ?_
  refine g_arg (k := 2) (pc' := 361) E (by omega) rfl dL_law_356 dL_law_357 dL_law_358 dL_law_359 dL_law_360 rfl ?_
  refine g_arg (k := 3) (pc' := 366) E (by omega) rfl dL_law_361 dL_law_362 dL_law_363 dL_law_364 dL_law_365 rfl ?_
  refine g_arg (k := 4) (pc' := 371) E (by omega) rfl dL_law_366 dL_law_367 dL_law_368 dL_law_369 dL_law_370 rfl ?_
  refine g_arg (k := 5) (pc' := 376) E (by omega) rfl dL_law_371 dL_law_372 dL_law_373 dL_law_374 dL_law_375 rfl ?_
  refine l_callC (pc' := 379) (fs := fs) (As := [.int (xs (i + 1)), .int (xs (i + 2)), .int (xs (i + 3)), .int (xs (i + 4)), .int (xs (i + 5))]) (rest := []) E cl_L_40 h1 hU0 rfl dL_law_376 rfl rfl rfl (by decide) hc ?_
  intro v w1 q1 hw1
  obtain ⟨x, rfl⟩ := hF.1 v w1 q1
  refine g_aload_n (pc' := 380) E.1 dL_law_379 rfl rfl ?_
  refine g_arg (k := 1) (pc' := 385) E (by omega) rfl dL_law_380 dL_law_381 dL_law_382 dL_law_383 dL_law_384 rfl ?_
  refine g_arg (k := 2) (pc' := 390) E (by omega) rfl dL_law_385 dL_law_386 dL_law_387 dL_law_388 dL_law_389 rfl ?_
  refine g_arg (k := 3) (pc' := 395) E (by omega) rfl dL_law_390 dL_law_391 dL_law_392 dL_law_393 dL_law_394 rfl ?_
  refine g_arg (k := 4) (pc' := 400) E (by omega) rfl dL_law_395 dL_law_396 dL_law_397 dL_law_398 dL_law_399 rfl ?_
  refine g_arg (k := 5) (pc' := 405) E (by omega) rfl dL_law_400 dL_law_401 dL_law_402 dL_law_403 dL_law_404 rfl ?_
  refine l_callM (pc' := 408) (As := [.int (xs (i + 1)), .int (xs (i + 2)), .int (xs (i + 3)), .int (xs (i + 4)), .int (xs (i + 5))]) (rest := [.int x]) E cl_L_43 (hw1.trans hU) h2 rfl rfl dL_law_405 rfl rfl rfl (Nat.le_of_ble_eq_true rfl) hc ?_
  intro v w2 q2
  obtain ⟨y, rfl⟩ := hF.2.1 v w2 q2
  obtain ⟨e, kG⟩ := hF.2.2 x w1 y w2 q1 q2
  exact g_icmp_eq (pc' := 411) (tgt := 1146) E.1 dL_law_408 (by decide) rfl (fun _ => kG) (fun hne => absurd e hne)
theorem cl_L_44 : CLv RL 44 M6_meeting 1 := ⟨ml6_meeting, gt3 27 (by decide +kernel) rfl, gt3 28 (by decide +kernel) rfl, gt3 29 (by decide +kernel) rfl⟩
theorem cl_L_47 : CLv RL 47 M7_meeting 1 := ⟨ml7_meeting, gt5 223 (by decide +kernel) rfl, gt5 224 (by decide +kernel) rfl, gt5 225 (by decide +kernel) rfl⟩
theorem lc_7 {X : GX} {a0 : Nat → Nat} {b L : Nat} {xs : Nat → Int32} {kc ks i : Nat} {U : MW} {fs : List Value} {Q1 Q2 : Option Value → MW → Prop} {σm : RS} {τ : TS} (E : lawE X a0 b L xs) (hi : i + 5 < L) (hc : kc ≤ 600000 ∧ ks ≤ 7302250) (hU : U.length = 54) (hU0 : U[0]? = some (.inr (6, fs))) (h1 : Ok 21 M6_meeting [.ref 0, .int (xs (i + 1))] U Q1) (h2 : Ok 21 M7_meeting [.ref 0, .int (xs (i + 1))] (WM σm τ) Q2) (hF : FIN (fun w => GEv X MLaw 0 a0 kc ks 1146 (lsL i) [] w) Q1 Q2) : GEv X MLaw 0 a0 kc ks 413 (lsL i) [] (U ++ (WM σm τ).map (renE (sh 54))) := by
  refine g_aload_n (pc' := 414) E.1 dL_law_413 rfl rfl ?_
  refine g_arg (k := 1) (pc' := 419) E (by omega) rfl dL_law_414 dL_law_415 dL_law_416 dL_law_417 dL_law_418 rfl ?_
  refine l_callC (pc' := 422) (fs := fs) (As := [.int (xs (i + 1))]) (rest := []) E cl_L_44 h1 hU0 rfl dL_law_419 rfl rfl rfl (by decide) hc ?_
  intro v w1 q1 hw1
  obtain ⟨x, rfl⟩ := hF.1 v w1 q1
  refine g_aload_n (pc' := 423) E.1 dL_law_422 rfl rfl ?_
  refine g_arg (k := 1) (pc' := 428) E (by omega) rfl dL_law_423 dL_law_424 dL_law_425 dL_law_426 dL_law_427 rfl ?_
  refine l_callM (pc' := 431) (As := [.int (xs (i + 1))]) (rest := [.int x]) E cl_L_47 (hw1.trans hU) h2 rfl rfl dL_law_428 rfl rfl rfl (Nat.le_of_ble_eq_true rfl) hc ?_
  intro v w2 q2
  obtain ⟨y, rfl⟩ := hF.2.1 v w2 q2
  obtain ⟨e, kG⟩ := hF.2.2 x w1 y w2 q1 q2
  exact g_icmp_eq (pc' := 434) (tgt := 1146) E.1 dL_law_431 (by decide) rfl (fun _ => kG) (fun hne => absurd e hne)
theorem cl_L_48 : CLv RL 48 M6_forged 1 := ⟨ml6_forged, gt3 31 (by decide +kernel) rfl, gt3 32 (by decide +kernel) rfl, gt3 33 (by decide +kernel) rfl⟩
theorem cl_L_51 : CLv RL 51 M7_forged 1 := ⟨ml7_forged, gt5 227 (by decide +kernel) rfl, gt5 228 (by decide +kernel) rfl, gt5 229 (by decide +kernel) rfl⟩
theorem lc_8 {X : GX} {a0 : Nat → Nat} {b L : Nat} {xs : Nat → Int32} {kc ks i : Nat} {U : MW} {fs : List Value} {Q1 Q2 : Option Value → MW → Prop} {σm : RS} {τ : TS} (E : lawE X a0 b L xs) (hi : i + 5 < L) (hc : kc ≤ 600000 ∧ ks ≤ 7302250) (hU : U.length = 54) (hU0 : U[0]? = some (.inr (6, fs))) (h1 : Ok 21 M6_forged [.ref 0, .int (xs (i + 1))] U Q1) (h2 : Ok 21 M7_forged [.ref 0, .int (xs (i + 1))] (WM σm τ) Q2) (hF : FIN (fun w => GEv X MLaw 0 a0 kc ks 1146 (lsL i) [] w) Q1 Q2) : GEv X MLaw 0 a0 kc ks 436 (lsL i) [] (U ++ (WM σm τ).map (renE (sh 54))) := by
  refine g_aload_n (pc' := 437) E.1 dL_law_436 rfl rfl ?_
  refine g_arg (k := 1) (pc' := 442) E (by omega) rfl dL_law_437 dL_law_438 dL_law_439 dL_law_440 dL_law_441 rfl ?_
  refine l_callC (pc' := 445) (fs := fs) (As := [.int (xs (i + 1))]) (rest := []) E cl_L_48 h1 hU0 rfl dL_law_442 rfl rfl rfl (by decide) hc ?_
  intro v w1 q1 hw1
  obtain ⟨x, rfl⟩ := hF.1 v w1 q1
  refine g_aload_n (pc' := 446) E.1 dL_law_445 rfl rfl ?_
  refine g_arg (k := 1) (pc' := 451) E (by omega) rfl dL_law_446 dL_law_447 dL_law_448 dL_law_449 dL_law_450 rfl ?_
  refine l_callM (pc' := 454) (As := [.int (xs (i + 1))]) (rest := [.int x]) E cl_L_51 (hw1.trans hU) h2 rfl rfl dL_law_451 rfl rfl rfl (Nat.le_of_ble_eq_true rfl) hc ?_
  intro v w2 q2
  obtain ⟨y, rfl⟩ := hF.2.1 v w2 q2
  obtain ⟨e, kG⟩ := hF.2.2 x w1 y w2 q1 q2
  exact g_icmp_eq (pc' := 457) (tgt := 1146) E.1 dL_law_454 (by decide) rfl (fun _ => kG) (fun hne => absurd e hne)
theorem cl_L_52 : CLv RL 52 M6_feast 2 := ⟨ml6_feast, gt3 44 (by decide +kernel) rfl, gt3 45 (by decide +kernel) rfl, gt3 46 (by decide +kernel) rfl⟩
theorem cl_L_56 : CLv RL 56 M7_feast 2 := ⟨ml7_feast, gt5 231 (by decide +kernel) rfl, gt5 232 (by decide +kernel) rfl, gt5 233 (by decide +kernel) rfl⟩
theorem lc_9 {X : GX} {a0 : Nat → Nat} {b L : Nat} {xs : Nat → Int32} {kc ks i : Nat} {U : MW} {fs : List Value} {Q1 Q2 : Option Value → MW → Prop} {σm : RS} {τ : TS} (E : lawE X a0 b L xs) (hi : i + 5 < L) (hc : kc ≤ 600000 ∧ ks ≤ 7302250) (hU : U.length = 54) (hU0 : U[0]? = some (.inr (6, fs))) (h1 : Ok 21 M6_feast [.ref 0, .int (xs (i + 1)), .int (bI (decide (¬ xs (i + 2) = 0)))] U Q1) (h2 : Ok 21 M7_feast [.ref 0, .int (xs (i + 1)), .int (bI (decide (¬ xs (i + 2) = 0)))] (WM σm τ) Q2) (hF : FIN (fun w => GEv X MLaw 0 a0 kc ks 1146 (lsL i) [] w) Q1 Q2) : GEv X MLaw 0 a0 kc ks 459 (lsL i) [] (U ++ (WM σm τ).map (renE (sh 54))) := by
  by_cases hz : xs (i + 2) = 0
  · rw [decide_eq_false (fun z => z hz)] at h1 h2
    refine g_aload_n (pc' := 460) E.1 dL_law_459 rfl rfl ?_
    refine g_arg (k := 1) (pc' := 465) E (by omega) rfl dL_law_460 dL_law_461 dL_law_462 dL_law_463 dL_law_464 rfl ?_
    refine g_arg (k := 2) (pc' := 470) E (by omega) rfl dL_law_465 dL_law_466 dL_law_467 dL_law_468 dL_law_469 rfl ?_
    refine g_if_eq (pc' := 473) (tgt := 477) E.1 dL_law_470 (by decide) rfl (fun _ => ?_) (fun h => absurd hz h)
    refine g_iconst (pc' := 478) (v := 0) E.1 dL_law_477 rfl (by decide) ?_
    refine l_callC (pc' := 481) (fs := fs) (As := [.int (xs (i + 1)), .int 0]) (rest := []) E cl_L_52 h1 hU0 rfl dL_law_478 rfl rfl rfl (by decide) hc ?_
    intro v w1 q1 hw1
    obtain ⟨x, rfl⟩ := hF.1 v w1 q1
    refine g_aload_n (pc' := 482) E.1 dL_law_481 rfl rfl ?_
    refine g_arg (k := 1) (pc' := 487) E (by omega) rfl dL_law_482 dL_law_483 dL_law_484 dL_law_485 dL_law_486 rfl ?_
    refine g_arg (k := 2) (pc' := 492) E (by omega) rfl dL_law_487 dL_law_488 dL_law_489 dL_law_490 dL_law_491 rfl ?_
    refine g_if_eq (pc' := 495) (tgt := 499) E.1 dL_law_492 (by decide) rfl (fun _ => ?_) (fun h => absurd hz h)
    refine g_iconst (pc' := 500) (v := 0) E.1 dL_law_499 rfl (by decide) ?_
    refine l_callM (pc' := 503) (As := [.int (xs (i + 1)), .int 0]) (rest := [.int x]) E cl_L_56 (hw1.trans hU) h2 rfl rfl dL_law_500 rfl rfl rfl (Nat.le_of_ble_eq_true rfl) hc ?_
    intro v w2 q2
    obtain ⟨y, rfl⟩ := hF.2.1 v w2 q2
    obtain ⟨e, kG⟩ := hF.2.2 x w1 y w2 q1 q2
    exact g_icmp_eq (pc' := 506) (tgt := 1146) E.1 dL_law_503 (by decide) rfl (fun _ => kG) (fun hne => absurd e hne)
  · rw [decide_eq_true hz] at h1 h2
    refine g_aload_n (pc' := 460) E.1 dL_law_459 rfl rfl ?_
    refine g_arg (k := 1) (pc' := 465) E (by omega) rfl dL_law_460 dL_law_461 dL_law_462 dL_law_463 dL_law_464 rfl ?_
    refine g_arg (k := 2) (pc' := 470) E (by omega) rfl dL_law_465 dL_law_466 dL_law_467 dL_law_468 dL_law_469 rfl ?_
    refine g_if_eq (pc' := 473) (tgt := 477) E.1 dL_law_470 (by decide) rfl (fun h => absurd h hz) (fun _ => ?_)
    refine g_iconst (pc' := 474) (v := 1) E.1 dL_law_473 rfl (by decide) ?_
    refine g_goto (tgt := 478) E.1 dL_law_474 (by decide) ?_
    refine l_callC (pc' := 481) (fs := fs) (As := [.int (xs (i + 1)), .int 1]) (rest := []) E cl_L_52 h1 hU0 rfl dL_law_478 rfl rfl rfl (by decide) hc ?_
    intro v w1 q1 hw1
    obtain ⟨x, rfl⟩ := hF.1 v w1 q1
    refine g_aload_n (pc' := 482) E.1 dL_law_481 rfl rfl ?_
    refine g_arg (k := 1) (pc' := 487) E (by omega) rfl dL_law_482 dL_law_483 dL_law_484 dL_law_485 dL_law_486 rfl ?_
    refine g_arg (k := 2) (pc' := 492) E (by omega) rfl dL_law_487 dL_law_488 dL_law_489 dL_law_490 dL_law_491 rfl ?_
    refine g_if_eq (pc' := 495) (tgt := 499) E.1 dL_law_492 (by decide) rfl (fun h => absurd h hz) (fun _ => ?_)
    refine g_iconst (pc' := 496) (v := 1) E.1 dL_law_495 rfl (by decide) ?_
    refine g_goto (tgt := 500) E.1 dL_law_496 (by decide) ?_
    refine l_callM (pc' := 503) (As := [.int (xs (i + 1)), .int 1]) (rest := [.int x]) E cl_L_56 (hw1.trans hU) h2 rfl rfl dL_law_500 rfl rfl rfl (Nat.le_of_ble_eq_true rfl) hc ?_
    intro v w2 q2
    obtain ⟨y, rfl⟩ := hF.2.1 v w2 q2
    obtain ⟨e, kG⟩ := hF.2.2 x w1 y w2 q1 q2
    exact g_icmp_eq (pc' := 506) (tgt := 1146) E.1 dL_law_503 (by decide) rfl (fun _ => kG) (fun hne => absurd e hne)
theorem cl_L_57 : CLv RL 57 M6_seen 4 := ⟨ml6_seen, gt3 48 (by decide +kernel) rfl, gt3 49 (by decide +kernel) rfl, gt3 50 (by decide +kernel) rfl⟩
theorem cl_L_61 : CLv RL 61 M7_seen 4 := ⟨ml7_seen, gt5 235 (by decide +kernel) rfl, gt5 236 (by decide +kernel) rfl, gt5 237 (by decide +kernel) rfl⟩
theorem lc_10 {X : GX} {a0 : Nat → Nat} {b L : Nat} {xs : Nat → Int32} {kc ks i : Nat} {U : MW} {fs : List Value} {Q1 Q2 : Option Value → MW → Prop} {σm : RS} {τ : TS} (E : lawE X a0 b L xs) (hi : i + 5 < L) (hc : kc ≤ 600000 ∧ ks ≤ 7302250) (hU : U.length = 54) (hU0 : U[0]? = some (.inr (6, fs))) (h1 : Ok 21 M6_seen [.ref 0, .int (xs (i + 1)), .int (xs (i + 2)), .int (xs (i + 3)), .int (xs (i + 4))] U Q1) (h2 : Ok 21 M7_seen [.ref 0, .int (xs (i + 1)), .int (xs (i + 2)), .int (xs (i + 3)), .int (xs (i + 4))] (WM σm τ) Q2) (hF : FIN (fun w => GEv X MLaw 0 a0 kc ks 1146 (lsL i) [] w) Q1 Q2) : GEv X MLaw 0 a0 kc ks 508 (lsL i) [] (U ++ (WM σm τ).map (renE (sh 54))) := by
  refine g_aload_n (pc' := 509) E.1 dL_law_508 rfl rfl ?_
  refine g_arg (k := 1) (pc' := 514) E (by omega) rfl dL_law_509 dL_law_510 dL_law_511 dL_law_512 dL_law_513 rfl ?_
  refine g_arg (k := 2) (pc' := 519) E (by omega) rfl dL_law_514 dL_law_515 dL_law_516 dL_law_517 dL_law_518 rfl ?_
  refine g_arg (k := 3) (pc' := 524) E (by omega) rfl dL_law_519 dL_law_520 dL_law_521 dL_law_522 dL_law_523 rfl ?_
  refine g_arg (k := 4) (pc' := 529) E (by omega) rfl dL_law_524 dL_law_525 dL_law_526 dL_law_527 dL_law_528 rfl ?_
  refine l_callC (pc' := 532) (fs := fs) (As := [.int (xs (i + 1)), .int (xs (i + 2)), .int (xs (i + 3)), .int (xs (i + 4))]) (rest := []) E cl_L_57 h1 hU0 rfl dL_law_529 rfl rfl rfl (by decide) hc ?_
  intro v w1 q1 hw1
  obtain ⟨x, rfl⟩ := hF.1 v w1 q1
  refine g_aload_n (pc' := 533) E.1 dL_law_532 rfl rfl ?_
  refine g_arg (k := 1) (pc' := 538) E (by omega) rfl dL_law_533 dL_law_534 dL_law_535 dL_law_536 dL_law_537 rfl ?_
  refine g_arg (k := 2) (pc' := 543) E (by omega) rfl dL_law_538 dL_law_539 dL_law_540 dL_law_541 dL_law_542 rfl ?_
  refine g_arg (k := 3) (pc' := 548) E (by omega) rfl dL_law_543 dL_law_544 dL_law_545 dL_law_546 dL_law_547 rfl ?_
  refine g_arg (k := 4) (pc' := 553) E (by omega) rfl dL_law_548 dL_law_549 dL_law_550 dL_law_551 dL_law_552 rfl ?_
  refine l_callM (pc' := 556) (As := [.int (xs (i + 1)), .int (xs (i + 2)), .int (xs (i + 3)), .int (xs (i + 4))]) (rest := [.int x]) E cl_L_61 (hw1.trans hU) h2 rfl rfl dL_law_553 rfl rfl rfl (Nat.le_of_ble_eq_true rfl) hc ?_
  intro v w2 q2
  obtain ⟨y, rfl⟩ := hF.2.1 v w2 q2
  obtain ⟨e, kG⟩ := hF.2.2 x w1 y w2 q1 q2
  exact g_icmp_eq (pc' := 559) (tgt := 1146) E.1 dL_law_556 (by decide) rfl (fun _ => kG) (fun hne => absurd e hne)
theorem cl_L_62 : CLv RL 62 M6_isVoid 2 := ⟨ml6_isVoid, gt3 55 (by decide +kernel) rfl, gt3 56 (by decide +kernel) rfl, gt3 57 (by decide +kernel) rfl⟩
theorem cl_L_66 : CLv RL 66 M7_isVoid 2 := ⟨ml7_isVoid, gt5 239 (by decide +kernel) rfl, gt6 0 (by decide +kernel) rfl, gt6 1 (by decide +kernel) rfl⟩
theorem lc_11 {X : GX} {a0 : Nat → Nat} {b L : Nat} {xs : Nat → Int32} {kc ks i : Nat} {U : MW} {fs : List Value} {Q1 Q2 : Option Value → MW → Prop} {σm : RS} {τ : TS} (E : lawE X a0 b L xs) (hi : i + 5 < L) (hc : kc ≤ 600000 ∧ ks ≤ 7302250) (hU : U.length = 54) (hU0 : U[0]? = some (.inr (6, fs))) (h1 : Ok 21 M6_isVoid [.ref 0, .int (xs (i + 1)), .int (xs (i + 2))] U Q1) (h2 : Ok 21 M7_isVoid [.ref 0, .int (xs (i + 1)), .int (xs (i + 2))] (WM σm τ) Q2) (hF : FIN (fun w => GEv X MLaw 0 a0 kc ks 1146 (lsL i) [] w) Q1 Q2) : GEv X MLaw 0 a0 kc ks 561 (lsL i) [] (U ++ (WM σm τ).map (renE (sh 54))) := by
  refine g_aload_n (pc' := 562) E.1 dL_law_561 rfl rfl ?_
  refine g_arg (k := 1) (pc' := 567) E (by omega) rfl dL_law_562 dL_law_563 dL_law_564 dL_law_565 dL_law_566 rfl ?_
  refine g_arg (k := 2) (pc' := 572) E (by omega) rfl dL_law_567 dL_law_568 dL_law_569 dL_law_570 dL_law_571 rfl ?_
  refine l_callC (pc' := 575) (fs := fs) (As := [.int (xs (i + 1)), .int (xs (i + 2))]) (rest := []) E cl_L_62 h1 hU0 rfl dL_law_572 rfl rfl rfl (by decide) hc ?_
  intro v w1 q1 hw1
  obtain ⟨x, rfl⟩ := hF.1 v w1 q1
  refine g_aload_n (pc' := 576) E.1 dL_law_575 rfl rfl ?_
  refine g_arg (k := 1) (pc' := 581) E (by omega) rfl dL_law_576 dL_law_577 dL_law_578 dL_law_579 dL_law_580 rfl ?_
  refine g_arg (k := 2) (pc' := 586) E (by omega) rfl dL_law_581 dL_law_582 dL_law_583 dL_law_584 dL_law_585 rfl ?_
  refine l_callM (pc' := 589) (As := [.int (xs (i + 1)), .int (xs (i + 2))]) (rest := [.int x]) E cl_L_66 (hw1.trans hU) h2 rfl rfl dL_law_586 rfl rfl rfl (Nat.le_of_ble_eq_true rfl) hc ?_
  intro v w2 q2
  obtain ⟨y, rfl⟩ := hF.2.1 v w2 q2
  obtain ⟨e, kG⟩ := hF.2.2 x w1 y w2 q1 q2
  exact g_icmp_eq (pc' := 592) (tgt := 1146) E.1 dL_law_589 (by decide) rfl (fun _ => kG) (fun hne => absurd e hne)
theorem cl_L_67 : CLv RL 67 M6_holder 3 := ⟨ml6_holder, gt3 238 (by decide +kernel) rfl, gt3 239 (by decide +kernel) rfl, gt4 0 (by decide +kernel) rfl⟩
theorem cl_L_71 : CLv RL 71 M7_holder 3 := ⟨ml7_holder, gt6 63 (by decide +kernel) rfl, gt6 64 (by decide +kernel) rfl, gt6 65 (by decide +kernel) rfl⟩
theorem lc_12 {X : GX} {a0 : Nat → Nat} {b L : Nat} {xs : Nat → Int32} {kc ks i : Nat} {U : MW} {fs : List Value} {Q1 Q2 : Option Value → MW → Prop} {σm : RS} {τ : TS} (E : lawE X a0 b L xs) (hi : i + 5 < L) (hc : kc ≤ 600000 ∧ ks ≤ 7302250) (hU : U.length = 54) (hU0 : U[0]? = some (.inr (6, fs))) (h1 : Ok 21 M6_holder [.ref 0, .int (xs (i + 1)), .int (xs (i + 2)), .int (xs (i + 3))] U Q1) (h2 : Ok 21 M7_holder [.ref 0, .int (xs (i + 1)), .int (xs (i + 2)), .int (xs (i + 3))] (WM σm τ) Q2) (hF : FIN (fun w => GEv X MLaw 0 a0 kc ks 1146 (lsL i) [] w) Q1 Q2) : GEv X MLaw 0 a0 kc ks 594 (lsL i) [] (U ++ (WM σm τ).map (renE (sh 54))) := by
  refine g_aload_n (pc' := 595) E.1 dL_law_594 rfl rfl ?_
  refine g_arg (k := 1) (pc' := 600) E (by omega) rfl dL_law_595 dL_law_596 dL_law_597 dL_law_598 dL_law_599 rfl ?_
  refine g_arg (k := 2) (pc' := 605) E (by omega) rfl dL_law_600 dL_law_601 dL_law_602 dL_law_603 dL_law_604 rfl ?_
  refine g_arg (k := 3) (pc' := 610) E (by omega) rfl dL_law_605 dL_law_606 dL_law_607 dL_law_608 dL_law_609 rfl ?_
  refine l_callC (pc' := 613) (fs := fs) (As := [.int (xs (i + 1)), .int (xs (i + 2)), .int (xs (i + 3))]) (rest := []) E cl_L_67 h1 hU0 rfl dL_law_610 rfl rfl rfl (by decide) hc ?_
  intro v w1 q1 hw1
  obtain ⟨x, rfl⟩ := hF.1 v w1 q1
  refine g_aload_n (pc' := 614) E.1 dL_law_613 rfl rfl ?_
  refine g_arg (k := 1) (pc' := 619) E (by omega) rfl dL_law_614 dL_law_615 dL_law_616 dL_law_617 dL_law_618 rfl ?_
  refine g_arg (k := 2) (pc' := 624) E (by omega) rfl dL_law_619 dL_law_620 dL_law_621 dL_law_622 dL_law_623 rfl ?_
  refine g_arg (k := 3) (pc' := 629) E (by omega) rfl dL_law_624 dL_law_625 dL_law_626 dL_law_627 dL_law_628 rfl ?_
  refine l_callM (pc' := 632) (As := [.int (xs (i + 1)), .int (xs (i + 2)), .int (xs (i + 3))]) (rest := [.int x]) E cl_L_71 (hw1.trans hU) h2 rfl rfl dL_law_629 rfl rfl rfl (Nat.le_of_ble_eq_true rfl) hc ?_
  intro v w2 q2
  obtain ⟨y, rfl⟩ := hF.2.1 v w2 q2
  obtain ⟨e, kG⟩ := hF.2.2 x w1 y w2 q1 q2
  exact g_icmp_eq (pc' := 635) (tgt := 1146) E.1 dL_law_632 (by decide) rfl (fun _ => kG) (fun hne => absurd e hne)
theorem cl_L_72 : CLv RL 72 M6_chain 4 := ⟨ml6_chain, gt4 6 (by decide +kernel) rfl, gt4 7 (by decide +kernel) rfl, gt4 8 (by decide +kernel) rfl⟩
theorem cl_L_75 : CLv RL 75 M7_chain 4 := ⟨ml7_chain, gt6 67 (by decide +kernel) rfl, gt6 68 (by decide +kernel) rfl, gt6 69 (by decide +kernel) rfl⟩
theorem lc_13 {X : GX} {a0 : Nat → Nat} {b L : Nat} {xs : Nat → Int32} {kc ks i : Nat} {U : MW} {fs : List Value} {Q1 Q2 : Option Value → MW → Prop} {σm : RS} {τ : TS} (E : lawE X a0 b L xs) (hi : i + 5 < L) (hc : kc ≤ 600000 ∧ ks ≤ 7302250) (hU : U.length = 54) (hU0 : U[0]? = some (.inr (6, fs))) (h1 : Ok 21 M6_chain [.ref 0, .int (xs (i + 1)), .int (xs (i + 2)), .int (xs (i + 3)), .int (xs (i + 4))] U Q1) (h2 : Ok 21 M7_chain [.ref 0, .int (xs (i + 1)), .int (xs (i + 2)), .int (xs (i + 3)), .int (xs (i + 4))] (WM σm τ) Q2) (hF : FIN (fun w => GEv X MLaw 0 a0 kc ks 1146 (lsL i) [] w) Q1 Q2) : GEv X MLaw 0 a0 kc ks 637 (lsL i) [] (U ++ (WM σm τ).map (renE (sh 54))) := by
  refine g_aload_n (pc' := 638) E.1 dL_law_637 rfl rfl ?_
  refine g_arg (k := 1) (pc' := 643) E (by omega) rfl dL_law_638 dL_law_639 dL_law_640 dL_law_641 dL_law_642 rfl ?_
  refine g_arg (k := 2) (pc' := 648) E (by omega) rfl dL_law_643 dL_law_644 dL_law_645 dL_law_646 dL_law_647 rfl ?_
  refine g_arg (k := 3) (pc' := 653) E (by omega) rfl dL_law_648 dL_law_649 dL_law_650 dL_law_651 dL_law_652 rfl ?_
  refine g_arg (k := 4) (pc' := 658) E (by omega) rfl dL_law_653 dL_law_654 dL_law_655 dL_law_656 dL_law_657 rfl ?_
  refine l_callC (pc' := 661) (fs := fs) (As := [.int (xs (i + 1)), .int (xs (i + 2)), .int (xs (i + 3)), .int (xs (i + 4))]) (rest := []) E cl_L_72 h1 hU0 rfl dL_law_658 rfl rfl rfl (by decide) hc ?_
  intro v w1 q1 hw1
  obtain ⟨x, rfl⟩ := hF.1 v w1 q1
  refine g_aload_n (pc' := 662) E.1 dL_law_661 rfl rfl ?_
  refine g_arg (k := 1) (pc' := 667) E (by omega) rfl dL_law_662 dL_law_663 dL_law_664 dL_law_665 dL_law_666 rfl ?_
  refine g_arg (k := 2) (pc' := 672) E (by omega) rfl dL_law_667 dL_law_668 dL_law_669 dL_law_670 dL_law_671 rfl ?_
  refine g_arg (k := 3) (pc' := 677) E (by omega) rfl dL_law_672 dL_law_673 dL_law_674 dL_law_675 dL_law_676 rfl ?_
  refine g_arg (k := 4) (pc' := 682) E (by omega) rfl dL_law_677 dL_law_678 dL_law_679 dL_law_680 dL_law_681 rfl ?_
  refine l_callM (pc' := 685) (As := [.int (xs (i + 1)), .int (xs (i + 2)), .int (xs (i + 3)), .int (xs (i + 4))]) (rest := [.int x]) E cl_L_75 (hw1.trans hU) h2 rfl rfl dL_law_682 rfl rfl rfl (Nat.le_of_ble_eq_true rfl) hc ?_
  intro v w2 q2
  obtain ⟨y, rfl⟩ := hF.2.1 v w2 q2
  obtain ⟨e, kG⟩ := hF.2.2 x w1 y w2 q1 q2
  exact g_icmp_eq (pc' := 688) (tgt := 1146) E.1 dL_law_685 (by decide) rfl (fun _ => kG) (fun hne => absurd e hne)
theorem cl_L_76 : CLv RL 76 M6_awake 3 := ⟨ml6_awake, gt4 14 (by decide +kernel) rfl, gt4 15 (by decide +kernel) rfl, gt4 16 (by decide +kernel) rfl⟩
theorem cl_L_79 : CLv RL 79 M7_awake 3 := ⟨ml7_awake, gt6 71 (by decide +kernel) rfl, gt6 72 (by decide +kernel) rfl, gt6 73 (by decide +kernel) rfl⟩
theorem lc_14 {X : GX} {a0 : Nat → Nat} {b L : Nat} {xs : Nat → Int32} {kc ks i : Nat} {U : MW} {fs : List Value} {Q1 Q2 : Option Value → MW → Prop} {σm : RS} {τ : TS} (E : lawE X a0 b L xs) (hi : i + 5 < L) (hc : kc ≤ 600000 ∧ ks ≤ 7302250) (hU : U.length = 54) (hU0 : U[0]? = some (.inr (6, fs))) (h1 : Ok 21 M6_awake [.ref 0, .int (xs (i + 1)), .int (xs (i + 2)), .int (xs (i + 3))] U Q1) (h2 : Ok 21 M7_awake [.ref 0, .int (xs (i + 1)), .int (xs (i + 2)), .int (xs (i + 3))] (WM σm τ) Q2) (hF : FIN (fun w => GEv X MLaw 0 a0 kc ks 1146 (lsL i) [] w) Q1 Q2) : GEv X MLaw 0 a0 kc ks 690 (lsL i) [] (U ++ (WM σm τ).map (renE (sh 54))) := by
  refine g_aload_n (pc' := 691) E.1 dL_law_690 rfl rfl ?_
  refine g_arg (k := 1) (pc' := 696) E (by omega) rfl dL_law_691 dL_law_692 dL_law_693 dL_law_694 dL_law_695 rfl ?_
  refine g_arg (k := 2) (pc' := 701) E (by omega) rfl dL_law_696 dL_law_697 dL_law_698 dL_law_699 dL_law_700 rfl ?_
  refine g_arg (k := 3) (pc' := 706) E (by omega) rfl dL_law_701 dL_law_702 dL_law_703 dL_law_704 dL_law_705 rfl ?_
  refine l_callC (pc' := 709) (fs := fs) (As := [.int (xs (i + 1)), .int (xs (i + 2)), .int (xs (i + 3))]) (rest := []) E cl_L_76 h1 hU0 rfl dL_law_706 rfl rfl rfl (by decide) hc ?_
  intro v w1 q1 hw1
  obtain ⟨x, rfl⟩ := hF.1 v w1 q1
  refine g_aload_n (pc' := 710) E.1 dL_law_709 rfl rfl ?_
  refine g_arg (k := 1) (pc' := 715) E (by omega) rfl dL_law_710 dL_law_711 dL_law_712 dL_law_713 dL_law_714 rfl ?_
  refine g_arg (k := 2) (pc' := 720) E (by omega) rfl dL_law_715 dL_law_716 dL_law_717 dL_law_718 dL_law_719 rfl ?_
  refine g_arg (k := 3) (pc' := 725) E (by omega) rfl dL_law_720 dL_law_721 dL_law_722 dL_law_723 dL_law_724 rfl ?_
  refine l_callM (pc' := 728) (As := [.int (xs (i + 1)), .int (xs (i + 2)), .int (xs (i + 3))]) (rest := [.int x]) E cl_L_79 (hw1.trans hU) h2 rfl rfl dL_law_725 rfl rfl rfl (Nat.le_of_ble_eq_true rfl) hc ?_
  intro v w2 q2
  obtain ⟨y, rfl⟩ := hF.2.1 v w2 q2
  obtain ⟨e, kG⟩ := hF.2.2 x w1 y w2 q1 q2
  exact g_icmp_eq (pc' := 731) (tgt := 1146) E.1 dL_law_728 (by decide) rfl (fun _ => kG) (fun hne => absurd e hne)
theorem cl_L_80 : CLv RL 80 M6_age 3 := ⟨ml6_age, gt4 22 (by decide +kernel) rfl, gt4 23 (by decide +kernel) rfl, gt4 24 (by decide +kernel) rfl⟩
theorem cl_L_83 : CLv RL 83 M7_age 3 := ⟨ml7_age, gt6 79 (by decide +kernel) rfl, gt6 80 (by decide +kernel) rfl, gt6 81 (by decide +kernel) rfl⟩
theorem lc_15 {X : GX} {a0 : Nat → Nat} {b L : Nat} {xs : Nat → Int32} {kc ks i : Nat} {U : MW} {fs : List Value} {Q1 Q2 : Option Value → MW → Prop} {σm : RS} {τ : TS} (E : lawE X a0 b L xs) (hi : i + 5 < L) (hc : kc ≤ 600000 ∧ ks ≤ 7302250) (hU : U.length = 54) (hU0 : U[0]? = some (.inr (6, fs))) (h1 : Ok 21 M6_age [.ref 0, .int (xs (i + 1)), .int (xs (i + 2)), .int (xs (i + 3))] U Q1) (h2 : Ok 21 M7_age [.ref 0, .int (xs (i + 1)), .int (xs (i + 2)), .int (xs (i + 3))] (WM σm τ) Q2) (hF : FIN (fun w => GEv X MLaw 0 a0 kc ks 1146 (lsL i) [] w) Q1 Q2) : GEv X MLaw 0 a0 kc ks 733 (lsL i) [] (U ++ (WM σm τ).map (renE (sh 54))) := by
  refine g_aload_n (pc' := 734) E.1 dL_law_733 rfl rfl ?_
  refine g_arg (k := 1) (pc' := 739) E (by omega) rfl dL_law_734 dL_law_735 dL_law_736 dL_law_737 dL_law_738 rfl ?_
  refine g_arg (k := 2) (pc' := 744) E (by omega) rfl dL_law_739 dL_law_740 dL_law_741 dL_law_742 dL_law_743 rfl ?_
  refine g_arg (k := 3) (pc' := 749) E (by omega) rfl dL_law_744 dL_law_745 dL_law_746 dL_law_747 dL_law_748 rfl ?_
  refine l_callC (pc' := 752) (fs := fs) (As := [.int (xs (i + 1)), .int (xs (i + 2)), .int (xs (i + 3))]) (rest := []) E cl_L_80 h1 hU0 rfl dL_law_749 rfl rfl rfl (by decide) hc ?_
  intro v w1 q1 hw1
  obtain ⟨x, rfl⟩ := hF.1 v w1 q1
  refine g_aload_n (pc' := 753) E.1 dL_law_752 rfl rfl ?_
  refine g_arg (k := 1) (pc' := 758) E (by omega) rfl dL_law_753 dL_law_754 dL_law_755 dL_law_756 dL_law_757 rfl ?_
  refine g_arg (k := 2) (pc' := 763) E (by omega) rfl dL_law_758 dL_law_759 dL_law_760 dL_law_761 dL_law_762 rfl ?_
  refine g_arg (k := 3) (pc' := 768) E (by omega) rfl dL_law_763 dL_law_764 dL_law_765 dL_law_766 dL_law_767 rfl ?_
  refine l_callM (pc' := 771) (As := [.int (xs (i + 1)), .int (xs (i + 2)), .int (xs (i + 3))]) (rest := [.int x]) E cl_L_83 (hw1.trans hU) h2 rfl rfl dL_law_768 rfl rfl rfl (Nat.le_of_ble_eq_true rfl) hc ?_
  intro v w2 q2
  obtain ⟨y, rfl⟩ := hF.2.1 v w2 q2
  obtain ⟨e, kG⟩ := hF.2.2 x w1 y w2 q1 q2
  exact g_icmp_eq (pc' := 774) (tgt := 1146) E.1 dL_law_771 (by decide) rfl (fun _ => kG) (fun hne => absurd e hne)
theorem cl_L_84 : CLv RL 84 M6_owes 4 := ⟨ml6_owes, gt4 30 (by decide +kernel) rfl, gt4 31 (by decide +kernel) rfl, gt4 32 (by decide +kernel) rfl⟩
theorem cl_L_87 : CLv RL 87 M7_owes 4 := ⟨ml7_owes, gt6 83 (by decide +kernel) rfl, gt6 84 (by decide +kernel) rfl, gt6 85 (by decide +kernel) rfl⟩
theorem lc_16 {X : GX} {a0 : Nat → Nat} {b L : Nat} {xs : Nat → Int32} {kc ks i : Nat} {U : MW} {fs : List Value} {Q1 Q2 : Option Value → MW → Prop} {σm : RS} {τ : TS} (E : lawE X a0 b L xs) (hi : i + 5 < L) (hc : kc ≤ 600000 ∧ ks ≤ 7302250) (hU : U.length = 54) (hU0 : U[0]? = some (.inr (6, fs))) (h1 : Ok 21 M6_owes [.ref 0, .int (xs (i + 1)), .int (xs (i + 2)), .int (xs (i + 3)), .int (xs (i + 4))] U Q1) (h2 : Ok 21 M7_owes [.ref 0, .int (xs (i + 1)), .int (xs (i + 2)), .int (xs (i + 3)), .int (xs (i + 4))] (WM σm τ) Q2) (hF : FIN (fun w => GEv X MLaw 0 a0 kc ks 1146 (lsL i) [] w) Q1 Q2) : GEv X MLaw 0 a0 kc ks 776 (lsL i) [] (U ++ (WM σm τ).map (renE (sh 54))) := by
  refine g_aload_n (pc' := 777) E.1 dL_law_776 rfl rfl ?_
  refine g_arg (k := 1) (pc' := 782) E (by omega) rfl dL_law_777 dL_law_778 dL_law_779 dL_law_780 dL_law_781 rfl ?_
  refine g_arg (k := 2) (pc' := 787) E (by omega) rfl dL_law_782 dL_law_783 dL_law_784 dL_law_785 dL_law_786 rfl ?_
  refine g_arg (k := 3) (pc' := 792) E (by omega) rfl dL_law_787 dL_law_788 dL_law_789 dL_law_790 dL_law_791 rfl ?_
  refine g_arg (k := 4) (pc' := 797) E (by omega) rfl dL_law_792 dL_law_793 dL_law_794 dL_law_795 dL_law_796 rfl ?_
  refine l_callC (pc' := 800) (fs := fs) (As := [.int (xs (i + 1)), .int (xs (i + 2)), .int (xs (i + 3)), .int (xs (i + 4))]) (rest := []) E cl_L_84 h1 hU0 rfl dL_law_797 rfl rfl rfl (by decide) hc ?_
  intro v w1 q1 hw1
  obtain ⟨x, rfl⟩ := hF.1 v w1 q1
  refine g_aload_n (pc' := 801) E.1 dL_law_800 rfl rfl ?_
  refine g_arg (k := 1) (pc' := 806) E (by omega) rfl dL_law_801 dL_law_802 dL_law_803 dL_law_804 dL_law_805 rfl ?_
  refine g_arg (k := 2) (pc' := 811) E (by omega) rfl dL_law_806 dL_law_807 dL_law_808 dL_law_809 dL_law_810 rfl ?_
  refine g_arg (k := 3) (pc' := 816) E (by omega) rfl dL_law_811 dL_law_812 dL_law_813 dL_law_814 dL_law_815 rfl ?_
  refine g_arg (k := 4) (pc' := 821) E (by omega) rfl dL_law_816 dL_law_817 dL_law_818 dL_law_819 dL_law_820 rfl ?_
  refine l_callM (pc' := 824) (As := [.int (xs (i + 1)), .int (xs (i + 2)), .int (xs (i + 3)), .int (xs (i + 4))]) (rest := [.int x]) E cl_L_87 (hw1.trans hU) h2 rfl rfl dL_law_821 rfl rfl rfl (Nat.le_of_ble_eq_true rfl) hc ?_
  intro v w2 q2
  obtain ⟨y, rfl⟩ := hF.2.1 v w2 q2
  obtain ⟨e, kG⟩ := hF.2.2 x w1 y w2 q1 q2
  exact g_icmp_eq (pc' := 827) (tgt := 1146) E.1 dL_law_824 (by decide) rfl (fun _ => kG) (fun hne => absurd e hne)
theorem cl_L_88 : CLv RL 88 M6_net 3 := ⟨ml6_net, gt4 39 (by decide +kernel) rfl, gt4 40 (by decide +kernel) rfl, gt4 41 (by decide +kernel) rfl⟩
theorem cl_L_91 : CLv RL 91 M7_net 3 := ⟨ml7_net, gt6 87 (by decide +kernel) rfl, gt6 88 (by decide +kernel) rfl, gt6 89 (by decide +kernel) rfl⟩
theorem lc_17 {X : GX} {a0 : Nat → Nat} {b L : Nat} {xs : Nat → Int32} {kc ks i : Nat} {U : MW} {fs : List Value} {Q1 Q2 : Option Value → MW → Prop} {σm : RS} {τ : TS} (E : lawE X a0 b L xs) (hi : i + 5 < L) (hc : kc ≤ 600000 ∧ ks ≤ 7302250) (hU : U.length = 54) (hU0 : U[0]? = some (.inr (6, fs))) (h1 : Ok 21 M6_net [.ref 0, .int (xs (i + 1)), .int (xs (i + 2)), .int (xs (i + 3))] U Q1) (h2 : Ok 21 M7_net [.ref 0, .int (xs (i + 1)), .int (xs (i + 2)), .int (xs (i + 3))] (WM σm τ) Q2) (hF : FIN (fun w => GEv X MLaw 0 a0 kc ks 1146 (lsL i) [] w) Q1 Q2) : GEv X MLaw 0 a0 kc ks 829 (lsL i) [] (U ++ (WM σm τ).map (renE (sh 54))) := by
  refine g_aload_n (pc' := 830) E.1 dL_law_829 rfl rfl ?_
  refine g_arg (k := 1) (pc' := 835) E (by omega) rfl dL_law_830 dL_law_831 dL_law_832 dL_law_833 dL_law_834 rfl ?_
  refine g_arg (k := 2) (pc' := 840) E (by omega) rfl dL_law_835 dL_law_836 dL_law_837 dL_law_838 dL_law_839 rfl ?_
  refine g_arg (k := 3) (pc' := 845) E (by omega) rfl dL_law_840 dL_law_841 dL_law_842 dL_law_843 dL_law_844 rfl ?_
  refine l_callC (pc' := 848) (fs := fs) (As := [.int (xs (i + 1)), .int (xs (i + 2)), .int (xs (i + 3))]) (rest := []) E cl_L_88 h1 hU0 rfl dL_law_845 rfl rfl rfl (by decide) hc ?_
  intro v w1 q1 hw1
  obtain ⟨x, rfl⟩ := hF.1 v w1 q1
  refine g_aload_n (pc' := 849) E.1 dL_law_848 rfl rfl ?_
  refine g_arg (k := 1) (pc' := 854) E (by omega) rfl dL_law_849 dL_law_850 dL_law_851 dL_law_852 dL_law_853 rfl ?_
  refine g_arg (k := 2) (pc' := 859) E (by omega) rfl dL_law_854 dL_law_855 dL_law_856 dL_law_857 dL_law_858 rfl ?_
  refine g_arg (k := 3) (pc' := 864) E (by omega) rfl dL_law_859 dL_law_860 dL_law_861 dL_law_862 dL_law_863 rfl ?_
  refine l_callM (pc' := 867) (As := [.int (xs (i + 1)), .int (xs (i + 2)), .int (xs (i + 3))]) (rest := [.int x]) E cl_L_91 (hw1.trans hU) h2 rfl rfl dL_law_864 rfl rfl rfl (Nat.le_of_ble_eq_true rfl) hc ?_
  intro v w2 q2
  obtain ⟨y, rfl⟩ := hF.2.1 v w2 q2
  obtain ⟨e, kG⟩ := hF.2.2 x w1 y w2 q1 q2
  exact g_icmp_eq (pc' := 870) (tgt := 1146) E.1 dL_law_867 (by decide) rfl (fun _ => kG) (fun hne => absurd e hne)
theorem cl_L_92 : CLv RL 92 M6_ring 3 := ⟨ml6_ring, gt4 48 (by decide +kernel) rfl, gt4 49 (by decide +kernel) rfl, gt4 50 (by decide +kernel) rfl⟩
theorem cl_L_95 : CLv RL 95 M7_ring 3 := ⟨ml7_ring, gt6 91 (by decide +kernel) rfl, gt6 92 (by decide +kernel) rfl, gt6 93 (by decide +kernel) rfl⟩
theorem lc_18 {X : GX} {a0 : Nat → Nat} {b L : Nat} {xs : Nat → Int32} {kc ks i : Nat} {U : MW} {fs : List Value} {Q1 Q2 : Option Value → MW → Prop} {σm : RS} {τ : TS} (E : lawE X a0 b L xs) (hi : i + 5 < L) (hc : kc ≤ 600000 ∧ ks ≤ 7302250) (hU : U.length = 54) (hU0 : U[0]? = some (.inr (6, fs))) (h1 : Ok 21 M6_ring [.ref 0, .int (xs (i + 1)), .int (xs (i + 2)), .int (xs (i + 3))] U Q1) (h2 : Ok 21 M7_ring [.ref 0, .int (xs (i + 1)), .int (xs (i + 2)), .int (xs (i + 3))] (WM σm τ) Q2) (hF : FIN (fun w => GEv X MLaw 0 a0 kc ks 1146 (lsL i) [] w) Q1 Q2) : GEv X MLaw 0 a0 kc ks 872 (lsL i) [] (U ++ (WM σm τ).map (renE (sh 54))) := by
  refine g_aload_n (pc' := 873) E.1 dL_law_872 rfl rfl ?_
  refine g_arg (k := 1) (pc' := 878) E (by omega) rfl dL_law_873 dL_law_874 dL_law_875 dL_law_876 dL_law_877 rfl ?_
  refine g_arg (k := 2) (pc' := 883) E (by omega) rfl dL_law_878 dL_law_879 dL_law_880 dL_law_881 dL_law_882 rfl ?_
  refine g_arg (k := 3) (pc' := 888) E (by omega) rfl dL_law_883 dL_law_884 dL_law_885 dL_law_886 dL_law_887 rfl ?_
  refine l_callC (pc' := 891) (fs := fs) (As := [.int (xs (i + 1)), .int (xs (i + 2)), .int (xs (i + 3))]) (rest := []) E cl_L_92 h1 hU0 rfl dL_law_888 rfl rfl rfl (by decide) hc ?_
  intro v w1 q1 hw1
  obtain ⟨x, rfl⟩ := hF.1 v w1 q1
  refine g_aload_n (pc' := 892) E.1 dL_law_891 rfl rfl ?_
  refine g_arg (k := 1) (pc' := 897) E (by omega) rfl dL_law_892 dL_law_893 dL_law_894 dL_law_895 dL_law_896 rfl ?_
  refine g_arg (k := 2) (pc' := 902) E (by omega) rfl dL_law_897 dL_law_898 dL_law_899 dL_law_900 dL_law_901 rfl ?_
  refine g_arg (k := 3) (pc' := 907) E (by omega) rfl dL_law_902 dL_law_903 dL_law_904 dL_law_905 dL_law_906 rfl ?_
  refine l_callM (pc' := 910) (As := [.int (xs (i + 1)), .int (xs (i + 2)), .int (xs (i + 3))]) (rest := [.int x]) E cl_L_95 (hw1.trans hU) h2 rfl rfl dL_law_907 rfl rfl rfl (Nat.le_of_ble_eq_true rfl) hc ?_
  intro v w2 q2
  obtain ⟨y, rfl⟩ := hF.2.1 v w2 q2
  obtain ⟨e, kG⟩ := hF.2.2 x w1 y w2 q1 q2
  exact g_icmp_eq (pc' := 913) (tgt := 1146) E.1 dL_law_910 (by decide) rfl (fun _ => kG) (fun hne => absurd e hne)
theorem cl_L_96 : CLv RL 96 M6_leaves 2 := ⟨ml6_leaves, gt4 62 (by decide +kernel) rfl, gt4 63 (by decide +kernel) rfl, gt4 64 (by decide +kernel) rfl⟩
theorem cl_L_99 : CLv RL 99 M7_leaves 2 := ⟨ml7_leaves, gt6 95 (by decide +kernel) rfl, gt6 96 (by decide +kernel) rfl, gt6 97 (by decide +kernel) rfl⟩
theorem lc_19 {X : GX} {a0 : Nat → Nat} {b L : Nat} {xs : Nat → Int32} {kc ks i : Nat} {U : MW} {fs : List Value} {Q1 Q2 : Option Value → MW → Prop} {σm : RS} {τ : TS} (E : lawE X a0 b L xs) (hi : i + 5 < L) (hc : kc ≤ 600000 ∧ ks ≤ 7302250) (hU : U.length = 54) (hU0 : U[0]? = some (.inr (6, fs))) (h1 : Ok 21 M6_leaves [.ref 0, .int (xs (i + 1)), .int (xs (i + 2))] U Q1) (h2 : Ok 21 M7_leaves [.ref 0, .int (xs (i + 1)), .int (xs (i + 2))] (WM σm τ) Q2) (hF : FIN (fun w => GEv X MLaw 0 a0 kc ks 1146 (lsL i) [] w) Q1 Q2) : GEv X MLaw 0 a0 kc ks 915 (lsL i) [] (U ++ (WM σm τ).map (renE (sh 54))) := by
  refine g_aload_n (pc' := 916) E.1 dL_law_915 rfl rfl ?_
  refine g_arg (k := 1) (pc' := 921) E (by omega) rfl dL_law_916 dL_law_917 dL_law_918 dL_law_919 dL_law_920 rfl ?_
  refine g_arg (k := 2) (pc' := 926) E (by omega) rfl dL_law_921 dL_law_922 dL_law_923 dL_law_924 dL_law_925 rfl ?_
  refine l_callC (pc' := 929) (fs := fs) (As := [.int (xs (i + 1)), .int (xs (i + 2))]) (rest := []) E cl_L_96 h1 hU0 rfl dL_law_926 rfl rfl rfl (by decide) hc ?_
  intro v w1 q1 hw1
  obtain ⟨x, rfl⟩ := hF.1 v w1 q1
  refine g_aload_n (pc' := 930) E.1 dL_law_929 rfl rfl ?_
  refine g_arg (k := 1) (pc' := 935) E (by omega) rfl dL_law_930 dL_law_931 dL_law_932 dL_law_933 dL_law_934 rfl ?_
  refine g_arg (k := 2) (pc' := 940) E (by omega) rfl dL_law_935 dL_law_936 dL_law_937 dL_law_938 dL_law_939 rfl ?_
  refine l_callM (pc' := 943) (As := [.int (xs (i + 1)), .int (xs (i + 2))]) (rest := [.int x]) E cl_L_99 (hw1.trans hU) h2 rfl rfl dL_law_940 rfl rfl rfl (Nat.le_of_ble_eq_true rfl) hc ?_
  intro v w2 q2
  obtain ⟨y, rfl⟩ := hF.2.1 v w2 q2
  obtain ⟨e, kG⟩ := hF.2.2 x w1 y w2 q1 q2
  exact g_icmp_eq (pc' := 946) (tgt := 1146) E.1 dL_law_943 (by decide) rfl (fun _ => kG) (fun hne => absurd e hne)
theorem cl_L_100 : CLv RL 100 M6_grows 2 := ⟨ml6_grows, gt4 74 (by decide +kernel) rfl, gt4 75 (by decide +kernel) rfl, gt4 76 (by decide +kernel) rfl⟩
theorem cl_L_103 : CLv RL 103 M7_grows 2 := ⟨ml7_grows, gt6 55 (by decide +kernel) rfl, gt6 56 (by decide +kernel) rfl, gt6 57 (by decide +kernel) rfl⟩
theorem lc_20 {X : GX} {a0 : Nat → Nat} {b L : Nat} {xs : Nat → Int32} {kc ks i : Nat} {U : MW} {fs : List Value} {Q1 Q2 : Option Value → MW → Prop} {σm : RS} {τ : TS} (E : lawE X a0 b L xs) (hi : i + 5 < L) (hc : kc ≤ 600000 ∧ ks ≤ 7302250) (hU : U.length = 54) (hU0 : U[0]? = some (.inr (6, fs))) (h1 : Ok 21 M6_grows [.ref 0, .int (xs (i + 1)), .int (xs (i + 2))] U Q1) (h2 : Ok 21 M7_grows [.ref 0, .int (xs (i + 1)), .int (xs (i + 2))] (WM σm τ) Q2) (hF : FIN (fun w => GEv X MLaw 0 a0 kc ks 1146 (lsL i) [] w) Q1 Q2) : GEv X MLaw 0 a0 kc ks 948 (lsL i) [] (U ++ (WM σm τ).map (renE (sh 54))) := by
  refine g_aload_n (pc' := 949) E.1 dL_law_948 rfl rfl ?_
  refine g_arg (k := 1) (pc' := 954) E (by omega) rfl dL_law_949 dL_law_950 dL_law_951 dL_law_952 dL_law_953 rfl ?_
  refine g_arg (k := 2) (pc' := 959) E (by omega) rfl dL_law_954 dL_law_955 dL_law_956 dL_law_957 dL_law_958 rfl ?_
  refine l_callC (pc' := 962) (fs := fs) (As := [.int (xs (i + 1)), .int (xs (i + 2))]) (rest := []) E cl_L_100 h1 hU0 rfl dL_law_959 rfl rfl rfl (by decide) hc ?_
  intro v w1 q1 hw1
  obtain ⟨x, rfl⟩ := hF.1 v w1 q1
  refine g_aload_n (pc' := 963) E.1 dL_law_962 rfl rfl ?_
  refine g_arg (k := 1) (pc' := 968) E (by omega) rfl dL_law_963 dL_law_964 dL_law_965 dL_law_966 dL_law_967 rfl ?_
  refine g_arg (k := 2) (pc' := 973) E (by omega) rfl dL_law_968 dL_law_969 dL_law_970 dL_law_971 dL_law_972 rfl ?_
  refine l_callM (pc' := 976) (As := [.int (xs (i + 1)), .int (xs (i + 2))]) (rest := [.int x]) E cl_L_103 (hw1.trans hU) h2 rfl rfl dL_law_973 rfl rfl rfl (Nat.le_of_ble_eq_true rfl) hc ?_
  intro v w2 q2
  obtain ⟨y, rfl⟩ := hF.2.1 v w2 q2
  obtain ⟨e, kG⟩ := hF.2.2 x w1 y w2 q1 q2
  exact g_icmp_eq (pc' := 979) (tgt := 1146) E.1 dL_law_976 (by decide) rfl (fun _ => kG) (fun hne => absurd e hne)
theorem cl_L_104 : CLv RL 104 M6_ban 2 := ⟨ml6_ban, gt4 87 (by decide +kernel) rfl, gt4 88 (by decide +kernel) rfl, gt4 89 (by decide +kernel) rfl⟩
theorem cl_L_107 : CLv RL 107 M7_ban 2 := ⟨ml7_ban, gt6 59 (by decide +kernel) rfl, gt6 60 (by decide +kernel) rfl, gt6 61 (by decide +kernel) rfl⟩
theorem lc_21 {X : GX} {a0 : Nat → Nat} {b L : Nat} {xs : Nat → Int32} {kc ks i : Nat} {U : MW} {fs : List Value} {Q1 Q2 : Option Value → MW → Prop} {σm : RS} {τ : TS} (E : lawE X a0 b L xs) (hi : i + 5 < L) (hc : kc ≤ 600000 ∧ ks ≤ 7302250) (hU : U.length = 54) (hU0 : U[0]? = some (.inr (6, fs))) (h1 : Ok 21 M6_ban [.ref 0, .int (xs (i + 1)), .int (xs (i + 2))] U Q1) (h2 : Ok 21 M7_ban [.ref 0, .int (xs (i + 1)), .int (xs (i + 2))] (WM σm τ) Q2) (hF : FIN (fun w => GEv X MLaw 0 a0 kc ks 1146 (lsL i) [] w) Q1 Q2) : GEv X MLaw 0 a0 kc ks 981 (lsL i) [] (U ++ (WM σm τ).map (renE (sh 54))) := by
  refine g_aload_n (pc' := 982) E.1 dL_law_981 rfl rfl ?_
  refine g_arg (k := 1) (pc' := 987) E (by omega) rfl dL_law_982 dL_law_983 dL_law_984 dL_law_985 dL_law_986 rfl ?_
  refine g_arg (k := 2) (pc' := 992) E (by omega) rfl dL_law_987 dL_law_988 dL_law_989 dL_law_990 dL_law_991 rfl ?_
  refine l_callC (pc' := 995) (fs := fs) (As := [.int (xs (i + 1)), .int (xs (i + 2))]) (rest := []) E cl_L_104 h1 hU0 rfl dL_law_992 rfl rfl rfl (by decide) hc ?_
  intro v w1 q1 hw1
  obtain ⟨x, rfl⟩ := hF.1 v w1 q1
  refine g_aload_n (pc' := 996) E.1 dL_law_995 rfl rfl ?_
  refine g_arg (k := 1) (pc' := 1001) E (by omega) rfl dL_law_996 dL_law_997 dL_law_998 dL_law_999 dL_law_1000 rfl ?_
  refine g_arg (k := 2) (pc' := 1006) E (by omega) rfl dL_law_1001 dL_law_1002 dL_law_1003 dL_law_1004 dL_law_1005 rfl ?_
  refine l_callM (pc' := 1009) (As := [.int (xs (i + 1)), .int (xs (i + 2))]) (rest := [.int x]) E cl_L_107 (hw1.trans hU) h2 rfl rfl dL_law_1006 rfl rfl rfl (Nat.le_of_ble_eq_true rfl) hc ?_
  intro v w2 q2
  obtain ⟨y, rfl⟩ := hF.2.1 v w2 q2
  obtain ⟨e, kG⟩ := hF.2.2 x w1 y w2 q1 q2
  exact g_icmp_eq (pc' := 1012) (tgt := 1146) E.1 dL_law_1009 (by decide) rfl (fun _ => kG) (fun hne => absurd e hne)
theorem cl_L_108 : CLv RL 108 M6_counts 2 := ⟨ml6_counts, gt4 95 (by decide +kernel) rfl, gt4 96 (by decide +kernel) rfl, gt4 97 (by decide +kernel) rfl⟩
theorem cl_L_111 : CLv RL 111 M7_counts 2 := ⟨ml7_counts, gt6 99 (by decide +kernel) rfl, gt6 100 (by decide +kernel) rfl, gt6 101 (by decide +kernel) rfl⟩
theorem lc_22 {X : GX} {a0 : Nat → Nat} {b L : Nat} {xs : Nat → Int32} {kc ks i : Nat} {U : MW} {fs : List Value} {Q1 Q2 : Option Value → MW → Prop} {σm : RS} {τ : TS} (E : lawE X a0 b L xs) (hi : i + 5 < L) (hc : kc ≤ 600000 ∧ ks ≤ 7302250) (hU : U.length = 54) (hU0 : U[0]? = some (.inr (6, fs))) (h1 : Ok 21 M6_counts [.ref 0, .int (xs (i + 1)), .int (xs (i + 2))] U Q1) (h2 : Ok 21 M7_counts [.ref 0, .int (xs (i + 1)), .int (xs (i + 2))] (WM σm τ) Q2) (hF : FIN (fun w => GEv X MLaw 0 a0 kc ks 1146 (lsL i) [] w) Q1 Q2) : GEv X MLaw 0 a0 kc ks 1014 (lsL i) [] (U ++ (WM σm τ).map (renE (sh 54))) := by
  refine g_aload_n (pc' := 1015) E.1 dL_law_1014 rfl rfl ?_
  refine g_arg (k := 1) (pc' := 1020) E (by omega) rfl dL_law_1015 dL_law_1016 dL_law_1017 dL_law_1018 dL_law_1019 rfl ?_
  refine g_arg (k := 2) (pc' := 1025) E (by omega) rfl dL_law_1020 dL_law_1021 dL_law_1022 dL_law_1023 dL_law_1024 rfl ?_
  refine l_callC (pc' := 1028) (fs := fs) (As := [.int (xs (i + 1)), .int (xs (i + 2))]) (rest := []) E cl_L_108 h1 hU0 rfl dL_law_1025 rfl rfl rfl (by decide) hc ?_
  intro v w1 q1 hw1
  obtain ⟨x, rfl⟩ := hF.1 v w1 q1
  refine g_aload_n (pc' := 1029) E.1 dL_law_1028 rfl rfl ?_
  refine g_arg (k := 1) (pc' := 1034) E (by omega) rfl dL_law_1029 dL_law_1030 dL_law_1031 dL_law_1032 dL_law_1033 rfl ?_
  refine g_arg (k := 2) (pc' := 1039) E (by omega) rfl dL_law_1034 dL_law_1035 dL_law_1036 dL_law_1037 dL_law_1038 rfl ?_
  refine l_callM (pc' := 1042) (As := [.int (xs (i + 1)), .int (xs (i + 2))]) (rest := [.int x]) E cl_L_111 (hw1.trans hU) h2 rfl rfl dL_law_1039 rfl rfl rfl (Nat.le_of_ble_eq_true rfl) hc ?_
  intro v w2 q2
  obtain ⟨y, rfl⟩ := hF.2.1 v w2 q2
  obtain ⟨e, kG⟩ := hF.2.2 x w1 y w2 q1 q2
  exact g_icmp_eq (pc' := 1045) (tgt := 1146) E.1 dL_law_1042 (by decide) rfl (fun _ => kG) (fun hne => absurd e hne)
theorem cl_L_112 : CLv RL 112 M6_doer 3 := ⟨ml6_doer, gt4 104 (by decide +kernel) rfl, gt4 105 (by decide +kernel) rfl, gt4 106 (by decide +kernel) rfl⟩
theorem cl_L_115 : CLv RL 115 M7_doer 3 := ⟨ml7_doer, gt6 107 (by decide +kernel) rfl, gt6 108 (by decide +kernel) rfl, gt6 109 (by decide +kernel) rfl⟩
theorem lc_23 {X : GX} {a0 : Nat → Nat} {b L : Nat} {xs : Nat → Int32} {kc ks i : Nat} {U : MW} {fs : List Value} {Q1 Q2 : Option Value → MW → Prop} {σm : RS} {τ : TS} (E : lawE X a0 b L xs) (hi : i + 5 < L) (hc : kc ≤ 600000 ∧ ks ≤ 7302250) (hU : U.length = 54) (hU0 : U[0]? = some (.inr (6, fs))) (h1 : Ok 21 M6_doer [.ref 0, .int (xs (i + 1)), .int (xs (i + 2)), .int (xs (i + 3))] U Q1) (h2 : Ok 21 M7_doer [.ref 0, .int (xs (i + 1)), .int (xs (i + 2)), .int (xs (i + 3))] (WM σm τ) Q2) (hF : FIN (fun w => GEv X MLaw 0 a0 kc ks 1146 (lsL i) [] w) Q1 Q2) : GEv X MLaw 0 a0 kc ks 1047 (lsL i) [] (U ++ (WM σm τ).map (renE (sh 54))) := by
  refine g_aload_n (pc' := 1048) E.1 dL_law_1047 rfl rfl ?_
  refine g_arg (k := 1) (pc' := 1053) E (by omega) rfl dL_law_1048 dL_law_1049 dL_law_1050 dL_law_1051 dL_law_1052 rfl ?_
  refine g_arg (k := 2) (pc' := 1058) E (by omega) rfl dL_law_1053 dL_law_1054 dL_law_1055 dL_law_1056 dL_law_1057 rfl ?_
  refine g_arg (k := 3) (pc' := 1063) E (by omega) rfl dL_law_1058 dL_law_1059 dL_law_1060 dL_law_1061 dL_law_1062 rfl ?_
  refine l_callC (pc' := 1066) (fs := fs) (As := [.int (xs (i + 1)), .int (xs (i + 2)), .int (xs (i + 3))]) (rest := []) E cl_L_112 h1 hU0 rfl dL_law_1063 rfl rfl rfl (by decide) hc ?_
  intro v w1 q1 hw1
  obtain ⟨x, rfl⟩ := hF.1 v w1 q1
  refine g_aload_n (pc' := 1067) E.1 dL_law_1066 rfl rfl ?_
  refine g_arg (k := 1) (pc' := 1072) E (by omega) rfl dL_law_1067 dL_law_1068 dL_law_1069 dL_law_1070 dL_law_1071 rfl ?_
  refine g_arg (k := 2) (pc' := 1077) E (by omega) rfl dL_law_1072 dL_law_1073 dL_law_1074 dL_law_1075 dL_law_1076 rfl ?_
  refine g_arg (k := 3) (pc' := 1082) E (by omega) rfl dL_law_1077 dL_law_1078 dL_law_1079 dL_law_1080 dL_law_1081 rfl ?_
  refine l_callM (pc' := 1085) (As := [.int (xs (i + 1)), .int (xs (i + 2)), .int (xs (i + 3))]) (rest := [.int x]) E cl_L_115 (hw1.trans hU) h2 rfl rfl dL_law_1082 rfl rfl rfl (Nat.le_of_ble_eq_true rfl) hc ?_
  intro v w2 q2
  obtain ⟨y, rfl⟩ := hF.2.1 v w2 q2
  obtain ⟨e, kG⟩ := hF.2.2 x w1 y w2 q1 q2
  exact g_icmp_eq (pc' := 1088) (tgt := 1146) E.1 dL_law_1085 (by decide) rfl (fun _ => kG) (fun hne => absurd e hne)
theorem cl_L_116 : CLv RL 116 M6_turned 2 := ⟨ml6_turned, gt4 121 (by decide +kernel) rfl, gt4 122 (by decide +kernel) rfl, gt4 123 (by decide +kernel) rfl⟩
theorem cl_L_119 : CLv RL 119 M7_turned 2 := ⟨ml7_turned, gt6 111 (by decide +kernel) rfl, gt6 112 (by decide +kernel) rfl, gt6 113 (by decide +kernel) rfl⟩
theorem lc_24 {X : GX} {a0 : Nat → Nat} {b L : Nat} {xs : Nat → Int32} {kc ks i : Nat} {U : MW} {fs : List Value} {Q1 Q2 : Option Value → MW → Prop} {σm : RS} {τ : TS} (E : lawE X a0 b L xs) (hi : i + 5 < L) (hc : kc ≤ 600000 ∧ ks ≤ 7302250) (hU : U.length = 54) (hU0 : U[0]? = some (.inr (6, fs))) (h1 : Ok 21 M6_turned [.ref 0, .int (xs (i + 1)), .int (xs (i + 2))] U Q1) (h2 : Ok 21 M7_turned [.ref 0, .int (xs (i + 1)), .int (xs (i + 2))] (WM σm τ) Q2) (hF : FIN (fun w => GEv X MLaw 0 a0 kc ks 1146 (lsL i) [] w) Q1 Q2) : GEv X MLaw 0 a0 kc ks 1090 (lsL i) [] (U ++ (WM σm τ).map (renE (sh 54))) := by
  refine g_aload_n (pc' := 1091) E.1 dL_law_1090 rfl rfl ?_
  refine g_arg (k := 1) (pc' := 1096) E (by omega) rfl dL_law_1091 dL_law_1092 dL_law_1093 dL_law_1094 dL_law_1095 rfl ?_
  refine g_arg (k := 2) (pc' := 1101) E (by omega) rfl dL_law_1096 dL_law_1097 dL_law_1098 dL_law_1099 dL_law_1100 rfl ?_
  refine l_callC (pc' := 1104) (fs := fs) (As := [.int (xs (i + 1)), .int (xs (i + 2))]) (rest := []) E cl_L_116 h1 hU0 rfl dL_law_1101 rfl rfl rfl (by decide) hc ?_
  intro v w1 q1 hw1
  obtain ⟨x, rfl⟩ := hF.1 v w1 q1
  refine g_aload_n (pc' := 1105) E.1 dL_law_1104 rfl rfl ?_
  refine g_arg (k := 1) (pc' := 1110) E (by omega) rfl dL_law_1105 dL_law_1106 dL_law_1107 dL_law_1108 dL_law_1109 rfl ?_
  refine g_arg (k := 2) (pc' := 1115) E (by omega) rfl dL_law_1110 dL_law_1111 dL_law_1112 dL_law_1113 dL_law_1114 rfl ?_
  refine l_callM (pc' := 1118) (As := [.int (xs (i + 1)), .int (xs (i + 2))]) (rest := [.int x]) E cl_L_119 (hw1.trans hU) h2 rfl rfl dL_law_1115 rfl rfl rfl (Nat.le_of_ble_eq_true rfl) hc ?_
  intro v w2 q2
  obtain ⟨y, rfl⟩ := hF.2.1 v w2 q2
  obtain ⟨e, kG⟩ := hF.2.2 x w1 y w2 q1 q2
  exact g_icmp_eq (pc' := 1121) (tgt := 1146) E.1 dL_law_1118 (by decide) rfl (fun _ => kG) (fun hne => absurd e hne)
theorem cl_L_120 : CLv RL 120 M6_count 1 := ⟨ml6_count, gt4 126 (by decide +kernel) rfl, gt4 127 (by decide +kernel) rfl, gt4 128 (by decide +kernel) rfl⟩
theorem cl_L_123 : CLv RL 123 M7_count 1 := ⟨ml7_count, gt6 115 (by decide +kernel) rfl, gt6 116 (by decide +kernel) rfl, gt6 117 (by decide +kernel) rfl⟩
theorem lc_25 {X : GX} {a0 : Nat → Nat} {b L : Nat} {xs : Nat → Int32} {kc ks i : Nat} {U : MW} {fs : List Value} {Q1 Q2 : Option Value → MW → Prop} {σm : RS} {τ : TS} (E : lawE X a0 b L xs) (hi : i + 5 < L) (hc : kc ≤ 600000 ∧ ks ≤ 7302250) (hU : U.length = 54) (hU0 : U[0]? = some (.inr (6, fs))) (h1 : Ok 21 M6_count [.ref 0, .int (xs (i + 1))] U Q1) (h2 : Ok 21 M7_count [.ref 0, .int (xs (i + 1))] (WM σm τ) Q2) (hF : FIN (fun w => GEv X MLaw 0 a0 kc ks 1146 (lsL i) [] w) Q1 Q2) : GEv X MLaw 0 a0 kc ks 1123 (lsL i) [] (U ++ (WM σm τ).map (renE (sh 54))) := by
  refine g_aload_n (pc' := 1124) E.1 dL_law_1123 rfl rfl ?_
  refine g_arg (k := 1) (pc' := 1129) E (by omega) rfl dL_law_1124 dL_law_1125 dL_law_1126 dL_law_1127 dL_law_1128 rfl ?_
  refine l_callC (pc' := 1132) (fs := fs) (As := [.int (xs (i + 1))]) (rest := []) E cl_L_120 h1 hU0 rfl dL_law_1129 rfl rfl rfl (by decide) hc ?_
  intro v w1 q1 hw1
  obtain ⟨x, rfl⟩ := hF.1 v w1 q1
  refine g_aload_n (pc' := 1133) E.1 dL_law_1132 rfl rfl ?_
  refine g_arg (k := 1) (pc' := 1138) E (by omega) rfl dL_law_1133 dL_law_1134 dL_law_1135 dL_law_1136 dL_law_1137 rfl ?_
  refine l_callM (pc' := 1141) (As := [.int (xs (i + 1))]) (rest := [.int x]) E cl_L_123 (hw1.trans hU) h2 rfl rfl dL_law_1138 rfl rfl rfl (Nat.le_of_ble_eq_true rfl) hc ?_
  intro v w2 q2
  obtain ⟨y, rfl⟩ := hF.2.1 v w2 q2
  obtain ⟨e, kG⟩ := hF.2.2 x w1 y w2 q1 q2
  exact g_icmp_eq (pc' := 1144) (tgt := 1146) E.1 dL_law_1141 (by decide) rfl (fun _ => kG) (fun hne => absurd e hne)
