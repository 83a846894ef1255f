set_option maxHeartbeats 4000000 in
set_option maxRecDepth 100000 in
theorem lc_setPeople {p : Program} {l : Launch} {e : Env} {s : State} {m : MethodId} {below : List Frame} {meth : Method} {c : Code} {b L : Nat} {xs : Nat → Int32} {D : va_G} {q : Nat → ClassId} {e0 i k9 n9 : Nat} (E : lEnv p l s m meth c b L xs D q e0) (hL : L ≤ 3072) (hi : i + 6 ≤ L) (hk : k9 + 9 ≤ 601024) (hn9 : n9 + 97 ≤ 7293034) (kk : lK p l e s m below meth c b D q e0 i (k9 + 9) (n9 + 97) 2026) : lK p l e s m below meth c b D q e0 i k9 n9 176 := by
  obtain ⟨⟨hx, hb, hr, hml, hown, hts0, hX0, hbl, hlocks, -⟩, hK, hX, hE, hl0⟩ := id E
  have hts := lEnv_hts hts0
  have hbA : ¬ lA s b := Nat.not_le.mpr hbl
  rintro H locs ls ⟨S, T, a, am, o, g, cap, n, w, nl, L9, hP, hS, hR, hcap, hl⟩
  have hA : ∀ z : Nat, H.size ≤ z → lA s z := fun z hz => Nat.le_trans hS.1 hz
  obtain ⟨⟨a1, a2, a3⟩, ⟨b1, b2, b3⟩, ⟨c1, c2⟩, d1, d2, d3⟩ := hR.1.2.1
  have hnl : nl ≤ cap ∧ cap ≤ 40 ∧ nl ≤ 30 := ⟨hcap.2, hcap.le, c2⟩
  refine lv_aload_n hx hb dL_law_176 rfl (lv_at hl 1 rfl) ?_
  refine k_arg hx hb hX0 hbl hbA hS hl 0 4 rfl rfl 1 (by decide) (by omega) hL dL_law_177 dL_law_178 dL_law_180 dL_law_181 dL_law_182 ?_
  refine k_arg hx hb hX0 hbl hbA hS hl 0 4 rfl rfl 2 (by decide) (by omega) hL dL_law_183 dL_law_184 dL_law_186 dL_law_187 dL_law_188 ?_
  refine k_arg hx hb hX0 hbl hbA hS hl 0 4 rfl rfl 3 (by decide) (by omega) hL dL_law_189 dL_law_190 dL_law_192 dL_law_193 dL_law_194 ?_
  refine lv_aload_n hx hb dL_law_195 rfl (lv_at hl 3 rfl) ?_
  refine k_goW hP (fun z hz => hz) hS (vx_runSW (rest := []) ⟨hx, hb, hml, hown, hts⟩ (c_L_setPeople l hl0 D q (va_A (wO q o g (wC q a S cap nl)) H.size) a S cap nl o g (xs (i + 1)) (xs (i + 2)) (xs (i + 3)) ) (vx_cwSW 5 hts gL_law_L_setPeople rfl rfl rfl (by decide +kernel) ⟨Nat.le_of_ble_eq_true rfl, Nat.le_of_ble_eq_true rfl⟩) ⟨kBL_blind, fun U hU hW => ⟨rfl, ⟨by rw [hU]; exact kW_cut hP, hK.warm hW, (hX.at hS hU hW).narrow (kW_sub hP hA)⟩, fun z9 h9 => Or.inr (by rw [← hU]; exact h9)⟩⟩ rfl rfl hl.1 rfl (lv_room (Nat.le_of_ble_eq_true rfl)) dL_law_196 ⟨by show k9 + 3 ≤ 601024; omega, by show n9 + 18 ≤ 7293034; omega⟩) (fun H1 locs1 hP hS => ?_)
  refine lv_istore (lv' := [(5, .int (coSetPeople S (xs (i + 1)) (xs (i + 2)) (xs (i + 3))).1), (0, .ref b), (1, .ref (a 0)), (2, .ref (am 0)), (3, .ref o), (4, .int (nI i))]) hx hb dL_law_199 hl (by decide) rfl (fun ls hl => ?_)
  refine lv_aload_n hx hb dL_law_201 rfl (lv_at hl 3 rfl) ?_
  refine k_arg hx hb hX0 hbl hbA hS hl 1 5 rfl rfl 1 (by decide) (by omega) hL dL_law_202 dL_law_203 dL_law_205 dL_law_206 dL_law_207 ?_
  refine k_arg hx hb hX0 hbl hbA hS hl 1 5 rfl rfl 2 (by decide) (by omega) hL dL_law_208 dL_law_209 dL_law_211 dL_law_212 dL_law_213 ?_
  refine k_arg hx hb hX0 hbl hbA hS hl 1 5 rfl rfl 3 (by decide) (by omega) hL dL_law_214 dL_law_215 dL_law_217 dL_law_218 dL_law_219 ?_
  have hP2 := kW_comm hP
  refine k_goW hP2 (fun z hz => hz) hS (va_runV (rest := []) ⟨hx, hb, hml, hown, hts⟩ (c_X5_setPeople l D q (va_A (wM q am T) H1.size) am T (xs (i + 1)) (xs (i + 2)) (xs (i + 3)) ) (cwV 3 hts gL_law_X5_setPeople rfl rfl rfl (by decide +kernel) ⟨Nat.le_of_ble_eq_true rfl, Nat.le_of_ble_eq_true rfl⟩) ⟨kB_blind, (va_recv hK.1 (kW_r hP2).1 (ci := 6) (q0 := 0) rfl rfl), fun U hU hW => ⟨rfl, by rw [hU]; exact kW_cut hP2, hK.warm hW⟩⟩ rfl rfl hl.1 rfl (lv_room (Nat.le_of_ble_eq_true rfl)) dL_law_220 ⟨by show k9 + 3 + 0 ≤ 601024; omega, by show n9 + 18 + 0 ≤ 7293034; omega⟩) (fun H2 locs2 hP hS => ?_)
  obtain ⟨hans, n2, w2, L2, hR2⟩ := both_setPeople hR (xs (i + 1)) (xs (i + 2)) (xs (i + 3))
  exact k_tail E (by omega) (by omega) hk hn9 kk dL_law_223 dL_law_225 dL_law_226 dL_law_229 dL_law_231 dL_law_236 dL_law_238 dL_law_241 dL_law_242 dL_law_243 dL_law_244 dL_law_246 dL_law_247 dL_law_248 dL_law_253 (by decide) hans hR2 hcap outG_0 hP hS hl
set_option maxHeartbeats 4000000 in
set_option maxRecDepth 100000 in
theorem lc_pass {p : Program} {l : Launch} {e : Env} {s : State} {m : MethodId} {below : List Frame} {meth : Method} {c : Code} {b L : Nat} {xs : Nat → Int32} {D : va_G} {q : Nat → ClassId} {e0 i k9 n9 : Nat} (E : lEnv p l s m meth c b L xs D q e0) (hL : L ≤ 3072) (hi : i + 6 ≤ L) (hk : k9 + 9 ≤ 601024) (hn9 : n9 + 97 ≤ 7293034) (kk : lK p l e s m below meth c b D q e0 i (k9 + 9) (n9 + 97) 2026) : lK p l e s m below meth c b D q e0 i k9 n9 256 := by
  obtain ⟨⟨hx, hb, hr, hml, hown, hts0, hX0, hbl, hlocks, -⟩, hK, hX, hE, hl0⟩ := id E
  have hts := lEnv_hts hts0
  have hbA : ¬ lA s b := Nat.not_le.mpr hbl
  rintro H locs ls ⟨S, T, a, am, o, g, cap, n, w, nl, L9, hP, hS, hR, hcap, hl⟩
  have hA : ∀ z : Nat, H.size ≤ z → lA s z := fun z hz => Nat.le_trans hS.1 hz
  obtain ⟨⟨a1, a2, a3⟩, ⟨b1, b2, b3⟩, ⟨c1, c2⟩, d1, d2, d3⟩ := hR.1.2.1
  have hnl : nl ≤ cap ∧ cap ≤ 40 ∧ nl ≤ 30 := ⟨hcap.2, hcap.le, c2⟩
  refine lv_aload_n hx hb dL_law_256 rfl (lv_at hl 1 rfl) ?_
  refine k_arg hx hb hX0 hbl hbA hS hl 0 4 rfl rfl 1 (by decide) (by omega) hL dL_law_257 dL_law_258 dL_law_260 dL_law_261 dL_law_262 ?_
  refine lv_aload_n hx hb dL_law_263 rfl (lv_at hl 3 rfl) ?_
  refine k_goW hP (fun z hz => hz) hS (vx_runSW (rest := []) ⟨hx, hb, hml, hown, hts⟩ (c_L_pass l hl0 D q (va_A (wO q o g (wC q a S cap nl)) H.size) a S cap nl o g (xs (i + 1)) n w b1 b3 hnl a1 a3 (Rel_okC hR.1) (Rel_okL hR.1)) (vx_cwSW 3 hts gL_law_L_pass rfl rfl rfl (by decide +kernel) ⟨Nat.le_of_ble_eq_true rfl, Nat.le_of_ble_eq_true rfl⟩) ⟨kBL_blind, fun U hU hW => ⟨rfl, ⟨by rw [hU]; exact kW_cut hP, hK.warm hW, (hX.at hS hU hW).narrow (kW_sub hP hA)⟩, fun z9 h9 => Or.inr (by rw [← hU]; exact h9)⟩⟩ rfl rfl hl.1 rfl (lv_room (Nat.le_of_ble_eq_true rfl)) dL_law_264 ⟨by show k9 + 2 ≤ 601024; omega, by show n9 + 12 ≤ 7293034; omega⟩) (fun H1 locs1 hP hS => ?_)
  refine lv_istore (lv' := [(5, .int (coPass S n nl w (xs (i + 1))).1), (0, .ref b), (1, .ref (a 0)), (2, .ref (am 0)), (3, .ref o), (4, .int (nI i))]) hx hb dL_law_267 hl (by decide) rfl (fun ls hl => ?_)
  refine lv_aload_n hx hb dL_law_269 rfl (lv_at hl 3 rfl) ?_
  refine k_arg hx hb hX0 hbl hbA hS hl 1 5 rfl rfl 1 (by decide) (by omega) hL dL_law_270 dL_law_271 dL_law_273 dL_law_274 dL_law_275 ?_
  have hP2 := kW_comm hP
  refine k_goW hP2 (fun z hz => hz) hS (va_runV (rest := []) ⟨hx, hb, hml, hown, hts⟩ (c_X5_pass l D q (va_A (wM q am T) H1.size) am T (xs (i + 1)) w a2 a3 (Rel_okML hR.1)) (cwV 1 hts gL_law_X5_pass rfl rfl rfl (by decide +kernel) ⟨Nat.le_of_ble_eq_true rfl, Nat.le_of_ble_eq_true rfl⟩) ⟨kB_blind, (va_recv hK.1 (kW_r hP2).1 (ci := 6) (q0 := 0) rfl rfl), fun U hU hW => ⟨rfl, by rw [hU]; exact kW_cut hP2, hK.warm hW⟩⟩ rfl rfl hl.1 rfl (lv_room (Nat.le_of_ble_eq_true rfl)) dL_law_276 ⟨by show k9 + 2 + 0 ≤ 601024; omega, by show n9 + 12 + 0 ≤ 7293034; omega⟩) (fun H2 locs2 hP hS => ?_)
  obtain ⟨hans, n2, w2, L2, hR2⟩ := both_pass hR (xs (i + 1))
  exact k_tail E (by omega) (by omega) hk hn9 kk dL_law_279 dL_law_281 dL_law_282 dL_law_285 dL_law_287 dL_law_292 dL_law_294 dL_law_297 dL_law_298 dL_law_299 dL_law_300 dL_law_302 dL_law_303 dL_law_304 dL_law_309 (by decide) hans hR2 hcap outG_0 hP hS hl
set_option maxHeartbeats 4000000 in
set_option maxRecDepth 100000 in
theorem lc_setLamp {p : Program} {l : Launch} {e : Env} {s : State} {m : MethodId} {below : List Frame} {meth : Method} {c : Code} {b L : Nat} {xs : Nat → Int32} {D : va_G} {q : Nat → ClassId} {e0 i k9 n9 : Nat} (E : lEnv p l s m meth c b L xs D q e0) (hL : L ≤ 3072) (hi : i + 6 ≤ L) (hk : k9 + 9 ≤ 601024) (hn9 : n9 + 97 ≤ 7293034) (kk : lK p l e s m below meth c b D q e0 i (k9 + 9) (n9 + 97) 2026) : lK p l e s m below meth c b D q e0 i k9 n9 312 := by
  obtain ⟨⟨hx, hb, hr, hml, hown, hts0, hX0, hbl, hlocks, -⟩, hK, hX, hE, hl0⟩ := id E
  have hts := lEnv_hts hts0
  have hbA : ¬ lA s b := Nat.not_le.mpr hbl
  rintro H locs ls ⟨S, T, a, am, o, g, cap, n, w, nl, L9, hP, hS, hR, hcap, hl⟩
  have hA : ∀ z : Nat, H.size ≤ z → lA s z := fun z hz => Nat.le_trans hS.1 hz
  obtain ⟨⟨a1, a2, a3⟩, ⟨b1, b2, b3⟩, ⟨c1, c2⟩, d1, d2, d3⟩ := hR.1.2.1
  have hnl : nl ≤ cap ∧ cap ≤ 40 ∧ nl ≤ 30 := ⟨hcap.2, hcap.le, c2⟩
  refine lv_aload_n hx hb dL_law_312 rfl (lv_at hl 1 rfl) ?_
  refine k_arg hx hb hX0 hbl hbA hS hl 0 4 rfl rfl 1 (by decide) (by omega) hL dL_law_313 dL_law_314 dL_law_316 dL_law_317 dL_law_318 ?_
  refine k_arg hx hb hX0 hbl hbA hS hl 0 4 rfl rfl 2 (by decide) (by omega) hL dL_law_319 dL_law_320 dL_law_322 dL_law_323 dL_law_324 ?_
  refine k_bool hx hb dL_law_325 dL_law_328 dL_law_329 dL_law_332 ?_
  refine k_arg hx hb hX0 hbl hbA hS hl 0 4 rfl rfl 3 (by decide) (by omega) hL dL_law_333 dL_law_334 dL_law_336 dL_law_337 dL_law_338 ?_
  refine lv_aload_n hx hb dL_law_339 rfl (lv_at hl 3 rfl) ?_
  refine k_goW hP (fun z hz => hz) hS (vx_runSW (rest := []) ⟨hx, hb, hml, hown, hts⟩ (c_L_setLamp l hl0 D q (va_A (wO q o g (wC q a S cap nl)) H.size) a S cap nl o g (xs (i + 1)) (bI (¬ xs (i + 2) = 0)) (xs (i + 3)) ) (vx_cwSW 5 hts gL_law_L_setLamp rfl rfl rfl (by decide +kernel) ⟨Nat.le_of_ble_eq_true rfl, Nat.le_of_ble_eq_true rfl⟩) ⟨kBL_blind, fun U hU hW => ⟨rfl, ⟨by rw [hU]; exact kW_cut hP, hK.warm hW, (hX.at hS hU hW).narrow (kW_sub hP hA)⟩, fun z9 h9 => Or.inr (by rw [← hU]; exact h9)⟩⟩ rfl rfl hl.1 rfl (lv_room (Nat.le_of_ble_eq_true rfl)) dL_law_340 ⟨by show k9 + 2 ≤ 601024; omega, by show n9 + 12 ≤ 7293034; omega⟩) (fun H1 locs1 hP hS => ?_)
  refine lv_istore (lv' := [(5, .int (coSetLamp S (xs (i + 1)) (bI (¬ xs (i + 2) = 0)) (xs (i + 3))).1), (0, .ref b), (1, .ref (a 0)), (2, .ref (am 0)), (3, .ref o), (4, .int (nI i))]) hx hb dL_law_343 hl (by decide) rfl (fun ls hl => ?_)
  refine lv_aload_n hx hb dL_law_345 rfl (lv_at hl 3 rfl) ?_
  refine k_arg hx hb hX0 hbl hbA hS hl 1 5 rfl rfl 1 (by decide) (by omega) hL dL_law_346 dL_law_347 dL_law_349 dL_law_350 dL_law_351 ?_
  refine k_arg hx hb hX0 hbl hbA hS hl 1 5 rfl rfl 2 (by decide) (by omega) hL dL_law_352 dL_law_353 dL_law_355 dL_law_356 dL_law_357 ?_
  refine k_bool hx hb dL_law_358 dL_law_361 dL_law_362 dL_law_365 ?_
  refine k_arg hx hb hX0 hbl hbA hS hl 1 5 rfl rfl 3 (by decide) (by omega) hL dL_law_366 dL_law_367 dL_law_369 dL_law_370 dL_law_371 ?_
  have hP2 := kW_comm hP
  refine k_goW hP2 (fun z hz => hz) hS (va_runV (rest := []) ⟨hx, hb, hml, hown, hts⟩ (c_X5_setLamp l D q (va_A (wM q am T) H1.size) am T (xs (i + 1)) (bI (¬ xs (i + 2) = 0)) (xs (i + 3)) ) (cwV 3 hts gL_law_X5_setLamp rfl rfl rfl (by decide +kernel) ⟨Nat.le_of_ble_eq_true rfl, Nat.le_of_ble_eq_true rfl⟩) ⟨kB_blind, (va_recv hK.1 (kW_r hP2).1 (ci := 6) (q0 := 0) rfl rfl), fun U hU hW => ⟨rfl, by rw [hU]; exact kW_cut hP2, hK.warm hW⟩⟩ rfl rfl hl.1 rfl (lv_room (Nat.le_of_ble_eq_true rfl)) dL_law_372 ⟨by show k9 + 2 + 0 ≤ 601024; omega, by show n9 + 12 + 0 ≤ 7293034; omega⟩) (fun H2 locs2 hP hS => ?_)
  obtain ⟨hans, n2, w2, L2, hR2⟩ := both_setLamp hR (xs (i + 1)) (bI (¬ xs (i + 2) = 0)) (xs (i + 3))
  exact k_tail E (by omega) (by omega) hk hn9 kk dL_law_375 dL_law_377 dL_law_378 dL_law_381 dL_law_383 dL_law_388 dL_law_390 dL_law_393 dL_law_394 dL_law_395 dL_law_396 dL_law_398 dL_law_399 dL_law_400 dL_law_405 (by decide) hans hR2 hcap outG_0 hP hS hl
set_option maxHeartbeats 4000000 in
set_option maxRecDepth 100000 in
theorem lc_find {p : Program} {l : Launch} {e : Env} {s : State} {m : MethodId} {below : List Frame} {meth : Method} {c : Code} {b L : Nat} {xs : Nat → Int32} {D : va_G} {q : Nat → ClassId} {e0 i k9 n9 : Nat} (E : lEnv p l s m meth c b L xs D q e0) (hL : L ≤ 3072) (hi : i + 6 ≤ L) (hk : k9 + 9 ≤ 601024) (hn9 : n9 + 97 ≤ 7293034) (kk : lK p l e s m below meth c b D q e0 i (k9 + 9) (n9 + 97) 2026) : lK p l e s m below meth c b D q e0 i k9 n9 408 := by
  obtain ⟨⟨hx, hb, hr, hml, hown, hts0, hX0, hbl, hlocks, -⟩, hK, hX, hE, hl0⟩ := id E
  have hts := lEnv_hts hts0
  have hbA : ¬ lA s b := Nat.not_le.mpr hbl
  rintro H locs ls ⟨S, T, a, am, o, g, cap, n, w, nl, L9, hP, hS, hR, hcap, hl⟩
  have hA : ∀ z : Nat, H.size ≤ z → lA s z := fun z hz => Nat.le_trans hS.1 hz
  obtain ⟨⟨a1, a2, a3⟩, ⟨b1, b2, b3⟩, ⟨c1, c2⟩, d1, d2, d3⟩ := hR.1.2.1
  have hnl : nl ≤ cap ∧ cap ≤ 40 ∧ nl ≤ 30 := ⟨hcap.2, hcap.le, c2⟩
  refine lv_aload_n hx hb dL_law_408 rfl (lv_at hl 1 rfl) ?_
  refine k_arg hx hb hX0 hbl hbA hS hl 0 4 rfl rfl 1 (by decide) (by omega) hL dL_law_409 dL_law_410 dL_law_412 dL_law_413 dL_law_414 ?_
  refine k_arg hx hb hX0 hbl hbA hS hl 0 4 rfl rfl 2 (by decide) (by omega) hL dL_law_415 dL_law_416 dL_law_418 dL_law_419 dL_law_420 ?_
  refine k_arg hx hb hX0 hbl hbA hS hl 0 4 rfl rfl 3 (by decide) (by omega) hL dL_law_421 dL_law_422 dL_law_424 dL_law_425 dL_law_426 ?_
  refine lv_aload_n hx hb dL_law_427 rfl (lv_at hl 3 rfl) ?_
  refine k_goW hP (fun z hz => hz) hS (vx_runSW (rest := []) ⟨hx, hb, hml, hown, hts⟩ (c_L_find l hl0 D q (va_A (wO q o g (wC q a S cap nl)) H.size) a S cap nl o g (xs (i + 1)) (xs (i + 2)) (xs (i + 3)) n w b1 b3 hnl a1 a3) (vx_cwSW 5 hts gL_law_L_find rfl rfl rfl (by decide +kernel) ⟨Nat.le_of_ble_eq_true rfl, Nat.le_of_ble_eq_true rfl⟩) ⟨kBL_blind, fun U hU hW => ⟨rfl, ⟨by rw [hU]; exact kW_cut hP, hK.warm hW, (hX.at hS hU hW).narrow (kW_sub hP hA)⟩, fun z9 h9 => Or.inr (by rw [← hU]; exact h9)⟩⟩ rfl rfl hl.1 rfl (lv_room (Nat.le_of_ble_eq_true rfl)) dL_law_428 ⟨by show k9 + 4 ≤ 601024; omega, by show n9 + 24 ≤ 7293034; omega⟩) (fun H1 locs1 hP hS => ?_)
  refine lv_istore (lv' := [(5, .int (coFind S n w nl (xs (i + 1)) (xs (i + 2)) (xs (i + 3))).1), (0, .ref b), (1, .ref (a 0)), (2, .ref (am 0)), (3, .ref o), (4, .int (nI i))]) hx hb dL_law_431 hl (by decide) rfl (fun ls hl => ?_)
  refine lv_aload_n hx hb dL_law_433 rfl (lv_at hl 3 rfl) ?_
  refine k_arg hx hb hX0 hbl hbA hS hl 1 5 rfl rfl 1 (by decide) (by omega) hL dL_law_434 dL_law_435 dL_law_437 dL_law_438 dL_law_439 ?_
  refine k_arg hx hb hX0 hbl hbA hS hl 1 5 rfl rfl 2 (by decide) (by omega) hL dL_law_440 dL_law_441 dL_law_443 dL_law_444 dL_law_445 ?_
  refine k_arg hx hb hX0 hbl hbA hS hl 1 5 rfl rfl 3 (by decide) (by omega) hL dL_law_446 dL_law_447 dL_law_449 dL_law_450 dL_law_451 ?_
  have hP2 := kW_comm hP
  refine k_goW hP2 (fun z hz => hz) hS (va_runV (rest := []) ⟨hx, hb, hml, hown, hts⟩ (c_X5_find l D q (va_A (wM q am T) H1.size) am T (xs (i + 1)) (xs (i + 2)) (xs (i + 3)) n w nl b2 b3 hR.1.2.2.1.1 a2 a3 c1 c2 (Rel_okM hR.1)) (cwV 3 hts gL_law_X5_find rfl rfl rfl (by decide +kernel) ⟨Nat.le_of_ble_eq_true rfl, Nat.le_of_ble_eq_true rfl⟩) ⟨kB_blind, (va_recv hK.1 (kW_r hP2).1 (ci := 6) (q0 := 0) rfl rfl), fun U hU hW => ⟨rfl, by rw [hU]; exact kW_cut hP2, hK.warm hW⟩⟩ rfl rfl hl.1 rfl (lv_room (Nat.le_of_ble_eq_true rfl)) dL_law_452 ⟨by show k9 + 4 + 0 ≤ 601024; omega, by show n9 + 24 + 0 ≤ 7293034; omega⟩) (fun H2 locs2 hP hS => ?_)
  obtain ⟨hans, n2, w2, L2, hR2⟩ := both_find hR (xs (i + 1)) (xs (i + 2)) (xs (i + 3))
  exact k_tail E (by omega) (by omega) hk hn9 kk dL_law_455 dL_law_457 dL_law_458 dL_law_461 dL_law_463 dL_law_468 dL_law_470 dL_law_473 dL_law_474 dL_law_475 dL_law_476 dL_law_478 dL_law_479 dL_law_480 dL_law_485 (by decide) hans hR2 hcap outG_0 hP hS hl
set_option maxHeartbeats 4000000 in
set_option maxRecDepth 100000 in
theorem lc_turnUp {p : Program} {l : Launch} {e : Env} {s : State} {m : MethodId} {below : List Frame} {meth : Method} {c : Code} {b L : Nat} {xs : Nat → Int32} {D : va_G} {q : Nat → ClassId} {e0 i k9 n9 : Nat} (E : lEnv p l s m meth c b L xs D q e0) (hL : L ≤ 3072) (hi : i + 6 ≤ L) (hk : k9 + 9 ≤ 601024) (hn9 : n9 + 97 ≤ 7293034) (kk : lK p l e s m below meth c b D q e0 i (k9 + 9) (n9 + 97) 2026) : lK p l e s m below meth c b D q e0 i k9 n9 488 := by
  obtain ⟨⟨hx, hb, hr, hml, hown, hts0, hX0, hbl, hlocks, -⟩, hK, hX, hE, hl0⟩ := id E
  have hts := lEnv_hts hts0
  have hbA : ¬ lA s b := Nat.not_le.mpr hbl
  rintro H locs ls ⟨S, T, a, am, o, g, cap, n, w, nl, L9, hP, hS, hR, hcap, hl⟩
  have hA : ∀ z : Nat, H.size ≤ z → lA s z := fun z hz => Nat.le_trans hS.1 hz
  obtain ⟨⟨a1, a2, a3⟩, ⟨b1, b2, b3⟩, ⟨c1, c2⟩, d1, d2, d3⟩ := hR.1.2.1
  have hnl : nl ≤ cap ∧ cap ≤ 40 ∧ nl ≤ 30 := ⟨hcap.2, hcap.le, c2⟩
  refine lv_aload_n hx hb dL_law_488 rfl (lv_at hl 1 rfl) ?_
  refine k_arg hx hb hX0 hbl hbA hS hl 0 4 rfl rfl 1 (by decide) (by omega) hL dL_law_489 dL_law_490 dL_law_492 dL_law_493 dL_law_494 ?_
  refine k_arg hx hb hX0 hbl hbA hS hl 0 4 rfl rfl 2 (by decide) (by omega) hL dL_law_495 dL_law_496 dL_law_498 dL_law_499 dL_law_500 ?_
  refine k_arg hx hb hX0 hbl hbA hS hl 0 4 rfl rfl 3 (by decide) (by omega) hL dL_law_501 dL_law_502 dL_law_504 dL_law_505 dL_law_506 ?_
  refine lv_aload_n hx hb dL_law_507 rfl (lv_at hl 3 rfl) ?_
  refine k_goW hP (fun z hz => hz) hS (vx_runSW (rest := []) ⟨hx, hb, hml, hown, hts⟩ (c_L_turnUp l hl0 D q (va_A (wO q o g (wC q a S cap nl)) H.size) a S cap nl o g (xs (i + 1)) (xs (i + 2)) (xs (i + 3)) n w b1 b3 hnl a1 a3) (vx_cwSW 5 hts gL_law_L_turnUp rfl rfl rfl (by decide +kernel) ⟨Nat.le_of_ble_eq_true rfl, Nat.le_of_ble_eq_true rfl⟩) ⟨kBL_blind, fun U hU hW => ⟨rfl, ⟨by rw [hU]; exact kW_cut hP, hK.warm hW, (hX.at hS hU hW).narrow (kW_sub hP hA)⟩, fun z9 h9 => Or.inr (by rw [← hU]; exact h9)⟩⟩ rfl rfl hl.1 rfl (lv_room (Nat.le_of_ble_eq_true rfl)) dL_law_508 ⟨by show k9 + 4 ≤ 601024; omega, by show n9 + 24 ≤ 7293034; omega⟩) (fun H1 locs1 hP hS => ?_)
  refine lv_istore (lv' := [(5, .int (coTurnUp S n nl (xs (i + 1)) (xs (i + 2)) (xs (i + 3))).1), (0, .ref b), (1, .ref (a 0)), (2, .ref (am 0)), (3, .ref o), (4, .int (nI i))]) hx hb dL_law_511 hl (by decide) rfl (fun ls hl => ?_)
  refine lv_aload_n hx hb dL_law_513 rfl (lv_at hl 3 rfl) ?_
  refine k_arg hx hb hX0 hbl hbA hS hl 1 5 rfl rfl 1 (by decide) (by omega) hL dL_law_514 dL_law_515 dL_law_517 dL_law_518 dL_law_519 ?_
  refine k_arg hx hb hX0 hbl hbA hS hl 1 5 rfl rfl 2 (by decide) (by omega) hL dL_law_520 dL_law_521 dL_law_523 dL_law_524 dL_law_525 ?_
  refine k_arg hx hb hX0 hbl hbA hS hl 1 5 rfl rfl 3 (by decide) (by omega) hL dL_law_526 dL_law_527 dL_law_529 dL_law_530 dL_law_531 ?_
  have hP2 := kW_comm hP
  refine k_goW hP2 (fun z hz => hz) hS (va_runV (rest := []) ⟨hx, hb, hml, hown, hts⟩ (c_X5_turnUp l D q (va_A (wM q am T) H1.size) am T (xs (i + 1)) (xs (i + 2)) (xs (i + 3)) n w nl b2 b3 hR.1.2.2.1.1 a2 a3 c1 c2 (Rel_okM hR.1)) (cwV 3 hts gL_law_X5_turnUp rfl rfl rfl (by decide +kernel) ⟨Nat.le_of_ble_eq_true rfl, Nat.le_of_ble_eq_true rfl⟩) ⟨kB_blind, (va_recv hK.1 (kW_r hP2).1 (ci := 6) (q0 := 0) rfl rfl), fun U hU hW => ⟨rfl, by rw [hU]; exact kW_cut hP2, hK.warm hW⟩⟩ rfl rfl hl.1 rfl (lv_room (Nat.le_of_ble_eq_true rfl)) dL_law_532 ⟨by show k9 + 4 + 0 ≤ 601024; omega, by show n9 + 24 + 0 ≤ 7293034; omega⟩) (fun H2 locs2 hP hS => ?_)
  obtain ⟨hans, n2, w2, L2, hR2⟩ := both_turnUp hR (xs (i + 1)) (xs (i + 2)) (xs (i + 3))
  exact k_tail E (by omega) (by omega) hk hn9 kk dL_law_535 dL_law_537 dL_law_538 dL_law_541 dL_law_543 dL_law_548 dL_law_550 dL_law_553 dL_law_554 dL_law_555 dL_law_556 dL_law_558 dL_law_559 dL_law_560 dL_law_565 (by decide) hans hR2 hcap outG_0 hP hS hl
set_option maxHeartbeats 4000000 in
set_option maxRecDepth 100000 in
theorem lc_lease {p : Program} {l : Launch} {e : Env} {s : State} {m : MethodId} {below : List Frame} {meth : Method} {c : Code} {b L : Nat} {xs : Nat → Int32} {D : va_G} {q : Nat → ClassId} {e0 i k9 n9 : Nat} (E : lEnv p l s m meth c b L xs D q e0) (hL : L ≤ 3072) (hi : i + 6 ≤ L) (hk : k9 + 9 ≤ 601024) (hn9 : n9 + 97 ≤ 7293034) (kk : lK p l e s m below meth c b D q e0 i (k9 + 9) (n9 + 97) 2026) : lK p l e s m below meth c b D q e0 i k9 n9 568 := by
  obtain ⟨⟨hx, hb, hr, hml, hown, hts0, hX0, hbl, hlocks, -⟩, hK, hX, hE, hl0⟩ := id E
  have hts := lEnv_hts hts0
  have hbA : ¬ lA s b := Nat.not_le.mpr hbl
  rintro H locs ls ⟨S, T, a, am, o, g, cap, n, w, nl, L9, hP, hS, hR, hcap, hl⟩
  have hA : ∀ z : Nat, H.size ≤ z → lA s z := fun z hz => Nat.le_trans hS.1 hz
  obtain ⟨⟨a1, a2, a3⟩, ⟨b1, b2, b3⟩, ⟨c1, c2⟩, d1, d2, d3⟩ := hR.1.2.1
  have hnl : nl ≤ cap ∧ cap ≤ 40 ∧ nl ≤ 30 := ⟨hcap.2, hcap.le, c2⟩
  refine lv_aload_n hx hb dL_law_568 rfl (lv_at hl 1 rfl) ?_
  refine k_arg hx hb hX0 hbl hbA hS hl 0 4 rfl rfl 1 (by decide) (by omega) hL dL_law_569 dL_law_570 dL_law_572 dL_law_573 dL_law_574 ?_
  refine k_arg hx hb hX0 hbl hbA hS hl 0 4 rfl rfl 2 (by decide) (by omega) hL dL_law_575 dL_law_576 dL_law_578 dL_law_579 dL_law_580 ?_
  refine k_arg hx hb hX0 hbl hbA hS hl 0 4 rfl rfl 3 (by decide) (by omega) hL dL_law_581 dL_law_582 dL_law_584 dL_law_585 dL_law_586 ?_
  refine k_arg hx hb hX0 hbl hbA hS hl 0 4 rfl rfl 4 (by decide) (by omega) hL dL_law_587 dL_law_588 dL_law_590 dL_law_591 dL_law_592 ?_
  refine k_arg hx hb hX0 hbl hbA hS hl 0 4 rfl rfl 5 (by decide) (by omega) hL dL_law_593 dL_law_594 dL_law_596 dL_law_597 dL_law_598 ?_
  refine lv_aload_n hx hb dL_law_599 rfl (lv_at hl 3 rfl) ?_
  refine k_goTi (T := (Nat → Nat) × Nat × Nat) (post := kPl a cap nl (coLease S w nl (xs (i + 1)) (xs (i + 2)) (xs (i + 3)) (xs (i + 4)) (xs (i + 5)))) (w' := fun x => wO q o (outG g (coLease S w nl (xs (i + 1)) (xs (i + 2)) (xs (i + 3)) (xs (i + 4)) (xs (i + 5)))) (wC q x.1 (outS S (coLease S w nl (xs (i + 1)) (xs (i + 2)) (xs (i + 3)) (xs (i + 4)) (xs (i + 5)))) x.2.1 x.2.2)) hP (fun z hz => hz) hS (vx_runSW (rest := []) ⟨hx, hb, hml, hown, hts⟩ (c_L_lease l hl0 D q (va_A (wO q o g (wC q a S cap nl)) H.size) a S cap nl o g (xs (i + 1)) (xs (i + 2)) (xs (i + 3)) (xs (i + 4)) (xs (i + 5)) w e0 hnl a1 a3 hcap.1) (vx_cwSW 7 hts gL_law_L_lease rfl rfl rfl (by decide +kernel) ⟨Nat.le_of_ble_eq_true rfl, Nat.le_of_ble_eq_true rfl⟩) ⟨kBLE_blind, fun U hU hW => ⟨rfl, ⟨⟨by rw [hU]; exact kW_cut hP, hK.warm hW, (hX.at hS hU hW).narrow (kW_sub hP hA)⟩, fun z9 h9 => Or.inr (by rw [← hU]; exact h9)⟩, (hE.at hS hU hW).narrow (kW_sub hP hA)⟩⟩ rfl rfl hl.1 rfl (lv_room (Nat.le_of_ble_eq_true rfl)) dL_law_600 ⟨by show k9 + 9 ≤ 601024; omega, by show n9 + 97 ≤ 7293034; omega⟩) (fun r9 x9 H1 locs1 hp9 hP hS => ?_)
  obtain ⟨hr9, hok9, hno9⟩ := hp9
  subst hr9
  have ha9 : x9.1 0 = a 0 := by
    by_cases z : (coLease S w nl (xs (i + 1)) (xs (i + 2)) (xs (i + 3)) (xs (i + 4)) (xs (i + 5))).1 = nI 0
    · exact (hok9 z).1.1 0 (by decide)
    · rw [hno9 z]
  refine lv_istore (lv' := [(5, .int (coLease S w nl (xs (i + 1)) (xs (i + 2)) (xs (i + 3)) (xs (i + 4)) (xs (i + 5))).1), (0, .ref b), (1, .ref (a 0)), (2, .ref (am 0)), (3, .ref o), (4, .int (nI i))]) hx hb dL_law_603 hl (by decide) rfl (fun ls hl => ?_)
  refine lv_aload_n hx hb dL_law_605 rfl (lv_at hl 3 rfl) ?_
  refine k_arg hx hb hX0 hbl hbA hS hl 1 5 rfl rfl 1 (by decide) (by omega) hL dL_law_606 dL_law_607 dL_law_609 dL_law_610 dL_law_611 ?_
  refine k_arg hx hb hX0 hbl hbA hS hl 1 5 rfl rfl 2 (by decide) (by omega) hL dL_law_612 dL_law_613 dL_law_615 dL_law_616 dL_law_617 ?_
  refine k_arg hx hb hX0 hbl hbA hS hl 1 5 rfl rfl 3 (by decide) (by omega) hL dL_law_618 dL_law_619 dL_law_621 dL_law_622 dL_law_623 ?_
  refine k_arg hx hb hX0 hbl hbA hS hl 1 5 rfl rfl 4 (by decide) (by omega) hL dL_law_624 dL_law_625 dL_law_627 dL_law_628 dL_law_629 ?_
  refine k_arg hx hb hX0 hbl hbA hS hl 1 5 rfl rfl 5 (by decide) (by omega) hL dL_law_630 dL_law_631 dL_law_633 dL_law_634 dL_law_635 ?_
  have hP2 := kW_comm hP
  refine k_goW hP2 (fun z hz => hz) hS (va_runV (rest := []) ⟨hx, hb, hml, hown, hts⟩ (c_X5_lease l D q (va_A (wM q am T) H1.size) am T (xs (i + 1)) (xs (i + 2)) (xs (i + 3)) (xs (i + 4)) (xs (i + 5)) w nl a2 a3 c1 c2) (cwV 5 hts gL_law_X5_lease rfl rfl rfl (by decide +kernel) ⟨Nat.le_of_ble_eq_true rfl, Nat.le_of_ble_eq_true rfl⟩) ⟨kB_blind, (va_recv hK.1 (kW_r hP2).1 (ci := 6) (q0 := 0) rfl rfl), fun U hU hW => ⟨rfl, by rw [hU]; exact kW_cut hP2, hK.warm hW⟩⟩ rfl rfl hl.1 rfl (lv_room (Nat.le_of_ble_eq_true rfl)) dL_law_636 ⟨by show k9 + 9 + 0 ≤ 601024; omega, by show n9 + 97 + 0 ≤ 7293034; omega⟩) (fun H2 locs2 hP hS => ?_)
  have hb9 := both_lease hR (xs (i + 1)) (xs (i + 2)) (xs (i + 3)) (xs (i + 4)) (xs (i + 5))
  rw [← ha9] at hl
  by_cases z : (coLease S w nl (xs (i + 1)) (xs (i + 2)) (xs (i + 3)) (xs (i + 4)) (xs (i + 5))).1 = nI 0
  · obtain ⟨⟨-, hn2, hc2⟩, hn3⟩ := hok9 z
    rw [hn3] at hP
    exact k_tail E (by omega) (by omega) hk hn9 kk dL_law_639 dL_law_641 dL_law_642 dL_law_645 dL_law_647 dL_law_652 dL_law_654 dL_law_657 dL_law_658 dL_law_659 dL_law_660 dL_law_662 dL_law_663 dL_law_664 dL_law_669 (by decide) hb9.1 (hb9.2.1 z) ⟨Or.inr hc2, hn2⟩ outG_0 hP hS hl
  · have hx9 := hno9 z
    rw [hx9] at hP hl
    exact k_tail E (by omega) (by omega) hk hn9 kk dL_law_639 dL_law_641 dL_law_642 dL_law_645 dL_law_647 dL_law_652 dL_law_654 dL_law_657 dL_law_658 dL_law_659 dL_law_660 dL_law_662 dL_law_663 dL_law_664 dL_law_669 (by decide) hb9.1 (hb9.2.2 z) hcap outG_0 hP hS hl
set_option maxHeartbeats 4000000 in
set_option maxRecDepth 100000 in
theorem lc_quit {p : Program} {l : Launch} {e : Env} {s : State} {m : MethodId} {below : List Frame} {meth : Method} {c : Code} {b L : Nat} {xs : Nat → Int32} {D : va_G} {q : Nat → ClassId} {e0 i k9 n9 : Nat} (E : lEnv p l s m meth c b L xs D q e0) (hL : L ≤ 3072) (hi : i + 6 ≤ L) (hk : k9 + 9 ≤ 601024) (hn9 : n9 + 97 ≤ 7293034) (kk : lK p l e s m below meth c b D q e0 i (k9 + 9) (n9 + 97) 2026) : lK p l e s m below meth c b D q e0 i k9 n9 672 := by
  obtain ⟨⟨hx, hb, hr, hml, hown, hts0, hX0, hbl, hlocks, -⟩, hK, hX, hE, hl0⟩ := id E
  have hts := lEnv_hts hts0
  have hbA : ¬ lA s b := Nat.not_le.mpr hbl
  rintro H locs ls ⟨S, T, a, am, o, g, cap, n, w, nl, L9, hP, hS, hR, hcap, hl⟩
  have hA : ∀ z : Nat, H.size ≤ z → lA s z := fun z hz => Nat.le_trans hS.1 hz
  obtain ⟨⟨a1, a2, a3⟩, ⟨b1, b2, b3⟩, ⟨c1, c2⟩, d1, d2, d3⟩ := hR.1.2.1
  have hnl : nl ≤ cap ∧ cap ≤ 40 ∧ nl ≤ 30 := ⟨hcap.2, hcap.le, c2⟩
  refine lv_aload_n hx hb dL_law_672 rfl (lv_at hl 1 rfl) ?_
  refine k_arg hx hb hX0 hbl hbA hS hl 0 4 rfl rfl 1 (by decide) (by omega) hL dL_law_673 dL_law_674 dL_law_676 dL_law_677 dL_law_678 ?_
  refine lv_aload_n hx hb dL_law_679 rfl (lv_at hl 3 rfl) ?_
  refine k_goW hP (fun z hz => hz) hS (vx_runSW (rest := []) ⟨hx, hb, hml, hown, hts⟩ (c_L_quit l hl0 D q (va_A (wO q o g (wC q a S cap nl)) H.size) a S cap nl o g (xs (i + 1)) w hnl a1 a3) (vx_cwSW 3 hts gL_law_L_quit rfl rfl rfl (by decide +kernel) ⟨Nat.le_of_ble_eq_true rfl, Nat.le_of_ble_eq_true rfl⟩) ⟨kBL_blind, fun U hU hW => ⟨rfl, ⟨by rw [hU]; exact kW_cut hP, hK.warm hW, (hX.at hS hU hW).narrow (kW_sub hP hA)⟩, fun z9 h9 => Or.inr (by rw [← hU]; exact h9)⟩⟩ rfl rfl hl.1 rfl (lv_room (Nat.le_of_ble_eq_true rfl)) dL_law_680 ⟨by show k9 + 2 ≤ 601024; omega, by show n9 + 12 ≤ 7293034; omega⟩) (fun H1 locs1 hP hS => ?_)
  refine lv_istore (lv' := [(5, .int (coQuit S w nl (xs (i + 1))).1), (0, .ref b), (1, .ref (a 0)), (2, .ref (am 0)), (3, .ref o), (4, .int (nI i))]) hx hb dL_law_683 hl (by decide) rfl (fun ls hl => ?_)
  refine lv_aload_n hx hb dL_law_685 rfl (lv_at hl 3 rfl) ?_
  refine k_arg hx hb hX0 hbl hbA hS hl 1 5 rfl rfl 1 (by decide) (by omega) hL dL_law_686 dL_law_687 dL_law_689 dL_law_690 dL_law_691 ?_
  have hP2 := kW_comm hP
  refine k_goW hP2 (fun z hz => hz) hS (va_runV (rest := []) ⟨hx, hb, hml, hown, hts⟩ (c_X5_quit l D q (va_A (wM q am T) H1.size) am T (xs (i + 1)) w nl a2 a3 c1 c2) (cwV 1 hts gL_law_X5_quit rfl rfl rfl (by decide +kernel) ⟨Nat.le_of_ble_eq_true rfl, Nat.le_of_ble_eq_true rfl⟩) ⟨kB_blind, (va_recv hK.1 (kW_r hP2).1 (ci := 6) (q0 := 0) rfl rfl), fun U hU hW => ⟨rfl, by rw [hU]; exact kW_cut hP2, hK.warm hW⟩⟩ rfl rfl hl.1 rfl (lv_room (Nat.le_of_ble_eq_true rfl)) dL_law_692 ⟨by show k9 + 2 + 0 ≤ 601024; omega, by show n9 + 12 + 0 ≤ 7293034; omega⟩) (fun H2 locs2 hP hS => ?_)
  obtain ⟨hans, n2, w2, L2, hR2⟩ := both_quit hR (xs (i + 1))
  exact k_tail E (by omega) (by omega) hk hn9 kk dL_law_695 dL_law_697 dL_law_698 dL_law_701 dL_law_703 dL_law_708 dL_law_710 dL_law_713 dL_law_714 dL_law_715 dL_law_716 dL_law_718 dL_law_719 dL_law_720 dL_law_725 (by decide) hans hR2 hcap outG_0 hP hS hl
set_option maxHeartbeats 4000000 in
set_option maxRecDepth 100000 in
theorem lc_pay {p : Program} {l : Launch} {e : Env} {s : State} {m : MethodId} {below : List Frame} {meth : Method} {c : Code} {b L : Nat} {xs : Nat → Int32} {D : va_G} {q : Nat → ClassId} {e0 i k9 n9 : Nat} (E : lEnv p l s m meth c b L xs D q e0) (hL : L ≤ 3072) (hi : i + 6 ≤ L) (hk : k9 + 9 ≤ 601024) (hn9 : n9 + 97 ≤ 7293034) (kk : lK p l e s m below meth c b D q e0 i (k9 + 9) (n9 + 97) 2026) : lK p l e s m below meth c b D q e0 i k9 n9 728 := by
  obtain ⟨⟨hx, hb, hr, hml, hown, hts0, hX0, hbl, hlocks, -⟩, hK, hX, hE, hl0⟩ := id E
  have hts := lEnv_hts hts0
  have hbA : ¬ lA s b := Nat.not_le.mpr hbl
  rintro H locs ls ⟨S, T, a, am, o, g, cap, n, w, nl, L9, hP, hS, hR, hcap, hl⟩
  have hA : ∀ z : Nat, H.size ≤ z → lA s z := fun z hz => Nat.le_trans hS.1 hz
  obtain ⟨⟨a1, a2, a3⟩, ⟨b1, b2, b3⟩, ⟨c1, c2⟩, d1, d2, d3⟩ := hR.1.2.1
  have hnl : nl ≤ cap ∧ cap ≤ 40 ∧ nl ≤ 30 := ⟨hcap.2, hcap.le, c2⟩
  refine lv_aload_n hx hb dL_law_728 rfl (lv_at hl 1 rfl) ?_
  refine k_arg hx hb hX0 hbl hbA hS hl 0 4 rfl rfl 1 (by decide) (by omega) hL dL_law_729 dL_law_730 dL_law_732 dL_law_733 dL_law_734 ?_
  refine k_arg hx hb hX0 hbl hbA hS hl 0 4 rfl rfl 2 (by decide) (by omega) hL dL_law_735 dL_law_736 dL_law_738 dL_law_739 dL_law_740 ?_
  refine lv_aload_n hx hb dL_law_741 rfl (lv_at hl 3 rfl) ?_
  refine k_goW hP (fun z hz => hz) hS (vx_runSW (rest := []) ⟨hx, hb, hml, hown, hts⟩ (c_L_pay l hl0 D q (va_A (wO q o g (wC q a S cap nl)) H.size) a S cap nl o g (xs (i + 1)) (xs (i + 2)) hnl) (vx_cwSW 4 hts gL_law_L_pay rfl rfl rfl (by decide +kernel) ⟨Nat.le_of_ble_eq_true rfl, Nat.le_of_ble_eq_true rfl⟩) ⟨kBL_blind, fun U hU hW => ⟨rfl, ⟨by rw [hU]; exact kW_cut hP, hK.warm hW, (hX.at hS hU hW).narrow (kW_sub hP hA)⟩, fun z9 h9 => Or.inr (by rw [← hU]; exact h9)⟩⟩ rfl rfl hl.1 rfl (lv_room (Nat.le_of_ble_eq_true rfl)) dL_law_742 ⟨by show k9 + 3 ≤ 601024; omega, by show n9 + 18 ≤ 7293034; omega⟩) (fun H1 locs1 hP hS => ?_)
  refine lv_istore (lv' := [(5, .int (coPay S nl (xs (i + 1)) (xs (i + 2))).1), (0, .ref b), (1, .ref (a 0)), (2, .ref (am 0)), (3, .ref o), (4, .int (nI i))]) hx hb dL_law_745 hl (by decide) rfl (fun ls hl => ?_)
  refine lv_aload_n hx hb dL_law_747 rfl (lv_at hl 3 rfl) ?_
  refine k_arg hx hb hX0 hbl hbA hS hl 1 5 rfl rfl 1 (by decide) (by omega) hL dL_law_748 dL_law_749 dL_law_751 dL_law_752 dL_law_753 ?_
  refine k_arg hx hb hX0 hbl hbA hS hl 1 5 rfl rfl 2 (by decide) (by omega) hL dL_law_754 dL_law_755 dL_law_757 dL_law_758 dL_law_759 ?_
  have hP2 := kW_comm hP
  refine k_goW hP2 (fun z hz => hz) hS (va_runV (rest := []) ⟨hx, hb, hml, hown, hts⟩ (c_X5_pay l D q (va_A (wM q am T) H1.size) am T (xs (i + 1)) (xs (i + 2)) n w nl b2 b3 hR.1.2.2.1.1 a2 a3 c1 c2 (Rel_okM hR.1)) (cwV 2 hts gL_law_X5_pay rfl rfl rfl (by decide +kernel) ⟨Nat.le_of_ble_eq_true rfl, Nat.le_of_ble_eq_true rfl⟩) ⟨kB_blind, (va_recv hK.1 (kW_r hP2).1 (ci := 6) (q0 := 0) rfl rfl), fun U hU hW => ⟨rfl, by rw [hU]; exact kW_cut hP2, hK.warm hW⟩⟩ rfl rfl hl.1 rfl (lv_room (Nat.le_of_ble_eq_true rfl)) dL_law_760 ⟨by show k9 + 3 + 0 ≤ 601024; omega, by show n9 + 18 + 0 ≤ 7293034; omega⟩) (fun H2 locs2 hP hS => ?_)
  obtain ⟨hans, n2, w2, L2, hR2⟩ := both_pay hR (xs (i + 1)) (xs (i + 2))
  exact k_tail E (by omega) (by omega) hk hn9 kk dL_law_763 dL_law_765 dL_law_766 dL_law_769 dL_law_771 dL_law_776 dL_law_778 dL_law_781 dL_law_782 dL_law_783 dL_law_784 dL_law_786 dL_law_787 dL_law_788 dL_law_793 (by decide) hans hR2 hcap outG_0 hP hS hl
