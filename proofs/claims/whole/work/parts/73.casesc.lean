set_option maxHeartbeats 4000000 in
set_option maxRecDepth 100000 in
theorem lc_taken {p : Program} {l : Launch} {e : Env} {s : State} {m : MethodId} {below : List Frame} {meth : Method} {c : Code} {b L : Nat} {xs : Nat → Int32} {D : va_G} {q : Nat → ClassId} {e0 i k9 n9 : Nat} (E : lEnv p l s m meth c b L xs D q e0) (hL : L ≤ 3072) (hi : i + 6 ≤ L) (hk : k9 + 9 ≤ 601024) (hn9 : n9 + 97 ≤ 7293034) (kk : lK p l e s m below meth c b D q e0 i (k9 + 9) (n9 + 97) 2026) : lK p l e s m below meth c b D q e0 i k9 n9 1261 := by
  obtain ⟨⟨hx, hb, hr, hml, hown, hts0, hX0, hbl, hlocks, -⟩, hK, hX, hE, hl0⟩ := id E
  have hts := lEnv_hts hts0
  have hbA : ¬ lA s b := Nat.not_le.mpr hbl
  rintro H locs ls ⟨S, T, a, am, o, g, cap, n, w, nl, L9, hP, hS, hR, hcap, hl⟩
  have hA : ∀ z : Nat, H.size ≤ z → lA s z := fun z hz => Nat.le_trans hS.1 hz
  obtain ⟨⟨a1, a2, a3⟩, ⟨b1, b2, b3⟩, ⟨c1, c2⟩, d1, d2, d3⟩ := hR.1.2.1
  have hnl : nl ≤ cap ∧ cap ≤ 40 ∧ nl ≤ 30 := ⟨hcap.2, hcap.le, c2⟩
  refine lv_aload_n hx hb dL_law_1261 rfl (lv_at hl 1 rfl) ?_
  refine k_arg hx hb hX0 hbl hbA hS hl 0 4 rfl rfl 1 (by decide) (by omega) hL dL_law_1262 dL_law_1263 dL_law_1265 dL_law_1266 dL_law_1267 ?_
  refine k_arg hx hb hX0 hbl hbA hS hl 0 4 rfl rfl 2 (by decide) (by omega) hL dL_law_1268 dL_law_1269 dL_law_1271 dL_law_1272 dL_law_1273 ?_
  refine lv_aload_n hx hb dL_law_1274 rfl (lv_at hl 3 rfl) ?_
  refine k_goW hP (fun z hz => hz) hS (vx_runSW (rest := []) ⟨hx, hb, hml, hown, hts⟩ (c_L_taken l hl0 D q (va_A (wO q o g (wC q a S cap nl)) H.size) a S cap nl o g (xs (i + 1)) (xs (i + 2)) n b1 b3) (vx_cwSW 4 hts gL_law_L_taken rfl rfl rfl (by decide +kernel) ⟨Nat.le_of_ble_eq_true rfl, Nat.le_of_ble_eq_true rfl⟩) ⟨kBL_blind, fun U hU hW => ⟨rfl, ⟨by rw [hU]; exact kW_cut hP, hK.warm hW, (hX.at hS hU hW).narrow (kW_sub hP hA)⟩, fun z9 h9 => Or.inr (by rw [← hU]; exact h9)⟩⟩ rfl rfl hl.1 rfl (lv_room (Nat.le_of_ble_eq_true rfl)) dL_law_1275 ⟨by show k9 + 2 ≤ 601024; omega, by show n9 + 12 ≤ 7293034; omega⟩) (fun H1 locs1 hP hS => ?_)
  refine lv_istore (lv' := [(5, .int (coTaken S n (xs (i + 1)) (xs (i + 2))).1), (0, .ref b), (1, .ref (a 0)), (2, .ref (am 0)), (3, .ref o), (4, .int (nI i))]) hx hb dL_law_1278 hl (by decide) rfl (fun ls hl => ?_)
  refine lv_aload_n hx hb dL_law_1280 rfl (lv_at hl 3 rfl) ?_
  refine k_arg hx hb hX0 hbl hbA hS hl 1 5 rfl rfl 1 (by decide) (by omega) hL dL_law_1281 dL_law_1282 dL_law_1284 dL_law_1285 dL_law_1286 ?_
  refine k_arg hx hb hX0 hbl hbA hS hl 1 5 rfl rfl 2 (by decide) (by omega) hL dL_law_1287 dL_law_1288 dL_law_1290 dL_law_1291 dL_law_1292 ?_
  have hP2 := kW_comm hP
  refine k_goW hP2 (fun z hz => hz) hS (va_runV (rest := []) ⟨hx, hb, hml, hown, hts⟩ (c_X5_taken l D q (va_A (wM q am T) H1.size) am T (xs (i + 1)) (xs (i + 2)) n b2 b3) (cwV 2 hts gL_law_X5_taken rfl rfl rfl (by decide +kernel) ⟨Nat.le_of_ble_eq_true rfl, Nat.le_of_ble_eq_true rfl⟩) ⟨kB_blind, (va_recv hK.1 (kW_r hP2).1 (ci := 6) (q0 := 0) rfl rfl), fun U hU hW => ⟨rfl, by rw [hU]; exact kW_cut hP2, hK.warm hW⟩⟩ rfl rfl hl.1 rfl (lv_room (Nat.le_of_ble_eq_true rfl)) dL_law_1293 ⟨by show k9 + 2 + 0 ≤ 601024; omega, by show n9 + 12 + 0 ≤ 7293034; omega⟩) (fun H2 locs2 hP hS => ?_)
  obtain ⟨hans, n2, w2, L2, hR2⟩ := both_taken hR (xs (i + 1)) (xs (i + 2))
  exact k_tail E (by omega) (by omega) hk hn9 kk dL_law_1296 dL_law_1298 dL_law_1299 dL_law_1302 dL_law_1304 dL_law_1309 dL_law_1311 dL_law_1314 dL_law_1315 dL_law_1316 dL_law_1317 dL_law_1319 dL_law_1320 dL_law_1321 dL_law_1326 (by decide) hans hR2 hcap outG_0 hP hS hl
set_option maxHeartbeats 4000000 in
set_option maxRecDepth 100000 in
theorem lc_count {p : Program} {l : Launch} {e : Env} {s : State} {m : MethodId} {below : List Frame} {meth : Method} {c : Code} {b L : Nat} {xs : Nat → Int32} {D : va_G} {q : Nat → ClassId} {e0 i k9 n9 : Nat} (E : lEnv p l s m meth c b L xs D q e0) (hL : L ≤ 3072) (hi : i + 6 ≤ L) (hk : k9 + 9 ≤ 601024) (hn9 : n9 + 97 ≤ 7293034) (kk : lK p l e s m below meth c b D q e0 i (k9 + 9) (n9 + 97) 2026) : lK p l e s m below meth c b D q e0 i k9 n9 1329 := by
  obtain ⟨⟨hx, hb, hr, hml, hown, hts0, hX0, hbl, hlocks, -⟩, hK, hX, hE, hl0⟩ := id E
  have hts := lEnv_hts hts0
  have hbA : ¬ lA s b := Nat.not_le.mpr hbl
  rintro H locs ls ⟨S, T, a, am, o, g, cap, n, w, nl, L9, hP, hS, hR, hcap, hl⟩
  have hA : ∀ z : Nat, H.size ≤ z → lA s z := fun z hz => Nat.le_trans hS.1 hz
  obtain ⟨⟨a1, a2, a3⟩, ⟨b1, b2, b3⟩, ⟨c1, c2⟩, d1, d2, d3⟩ := hR.1.2.1
  have hnl : nl ≤ cap ∧ cap ≤ 40 ∧ nl ≤ 30 := ⟨hcap.2, hcap.le, c2⟩
  refine lv_aload_n hx hb dL_law_1329 rfl (lv_at hl 1 rfl) ?_
  refine k_arg hx hb hX0 hbl hbA hS hl 0 4 rfl rfl 1 (by decide) (by omega) hL dL_law_1330 dL_law_1331 dL_law_1333 dL_law_1334 dL_law_1335 ?_
  refine k_arg hx hb hX0 hbl hbA hS hl 0 4 rfl rfl 2 (by decide) (by omega) hL dL_law_1336 dL_law_1337 dL_law_1339 dL_law_1340 dL_law_1341 ?_
  refine lv_aload_n hx hb dL_law_1342 rfl (lv_at hl 3 rfl) ?_
  refine k_goW hP (fun z hz => hz) hS (vx_runSW (rest := []) ⟨hx, hb, hml, hown, hts⟩ (c_L_count l hl0 D q (va_A (wO q o g (wC q a S cap nl)) H.size) a S cap nl o g (xs (i + 1)) (xs (i + 2)) w a1 a3) (vx_cwSW 4 hts gL_law_L_count rfl rfl rfl (by decide +kernel) ⟨Nat.le_of_ble_eq_true rfl, Nat.le_of_ble_eq_true rfl⟩) ⟨kBL_blind, fun U hU hW => ⟨rfl, ⟨by rw [hU]; exact kW_cut hP, hK.warm hW, (hX.at hS hU hW).narrow (kW_sub hP hA)⟩, fun z9 h9 => Or.inr (by rw [← hU]; exact h9)⟩⟩ rfl rfl hl.1 rfl (lv_room (Nat.le_of_ble_eq_true rfl)) dL_law_1343 ⟨by show k9 + 2 ≤ 601024; omega, by show n9 + 12 ≤ 7293034; omega⟩) (fun H1 locs1 hP hS => ?_)
  refine lv_istore (lv' := [(5, .int (coRow S 14 (xs (i + 1)) (xs (i + 2))).1), (0, .ref b), (1, .ref (a 0)), (2, .ref (am 0)), (3, .ref o), (4, .int (nI i))]) hx hb dL_law_1346 hl (by decide) rfl (fun ls hl => ?_)
  refine lv_aload_n hx hb dL_law_1348 rfl (lv_at hl 3 rfl) ?_
  refine k_arg hx hb hX0 hbl hbA hS hl 1 5 rfl rfl 1 (by decide) (by omega) hL dL_law_1349 dL_law_1350 dL_law_1352 dL_law_1353 dL_law_1354 ?_
  refine k_arg hx hb hX0 hbl hbA hS hl 1 5 rfl rfl 2 (by decide) (by omega) hL dL_law_1355 dL_law_1356 dL_law_1358 dL_law_1359 dL_law_1360 ?_
  have hP2 := kW_comm hP
  refine k_goW hP2 (fun z hz => hz) hS (va_runV (rest := []) ⟨hx, hb, hml, hown, hts⟩ (c_X5_count l D q (va_A (wM q am T) H1.size) am T (xs (i + 1)) (xs (i + 2)) n w b2 b3 hR.1.2.2.1.1 a2 a3) (cwV 2 hts gL_law_X5_count rfl rfl rfl (by decide +kernel) ⟨Nat.le_of_ble_eq_true rfl, Nat.le_of_ble_eq_true rfl⟩) ⟨kB_blind, (va_recv hK.1 (kW_r hP2).1 (ci := 6) (q0 := 0) rfl rfl), fun U hU hW => ⟨rfl, by rw [hU]; exact kW_cut hP2, hK.warm hW⟩⟩ rfl rfl hl.1 rfl (lv_room (Nat.le_of_ble_eq_true rfl)) dL_law_1361 ⟨by show k9 + 2 + 0 ≤ 601024; omega, by show n9 + 12 + 0 ≤ 7293034; omega⟩) (fun H2 locs2 hP hS => ?_)
  obtain ⟨hans, n2, w2, L2, hR2⟩ := both_count hR (xs (i + 1)) (xs (i + 2))
  exact k_tail E (by omega) (by omega) hk hn9 kk dL_law_1364 dL_law_1366 dL_law_1367 dL_law_1370 dL_law_1372 dL_law_1377 dL_law_1379 dL_law_1382 dL_law_1383 dL_law_1384 dL_law_1385 dL_law_1387 dL_law_1388 dL_law_1389 dL_law_1394 (by decide) hans hR2 hcap outG_0 hP hS hl
set_option maxHeartbeats 4000000 in
set_option maxRecDepth 100000 in
theorem lc_countAnew {p : Program} {l : Launch} {e : Env} {s : State} {m : MethodId} {below : List Frame} {meth : Method} {c : Code} {b L : Nat} {xs : Nat → Int32} {D : va_G} {q : Nat → ClassId} {e0 i k9 n9 : Nat} (E : lEnv p l s m meth c b L xs D q e0) (hL : L ≤ 3072) (hi : i + 6 ≤ L) (hk : k9 + 9 ≤ 601024) (hn9 : n9 + 97 ≤ 7293034) (kk : lK p l e s m below meth c b D q e0 i (k9 + 9) (n9 + 97) 2026) : lK p l e s m below meth c b D q e0 i k9 n9 1397 := by
  obtain ⟨⟨hx, hb, hr, hml, hown, hts0, hX0, hbl, hlocks, -⟩, hK, hX, hE, hl0⟩ := id E
  have hts := lEnv_hts hts0
  have hbA : ¬ lA s b := Nat.not_le.mpr hbl
  rintro H locs ls ⟨S, T, a, am, o, g, cap, n, w, nl, L9, hP, hS, hR, hcap, hl⟩
  have hA : ∀ z : Nat, H.size ≤ z → lA s z := fun z hz => Nat.le_trans hS.1 hz
  obtain ⟨⟨a1, a2, a3⟩, ⟨b1, b2, b3⟩, ⟨c1, c2⟩, d1, d2, d3⟩ := hR.1.2.1
  have hnl : nl ≤ cap ∧ cap ≤ 40 ∧ nl ≤ 30 := ⟨hcap.2, hcap.le, c2⟩
  refine lv_aload_n hx hb dL_law_1397 rfl (lv_at hl 1 rfl) ?_
  refine k_arg hx hb hX0 hbl hbA hS hl 0 4 rfl rfl 1 (by decide) (by omega) hL dL_law_1398 dL_law_1399 dL_law_1401 dL_law_1402 dL_law_1403 ?_
  refine k_arg hx hb hX0 hbl hbA hS hl 0 4 rfl rfl 2 (by decide) (by omega) hL dL_law_1404 dL_law_1405 dL_law_1407 dL_law_1408 dL_law_1409 ?_
  refine lv_aload_n hx hb dL_law_1410 rfl (lv_at hl 3 rfl) ?_
  refine k_goW hP (fun z hz => hz) hS (vx_runSW (rest := []) ⟨hx, hb, hml, hown, hts⟩ (c_L_countAnew l hl0 D q (va_A (wO q o g (wC q a S cap nl)) H.size) a S cap nl o g (xs (i + 1)) (xs (i + 2)) n w b1 b3 a1 a3) (vx_cwSW 4 hts gL_law_L_countAnew rfl rfl rfl (by decide +kernel) ⟨Nat.le_of_ble_eq_true rfl, Nat.le_of_ble_eq_true rfl⟩) ⟨kBL_blind, fun U hU hW => ⟨rfl, ⟨by rw [hU]; exact kW_cut hP, hK.warm hW, (hX.at hS hU hW).narrow (kW_sub hP hA)⟩, fun z9 h9 => Or.inr (by rw [← hU]; exact h9)⟩⟩ rfl rfl hl.1 rfl (lv_room (Nat.le_of_ble_eq_true rfl)) dL_law_1411 ⟨by show k9 + 2 ≤ 601024; omega, by show n9 + 12 ≤ 7293034; omega⟩) (fun H1 locs1 hP hS => ?_)
  refine lv_istore (lv' := [(5, .int (coAnew S n (xs (i + 1)) (xs (i + 2))).1), (0, .ref b), (1, .ref (a 0)), (2, .ref (am 0)), (3, .ref o), (4, .int (nI i))]) hx hb dL_law_1414 hl (by decide) rfl (fun ls hl => ?_)
  refine lv_aload_n hx hb dL_law_1416 rfl (lv_at hl 3 rfl) ?_
  refine k_arg hx hb hX0 hbl hbA hS hl 1 5 rfl rfl 1 (by decide) (by omega) hL dL_law_1417 dL_law_1418 dL_law_1420 dL_law_1421 dL_law_1422 ?_
  refine k_arg hx hb hX0 hbl hbA hS hl 1 5 rfl rfl 2 (by decide) (by omega) hL dL_law_1423 dL_law_1424 dL_law_1426 dL_law_1427 dL_law_1428 ?_
  have hP2 := kW_comm hP
  refine k_goW hP2 (fun z hz => hz) hS (va_runV (rest := []) ⟨hx, hb, hml, hown, hts⟩ (c_X5_countAnew l D q (va_A (wM q am T) H1.size) am T (xs (i + 1)) (xs (i + 2)) n w b2 b3 hR.1.2.2.1.1 a2 a3) (cwV 2 hts gL_law_X5_countAnew rfl rfl rfl (by decide +kernel) ⟨Nat.le_of_ble_eq_true rfl, Nat.le_of_ble_eq_true rfl⟩) ⟨kB_blind, (va_recv hK.1 (kW_r hP2).1 (ci := 6) (q0 := 0) rfl rfl), fun U hU hW => ⟨rfl, by rw [hU]; exact kW_cut hP2, hK.warm hW⟩⟩ rfl rfl hl.1 rfl (lv_room (Nat.le_of_ble_eq_true rfl)) dL_law_1429 ⟨by show k9 + 2 + 0 ≤ 601024; omega, by show n9 + 12 + 0 ≤ 7293034; omega⟩) (fun H2 locs2 hP hS => ?_)
  obtain ⟨hans, n2, w2, L2, hR2⟩ := both_countAnew hR (xs (i + 1)) (xs (i + 2))
  exact k_tail E (by omega) (by omega) hk hn9 kk dL_law_1432 dL_law_1434 dL_law_1435 dL_law_1438 dL_law_1440 dL_law_1445 dL_law_1447 dL_law_1450 dL_law_1451 dL_law_1452 dL_law_1453 dL_law_1455 dL_law_1456 dL_law_1457 dL_law_1462 (by decide) hans hR2 hcap outG_0 hP hS hl
set_option maxHeartbeats 4000000 in
set_option maxRecDepth 100000 in
theorem lc_missed {p : Program} {l : Launch} {e : Env} {s : State} {m : MethodId} {below : List Frame} {meth : Method} {c : Code} {b L : Nat} {xs : Nat → Int32} {D : va_G} {q : Nat → ClassId} {e0 i k9 n9 : Nat} (E : lEnv p l s m meth c b L xs D q e0) (hL : L ≤ 3072) (hi : i + 6 ≤ L) (hk : k9 + 9 ≤ 601024) (hn9 : n9 + 97 ≤ 7293034) (kk : lK p l e s m below meth c b D q e0 i (k9 + 9) (n9 + 97) 2026) : lK p l e s m below meth c b D q e0 i k9 n9 1465 := by
  obtain ⟨⟨hx, hb, hr, hml, hown, hts0, hX0, hbl, hlocks, -⟩, hK, hX, hE, hl0⟩ := id E
  have hts := lEnv_hts hts0
  have hbA : ¬ lA s b := Nat.not_le.mpr hbl
  rintro H locs ls ⟨S, T, a, am, o, g, cap, n, w, nl, L9, hP, hS, hR, hcap, hl⟩
  have hA : ∀ z : Nat, H.size ≤ z → lA s z := fun z hz => Nat.le_trans hS.1 hz
  obtain ⟨⟨a1, a2, a3⟩, ⟨b1, b2, b3⟩, ⟨c1, c2⟩, d1, d2, d3⟩ := hR.1.2.1
  have hnl : nl ≤ cap ∧ cap ≤ 40 ∧ nl ≤ 30 := ⟨hcap.2, hcap.le, c2⟩
  refine lv_aload_n hx hb dL_law_1465 rfl (lv_at hl 1 rfl) ?_
  refine k_arg hx hb hX0 hbl hbA hS hl 0 4 rfl rfl 1 (by decide) (by omega) hL dL_law_1466 dL_law_1467 dL_law_1469 dL_law_1470 dL_law_1471 ?_
  refine lv_aload_n hx hb dL_law_1472 rfl (lv_at hl 3 rfl) ?_
  refine k_goW hP (fun z hz => hz) hS (vx_runSW (rest := []) ⟨hx, hb, hml, hown, hts⟩ (c_L_missed l hl0 D q (va_A (wO q o g (wC q a S cap nl)) H.size) a S cap nl o g (xs (i + 1)) w a1 a3) (vx_cwSW 3 hts gL_law_L_missed rfl rfl rfl (by decide +kernel) ⟨Nat.le_of_ble_eq_true rfl, Nat.le_of_ble_eq_true rfl⟩) ⟨kBL_blind, fun U hU hW => ⟨rfl, ⟨by rw [hU]; exact kW_cut hP, hK.warm hW, (hX.at hS hU hW).narrow (kW_sub hP hA)⟩, fun z9 h9 => Or.inr (by rw [← hU]; exact h9)⟩⟩ rfl rfl hl.1 rfl (lv_room (Nat.le_of_ble_eq_true rfl)) dL_law_1473 ⟨by show k9 + 1 ≤ 601024; omega, by show n9 + 6 ≤ 7293034; omega⟩) (fun H1 locs1 hP hS => ?_)
  refine lv_istore (lv' := [(5, .int (coMissed S (xs (i + 1))).1), (0, .ref b), (1, .ref (a 0)), (2, .ref (am 0)), (3, .ref o), (4, .int (nI i))]) hx hb dL_law_1476 hl (by decide) rfl (fun ls hl => ?_)
  refine lv_aload_n hx hb dL_law_1478 rfl (lv_at hl 3 rfl) ?_
  refine k_arg hx hb hX0 hbl hbA hS hl 1 5 rfl rfl 1 (by decide) (by omega) hL dL_law_1479 dL_law_1480 dL_law_1482 dL_law_1483 dL_law_1484 ?_
  have hP2 := kW_comm hP
  refine k_goW hP2 (fun z hz => hz) hS (va_runV (rest := []) ⟨hx, hb, hml, hown, hts⟩ (c_X5_missed l D q (va_A (wM q am T) H1.size) am T (xs (i + 1)) n w b2 b3 hR.1.2.2.1.1 a2 a3) (cwV 1 hts gL_law_X5_missed rfl rfl rfl (by decide +kernel) ⟨Nat.le_of_ble_eq_true rfl, Nat.le_of_ble_eq_true rfl⟩) ⟨kB_blind, (va_recv hK.1 (kW_r hP2).1 (ci := 6) (q0 := 0) rfl rfl), fun U hU hW => ⟨rfl, by rw [hU]; exact kW_cut hP2, hK.warm hW⟩⟩ rfl rfl hl.1 rfl (lv_room (Nat.le_of_ble_eq_true rfl)) dL_law_1485 ⟨by show k9 + 1 + 0 ≤ 601024; omega, by show n9 + 6 + 0 ≤ 7293034; omega⟩) (fun H2 locs2 hP hS => ?_)
  obtain ⟨hans, n2, w2, L2, hR2⟩ := both_missed hR (xs (i + 1))
  exact k_tail E (by omega) (by omega) hk hn9 kk dL_law_1488 dL_law_1490 dL_law_1491 dL_law_1494 dL_law_1496 dL_law_1501 dL_law_1503 dL_law_1506 dL_law_1507 dL_law_1508 dL_law_1509 dL_law_1511 dL_law_1512 dL_law_1513 dL_law_1518 (by decide) hans hR2 hcap outG_0 hP hS hl
set_option maxHeartbeats 4000000 in
set_option maxRecDepth 100000 in
theorem lc_leases {p : Program} {l : Launch} {e : Env} {s : State} {m : MethodId} {below : List Frame} {meth : Method} {c : Code} {b L : Nat} {xs : Nat → Int32} {D : va_G} {q : Nat → ClassId} {e0 i k9 n9 : Nat} (E : lEnv p l s m meth c b L xs D q e0) (hL : L ≤ 3072) (hi : i + 6 ≤ L) (hk : k9 + 9 ≤ 601024) (hn9 : n9 + 97 ≤ 7293034) (kk : lK p l e s m below meth c b D q e0 i (k9 + 9) (n9 + 97) 2026) : lK p l e s m below meth c b D q e0 i k9 n9 1521 := by
  obtain ⟨⟨hx, hb, hr, hml, hown, hts0, hX0, hbl, hlocks, -⟩, hK, hX, hE, hl0⟩ := id E
  have hts := lEnv_hts hts0
  have hbA : ¬ lA s b := Nat.not_le.mpr hbl
  rintro H locs ls ⟨S, T, a, am, o, g, cap, n, w, nl, L9, hP, hS, hR, hcap, hl⟩
  have hA : ∀ z : Nat, H.size ≤ z → lA s z := fun z hz => Nat.le_trans hS.1 hz
  obtain ⟨⟨a1, a2, a3⟩, ⟨b1, b2, b3⟩, ⟨c1, c2⟩, d1, d2, d3⟩ := hR.1.2.1
  have hnl : nl ≤ cap ∧ cap ≤ 40 ∧ nl ≤ 30 := ⟨hcap.2, hcap.le, c2⟩
  have hP2 := kW_comm hP
  have hPC : kW D (lA s) (wC q a S cap nl) H := kW_r (w1 := [(o, .inl (q 3, 1, .inr (.inl g)))]) (kW_r hP)
  refine lv_aload_n hx hb dL_law_1521 rfl (lv_at hl 1 rfl) ?_
  refine k_callV (rest := []) (r := nI nl) ⟨hx, hb, hml, hown, hts⟩ (c_X4_leases l D q a S cap nl) (cwV 0 hts gL_law_X4_leases rfl rfl rfl (by decide +kernel) ⟨Nat.le_of_ble_eq_true rfl, Nat.le_of_ble_eq_true rfl⟩) hK hPC.1 (va_recv hK.1 hPC.1 (ci := 5) (q0 := 0) rfl rfl) rfl hl.1 rfl (Nat.le_of_ble_eq_true rfl) dL_law_1522 ⟨by show k9 ≤ 601024; omega, by show n9 ≤ 7293034; omega⟩ (fun _ h => h) ?_
  refine lv_aload_n hx hb dL_law_1525 rfl (lv_at hl 2 rfl) ?_
  refine k_goW (wo := wO q o g (wC q a S cap nl)) (w := wM q am T) hP2 (fun z hz => hz) hS (va_runV (rest := [.int (nI nl)]) ⟨hx, hb, hml, hown, hts⟩ (c_X5_leases l D q (va_A (wM q am T) H.size) am T) (cwV 0 hts gL_law_X5_leases rfl rfl rfl (by decide +kernel) ⟨Nat.le_of_ble_eq_true rfl, Nat.le_of_ble_eq_true rfl⟩) ⟨kB_blind, (va_recv hK.1 (kW_r hP2).1 (ci := 6) (q0 := 0) rfl rfl), fun U hU hW => ⟨rfl, by rw [hU]; exact kW_cut hP2, hK.warm hW⟩⟩ rfl rfl hl.1 rfl (lv_room (Nat.le_of_ble_eq_true rfl)) dL_law_1526 ⟨by show k9 + 0 ≤ 601024; omega, by show n9 + 0 ≤ 7293034; omega⟩) (fun H2 locs2 hP hS => ?_)
  refine W.widen (k := k9 + 9) (n := n9 + 97) (by omega) (by omega) ?_
  refine lv_icmp_eq (tgt := 2026) hx hb dL_law_1529 (by decide) (fun _ => ?_) (fun z => absurd (c1.symm) z)
  exact kk H2 locs2 ls ⟨S, _, a, am, o, g, cap, n, w, nl, L9, kW_comm hP, hS, hR.t, hcap, hl⟩
set_option maxHeartbeats 4000000 in
set_option maxRecDepth 100000 in
theorem lc_isOf {p : Program} {l : Launch} {e : Env} {s : State} {m : MethodId} {below : List Frame} {meth : Method} {c : Code} {b L : Nat} {xs : Nat → Int32} {D : va_G} {q : Nat → ClassId} {e0 i k9 n9 : Nat} (E : lEnv p l s m meth c b L xs D q e0) (hL : L ≤ 3072) (hi : i + 6 ≤ L) (hk : k9 + 9 ≤ 601024) (hn9 : n9 + 97 ≤ 7293034) (kk : lK p l e s m below meth c b D q e0 i (k9 + 9) (n9 + 97) 2026) : lK p l e s m below meth c b D q e0 i k9 n9 1534 := by
  obtain ⟨⟨hx, hb, hr, hml, hown, hts0, hX0, hbl, hlocks, -⟩, hK, hX, hE, hl0⟩ := id E
  have hts := lEnv_hts hts0
  have hbA : ¬ lA s b := Nat.not_le.mpr hbl
  rintro H locs ls ⟨S, T, a, am, o, g, cap, n, w, nl, L9, hP, hS, hR, hcap, hl⟩
  have hA : ∀ z : Nat, H.size ≤ z → lA s z := fun z hz => Nat.le_trans hS.1 hz
  obtain ⟨⟨a1, a2, a3⟩, ⟨b1, b2, b3⟩, ⟨c1, c2⟩, d1, d2, d3⟩ := hR.1.2.1
  have hnl : nl ≤ cap ∧ cap ≤ 40 ∧ nl ≤ 30 := ⟨hcap.2, hcap.le, c2⟩
  refine lv_aload_n hx hb dL_law_1534 rfl (lv_at hl 1 rfl) ?_
  refine k_arg hx hb hX0 hbl hbA hS hl 0 4 rfl rfl 1 (by decide) (by omega) hL dL_law_1535 dL_law_1536 dL_law_1538 dL_law_1539 dL_law_1540 ?_
  refine k_arg hx hb hX0 hbl hbA hS hl 0 4 rfl rfl 2 (by decide) (by omega) hL dL_law_1541 dL_law_1542 dL_law_1544 dL_law_1545 dL_law_1546 ?_
  refine lv_aload_n hx hb dL_law_1547 rfl (lv_at hl 3 rfl) ?_
  refine k_goW hP (fun z hz => hz) hS (vx_runSW (rest := []) ⟨hx, hb, hml, hown, hts⟩ (c_L_isOf l hl0 D q (va_A (wO q o g (wC q a S cap nl)) H.size) a S cap nl o g (xs (i + 1)) (xs (i + 2)) hnl) (vx_cwSW 4 hts gL_law_L_isOf rfl rfl rfl (by decide +kernel) ⟨Nat.le_of_ble_eq_true rfl, Nat.le_of_ble_eq_true rfl⟩) ⟨kBL_blind, fun U hU hW => ⟨rfl, ⟨by rw [hU]; exact kW_cut hP, hK.warm hW, (hX.at hS hU hW).narrow (kW_sub hP hA)⟩, fun z9 h9 => Or.inr (by rw [← hU]; exact h9)⟩⟩ rfl rfl hl.1 rfl (lv_room (Nat.le_of_ble_eq_true rfl)) dL_law_1548 ⟨by show k9 + 1 ≤ 601024; omega, by show n9 + 6 ≤ 7293034; omega⟩) (fun H1 locs1 hP hS => ?_)
  refine lv_istore (lv' := [(5, .int (coIsOf S nl (xs (i + 1)) (xs (i + 2))).1), (0, .ref b), (1, .ref (a 0)), (2, .ref (am 0)), (3, .ref o), (4, .int (nI i))]) hx hb dL_law_1551 hl (by decide) rfl (fun ls hl => ?_)
  refine lv_aload_n hx hb dL_law_1553 rfl (lv_at hl 3 rfl) ?_
  refine k_arg hx hb hX0 hbl hbA hS hl 1 5 rfl rfl 1 (by decide) (by omega) hL dL_law_1554 dL_law_1555 dL_law_1557 dL_law_1558 dL_law_1559 ?_
  refine k_arg hx hb hX0 hbl hbA hS hl 1 5 rfl rfl 2 (by decide) (by omega) hL dL_law_1560 dL_law_1561 dL_law_1563 dL_law_1564 dL_law_1565 ?_
  have hP2 := kW_comm hP
  refine k_goW hP2 (fun z hz => hz) hS (va_runV (rest := []) ⟨hx, hb, hml, hown, hts⟩ (c_X5_isOf l D q (va_A (wM q am T) H1.size) am T (xs (i + 1)) (xs (i + 2)) nl c1 c2) (cwV 2 hts gL_law_X5_isOf rfl rfl rfl (by decide +kernel) ⟨Nat.le_of_ble_eq_true rfl, Nat.le_of_ble_eq_true rfl⟩) ⟨kB_blind, (va_recv hK.1 (kW_r hP2).1 (ci := 6) (q0 := 0) rfl rfl), fun U hU hW => ⟨rfl, by rw [hU]; exact kW_cut hP2, hK.warm hW⟩⟩ rfl rfl hl.1 rfl (lv_room (Nat.le_of_ble_eq_true rfl)) dL_law_1566 ⟨by show k9 + 1 + 0 ≤ 601024; omega, by show n9 + 6 + 0 ≤ 7293034; omega⟩) (fun H2 locs2 hP hS => ?_)
  obtain ⟨hans, n2, w2, L2, hR2⟩ := both_isOf hR (xs (i + 1)) (xs (i + 2))
  have hbit : (moIsOf T (xs (i + 1)) (xs (i + 2))).1 = nI 0 ∨ (moIsOf T (xs (i + 1)) (xs (i + 2))).1 = nI 1 := isOf_bit _ _
  have hg9 : (coIsOf S nl (xs (i + 1)) (xs (i + 2))).1 = nI 0 → outG g (coIsOf S nl (xs (i + 1)) (xs (i + 2))) 0 = (coIsOf S nl (xs (i + 1)) (xs (i + 2))).2.1.toInt64 := outG_0
  generalize (coIsOf S nl (xs (i + 1)) (xs (i + 2))) = R9 at hans hR2 hg9 hP hl
  generalize (moIsOf T (xs (i + 1)) (xs (i + 2))) = M9 at hans hR2 hbit hP ⊢
  refine W.widen (k := k9 + 9) (n := n9 + 97) (by omega) (by omega) ?_
  refine lv_istore (lv' := [(6, .int M9.1), (5, .int R9.1), (0, .ref b), (1, .ref (a 0)), (2, .ref (am 0)), (3, .ref o), (4, .int (nI i))]) hx hb dL_law_1569 hl (by decide) rfl (fun ls hl => ?_)
  refine lv_aload_n hx hb dL_law_1571 rfl (lv_at hl 4 rfl) ?_
  refine k_callV (rest := []) (r := M9.2 0 0) ⟨hx, hb, hml, hown, hts⟩ (c_X5_thrown l D q am M9.2) (cwV 0 hts gL_law_X5_thrown rfl rfl rfl (by decide +kernel) ⟨Nat.le_of_ble_eq_true rfl, Nat.le_of_ble_eq_true rfl⟩) hK (kW_r hP).1 (va_recv hK.1 (kW_r hP).1 (ci := 6) (q0 := 0) rfl rfl) rfl hl.1 rfl (Nat.le_of_ble_eq_true rfl) dL_law_1572 ⟨hk, hn9⟩ (fun _ h => h) ?_
  refine lv_iload hx hb dL_law_1575 (lv_at hl 1 rfl) ?_
  refine lv_icmp_eq (tgt := 1582) hx hb dL_law_1577 (by decide) (fun _ => ?_) (fun z => absurd hans.1.symm z)
  refine lv_iload hx hb dL_law_1582 (lv_at hl 1 rfl) ?_
  have fin : W p l e room_1 s m #[Value.ref b] below meth c H2 locs2 (k9 + 9) (n9 + 97) (lw_Z below #[Value.ref b] s) (F0 m 1606 ls []) := by
    refine lv_goto (tgt := 2026) hx hb dL_law_1606 (by decide) ?_
    exact kk H2 locs2 ls ⟨_, M9.2, a, am, o, _, cap, n2, w2, nl, L2, kW_comm hP, hS, hR2, hcap, lv_sub hl [2, 3, 4, 5, 6] rfl⟩
  refine lv_if_ne (tgt := 1606) hx hb dL_law_1584 (by decide) (fun _ => fin) (fun z => ?_)
  have z0 : R9.1 = nI 0 := by rw [nI_0]; exact z
  refine lv_aload_n hx hb dL_law_1587 rfl (lv_at hl 5 rfl) ?_
  refine lv_iconst (v := nI 0) hx hb dL_law_1588 (by decide) ?_
  refine va_lald (n := 1) (f := outG g R9) hx hb hK.1 hP.1 0 3 rfl rfl (vp_in_nI (by decide) (by decide)) dL_law_1589 ?_
  rw [nI_clamp (by decide), hg9 z0, hans.2 z0]
  refine lv_iload hx hb dL_law_1590 (lv_at hl 0 rfl) ?_
  have last : ∀ y : Int64, y = M9.1.toInt64 → W p l e room_1 s m #[Value.ref b] below meth c H2 locs2 (k9 + 9) (n9 + 97) (lw_Z below #[Value.ref b] s) (F0 m 1600 ls [.long y, .long M9.1.toInt64]) := fun y hy => by
    refine W.lcmp hx hb dL_law_1600 ?_
    exact lv_if_eq (tgt := 1606) hx hb dL_law_1601 (by decide) (fun _ => fin) (fun z => absurd ((lg_cmp_eq _ _).mpr hy.symm) z)
  refine lv_if_eq (tgt := 1599) hx hb dL_law_1592 (by decide) (fun z => ?_) (fun z => ?_)
  · refine lv_lconst (v := 0) hx hb dL_law_1599 (by decide) ?_
    exact last 0 (by rw [z]; decide)
  · have z1 : M9.1 = nI 1 := hbit.resolve_left (fun t => z (by rw [t, nI_0]))
    refine lv_lconst (v := 1) hx hb dL_law_1595 (by decide) ?_
    refine lv_goto (tgt := 1600) hx hb dL_law_1596 (by decide) ?_
    exact last 1 (by rw [z1]; decide)
set_option maxHeartbeats 4000000 in
set_option maxRecDepth 100000 in
theorem lc_billed {p : Program} {l : Launch} {e : Env} {s : State} {m : MethodId} {below : List Frame} {meth : Method} {c : Code} {b L : Nat} {xs : Nat → Int32} {D : va_G} {q : Nat → ClassId} {e0 i k9 n9 : Nat} (E : lEnv p l s m meth c b L xs D q e0) (hL : L ≤ 3072) (hi : i + 6 ≤ L) (hk : k9 + 9 ≤ 601024) (hn9 : n9 + 97 ≤ 7293034) (kk : lK p l e s m below meth c b D q e0 i (k9 + 9) (n9 + 97) 2026) : lK p l e s m below meth c b D q e0 i k9 n9 1609 := by
  obtain ⟨⟨hx, hb, hr, hml, hown, hts0, hX0, hbl, hlocks, -⟩, hK, hX, hE, hl0⟩ := id E
  have hts := lEnv_hts hts0
  have hbA : ¬ lA s b := Nat.not_le.mpr hbl
  rintro H locs ls ⟨S, T, a, am, o, g, cap, n, w, nl, L9, hP, hS, hR, hcap, hl⟩
  have hA : ∀ z : Nat, H.size ≤ z → lA s z := fun z hz => Nat.le_trans hS.1 hz
  obtain ⟨⟨a1, a2, a3⟩, ⟨b1, b2, b3⟩, ⟨c1, c2⟩, d1, d2, d3⟩ := hR.1.2.1
  have hnl : nl ≤ cap ∧ cap ≤ 40 ∧ nl ≤ 30 := ⟨hcap.2, hcap.le, c2⟩
  refine lv_aload_n hx hb dL_law_1609 rfl (lv_at hl 1 rfl) ?_
  refine k_arg hx hb hX0 hbl hbA hS hl 0 4 rfl rfl 1 (by decide) (by omega) hL dL_law_1610 dL_law_1611 dL_law_1613 dL_law_1614 dL_law_1615 ?_
  refine lv_aload_n hx hb dL_law_1616 rfl (lv_at hl 3 rfl) ?_
  refine k_goW hP (fun z hz => hz) hS (vx_runSW (rest := []) ⟨hx, hb, hml, hown, hts⟩ (c_L_billed l hl0 D q (va_A (wO q o g (wC q a S cap nl)) H.size) a S cap nl o g (xs (i + 1)) hnl) (vx_cwSW 3 hts gL_law_L_billed rfl rfl rfl (by decide +kernel) ⟨Nat.le_of_ble_eq_true rfl, Nat.le_of_ble_eq_true rfl⟩) ⟨kBL_blind, fun U hU hW => ⟨rfl, ⟨by rw [hU]; exact kW_cut hP, hK.warm hW, (hX.at hS hU hW).narrow (kW_sub hP hA)⟩, fun z9 h9 => Or.inr (by rw [← hU]; exact h9)⟩⟩ rfl rfl hl.1 rfl (lv_room (Nat.le_of_ble_eq_true rfl)) dL_law_1617 ⟨by show k9 + 1 ≤ 601024; omega, by show n9 + 6 ≤ 7293034; omega⟩) (fun H1 locs1 hP hS => ?_)
  refine lv_istore (lv' := [(5, .int (coLs S 37 nl (xs (i + 1))).1), (0, .ref b), (1, .ref (a 0)), (2, .ref (am 0)), (3, .ref o), (4, .int (nI i))]) hx hb dL_law_1620 hl (by decide) rfl (fun ls hl => ?_)
  refine lv_aload_n hx hb dL_law_1622 rfl (lv_at hl 3 rfl) ?_
  refine k_arg hx hb hX0 hbl hbA hS hl 1 5 rfl rfl 1 (by decide) (by omega) hL dL_law_1623 dL_law_1624 dL_law_1626 dL_law_1627 dL_law_1628 ?_
  have hP2 := kW_comm hP
  refine k_goW hP2 (fun z hz => hz) hS (va_runV (rest := []) ⟨hx, hb, hml, hown, hts⟩ (c_X5_billed l D q (va_A (wM q am T) H1.size) am T (xs (i + 1)) n w nl b2 b3 hR.1.2.2.1.1 a2 a3 c1 c2 (Rel_okM hR.1)) (cwV 1 hts gL_law_X5_billed rfl rfl rfl (by decide +kernel) ⟨Nat.le_of_ble_eq_true rfl, Nat.le_of_ble_eq_true rfl⟩) ⟨kB_blind, (va_recv hK.1 (kW_r hP2).1 (ci := 6) (q0 := 0) rfl rfl), fun U hU hW => ⟨rfl, by rw [hU]; exact kW_cut hP2, hK.warm hW⟩⟩ rfl rfl hl.1 rfl (lv_room (Nat.le_of_ble_eq_true rfl)) dL_law_1629 ⟨by show k9 + 1 + 0 ≤ 601024; omega, by show n9 + 6 + 0 ≤ 7293034; omega⟩) (fun H2 locs2 hP hS => ?_)
  obtain ⟨hans, n2, w2, L2, hR2⟩ := both_billed hR (xs (i + 1))
  exact k_tail E (by omega) (by omega) hk hn9 kk dL_law_1632 dL_law_1634 dL_law_1635 dL_law_1638 dL_law_1640 dL_law_1645 dL_law_1647 dL_law_1650 dL_law_1651 dL_law_1652 dL_law_1653 dL_law_1655 dL_law_1656 dL_law_1657 dL_law_1662 (by decide) hans hR2 hcap outG_0 hP hS hl
