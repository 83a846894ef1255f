theorem pass1 {C : Nat → Nat → Int32} {n nl w : Nat} (hw : w < 200) : coPass C n nl w (nI 1) = (nI 0, ehV C w, ehM C n nl w) := by
  unfold coPass
  rw [if_pos (inP_1 (by decide) (by decide) (by decide)), nI_clamp (by decide), if_pos (by omega)]
  show (nI 0, nI 0 + ehV C w, ehM C n nl w) = _
  rw [nI_0, Int32.zero_add]
set_option maxHeartbeats 4000000 in
set_option maxRecDepth 100000 in
theorem lc_hoursLoop {p : Program} {l : Launch} {e : Env} {s : State} {m : MethodId} {below : List Frame} {meth : Method} {c : Code} {b L : Nat} {xs : Nat → Int32} {D : va_G} {q : Nat → ClassId} {e0 : Nat} (E : lEnv p l s m meth c b L xs D q e0) {i k9 n9 hrs : Nat} {z : Int32} (hi : i < 80) (hh2 : hrs ≤ 2) (hk : k9 + 10 ≤ 600086) (hn9 : n9 + 100 ≤ 7301442) (kk : lK p l e s m below meth c b D q e0 (i + 1) (pJ b i z) (k9 + 10) (n9 + 100) 452) : ∀ (f j : Nat), hrs - j < f → j ≤ hrs → lK p l e s m below meth c b D q e0 i (fun a cb => [(18, .int (nI j)), (16, .int (nI hrs)), (15, .int (nI 1)), (13, .int z), (0, .ref b), (1, .ref (cb 0)), (2, .ref (a 0)), (3, .ref (a 1)), (4, .ref (a 2)), (5, .ref (a 3)), (6, .ref (a 4)), (7, .ref (a 5)), (8, .ref (a 6)), (9, .ref (a 7)), (10, .ref (a 8)), (11, .ref (a 9)), (12, .int (nI i))]) (k9 + 2 * j) (n9 + 12 * j) 385 := by
  obtain ⟨⟨hx, hb, hr, hml, hown, hts0, hX0, hbl, hlocks, -⟩, hK, hX, hE, hl0⟩ := id E
  have hts := lEnv_hts hts0
  intro f
  induction f with
  | zero => exact fun j h => absurd h (Nat.not_lt_zero _)
  | succ f ih =>
    rintro j hf hj H locs ls ⟨S, C, a, cb, cap, n, w, nl, L9, hP, hS, hI, hcap, hl⟩
    obtain ⟨hLR, T, hR⟩ := id hI
    obtain ⟨⟨q1, q2, q3, q4, q5⟩, hA9, ⟨hp1, hp2, hp3⟩, hT9, hF9, ⟨hL9, hC9⟩, hU9⟩ := id hLR
    have hnow : C 0 0 = nI w := hR.1.2.1.1.1
    have hn9c : C 0 1 = nI n := hR.1.2.1.2.1.1
    have hnl : nl ≤ cap ∧ cap ≤ 40 ∧ nl ≤ 30 := ⟨hcap.2, hcap.le, by omega⟩
    have hA : ∀ z9 : Nat, s.heap.size ≤ z9 → lA s z9 := fun _ h => h
    refine lv_iload hx hb dL_law_385 (lv_at hl 0 rfl) ?_
    refine lv_iload hx hb dL_law_387 (lv_at hl 1 rfl) ?_
    refine k_icmp_ge (P := j < hrs) (tgt := 452) hx hb dL_law_389 (by decide) (nI_ltI (by omega) (by omega)) (fun c1 => ?_) (fun c1 => ?_)
    · skip
      refine W.widen (k := k9 + 10) (n := n9 + 100) (by omega) (by omega) ?_
      exact kk H locs ls ⟨_, _, a, cb, cap, _, _, _, _, hP, hS, LI_tn (by omega) hI, hcap, (lv_sub hl [2, 3, 4, 5, 6, 7, 8, 9, 10, 11, 12, 13, 14, 15, 16] rfl)⟩
    · skip
      refine lv_aload_n hx hb dL_law_392 rfl (lv_at hl 6 rfl) ?_
      refine lv_iconst (v := nI 0) hx hb dL_law_393 (by decide) ?_
      refine k_iald hx hb hK hP.1 0 rfl 0 rfl (by decide) (by decide) dL_law_394 ?_
      refine k_top (y := nI w) q1.1 ?_
      refine lv_bipush (v := nI 20) hx hb dL_law_395 (by decide) ?_
      refine k_icmp_ge (P := w < 20) (tgt := 452) hx hb dL_law_397 (by decide) (nI_ltI (by omega) (by omega)) (fun c2 => ?_) (fun c2 => ?_)
      · skip
        refine W.widen (k := k9 + 10) (n := n9 + 100) (by omega) (by omega) ?_
        exact kk H locs ls ⟨_, _, a, cb, cap, _, _, _, _, hP, hS, LI_tn (by omega) hI, hcap, (lv_sub hl [2, 3, 4, 5, 6, 7, 8, 9, 10, 11, 12, 13, 14, 15, 16] rfl)⟩
      · skip
        obtain ⟨hrow, hkh, hev, L8, hI2⟩ := op_hour hI c2
        refine lv_aload_n hx hb dL_law_400 rfl (lv_at hl 7 rfl) ?_
        refine lv_aload hx hb dL_law_401 (lv_at hl 8 rfl) ?_
        refine lv_aload hx hb dL_law_403 (lv_at hl 9 rfl) ?_
        refine lv_aload hx hb dL_law_405 (lv_at hl 10 rfl) ?_
        refine lv_aload hx hb dL_law_407 (lv_at hl 11 rfl) ?_
        refine lv_aload hx hb dL_law_409 (lv_at hl 12 rfl) ?_
        refine lv_aload hx hb dL_law_411 (lv_at hl 15 rfl) ?_
        refine lv_aload_n hx hb dL_law_413 rfl (lv_at hl 6 rfl) ?_
        refine k_goRi hS (va_runS (rest := []) ⟨hx, hb, hml, hown, hts⟩ (c_L_hour l D q (lA s) a S (wC q cb C cap nl) w q1.1 c2 hrow hkh) (va_cwS 8 hts gL_law_L_hour rfl rfl rfl (by decide +kernel) ⟨Nat.le_of_ble_eq_true rfl, Nat.le_of_ble_eq_true rfl⟩) ⟨kB_blind, fun U hU hW => ⟨rfl, by rw [hU]; exact hP, hK.warm hW⟩⟩ rfl rfl hl.1 rfl (lv_room (Nat.le_of_ble_eq_true rfl)) dL_law_414 ⟨by show k9 + 2 * j + 0 ≤ 600086; omega, by show n9 + 12 * j + 0 ≤ 7301442; omega⟩) (fun H locs hP hS => ?_)
        refine lv_istore (lv' := [(17, .int ((yHf S w 12).2.2.1)), (18, .int (nI j)), (16, .int (nI hrs)), (15, .int (nI 1)), (13, .int z), (0, .ref b), (1, .ref (cb 0)), (2, .ref (a 0)), (3, .ref (a 1)), (4, .ref (a 2)), (5, .ref (a 3)), (6, .ref (a 4)), (7, .ref (a 5)), (8, .ref (a 6)), (9, .ref (a 7)), (10, .ref (a 8)), (11, .ref (a 9)), (12, .int (nI i))]) hx hb dL_law_417 hl (by decide) rfl (fun ls hl => ?_)
        refine lv_iload hx hb dL_law_419 (lv_at hl 3 rfl) ?_
        refine k_if_eq (P := False) (tgt := 443) hx hb dL_law_421 (by decide) ⟨fun z9 => absurd z9 (by decide), False.elim⟩ (fun c3 => c3.elim) (fun c3 => ?_)
        refine lv_aload_n hx hb dL_law_424 rfl (lv_at hl 6 rfl) ?_
        refine lv_iconst (v := nI 5) hx hb dL_law_425 (by decide) ?_
        refine lv_iconst (v := nI 1) hx hb dL_law_426 (by decide) ?_
        refine lv_iconst (v := nI 0) hx hb dL_law_427 (by decide) ?_
        refine lv_iconst (v := nI 0) hx hb dL_law_428 (by decide) ?_
        refine lv_iconst (v := nI 0) hx hb dL_law_429 (by decide) ?_
        refine lv_iconst (v := nI 0) hx hb dL_law_430 (by decide) ?_
        have hps := pass1 (C := C) (n := n) (nl := nl) (w := w) (by omega)
        refine k_goW hP (fun z9 h9 => hA z9 h9) hS (vx_runSW (rest := []) ⟨hx, hb, hml, hown, hts⟩ (c_L_calls_pass l hl0 D q (va_A (wC q cb C cap nl) H.size) cb C cap nl (nI 1) n w hn9c (by omega) hnl hnow (by omega) (Rel_okC hR.1) (Rel_okL hR.1) (nI 0) (nI 0) (nI 0) (nI 0) (by rw [hps]; exact caE_0 (by decide) rfl)) (vx_cwSW 7 hts gL_law_L_calls rfl rfl rfl (by decide +kernel) ⟨Nat.le_of_ble_eq_true rfl, Nat.le_of_ble_eq_true rfl⟩) ⟨kBL_blind, fun U hU hW => ⟨rfl, ⟨by rw [hU]; exact kW_cut hP, hK.warm hW, (hX.at hS hU hW).narrow (kW_sub hP (fun z9 h9 => hA z9 (Nat.le_trans hS.1 h9)))⟩, fun z9 h9 => Or.inr (by rw [← hU]; exact h9)⟩⟩ rfl rfl hl.1 rfl (lv_room (Nat.le_of_ble_eq_true rfl)) dL_law_431 ⟨by show k9 + 2 * j + 2 ≤ 600086; omega, by show n9 + 12 * j + 12 ≤ 7301442; omega⟩) (fun H locs hP hS => ?_)
        rw [hps] at hP ⊢
        rw [outS_0] at hP
        rw [caV_0 rfl]
        dsimp only
        refine lv_iload hx hb dL_law_434 (lv_at hl 0 rfl) ?_
        refine k_icmp_ne (P := True) (tgt := 443) hx hb dL_law_436 (by decide) ⟨fun _ => trivial, fun _ => hev⟩ (fun c4 => (c4 trivial).elim) (fun c4 => ?_)
        refine lv_iconst (v := nI 1) hx hb dL_law_439 (by decide) ?_
        refine lv_goto (tgt := 444) hx hb dL_law_440 (by decide) ?_
        refine lv_istore (lv' := [(15, .int (nI 1)), (17, .int ((yHf S w 12).2.2.1)), (18, .int (nI j)), (16, .int (nI hrs)), (13, .int z), (0, .ref b), (1, .ref (cb 0)), (2, .ref (a 0)), (3, .ref (a 1)), (4, .ref (a 2)), (5, .ref (a 3)), (6, .ref (a 4)), (7, .ref (a 5)), (8, .ref (a 6)), (9, .ref (a 7)), (10, .ref (a 8)), (11, .ref (a 9)), (12, .int (nI i))]) hx hb dL_law_444 hl (by decide) rfl (fun ls hl => ?_)
        refine lv_iinc (v := nI (j + 1)) (lv' := [(18, .int (nI (j + 1))), (15, .int (nI 1)), (17, .int ((yHf S w 12).2.2.1)), (16, .int (nI hrs)), (13, .int z), (0, .ref b), (1, .ref (cb 0)), (2, .ref (a 0)), (3, .ref (a 1)), (4, .ref (a 2)), (5, .ref (a 3)), (6, .ref (a 4)), (7, .ref (a 5)), (8, .ref (a 6)), (9, .ref (a 7)), (10, .ref (a 8)), (11, .ref (a 9)), (12, .int (nI i))]) hx hb dL_law_446 hl (k := 2) rfl (nI_add j 1) (by decide) rfl (fun ls hl => ?_)
        refine lv_goto (tgt := 385) hx hb dL_law_449 (by decide) ?_
        refine W.widen (k := k9 + 2 * (j + 1)) (n := n9 + 12 * (j + 1)) (by omega) (by omega) ?_
        exact ih (j + 1) (by omega) (by omega) H locs ls ⟨_, _, a, cb, cap, _, _, _, _, hP, hS, hI2, hcap, (lv_sub hl [0, 3, 1, 4, 5, 6, 7, 8, 9, 10, 11, 12, 13, 14, 15, 16, 17] rfl)⟩
set_option maxHeartbeats 4000000 in
set_option maxRecDepth 100000 in
theorem lc_hours {p : Program} {l : Launch} {e : Env} {s : State} {m : MethodId} {below : List Frame} {meth : Method} {c : Code} {b L : Nat} {xs : Nat → Int32} {D : va_G} {q : Nat → ClassId} {e0 : Nat} (E : lEnv p l s m meth c b L xs D q e0) {i v k9 n9 : Nat} {z : Int32} (hi : i < 80) (hv : v < 27) (hk : k9 + 10 ≤ 600086) (hn9 : n9 + 100 ≤ 7301442) (kk : lK p l e s m below meth c b D q e0 (i + 1) (pJ b i z) (k9 + 10) (n9 + 100) 452) : lK p l e s m below meth c b D q e0 i (pF b i v z) k9 n9 367 := by
  obtain ⟨⟨hx, hb, hr, hml, hown, hts0, hX0, hbl, hlocks, -⟩, hK, hX, hE, hl0⟩ := id E
  have hts := lEnv_hts hts0
  rintro H locs ls ⟨S, C, a, cb, cap, n, w, nl, L9, hP, hS, hI, hcap, hl⟩
  obtain ⟨hLR, T, hR⟩ := id hI
  obtain ⟨⟨q1, q2, q3, q4, q5⟩, hA9, ⟨hp1, hp2, hp3⟩, hT9, hF9, ⟨hL9, hC9⟩, hU9⟩ := id hLR
  have hO := LR_yO hLR
  have hyt := LR_yT hLR hR.1
  have hnow : C 0 0 = nI w := hR.1.2.1.1.1
  have hn9c : C 0 1 = nI n := hR.1.2.1.2.1.1
  have hnl : nl ≤ cap ∧ cap ≤ 40 ∧ nl ≤ 30 := ⟨hcap.2, hcap.le, by omega⟩
  refine lv_iconst (v := nI 1) hx hb dL_law_367 (by decide) ?_
  refine lv_iload hx hb dL_law_368 (lv_at hl 2 rfl) ?_
  refine lv_iconst (v := nI 5) hx hb dL_law_370 (by decide) ?_
  refine lv_ishr hx hb dL_law_371 ?_
  generalize z >>> (nI 5 &&& 31) = y
  refine lv_iconst (v := nI 2) hx hb dL_law_372 (by decide) ?_
  refine k_callS (rest := [.int (nI 1)]) (r := nI (lowN (y) (2))) ⟨hx, hb, hml, hown, hts⟩ (c_L_low l D q (y) (2) (by omega) (by omega)) (va_cwS 2 hts gL_law_L_low rfl rfl rfl (by decide +kernel) ⟨Nat.le_of_ble_eq_true rfl, Nat.le_of_ble_eq_true rfl⟩) hK trivial rfl hl.1 rfl (Nat.le_of_ble_eq_true rfl) dL_law_373 ⟨by show k9 ≤ 600086; omega, by show n9 ≤ 7301442; omega⟩ (fun _ h => h) ?_
  refine lv_iadd hx hb dL_law_376 ?_
  refine k_top (y := nI (1 + lowN y 2)) (nI_add _ _) ?_
  refine lv_istore (lv' := [(16, .int (nI (1 + lowN y 2))), (15, .int (nI 1)), (14, .int (nI v)), (13, .int z), (0, .ref b), (1, .ref (cb 0)), (2, .ref (a 0)), (3, .ref (a 1)), (4, .ref (a 2)), (5, .ref (a 3)), (6, .ref (a 4)), (7, .ref (a 5)), (8, .ref (a 6)), (9, .ref (a 7)), (10, .ref (a 8)), (11, .ref (a 9)), (12, .int (nI i))]) hx hb dL_law_377 hl (by decide) rfl (fun ls hl => ?_)
  refine lv_iconst (v := nI 0) hx hb dL_law_379 (by decide) ?_
  refine lv_istore (lv' := [(17, .int (nI 0)), (16, .int (nI (1 + lowN y 2))), (15, .int (nI 1)), (14, .int (nI v)), (13, .int z), (0, .ref b), (1, .ref (cb 0)), (2, .ref (a 0)), (3, .ref (a 1)), (4, .ref (a 2)), (5, .ref (a 3)), (6, .ref (a 4)), (7, .ref (a 5)), (8, .ref (a 6)), (9, .ref (a 7)), (10, .ref (a 8)), (11, .ref (a 9)), (12, .int (nI i))]) hx hb dL_law_380 hl (by decide) rfl (fun ls hl => ?_)
  refine lv_iconst (v := nI 0) hx hb dL_law_382 (by decide) ?_
  refine lv_istore (lv' := [(18, .int (nI 0)), (17, .int (nI 0)), (16, .int (nI (1 + lowN y 2))), (15, .int (nI 1)), (14, .int (nI v)), (13, .int z), (0, .ref b), (1, .ref (cb 0)), (2, .ref (a 0)), (3, .ref (a 1)), (4, .ref (a 2)), (5, .ref (a 3)), (6, .ref (a 4)), (7, .ref (a 5)), (8, .ref (a 6)), (9, .ref (a 7)), (10, .ref (a 8)), (11, .ref (a 9)), (12, .int (nI i))]) hx hb dL_law_383 hl (by decide) rfl (fun ls hl => ?_)
  have hy2 : lowN y 2 < 2 := lowN_lt (by decide)
  exact lc_hoursLoop E hi (hrs := 1 + lowN y 2) (by omega) hk hn9 kk (1 + lowN y 2 - 0 + 1) 0 (by omega) (by omega) H locs ls ⟨S, C, a, cb, cap, n, w, nl, L9, hP, hS, hI, hcap, (lv_sub hl [0, 2, 3, 5, 6, 7, 8, 9, 10, 11, 12, 13, 14, 15, 16, 17, 18] rfl)⟩
