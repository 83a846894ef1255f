set_option maxHeartbeats 4000000 in
set_option maxRecDepth 100000 in
theorem lc_join {p : Program} {l : Launch} {e : Env} {s : State} {m : MethodId} {below : List Frame} {meth : Method} {c : Code} {b L : Nat} {xs : Nat → Int32} {D : va_G} {q : Nat → ClassId} {e0 : Nat} (E : lEnv p l s m meth c b L xs D q e0) {i k9 n9 : Nat} {z : Int32} (hi : i < 80) (hk : k9 + 210 ≤ 600086) (hn9 : n9 + 1300 ≤ 7301442) (kk : lK p l e s m below meth c b D q e0 (i + 1) (pT b (i + 1)) (k9 + 210) (n9 + 1300) 91) : lK p l e s m below meth c b D q e0 (i + 1) (pJ b i z) k9 n9 452 := by
  obtain ⟨⟨hx, hb, hr, hml, hown, hts0, hX0, hbl, hlocks, -⟩, hK, hX, hE, hl0⟩ := id E
  have hts := lEnv_hts hts0
  rintro H locs ls ⟨S, C, a, cb, cap, n, w, nl, L9, hP, hS, hI, hcap, hl⟩
  obtain ⟨hLR, T, hR⟩ := id hI
  obtain ⟨⟨q1, q2, q3, q4, q5⟩, hA9, ⟨hp1, hp2, hp3⟩, hT9, hF9, ⟨hL9, hC9⟩, hU9⟩ := id hLR
  have hO := LR_yO hLR
  have hyt := LR_yT hLR hR.1
  have hnow : C 0 0 = nI w := hR.1.2.1.1.1
  have hn9c : C 0 1 = nI n := hR.1.2.1.2.1.1
  have hnl : nl ≤ cap ∧ cap ≤ 40 ∧ nl ≤ 30 := ⟨hcap.2, hcap.le, by omega⟩
  refine lv_iload hx hb dL_law_452 (lv_at hl 0 rfl) ?_
  refine k_if_eq (P := False) (tgt := 514) hx hb dL_law_454 (by decide) ⟨fun z9 => absurd z9 (by decide), False.elim⟩ (fun c3 => c3.elim) (fun c3 => ?_)
  refine lv_aload_n hx hb dL_law_457 rfl (lv_at hl 3 rfl) ?_
  refine lv_iload hx hb dL_law_458 (lv_at hl 1 rfl) ?_
  refine lv_iconst (v := nI 3) hx hb dL_law_460 (by decide) ?_
  refine lv_ishr hx hb dL_law_461 ?_
  generalize z >>> (nI 3 &&& 31) = y
  refine lv_aload hx hb dL_law_462 (lv_at hl 8 rfl) ?_
  refine lv_aload hx hb dL_law_464 (lv_at hl 11 rfl) ?_
  refine lv_aload hx hb dL_law_466 (lv_at hl 12 rfl) ?_
  refine lv_aload hx hb dL_law_468 (lv_at hl 13 rfl) ?_
  refine lv_aload_n hx hb dL_law_470 rfl (lv_at hl 4 rfl) ?_
  refine k_goRi hS (va_runS (rest := []) ⟨hx, hb, hml, hown, hts⟩ (c_L_isSo l hl0 D q (lA s) a S cb C cap nl y n w hp3.2.2.1 hyt q2.1 q2.2 hn9c hnow q1.2 q1.1 hO q3.2 q3.1 hnl (Rel_okC hR.1) (LI_so hLR hR.1)) (va_cwS 7 hts gL_law_L_isSo rfl rfl rfl (by decide +kernel) ⟨Nat.le_of_ble_eq_true rfl, Nat.le_of_ble_eq_true rfl⟩) ⟨kBL_blind, fun U hU hW => ⟨rfl, ⟨by rw [hU]; exact hP, hK.warm hW, hX.at hS hU hW⟩, fun z9 h9 => Nat.le_trans hS.1 (by rw [← hU]; exact h9)⟩⟩ rfl rfl hl.1 rfl (lv_room (Nat.le_of_ble_eq_true rfl)) dL_law_471 ⟨by show k9 + 62 ≤ 600086; omega, by show n9 + 400 ≤ 7301442; omega⟩) (fun H locs hP hS => ?_)
  refine k_if_eq (P := False) (tgt := 514) hx hb dL_law_474 (by decide) ⟨fun z9 => absurd z9 (by decide), False.elim⟩ (fun c3 => c3.elim) (fun c3 => ?_)
  refine lv_aload_n hx hb dL_law_477 rfl (lv_at hl 4 rfl) ?_
  refine lv_iconst (v := nI 0) hx hb dL_law_478 (by decide) ?_
  refine k_iald hx hb hK hP.1 0 rfl 0 rfl (by decide) (by decide) dL_law_479 ?_
  refine k_top (y := nI w) q1.1 ?_
  have next : ∀ (H : Heap) (locs : List Loc) (k0 n0 : Nat), k0 ≤ k9 + 210 → n0 ≤ n9 + 1300 → kW D (lA s) (wL q a S (wC q cb C cap nl)) H → va_S (lA s) s.heap H locs → W p l e room_1 s m #[Value.ref b] below meth c H locs k0 n0 (lw_Z below #[Value.ref b] s) (F0 m 516 ls []) := by
    intro H locs k0 n0 hk0 hn0 hP hS
    refine lv_iinc (v := nI (i + 1)) (lv' := [(12, .int (nI (i + 1))), (15, .int (nI 1)), (13, .int z), (0, .ref b), (1, .ref (cb 0)), (2, .ref (a 0)), (3, .ref (a 1)), (4, .ref (a 2)), (5, .ref (a 3)), (6, .ref (a 4)), (7, .ref (a 5)), (8, .ref (a 6)), (9, .ref (a 7)), (10, .ref (a 8)), (11, .ref (a 9))]) hx hb dL_law_516 hl (k := 14) rfl (nI_add i 1) (by decide) rfl (fun ls hl => ?_)
    refine lv_goto (tgt := 91) hx hb dL_law_519 (by decide) ?_
    refine W.widen (k := k9 + 210) (n := n9 + 1300) hk0 hn0 ?_
    exact kk H locs ls ⟨S, C, a, cb, cap, n, w, nl, L9, hP, hS, hI, hcap, (lv_sub hl [3, 4, 5, 6, 7, 8, 9, 10, 11, 12, 13, 14, 0] rfl)⟩
  refine k_if_le (P := w = 0) (tgt := 516) hx hb dL_law_480 (by decide) (k_nle0 (by omega)) (fun c4 => ?_) (fun c4 => ?_)
  · skip
    exact next H locs (k9 + 62) (n9 + 400) (by omega) (by omega) hP hS
  · skip
    refine lv_aload_n hx hb dL_law_483 rfl (lv_at hl 3 rfl) ?_
    refine lv_iload hx hb dL_law_484 (lv_at hl 1 rfl) ?_
    refine lv_bipush (v := nI 6) hx hb dL_law_486 (by decide) ?_
    refine lv_ishr hx hb dL_law_488 ?_
    generalize z >>> (nI 6 &&& 31) = y2
    refine lv_aload_n hx hb dL_law_489 rfl (lv_at hl 4 rfl) ?_
    refine lv_iconst (v := nI 0) hx hb dL_law_490 (by decide) ?_
    refine k_iald hx hb hK hP.1 0 rfl 0 rfl (by decide) (by decide) dL_law_491 ?_
    refine k_top (y := nI w) q1.1 ?_
    refine k_callS (rest := [.ref (cb 0)]) (r := nI (lowN (y2) (w))) ⟨hx, hb, hml, hown, hts⟩ (c_L_low l D q (y2) (w) (by omega) (by omega)) (va_cwS 2 hts gL_law_L_low rfl rfl rfl (by decide +kernel) ⟨Nat.le_of_ble_eq_true rfl, Nat.le_of_ble_eq_true rfl⟩) hK trivial rfl hl.1 rfl (Nat.le_of_ble_eq_true rfl) dL_law_492 ⟨by show k9 + 62 ≤ 600086; omega, by show n9 + 400 ≤ 7301442; omega⟩ (fun _ h => h) ?_
    refine lv_aload hx hb dL_law_495 (lv_at hl 6 rfl) ?_
    refine lv_aload hx hb dL_law_497 (lv_at hl 7 rfl) ?_
    refine lv_aload hx hb dL_law_499 (lv_at hl 8 rfl) ?_
    refine lv_aload hx hb dL_law_501 (lv_at hl 9 rfl) ?_
    refine lv_aload hx hb dL_law_503 (lv_at hl 10 rfl) ?_
    refine lv_aload hx hb dL_law_505 (lv_at hl 11 rfl) ?_
    refine lv_aload_n hx hb dL_law_507 rfl (lv_at hl 4 rfl) ?_
    refine k_goRi hS (va_runS (rest := []) ⟨hx, hb, hml, hown, hts⟩ (c_L_isHour l hl0 D q (lA s) a S cb C cap nl (lowN y2 w) n w (lowN_lt (by omega)) hp3.2.2.1 hyt q2.1 q2.2 hn9c hnow q1.2 hp3.1 hp3.2.1 hp3.2.2.2 (LI_hour hLR hR.1 (lowN_lt (by omega)))) (va_cwS 9 hts gL_law_L_isHour rfl rfl rfl (by decide +kernel) ⟨Nat.le_of_ble_eq_true rfl, Nat.le_of_ble_eq_true rfl⟩) ⟨kBL_blind, fun U hU hW => ⟨rfl, ⟨by rw [hU]; exact hP, hK.warm hW, hX.at hS hU hW⟩, fun z9 h9 => Nat.le_trans hS.1 (by rw [← hU]; exact h9)⟩⟩ rfl rfl hl.1 rfl (lv_room (Nat.le_of_ble_eq_true rfl)) dL_law_508 ⟨by show k9 + 62 + 146 ≤ 600086; omega, by show n9 + 400 + 900 ≤ 7301442; omega⟩) (fun H locs hP hS => ?_)
    refine k_if_ne (P := False) (tgt := 516) hx hb dL_law_511 (by decide) ⟨fun z9 => absurd z9 (by decide), False.elim⟩ (fun c5 => ?_) (fun c5 => c5.elim)
    exact next H locs (k9 + 62 + 146) (n9 + 400 + 900) (by omega) (by omega) hP hS
set_option maxHeartbeats 4000000 in
set_option maxRecDepth 100000 in
theorem law_loop {p : Program} {l : Launch} {e : Env} {s : State} {m : MethodId} {below : List Frame} {meth : Method} {c : Code} {b L : Nat} {xs : Nat → Int32} {D : va_G} {q : Nat → ClassId} {e0 : Nat} (E : lEnv p l s m meth c b L xs D q e0) (hL : L ≤ 260) : ∀ (f i k9 n9 : Nat), k9 = 100 + 220 * i → n9 = 20000 + 1400 * i → i ≤ 80 → 80 < i + f → lK p l e s m below meth c b D q e0 i (pT b i) k9 n9 91 := by
  obtain ⟨⟨hx, hb, hr, hml, hown, hts0, hX0, hbl, hlocks, -⟩, hK, hX, hE, hl0⟩ := id E
  have hts := lEnv_hts hts0
  have hbA : ¬ lA s b := Nat.not_le.mpr hbl
  intro f
  induction f with
  | zero =>
    intro i k9 n9 ek en hi hf
    exact absurd hf (by omega)
  | succ f ih =>
    rintro i k9 n9 ek en hi hf H locs ls ⟨S, C, a, cb, cap, n, w, nl, L9, hP, hS, hI, hcap, hl⟩
    refine lv_iload hx hb dL_law_91 (lv_at hl 12 rfl) ?_
    refine lv_bipush (v := nI 80) hx hb dL_law_93 (by decide) ?_
    refine k_icmp_ge (P := i < 80) (tgt := 522) hx hb dL_law_95 (by decide) (nI_ltI (by omega) (by omega)) (fun c1 => ?_) (fun c1 => ?_)
    · skip
      refine lv_iconst (v := 1) hx hb dL_law_522 (by decide) ?_
      refine va_forget (fun q hq => hS.2.2 q hq) ?_
      refine W.widen (k := 600086) (n := 7301442) (by omega) (by omega) ?_
      exact lw_ret hx hb hr hlocks dL_law_523
    · skip
      refine lv_aload_n hx hb dL_law_98 rfl (lv_at hl 0 rfl) ?_
      refine lv_iload hx hb dL_law_99 (lv_at hl 12 rfl) ?_
      refine vp_callSi (W.runS ⟨hx, hb, hml, hown, hts⟩ (c_L_cell l D q b L xs i c1 hL) (va_cwS 2 hts gL_law_L_cell rfl rfl rfl (by decide +kernel) ⟨Nat.le_of_ble_eq_true rfl, Nat.le_of_ble_eq_true rfl⟩) ⟨kBc_blind, fun U hU hW => ⟨rfl, ⟨by rw [hU]; exact (hX0.kept (hS.2.1 b hbl hbA)).moved hW.alike, by rw [hU]; exact Nat.lt_of_lt_of_le hbl hS.1⟩, hK.warm hW⟩⟩ rfl rfl hl.1 rfl (lv_room (Nat.le_of_ble_eq_true rfl)) dL_law_101 ⟨by show k9 ≤ 600086; omega, by show n9 ≤ 7301442; omega⟩) (fun z9 hz9 => ?_)
      generalize z9 = z
      refine lv_istore (lv' := [(13, .int z), (0, .ref b), (1, .ref (cb 0)), (2, .ref (a 0)), (3, .ref (a 1)), (4, .ref (a 2)), (5, .ref (a 3)), (6, .ref (a 4)), (7, .ref (a 5)), (8, .ref (a 6)), (9, .ref (a 7)), (10, .ref (a 8)), (11, .ref (a 9)), (12, .int (nI i))]) hx hb dL_law_104 hl (by decide) rfl (fun ls hl => ?_)
      refine lv_iload hx hb dL_law_106 (lv_at hl 0 rfl) ?_
      refine lv_bipush (v := nI 27) hx hb dL_law_108 (by decide) ?_
      refine k_callS (rest := []) (r := nI (lowN (z) (27))) ⟨hx, hb, hml, hown, hts⟩ (c_L_low l D q (z) (27) (by omega) (by omega)) (va_cwS 2 hts gL_law_L_low rfl rfl rfl (by decide +kernel) ⟨Nat.le_of_ble_eq_true rfl, Nat.le_of_ble_eq_true rfl⟩) hK trivial rfl hl.1 rfl (Nat.le_of_ble_eq_true rfl) dL_law_110 ⟨by show k9 ≤ 600086; omega, by show n9 ≤ 7301442; omega⟩ (fun _ h => h) ?_
      have hv27 : lowN z 27 < 27 := lowN_lt (by decide)
      generalize lowN z 27 = v at hv27 ⊢
      refine lv_istore (lv' := [(14, .int (nI v)), (13, .int z), (0, .ref b), (1, .ref (cb 0)), (2, .ref (a 0)), (3, .ref (a 1)), (4, .ref (a 2)), (5, .ref (a 3)), (6, .ref (a 4)), (7, .ref (a 5)), (8, .ref (a 6)), (9, .ref (a 7)), (10, .ref (a 8)), (11, .ref (a 9)), (12, .int (nI i))]) hx hb dL_law_113 hl (by decide) rfl (fun ls hl => ?_)
      refine lv_iconst (v := nI 1) hx hb dL_law_115 (by decide) ?_
      refine lv_istore (lv' := [(15, .int (nI 1)), (14, .int (nI v)), (13, .int z), (0, .ref b), (1, .ref (cb 0)), (2, .ref (a 0)), (3, .ref (a 1)), (4, .ref (a 2)), (5, .ref (a 3)), (6, .ref (a 4)), (7, .ref (a 5)), (8, .ref (a 6)), (9, .ref (a 7)), (10, .ref (a 8)), (11, .ref (a 9)), (12, .int (nI i))]) hx hb dL_law_116 hl (by decide) rfl (fun ls hl => ?_)
      have hk2 : k9 + 10 ≤ 600086 := by omega
      have hn2 : n9 + 100 ≤ 7301442 := by omega
      have kk : lK p l e s m below meth c b D q e0 (i + 1) (pJ b i z) (k9 + 10) (n9 + 100) 452 := lc_join E c1 (by omega) (by omega) (ih (i + 1) (k9 + 10 + 210) (n9 + 100 + 1300) (by omega) (by omega) (by omega) (by omega))
      have hst : lSt s D q e0 i (pF b i v z) H locs ls := ⟨S, C, a, cb, cap, n, w, nl, L9, hP, hS, hI, hcap, hl⟩
      refine lv_iload hx hb dL_law_118 (lv_at hl 1 rfl) ?_
      refine lv_iconst (v := nI 4) hx hb dL_law_120 (by decide) ?_
      refine k_icmp_ge (P := v < 4) (tgt := 141) hx hb dL_law_121 (by decide) (nI_ltI (by omega) (by omega)) (fun d0 => ?_) (fun d0 => ?_)
      case refine_2 => exact lc_people E c1 d0 hk2 hn2 kk H locs ls hst
      refine lv_iload hx hb dL_law_141 (lv_at hl 1 rfl) ?_
      refine lv_bipush (v := nI 7) hx hb dL_law_143 (by decide) ?_
      refine k_icmp_ge (P := v < 7) (tgt := 176) hx hb dL_law_145 (by decide) (nI_ltI (by omega) (by omega)) (fun d1 => ?_) (fun d1 => ?_)
      case refine_2 => exact lc_lamp E c1 d1 hk2 hn2 kk H locs ls hst
      refine lv_iload hx hb dL_law_176 (lv_at hl 1 rfl) ?_
      refine lv_bipush (v := nI 11) hx hb dL_law_178 (by decide) ?_
      refine k_icmp_ge (P := v < 11) (tgt := 215) hx hb dL_law_180 (by decide) (nI_ltI (by omega) (by omega)) (fun d2 => ?_) (fun d2 => ?_)
      case refine_2 => exact lc_finds E c1 d2 hk2 hn2 kk H locs ls hst
      refine lv_iload hx hb dL_law_215 (lv_at hl 1 rfl) ?_
      refine lv_bipush (v := nI 15) hx hb dL_law_217 (by decide) ?_
      refine k_icmp_ge (P := v < 15) (tgt := 250) hx hb dL_law_219 (by decide) (nI_ltI (by omega) (by omega)) (fun d3 => ?_) (fun d3 => ?_)
      case refine_2 => exact lc_leases E c1 d3 hk2 hn2 kk H locs ls hst
      refine lv_iload hx hb dL_law_250 (lv_at hl 1 rfl) ?_
      refine lv_bipush (v := nI 15) hx hb dL_law_252 (by decide) ?_
      refine k_icmp_ne (P := v = 15) (tgt := 330) hx hb dL_law_254 (by decide) (nI_eq (by omega) (by omega)) (fun d4 => ?_) (fun d4 => ?_)
      case refine_2 => exact lc_pay E c1 d4 hk2 hn2 kk H locs ls hst
      refine lv_iload hx hb dL_law_330 (lv_at hl 1 rfl) ?_
      refine lv_bipush (v := nI 22) hx hb dL_law_332 (by decide) ?_
      refine k_icmp_ge (P := v < 22) (tgt := 367) hx hb dL_law_334 (by decide) (nI_ltI (by omega) (by omega)) (fun d5 => ?_) (fun d5 => ?_)
      case refine_2 => exact lc_asks E c1 d5 hk2 hn2 kk H locs ls hst
      exact lc_hours E c1 hv27 hk2 hn2 kk H locs ls hst
