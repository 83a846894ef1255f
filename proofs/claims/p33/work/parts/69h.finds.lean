set_option maxHeartbeats 4000000 in
set_option maxRecDepth 100000 in
theorem c_L_finds_f (l : Launch) (hl0 : l.stackTraces = false) (D : va_G) (q : Nat → ClassId) (A : Nat → Prop) (a : Nat → Nat) (S : Nat → Nat → Int32) (cb : Nat → Nat) (cM : Nat → Nat → Int32) (cap nl : Nat) (ac : Nat) (z : Int32) (n w0 : Nat) (cN : Nat → Nat → Int32) (hac : ac = 0) (hn11 : n < 12) (hb4 : bd (S 4) 32767) (ht : yT S n) (hn : S 0 1 = nI n) (hn12 : n ≤ 12) (hw : S 0 0 = nI w0) (hw20 : w0 ≤ 20) (hO : yO S nl) (hnl10 : nl ≤ 10) (hnlq : S 0 2 = nI nl) (hn9 : cM 0 1 = nI n) (hnow : cM 0 0 = nI w0) (hnl : nl ≤ cap ∧ cap ≤ 40 ∧ nl ≤ 30) (hco : coFind cM n w0 nl (nI (lowN z 12)) (nI (lowN (z >>> (nI 4 &&& 31)) (w0 + 1))) (nI (lowN (z >>> (nI 8 &&& 31)) 61)) = (nI 0, (yBi S n w0 (-1) nl).1 + (yBi (yFM S n w0 nl (lowN z 12) (lowN (z >>> (nI 4 &&& 31)) (w0 + 1)) (lowN (z >>> (nI 8 &&& 31)) 61)) (n + 1) w0 (nI 1) nl).1, cN)) : Met l yL_finds wsL_finds ({ frames := 8, cells := 4, slots := 24, locals := 247 } : Room) (va_Pc [.ref (cb 0), .int (nI ac), .int (z), .ref (a 4), .ref (a 7), .ref (a 8), .ref (a 0)] (kBL D q A (fun H => kW D A (wL q a S ((wC q cb cM cap nl))) H))) (kRi D A (nI 1) (wL q a ((yBi (yFM S n w0 nl (lowN z 12) (lowN (z >>> (nI 4 &&& 31)) (w0 + 1)) (lowN (z >>> (nI 8 &&& 31)) 61)) (n + 1) w0 (nI 1) nl).2) ((wC q cb cN cap nl)))) 4 24 A := by
  refine Met.ofW (cc := cL_finds) (maxL := 11) (ret := (some .boolean)) (by decide) rfl ?_
  intro p e u m args below meth c s₁ B hml0 hv
  obtain ⟨rfl, ⟨hP, hK, hX⟩, hA⟩ := hv
  have C0 : kAt p u m #[.ref (cb 0), .int (nI ac), .int (z), .ref (a 4), .ref (a 7), .ref (a 8), .ref (a 0)] meth c cL_finds 11 (some .boolean) RL wsL_finds := kAt_of B hml0
  obtain ⟨hx, hb, hr, hml, hown, hts, hlocks⟩ := id C0
  have hS : va_S A u.heap u.heap [] := va_S.rf
  have hl := lv_entry ([.ref (cb 0), .int (nI ac), .int (z), .ref (a 4), .ref (a 7), .ref (a 8), .ref (a 0)]) (n := 11) (Nat.le_of_ble_eq_true rfl)
  rw [lg_entry_eq]
  generalize (lg_sl ([.ref (cb 0), .int (nI ac), .int (z), .ref (a 4), .ref (a 7), .ref (a 8), .ref (a 0)]) ++ List.replicate (11 - (lg_sl ([.ref (cb 0), .int (nI ac), .int (z), .ref (a 4), .ref (a 7), .ref (a 8), .ref (a 0)])).length) Slot.unset).toArray = ls at hl ⊢
  have hl : lv_has ls 11 [(0, .ref (cb 0)), (1, .int (nI ac)), (2, .int (z)), (3, .ref (a 4)), (4, .ref (a 7)), (5, .ref (a 8)), (6, .ref (a 0))] := hl
  refine lv_iload_n hx hb dL_finds_0 rfl (lv_at hl 2 rfl) ?_
  refine lv_bipush (v := nI 12) hx hb dL_finds_1 (by decide) ?_
  refine k_callS (rest := []) (r := nI (lowN z 12)) ⟨hx, hb, hml, hown, hts⟩ (c_L_low l D q z 12 (by omega) (by omega)) (va_cwS 2 hts gL_finds_L_low rfl rfl rfl (by decide +kernel) ⟨Nat.le_of_ble_eq_true rfl, Nat.le_of_ble_eq_true rfl⟩) hK trivial rfl hl.1 rfl (Nat.le_of_ble_eq_true rfl) dL_finds_3 ⟨by show 0 ≤ 4; omega, by show 0 ≤ 24; omega⟩ (fun _ h => h) ?_
  have hlo : lowN z 12 < 12 := lowN_lt (by first | decide | omega | exact zif_p (by decide) (by decide))
  refine lv_istore (lv' := [(7, .int (nI (lowN z 12))), (0, .ref (cb 0)), (1, .int (nI ac)), (2, .int (z)), (3, .ref (a 4)), (4, .ref (a 7)), (5, .ref (a 8)), (6, .ref (a 0))]) hx hb dL_finds_6 hl (by decide) rfl (fun ls hl => ?_)
  refine lv_iload_n hx hb dL_finds_8 rfl (lv_at hl 2 rfl) ?_
  refine k_if_ne (P := ac = 0) (tgt := 141) hx hb dL_finds_9 (by decide) (k_n0 (by omega)) (fun c_1 => ?_) (fun c_1 => ?_)
  · skip
    exact absurd hac c_1
  · skip
    refine lv_aload hx hb dL_finds_12 (lv_at hl 7 rfl) ?_
    refine lv_iconst (v := nI 1) hx hb dL_finds_14 (by decide) ?_
    refine k_iald hx hb hK hP.1 0 rfl 1 rfl (by omega) (by decide) dL_finds_15 ?_
    refine k_top (y := nI n) hn ?_
    refine lv_bipush (v := nI 12) hx hb dL_finds_16 (by decide) ?_
    refine k_icmp_ge (P := n < 12) (tgt := 141) hx hb dL_finds_18 (by decide) (nI_ltI (by omega) (by omega)) (fun c_2 => ?_) (fun c_2 => ?_)
    · skip
      exact absurd hn11 c_2
    · skip
      refine lv_iload_n hx hb dL_finds_21 rfl (lv_at hl 3 rfl) ?_
      refine lv_iconst (v := nI 4) hx hb dL_finds_22 (by decide) ?_
      refine lv_ishr hx hb dL_finds_23 ?_
      refine lv_aload hx hb dL_finds_24 (lv_at hl 7 rfl) ?_
      refine lv_iconst (v := nI 0) hx hb dL_finds_26 (by decide) ?_
      refine k_iald hx hb hK hP.1 0 rfl 0 rfl (by omega) (by decide) dL_finds_27 ?_
      refine k_top (y := nI w0) hw ?_
      refine lv_iconst (v := nI 1) hx hb dL_finds_28 (by decide) ?_
      refine lv_iadd hx hb dL_finds_29 ?_
      refine k_top (y := nI (w0 + 1)) (nI_add _ _) ?_
      refine k_callS (rest := []) (r := nI (lowN (z >>> ((nI 4) &&& 31)) (w0 + 1))) ⟨hx, hb, hml, hown, hts⟩ (c_L_low l D q (z >>> ((nI 4) &&& 31)) (w0 + 1) (by omega) (by omega)) (va_cwS 2 hts gL_finds_L_low rfl rfl rfl (by decide +kernel) ⟨Nat.le_of_ble_eq_true rfl, Nat.le_of_ble_eq_true rfl⟩) hK trivial rfl hl.1 rfl (Nat.le_of_ble_eq_true rfl) dL_finds_30 ⟨by show 0 ≤ 4; omega, by show 0 ≤ 24; omega⟩ (fun _ h => h) ?_
      have hlo : lowN (z >>> ((nI 4) &&& 31)) (w0 + 1) < (w0 + 1) := lowN_lt (by first | decide | omega | exact zif_p (by decide) (by decide))
      refine lv_istore (lv' := [(8, .int (nI (lowN (z >>> ((nI 4) &&& 31)) (w0 + 1)))), (7, .int (nI (lowN z 12))), (0, .ref (cb 0)), (1, .int (nI ac)), (2, .int (z)), (3, .ref (a 4)), (4, .ref (a 7)), (5, .ref (a 8)), (6, .ref (a 0))]) hx hb dL_finds_33 hl (by decide) rfl (fun ls hl => ?_)
      refine lv_iload_n hx hb dL_finds_35 rfl (lv_at hl 4 rfl) ?_
      refine lv_bipush (v := nI 8) hx hb dL_finds_36 (by decide) ?_
      refine lv_ishr hx hb dL_finds_38 ?_
      refine lv_bipush (v := nI 61) hx hb dL_finds_39 (by decide) ?_
      refine k_callS (rest := []) (r := nI (lowN (z >>> ((nI 8) &&& 31)) 61)) ⟨hx, hb, hml, hown, hts⟩ (c_L_low l D q (z >>> ((nI 8) &&& 31)) 61 (by omega) (by omega)) (va_cwS 2 hts gL_finds_L_low rfl rfl rfl (by decide +kernel) ⟨Nat.le_of_ble_eq_true rfl, Nat.le_of_ble_eq_true rfl⟩) hK trivial rfl hl.1 rfl (Nat.le_of_ble_eq_true rfl) dL_finds_41 ⟨by show 0 ≤ 4; omega, by show 0 ≤ 24; omega⟩ (fun _ h => h) ?_
      have hlo : lowN (z >>> ((nI 8) &&& 31)) 61 < 61 := lowN_lt (by first | decide | omega | exact zif_p (by decide) (by decide))
      refine lv_istore (lv' := [(9, .int (nI (lowN (z >>> ((nI 8) &&& 31)) 61))), (8, .int (nI (lowN (z >>> ((nI 4) &&& 31)) (w0 + 1)))), (7, .int (nI (lowN z 12))), (0, .ref (cb 0)), (1, .int (nI ac)), (2, .int (z)), (3, .ref (a 4)), (4, .ref (a 7)), (5, .ref (a 8)), (6, .ref (a 0))]) hx hb dL_finds_44 hl (by decide) rfl (fun ls hl => ?_)
      refine lv_iconst (v := (-1)) hx hb dL_finds_46 (by decide) ?_
      refine lv_aload_n hx hb dL_finds_47 rfl (lv_at hl 6 rfl) ?_
      refine lv_aload hx hb dL_finds_48 (lv_at hl 7 rfl) ?_
      refine lv_aload hx hb dL_finds_50 (lv_at hl 8 rfl) ?_
      refine lv_aload hx hb dL_finds_52 (lv_at hl 9 rfl) ?_
      refine k_goRi hS (va_runS (rest := []) ⟨hx, hb, hml, hown, hts⟩ (c_L_bills l D q A a S ((wC q cb cM cap nl)) ((-1)) n w0 nl hnl10 hnlq hb4 ht hn hn12 hw hw20 hO) (va_cwS 5 hts gL_finds_L_bills rfl rfl rfl (by decide +kernel) ⟨Nat.le_of_ble_eq_true rfl, Nat.le_of_ble_eq_true rfl⟩) ⟨kB_blind, fun U hU hW => ⟨rfl, by rw [hU]; exact hP, hK.warm hW⟩⟩ rfl rfl hl.1 rfl (lv_room (Nat.le_of_ble_eq_true rfl)) dL_finds_54 ⟨by show 0 ≤ 4; omega, by show 0 ≤ 24; omega⟩) (fun H locs hP hS => ?_)
      have hP : kW D A (wL q a (yF1 S n w0 nl) (wC q cb cM cap nl)) H := hP
      refine lv_istore (lv' := [(10, .int ((yBi S n w0 ((-1)) nl).1)), (9, .int (nI (lowN (z >>> ((nI 8) &&& 31)) 61))), (8, .int (nI (lowN (z >>> ((nI 4) &&& 31)) (w0 + 1)))), (7, .int (nI (lowN z 12))), (0, .ref (cb 0)), (1, .int (nI ac)), (2, .int (z)), (3, .ref (a 4)), (4, .ref (a 7)), (5, .ref (a 8)), (6, .ref (a 0))]) hx hb dL_finds_57 hl (by decide) rfl (fun ls hl => ?_)
      refine lv_aload hx hb dL_finds_59 (lv_at hl 8 rfl) ?_
      refine lv_iconst (v := nI 3) hx hb dL_finds_61 (by decide) ?_
      refine lv_aload hx hb dL_finds_62 (lv_at hl 10 rfl) ?_
      refine lv_iconst (v := nI 1) hx hb dL_finds_64 (by decide) ?_
      refine k_iald hx hb hK hP.1 0 rfl 1 rfl (by omega) (by decide) dL_finds_65 ?_
      refine k_top (y := nI n) ((congrFun (yF1_n (by decide)) 1).trans hn) ?_
      refine lv_imul hx hb dL_finds_66 ?_
      refine k_top (y := nI (3 * n)) (pk_mul _ _) ?_
      refine lv_iload hx hb dL_finds_67 (lv_at hl 3 rfl) ?_
      refine k_iast (wL q a ((up ((yF1 S n w0 nl)) 7 (3 * n) (nI (lowN z 12)))) ((wC q cb cM cap nl))) hx hb hK hP hS 7 rfl (3 * n) rfl (by omega) (by decide) wL_s7 dL_finds_69 (fun H locs hP hS => ?_)
      refine lv_aload hx hb dL_finds_70 (lv_at hl 8 rfl) ?_
      refine lv_iconst (v := nI 3) hx hb dL_finds_72 (by decide) ?_
      refine lv_aload hx hb dL_finds_73 (lv_at hl 10 rfl) ?_
      refine lv_iconst (v := nI 1) hx hb dL_finds_75 (by decide) ?_
      refine k_iald hx hb hK hP.1 0 rfl 1 rfl (by omega) (by decide) dL_finds_76 ?_
      refine k_top (y := ((yF1 S n w0 nl)) 0 1) (congrFun (up_n (by decide)) _) ?_
      refine k_top (y := nI n) ((congrFun (yF1_n (by decide)) 1).trans hn) ?_
      refine lv_imul hx hb dL_finds_77 ?_
      refine k_top (y := nI (3 * n)) (pk_mul _ _) ?_
      refine lv_iconst (v := nI 1) hx hb dL_finds_78 (by decide) ?_
      refine lv_iadd hx hb dL_finds_79 ?_
      refine k_top (y := nI (3 * n + 1)) (nI_add _ _) ?_
      refine lv_iload hx hb dL_finds_80 (lv_at hl 2 rfl) ?_
      refine k_iast (wL q a ((up (up ((yF1 S n w0 nl)) 7 (3 * n) (nI (lowN z 12))) 7 (3 * n + 1) (nI (lowN (z >>> ((nI 4) &&& 31)) (w0 + 1))))) ((wC q cb cM cap nl))) hx hb hK hP hS 7 rfl (3 * n + 1) rfl (by omega) (by decide) wL_s7 dL_finds_82 (fun H locs hP hS => ?_)
      refine lv_aload hx hb dL_finds_83 (lv_at hl 8 rfl) ?_
      refine lv_iconst (v := nI 3) hx hb dL_finds_85 (by decide) ?_
      refine lv_aload hx hb dL_finds_86 (lv_at hl 10 rfl) ?_
      refine lv_iconst (v := nI 1) hx hb dL_finds_88 (by decide) ?_
      refine k_iald hx hb hK hP.1 0 rfl 1 rfl (by omega) (by decide) dL_finds_89 ?_
      refine k_top (y := ((yF1 S n w0 nl)) 0 1) ((congrFun (up_n (by decide)) _).trans (congrFun (up_n (by decide)) _)) ?_
      refine k_top (y := nI n) ((congrFun (yF1_n (by decide)) 1).trans hn) ?_
      refine lv_imul hx hb dL_finds_90 ?_
      refine k_top (y := nI (3 * n)) (pk_mul _ _) ?_
      refine lv_iconst (v := nI 2) hx hb dL_finds_91 (by decide) ?_
      refine lv_iadd hx hb dL_finds_92 ?_
      refine k_top (y := nI (3 * n + 2)) (nI_add _ _) ?_
      refine lv_iload hx hb dL_finds_93 (lv_at hl 1 rfl) ?_
      refine k_iast (wL q a ((up (up (up ((yF1 S n w0 nl)) 7 (3 * n) (nI (lowN z 12))) 7 (3 * n + 1) (nI (lowN (z >>> ((nI 4) &&& 31)) (w0 + 1)))) 7 (3 * n + 2) (nI (lowN (z >>> ((nI 8) &&& 31)) 61)))) ((wC q cb cM cap nl))) hx hb hK hP hS 7 rfl (3 * n + 2) rfl (by omega) (by decide) wL_s7 dL_finds_95 (fun H locs hP hS => ?_)
      refine lv_aload hx hb dL_finds_96 (lv_at hl 10 rfl) ?_
      refine lv_iconst (v := nI 1) hx hb dL_finds_98 (by decide) ?_
      refine lv_dup2_11 hx hb dL_finds_99 rfl rfl ?_
      refine k_iald hx hb hK hP.1 0 rfl 1 rfl (by omega) (by decide) dL_finds_100 ?_
      refine k_top (y := ((yF1 S n w0 nl)) 0 1) ((congrFun (up_n (by decide)) _).trans ((congrFun (up_n (by decide)) _).trans (congrFun (up_n (by decide)) _))) ?_
      refine k_top (y := nI n) ((congrFun (yF1_n (by decide)) 1).trans hn) ?_
      refine lv_iconst (v := nI 1) hx hb dL_finds_101 (by decide) ?_
      refine lv_iadd hx hb dL_finds_102 ?_
      refine k_top (y := nI (n + 1)) (nI_add _ _) ?_
      refine k_iast (wL q a ((up (up (up (up ((yF1 S n w0 nl)) 7 (3 * n) (nI (lowN z 12))) 7 (3 * n + 1) (nI (lowN (z >>> ((nI 4) &&& 31)) (w0 + 1)))) 7 (3 * n + 2) (nI (lowN (z >>> ((nI 8) &&& 31)) 61))) 0 1 (nI (n + 1)))) ((wC q cb cM cap nl))) hx hb hK hP hS 0 rfl 1 rfl (by omega) (by decide) wL_s0 dL_finds_103 (fun H locs hP hS => ?_)
      have hP : kW D A (wL q a (yFM S n w0 nl (lowN z 12) (lowN (z >>> (nI 4 &&& 31)) (w0 + 1)) (lowN (z >>> (nI 8 &&& 31)) 61)) (wC q cb cM cap nl)) H := hP
      refine lv_iload hx hb dL_finds_104 (lv_at hl 0 rfl) ?_
      refine lv_iconst (v := nI 1) hx hb dL_finds_106 (by decide) ?_
      refine lv_aload_n hx hb dL_finds_107 rfl (lv_at hl 7 rfl) ?_
      refine lv_aload hx hb dL_finds_108 (lv_at hl 8 rfl) ?_
      refine lv_aload hx hb dL_finds_110 (lv_at hl 9 rfl) ?_
      refine lv_aload hx hb dL_finds_112 (lv_at hl 10 rfl) ?_
      refine k_goRi hS (va_runS (rest := [.int ((yBi S n w0 ((-1)) nl).1)]) ⟨hx, hb, hml, hown, hts⟩ (c_L_bills l D q A a ((yFM S n w0 nl (lowN z 12) (lowN (z >>> (nI 4 &&& 31)) (w0 + 1)) (lowN (z >>> (nI 8 &&& 31)) 61))) ((wC q cb cM cap nl)) (nI 1) (n + 1) w0 nl hnl10 ((yFM_0 (by decide)).trans hnlq) (by rw [yFM_n (by decide) (by decide) (by decide)]; exact hb4) (yFM_T (by have := lowN_lt (v := z >>> (nI 8 &&& 31)) (m := 61) (by decide); omega) ht) yFM_01 (by omega) ((yFM_0 (by decide)).trans hw) hw20 (yO_congr (fun i hi => yFM_8 hi) hO)) (va_cwS 5 hts gL_finds_L_bills rfl rfl rfl (by decide +kernel) ⟨Nat.le_of_ble_eq_true rfl, Nat.le_of_ble_eq_true rfl⟩) ⟨kB_blind, fun U hU hW => ⟨rfl, by rw [hU]; exact hP, hK.warm hW⟩⟩ rfl rfl hl.1 rfl (lv_room (Nat.le_of_ble_eq_true rfl)) dL_finds_114 ⟨by show 0 ≤ 4; omega, by show 0 ≤ 24; omega⟩) (fun H locs hP hS => ?_)
      refine lv_iadd hx hb dL_finds_117 ?_
      refine lv_istore (lv' := [(10, .int (((yBi S n w0 ((-1)) nl).1) + ((yBi ((yFM S n w0 nl (lowN z 12) (lowN (z >>> (nI 4 &&& 31)) (w0 + 1)) (lowN (z >>> (nI 8 &&& 31)) 61))) (n + 1) w0 (nI 1) nl).1))), (9, .int (nI (lowN (z >>> ((nI 8) &&& 31)) 61))), (8, .int (nI (lowN (z >>> ((nI 4) &&& 31)) (w0 + 1)))), (7, .int (nI (lowN z 12))), (0, .ref (cb 0)), (1, .int (nI ac)), (2, .int (z)), (3, .ref (a 4)), (4, .ref (a 7)), (5, .ref (a 8)), (6, .ref (a 0))]) hx hb dL_finds_118 hl (by decide) rfl (fun ls hl => ?_)
      refine lv_aload_n hx hb dL_finds_120 rfl (lv_at hl 4 rfl) ?_
      refine lv_iload hx hb dL_finds_121 (lv_at hl 3 rfl) ?_
      refine lv_iload hx hb dL_finds_123 (lv_at hl 2 rfl) ?_
      refine lv_iload hx hb dL_finds_125 (lv_at hl 1 rfl) ?_
      refine k_goLi (H0 := u.heap) hP hA hS (vx_runV (rest := []) ⟨hx, hb, hml, hown, hts⟩ (c_X4_find l hl0 D q (va_A (wC q cb cM cap nl) H.size) cb cM cap nl (nI (lowN z 12)) (nI (lowN (z >>> (nI 4 &&& 31)) (w0 + 1))) (nI (lowN (z >>> (nI 8 &&& 31)) 61)) n w0 hn9 (by omega) hnl hnow (by omega)) (cwV 3 hts gL_finds_X4_find rfl rfl rfl (by decide +kernel) ⟨Nat.le_of_ble_eq_true rfl, Nat.le_of_ble_eq_true rfl⟩) ⟨kBX_blind, (va_recv hK.1 hP.1 (ci := 5) (q0 := 10) rfl rfl), fun U hU hW => ⟨rfl, by rw [hU]; exact kW_cut hP, hK.warm hW, (hX.at hS hU hW).narrow (kW_sub hP (fun z9 h9 => hA z9 (Nat.le_trans hS.1 h9)))⟩⟩ rfl rfl hl.1 rfl (lv_room (Nat.le_of_ble_eq_true rfl)) dL_finds_127 ⟨by show 0 + 4 ≤ 4; omega, by show 0 + 24 ≤ 24; omega⟩) (fun E ce q9 H locs hE hP hS h1 h2 h3 => absurd hE (by rw [hco]; exact exC_no (by decide))) (fun r3 H locs hr3 hP hS => ?_)
      have hr3 := hr3.2
      rw [hco] at hP hr3
      have hP : kW D A (wL q a ((yBi ((yFM S n w0 nl (lowN z 12) (lowN (z >>> (nI 4 &&& 31)) (w0 + 1)) (lowN (z >>> (nI 8 &&& 31)) 61))) (n + 1) w0 (nI 1) nl).2) ((wC q cb cN cap nl))) H := hP
      refine k_top (y := (yBi S n w0 (-1) nl).1 + (yBi (yFM S n w0 nl (lowN z 12) (lowN (z >>> (nI 4 &&& 31)) (w0 + 1)) (lowN (z >>> (nI 8 &&& 31)) 61)) (n + 1) w0 (nI 1) nl).1) hr3 ?_
      refine lv_iload hx hb dL_finds_130 (lv_at hl 0 rfl) ?_
      refine k_icmp_ne (P := True) (tgt := 139) hx hb dL_finds_132 (by decide) ⟨fun _ => trivial, fun _ => rfl⟩ (fun c_4 => ?_) (fun c_4 => ?_)
      · skip
        exact (c_4 trivial).elim
      · skip
        refine lv_iconst (v := nI 1) hx hb dL_finds_135 (by decide) ?_
        refine lv_goto (tgt := 140) hx hb dL_finds_136 (by decide) ?_
        refine W.widen (k := 4) (n := 24) (by first | exact Nat.le_of_ble_eq_true rfl | omega) (by first | exact Nat.le_of_ble_eq_true rfl | omega) ?_
        have eM : wL q a ((yBi ((yFM S n w0 nl (lowN z 12) (lowN (z >>> (nI 4 &&& 31)) (w0 + 1)) (lowN (z >>> (nI 8 &&& 31)) 61))) (n + 1) w0 (nI 1) nl).2) ((wC q cb cN cap nl)) = wL q a ((yBi (yFM S n w0 nl (lowN z 12) (lowN (z >>> (nI 4 &&& 31)) (w0 + 1)) (lowN (z >>> (nI 8 &&& 31)) 61)) (n + 1) w0 (nI 1) nl).2) ((wC q cb cN cap nl)) := by first | (simp only [if_pos c_1, if_pos c_2]; done) | (simp only [if_pos c_1, if_pos c_2]; rfl) | (simp [if_pos c_1, if_pos c_2]; done) | rfl
        rw [eM] at hP
        exact k_zretW hx hb hr hlocks rfl hP hS (by rfl) dL_finds_140
set_option maxHeartbeats 4000000 in
set_option maxRecDepth 100000 in
theorem c_L_finds_0 (l : Launch) (hl0 : l.stackTraces = false) (D : va_G) (q : Nat → ClassId) (A : Nat → Prop) (a : Nat → Nat) (S : Nat → Nat → Int32) (cb : Nat → Nat) (cM : Nat → Nat → Int32) (cap nl : Nat) (ac : Nat) (z : Int32) (n w0 : Nat) (hac : ac < 2) (hno : ¬ (ac = 0 ∧ n < 12)) (hn : S 0 1 = nI n) (hn12 : n ≤ 12) (hw : S 0 0 = nI w0) (hw0 : w0 = 0) : Met l yL_finds wsL_finds ({ frames := 1, cells := 0, slots := 0, locals := 21 } : Room) (va_Pc [.ref (cb 0), .int (nI ac), .int (z), .ref (a 4), .ref (a 7), .ref (a 8), .ref (a 0)] (kBL D q A (fun H => kW D A (wL q a S ((wC q cb cM cap nl))) H))) (kRi D A (nI 1) (wL q a S ((wC q cb cM cap nl)))) 0 0 A := by
  refine Met.ofW (cc := cL_finds) (maxL := 11) (ret := (some .boolean)) (by decide) rfl ?_
  intro p e u m args below meth c s₁ B hml0 hv
  obtain ⟨rfl, ⟨hP, hK, hX⟩, hA⟩ := hv
  have C0 : kAt p u m #[.ref (cb 0), .int (nI ac), .int (z), .ref (a 4), .ref (a 7), .ref (a 8), .ref (a 0)] meth c cL_finds 11 (some .boolean) RL wsL_finds := kAt_of B hml0
  obtain ⟨hx, hb, hr, hml, hown, hts, hlocks⟩ := id C0
  have hS : va_S A u.heap u.heap [] := va_S.rf
  have hl := lv_entry ([.ref (cb 0), .int (nI ac), .int (z), .ref (a 4), .ref (a 7), .ref (a 8), .ref (a 0)]) (n := 11) (Nat.le_of_ble_eq_true rfl)
  rw [lg_entry_eq]
  generalize (lg_sl ([.ref (cb 0), .int (nI ac), .int (z), .ref (a 4), .ref (a 7), .ref (a 8), .ref (a 0)]) ++ List.replicate (11 - (lg_sl ([.ref (cb 0), .int (nI ac), .int (z), .ref (a 4), .ref (a 7), .ref (a 8), .ref (a 0)])).length) Slot.unset).toArray = ls at hl ⊢
  have hl : lv_has ls 11 [(0, .ref (cb 0)), (1, .int (nI ac)), (2, .int (z)), (3, .ref (a 4)), (4, .ref (a 7)), (5, .ref (a 8)), (6, .ref (a 0))] := hl
  refine lv_iload_n hx hb dL_finds_0 rfl (lv_at hl 2 rfl) ?_
  refine lv_bipush (v := nI 12) hx hb dL_finds_1 (by decide) ?_
  refine k_callS (rest := []) (r := nI (lowN z 12)) ⟨hx, hb, hml, hown, hts⟩ (c_L_low l D q z 12 (by omega) (by omega)) (va_cwS 2 hts gL_finds_L_low rfl rfl rfl (by decide +kernel) ⟨Nat.le_of_ble_eq_true rfl, Nat.le_of_ble_eq_true rfl⟩) hK trivial rfl hl.1 rfl (Nat.le_of_ble_eq_true rfl) dL_finds_3 ⟨by show 0 ≤ 0; omega, by show 0 ≤ 0; omega⟩ (fun _ h => h) ?_
  have hlo : lowN z 12 < 12 := lowN_lt (by first | decide | omega | exact zif_p (by decide) (by decide))
  refine lv_istore (lv' := [(7, .int (nI (lowN z 12))), (0, .ref (cb 0)), (1, .int (nI ac)), (2, .int (z)), (3, .ref (a 4)), (4, .ref (a 7)), (5, .ref (a 8)), (6, .ref (a 0))]) hx hb dL_finds_6 hl (by decide) rfl (fun ls hl => ?_)
  refine lv_iload_n hx hb dL_finds_8 rfl (lv_at hl 2 rfl) ?_
  refine k_if_ne (P := ac = 0) (tgt := 141) hx hb dL_finds_9 (by decide) (k_n0 (by omega)) (fun c_1 => ?_) (fun c_1 => ?_)
  · skip
    refine lv_aload hx hb dL_finds_141 (lv_at hl 7 rfl) ?_
    refine lv_iconst (v := nI 0) hx hb dL_finds_143 (by decide) ?_
    refine k_iald hx hb hK hP.1 0 rfl 0 rfl (by omega) (by decide) dL_finds_144 ?_
    refine k_top (y := nI w0) hw ?_
    refine k_if_ne (P := w0 = 0) (tgt := 150) hx hb dL_finds_145 (by decide) (k_n0 (by omega)) (fun c_2 => ?_) (fun c_2 => ?_)
    · skip
      exact absurd hw0 c_2
    · skip
      refine lv_iconst (v := nI 1) hx hb dL_finds_148 (by decide) ?_
      refine W.widen (k := 0) (n := 0) (by first | exact Nat.le_of_ble_eq_true rfl | omega) (by first | exact Nat.le_of_ble_eq_true rfl | omega) ?_
      exact k_zretW hx hb hr hlocks rfl hP hS (by rfl) dL_finds_149
  · skip
    refine lv_aload hx hb dL_finds_12 (lv_at hl 7 rfl) ?_
    refine lv_iconst (v := nI 1) hx hb dL_finds_14 (by decide) ?_
    refine k_iald hx hb hK hP.1 0 rfl 1 rfl (by omega) (by decide) dL_finds_15 ?_
    refine k_top (y := nI n) hn ?_
    refine lv_bipush (v := nI 12) hx hb dL_finds_16 (by decide) ?_
    refine k_icmp_ge (P := n < 12) (tgt := 141) hx hb dL_finds_18 (by decide) (nI_ltI (by omega) (by omega)) (fun c_3 => ?_) (fun c_3 => ?_)
    · skip
      refine lv_aload hx hb dL_finds_141 (lv_at hl 7 rfl) ?_
      refine lv_iconst (v := nI 0) hx hb dL_finds_143 (by decide) ?_
      refine k_iald hx hb hK hP.1 0 rfl 0 rfl (by omega) (by decide) dL_finds_144 ?_
      refine k_top (y := nI w0) hw ?_
      refine k_if_ne (P := w0 = 0) (tgt := 150) hx hb dL_finds_145 (by decide) (k_n0 (by omega)) (fun c_4 => ?_) (fun c_4 => ?_)
      · skip
        exact absurd hw0 c_4
      · skip
        refine lv_iconst (v := nI 1) hx hb dL_finds_148 (by decide) ?_
        refine W.widen (k := 0) (n := 0) (by first | exact Nat.le_of_ble_eq_true rfl | omega) (by first | exact Nat.le_of_ble_eq_true rfl | omega) ?_
        exact k_zretW hx hb hr hlocks rfl hP hS (by rfl) dL_finds_149
    · skip
      exact absurd ⟨c_1, c_3⟩ hno
theorem cs_L_finds_36 : Cond.constant RL 36 (-2000000003) ∈ wsL_finds := by decide +kernel
set_option maxHeartbeats 4000000 in
set_option maxRecDepth 100000 in
theorem c_L_finds_t (l : Launch) (hl0 : l.stackTraces = false) (D : va_G) (q : Nat → ClassId) (A : Nat → Prop) (a : Nat → Nat) (S : Nat → Nat → Int32) (cb : Nat → Nat) (cM : Nat → Nat → Int32) (cap nl : Nat) (ac : Nat) (z : Int32) (n w0 : Nat) (cN : Nat → Nat → Int32) (hac : ac < 2) (hno : ¬ (ac = 0 ∧ n < 12)) (hw0 : ¬ w0 = 0) (hlost : S 4 ((lowN (z >>> (nI 4 &&& 31)) w0) * 12 + (lowN z 12)) = 0) (hb4 : bd (S 4) 32767) (ht : yT S n) (hn : S 0 1 = nI n) (hn12 : n ≤ 12) (hw : S 0 0 = nI w0) (hw20 : w0 ≤ 20) (hO : yO S nl) (hnl10 : nl ≤ 10) (hnlq : S 0 2 = nI nl) (hn9 : cM 0 1 = nI n) (hnow : cM 0 0 = nI w0) (hnl : nl ≤ cap ∧ cap ≤ 40 ∧ nl ≤ 30) (hE : caE [eI, eA, eS] (coTurnUp cM n nl (nI (lowN z 12)) (nI (lowN (z >>> (nI 4 &&& 31)) w0)) (nI (zRd z)))) (hco : caV (coTurnUp cM n nl (nI (lowN z 12)) (nI (lowN (z >>> (nI 4 &&& 31)) w0)) (nI (zRd z))) = (yBi S n w0 (-1) nl).1 + (yBi (yTM S n w0 nl (lowN z 12) (lowN (z >>> (nI 4 &&& 31)) w0) (zRd z)) n w0 (nI 1) nl).1) (hcN : outS cM (coTurnUp cM n nl (nI (lowN z 12)) (nI (lowN (z >>> (nI 4 &&& 31)) w0)) (nI (zRd z))) = cN) : Met l yL_finds wsL_finds ({ frames := 10, cells := 4, slots := 24, locals := 293 } : Room) (va_Pc [.ref (cb 0), .int (nI ac), .int (z), .ref (a 4), .ref (a 7), .ref (a 8), .ref (a 0)] (kBL D q A (fun H => kW D A (wL q a S ((wC q cb cM cap nl))) H))) (kRi D A (nI 1) (wL q a ((yBi (yTM S n w0 nl (lowN z 12) (lowN (z >>> (nI 4 &&& 31)) w0) (zRd z)) n w0 (nI 1) nl).2) ((wC q cb cN cap nl)))) 4 24 A := by
  refine Met.ofW (cc := cL_finds) (maxL := 11) (ret := (some .boolean)) (by decide) rfl ?_
  intro p e u m args below meth c s₁ B hml0 hv
  obtain ⟨rfl, ⟨hP, hK, hX⟩, hA⟩ := hv
  have C0 : kAt p u m #[.ref (cb 0), .int (nI ac), .int (z), .ref (a 4), .ref (a 7), .ref (a 8), .ref (a 0)] meth c cL_finds 11 (some .boolean) RL wsL_finds := kAt_of B hml0
  obtain ⟨hx, hb, hr, hml, hown, hts, hlocks⟩ := id C0
  have hS : va_S A u.heap u.heap [] := va_S.rf
  have hl := lv_entry ([.ref (cb 0), .int (nI ac), .int (z), .ref (a 4), .ref (a 7), .ref (a 8), .ref (a 0)]) (n := 11) (Nat.le_of_ble_eq_true rfl)
  rw [lg_entry_eq]
  generalize (lg_sl ([.ref (cb 0), .int (nI ac), .int (z), .ref (a 4), .ref (a 7), .ref (a 8), .ref (a 0)]) ++ List.replicate (11 - (lg_sl ([.ref (cb 0), .int (nI ac), .int (z), .ref (a 4), .ref (a 7), .ref (a 8), .ref (a 0)])).length) Slot.unset).toArray = ls at hl ⊢
  have hl : lv_has ls 11 [(0, .ref (cb 0)), (1, .int (nI ac)), (2, .int (z)), (3, .ref (a 4)), (4, .ref (a 7)), (5, .ref (a 8)), (6, .ref (a 0))] := hl
  refine lv_iload_n hx hb dL_finds_0 rfl (lv_at hl 2 rfl) ?_
  refine lv_bipush (v := nI 12) hx hb dL_finds_1 (by decide) ?_
  refine k_callS (rest := []) (r := nI (lowN z 12)) ⟨hx, hb, hml, hown, hts⟩ (c_L_low l D q z 12 (by omega) (by omega)) (va_cwS 2 hts gL_finds_L_low rfl rfl rfl (by decide +kernel) ⟨Nat.le_of_ble_eq_true rfl, Nat.le_of_ble_eq_true rfl⟩) hK trivial rfl hl.1 rfl (Nat.le_of_ble_eq_true rfl) dL_finds_3 ⟨by show 0 ≤ 4; omega, by show 0 ≤ 24; omega⟩ (fun _ h => h) ?_
  have hlo : lowN z 12 < 12 := lowN_lt (by first | decide | omega | exact zif_p (by decide) (by decide))
  refine lv_istore (lv' := [(7, .int (nI (lowN z 12))), (0, .ref (cb 0)), (1, .int (nI ac)), (2, .int (z)), (3, .ref (a 4)), (4, .ref (a 7)), (5, .ref (a 8)), (6, .ref (a 0))]) hx hb dL_finds_6 hl (by decide) rfl (fun ls hl => ?_)
  refine lv_iload_n hx hb dL_finds_8 rfl (lv_at hl 2 rfl) ?_
  refine k_if_ne (P := ac = 0) (tgt := 141) hx hb dL_finds_9 (by decide) (k_n0 (by omega)) (fun c_1 => ?_) (fun c_1 => ?_)
  · skip
    refine lv_aload hx hb dL_finds_141 (lv_at hl 7 rfl) ?_
    refine lv_iconst (v := nI 0) hx hb dL_finds_143 (by decide) ?_
    refine k_iald hx hb hK hP.1 0 rfl 0 rfl (by omega) (by decide) dL_finds_144 ?_
    refine k_top (y := nI w0) hw ?_
    refine k_if_ne (P := w0 = 0) (tgt := 150) hx hb dL_finds_145 (by decide) (k_n0 (by omega)) (fun c_2 => ?_) (fun c_2 => ?_)
    · skip
      refine lv_iload_n hx hb dL_finds_150 rfl (lv_at hl 3 rfl) ?_
      refine lv_iconst (v := nI 4) hx hb dL_finds_151 (by decide) ?_
      refine lv_ishr hx hb dL_finds_152 ?_
      refine lv_aload hx hb dL_finds_153 (lv_at hl 7 rfl) ?_
      refine lv_iconst (v := nI 0) hx hb dL_finds_155 (by decide) ?_
      refine k_iald hx hb hK hP.1 0 rfl 0 rfl (by omega) (by decide) dL_finds_156 ?_
      refine k_top (y := nI w0) hw ?_
      refine k_callS (rest := []) (r := nI (lowN (z >>> ((nI 4) &&& 31)) w0)) ⟨hx, hb, hml, hown, hts⟩ (c_L_low l D q (z >>> ((nI 4) &&& 31)) w0 (by omega) (by omega)) (va_cwS 2 hts gL_finds_L_low rfl rfl rfl (by decide +kernel) ⟨Nat.le_of_ble_eq_true rfl, Nat.le_of_ble_eq_true rfl⟩) hK trivial rfl hl.1 rfl (Nat.le_of_ble_eq_true rfl) dL_finds_157 ⟨by show 0 ≤ 4; omega, by show 0 ≤ 24; omega⟩ (fun _ h => h) ?_
      have hlo : lowN (z >>> ((nI 4) &&& 31)) w0 < w0 := lowN_lt (by first | decide | omega | exact zif_p (by decide) (by decide))
      refine lv_istore (lv' := [(8, .int (nI (lowN (z >>> ((nI 4) &&& 31)) w0))), (7, .int (nI (lowN z 12))), (0, .ref (cb 0)), (1, .int (nI ac)), (2, .int (z)), (3, .ref (a 4)), (4, .ref (a 7)), (5, .ref (a 8)), (6, .ref (a 0))]) hx hb dL_finds_160 hl (by decide) rfl (fun ls hl => ?_)
      refine lv_iload_n hx hb dL_finds_162 rfl (lv_at hl 4 rfl) ?_
      refine lv_bipush (v := nI 8) hx hb dL_finds_163 (by decide) ?_
      refine lv_ishr hx hb dL_finds_165 ?_
      refine lv_iload_n hx hb dL_finds_166 rfl (lv_at hl 4 rfl) ?_
      refine lv_bipush (v := nI 14) hx hb dL_finds_167 (by decide) ?_
      refine lv_ishr hx hb dL_finds_169 ?_
      refine lv_iconst (v := nI 2) hx hb dL_finds_170 (by decide) ?_
      refine k_callS (rest := [.int (z >>> ((nI 8) &&& 31))]) (r := nI (lowN (z >>> ((nI 14) &&& 31)) 2)) ⟨hx, hb, hml, hown, hts⟩ (c_L_low l D q (z >>> ((nI 14) &&& 31)) 2 (by omega) (by omega)) (va_cwS 2 hts gL_finds_L_low rfl rfl rfl (by decide +kernel) ⟨Nat.le_of_ble_eq_true rfl, Nat.le_of_ble_eq_true rfl⟩) hK trivial rfl hl.1 rfl (Nat.le_of_ble_eq_true rfl) dL_finds_171 ⟨by show 0 ≤ 4; omega, by show 0 ≤ 24; omega⟩ (fun _ h => h) ?_
      have hlo : lowN (z >>> ((nI 14) &&& 31)) 2 < 2 := lowN_lt (by first | decide | omega | exact zif_p (by decide) (by decide))
      refine k_cut (pcj := 186) (st9 := [.int (nI (if lowN (z >>> ((nI 14) &&& 31)) 2 = 0 then 30001 else 600)), .int (z >>> ((nI 8) &&& 31))]) (n := 11) (lv9 := [(8, .int (nI (lowN (z >>> ((nI 4) &&& 31)) w0))), (7, .int (nI (lowN z 12))), (0, .ref (cb 0)), (1, .int (nI ac)), (2, .int (z)), (3, .ref (a 4)), (4, .ref (a 7)), (5, .ref (a 8)), (6, .ref (a 0))]) (fun ls hl => ?_) (fun J186 => ?_)
      · skip
        refine k_callS (rest := []) (r := nI (lowN (z >>> ((nI 8) &&& 31)) (if lowN (z >>> ((nI 14) &&& 31)) 2 = 0 then 30001 else 600))) ⟨hx, hb, hml, hown, hts⟩ (c_L_low l D q (z >>> ((nI 8) &&& 31)) (if lowN (z >>> ((nI 14) &&& 31)) 2 = 0 then 30001 else 600) (zif_p (by decide) (by decide)) (zif_l (by decide) (by decide))) (va_cwS 2 hts gL_finds_L_low rfl rfl rfl (by decide +kernel) ⟨Nat.le_of_ble_eq_true rfl, Nat.le_of_ble_eq_true rfl⟩) hK trivial rfl hl.1 rfl (Nat.le_of_ble_eq_true rfl) dL_finds_186 ⟨by show 0 ≤ 4; omega, by show 0 ≤ 24; omega⟩ (fun _ h => h) ?_
        have hlo : lowN (z >>> ((nI 8) &&& 31)) (if lowN (z >>> ((nI 14) &&& 31)) 2 = 0 then 30001 else 600) < (if lowN (z >>> ((nI 14) &&& 31)) 2 = 0 then 30001 else 600) := lowN_lt (by first | decide | omega | exact zif_p (by decide) (by decide))
        refine k_top (y := nI (zRd z)) rfl ?_
        refine lv_istore (lv' := [(9, .int (nI (zRd z))), (8, .int (nI (lowN (z >>> ((nI 4) &&& 31)) w0))), (7, .int (nI (lowN z 12))), (0, .ref (cb 0)), (1, .int (nI ac)), (2, .int (z)), (3, .ref (a 4)), (4, .ref (a 7)), (5, .ref (a 8)), (6, .ref (a 0))]) hx hb dL_finds_189 hl (by decide) rfl (fun ls hl => ?_)
        refine lv_ldc (v := (-2000000003)) hx hb hown (hts _ cs_L_finds_36) dL_finds_191 ?_
        refine lv_istore (lv' := [(10, .int ((-2000000003))), (9, .int (nI (zRd z))), (8, .int (nI (lowN (z >>> ((nI 4) &&& 31)) w0))), (7, .int (nI (lowN z 12))), (0, .ref (cb 0)), (1, .int (nI ac)), (2, .int (z)), (3, .ref (a 4)), (4, .ref (a 7)), (5, .ref (a 8)), (6, .ref (a 0))]) hx hb dL_finds_193 hl (by decide) rfl (fun ls hl => ?_)
        have hh0 : (lowN (z >>> (nI 4 &&& 31)) w0) < w0 := lowN_lt (by omega)
        refine lv_aload_n hx hb dL_finds_195 rfl (lv_at hl 7 rfl) ?_
        refine lv_iload hx hb dL_finds_196 (lv_at hl 3 rfl) ?_
        refine lv_iload hx hb dL_finds_198 (lv_at hl 2 rfl) ?_
        refine k_callS (rest := []) (r := S 4 ((lowN (z >>> ((nI 4) &&& 31)) w0) * 12 + (lowN z 12))) ⟨hx, hb, hml, hown, hts⟩ (c_L_get l D q (a 4) (S 4) (lowN z 12) (lowN (z >>> ((nI 4) &&& 31)) w0) (by omega) (by omega) hb4) (va_cwS 3 hts gL_finds_L_get rfl rfl rfl (by decide +kernel) ⟨Nat.le_of_ble_eq_true rfl, Nat.le_of_ble_eq_true rfl⟩) hK (hP.1.sub [4] rfl) rfl hl.1 rfl (Nat.le_of_ble_eq_true rfl) dL_finds_200 ⟨by show 0 ≤ 4; omega, by show 0 ≤ 24; omega⟩ (fun _ h => h) ?_
        refine k_if_ne (P := S 4 ((lowN (z >>> ((nI 4) &&& 31)) w0) * 12 + (lowN z 12)) = 0) (tgt := 247) hx hb dL_finds_203 (by decide) Iff.rfl (fun c_3 => ?_) (fun c_3 => ?_)
        · skip
          exact absurd hlost c_3
        · skip
          refine lv_iconst (v := (-1)) hx hb dL_finds_206 (by decide) ?_
          refine lv_aload_n hx hb dL_finds_207 rfl (lv_at hl 7 rfl) ?_
          refine lv_aload hx hb dL_finds_208 (lv_at hl 8 rfl) ?_
          refine lv_aload hx hb dL_finds_210 (lv_at hl 9 rfl) ?_
          refine lv_aload hx hb dL_finds_212 (lv_at hl 10 rfl) ?_
          refine k_goRi hS (va_runS (rest := []) ⟨hx, hb, hml, hown, hts⟩ (c_L_bills l D q A a S ((wC q cb cM cap nl)) ((-1)) n w0 nl hnl10 hnlq hb4 ht hn hn12 hw hw20 hO) (va_cwS 5 hts gL_finds_L_bills rfl rfl rfl (by decide +kernel) ⟨Nat.le_of_ble_eq_true rfl, Nat.le_of_ble_eq_true rfl⟩) ⟨kB_blind, fun U hU hW => ⟨rfl, by rw [hU]; exact hP, hK.warm hW⟩⟩ rfl rfl hl.1 rfl (lv_room (Nat.le_of_ble_eq_true rfl)) dL_finds_214 ⟨by show 0 ≤ 4; omega, by show 0 ≤ 24; omega⟩) (fun H locs hP hS => ?_)
          have hP : kW D A (wL q a (yF1 S n w0 nl) (wC q cb cM cap nl)) H := hP
          refine lv_istore (lv' := [(10, .int ((yBi S n w0 ((-1)) nl).1)), (9, .int (nI (zRd z))), (8, .int (nI (lowN (z >>> ((nI 4) &&& 31)) w0))), (7, .int (nI (lowN z 12))), (0, .ref (cb 0)), (1, .int (nI ac)), (2, .int (z)), (3, .ref (a 4)), (4, .ref (a 7)), (5, .ref (a 8)), (6, .ref (a 0))]) hx hb dL_finds_217 hl (by decide) rfl (fun ls hl => ?_)
          refine lv_aload_n hx hb dL_finds_219 rfl (lv_at hl 7 rfl) ?_
          refine lv_iload hx hb dL_finds_220 (lv_at hl 3 rfl) ?_
          refine lv_iload hx hb dL_finds_222 (lv_at hl 2 rfl) ?_
          refine lv_iload hx hb dL_finds_224 (lv_at hl 1 rfl) ?_
          refine lv_iconst (v := nI 1) hx hb dL_finds_226 (by decide) ?_
          refine lv_iadd hx hb dL_finds_227 ?_
          refine k_top (y := nI (zRd z + 1)) (nI_add _ _) ?_
          refine k_goRv hS (va_runS (rest := []) ⟨hx, hb, hml, hown, hts⟩ (c_L_put_4 l D q A a ((yF1 S n w0 nl)) ((wC q cb cM cap nl)) (lowN z 12) (lowN (z >>> ((nI 4) &&& 31)) w0) (zRd z + 1) (by omega) (by omega) (by have := zRd_le z; omega) ((congrFun (yF1_n (by decide)) _).trans (by rw [nI_0]; exact hlost))) (va_cwS 4 hts gL_finds_L_put rfl rfl rfl (by decide +kernel) ⟨Nat.le_of_ble_eq_true rfl, Nat.le_of_ble_eq_true rfl⟩) ⟨kB_blind, fun U hU hW => ⟨rfl, by rw [hU]; exact hP, hK.warm hW⟩⟩ rfl rfl hl.1 rfl (lv_room (Nat.le_of_ble_eq_true rfl)) dL_finds_228 ⟨by show 0 ≤ 4; omega, by show 0 ≤ 24; omega⟩) (fun H locs hP hS => ?_)
          have hP : kW D A (wL q a (yTM S n w0 nl (lowN z 12) (lowN (z >>> (nI 4 &&& 31)) w0) (zRd z)) (wC q cb cM cap nl)) H := hP
          refine lv_iload hx hb dL_finds_231 (lv_at hl 0 rfl) ?_
          refine lv_iconst (v := nI 1) hx hb dL_finds_233 (by decide) ?_
          refine lv_aload_n hx hb dL_finds_234 rfl (lv_at hl 7 rfl) ?_
          refine lv_aload hx hb dL_finds_235 (lv_at hl 8 rfl) ?_
          refine lv_aload hx hb dL_finds_237 (lv_at hl 9 rfl) ?_
          refine lv_aload hx hb dL_finds_239 (lv_at hl 10 rfl) ?_
          refine k_goRi hS (va_runS (rest := [.int ((yBi S n w0 ((-1)) nl).1)]) ⟨hx, hb, hml, hown, hts⟩ (c_L_bills l D q A a ((yTM S n w0 nl (lowN z 12) (lowN (z >>> (nI 4 &&& 31)) w0) (zRd z))) ((wC q cb cM cap nl)) (nI 1) n w0 nl hnl10 ((congrFun (yTM_n (by decide) (by decide)) 2).trans hnlq) (by rw [yTM_4]; exact bd_upd hb4 (by have := zRd_le z; omega)) (yT_congr (yTM_n (by decide) (by decide)) ht) ((congrFun (yTM_n (by decide) (by decide)) 1).trans hn) hn12 ((congrFun (yTM_n (by decide) (by decide)) 0).trans hw) hw20 (yO_congr (fun i hi => yTM_8 hi) hO)) (va_cwS 5 hts gL_finds_L_bills rfl rfl rfl (by decide +kernel) ⟨Nat.le_of_ble_eq_true rfl, Nat.le_of_ble_eq_true rfl⟩) ⟨kB_blind, fun U hU hW => ⟨rfl, by rw [hU]; exact hP, hK.warm hW⟩⟩ rfl rfl hl.1 rfl (lv_room (Nat.le_of_ble_eq_true rfl)) dL_finds_241 ⟨by show 0 ≤ 4; omega, by show 0 ≤ 24; omega⟩) (fun H locs hP hS => ?_)
          refine lv_iadd hx hb dL_finds_244 ?_
          refine lv_istore (lv' := [(10, .int (((yBi S n w0 ((-1)) nl).1) + ((yBi ((yTM S n w0 nl (lowN z 12) (lowN (z >>> (nI 4 &&& 31)) w0) (zRd z))) n w0 (nI 1) nl).1))), (9, .int (nI (zRd z))), (8, .int (nI (lowN (z >>> ((nI 4) &&& 31)) w0))), (7, .int (nI (lowN z 12))), (0, .ref (cb 0)), (1, .int (nI ac)), (2, .int (z)), (3, .ref (a 4)), (4, .ref (a 7)), (5, .ref (a 8)), (6, .ref (a 0))]) hx hb dL_finds_245 hl (by decide) rfl (fun ls hl => ?_)
          refine lv_aload_n hx hb dL_finds_247 rfl (lv_at hl 4 rfl) ?_
          refine lv_iconst (v := nI 0) hx hb dL_finds_248 (by decide) ?_
          refine lv_iload hx hb dL_finds_249 (lv_at hl 3 rfl) ?_
          refine lv_iload hx hb dL_finds_251 (lv_at hl 2 rfl) ?_
          refine lv_iload hx hb dL_finds_253 (lv_at hl 1 rfl) ?_
          refine lv_iconst (v := nI 0) hx hb dL_finds_255 (by decide) ?_
          refine lv_iconst (v := nI 0) hx hb dL_finds_256 (by decide) ?_
          refine k_goW hP (fun z9 h9 => hA z9 h9) hS (vx_runSW (rest := []) ⟨hx, hb, hml, hown, hts⟩ (c_L_calls_turnUp l hl0 D q (va_A (wC q cb cM cap nl) H.size) cb cM cap nl (nI (lowN z 12)) (nI (lowN (z >>> (nI 4 &&& 31)) w0)) (nI (zRd z)) n w0 hn9 (by omega) hnl hnow (by omega) (nI 0) (nI 0) hE) (vx_cwSW 7 hts gL_finds_L_calls rfl rfl rfl (by decide +kernel) ⟨Nat.le_of_ble_eq_true rfl, Nat.le_of_ble_eq_true rfl⟩) ⟨kBL_blind, fun U hU hW => ⟨rfl, ⟨by rw [hU]; exact kW_cut hP, hK.warm hW, (hX.at hS hU hW).narrow (kW_sub hP (fun z9 h9 => hA z9 (Nat.le_trans hS.1 h9)))⟩, fun z9 h9 => Or.inr (by rw [← hU]; exact h9)⟩⟩ rfl rfl hl.1 rfl (lv_room (Nat.le_of_ble_eq_true rfl)) dL_finds_257 ⟨by show 0 + 4 ≤ 4; omega, by show 0 + 24 ≤ 24; omega⟩) (fun H locs hP hS => ?_)
          have hP : kW D A (wL q a ((yBi ((yTM S n w0 nl (lowN z 12) (lowN (z >>> (nI 4 &&& 31)) w0) (zRd z))) n w0 (nI 1) nl).2) ((wC q cb cN cap nl))) H := by rw [← hcN]; exact hP
          refine k_top (y := (yBi S n w0 (-1) nl).1 + (yBi (yTM S n w0 nl (lowN z 12) (lowN (z >>> (nI 4 &&& 31)) w0) (zRd z)) n w0 (nI 1) nl).1) hco ?_
          refine lv_iload hx hb dL_finds_260 (lv_at hl 0 rfl) ?_
          refine k_icmp_ne (P := True) (tgt := 269) hx hb dL_finds_262 (by decide) ⟨fun _ => trivial, fun _ => rfl⟩ (fun c_4 => ?_) (fun c_4 => ?_)
          · skip
            exact (c_4 trivial).elim
          · skip
            refine lv_iconst (v := nI 1) hx hb dL_finds_265 (by decide) ?_
            refine lv_goto (tgt := 270) hx hb dL_finds_266 (by decide) ?_
            refine W.widen (k := 4) (n := 24) (by first | exact Nat.le_of_ble_eq_true rfl | omega) (by first | exact Nat.le_of_ble_eq_true rfl | omega) ?_
            have eM : wL q a ((yBi ((yTM S n w0 nl (lowN z 12) (lowN (z >>> (nI 4 &&& 31)) w0) (zRd z))) n w0 (nI 1) nl).2) ((wC q cb cN cap nl)) = wL q a ((yBi (yTM S n w0 nl (lowN z 12) (lowN (z >>> (nI 4 &&& 31)) w0) (zRd z)) n w0 (nI 1) nl).2) ((wC q cb cN cap nl)) := by first | (simp only [if_neg c_1, if_neg c_2, if_pos c_3]; done) | (simp only [if_neg c_1, if_neg c_2, if_pos c_3]; rfl) | (simp [if_neg c_1, if_neg c_2, if_pos c_3]; done) | rfl
            rw [eM] at hP
            exact k_zretW hx hb hr hlocks rfl hP hS (by rfl) dL_finds_270
      · skip
        refine k_if_ne (P := lowN (z >>> ((nI 14) &&& 31)) 2 = 0) (tgt := 183) hx hb dL_finds_174 (by decide) (k_n0 (by omega)) (fun c_5 => ?_) (fun c_5 => ?_)
        · skip
          refine lv_sipush (v := nI 600) hx hb dL_finds_183 (by decide) ?_
          refine k_top (y := nI (if lowN (z >>> ((nI 14) &&& 31)) 2 = 0 then 30001 else 600)) (by first | rw [if_pos c_5] | rw [if_neg c_5]) ?_
          exact J186 ls (lv_sub hl [0, 1, 2, 3, 4, 5, 6, 7, 8] rfl)
        · skip
          refine lv_sipush (v := nI 30001) hx hb dL_finds_177 (by decide) ?_
          refine lv_goto (tgt := 186) hx hb dL_finds_180 (by decide) ?_
          refine k_top (y := nI (if lowN (z >>> ((nI 14) &&& 31)) 2 = 0 then 30001 else 600)) (by first | rw [if_pos c_5] | rw [if_neg c_5]) ?_
          exact J186 ls (lv_sub hl [0, 1, 2, 3, 4, 5, 6, 7, 8] rfl)
    · skip
      exact absurd c_2 hw0
  · skip
    refine lv_aload hx hb dL_finds_12 (lv_at hl 7 rfl) ?_
    refine lv_iconst (v := nI 1) hx hb dL_finds_14 (by decide) ?_
    refine k_iald hx hb hK hP.1 0 rfl 1 rfl (by omega) (by decide) dL_finds_15 ?_
    refine k_top (y := nI n) hn ?_
    refine lv_bipush (v := nI 12) hx hb dL_finds_16 (by decide) ?_
    refine k_icmp_ge (P := n < 12) (tgt := 141) hx hb dL_finds_18 (by decide) (nI_ltI (by omega) (by omega)) (fun c_6 => ?_) (fun c_6 => ?_)
    · skip
      refine lv_aload hx hb dL_finds_141 (lv_at hl 7 rfl) ?_
      refine lv_iconst (v := nI 0) hx hb dL_finds_143 (by decide) ?_
      refine k_iald hx hb hK hP.1 0 rfl 0 rfl (by omega) (by decide) dL_finds_144 ?_
      refine k_top (y := nI w0) hw ?_
      refine k_if_ne (P := w0 = 0) (tgt := 150) hx hb dL_finds_145 (by decide) (k_n0 (by omega)) (fun c_7 => ?_) (fun c_7 => ?_)
      · skip
        refine lv_iload_n hx hb dL_finds_150 rfl (lv_at hl 3 rfl) ?_
        refine lv_iconst (v := nI 4) hx hb dL_finds_151 (by decide) ?_
        refine lv_ishr hx hb dL_finds_152 ?_
        refine lv_aload hx hb dL_finds_153 (lv_at hl 7 rfl) ?_
        refine lv_iconst (v := nI 0) hx hb dL_finds_155 (by decide) ?_
        refine k_iald hx hb hK hP.1 0 rfl 0 rfl (by omega) (by decide) dL_finds_156 ?_
        refine k_top (y := nI w0) hw ?_
        refine k_callS (rest := []) (r := nI (lowN (z >>> ((nI 4) &&& 31)) w0)) ⟨hx, hb, hml, hown, hts⟩ (c_L_low l D q (z >>> ((nI 4) &&& 31)) w0 (by omega) (by omega)) (va_cwS 2 hts gL_finds_L_low rfl rfl rfl (by decide +kernel) ⟨Nat.le_of_ble_eq_true rfl, Nat.le_of_ble_eq_true rfl⟩) hK trivial rfl hl.1 rfl (Nat.le_of_ble_eq_true rfl) dL_finds_157 ⟨by show 0 ≤ 4; omega, by show 0 ≤ 24; omega⟩ (fun _ h => h) ?_
        have hlo : lowN (z >>> ((nI 4) &&& 31)) w0 < w0 := lowN_lt (by first | decide | omega | exact zif_p (by decide) (by decide))
        refine lv_istore (lv' := [(8, .int (nI (lowN (z >>> ((nI 4) &&& 31)) w0))), (7, .int (nI (lowN z 12))), (0, .ref (cb 0)), (1, .int (nI ac)), (2, .int (z)), (3, .ref (a 4)), (4, .ref (a 7)), (5, .ref (a 8)), (6, .ref (a 0))]) hx hb dL_finds_160 hl (by decide) rfl (fun ls hl => ?_)
        refine lv_iload_n hx hb dL_finds_162 rfl (lv_at hl 4 rfl) ?_
        refine lv_bipush (v := nI 8) hx hb dL_finds_163 (by decide) ?_
        refine lv_ishr hx hb dL_finds_165 ?_
        refine lv_iload_n hx hb dL_finds_166 rfl (lv_at hl 4 rfl) ?_
        refine lv_bipush (v := nI 14) hx hb dL_finds_167 (by decide) ?_
        refine lv_ishr hx hb dL_finds_169 ?_
        refine lv_iconst (v := nI 2) hx hb dL_finds_170 (by decide) ?_
        refine k_callS (rest := [.int (z >>> ((nI 8) &&& 31))]) (r := nI (lowN (z >>> ((nI 14) &&& 31)) 2)) ⟨hx, hb, hml, hown, hts⟩ (c_L_low l D q (z >>> ((nI 14) &&& 31)) 2 (by omega) (by omega)) (va_cwS 2 hts gL_finds_L_low rfl rfl rfl (by decide +kernel) ⟨Nat.le_of_ble_eq_true rfl, Nat.le_of_ble_eq_true rfl⟩) hK trivial rfl hl.1 rfl (Nat.le_of_ble_eq_true rfl) dL_finds_171 ⟨by show 0 ≤ 4; omega, by show 0 ≤ 24; omega⟩ (fun _ h => h) ?_
        have hlo : lowN (z >>> ((nI 14) &&& 31)) 2 < 2 := lowN_lt (by first | decide | omega | exact zif_p (by decide) (by decide))
        refine k_cut (pcj := 186) (st9 := [.int (nI (if lowN (z >>> ((nI 14) &&& 31)) 2 = 0 then 30001 else 600)), .int (z >>> ((nI 8) &&& 31))]) (n := 11) (lv9 := [(8, .int (nI (lowN (z >>> ((nI 4) &&& 31)) w0))), (7, .int (nI (lowN z 12))), (0, .ref (cb 0)), (1, .int (nI ac)), (2, .int (z)), (3, .ref (a 4)), (4, .ref (a 7)), (5, .ref (a 8)), (6, .ref (a 0))]) (fun ls hl => ?_) (fun J186 => ?_)
        · skip
          refine k_callS (rest := []) (r := nI (lowN (z >>> ((nI 8) &&& 31)) (if lowN (z >>> ((nI 14) &&& 31)) 2 = 0 then 30001 else 600))) ⟨hx, hb, hml, hown, hts⟩ (c_L_low l D q (z >>> ((nI 8) &&& 31)) (if lowN (z >>> ((nI 14) &&& 31)) 2 = 0 then 30001 else 600) (zif_p (by decide) (by decide)) (zif_l (by decide) (by decide))) (va_cwS 2 hts gL_finds_L_low rfl rfl rfl (by decide +kernel) ⟨Nat.le_of_ble_eq_true rfl, Nat.le_of_ble_eq_true rfl⟩) hK trivial rfl hl.1 rfl (Nat.le_of_ble_eq_true rfl) dL_finds_186 ⟨by show 0 ≤ 4; omega, by show 0 ≤ 24; omega⟩ (fun _ h => h) ?_
          have hlo : lowN (z >>> ((nI 8) &&& 31)) (if lowN (z >>> ((nI 14) &&& 31)) 2 = 0 then 30001 else 600) < (if lowN (z >>> ((nI 14) &&& 31)) 2 = 0 then 30001 else 600) := lowN_lt (by first | decide | omega | exact zif_p (by decide) (by decide))
          refine k_top (y := nI (zRd z)) rfl ?_
          refine lv_istore (lv' := [(9, .int (nI (zRd z))), (8, .int (nI (lowN (z >>> ((nI 4) &&& 31)) w0))), (7, .int (nI (lowN z 12))), (0, .ref (cb 0)), (1, .int (nI ac)), (2, .int (z)), (3, .ref (a 4)), (4, .ref (a 7)), (5, .ref (a 8)), (6, .ref (a 0))]) hx hb dL_finds_189 hl (by decide) rfl (fun ls hl => ?_)
          refine lv_ldc (v := (-2000000003)) hx hb hown (hts _ cs_L_finds_36) dL_finds_191 ?_
          refine lv_istore (lv' := [(10, .int ((-2000000003))), (9, .int (nI (zRd z))), (8, .int (nI (lowN (z >>> ((nI 4) &&& 31)) w0))), (7, .int (nI (lowN z 12))), (0, .ref (cb 0)), (1, .int (nI ac)), (2, .int (z)), (3, .ref (a 4)), (4, .ref (a 7)), (5, .ref (a 8)), (6, .ref (a 0))]) hx hb dL_finds_193 hl (by decide) rfl (fun ls hl => ?_)
          have hh0 : (lowN (z >>> (nI 4 &&& 31)) w0) < w0 := lowN_lt (by omega)
          refine lv_aload_n hx hb dL_finds_195 rfl (lv_at hl 7 rfl) ?_
          refine lv_iload hx hb dL_finds_196 (lv_at hl 3 rfl) ?_
          refine lv_iload hx hb dL_finds_198 (lv_at hl 2 rfl) ?_
          refine k_callS (rest := []) (r := S 4 ((lowN (z >>> ((nI 4) &&& 31)) w0) * 12 + (lowN z 12))) ⟨hx, hb, hml, hown, hts⟩ (c_L_get l D q (a 4) (S 4) (lowN z 12) (lowN (z >>> ((nI 4) &&& 31)) w0) (by omega) (by omega) hb4) (va_cwS 3 hts gL_finds_L_get rfl rfl rfl (by decide +kernel) ⟨Nat.le_of_ble_eq_true rfl, Nat.le_of_ble_eq_true rfl⟩) hK (hP.1.sub [4] rfl) rfl hl.1 rfl (Nat.le_of_ble_eq_true rfl) dL_finds_200 ⟨by show 0 ≤ 4; omega, by show 0 ≤ 24; omega⟩ (fun _ h => h) ?_
          refine k_if_ne (P := S 4 ((lowN (z >>> ((nI 4) &&& 31)) w0) * 12 + (lowN z 12)) = 0) (tgt := 247) hx hb dL_finds_203 (by decide) Iff.rfl (fun c_8 => ?_) (fun c_8 => ?_)
          · skip
            exact absurd hlost c_8
          · skip
            refine lv_iconst (v := (-1)) hx hb dL_finds_206 (by decide) ?_
            refine lv_aload_n hx hb dL_finds_207 rfl (lv_at hl 7 rfl) ?_
            refine lv_aload hx hb dL_finds_208 (lv_at hl 8 rfl) ?_
            refine lv_aload hx hb dL_finds_210 (lv_at hl 9 rfl) ?_
            refine lv_aload hx hb dL_finds_212 (lv_at hl 10 rfl) ?_
            refine k_goRi hS (va_runS (rest := []) ⟨hx, hb, hml, hown, hts⟩ (c_L_bills l D q A a S ((wC q cb cM cap nl)) ((-1)) n w0 nl hnl10 hnlq hb4 ht hn hn12 hw hw20 hO) (va_cwS 5 hts gL_finds_L_bills rfl rfl rfl (by decide +kernel) ⟨Nat.le_of_ble_eq_true rfl, Nat.le_of_ble_eq_true rfl⟩) ⟨kB_blind, fun U hU hW => ⟨rfl, by rw [hU]; exact hP, hK.warm hW⟩⟩ rfl rfl hl.1 rfl (lv_room (Nat.le_of_ble_eq_true rfl)) dL_finds_214 ⟨by show 0 ≤ 4; omega, by show 0 ≤ 24; omega⟩) (fun H locs hP hS => ?_)
            have hP : kW D A (wL q a (yF1 S n w0 nl) (wC q cb cM cap nl)) H := hP
            refine lv_istore (lv' := [(10, .int ((yBi S n w0 ((-1)) nl).1)), (9, .int (nI (zRd z))), (8, .int (nI (lowN (z >>> ((nI 4) &&& 31)) w0))), (7, .int (nI (lowN z 12))), (0, .ref (cb 0)), (1, .int (nI ac)), (2, .int (z)), (3, .ref (a 4)), (4, .ref (a 7)), (5, .ref (a 8)), (6, .ref (a 0))]) hx hb dL_finds_217 hl (by decide) rfl (fun ls hl => ?_)
            refine lv_aload_n hx hb dL_finds_219 rfl (lv_at hl 7 rfl) ?_
            refine lv_iload hx hb dL_finds_220 (lv_at hl 3 rfl) ?_
            refine lv_iload hx hb dL_finds_222 (lv_at hl 2 rfl) ?_
            refine lv_iload hx hb dL_finds_224 (lv_at hl 1 rfl) ?_
            refine lv_iconst (v := nI 1) hx hb dL_finds_226 (by decide) ?_
            refine lv_iadd hx hb dL_finds_227 ?_
            refine k_top (y := nI (zRd z + 1)) (nI_add _ _) ?_
            refine k_goRv hS (va_runS (rest := []) ⟨hx, hb, hml, hown, hts⟩ (c_L_put_4 l D q A a ((yF1 S n w0 nl)) ((wC q cb cM cap nl)) (lowN z 12) (lowN (z >>> ((nI 4) &&& 31)) w0) (zRd z + 1) (by omega) (by omega) (by have := zRd_le z; omega) ((congrFun (yF1_n (by decide)) _).trans (by rw [nI_0]; exact hlost))) (va_cwS 4 hts gL_finds_L_put rfl rfl rfl (by decide +kernel) ⟨Nat.le_of_ble_eq_true rfl, Nat.le_of_ble_eq_true rfl⟩) ⟨kB_blind, fun U hU hW => ⟨rfl, by rw [hU]; exact hP, hK.warm hW⟩⟩ rfl rfl hl.1 rfl (lv_room (Nat.le_of_ble_eq_true rfl)) dL_finds_228 ⟨by show 0 ≤ 4; omega, by show 0 ≤ 24; omega⟩) (fun H locs hP hS => ?_)
            have hP : kW D A (wL q a (yTM S n w0 nl (lowN z 12) (lowN (z >>> (nI 4 &&& 31)) w0) (zRd z)) (wC q cb cM cap nl)) H := hP
            refine lv_iload hx hb dL_finds_231 (lv_at hl 0 rfl) ?_
            refine lv_iconst (v := nI 1) hx hb dL_finds_233 (by decide) ?_
            refine lv_aload_n hx hb dL_finds_234 rfl (lv_at hl 7 rfl) ?_
            refine lv_aload hx hb dL_finds_235 (lv_at hl 8 rfl) ?_
            refine lv_aload hx hb dL_finds_237 (lv_at hl 9 rfl) ?_
            refine lv_aload hx hb dL_finds_239 (lv_at hl 10 rfl) ?_
            refine k_goRi hS (va_runS (rest := [.int ((yBi S n w0 ((-1)) nl).1)]) ⟨hx, hb, hml, hown, hts⟩ (c_L_bills l D q A a ((yTM S n w0 nl (lowN z 12) (lowN (z >>> (nI 4 &&& 31)) w0) (zRd z))) ((wC q cb cM cap nl)) (nI 1) n w0 nl hnl10 ((congrFun (yTM_n (by decide) (by decide)) 2).trans hnlq) (by rw [yTM_4]; exact bd_upd hb4 (by have := zRd_le z; omega)) (yT_congr (yTM_n (by decide) (by decide)) ht) ((congrFun (yTM_n (by decide) (by decide)) 1).trans hn) hn12 ((congrFun (yTM_n (by decide) (by decide)) 0).trans hw) hw20 (yO_congr (fun i hi => yTM_8 hi) hO)) (va_cwS 5 hts gL_finds_L_bills rfl rfl rfl (by decide +kernel) ⟨Nat.le_of_ble_eq_true rfl, Nat.le_of_ble_eq_true rfl⟩) ⟨kB_blind, fun U hU hW => ⟨rfl, by rw [hU]; exact hP, hK.warm hW⟩⟩ rfl rfl hl.1 rfl (lv_room (Nat.le_of_ble_eq_true rfl)) dL_finds_241 ⟨by show 0 ≤ 4; omega, by show 0 ≤ 24; omega⟩) (fun H locs hP hS => ?_)
            refine lv_iadd hx hb dL_finds_244 ?_
            refine lv_istore (lv' := [(10, .int (((yBi S n w0 ((-1)) nl).1) + ((yBi ((yTM S n w0 nl (lowN z 12) (lowN (z >>> (nI 4 &&& 31)) w0) (zRd z))) n w0 (nI 1) nl).1))), (9, .int (nI (zRd z))), (8, .int (nI (lowN (z >>> ((nI 4) &&& 31)) w0))), (7, .int (nI (lowN z 12))), (0, .ref (cb 0)), (1, .int (nI ac)), (2, .int (z)), (3, .ref (a 4)), (4, .ref (a 7)), (5, .ref (a 8)), (6, .ref (a 0))]) hx hb dL_finds_245 hl (by decide) rfl (fun ls hl => ?_)
            refine lv_aload_n hx hb dL_finds_247 rfl (lv_at hl 4 rfl) ?_
            refine lv_iconst (v := nI 0) hx hb dL_finds_248 (by decide) ?_
            refine lv_iload hx hb dL_finds_249 (lv_at hl 3 rfl) ?_
            refine lv_iload hx hb dL_finds_251 (lv_at hl 2 rfl) ?_
            refine lv_iload hx hb dL_finds_253 (lv_at hl 1 rfl) ?_
            refine lv_iconst (v := nI 0) hx hb dL_finds_255 (by decide) ?_
            refine lv_iconst (v := nI 0) hx hb dL_finds_256 (by decide) ?_
            refine k_goW hP (fun z9 h9 => hA z9 h9) hS (vx_runSW (rest := []) ⟨hx, hb, hml, hown, hts⟩ (c_L_calls_turnUp l hl0 D q (va_A (wC q cb cM cap nl) H.size) cb cM cap nl (nI (lowN z 12)) (nI (lowN (z >>> (nI 4 &&& 31)) w0)) (nI (zRd z)) n w0 hn9 (by omega) hnl hnow (by omega) (nI 0) (nI 0) hE) (vx_cwSW 7 hts gL_finds_L_calls rfl rfl rfl (by decide +kernel) ⟨Nat.le_of_ble_eq_true rfl, Nat.le_of_ble_eq_true rfl⟩) ⟨kBL_blind, fun U hU hW => ⟨rfl, ⟨by rw [hU]; exact kW_cut hP, hK.warm hW, (hX.at hS hU hW).narrow (kW_sub hP (fun z9 h9 => hA z9 (Nat.le_trans hS.1 h9)))⟩, fun z9 h9 => Or.inr (by rw [← hU]; exact h9)⟩⟩ rfl rfl hl.1 rfl (lv_room (Nat.le_of_ble_eq_true rfl)) dL_finds_257 ⟨by show 0 + 4 ≤ 4; omega, by show 0 + 24 ≤ 24; omega⟩) (fun H locs hP hS => ?_)
            have hP : kW D A (wL q a ((yBi ((yTM S n w0 nl (lowN z 12) (lowN (z >>> (nI 4 &&& 31)) w0) (zRd z))) n w0 (nI 1) nl).2) ((wC q cb cN cap nl))) H := by rw [← hcN]; exact hP
            refine k_top (y := (yBi S n w0 (-1) nl).1 + (yBi (yTM S n w0 nl (lowN z 12) (lowN (z >>> (nI 4 &&& 31)) w0) (zRd z)) n w0 (nI 1) nl).1) hco ?_
            refine lv_iload hx hb dL_finds_260 (lv_at hl 0 rfl) ?_
            refine k_icmp_ne (P := True) (tgt := 269) hx hb dL_finds_262 (by decide) ⟨fun _ => trivial, fun _ => rfl⟩ (fun c_9 => ?_) (fun c_9 => ?_)
            · skip
              exact (c_9 trivial).elim
            · skip
              refine lv_iconst (v := nI 1) hx hb dL_finds_265 (by decide) ?_
              refine lv_goto (tgt := 270) hx hb dL_finds_266 (by decide) ?_
              refine W.widen (k := 4) (n := 24) (by first | exact Nat.le_of_ble_eq_true rfl | omega) (by first | exact Nat.le_of_ble_eq_true rfl | omega) ?_
              have eM : wL q a ((yBi ((yTM S n w0 nl (lowN z 12) (lowN (z >>> (nI 4 &&& 31)) w0) (zRd z))) n w0 (nI 1) nl).2) ((wC q cb cN cap nl)) = wL q a ((yBi (yTM S n w0 nl (lowN z 12) (lowN (z >>> (nI 4 &&& 31)) w0) (zRd z)) n w0 (nI 1) nl).2) ((wC q cb cN cap nl)) := by first | (simp only [if_pos c_1, if_neg c_6, if_neg c_7, if_pos c_8]; done) | (simp only [if_pos c_1, if_neg c_6, if_neg c_7, if_pos c_8]; rfl) | (simp [if_pos c_1, if_neg c_6, if_neg c_7, if_pos c_8]; done) | rfl
              rw [eM] at hP
              exact k_zretW hx hb hr hlocks rfl hP hS (by rfl) dL_finds_270
        · skip
          refine k_if_ne (P := lowN (z >>> ((nI 14) &&& 31)) 2 = 0) (tgt := 183) hx hb dL_finds_174 (by decide) (k_n0 (by omega)) (fun c_10 => ?_) (fun c_10 => ?_)
          · skip
            refine lv_sipush (v := nI 600) hx hb dL_finds_183 (by decide) ?_
            refine k_top (y := nI (if lowN (z >>> ((nI 14) &&& 31)) 2 = 0 then 30001 else 600)) (by first | rw [if_pos c_10] | rw [if_neg c_10]) ?_
            exact J186 ls (lv_sub hl [0, 1, 2, 3, 4, 5, 6, 7, 8] rfl)
          · skip
            refine lv_sipush (v := nI 30001) hx hb dL_finds_177 (by decide) ?_
            refine lv_goto (tgt := 186) hx hb dL_finds_180 (by decide) ?_
            refine k_top (y := nI (if lowN (z >>> ((nI 14) &&& 31)) 2 = 0 then 30001 else 600)) (by first | rw [if_pos c_10] | rw [if_neg c_10]) ?_
            exact J186 ls (lv_sub hl [0, 1, 2, 3, 4, 5, 6, 7, 8] rfl)
      · skip
        exact absurd c_7 hw0
    · skip
      exact absurd ⟨c_1, c_6⟩ hno
set_option maxHeartbeats 4000000 in
set_option maxRecDepth 100000 in
theorem c_L_finds_n (l : Launch) (hl0 : l.stackTraces = false) (D : va_G) (q : Nat → ClassId) (A : Nat → Prop) (a : Nat → Nat) (S : Nat → Nat → Int32) (cb : Nat → Nat) (cM : Nat → Nat → Int32) (cap nl : Nat) (ac : Nat) (z : Int32) (n w0 : Nat) (cN : Nat → Nat → Int32) (hac : ac < 2) (hno : ¬ (ac = 0 ∧ n < 12)) (hw0 : ¬ w0 = 0) (hlost : ¬ S 4 ((lowN (z >>> (nI 4 &&& 31)) w0) * 12 + (lowN z 12)) = 0) (hb4 : bd (S 4) 32767) (ht : yT S n) (hn : S 0 1 = nI n) (hn12 : n ≤ 12) (hw : S 0 0 = nI w0) (hw20 : w0 ≤ 20) (hO : yO S nl) (hnl10 : nl ≤ 10) (hnlq : S 0 2 = nI nl) (hn9 : cM 0 1 = nI n) (hnow : cM 0 0 = nI w0) (hnl : nl ≤ cap ∧ cap ≤ 40 ∧ nl ≤ 30) (hE : caE [eI, eA, eS] (coTurnUp cM n nl (nI (lowN z 12)) (nI (lowN (z >>> (nI 4 &&& 31)) w0)) (nI (zRd z)))) (hco : caV (coTurnUp cM n nl (nI (lowN z 12)) (nI (lowN (z >>> (nI 4 &&& 31)) w0)) (nI (zRd z))) = (-2000000003)) (hcN : outS cM (coTurnUp cM n nl (nI (lowN z 12)) (nI (lowN (z >>> (nI 4 &&& 31)) w0)) (nI (zRd z))) = cN) : Met l yL_finds wsL_finds ({ frames := 10, cells := 4, slots := 24, locals := 293 } : Room) (va_Pc [.ref (cb 0), .int (nI ac), .int (z), .ref (a 4), .ref (a 7), .ref (a 8), .ref (a 0)] (kBL D q A (fun H => kW D A (wL q a S ((wC q cb cM cap nl))) H))) (kRi D A (nI 1) (wL q a S ((wC q cb cN cap nl)))) 4 24 A := by
  refine Met.ofW (cc := cL_finds) (maxL := 11) (ret := (some .boolean)) (by decide) rfl ?_
  intro p e u m args below meth c s₁ B hml0 hv
  obtain ⟨rfl, ⟨hP, hK, hX⟩, hA⟩ := hv
  have C0 : kAt p u m #[.ref (cb 0), .int (nI ac), .int (z), .ref (a 4), .ref (a 7), .ref (a 8), .ref (a 0)] meth c cL_finds 11 (some .boolean) RL wsL_finds := kAt_of B hml0
  obtain ⟨hx, hb, hr, hml, hown, hts, hlocks⟩ := id C0
  have hS : va_S A u.heap u.heap [] := va_S.rf
  have hl := lv_entry ([.ref (cb 0), .int (nI ac), .int (z), .ref (a 4), .ref (a 7), .ref (a 8), .ref (a 0)]) (n := 11) (Nat.le_of_ble_eq_true rfl)
  rw [lg_entry_eq]
  generalize (lg_sl ([.ref (cb 0), .int (nI ac), .int (z), .ref (a 4), .ref (a 7), .ref (a 8), .ref (a 0)]) ++ List.replicate (11 - (lg_sl ([.ref (cb 0), .int (nI ac), .int (z), .ref (a 4), .ref (a 7), .ref (a 8), .ref (a 0)])).length) Slot.unset).toArray = ls at hl ⊢
  have hl : lv_has ls 11 [(0, .ref (cb 0)), (1, .int (nI ac)), (2, .int (z)), (3, .ref (a 4)), (4, .ref (a 7)), (5, .ref (a 8)), (6, .ref (a 0))] := hl
  refine lv_iload_n hx hb dL_finds_0 rfl (lv_at hl 2 rfl) ?_
  refine lv_bipush (v := nI 12) hx hb dL_finds_1 (by decide) ?_
  refine k_callS (rest := []) (r := nI (lowN z 12)) ⟨hx, hb, hml, hown, hts⟩ (c_L_low l D q z 12 (by omega) (by omega)) (va_cwS 2 hts gL_finds_L_low rfl rfl rfl (by decide +kernel) ⟨Nat.le_of_ble_eq_true rfl, Nat.le_of_ble_eq_true rfl⟩) hK trivial rfl hl.1 rfl (Nat.le_of_ble_eq_true rfl) dL_finds_3 ⟨by show 0 ≤ 4; omega, by show 0 ≤ 24; omega⟩ (fun _ h => h) ?_
  have hlo : lowN z 12 < 12 := lowN_lt (by first | decide | omega | exact zif_p (by decide) (by decide))
  refine lv_istore (lv' := [(7, .int (nI (lowN z 12))), (0, .ref (cb 0)), (1, .int (nI ac)), (2, .int (z)), (3, .ref (a 4)), (4, .ref (a 7)), (5, .ref (a 8)), (6, .ref (a 0))]) hx hb dL_finds_6 hl (by decide) rfl (fun ls hl => ?_)
  refine lv_iload_n hx hb dL_finds_8 rfl (lv_at hl 2 rfl) ?_
  refine k_if_ne (P := ac = 0) (tgt := 141) hx hb dL_finds_9 (by decide) (k_n0 (by omega)) (fun c_1 => ?_) (fun c_1 => ?_)
  · skip
    refine lv_aload hx hb dL_finds_141 (lv_at hl 7 rfl) ?_
    refine lv_iconst (v := nI 0) hx hb dL_finds_143 (by decide) ?_
    refine k_iald hx hb hK hP.1 0 rfl 0 rfl (by omega) (by decide) dL_finds_144 ?_
    refine k_top (y := nI w0) hw ?_
    refine k_if_ne (P := w0 = 0) (tgt := 150) hx hb dL_finds_145 (by decide) (k_n0 (by omega)) (fun c_2 => ?_) (fun c_2 => ?_)
    · skip
      refine lv_iload_n hx hb dL_finds_150 rfl (lv_at hl 3 rfl) ?_
      refine lv_iconst (v := nI 4) hx hb dL_finds_151 (by decide) ?_
      refine lv_ishr hx hb dL_finds_152 ?_
      refine lv_aload hx hb dL_finds_153 (lv_at hl 7 rfl) ?_
      refine lv_iconst (v := nI 0) hx hb dL_finds_155 (by decide) ?_
      refine k_iald hx hb hK hP.1 0 rfl 0 rfl (by omega) (by decide) dL_finds_156 ?_
      refine k_top (y := nI w0) hw ?_
      refine k_callS (rest := []) (r := nI (lowN (z >>> ((nI 4) &&& 31)) w0)) ⟨hx, hb, hml, hown, hts⟩ (c_L_low l D q (z >>> ((nI 4) &&& 31)) w0 (by omega) (by omega)) (va_cwS 2 hts gL_finds_L_low rfl rfl rfl (by decide +kernel) ⟨Nat.le_of_ble_eq_true rfl, Nat.le_of_ble_eq_true rfl⟩) hK trivial rfl hl.1 rfl (Nat.le_of_ble_eq_true rfl) dL_finds_157 ⟨by show 0 ≤ 4; omega, by show 0 ≤ 24; omega⟩ (fun _ h => h) ?_
      have hlo : lowN (z >>> ((nI 4) &&& 31)) w0 < w0 := lowN_lt (by first | decide | omega | exact zif_p (by decide) (by decide))
      refine lv_istore (lv' := [(8, .int (nI (lowN (z >>> ((nI 4) &&& 31)) w0))), (7, .int (nI (lowN z 12))), (0, .ref (cb 0)), (1, .int (nI ac)), (2, .int (z)), (3, .ref (a 4)), (4, .ref (a 7)), (5, .ref (a 8)), (6, .ref (a 0))]) hx hb dL_finds_160 hl (by decide) rfl (fun ls hl => ?_)
      refine lv_iload_n hx hb dL_finds_162 rfl (lv_at hl 4 rfl) ?_
      refine lv_bipush (v := nI 8) hx hb dL_finds_163 (by decide) ?_
      refine lv_ishr hx hb dL_finds_165 ?_
      refine lv_iload_n hx hb dL_finds_166 rfl (lv_at hl 4 rfl) ?_
      refine lv_bipush (v := nI 14) hx hb dL_finds_167 (by decide) ?_
      refine lv_ishr hx hb dL_finds_169 ?_
      refine lv_iconst (v := nI 2) hx hb dL_finds_170 (by decide) ?_
      refine k_callS (rest := [.int (z >>> ((nI 8) &&& 31))]) (r := nI (lowN (z >>> ((nI 14) &&& 31)) 2)) ⟨hx, hb, hml, hown, hts⟩ (c_L_low l D q (z >>> ((nI 14) &&& 31)) 2 (by omega) (by omega)) (va_cwS 2 hts gL_finds_L_low rfl rfl rfl (by decide +kernel) ⟨Nat.le_of_ble_eq_true rfl, Nat.le_of_ble_eq_true rfl⟩) hK trivial rfl hl.1 rfl (Nat.le_of_ble_eq_true rfl) dL_finds_171 ⟨by show 0 ≤ 4; omega, by show 0 ≤ 24; omega⟩ (fun _ h => h) ?_
      have hlo : lowN (z >>> ((nI 14) &&& 31)) 2 < 2 := lowN_lt (by first | decide | omega | exact zif_p (by decide) (by decide))
      refine k_cut (pcj := 186) (st9 := [.int (nI (if lowN (z >>> ((nI 14) &&& 31)) 2 = 0 then 30001 else 600)), .int (z >>> ((nI 8) &&& 31))]) (n := 11) (lv9 := [(8, .int (nI (lowN (z >>> ((nI 4) &&& 31)) w0))), (7, .int (nI (lowN z 12))), (0, .ref (cb 0)), (1, .int (nI ac)), (2, .int (z)), (3, .ref (a 4)), (4, .ref (a 7)), (5, .ref (a 8)), (6, .ref (a 0))]) (fun ls hl => ?_) (fun J186 => ?_)
      · skip
        refine k_callS (rest := []) (r := nI (lowN (z >>> ((nI 8) &&& 31)) (if lowN (z >>> ((nI 14) &&& 31)) 2 = 0 then 30001 else 600))) ⟨hx, hb, hml, hown, hts⟩ (c_L_low l D q (z >>> ((nI 8) &&& 31)) (if lowN (z >>> ((nI 14) &&& 31)) 2 = 0 then 30001 else 600) (zif_p (by decide) (by decide)) (zif_l (by decide) (by decide))) (va_cwS 2 hts gL_finds_L_low rfl rfl rfl (by decide +kernel) ⟨Nat.le_of_ble_eq_true rfl, Nat.le_of_ble_eq_true rfl⟩) hK trivial rfl hl.1 rfl (Nat.le_of_ble_eq_true rfl) dL_finds_186 ⟨by show 0 ≤ 4; omega, by show 0 ≤ 24; omega⟩ (fun _ h => h) ?_
        have hlo : lowN (z >>> ((nI 8) &&& 31)) (if lowN (z >>> ((nI 14) &&& 31)) 2 = 0 then 30001 else 600) < (if lowN (z >>> ((nI 14) &&& 31)) 2 = 0 then 30001 else 600) := lowN_lt (by first | decide | omega | exact zif_p (by decide) (by decide))
        refine k_top (y := nI (zRd z)) rfl ?_
        refine lv_istore (lv' := [(9, .int (nI (zRd z))), (8, .int (nI (lowN (z >>> ((nI 4) &&& 31)) w0))), (7, .int (nI (lowN z 12))), (0, .ref (cb 0)), (1, .int (nI ac)), (2, .int (z)), (3, .ref (a 4)), (4, .ref (a 7)), (5, .ref (a 8)), (6, .ref (a 0))]) hx hb dL_finds_189 hl (by decide) rfl (fun ls hl => ?_)
        refine lv_ldc (v := (-2000000003)) hx hb hown (hts _ cs_L_finds_36) dL_finds_191 ?_
        refine lv_istore (lv' := [(10, .int ((-2000000003))), (9, .int (nI (zRd z))), (8, .int (nI (lowN (z >>> ((nI 4) &&& 31)) w0))), (7, .int (nI (lowN z 12))), (0, .ref (cb 0)), (1, .int (nI ac)), (2, .int (z)), (3, .ref (a 4)), (4, .ref (a 7)), (5, .ref (a 8)), (6, .ref (a 0))]) hx hb dL_finds_193 hl (by decide) rfl (fun ls hl => ?_)
        have hh0 : (lowN (z >>> (nI 4 &&& 31)) w0) < w0 := lowN_lt (by omega)
        refine lv_aload_n hx hb dL_finds_195 rfl (lv_at hl 7 rfl) ?_
        refine lv_iload hx hb dL_finds_196 (lv_at hl 3 rfl) ?_
        refine lv_iload hx hb dL_finds_198 (lv_at hl 2 rfl) ?_
        refine k_callS (rest := []) (r := S 4 ((lowN (z >>> ((nI 4) &&& 31)) w0) * 12 + (lowN z 12))) ⟨hx, hb, hml, hown, hts⟩ (c_L_get l D q (a 4) (S 4) (lowN z 12) (lowN (z >>> ((nI 4) &&& 31)) w0) (by omega) (by omega) hb4) (va_cwS 3 hts gL_finds_L_get rfl rfl rfl (by decide +kernel) ⟨Nat.le_of_ble_eq_true rfl, Nat.le_of_ble_eq_true rfl⟩) hK (hP.1.sub [4] rfl) rfl hl.1 rfl (Nat.le_of_ble_eq_true rfl) dL_finds_200 ⟨by show 0 ≤ 4; omega, by show 0 ≤ 24; omega⟩ (fun _ h => h) ?_
        refine k_if_ne (P := S 4 ((lowN (z >>> ((nI 4) &&& 31)) w0) * 12 + (lowN z 12)) = 0) (tgt := 247) hx hb dL_finds_203 (by decide) Iff.rfl (fun c_3 => ?_) (fun c_3 => ?_)
        · skip
          refine lv_aload_n hx hb dL_finds_247 rfl (lv_at hl 4 rfl) ?_
          refine lv_iconst (v := nI 0) hx hb dL_finds_248 (by decide) ?_
          refine lv_iload hx hb dL_finds_249 (lv_at hl 3 rfl) ?_
          refine lv_iload hx hb dL_finds_251 (lv_at hl 2 rfl) ?_
          refine lv_iload hx hb dL_finds_253 (lv_at hl 1 rfl) ?_
          refine lv_iconst (v := nI 0) hx hb dL_finds_255 (by decide) ?_
          refine lv_iconst (v := nI 0) hx hb dL_finds_256 (by decide) ?_
          refine k_goW hP (fun z9 h9 => hA z9 h9) hS (vx_runSW (rest := []) ⟨hx, hb, hml, hown, hts⟩ (c_L_calls_turnUp l hl0 D q (va_A (wC q cb cM cap nl) u.heap.size) cb cM cap nl (nI (lowN z 12)) (nI (lowN (z >>> (nI 4 &&& 31)) w0)) (nI (zRd z)) n w0 hn9 (by omega) hnl hnow (by omega) (nI 0) (nI 0) hE) (vx_cwSW 7 hts gL_finds_L_calls rfl rfl rfl (by decide +kernel) ⟨Nat.le_of_ble_eq_true rfl, Nat.le_of_ble_eq_true rfl⟩) ⟨kBL_blind, fun U hU hW => ⟨rfl, ⟨by rw [hU]; exact kW_cut hP, hK.warm hW, (hX.at hS hU hW).narrow (kW_sub hP (fun z9 h9 => hA z9 (Nat.le_trans hS.1 h9)))⟩, fun z9 h9 => Or.inr (by rw [← hU]; exact h9)⟩⟩ rfl rfl hl.1 rfl (lv_room (Nat.le_of_ble_eq_true rfl)) dL_finds_257 ⟨by show 0 + 4 ≤ 4; omega, by show 0 + 24 ≤ 24; omega⟩) (fun H locs hP hS => ?_)
          have hP : kW D A (wL q a S ((wC q cb cN cap nl))) H := by rw [← hcN]; exact hP
          refine k_top (y := (-2000000003)) hco ?_
          refine lv_iload hx hb dL_finds_260 (lv_at hl 0 rfl) ?_
          refine k_icmp_ne (P := True) (tgt := 269) hx hb dL_finds_262 (by decide) ⟨fun _ => trivial, fun _ => rfl⟩ (fun c_4 => ?_) (fun c_4 => ?_)
          · skip
            exact (c_4 trivial).elim
          · skip
            refine lv_iconst (v := nI 1) hx hb dL_finds_265 (by decide) ?_
            refine lv_goto (tgt := 270) hx hb dL_finds_266 (by decide) ?_
            refine W.widen (k := 4) (n := 24) (by first | exact Nat.le_of_ble_eq_true rfl | omega) (by first | exact Nat.le_of_ble_eq_true rfl | omega) ?_
            exact k_zretW hx hb hr hlocks rfl hP hS (by rfl) dL_finds_270
        · skip
          exact absurd c_3 hlost
      · skip
        refine k_if_ne (P := lowN (z >>> ((nI 14) &&& 31)) 2 = 0) (tgt := 183) hx hb dL_finds_174 (by decide) (k_n0 (by omega)) (fun c_5 => ?_) (fun c_5 => ?_)
        · skip
          refine lv_sipush (v := nI 600) hx hb dL_finds_183 (by decide) ?_
          refine k_top (y := nI (if lowN (z >>> ((nI 14) &&& 31)) 2 = 0 then 30001 else 600)) (by first | rw [if_pos c_5] | rw [if_neg c_5]) ?_
          exact J186 ls (lv_sub hl [0, 1, 2, 3, 4, 5, 6, 7, 8] rfl)
        · skip
          refine lv_sipush (v := nI 30001) hx hb dL_finds_177 (by decide) ?_
          refine lv_goto (tgt := 186) hx hb dL_finds_180 (by decide) ?_
          refine k_top (y := nI (if lowN (z >>> ((nI 14) &&& 31)) 2 = 0 then 30001 else 600)) (by first | rw [if_pos c_5] | rw [if_neg c_5]) ?_
          exact J186 ls (lv_sub hl [0, 1, 2, 3, 4, 5, 6, 7, 8] rfl)
    · skip
      exact absurd c_2 hw0
  · skip
    refine lv_aload hx hb dL_finds_12 (lv_at hl 7 rfl) ?_
    refine lv_iconst (v := nI 1) hx hb dL_finds_14 (by decide) ?_
    refine k_iald hx hb hK hP.1 0 rfl 1 rfl (by omega) (by decide) dL_finds_15 ?_
    refine k_top (y := nI n) hn ?_
    refine lv_bipush (v := nI 12) hx hb dL_finds_16 (by decide) ?_
    refine k_icmp_ge (P := n < 12) (tgt := 141) hx hb dL_finds_18 (by decide) (nI_ltI (by omega) (by omega)) (fun c_6 => ?_) (fun c_6 => ?_)
    · skip
      refine lv_aload hx hb dL_finds_141 (lv_at hl 7 rfl) ?_
      refine lv_iconst (v := nI 0) hx hb dL_finds_143 (by decide) ?_
      refine k_iald hx hb hK hP.1 0 rfl 0 rfl (by omega) (by decide) dL_finds_144 ?_
      refine k_top (y := nI w0) hw ?_
      refine k_if_ne (P := w0 = 0) (tgt := 150) hx hb dL_finds_145 (by decide) (k_n0 (by omega)) (fun c_7 => ?_) (fun c_7 => ?_)
      · skip
        refine lv_iload_n hx hb dL_finds_150 rfl (lv_at hl 3 rfl) ?_
        refine lv_iconst (v := nI 4) hx hb dL_finds_151 (by decide) ?_
        refine lv_ishr hx hb dL_finds_152 ?_
        refine lv_aload hx hb dL_finds_153 (lv_at hl 7 rfl) ?_
        refine lv_iconst (v := nI 0) hx hb dL_finds_155 (by decide) ?_
        refine k_iald hx hb hK hP.1 0 rfl 0 rfl (by omega) (by decide) dL_finds_156 ?_
        refine k_top (y := nI w0) hw ?_
        refine k_callS (rest := []) (r := nI (lowN (z >>> ((nI 4) &&& 31)) w0)) ⟨hx, hb, hml, hown, hts⟩ (c_L_low l D q (z >>> ((nI 4) &&& 31)) w0 (by omega) (by omega)) (va_cwS 2 hts gL_finds_L_low rfl rfl rfl (by decide +kernel) ⟨Nat.le_of_ble_eq_true rfl, Nat.le_of_ble_eq_true rfl⟩) hK trivial rfl hl.1 rfl (Nat.le_of_ble_eq_true rfl) dL_finds_157 ⟨by show 0 ≤ 4; omega, by show 0 ≤ 24; omega⟩ (fun _ h => h) ?_
        have hlo : lowN (z >>> ((nI 4) &&& 31)) w0 < w0 := lowN_lt (by first | decide | omega | exact zif_p (by decide) (by decide))
        refine lv_istore (lv' := [(8, .int (nI (lowN (z >>> ((nI 4) &&& 31)) w0))), (7, .int (nI (lowN z 12))), (0, .ref (cb 0)), (1, .int (nI ac)), (2, .int (z)), (3, .ref (a 4)), (4, .ref (a 7)), (5, .ref (a 8)), (6, .ref (a 0))]) hx hb dL_finds_160 hl (by decide) rfl (fun ls hl => ?_)
        refine lv_iload_n hx hb dL_finds_162 rfl (lv_at hl 4 rfl) ?_
        refine lv_bipush (v := nI 8) hx hb dL_finds_163 (by decide) ?_
        refine lv_ishr hx hb dL_finds_165 ?_
        refine lv_iload_n hx hb dL_finds_166 rfl (lv_at hl 4 rfl) ?_
        refine lv_bipush (v := nI 14) hx hb dL_finds_167 (by decide) ?_
        refine lv_ishr hx hb dL_finds_169 ?_
        refine lv_iconst (v := nI 2) hx hb dL_finds_170 (by decide) ?_
        refine k_callS (rest := [.int (z >>> ((nI 8) &&& 31))]) (r := nI (lowN (z >>> ((nI 14) &&& 31)) 2)) ⟨hx, hb, hml, hown, hts⟩ (c_L_low l D q (z >>> ((nI 14) &&& 31)) 2 (by omega) (by omega)) (va_cwS 2 hts gL_finds_L_low rfl rfl rfl (by decide +kernel) ⟨Nat.le_of_ble_eq_true rfl, Nat.le_of_ble_eq_true rfl⟩) hK trivial rfl hl.1 rfl (Nat.le_of_ble_eq_true rfl) dL_finds_171 ⟨by show 0 ≤ 4; omega, by show 0 ≤ 24; omega⟩ (fun _ h => h) ?_
        have hlo : lowN (z >>> ((nI 14) &&& 31)) 2 < 2 := lowN_lt (by first | decide | omega | exact zif_p (by decide) (by decide))
        refine k_cut (pcj := 186) (st9 := [.int (nI (if lowN (z >>> ((nI 14) &&& 31)) 2 = 0 then 30001 else 600)), .int (z >>> ((nI 8) &&& 31))]) (n := 11) (lv9 := [(8, .int (nI (lowN (z >>> ((nI 4) &&& 31)) w0))), (7, .int (nI (lowN z 12))), (0, .ref (cb 0)), (1, .int (nI ac)), (2, .int (z)), (3, .ref (a 4)), (4, .ref (a 7)), (5, .ref (a 8)), (6, .ref (a 0))]) (fun ls hl => ?_) (fun J186 => ?_)
        · skip
          refine k_callS (rest := []) (r := nI (lowN (z >>> ((nI 8) &&& 31)) (if lowN (z >>> ((nI 14) &&& 31)) 2 = 0 then 30001 else 600))) ⟨hx, hb, hml, hown, hts⟩ (c_L_low l D q (z >>> ((nI 8) &&& 31)) (if lowN (z >>> ((nI 14) &&& 31)) 2 = 0 then 30001 else 600) (zif_p (by decide) (by decide)) (zif_l (by decide) (by decide))) (va_cwS 2 hts gL_finds_L_low rfl rfl rfl (by decide +kernel) ⟨Nat.le_of_ble_eq_true rfl, Nat.le_of_ble_eq_true rfl⟩) hK trivial rfl hl.1 rfl (Nat.le_of_ble_eq_true rfl) dL_finds_186 ⟨by show 0 ≤ 4; omega, by show 0 ≤ 24; omega⟩ (fun _ h => h) ?_
          have hlo : lowN (z >>> ((nI 8) &&& 31)) (if lowN (z >>> ((nI 14) &&& 31)) 2 = 0 then 30001 else 600) < (if lowN (z >>> ((nI 14) &&& 31)) 2 = 0 then 30001 else 600) := lowN_lt (by first | decide | omega | exact zif_p (by decide) (by decide))
          refine k_top (y := nI (zRd z)) rfl ?_
          refine lv_istore (lv' := [(9, .int (nI (zRd z))), (8, .int (nI (lowN (z >>> ((nI 4) &&& 31)) w0))), (7, .int (nI (lowN z 12))), (0, .ref (cb 0)), (1, .int (nI ac)), (2, .int (z)), (3, .ref (a 4)), (4, .ref (a 7)), (5, .ref (a 8)), (6, .ref (a 0))]) hx hb dL_finds_189 hl (by decide) rfl (fun ls hl => ?_)
          refine lv_ldc (v := (-2000000003)) hx hb hown (hts _ cs_L_finds_36) dL_finds_191 ?_
          refine lv_istore (lv' := [(10, .int ((-2000000003))), (9, .int (nI (zRd z))), (8, .int (nI (lowN (z >>> ((nI 4) &&& 31)) w0))), (7, .int (nI (lowN z 12))), (0, .ref (cb 0)), (1, .int (nI ac)), (2, .int (z)), (3, .ref (a 4)), (4, .ref (a 7)), (5, .ref (a 8)), (6, .ref (a 0))]) hx hb dL_finds_193 hl (by decide) rfl (fun ls hl => ?_)
          have hh0 : (lowN (z >>> (nI 4 &&& 31)) w0) < w0 := lowN_lt (by omega)
          refine lv_aload_n hx hb dL_finds_195 rfl (lv_at hl 7 rfl) ?_
          refine lv_iload hx hb dL_finds_196 (lv_at hl 3 rfl) ?_
          refine lv_iload hx hb dL_finds_198 (lv_at hl 2 rfl) ?_
          refine k_callS (rest := []) (r := S 4 ((lowN (z >>> ((nI 4) &&& 31)) w0) * 12 + (lowN z 12))) ⟨hx, hb, hml, hown, hts⟩ (c_L_get l D q (a 4) (S 4) (lowN z 12) (lowN (z >>> ((nI 4) &&& 31)) w0) (by omega) (by omega) hb4) (va_cwS 3 hts gL_finds_L_get rfl rfl rfl (by decide +kernel) ⟨Nat.le_of_ble_eq_true rfl, Nat.le_of_ble_eq_true rfl⟩) hK (hP.1.sub [4] rfl) rfl hl.1 rfl (Nat.le_of_ble_eq_true rfl) dL_finds_200 ⟨by show 0 ≤ 4; omega, by show 0 ≤ 24; omega⟩ (fun _ h => h) ?_
          refine k_if_ne (P := S 4 ((lowN (z >>> ((nI 4) &&& 31)) w0) * 12 + (lowN z 12)) = 0) (tgt := 247) hx hb dL_finds_203 (by decide) Iff.rfl (fun c_8 => ?_) (fun c_8 => ?_)
          · skip
            refine lv_aload_n hx hb dL_finds_247 rfl (lv_at hl 4 rfl) ?_
            refine lv_iconst (v := nI 0) hx hb dL_finds_248 (by decide) ?_
            refine lv_iload hx hb dL_finds_249 (lv_at hl 3 rfl) ?_
            refine lv_iload hx hb dL_finds_251 (lv_at hl 2 rfl) ?_
            refine lv_iload hx hb dL_finds_253 (lv_at hl 1 rfl) ?_
            refine lv_iconst (v := nI 0) hx hb dL_finds_255 (by decide) ?_
            refine lv_iconst (v := nI 0) hx hb dL_finds_256 (by decide) ?_
            refine k_goW hP (fun z9 h9 => hA z9 h9) hS (vx_runSW (rest := []) ⟨hx, hb, hml, hown, hts⟩ (c_L_calls_turnUp l hl0 D q (va_A (wC q cb cM cap nl) u.heap.size) cb cM cap nl (nI (lowN z 12)) (nI (lowN (z >>> (nI 4 &&& 31)) w0)) (nI (zRd z)) n w0 hn9 (by omega) hnl hnow (by omega) (nI 0) (nI 0) hE) (vx_cwSW 7 hts gL_finds_L_calls rfl rfl rfl (by decide +kernel) ⟨Nat.le_of_ble_eq_true rfl, Nat.le_of_ble_eq_true rfl⟩) ⟨kBL_blind, fun U hU hW => ⟨rfl, ⟨by rw [hU]; exact kW_cut hP, hK.warm hW, (hX.at hS hU hW).narrow (kW_sub hP (fun z9 h9 => hA z9 (Nat.le_trans hS.1 h9)))⟩, fun z9 h9 => Or.inr (by rw [← hU]; exact h9)⟩⟩ rfl rfl hl.1 rfl (lv_room (Nat.le_of_ble_eq_true rfl)) dL_finds_257 ⟨by show 0 + 4 ≤ 4; omega, by show 0 + 24 ≤ 24; omega⟩) (fun H locs hP hS => ?_)
            have hP : kW D A (wL q a S ((wC q cb cN cap nl))) H := by rw [← hcN]; exact hP
            refine k_top (y := (-2000000003)) hco ?_
            refine lv_iload hx hb dL_finds_260 (lv_at hl 0 rfl) ?_
            refine k_icmp_ne (P := True) (tgt := 269) hx hb dL_finds_262 (by decide) ⟨fun _ => trivial, fun _ => rfl⟩ (fun c_9 => ?_) (fun c_9 => ?_)
            · skip
              exact (c_9 trivial).elim
            · skip
              refine lv_iconst (v := nI 1) hx hb dL_finds_265 (by decide) ?_
              refine lv_goto (tgt := 270) hx hb dL_finds_266 (by decide) ?_
              refine W.widen (k := 4) (n := 24) (by first | exact Nat.le_of_ble_eq_true rfl | omega) (by first | exact Nat.le_of_ble_eq_true rfl | omega) ?_
              exact k_zretW hx hb hr hlocks rfl hP hS (by rfl) dL_finds_270
          · skip
            exact absurd c_8 hlost
        · skip
          refine k_if_ne (P := lowN (z >>> ((nI 14) &&& 31)) 2 = 0) (tgt := 183) hx hb dL_finds_174 (by decide) (k_n0 (by omega)) (fun c_10 => ?_) (fun c_10 => ?_)
          · skip
            refine lv_sipush (v := nI 600) hx hb dL_finds_183 (by decide) ?_
            refine k_top (y := nI (if lowN (z >>> ((nI 14) &&& 31)) 2 = 0 then 30001 else 600)) (by first | rw [if_pos c_10] | rw [if_neg c_10]) ?_
            exact J186 ls (lv_sub hl [0, 1, 2, 3, 4, 5, 6, 7, 8] rfl)
          · skip
            refine lv_sipush (v := nI 30001) hx hb dL_finds_177 (by decide) ?_
            refine lv_goto (tgt := 186) hx hb dL_finds_180 (by decide) ?_
            refine k_top (y := nI (if lowN (z >>> ((nI 14) &&& 31)) 2 = 0 then 30001 else 600)) (by first | rw [if_pos c_10] | rw [if_neg c_10]) ?_
            exact J186 ls (lv_sub hl [0, 1, 2, 3, 4, 5, 6, 7, 8] rfl)
      · skip
        exact absurd c_7 hw0
    · skip
      exact absurd ⟨c_1, c_6⟩ hno
