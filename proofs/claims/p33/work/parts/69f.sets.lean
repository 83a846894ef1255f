set_option maxHeartbeats 4000000 in
set_option maxRecDepth 100000 in
theorem c_L_sets_p (l : Launch) (hl0 : l.stackTraces = false) (D : va_G) (q : Nat → ClassId) (A : Nat → Prop) (a : Nat → Nat) (S : Nat → Nat → Int32) (cb : Nat → Nat) (cM : Nat → Nat → Int32) (cap nl : Nat) (z v0 : Int32) (cN : Nat → Nat → Int32) (h0 : S 1 (lowN z 12) = v0) (hco : coSetPeople cM (nI (lowN z 12)) (nI (zP z)) (nI (lowN (z >>> (nI 7 &&& 31)) 101)) = (nI 0, v0, cN)) : Met l yL_sets wsL_sets ({ frames := 8, cells := 3, slots := 18, locals := 246 } : Room) (va_Pc [.ref (cb 0), .int (nI 0), .int (z), .ref (a 1), .ref (a 9)] (kBL D q A (fun H => kW D A (wL q a S ((wC q cb cM cap nl))) H))) (kRi D A (nI 1) (wL q a ((up (up S 1 (lowN z 12) (nI (zP z))) 1 (12 + lowN z 12) (nI (lowN (z >>> (nI 7 &&& 31)) 101)))) ((wC q cb cN cap nl)))) 3 18 A := by
  refine Met.ofW (cc := cL_sets) (maxL := 9) (ret := (some .boolean)) (by decide) rfl ?_
  intro p e u m args below meth c s₁ B hml0 hv
  obtain ⟨rfl, ⟨hP, hK, hX⟩, hA⟩ := hv
  have C0 : kAt p u m #[.ref (cb 0), .int (nI 0), .int (z), .ref (a 1), .ref (a 9)] meth c cL_sets 9 (some .boolean) RL wsL_sets := kAt_of B hml0
  obtain ⟨hx, hb, hr, hml, hown, hts, hlocks⟩ := id C0
  have hS : va_S A u.heap u.heap [] := va_S.rf
  have hl := lv_entry ([.ref (cb 0), .int (nI 0), .int (z), .ref (a 1), .ref (a 9)]) (n := 9) (Nat.le_of_ble_eq_true rfl)
  rw [lg_entry_eq]
  generalize (lg_sl ([.ref (cb 0), .int (nI 0), .int (z), .ref (a 1), .ref (a 9)]) ++ List.replicate (9 - (lg_sl ([.ref (cb 0), .int (nI 0), .int (z), .ref (a 1), .ref (a 9)])).length) Slot.unset).toArray = ls at hl ⊢
  have hl : lv_has ls 9 [(0, .ref (cb 0)), (1, .int (nI 0)), (2, .int (z)), (3, .ref (a 1)), (4, .ref (a 9))] := hl
  refine lv_iload_n hx hb dL_sets_0 rfl (lv_at hl 2 rfl) ?_
  refine lv_bipush (v := nI 12) hx hb dL_sets_1 (by decide) ?_
  refine k_callS (rest := []) (r := nI (lowN z 12)) ⟨hx, hb, hml, hown, hts⟩ (c_L_low l D q z 12 (by omega) (by omega)) (va_cwS 2 hts gL_sets_L_low rfl rfl rfl (by decide +kernel) ⟨Nat.le_of_ble_eq_true rfl, Nat.le_of_ble_eq_true rfl⟩) hK trivial rfl hl.1 rfl (Nat.le_of_ble_eq_true rfl) dL_sets_3 ⟨by show 0 ≤ 3; omega, by show 0 ≤ 18; omega⟩ (fun _ h => h) ?_
  have hlo : lowN z 12 < 12 := lowN_lt (by first | decide | omega | exact zif_p (by decide) (by decide))
  refine lv_istore (lv' := [(5, .int (nI (lowN z 12))), (0, .ref (cb 0)), (1, .int (nI 0)), (2, .int (z)), (3, .ref (a 1)), (4, .ref (a 9))]) hx hb dL_sets_6 hl (by decide) rfl (fun ls hl => ?_)
  refine lv_iload_n hx hb dL_sets_8 rfl (lv_at hl 2 rfl) ?_
  refine k_if_ne (P := True) (tgt := 92) hx hb dL_sets_9 (by decide) ⟨fun _ => trivial, fun _ => rfl⟩ (fun c_1 => ?_) (fun c_1 => ?_)
  · skip
    exact (c_1 trivial).elim
  · skip
    refine lv_aload_n hx hb dL_sets_12 rfl (lv_at hl 4 rfl) ?_
    refine lv_iload hx hb dL_sets_13 (lv_at hl 0 rfl) ?_
    refine k_iald hx hb hK hP.1 1 rfl (lowN z 12) rfl (by omega) (by decide) dL_sets_15 ?_
    refine k_top (y := v0) h0 ?_
    refine lv_istore (lv' := [(6, .int (v0)), (5, .int (nI (lowN z 12))), (0, .ref (cb 0)), (1, .int (nI 0)), (2, .int (z)), (3, .ref (a 1)), (4, .ref (a 9))]) hx hb dL_sets_16 hl (by decide) rfl (fun ls hl => ?_)
    refine lv_aload_n hx hb dL_sets_18 rfl (lv_at hl 5 rfl) ?_
    refine lv_iload hx hb dL_sets_19 (lv_at hl 1 rfl) ?_
    refine lv_iload_n hx hb dL_sets_21 rfl (lv_at hl 4 rfl) ?_
    refine lv_iconst (v := nI 4) hx hb dL_sets_22 (by decide) ?_
    refine lv_ishr hx hb dL_sets_23 ?_
    refine lv_iload_n hx hb dL_sets_24 rfl (lv_at hl 4 rfl) ?_
    refine lv_bipush (v := nI 13) hx hb dL_sets_25 (by decide) ?_
    refine lv_ishr hx hb dL_sets_27 ?_
    refine lv_iconst (v := nI 3) hx hb dL_sets_28 (by decide) ?_
    refine k_callS (rest := [.int (z >>> ((nI 4) &&& 31)), .int (nI (lowN z 12)), .ref (a 1)]) (r := nI (lowN (z >>> ((nI 13) &&& 31)) 3)) ⟨hx, hb, hml, hown, hts⟩ (c_L_low l D q (z >>> ((nI 13) &&& 31)) 3 (by omega) (by omega)) (va_cwS 2 hts gL_sets_L_low rfl rfl rfl (by decide +kernel) ⟨Nat.le_of_ble_eq_true rfl, Nat.le_of_ble_eq_true rfl⟩) hK trivial rfl hl.1 rfl (Nat.le_of_ble_eq_true rfl) dL_sets_29 ⟨by show 0 ≤ 3; omega, by show 0 ≤ 18; omega⟩ (fun _ h => h) ?_
    have hlo : lowN (z >>> ((nI 13) &&& 31)) 3 < 3 := lowN_lt (by first | decide | omega | exact zif_p (by decide) (by decide))
    refine k_cut (pcj := 44) (st9 := [.int (nI (if lowN (z >>> ((nI 13) &&& 31)) 3 = 0 then 1001 else 200)), .int (z >>> ((nI 4) &&& 31)), .int (nI (lowN z 12)), .ref (a 1)]) (n := 9) (lv9 := [(6, .int (v0)), (5, .int (nI (lowN z 12))), (0, .ref (cb 0)), (1, .int (nI 0)), (2, .int (z)), (3, .ref (a 1)), (4, .ref (a 9))]) (fun ls hl => ?_) (fun J44 => ?_)
    · skip
      refine k_callS (rest := [.int (nI (lowN z 12)), .ref (a 1)]) (r := nI (lowN (z >>> ((nI 4) &&& 31)) (if lowN (z >>> ((nI 13) &&& 31)) 3 = 0 then 1001 else 200))) ⟨hx, hb, hml, hown, hts⟩ (c_L_low l D q (z >>> ((nI 4) &&& 31)) (if lowN (z >>> ((nI 13) &&& 31)) 3 = 0 then 1001 else 200) (zif_p (by decide) (by decide)) (zif_l (by decide) (by decide))) (va_cwS 2 hts gL_sets_L_low rfl rfl rfl (by decide +kernel) ⟨Nat.le_of_ble_eq_true rfl, Nat.le_of_ble_eq_true rfl⟩) hK trivial rfl hl.1 rfl (Nat.le_of_ble_eq_true rfl) dL_sets_44 ⟨by show 0 ≤ 3; omega, by show 0 ≤ 18; omega⟩ (fun _ h => h) ?_
      have hlo : lowN (z >>> ((nI 4) &&& 31)) (if lowN (z >>> ((nI 13) &&& 31)) 3 = 0 then 1001 else 200) < (if lowN (z >>> ((nI 13) &&& 31)) 3 = 0 then 1001 else 200) := lowN_lt (by first | decide | omega | exact zif_p (by decide) (by decide))
      refine k_top (y := nI (zP z)) rfl ?_
      refine k_iast (wL q a ((up S 1 (lowN z 12) (nI (zP z)))) ((wC q cb cM cap nl))) hx hb hK hP hS 1 rfl (lowN z 12) rfl (by omega) (by decide) wL_s1 dL_sets_47 (fun H locs hP hS => ?_)
      refine lv_aload_n hx hb dL_sets_48 rfl (lv_at hl 5 rfl) ?_
      refine lv_bipush (v := nI 12) hx hb dL_sets_49 (by decide) ?_
      refine lv_iload hx hb dL_sets_51 (lv_at hl 1 rfl) ?_
      refine lv_iadd hx hb dL_sets_53 ?_
      refine k_top (y := nI (12 + (lowN z 12))) (nI_add _ _) ?_
      refine lv_iload_n hx hb dL_sets_54 rfl (lv_at hl 4 rfl) ?_
      refine lv_bipush (v := nI 7) hx hb dL_sets_55 (by decide) ?_
      refine lv_ishr hx hb dL_sets_57 ?_
      refine lv_bipush (v := nI 101) hx hb dL_sets_58 (by decide) ?_
      refine k_callS (rest := [.int (nI (12 + (lowN z 12))), .ref (a 1)]) (r := nI (lowN (z >>> ((nI 7) &&& 31)) 101)) ⟨hx, hb, hml, hown, hts⟩ (c_L_low l D q (z >>> ((nI 7) &&& 31)) 101 (by omega) (by omega)) (va_cwS 2 hts gL_sets_L_low rfl rfl rfl (by decide +kernel) ⟨Nat.le_of_ble_eq_true rfl, Nat.le_of_ble_eq_true rfl⟩) hK trivial rfl hl.1 rfl (Nat.le_of_ble_eq_true rfl) dL_sets_60 ⟨by show 0 ≤ 3; omega, by show 0 ≤ 18; omega⟩ (fun _ h => h) ?_
      have hlo : lowN (z >>> ((nI 7) &&& 31)) 101 < 101 := lowN_lt (by first | decide | omega | exact zif_p (by decide) (by decide))
      refine k_iast (wL q a ((up (up S 1 (lowN z 12) (nI (zP z))) 1 (12 + (lowN z 12)) (nI (lowN (z >>> ((nI 7) &&& 31)) 101)))) ((wC q cb cM cap nl))) hx hb hK hP hS 1 rfl (12 + (lowN z 12)) rfl (by omega) (by decide) wL_s1 dL_sets_63 (fun H locs hP hS => ?_)
      refine lv_aload_n hx hb dL_sets_64 rfl (lv_at hl 2 rfl) ?_
      refine lv_iload hx hb dL_sets_65 (lv_at hl 1 rfl) ?_
      refine lv_aload_n hx hb dL_sets_67 rfl (lv_at hl 5 rfl) ?_
      refine lv_iload hx hb dL_sets_68 (lv_at hl 1 rfl) ?_
      refine k_iald hx hb hK hP.1 1 rfl (lowN z 12) rfl (by omega) (by decide) dL_sets_70 ?_
      refine k_top (y := nI (zP z)) ((up_sn (by omega)).trans (up_si _ _ _ _)) ?_
      refine lv_aload_n hx hb dL_sets_71 rfl (lv_at hl 5 rfl) ?_
      refine lv_bipush (v := nI 12) hx hb dL_sets_72 (by decide) ?_
      refine lv_iload hx hb dL_sets_74 (lv_at hl 1 rfl) ?_
      refine lv_iadd hx hb dL_sets_76 ?_
      refine k_top (y := nI (12 + (lowN z 12))) (nI_add _ _) ?_
      refine k_iald hx hb hK hP.1 1 rfl (12 + (lowN z 12)) rfl (by omega) (by decide) dL_sets_77 ?_
      refine k_top (y := nI (lowN (z >>> ((nI 7) &&& 31)) 101)) (up_si _ _ _ _) ?_
      refine k_goLi (H0 := u.heap) hP hA hS (vx_runV (rest := []) ⟨hx, hb, hml, hown, hts⟩ (c_X4_setPeople l hl0 D q (va_A (wC q cb cM cap nl) H.size) cb cM cap nl (nI (lowN z 12)) (nI (zP z)) (nI (lowN (z >>> (nI 7 &&& 31)) 101))) (cwV 3 hts gL_sets_X4_setPeople rfl rfl rfl (by decide +kernel) ⟨Nat.le_of_ble_eq_true rfl, Nat.le_of_ble_eq_true rfl⟩) ⟨kBX_blind, (va_recv hK.1 hP.1 (ci := 5) (q0 := 10) rfl rfl), fun U hU hW => ⟨rfl, by rw [hU]; exact kW_cut hP, hK.warm hW, (hX.at hS hU hW).narrow (kW_sub hP (fun z9 h9 => hA z9 (Nat.le_trans hS.1 h9)))⟩⟩ rfl rfl hl.1 rfl (lv_room (Nat.le_of_ble_eq_true rfl)) dL_sets_78 ⟨by show 0 + 3 ≤ 3; omega, by show 0 + 18 ≤ 18; omega⟩) (fun E ce q9 H locs hE hP hS h1 h2 h3 => absurd hE (by rw [hco]; exact exC_no (by decide))) (fun r2 H locs hr2 hP hS => ?_)
      have hr2 := hr2.2
      rw [hco] at hP hr2
      have hP : kW D A (wL q a ((up (up S 1 (lowN z 12) (nI (zP z))) 1 (12 + (lowN z 12)) (nI (lowN (z >>> ((nI 7) &&& 31)) 101)))) ((wC q cb cN cap nl))) H := hP
      refine k_top (y := v0) hr2 ?_
      refine lv_iload hx hb dL_sets_81 (lv_at hl 0 rfl) ?_
      refine k_icmp_ne (P := True) (tgt := 90) hx hb dL_sets_83 (by decide) ⟨fun _ => trivial, fun _ => rfl⟩ (fun c_3 => ?_) (fun c_3 => ?_)
      · skip
        exact (c_3 trivial).elim
      · skip
        refine lv_iconst (v := nI 1) hx hb dL_sets_86 (by decide) ?_
        refine lv_goto (tgt := 91) hx hb dL_sets_87 (by decide) ?_
        refine W.widen (k := 3) (n := 18) (by first | exact Nat.le_of_ble_eq_true rfl | omega) (by first | exact Nat.le_of_ble_eq_true rfl | omega) ?_
        have eM : wL q a ((up (up S 1 (lowN z 12) (nI (zP z))) 1 (12 + (lowN z 12)) (nI (lowN (z >>> ((nI 7) &&& 31)) 101)))) ((wC q cb cN cap nl)) = wL q a ((up (up S 1 (lowN z 12) (nI (zP z))) 1 (12 + lowN z 12) (nI (lowN (z >>> (nI 7 &&& 31)) 101)))) ((wC q cb cN cap nl)) := by rfl
        rw [eM] at hP
        exact k_zretW hx hb hr hlocks rfl hP hS (by rfl) dL_sets_91
    · skip
      refine k_if_ne (P := lowN (z >>> ((nI 13) &&& 31)) 3 = 0) (tgt := 41) hx hb dL_sets_32 (by decide) (k_n0 (by omega)) (fun c_4 => ?_) (fun c_4 => ?_)
      · skip
        refine lv_sipush (v := nI 200) hx hb dL_sets_41 (by decide) ?_
        refine k_top (y := nI (if lowN (z >>> ((nI 13) &&& 31)) 3 = 0 then 1001 else 200)) (by first | rw [if_pos c_4] | rw [if_neg c_4]) ?_
        exact J44 ls (lv_sub hl [0, 1, 2, 3, 4, 5, 6] rfl)
      · skip
        refine lv_sipush (v := nI 1001) hx hb dL_sets_35 (by decide) ?_
        refine lv_goto (tgt := 44) hx hb dL_sets_38 (by decide) ?_
        refine k_top (y := nI (if lowN (z >>> ((nI 13) &&& 31)) 3 = 0 then 1001 else 200)) (by first | rw [if_pos c_4] | rw [if_neg c_4]) ?_
        exact J44 ls (lv_sub hl [0, 1, 2, 3, 4, 5, 6] rfl)
set_option maxHeartbeats 4000000 in
set_option maxRecDepth 100000 in
theorem c_L_sets_l1 (l : Launch) (hl0 : l.stackTraces = false) (D : va_G) (q : Nat → ClassId) (A : Nat → Prop) (a : Nat → Nat) (S : Nat → Nat → Int32) (cb : Nat → Nat) (cM : Nat → Nat → Int32) (cap nl : Nat) (z v0 : Int32) (cN : Nat → Nat → Int32) (h0 : S 1 (24 + (lowN z 12)) - S 1 (24 + (lowN z 12)) / nI 100 * nI 100 = v0) (hwk : ¬ lowN (z >>> (nI 4 &&& 31)) 3 = 0) (hco : coSetLamp cM (nI (lowN z 12)) (nI 1) (nI (lowN (z >>> (nI 6 &&& 31)) 61)) = (nI 0, v0, cN)) : Met l yL_sets wsL_sets ({ frames := 8, cells := 2, slots := 12, locals := 246 } : Room) (va_Pc [.ref (cb 0), .int (nI 1), .int (z), .ref (a 1), .ref (a 9)] (kBL D q A (fun H => kW D A (wL q a S ((wC q cb cM cap nl))) H))) (kRi D A (nI 1) (wL q a ((up S 1 (24 + (lowN z 12)) (nI (lowN (z >>> (nI 6 &&& 31)) 61)))) ((wC q cb cN cap nl)))) 2 12 A := by
  refine Met.ofW (cc := cL_sets) (maxL := 9) (ret := (some .boolean)) (by decide) rfl ?_
  intro p e u m args below meth c s₁ B hml0 hv
  obtain ⟨rfl, ⟨hP, hK, hX⟩, hA⟩ := hv
  have C0 : kAt p u m #[.ref (cb 0), .int (nI 1), .int (z), .ref (a 1), .ref (a 9)] meth c cL_sets 9 (some .boolean) RL wsL_sets := kAt_of B hml0
  obtain ⟨hx, hb, hr, hml, hown, hts, hlocks⟩ := id C0
  have hS : va_S A u.heap u.heap [] := va_S.rf
  have hl := lv_entry ([.ref (cb 0), .int (nI 1), .int (z), .ref (a 1), .ref (a 9)]) (n := 9) (Nat.le_of_ble_eq_true rfl)
  rw [lg_entry_eq]
  generalize (lg_sl ([.ref (cb 0), .int (nI 1), .int (z), .ref (a 1), .ref (a 9)]) ++ List.replicate (9 - (lg_sl ([.ref (cb 0), .int (nI 1), .int (z), .ref (a 1), .ref (a 9)])).length) Slot.unset).toArray = ls at hl ⊢
  have hl : lv_has ls 9 [(0, .ref (cb 0)), (1, .int (nI 1)), (2, .int (z)), (3, .ref (a 1)), (4, .ref (a 9))] := hl
  refine lv_iload_n hx hb dL_sets_0 rfl (lv_at hl 2 rfl) ?_
  refine lv_bipush (v := nI 12) hx hb dL_sets_1 (by decide) ?_
  refine k_callS (rest := []) (r := nI (lowN z 12)) ⟨hx, hb, hml, hown, hts⟩ (c_L_low l D q z 12 (by omega) (by omega)) (va_cwS 2 hts gL_sets_L_low rfl rfl rfl (by decide +kernel) ⟨Nat.le_of_ble_eq_true rfl, Nat.le_of_ble_eq_true rfl⟩) hK trivial rfl hl.1 rfl (Nat.le_of_ble_eq_true rfl) dL_sets_3 ⟨by show 0 ≤ 2; omega, by show 0 ≤ 12; omega⟩ (fun _ h => h) ?_
  have hlo : lowN z 12 < 12 := lowN_lt (by first | decide | omega | exact zif_p (by decide) (by decide))
  refine lv_istore (lv' := [(5, .int (nI (lowN z 12))), (0, .ref (cb 0)), (1, .int (nI 1)), (2, .int (z)), (3, .ref (a 1)), (4, .ref (a 9))]) hx hb dL_sets_6 hl (by decide) rfl (fun ls hl => ?_)
  refine lv_iload_n hx hb dL_sets_8 rfl (lv_at hl 2 rfl) ?_
  refine k_if_ne (P := False) (tgt := 92) hx hb dL_sets_9 (by decide) ⟨fun z => absurd z (by decide), False.elim⟩ (fun c_1 => ?_) (fun c_1 => ?_)
  · skip
    refine lv_iload_n hx hb dL_sets_92 rfl (lv_at hl 2 rfl) ?_
    refine lv_iconst (v := nI 1) hx hb dL_sets_93 (by decide) ?_
    refine k_icmp_ne (P := True) (tgt := 180) hx hb dL_sets_94 (by decide) ⟨fun _ => trivial, fun _ => rfl⟩ (fun c_2 => ?_) (fun c_2 => ?_)
    · skip
      exact (c_2 trivial).elim
    · skip
      refine lv_aload_n hx hb dL_sets_97 rfl (lv_at hl 4 rfl) ?_
      refine lv_bipush (v := nI 24) hx hb dL_sets_98 (by decide) ?_
      refine lv_iload hx hb dL_sets_100 (lv_at hl 0 rfl) ?_
      refine lv_iadd hx hb dL_sets_102 ?_
      refine k_top (y := nI (24 + (lowN z 12))) (nI_add _ _) ?_
      refine k_iald hx hb hK hP.1 1 rfl (24 + (lowN z 12)) rfl (by omega) (by decide) dL_sets_103 ?_
      refine lv_bipush (v := nI 100) hx hb dL_sets_104 (by decide) ?_
      refine lv_irem hx hb dL_sets_106 (by decide) ?_
      refine k_top (y := v0) h0 ?_
      refine lv_istore (lv' := [(6, .int (v0)), (5, .int (nI (lowN z 12))), (0, .ref (cb 0)), (1, .int (nI 1)), (2, .int (z)), (3, .ref (a 1)), (4, .ref (a 9))]) hx hb dL_sets_107 hl (by decide) rfl (fun ls hl => ?_)
      refine lv_iload_n hx hb dL_sets_109 rfl (lv_at hl 4 rfl) ?_
      refine lv_iconst (v := nI 4) hx hb dL_sets_110 (by decide) ?_
      refine lv_ishr hx hb dL_sets_111 ?_
      refine lv_iconst (v := nI 3) hx hb dL_sets_112 (by decide) ?_
      refine k_callS (rest := []) (r := nI (lowN (z >>> ((nI 4) &&& 31)) 3)) ⟨hx, hb, hml, hown, hts⟩ (c_L_low l D q (z >>> ((nI 4) &&& 31)) 3 (by omega) (by omega)) (va_cwS 2 hts gL_sets_L_low rfl rfl rfl (by decide +kernel) ⟨Nat.le_of_ble_eq_true rfl, Nat.le_of_ble_eq_true rfl⟩) hK trivial rfl hl.1 rfl (Nat.le_of_ble_eq_true rfl) dL_sets_113 ⟨by show 0 ≤ 2; omega, by show 0 ≤ 12; omega⟩ (fun _ h => h) ?_
      have hlo : lowN (z >>> ((nI 4) &&& 31)) 3 < 3 := lowN_lt (by first | decide | omega | exact zif_p (by decide) (by decide))
      refine k_if_le (P := lowN (z >>> ((nI 4) &&& 31)) 3 = 0) (tgt := 123) hx hb dL_sets_116 (by decide) (k_nle0 (by omega)) (fun c_3 => ?_) (fun c_3 => ?_)
      · skip
        exact absurd c_3 hwk
      · skip
        refine lv_iconst (v := nI 1) hx hb dL_sets_119 (by decide) ?_
        refine lv_goto (tgt := 124) hx hb dL_sets_120 (by decide) ?_
        refine lv_istore (lv' := [(7, .int (nI 1)), (6, .int (v0)), (5, .int (nI (lowN z 12))), (0, .ref (cb 0)), (1, .int (nI 1)), (2, .int (z)), (3, .ref (a 1)), (4, .ref (a 9))]) hx hb dL_sets_124 hl (by decide) rfl (fun ls hl => ?_)
        refine lv_iload_n hx hb dL_sets_126 rfl (lv_at hl 5 rfl) ?_
        refine lv_bipush (v := nI 6) hx hb dL_sets_127 (by decide) ?_
        refine lv_ishr hx hb dL_sets_129 ?_
        refine lv_bipush (v := nI 61) hx hb dL_sets_130 (by decide) ?_
        refine k_callS (rest := []) (r := nI (lowN (z >>> ((nI 6) &&& 31)) 61)) ⟨hx, hb, hml, hown, hts⟩ (c_L_low l D q (z >>> ((nI 6) &&& 31)) 61 (by omega) (by omega)) (va_cwS 2 hts gL_sets_L_low rfl rfl rfl (by decide +kernel) ⟨Nat.le_of_ble_eq_true rfl, Nat.le_of_ble_eq_true rfl⟩) hK trivial rfl hl.1 rfl (Nat.le_of_ble_eq_true rfl) dL_sets_132 ⟨by show 0 ≤ 2; omega, by show 0 ≤ 12; omega⟩ (fun _ h => h) ?_
        have hlo : lowN (z >>> ((nI 6) &&& 31)) 61 < 61 := lowN_lt (by first | decide | omega | exact zif_p (by decide) (by decide))
        refine lv_istore (lv' := [(8, .int (nI (lowN (z >>> ((nI 6) &&& 31)) 61))), (7, .int (nI 1)), (6, .int (v0)), (5, .int (nI (lowN z 12))), (0, .ref (cb 0)), (1, .int (nI 1)), (2, .int (z)), (3, .ref (a 1)), (4, .ref (a 9))]) hx hb dL_sets_135 hl (by decide) rfl (fun ls hl => ?_)
        refine lv_aload_n hx hb dL_sets_137 rfl (lv_at hl 7 rfl) ?_
        refine lv_bipush (v := nI 24) hx hb dL_sets_138 (by decide) ?_
        refine lv_iload hx hb dL_sets_140 (lv_at hl 3 rfl) ?_
        refine lv_iadd hx hb dL_sets_142 ?_
        refine k_top (y := nI (24 + (lowN z 12))) (nI_add _ _) ?_
        refine lv_iload hx hb dL_sets_143 (lv_at hl 1 rfl) ?_
        refine k_if_eq (P := False) (tgt := 153) hx hb dL_sets_145 (by decide) ⟨fun z => absurd z (by decide), False.elim⟩ (fun c_4 => ?_) (fun c_4 => ?_)
        · skip
          exact c_4.elim
        · skip
          refine lv_iload hx hb dL_sets_148 (lv_at hl 0 rfl) ?_
          refine lv_goto (tgt := 158) hx hb dL_sets_150 (by decide) ?_
          refine k_iast (wL q a ((up S 1 (24 + (lowN z 12)) (nI (lowN (z >>> ((nI 6) &&& 31)) 61)))) ((wC q cb cM cap nl))) hx hb hK hP hS 1 rfl (24 + (lowN z 12)) rfl (by omega) (by decide) wL_s1 dL_sets_158 (fun H locs hP hS => ?_)
          refine lv_aload_n hx hb dL_sets_159 rfl (lv_at hl 4 rfl) ?_
          refine lv_iload hx hb dL_sets_160 (lv_at hl 3 rfl) ?_
          refine lv_iload hx hb dL_sets_162 (lv_at hl 1 rfl) ?_
          refine lv_iload hx hb dL_sets_164 (lv_at hl 0 rfl) ?_
          refine k_goLi (H0 := u.heap) hP hA hS (vx_runV (rest := []) ⟨hx, hb, hml, hown, hts⟩ (c_X4_setLamp l hl0 D q (va_A (wC q cb cM cap nl) H.size) cb cM cap nl (nI (lowN z 12)) (nI 1) (nI (lowN (z >>> (nI 6 &&& 31)) 61))) (cwV 3 hts gL_sets_X4_setLamp rfl rfl rfl (by decide +kernel) ⟨Nat.le_of_ble_eq_true rfl, Nat.le_of_ble_eq_true rfl⟩) ⟨kBX_blind, (va_recv hK.1 hP.1 (ci := 5) (q0 := 10) rfl rfl), fun U hU hW => ⟨rfl, by rw [hU]; exact kW_cut hP, hK.warm hW, (hX.at hS hU hW).narrow (kW_sub hP (fun z9 h9 => hA z9 (Nat.le_trans hS.1 h9)))⟩⟩ rfl rfl hl.1 rfl (lv_room (Nat.le_of_ble_eq_true rfl)) dL_sets_166 ⟨by show 0 + 2 ≤ 2; omega, by show 0 + 12 ≤ 12; omega⟩) (fun E ce q9 H locs hE hP hS h1 h2 h3 => absurd hE (by rw [hco]; exact exC_no (by decide))) (fun r5 H locs hr5 hP hS => ?_)
          have hr5 := hr5.2
          rw [hco] at hP hr5
          have hP : kW D A (wL q a ((up S 1 (24 + (lowN z 12)) (nI (lowN (z >>> ((nI 6) &&& 31)) 61)))) ((wC q cb cN cap nl))) H := hP
          refine k_top (y := v0) hr5 ?_
          refine lv_iload hx hb dL_sets_169 (lv_at hl 2 rfl) ?_
          refine k_icmp_ne (P := True) (tgt := 178) hx hb dL_sets_171 (by decide) ⟨fun _ => trivial, fun _ => rfl⟩ (fun c_6 => ?_) (fun c_6 => ?_)
          · skip
            exact (c_6 trivial).elim
          · skip
            refine lv_iconst (v := nI 1) hx hb dL_sets_174 (by decide) ?_
            refine lv_goto (tgt := 179) hx hb dL_sets_175 (by decide) ?_
            refine W.widen (k := 2) (n := 12) (by first | exact Nat.le_of_ble_eq_true rfl | omega) (by first | exact Nat.le_of_ble_eq_true rfl | omega) ?_
            have eM : wL q a ((up S 1 (24 + (lowN z 12)) (nI (lowN (z >>> ((nI 6) &&& 31)) 61)))) ((wC q cb cN cap nl)) = wL q a ((up S 1 (24 + (lowN z 12)) (nI (lowN (z >>> (nI 6 &&& 31)) 61)))) ((wC q cb cN cap nl)) := by first | (simp only [if_neg c_3]; done) | (simp only [if_neg c_3]; rfl) | (simp [if_neg c_3]; done) | rfl
            rw [eM] at hP
            exact k_zretW hx hb hr hlocks rfl hP hS (by rfl) dL_sets_179
  · skip
    exact c_1.elim
set_option maxHeartbeats 4000000 in
set_option maxRecDepth 100000 in
theorem c_L_sets_l0 (l : Launch) (hl0 : l.stackTraces = false) (D : va_G) (q : Nat → ClassId) (A : Nat → Prop) (a : Nat → Nat) (S : Nat → Nat → Int32) (cb : Nat → Nat) (cM : Nat → Nat → Int32) (cap nl : Nat) (z v0 : Int32) (cN : Nat → Nat → Int32) (h0 : S 1 (24 + (lowN z 12)) - S 1 (24 + (lowN z 12)) / nI 100 * nI 100 = v0) (hwk : lowN (z >>> (nI 4 &&& 31)) 3 = 0) (hco : coSetLamp cM (nI (lowN z 12)) (nI 0) (nI (lowN (z >>> (nI 6 &&& 31)) 61)) = (nI 0, v0, cN)) : Met l yL_sets wsL_sets ({ frames := 8, cells := 2, slots := 12, locals := 246 } : Room) (va_Pc [.ref (cb 0), .int (nI 1), .int (z), .ref (a 1), .ref (a 9)] (kBL D q A (fun H => kW D A (wL q a S ((wC q cb cM cap nl))) H))) (kRi D A (nI 1) (wL q a ((up S 1 (24 + (lowN z 12)) (nI (100 + (lowN (z >>> (nI 6 &&& 31)) 61))))) ((wC q cb cN cap nl)))) 2 12 A := by
  refine Met.ofW (cc := cL_sets) (maxL := 9) (ret := (some .boolean)) (by decide) rfl ?_
  intro p e u m args below meth c s₁ B hml0 hv
  obtain ⟨rfl, ⟨hP, hK, hX⟩, hA⟩ := hv
  have C0 : kAt p u m #[.ref (cb 0), .int (nI 1), .int (z), .ref (a 1), .ref (a 9)] meth c cL_sets 9 (some .boolean) RL wsL_sets := kAt_of B hml0
  obtain ⟨hx, hb, hr, hml, hown, hts, hlocks⟩ := id C0
  have hS : va_S A u.heap u.heap [] := va_S.rf
  have hl := lv_entry ([.ref (cb 0), .int (nI 1), .int (z), .ref (a 1), .ref (a 9)]) (n := 9) (Nat.le_of_ble_eq_true rfl)
  rw [lg_entry_eq]
  generalize (lg_sl ([.ref (cb 0), .int (nI 1), .int (z), .ref (a 1), .ref (a 9)]) ++ List.replicate (9 - (lg_sl ([.ref (cb 0), .int (nI 1), .int (z), .ref (a 1), .ref (a 9)])).length) Slot.unset).toArray = ls at hl ⊢
  have hl : lv_has ls 9 [(0, .ref (cb 0)), (1, .int (nI 1)), (2, .int (z)), (3, .ref (a 1)), (4, .ref (a 9))] := hl
  refine lv_iload_n hx hb dL_sets_0 rfl (lv_at hl 2 rfl) ?_
  refine lv_bipush (v := nI 12) hx hb dL_sets_1 (by decide) ?_
  refine k_callS (rest := []) (r := nI (lowN z 12)) ⟨hx, hb, hml, hown, hts⟩ (c_L_low l D q z 12 (by omega) (by omega)) (va_cwS 2 hts gL_sets_L_low rfl rfl rfl (by decide +kernel) ⟨Nat.le_of_ble_eq_true rfl, Nat.le_of_ble_eq_true rfl⟩) hK trivial rfl hl.1 rfl (Nat.le_of_ble_eq_true rfl) dL_sets_3 ⟨by show 0 ≤ 2; omega, by show 0 ≤ 12; omega⟩ (fun _ h => h) ?_
  have hlo : lowN z 12 < 12 := lowN_lt (by first | decide | omega | exact zif_p (by decide) (by decide))
  refine lv_istore (lv' := [(5, .int (nI (lowN z 12))), (0, .ref (cb 0)), (1, .int (nI 1)), (2, .int (z)), (3, .ref (a 1)), (4, .ref (a 9))]) hx hb dL_sets_6 hl (by decide) rfl (fun ls hl => ?_)
  refine lv_iload_n hx hb dL_sets_8 rfl (lv_at hl 2 rfl) ?_
  refine k_if_ne (P := False) (tgt := 92) hx hb dL_sets_9 (by decide) ⟨fun z => absurd z (by decide), False.elim⟩ (fun c_1 => ?_) (fun c_1 => ?_)
  · skip
    refine lv_iload_n hx hb dL_sets_92 rfl (lv_at hl 2 rfl) ?_
    refine lv_iconst (v := nI 1) hx hb dL_sets_93 (by decide) ?_
    refine k_icmp_ne (P := True) (tgt := 180) hx hb dL_sets_94 (by decide) ⟨fun _ => trivial, fun _ => rfl⟩ (fun c_2 => ?_) (fun c_2 => ?_)
    · skip
      exact (c_2 trivial).elim
    · skip
      refine lv_aload_n hx hb dL_sets_97 rfl (lv_at hl 4 rfl) ?_
      refine lv_bipush (v := nI 24) hx hb dL_sets_98 (by decide) ?_
      refine lv_iload hx hb dL_sets_100 (lv_at hl 0 rfl) ?_
      refine lv_iadd hx hb dL_sets_102 ?_
      refine k_top (y := nI (24 + (lowN z 12))) (nI_add _ _) ?_
      refine k_iald hx hb hK hP.1 1 rfl (24 + (lowN z 12)) rfl (by omega) (by decide) dL_sets_103 ?_
      refine lv_bipush (v := nI 100) hx hb dL_sets_104 (by decide) ?_
      refine lv_irem hx hb dL_sets_106 (by decide) ?_
      refine k_top (y := v0) h0 ?_
      refine lv_istore (lv' := [(6, .int (v0)), (5, .int (nI (lowN z 12))), (0, .ref (cb 0)), (1, .int (nI 1)), (2, .int (z)), (3, .ref (a 1)), (4, .ref (a 9))]) hx hb dL_sets_107 hl (by decide) rfl (fun ls hl => ?_)
      refine lv_iload_n hx hb dL_sets_109 rfl (lv_at hl 4 rfl) ?_
      refine lv_iconst (v := nI 4) hx hb dL_sets_110 (by decide) ?_
      refine lv_ishr hx hb dL_sets_111 ?_
      refine lv_iconst (v := nI 3) hx hb dL_sets_112 (by decide) ?_
      refine k_callS (rest := []) (r := nI (lowN (z >>> ((nI 4) &&& 31)) 3)) ⟨hx, hb, hml, hown, hts⟩ (c_L_low l D q (z >>> ((nI 4) &&& 31)) 3 (by omega) (by omega)) (va_cwS 2 hts gL_sets_L_low rfl rfl rfl (by decide +kernel) ⟨Nat.le_of_ble_eq_true rfl, Nat.le_of_ble_eq_true rfl⟩) hK trivial rfl hl.1 rfl (Nat.le_of_ble_eq_true rfl) dL_sets_113 ⟨by show 0 ≤ 2; omega, by show 0 ≤ 12; omega⟩ (fun _ h => h) ?_
      have hlo : lowN (z >>> ((nI 4) &&& 31)) 3 < 3 := lowN_lt (by first | decide | omega | exact zif_p (by decide) (by decide))
      refine k_if_le (P := lowN (z >>> ((nI 4) &&& 31)) 3 = 0) (tgt := 123) hx hb dL_sets_116 (by decide) (k_nle0 (by omega)) (fun c_3 => ?_) (fun c_3 => ?_)
      · skip
        refine lv_iconst (v := nI 0) hx hb dL_sets_123 (by decide) ?_
        refine lv_istore (lv' := [(7, .int (nI 0)), (6, .int (v0)), (5, .int (nI (lowN z 12))), (0, .ref (cb 0)), (1, .int (nI 1)), (2, .int (z)), (3, .ref (a 1)), (4, .ref (a 9))]) hx hb dL_sets_124 hl (by decide) rfl (fun ls hl => ?_)
        refine lv_iload_n hx hb dL_sets_126 rfl (lv_at hl 5 rfl) ?_
        refine lv_bipush (v := nI 6) hx hb dL_sets_127 (by decide) ?_
        refine lv_ishr hx hb dL_sets_129 ?_
        refine lv_bipush (v := nI 61) hx hb dL_sets_130 (by decide) ?_
        refine k_callS (rest := []) (r := nI (lowN (z >>> ((nI 6) &&& 31)) 61)) ⟨hx, hb, hml, hown, hts⟩ (c_L_low l D q (z >>> ((nI 6) &&& 31)) 61 (by omega) (by omega)) (va_cwS 2 hts gL_sets_L_low rfl rfl rfl (by decide +kernel) ⟨Nat.le_of_ble_eq_true rfl, Nat.le_of_ble_eq_true rfl⟩) hK trivial rfl hl.1 rfl (Nat.le_of_ble_eq_true rfl) dL_sets_132 ⟨by show 0 ≤ 2; omega, by show 0 ≤ 12; omega⟩ (fun _ h => h) ?_
        have hlo : lowN (z >>> ((nI 6) &&& 31)) 61 < 61 := lowN_lt (by first | decide | omega | exact zif_p (by decide) (by decide))
        refine lv_istore (lv' := [(8, .int (nI (lowN (z >>> ((nI 6) &&& 31)) 61))), (7, .int (nI 0)), (6, .int (v0)), (5, .int (nI (lowN z 12))), (0, .ref (cb 0)), (1, .int (nI 1)), (2, .int (z)), (3, .ref (a 1)), (4, .ref (a 9))]) hx hb dL_sets_135 hl (by decide) rfl (fun ls hl => ?_)
        refine lv_aload_n hx hb dL_sets_137 rfl (lv_at hl 7 rfl) ?_
        refine lv_bipush (v := nI 24) hx hb dL_sets_138 (by decide) ?_
        refine lv_iload hx hb dL_sets_140 (lv_at hl 3 rfl) ?_
        refine lv_iadd hx hb dL_sets_142 ?_
        refine k_top (y := nI (24 + (lowN z 12))) (nI_add _ _) ?_
        refine lv_iload hx hb dL_sets_143 (lv_at hl 1 rfl) ?_
        refine k_if_eq (P := True) (tgt := 153) hx hb dL_sets_145 (by decide) ⟨fun _ => trivial, fun _ => rfl⟩ (fun c_4 => ?_) (fun c_4 => ?_)
        · skip
          refine lv_bipush (v := nI 100) hx hb dL_sets_153 (by decide) ?_
          refine lv_iload hx hb dL_sets_155 (lv_at hl 0 rfl) ?_
          refine lv_iadd hx hb dL_sets_157 ?_
          refine k_top (y := nI (100 + (lowN (z >>> ((nI 6) &&& 31)) 61))) (nI_add _ _) ?_
          refine k_iast (wL q a ((up S 1 (24 + (lowN z 12)) (nI (100 + (lowN (z >>> ((nI 6) &&& 31)) 61))))) ((wC q cb cM cap nl))) hx hb hK hP hS 1 rfl (24 + (lowN z 12)) rfl (by omega) (by decide) wL_s1 dL_sets_158 (fun H locs hP hS => ?_)
          refine lv_aload_n hx hb dL_sets_159 rfl (lv_at hl 4 rfl) ?_
          refine lv_iload hx hb dL_sets_160 (lv_at hl 3 rfl) ?_
          refine lv_iload hx hb dL_sets_162 (lv_at hl 1 rfl) ?_
          refine lv_iload hx hb dL_sets_164 (lv_at hl 0 rfl) ?_
          refine k_goLi (H0 := u.heap) hP hA hS (vx_runV (rest := []) ⟨hx, hb, hml, hown, hts⟩ (c_X4_setLamp l hl0 D q (va_A (wC q cb cM cap nl) H.size) cb cM cap nl (nI (lowN z 12)) (nI 0) (nI (lowN (z >>> (nI 6 &&& 31)) 61))) (cwV 3 hts gL_sets_X4_setLamp rfl rfl rfl (by decide +kernel) ⟨Nat.le_of_ble_eq_true rfl, Nat.le_of_ble_eq_true rfl⟩) ⟨kBX_blind, (va_recv hK.1 hP.1 (ci := 5) (q0 := 10) rfl rfl), fun U hU hW => ⟨rfl, by rw [hU]; exact kW_cut hP, hK.warm hW, (hX.at hS hU hW).narrow (kW_sub hP (fun z9 h9 => hA z9 (Nat.le_trans hS.1 h9)))⟩⟩ rfl rfl hl.1 rfl (lv_room (Nat.le_of_ble_eq_true rfl)) dL_sets_166 ⟨by show 0 + 2 ≤ 2; omega, by show 0 + 12 ≤ 12; omega⟩) (fun E ce q9 H locs hE hP hS h1 h2 h3 => absurd hE (by rw [hco]; exact exC_no (by decide))) (fun r5 H locs hr5 hP hS => ?_)
          have hr5 := hr5.2
          rw [hco] at hP hr5
          have hP : kW D A (wL q a ((up S 1 (24 + (lowN z 12)) (nI (100 + (lowN (z >>> ((nI 6) &&& 31)) 61))))) ((wC q cb cN cap nl))) H := hP
          refine k_top (y := v0) hr5 ?_
          refine lv_iload hx hb dL_sets_169 (lv_at hl 2 rfl) ?_
          refine k_icmp_ne (P := True) (tgt := 178) hx hb dL_sets_171 (by decide) ⟨fun _ => trivial, fun _ => rfl⟩ (fun c_6 => ?_) (fun c_6 => ?_)
          · skip
            exact (c_6 trivial).elim
          · skip
            refine lv_iconst (v := nI 1) hx hb dL_sets_174 (by decide) ?_
            refine lv_goto (tgt := 179) hx hb dL_sets_175 (by decide) ?_
            refine W.widen (k := 2) (n := 12) (by first | exact Nat.le_of_ble_eq_true rfl | omega) (by first | exact Nat.le_of_ble_eq_true rfl | omega) ?_
            have eM : wL q a ((up S 1 (24 + (lowN z 12)) (nI (100 + (lowN (z >>> ((nI 6) &&& 31)) 61))))) ((wC q cb cN cap nl)) = wL q a ((up S 1 (24 + (lowN z 12)) (nI (100 + (lowN (z >>> (nI 6 &&& 31)) 61))))) ((wC q cb cN cap nl)) := by first | (simp only [if_pos c_3]; done) | (simp only [if_pos c_3]; rfl) | (simp [if_pos c_3]; done) | rfl
            rw [eM] at hP
            exact k_zretW hx hb hr hlocks rfl hP hS (by rfl) dL_sets_179
        · skip
          exact (c_4 trivial).elim
      · skip
        exact absurd hwk c_3
  · skip
    exact c_1.elim
set_option maxHeartbeats 4000000 in
set_option maxRecDepth 100000 in
theorem c_L_sets_s (l : Launch) (hl0 : l.stackTraces = false) (D : va_G) (q : Nat → ClassId) (A : Nat → Prop) (a : Nat → Nat) (S : Nat → Nat → Int32) (cb : Nat → Nat) (cM : Nat → Nat → Int32) (cap nl : Nat) (z v0 : Int32) (cN : Nat → Nat → Int32) (h0 : S 9 (lowN z 6) = v0) (hco : coSetSkill cM (nI (lowN z 6)) (nI (lowN (z >>> (nI 4 &&& 31)) 51)) = (nI 0, v0, cN)) : Met l yL_sets wsL_sets ({ frames := 8, cells := 2, slots := 12, locals := 245 } : Room) (va_Pc [.ref (cb 0), .int (nI 2), .int (z), .ref (a 1), .ref (a 9)] (kBL D q A (fun H => kW D A (wL q a S ((wC q cb cM cap nl))) H))) (kRi D A (nI 1) (wL q a ((up S 9 (lowN z 6) (nI (lowN (z >>> (nI 4 &&& 31)) 51)))) ((wC q cb cN cap nl)))) 2 12 A := by
  refine Met.ofW (cc := cL_sets) (maxL := 9) (ret := (some .boolean)) (by decide) rfl ?_
  intro p e u m args below meth c s₁ B hml0 hv
  obtain ⟨rfl, ⟨hP, hK, hX⟩, hA⟩ := hv
  have C0 : kAt p u m #[.ref (cb 0), .int (nI 2), .int (z), .ref (a 1), .ref (a 9)] meth c cL_sets 9 (some .boolean) RL wsL_sets := kAt_of B hml0
  obtain ⟨hx, hb, hr, hml, hown, hts, hlocks⟩ := id C0
  have hS : va_S A u.heap u.heap [] := va_S.rf
  have hl := lv_entry ([.ref (cb 0), .int (nI 2), .int (z), .ref (a 1), .ref (a 9)]) (n := 9) (Nat.le_of_ble_eq_true rfl)
  rw [lg_entry_eq]
  generalize (lg_sl ([.ref (cb 0), .int (nI 2), .int (z), .ref (a 1), .ref (a 9)]) ++ List.replicate (9 - (lg_sl ([.ref (cb 0), .int (nI 2), .int (z), .ref (a 1), .ref (a 9)])).length) Slot.unset).toArray = ls at hl ⊢
  have hl : lv_has ls 9 [(0, .ref (cb 0)), (1, .int (nI 2)), (2, .int (z)), (3, .ref (a 1)), (4, .ref (a 9))] := hl
  refine lv_iload_n hx hb dL_sets_0 rfl (lv_at hl 2 rfl) ?_
  refine lv_bipush (v := nI 12) hx hb dL_sets_1 (by decide) ?_
  refine k_callS (rest := []) (r := nI (lowN z 12)) ⟨hx, hb, hml, hown, hts⟩ (c_L_low l D q z 12 (by omega) (by omega)) (va_cwS 2 hts gL_sets_L_low rfl rfl rfl (by decide +kernel) ⟨Nat.le_of_ble_eq_true rfl, Nat.le_of_ble_eq_true rfl⟩) hK trivial rfl hl.1 rfl (Nat.le_of_ble_eq_true rfl) dL_sets_3 ⟨by show 0 ≤ 2; omega, by show 0 ≤ 12; omega⟩ (fun _ h => h) ?_
  have hlo : lowN z 12 < 12 := lowN_lt (by first | decide | omega | exact zif_p (by decide) (by decide))
  refine lv_istore (lv' := [(5, .int (nI (lowN z 12))), (0, .ref (cb 0)), (1, .int (nI 2)), (2, .int (z)), (3, .ref (a 1)), (4, .ref (a 9))]) hx hb dL_sets_6 hl (by decide) rfl (fun ls hl => ?_)
  refine lv_iload_n hx hb dL_sets_8 rfl (lv_at hl 2 rfl) ?_
  refine k_if_ne (P := False) (tgt := 92) hx hb dL_sets_9 (by decide) ⟨fun z => absurd z (by decide), False.elim⟩ (fun c_1 => ?_) (fun c_1 => ?_)
  · skip
    refine lv_iload_n hx hb dL_sets_92 rfl (lv_at hl 2 rfl) ?_
    refine lv_iconst (v := nI 1) hx hb dL_sets_93 (by decide) ?_
    refine k_icmp_ne (P := False) (tgt := 180) hx hb dL_sets_94 (by decide) ⟨fun z => absurd z (by decide), False.elim⟩ (fun c_2 => ?_) (fun c_2 => ?_)
    · skip
      refine lv_iload_n hx hb dL_sets_180 rfl (lv_at hl 3 rfl) ?_
      refine lv_bipush (v := nI 6) hx hb dL_sets_181 (by decide) ?_
      refine k_callS (rest := []) (r := nI (lowN z 6)) ⟨hx, hb, hml, hown, hts⟩ (c_L_low l D q z 6 (by omega) (by omega)) (va_cwS 2 hts gL_sets_L_low rfl rfl rfl (by decide +kernel) ⟨Nat.le_of_ble_eq_true rfl, Nat.le_of_ble_eq_true rfl⟩) hK trivial rfl hl.1 rfl (Nat.le_of_ble_eq_true rfl) dL_sets_183 ⟨by show 0 ≤ 2; omega, by show 0 ≤ 12; omega⟩ (fun _ h => h) ?_
      have hlo : lowN z 6 < 6 := lowN_lt (by first | decide | omega | exact zif_p (by decide) (by decide))
      refine lv_istore (lv' := [(6, .int (nI (lowN z 6))), (5, .int (nI (lowN z 12))), (0, .ref (cb 0)), (1, .int (nI 2)), (2, .int (z)), (3, .ref (a 1)), (4, .ref (a 9))]) hx hb dL_sets_186 hl (by decide) rfl (fun ls hl => ?_)
      refine lv_aload hx hb dL_sets_188 (lv_at hl 6 rfl) ?_
      refine lv_iload hx hb dL_sets_190 (lv_at hl 0 rfl) ?_
      refine k_iald hx hb hK hP.1 9 rfl (lowN z 6) rfl (by omega) (by decide) dL_sets_192 ?_
      refine k_top (y := v0) h0 ?_
      refine lv_istore (lv' := [(7, .int (v0)), (6, .int (nI (lowN z 6))), (5, .int (nI (lowN z 12))), (0, .ref (cb 0)), (1, .int (nI 2)), (2, .int (z)), (3, .ref (a 1)), (4, .ref (a 9))]) hx hb dL_sets_193 hl (by decide) rfl (fun ls hl => ?_)
      refine lv_aload hx hb dL_sets_195 (lv_at hl 7 rfl) ?_
      refine lv_iload hx hb dL_sets_197 (lv_at hl 1 rfl) ?_
      refine lv_iload_n hx hb dL_sets_199 rfl (lv_at hl 5 rfl) ?_
      refine lv_iconst (v := nI 4) hx hb dL_sets_200 (by decide) ?_
      refine lv_ishr hx hb dL_sets_201 ?_
      refine lv_bipush (v := nI 51) hx hb dL_sets_202 (by decide) ?_
      refine k_callS (rest := [.int (nI (lowN z 6)), .ref (a 9)]) (r := nI (lowN (z >>> ((nI 4) &&& 31)) 51)) ⟨hx, hb, hml, hown, hts⟩ (c_L_low l D q (z >>> ((nI 4) &&& 31)) 51 (by omega) (by omega)) (va_cwS 2 hts gL_sets_L_low rfl rfl rfl (by decide +kernel) ⟨Nat.le_of_ble_eq_true rfl, Nat.le_of_ble_eq_true rfl⟩) hK trivial rfl hl.1 rfl (Nat.le_of_ble_eq_true rfl) dL_sets_204 ⟨by show 0 ≤ 2; omega, by show 0 ≤ 12; omega⟩ (fun _ h => h) ?_
      have hlo : lowN (z >>> ((nI 4) &&& 31)) 51 < 51 := lowN_lt (by first | decide | omega | exact zif_p (by decide) (by decide))
      refine k_iast (wL q a ((up S 9 (lowN z 6) (nI (lowN (z >>> ((nI 4) &&& 31)) 51)))) ((wC q cb cM cap nl))) hx hb hK hP hS 9 rfl (lowN z 6) rfl (by omega) (by decide) wL_s9 dL_sets_207 (fun H locs hP hS => ?_)
      refine lv_aload_n hx hb dL_sets_208 rfl (lv_at hl 3 rfl) ?_
      refine lv_iload hx hb dL_sets_209 (lv_at hl 1 rfl) ?_
      refine lv_aload hx hb dL_sets_211 (lv_at hl 7 rfl) ?_
      refine lv_iload hx hb dL_sets_213 (lv_at hl 1 rfl) ?_
      refine k_iald hx hb hK hP.1 9 rfl (lowN z 6) rfl (by omega) (by decide) dL_sets_215 ?_
      refine k_top (y := nI (lowN (z >>> ((nI 4) &&& 31)) 51)) (up_si _ _ _ _) ?_
      refine k_goLi (H0 := u.heap) hP hA hS (vx_runV (rest := []) ⟨hx, hb, hml, hown, hts⟩ (c_X4_setSkill l hl0 D q (va_A (wC q cb cM cap nl) H.size) cb cM cap nl (nI (lowN z 6)) (nI (lowN (z >>> (nI 4 &&& 31)) 51))) (cwV 2 hts gL_sets_X4_setSkill rfl rfl rfl (by decide +kernel) ⟨Nat.le_of_ble_eq_true rfl, Nat.le_of_ble_eq_true rfl⟩) ⟨kBX_blind, (va_recv hK.1 hP.1 (ci := 5) (q0 := 10) rfl rfl), fun U hU hW => ⟨rfl, by rw [hU]; exact kW_cut hP, hK.warm hW, (hX.at hS hU hW).narrow (kW_sub hP (fun z9 h9 => hA z9 (Nat.le_trans hS.1 h9)))⟩⟩ rfl rfl hl.1 rfl (lv_room (Nat.le_of_ble_eq_true rfl)) dL_sets_216 ⟨by show 0 + 2 ≤ 2; omega, by show 0 + 12 ≤ 12; omega⟩) (fun E ce q9 H locs hE hP hS h1 h2 h3 => absurd hE (by rw [hco]; exact exC_no (by decide))) (fun r3 H locs hr3 hP hS => ?_)
      have hr3 := hr3.2
      rw [hco] at hP hr3
      have hP : kW D A (wL q a ((up S 9 (lowN z 6) (nI (lowN (z >>> ((nI 4) &&& 31)) 51)))) ((wC q cb cN cap nl))) H := hP
      refine k_top (y := v0) hr3 ?_
      refine lv_iload hx hb dL_sets_219 (lv_at hl 0 rfl) ?_
      refine k_icmp_ne (P := True) (tgt := 228) hx hb dL_sets_221 (by decide) ⟨fun _ => trivial, fun _ => rfl⟩ (fun c_4 => ?_) (fun c_4 => ?_)
      · skip
        exact (c_4 trivial).elim
      · skip
        refine lv_iconst (v := nI 1) hx hb dL_sets_224 (by decide) ?_
        refine lv_goto (tgt := 229) hx hb dL_sets_225 (by decide) ?_
        refine W.widen (k := 2) (n := 12) (by first | exact Nat.le_of_ble_eq_true rfl | omega) (by first | exact Nat.le_of_ble_eq_true rfl | omega) ?_
        have eM : wL q a ((up S 9 (lowN z 6) (nI (lowN (z >>> ((nI 4) &&& 31)) 51)))) ((wC q cb cN cap nl)) = wL q a ((up S 9 (lowN z 6) (nI (lowN (z >>> (nI 4 &&& 31)) 51)))) ((wC q cb cN cap nl)) := by rfl
        rw [eM] at hP
        exact k_zretW hx hb hr hlocks rfl hP hS (by rfl) dL_sets_229
    · skip
      exact c_2.elim
  · skip
    exact c_1.elim
