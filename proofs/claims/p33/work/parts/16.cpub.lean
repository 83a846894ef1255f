theorem fl_X4_setPeople_12 : Cond.fieldLink RX4 12 "LampCounts" "street" "LLampCounts$Street;" ∈ wsX4_setPeople := by decide +kernel
theorem fl_X4_setPeople_53 : Cond.fieldLink RX4 53 "LampCounts$Street" "comeIn" "[I" ∈ wsX4_setPeople := by decide +kernel
theorem fl_X4_setPeople_56 : Cond.fieldLink RX4 56 "LampCounts$Street" "leave" "[I" ∈ wsX4_setPeople := by decide +kernel
theorem in_X4_setPeople_X3 : ∀ w ∈ u_ws RX3 TX3 5, w ∈ wsX4_setPeople := by decide +kernel
theorem in_X4_setPeople_X4 : ∀ w ∈ u_ws RX4 TX4 6, w ∈ wsX4_setPeople := by decide +kernel
set_option maxHeartbeats 4000000 in
set_option maxRecDepth 100000 in
theorem c_X4_setPeople (l : Launch) (hl0 : l.stackTraces = false) (D : va_G) (q : Nat → ClassId) (A : Nat → Prop) (a : Nat → Nat) (S : Nat → Nat → Int32) (cap nl : Nat) (s p0 sh : Int32)  : vx_Met l yX4_setPeople wsX4_setPeople ({ frames := 7, cells := 3, slots := 18, locals := 222 } : Room) (va_Pc [.ref (a 0), .int (s), .int (p0), .int (sh)] (kBX D q A (fun H => kW D A (wC q a S cap nl) H))) (kXi D A (fun r => (coSetPeople S s p0 sh).1 = nI 0 ∧ r = (coSetPeople S s p0 sh).2.1) (wC q a ((coSetPeople S s p0 sh).2.2) cap nl)) (kXC D A (wC q a S cap nl) (fun E => exC [eI, eA] E (coSetPeople S s p0 sh).1)) 3 18 A := by
  refine vx_ofW (cc := cX4_setPeople) (maxL := 5) (ret := (some .int)) (by decide) rfl ?_
  intro p e u m args below meth c s₁ B hml0 hout hv
  obtain ⟨rfl, hP, hK, hX⟩ := hv
  have C0 : kAt p u m #[.ref (a 0), .int (s), .int (p0), .int (sh)] meth c cX4_setPeople 5 (some .int) RX4 wsX4_setPeople := kAt_of B hml0
  obtain ⟨hx, hb, hr, hml, hown, hts, hlocks⟩ := id C0
  have hS : va_S A u.heap u.heap [] := va_S.rf
  have hl := lv_entry ([.ref (a 0), .int (s), .int (p0), .int (sh)]) (n := 5) (Nat.le_of_ble_eq_true rfl)
  rw [lg_entry_eq]
  generalize (lg_sl ([.ref (a 0), .int (s), .int (p0), .int (sh)]) ++ List.replicate (5 - (lg_sl ([.ref (a 0), .int (s), .int (p0), .int (sh)])).length) Slot.unset).toArray = ls at hl ⊢
  have hl : lv_has ls 5 [(0, .ref (a 0)), (1, .int (s)), (2, .int (p0)), (3, .int (sh))] := hl
  refine lv_iload_n hx hb dX4_setPeople_0 rfl (lv_at hl 1 rfl) ?_
  refine lv_bipush (v := nI 12) hx hb dX4_setPeople_1 (by decide) ?_
  refine k_goXv hS (vx_runS (rest := []) ⟨hx, hb, hml, hown, hts⟩ (c_X4_requireIndex l hl0 D q A (wC q a S cap nl) s (nI 12)) (va_cwS 2 hts gX4_setPeople_X4_requireIndex rfl rfl rfl (by decide +kernel) ⟨Nat.le_of_ble_eq_true rfl, Nat.le_of_ble_eq_true rfl⟩) ⟨kBX_blind, fun U hU hW => ⟨rfl, by rw [hU]; exact hP, hK.warm hW, hX.at hS hU hW⟩⟩ rfl rfl hl.1 rfl (lv_room (Nat.le_of_ble_eq_true rfl)) dX4_setPeople_3 ⟨Nat.le_of_ble_eq_true rfl, Nat.le_of_ble_eq_true rfl⟩) (fun E ce q9 H locs hE hP hS h1 h2 h3 => k_outX hout hlocks h1 h2 h3 (⟨0, by rw [hE.1]; rfl, by unfold coSetPeople; rw [if_neg hE.2]; try rfl⟩) hP hS (Nat.le_of_ble_eq_true rfl) (Nat.le_of_ble_eq_true rfl)) (fun H locs c_1 hP hS => ?_)
  obtain ⟨e_s, b_s⟩ := ixP_nat c_1 (by omega)
  rw [e_s] at hl
  refine lv_iload_n hx hb dX4_setPeople_6 rfl (lv_at hl 2 rfl) ?_
  refine lv_iconst (v := nI 0) hx hb dX4_setPeople_7 (by decide) ?_
  refine lv_sipush (v := nI 1000) hx hb dX4_setPeople_8 (by decide) ?_
  refine k_goXv hS (vx_runS (rest := []) ⟨hx, hb, hml, hown, hts⟩ (c_X4_requireWithin l hl0 D q A (wC q a S cap nl) p0 (nI 0) (nI 1000)) (va_cwS 3 hts gX4_setPeople_X4_requireWithin rfl rfl rfl (by decide +kernel) ⟨Nat.le_of_ble_eq_true rfl, Nat.le_of_ble_eq_true rfl⟩) ⟨kBX_blind, fun U hU hW => ⟨rfl, by rw [hU]; exact hP, hK.warm hW, hX.at hS hU hW⟩⟩ rfl rfl hl.1 rfl (lv_room (Nat.le_of_ble_eq_true rfl)) dX4_setPeople_11 ⟨Nat.le_of_ble_eq_true rfl, Nat.le_of_ble_eq_true rfl⟩) (fun E ce q9 H locs hE hP hS h1 h2 h3 => k_outX hout hlocks h1 h2 h3 (⟨1, by rw [hE.1]; rfl, by unfold coSetPeople; rw [if_pos c_1, if_neg hE.2]; try rfl⟩) hP hS (Nat.le_of_ble_eq_true rfl) (Nat.le_of_ble_eq_true rfl)) (fun H locs c_2 hP hS => ?_)
  refine lv_iload_n hx hb dX4_setPeople_14 rfl (lv_at hl 3 rfl) ?_
  refine lv_iconst (v := nI 0) hx hb dX4_setPeople_15 (by decide) ?_
  refine lv_bipush (v := nI 100) hx hb dX4_setPeople_16 (by decide) ?_
  refine k_goXv hS (vx_runS (rest := []) ⟨hx, hb, hml, hown, hts⟩ (c_X4_requireWithin l hl0 D q A (wC q a S cap nl) sh (nI 0) (nI 100)) (va_cwS 3 hts gX4_setPeople_X4_requireWithin rfl rfl rfl (by decide +kernel) ⟨Nat.le_of_ble_eq_true rfl, Nat.le_of_ble_eq_true rfl⟩) ⟨kBX_blind, fun U hU hW => ⟨rfl, by rw [hU]; exact hP, hK.warm hW, hX.at hS hU hW⟩⟩ rfl rfl hl.1 rfl (lv_room (Nat.le_of_ble_eq_true rfl)) dX4_setPeople_18 ⟨Nat.le_of_ble_eq_true rfl, Nat.le_of_ble_eq_true rfl⟩) (fun E ce q9 H locs hE hP hS h1 h2 h3 => k_outX hout hlocks h1 h2 h3 (⟨1, by rw [hE.1]; rfl, by unfold coSetPeople; rw [if_pos c_1, if_pos c_2, if_neg hE.2]; try rfl⟩) hP hS (Nat.le_of_ble_eq_true rfl) (Nat.le_of_ble_eq_true rfl)) (fun H locs c_3 hP hS => ?_)
  refine lv_aload_n hx hb dX4_setPeople_21 rfl (lv_at hl 0 rfl) ?_
  refine va_get (D := D) (ci := 5) (v := .ref (a 1)) (C := RX4) (T := TX4) (N := 6) hx hb hts in_X4_setPeople_X4 hown hK.1 hP.1 0 rfl rfl 0 (by decide) (hts _ fl_X4_setPeople_12) (fun _ h9 => h9) rfl dX4_setPeople_22 ?_
  refine va_get (D := D) (ci := 4) (v := .ref (a 6)) (C := RX3) (T := TX3) (N := 5) hx hb hts in_X4_setPeople_X3 hown hK.1 hP.1 1 rfl rfl 0 (by decide) (hts _ fl_X4_setPeople_53) (fun _ h9 => h9) rfl dX4_setPeople_25 ?_
  refine lv_iload_n hx hb dX4_setPeople_28 rfl (lv_at hl 1 rfl) ?_
  refine k_iald hx hb hK hP.1 6 rfl s.toNatClampNeg rfl (by omega) (by decide) dX4_setPeople_29 ?_
  refine lv_istore (lv' := [(4, .int (S 6 s.toNatClampNeg)), (0, .ref (a 0)), (1, .int (nI s.toNatClampNeg)), (2, .int (p0)), (3, .int (sh))]) hx hb dX4_setPeople_30 hl (by decide) rfl (fun ls hl => ?_)
  refine lv_aload_n hx hb dX4_setPeople_32 rfl (lv_at hl 1 rfl) ?_
  refine va_get (D := D) (ci := 5) (v := .ref (a 1)) (C := RX4) (T := TX4) (N := 6) hx hb hts in_X4_setPeople_X4 hown hK.1 hP.1 0 rfl rfl 0 (by decide) (hts _ fl_X4_setPeople_12) (fun _ h9 => h9) rfl dX4_setPeople_33 ?_
  refine va_get (D := D) (ci := 4) (v := .ref (a 6)) (C := RX3) (T := TX3) (N := 5) hx hb hts in_X4_setPeople_X3 hown hK.1 hP.1 1 rfl rfl 0 (by decide) (hts _ fl_X4_setPeople_53) (fun _ h9 => h9) rfl dX4_setPeople_36 ?_
  refine lv_iload_n hx hb dX4_setPeople_39 rfl (lv_at hl 2 rfl) ?_
  refine lv_iload_n hx hb dX4_setPeople_40 rfl (lv_at hl 3 rfl) ?_
  refine k_iast (wC q a ((up S 6 s.toNatClampNeg p0)) cap nl) hx hb hK hP hS 6 rfl s.toNatClampNeg rfl (by omega) (by decide) wC_s6 dX4_setPeople_41 (fun H locs hP hS => ?_)
  refine lv_aload_n hx hb dX4_setPeople_42 rfl (lv_at hl 1 rfl) ?_
  refine va_get (D := D) (ci := 5) (v := .ref (a 1)) (C := RX4) (T := TX4) (N := 6) hx hb hts in_X4_setPeople_X4 hown hK.1 hP.1 0 rfl rfl 0 (by decide) (hts _ fl_X4_setPeople_12) (fun _ h9 => h9) rfl dX4_setPeople_43 ?_
  refine va_get (D := D) (ci := 4) (v := .ref (a 7)) (C := RX3) (T := TX3) (N := 5) hx hb hts in_X4_setPeople_X3 hown hK.1 hP.1 1 rfl rfl 1 (by decide) (hts _ fl_X4_setPeople_56) (fun _ h9 => h9) rfl dX4_setPeople_46 ?_
  refine lv_iload_n hx hb dX4_setPeople_49 rfl (lv_at hl 2 rfl) ?_
  refine lv_iload_n hx hb dX4_setPeople_50 rfl (lv_at hl 4 rfl) ?_
  refine k_iast (wC q a ((up (up S 6 s.toNatClampNeg p0) 7 s.toNatClampNeg sh)) cap nl) hx hb hK hP hS 7 rfl s.toNatClampNeg rfl (by omega) (by decide) wC_s7 dX4_setPeople_51 (fun H locs hP hS => ?_)
  refine lv_iload hx hb dX4_setPeople_52 (lv_at hl 0 rfl) ?_
  have eM : (up (up S 6 s.toNatClampNeg p0) 7 s.toNatClampNeg sh) = (coSetPeople S s p0 sh).2.2 := by unfold coSetPeople; rw [if_pos c_1, if_pos c_2, if_pos c_3]; try rfl
  rw [eM] at hP
  exact k_iretX hx hb hr hlocks hP hS ⟨by unfold coSetPeople; rw [if_pos c_1, if_pos c_2, if_pos c_3]; try rfl, by unfold coSetPeople; rw [if_pos c_1, if_pos c_2, if_pos c_3]; try rfl⟩ (Nat.le_of_ble_eq_true rfl) (Nat.le_of_ble_eq_true rfl) dX4_setPeople_54
theorem fl_X4_setLamp_19 : Cond.fieldLink RX4 19 "LampCounts" "lamps" "LLampCounts$Lamps;" ∈ wsX4_setLamp := by decide +kernel
theorem fl_X4_setLamp_67 : Cond.fieldLink RX4 67 "LampCounts$Lamps" "blindSpots" "[I" ∈ wsX4_setLamp := by decide +kernel
theorem fl_X4_setLamp_70 : Cond.fieldLink RX4 70 "LampCounts$Lamps" "broken" "[Z" ∈ wsX4_setLamp := by decide +kernel
theorem in_X4_setLamp_X1 : ∀ w ∈ u_ws RX1 TX1 8, w ∈ wsX4_setLamp := by decide +kernel
theorem in_X4_setLamp_X4 : ∀ w ∈ u_ws RX4 TX4 6, w ∈ wsX4_setLamp := by decide +kernel
set_option maxHeartbeats 4000000 in
set_option maxRecDepth 100000 in
theorem c_X4_setLamp (l : Launch) (hl0 : l.stackTraces = false) (D : va_G) (q : Nat → ClassId) (A : Nat → Prop) (a : Nat → Nat) (S : Nat → Nat → Int32) (cap nl : Nat) (s wk b : Int32)  : vx_Met l yX4_setLamp wsX4_setLamp ({ frames := 7, cells := 2, slots := 12, locals := 222 } : Room) (va_Pc [.ref (a 0), .int (s), .int (wk), .int (b)] (kBX D q A (fun H => kW D A (wC q a S cap nl) H))) (kXi D A (fun r => (coSetLamp S s wk b).1 = nI 0 ∧ r = (coSetLamp S s wk b).2.1) (wC q a ((coSetLamp S s wk b).2.2) cap nl)) (kXC D A (wC q a S cap nl) (fun E => exC [eI, eA] E (coSetLamp S s wk b).1)) 2 12 A := by
  refine vx_ofW (cc := cX4_setLamp) (maxL := 5) (ret := (some .int)) (by decide) rfl ?_
  intro p e u m args below meth c s₁ B hml0 hout hv
  obtain ⟨rfl, hP, hK, hX⟩ := hv
  have C0 : kAt p u m #[.ref (a 0), .int (s), .int (wk), .int (b)] meth c cX4_setLamp 5 (some .int) RX4 wsX4_setLamp := kAt_of B hml0
  obtain ⟨hx, hb, hr, hml, hown, hts, hlocks⟩ := id C0
  have hS : va_S A u.heap u.heap [] := va_S.rf
  have hl := lv_entry ([.ref (a 0), .int (s), .int (wk), .int (b)]) (n := 5) (Nat.le_of_ble_eq_true rfl)
  rw [lg_entry_eq]
  generalize (lg_sl ([.ref (a 0), .int (s), .int (wk), .int (b)]) ++ List.replicate (5 - (lg_sl ([.ref (a 0), .int (s), .int (wk), .int (b)])).length) Slot.unset).toArray = ls at hl ⊢
  have hl : lv_has ls 5 [(0, .ref (a 0)), (1, .int (s)), (2, .int (wk)), (3, .int (b))] := hl
  refine lv_iload_n hx hb dX4_setLamp_0 rfl (lv_at hl 1 rfl) ?_
  refine lv_bipush (v := nI 12) hx hb dX4_setLamp_1 (by decide) ?_
  refine k_goXv hS (vx_runS (rest := []) ⟨hx, hb, hml, hown, hts⟩ (c_X4_requireIndex l hl0 D q A (wC q a S cap nl) s (nI 12)) (va_cwS 2 hts gX4_setLamp_X4_requireIndex rfl rfl rfl (by decide +kernel) ⟨Nat.le_of_ble_eq_true rfl, Nat.le_of_ble_eq_true rfl⟩) ⟨kBX_blind, fun U hU hW => ⟨rfl, by rw [hU]; exact hP, hK.warm hW, hX.at hS hU hW⟩⟩ rfl rfl hl.1 rfl (lv_room (Nat.le_of_ble_eq_true rfl)) dX4_setLamp_3 ⟨Nat.le_of_ble_eq_true rfl, Nat.le_of_ble_eq_true rfl⟩) (fun E ce q9 H locs hE hP hS h1 h2 h3 => k_outX hout hlocks h1 h2 h3 (⟨0, by rw [hE.1]; rfl, by unfold coSetLamp; rw [if_neg hE.2]; try rfl⟩) hP hS (Nat.le_of_ble_eq_true rfl) (Nat.le_of_ble_eq_true rfl)) (fun H locs c_1 hP hS => ?_)
  obtain ⟨e_s, b_s⟩ := ixP_nat c_1 (by omega)
  rw [e_s] at hl
  refine lv_iload_n hx hb dX4_setLamp_6 rfl (lv_at hl 3 rfl) ?_
  refine lv_iconst (v := nI 0) hx hb dX4_setLamp_7 (by decide) ?_
  refine lv_bipush (v := nI 60) hx hb dX4_setLamp_8 (by decide) ?_
  refine k_goXv hS (vx_runS (rest := []) ⟨hx, hb, hml, hown, hts⟩ (c_X4_requireWithin l hl0 D q A (wC q a S cap nl) b (nI 0) (nI 60)) (va_cwS 3 hts gX4_setLamp_X4_requireWithin rfl rfl rfl (by decide +kernel) ⟨Nat.le_of_ble_eq_true rfl, Nat.le_of_ble_eq_true rfl⟩) ⟨kBX_blind, fun U hU hW => ⟨rfl, by rw [hU]; exact hP, hK.warm hW, hX.at hS hU hW⟩⟩ rfl rfl hl.1 rfl (lv_room (Nat.le_of_ble_eq_true rfl)) dX4_setLamp_10 ⟨Nat.le_of_ble_eq_true rfl, Nat.le_of_ble_eq_true rfl⟩) (fun E ce q9 H locs hE hP hS h1 h2 h3 => k_outX hout hlocks h1 h2 h3 (⟨1, by rw [hE.1]; rfl, by unfold coSetLamp; rw [if_pos c_1, if_neg hE.2]; try rfl⟩) hP hS (Nat.le_of_ble_eq_true rfl) (Nat.le_of_ble_eq_true rfl)) (fun H locs c_2 hP hS => ?_)
  refine lv_aload_n hx hb dX4_setLamp_13 rfl (lv_at hl 0 rfl) ?_
  refine va_get (D := D) (ci := 5) (v := .ref (a 2)) (C := RX4) (T := TX4) (N := 6) hx hb hts in_X4_setLamp_X4 hown hK.1 hP.1 0 rfl rfl 1 (by decide) (hts _ fl_X4_setLamp_19) (fun _ h9 => h9) rfl dX4_setLamp_14 ?_
  refine va_get (D := D) (ci := 2) (v := .ref (a 12)) (C := RX1) (T := TX1) (N := 8) hx hb hts in_X4_setLamp_X1 hown hK.1 hP.1 2 rfl rfl 1 (by decide) (hts _ fl_X4_setLamp_67) (fun _ h9 => h9) rfl dX4_setLamp_17 ?_
  refine lv_iload_n hx hb dX4_setLamp_20 rfl (lv_at hl 1 rfl) ?_
  refine k_iald hx hb hK hP.1 12 rfl s.toNatClampNeg rfl (by omega) (by decide) dX4_setLamp_21 ?_
  refine lv_istore (lv' := [(4, .int (S 12 s.toNatClampNeg)), (0, .ref (a 0)), (1, .int (nI s.toNatClampNeg)), (2, .int (wk)), (3, .int (b))]) hx hb dX4_setLamp_22 hl (by decide) rfl (fun ls hl => ?_)
  refine lv_aload_n hx hb dX4_setLamp_24 rfl (lv_at hl 1 rfl) ?_
  refine va_get (D := D) (ci := 5) (v := .ref (a 2)) (C := RX4) (T := TX4) (N := 6) hx hb hts in_X4_setLamp_X4 hown hK.1 hP.1 0 rfl rfl 1 (by decide) (hts _ fl_X4_setLamp_19) (fun _ h9 => h9) rfl dX4_setLamp_25 ?_
  refine va_get (D := D) (ci := 2) (v := .ref (a 11)) (C := RX1) (T := TX1) (N := 8) hx hb hts in_X4_setLamp_X1 hown hK.1 hP.1 2 rfl rfl 0 (by decide) (hts _ fl_X4_setLamp_70) (fun _ h9 => h9) rfl dX4_setLamp_28 ?_
  refine lv_iload_n hx hb dX4_setLamp_31 rfl (lv_at hl 2 rfl) ?_
  refine lv_iload_n hx hb dX4_setLamp_32 rfl (lv_at hl 3 rfl) ?_
  refine k_if_ne (P := wk = 0) (tgt := 40) hx hb dX4_setLamp_33 (by decide) Iff.rfl (fun c_3 => ?_) (fun c_3 => ?_)
  · skip
    refine lv_iconst (v := nI 0) hx hb dX4_setLamp_40 (by decide) ?_
    refine k_zast (wC q a ((up S 11 s.toNatClampNeg (nI 0))) cap nl) hx hb hK hP hS 11 rfl s.toNatClampNeg rfl (by omega) (by decide) rfl wC_s11 dX4_setLamp_41 (fun H locs hP hS => ?_)
    refine lv_aload_n hx hb dX4_setLamp_42 rfl (lv_at hl 1 rfl) ?_
    refine va_get (D := D) (ci := 5) (v := .ref (a 2)) (C := RX4) (T := TX4) (N := 6) hx hb hts in_X4_setLamp_X4 hown hK.1 hP.1 0 rfl rfl 1 (by decide) (hts _ fl_X4_setLamp_19) (fun _ h9 => h9) rfl dX4_setLamp_43 ?_
    refine va_get (D := D) (ci := 2) (v := .ref (a 12)) (C := RX1) (T := TX1) (N := 8) hx hb hts in_X4_setLamp_X1 hown hK.1 hP.1 2 rfl rfl 1 (by decide) (hts _ fl_X4_setLamp_67) (fun _ h9 => h9) rfl dX4_setLamp_46 ?_
    refine lv_iload_n hx hb dX4_setLamp_49 rfl (lv_at hl 2 rfl) ?_
    refine lv_iload_n hx hb dX4_setLamp_50 rfl (lv_at hl 4 rfl) ?_
    refine k_iast (wC q a ((up (up S 11 s.toNatClampNeg (nI 0)) 12 s.toNatClampNeg b)) cap nl) hx hb hK hP hS 12 rfl s.toNatClampNeg rfl (by omega) (by decide) wC_s12 dX4_setLamp_51 (fun H locs hP hS => ?_)
    refine lv_iload hx hb dX4_setLamp_52 (lv_at hl 0 rfl) ?_
    have eM : (up (up S 11 s.toNatClampNeg (nI 0)) 12 s.toNatClampNeg b) = (coSetLamp S s wk b).2.2 := by unfold coSetLamp; rw [if_pos c_1, if_pos c_2, if_neg c_3]; try rfl
    rw [eM] at hP
    exact k_iretX hx hb hr hlocks hP hS ⟨by unfold coSetLamp; rw [if_pos c_1, if_pos c_2, if_neg c_3]; try rfl, by unfold coSetLamp; rw [if_pos c_1, if_pos c_2, if_neg c_3]; try rfl⟩ (Nat.le_of_ble_eq_true rfl) (Nat.le_of_ble_eq_true rfl) dX4_setLamp_54
  · skip
    refine lv_iconst (v := nI 1) hx hb dX4_setLamp_36 (by decide) ?_
    refine lv_goto (tgt := 41) hx hb dX4_setLamp_37 (by decide) ?_
    refine k_zast (wC q a ((up S 11 s.toNatClampNeg (nI 1))) cap nl) hx hb hK hP hS 11 rfl s.toNatClampNeg rfl (by omega) (by decide) rfl wC_s11 dX4_setLamp_41 (fun H locs hP hS => ?_)
    refine lv_aload_n hx hb dX4_setLamp_42 rfl (lv_at hl 1 rfl) ?_
    refine va_get (D := D) (ci := 5) (v := .ref (a 2)) (C := RX4) (T := TX4) (N := 6) hx hb hts in_X4_setLamp_X4 hown hK.1 hP.1 0 rfl rfl 1 (by decide) (hts _ fl_X4_setLamp_19) (fun _ h9 => h9) rfl dX4_setLamp_43 ?_
    refine va_get (D := D) (ci := 2) (v := .ref (a 12)) (C := RX1) (T := TX1) (N := 8) hx hb hts in_X4_setLamp_X1 hown hK.1 hP.1 2 rfl rfl 1 (by decide) (hts _ fl_X4_setLamp_67) (fun _ h9 => h9) rfl dX4_setLamp_46 ?_
    refine lv_iload_n hx hb dX4_setLamp_49 rfl (lv_at hl 2 rfl) ?_
    refine lv_iload_n hx hb dX4_setLamp_50 rfl (lv_at hl 4 rfl) ?_
    refine k_iast (wC q a ((up (up S 11 s.toNatClampNeg (nI 1)) 12 s.toNatClampNeg b)) cap nl) hx hb hK hP hS 12 rfl s.toNatClampNeg rfl (by omega) (by decide) wC_s12 dX4_setLamp_51 (fun H locs hP hS => ?_)
    refine lv_iload hx hb dX4_setLamp_52 (lv_at hl 0 rfl) ?_
    have eM : (up (up S 11 s.toNatClampNeg (nI 1)) 12 s.toNatClampNeg b) = (coSetLamp S s wk b).2.2 := by unfold coSetLamp; rw [if_pos c_1, if_pos c_2, if_pos c_3]; try rfl
    rw [eM] at hP
    exact k_iretX hx hb hr hlocks hP hS ⟨by unfold coSetLamp; rw [if_pos c_1, if_pos c_2, if_pos c_3]; try rfl, by unfold coSetLamp; rw [if_pos c_1, if_pos c_2, if_pos c_3]; try rfl⟩ (Nat.le_of_ble_eq_true rfl) (Nat.le_of_ble_eq_true rfl) dX4_setLamp_54
theorem fl_X4_find_19 : Cond.fieldLink RX4 19 "LampCounts" "lamps" "LLampCounts$Lamps;" ∈ wsX4_find := by decide +kernel
theorem fl_X4_find_41 : Cond.fieldLink RX4 41 "LampCounts" "now" "I" ∈ wsX4_find := by decide +kernel
theorem fl_X4_find_74 : Cond.fieldLink RX4 74 "LampCounts$Lamps" "findings" "I" ∈ wsX4_find := by decide +kernel
theorem in_X4_find_X1 : ∀ w ∈ u_ws RX1 TX1 8, w ∈ wsX4_find := by decide +kernel
theorem in_X4_find_X4 : ∀ w ∈ u_ws RX4 TX4 6, w ∈ wsX4_find := by decide +kernel
set_option maxHeartbeats 4000000 in
set_option maxRecDepth 100000 in
theorem lp_X4_find_58 {p : Program} {l : Launch} {e : Env} {u : State} {m : MethodId} {below : List Frame} {meth : Method} {c : Code} {D : va_G} {q : Nat → ClassId} {A : Nat → Prop} (a : Nat → Nat) (S : Nat → Nat → Int32) (cap nl : Nat) (s h b : Int32) (n w0 : Nat) (hn : S 0 1 = nI n) (hn60 : n ≤ 60) (hnl : nl ≤ cap ∧ cap ≤ 40 ∧ nl ≤ 30) (hnow : S 0 0 = nI w0) (hw200 : w0 ≤ 200) (b_s : s.toNatClampNeg < 12) (hfin : coFind S n w0 nl s h b = (nI 0, fdC (noteF S n (nI s.toNatClampNeg) (nI h.toNatClampNeg) b) (n + 1) nl s.toNatClampNeg h.toNatClampNeg (w0 - h.toNatClampNeg))) (h60 : n < 60) (C0 : kAt p u m #[.ref (a 0), .int (s), .int (h), .int (b)] meth c cX4_find 6 (some .int) RX4 wsX4_find) (hK : kK D q u) :
    ∀ (f : Nat) (k : Nat) (T : Nat → Nat → Int32) (x1 : Int32) (x2 : Int32) (x4 : Int32) (x5 : Int32), w0 - h.toNatClampNeg - k < f → h.toNatClampNeg + k ≤ w0 → T = (fdC (noteF S n (nI s.toNatClampNeg) (nI h.toNatClampNeg) b) (n + 1) nl s.toNatClampNeg h.toNatClampNeg k).2 → x1 = nI s.toNatClampNeg → x2 = nI h.toNatClampNeg → x4 = (fdC (noteF S n (nI s.toNatClampNeg) (nI h.toNatClampNeg) b) (n + 1) nl s.toNatClampNeg h.toNatClampNeg k).1 → x5 = nI (h.toNatClampNeg + k) → ∀ (H : Heap) (locs : List Loc), kW D A (wC q a T cap nl) H → va_S A u.heap H locs → ∀ (ls : Array Slot), lv_has ls 6 [(0, .ref (a 0)), (3, .int (b)), (1, .int x1), (2, .int x2), (4, .int x4), (5, .int x5)] → W p l e ({ frames := 7, cells := 4, slots := 24, locals := 222 } : Room) u m #[.ref (a 0), .int (s), .int (h), .int (b)] below meth c H locs 4 24 (vx_MQ below (kXi D A (fun r => (coFind S n w0 nl s h b).1 = nI 0 ∧ r = (coFind S n w0 nl s h b).2.1) (wC q a ((coFind S n w0 nl s h b).2.2) cap nl)) (kXC D A (wC q a S cap nl) (fun E => exC [eI, eA, eS] E (coFind S n w0 nl s h b).1)) #[.ref (a 0), .int (s), .int (h), .int (b)] u 4 24 A) (F0 m 58 ls []) := by
  obtain ⟨hx, hb, hr, hml, hown, hts, hlocks⟩ := id C0
  intro f
  induction f with
  | zero =>
    intro k T x1 x2 x4 x5 hf
    exact absurd hf (Nat.not_lt_zero _)
  | succ f ih =>
    intro k T x1 x2 x4 x5 hf hk eT e1 e2 e4 e5 H locs hP hS ls hl
    replace eT := eT.symm
    subst eT
    replace e1 := e1.symm
    subst e1
    replace e2 := e2.symm
    subst e2
    replace e4 := e4.symm
    subst e4
    replace e5 := e5.symm
    subst e5
    refine lv_iload hx hb dX4_find_58 (lv_at hl 5 rfl) ?_
    refine lv_aload_n hx hb dX4_find_60 rfl (lv_at hl 0 rfl) ?_
    refine va_get (D := D) (ci := 5) (v := .int (((fdC (noteF S n (nI s.toNatClampNeg) (nI h.toNatClampNeg) b) (n + 1) nl s.toNatClampNeg h.toNatClampNeg k).2) 0 0)) (C := RX4) (T := TX4) (N := 6) hx hb hts in_X4_find_X4 hown hK.1 hP.1 0 rfl rfl 5 (by decide) (hts _ fl_X4_find_41) (fun _ h9 => h9) rfl dX4_find_61 ?_
    refine k_top (y := nI w0) (((congrFun (fdC_n (by decide) (by decide) (by decide) _) 0).trans ((up_sn (by decide)).trans (congrFun ((up_n (by decide)).trans ((up_n (by decide)).trans (up_n (by decide)))) 0))).trans hnow) ?_
    refine k_icmp_ge (P := h.toNatClampNeg + k < w0) (tgt := 85) hx hb dX4_find_64 (by decide) (nI_ltI (by omega) (by omega)) (fun c_1 => ?_) (fun c_1 => ?_)
    · skip
      refine lv_iload hx hb dX4_find_85 (lv_at hl 4 rfl) ?_
      have eM : (fdC (noteF S n (nI s.toNatClampNeg) (nI h.toNatClampNeg) b) (n + 1) nl s.toNatClampNeg h.toNatClampNeg k).2 = (coFind S n w0 nl s h b).2.2 := by rw [hfin, show w0 - h.toNatClampNeg = k from by omega]
      rw [eM] at hP
      exact k_iretX hx hb hr hlocks hP hS ⟨by rw [hfin, show w0 - h.toNatClampNeg = k from by omega], by rw [hfin, show w0 - h.toNatClampNeg = k from by omega]⟩ (Nat.le_of_ble_eq_true rfl) (Nat.le_of_ble_eq_true rfl) dX4_find_87
    · skip
      refine lv_iload hx hb dX4_find_67 (lv_at hl 4 rfl) ?_
      refine lv_aload_n hx hb dX4_find_69 rfl (lv_at hl 0 rfl) ?_
      refine lv_iload_n hx hb dX4_find_70 rfl (lv_at hl 2 rfl) ?_
      refine lv_iload hx hb dX4_find_71 (lv_at hl 5 rfl) ?_
      refine k_goRi hS (va_runV (rest := [.int ((fdC (noteF S n (nI s.toNatClampNeg) (nI h.toNatClampNeg) b) (n + 1) nl s.toNatClampNeg h.toNatClampNeg k).1)]) ⟨hx, hb, hml, hown, hts⟩ (c_X4_recount l D q A a ((fdC (noteF S n (nI s.toNatClampNeg) (nI h.toNatClampNeg) b) (n + 1) nl s.toNatClampNeg h.toNatClampNeg k).2) cap nl (n + 1) s.toNatClampNeg (h.toNatClampNeg + k) (by omega) (by omega) ((congrFun (fdC_n (by decide) (by decide) (by decide) _) 1).trans (up_si _ _ _ _)) (by omega) hnl) (cwV 2 hts gX4_find_X4_recount rfl rfl rfl (by decide +kernel) ⟨Nat.le_of_ble_eq_true rfl, Nat.le_of_ble_eq_true rfl⟩) ⟨kB_blind, (va_recv hK.1 hP.1 (ci := 5) (q0 := 0) rfl rfl), fun U hU hW => ⟨rfl, by rw [hU]; exact hP, hK.warm hW⟩⟩ rfl rfl hl.1 rfl (lv_room (Nat.le_of_ble_eq_true rfl)) dX4_find_73 ⟨Nat.le_of_ble_eq_true rfl, Nat.le_of_ble_eq_true rfl⟩) (fun H locs hP hS => ?_)
      refine lv_iadd hx hb dX4_find_76 ?_
      refine lv_istore (lv' := [(4, .int (((fdC (noteF S n (nI s.toNatClampNeg) (nI h.toNatClampNeg) b) (n + 1) nl s.toNatClampNeg h.toNatClampNeg k).1) + ((rcF ((fdC (noteF S n (nI s.toNatClampNeg) (nI h.toNatClampNeg) b) (n + 1) nl s.toNatClampNeg h.toNatClampNeg k).2) (n + 1) nl s.toNatClampNeg (h.toNatClampNeg + k)).1))), (0, .ref (a 0)), (3, .int (b)), (1, .int (nI s.toNatClampNeg)), (2, .int (nI h.toNatClampNeg)), (5, .int (nI (h.toNatClampNeg + k)))]) hx hb dX4_find_77 hl (by decide) rfl (fun ls hl => ?_)
      refine lv_iinc (v := nI (h.toNatClampNeg + k + 1)) (lv' := [(5, .int (nI (h.toNatClampNeg + k + 1))), (4, .int (((fdC (noteF S n (nI s.toNatClampNeg) (nI h.toNatClampNeg) b) (n + 1) nl s.toNatClampNeg h.toNatClampNeg k).1) + ((rcF ((fdC (noteF S n (nI s.toNatClampNeg) (nI h.toNatClampNeg) b) (n + 1) nl s.toNatClampNeg h.toNatClampNeg k).2) (n + 1) nl s.toNatClampNeg (h.toNatClampNeg + k)).1))), (0, .ref (a 0)), (3, .int (b)), (1, .int (nI s.toNatClampNeg)), (2, .int (nI h.toNatClampNeg))]) hx hb dX4_find_79 hl (k := 5) rfl (k_iinc _) (by decide) rfl (fun ls hl => ?_)
      refine lv_goto (tgt := 58) hx hb dX4_find_82 (by decide) ?_
      exact ih (k + 1) ((rcF ((fdC (noteF S n (nI s.toNatClampNeg) (nI h.toNatClampNeg) b) (n + 1) nl s.toNatClampNeg h.toNatClampNeg k).2) (n + 1) nl s.toNatClampNeg (h.toNatClampNeg + k)).2) (nI s.toNatClampNeg) (nI h.toNatClampNeg) (((fdC (noteF S n (nI s.toNatClampNeg) (nI h.toNatClampNeg) b) (n + 1) nl s.toNatClampNeg h.toNatClampNeg k).1) + ((rcF ((fdC (noteF S n (nI s.toNatClampNeg) (nI h.toNatClampNeg) b) (n + 1) nl s.toNatClampNeg h.toNatClampNeg k).2) (n + 1) nl s.toNatClampNeg (h.toNatClampNeg + k)).1)) (nI (h.toNatClampNeg + k + 1)) (by omega) (by first | omega | assumption) (by rfl) rfl rfl (by rfl) (by rfl) _ _ hP hS ls (lv_sub hl [2, 3, 4, 5, 1, 0] rfl)
set_option maxHeartbeats 4000000 in
set_option maxRecDepth 100000 in
theorem c_X4_find (l : Launch) (hl0 : l.stackTraces = false) (D : va_G) (q : Nat → ClassId) (A : Nat → Prop) (a : Nat → Nat) (S : Nat → Nat → Int32) (cap nl : Nat) (s h b : Int32) (n w0 : Nat) (hn : S 0 1 = nI n) (hn60 : n ≤ 60) (hnl : nl ≤ cap ∧ cap ≤ 40 ∧ nl ≤ 30) (hnow : S 0 0 = nI w0) (hw200 : w0 ≤ 200) : vx_Met l yX4_find wsX4_find ({ frames := 7, cells := 4, slots := 24, locals := 222 } : Room) (va_Pc [.ref (a 0), .int (s), .int (h), .int (b)] (kBX D q A (fun H => kW D A (wC q a S cap nl) H))) (kXi D A (fun r => (coFind S n w0 nl s h b).1 = nI 0 ∧ r = (coFind S n w0 nl s h b).2.1) (wC q a ((coFind S n w0 nl s h b).2.2) cap nl)) (kXC D A (wC q a S cap nl) (fun E => exC [eI, eA, eS] E (coFind S n w0 nl s h b).1)) 4 24 A := by
  refine vx_ofW (cc := cX4_find) (maxL := 6) (ret := (some .int)) (by decide) rfl ?_
  intro p e u m args below meth c s₁ B hml0 hout hv
  obtain ⟨rfl, hP, hK, hX⟩ := hv
  have C0 : kAt p u m #[.ref (a 0), .int (s), .int (h), .int (b)] meth c cX4_find 6 (some .int) RX4 wsX4_find := kAt_of B hml0
  obtain ⟨hx, hb, hr, hml, hown, hts, hlocks⟩ := id C0
  have hS : va_S A u.heap u.heap [] := va_S.rf
  have hl := lv_entry ([.ref (a 0), .int (s), .int (h), .int (b)]) (n := 6) (Nat.le_of_ble_eq_true rfl)
  rw [lg_entry_eq]
  generalize (lg_sl ([.ref (a 0), .int (s), .int (h), .int (b)]) ++ List.replicate (6 - (lg_sl ([.ref (a 0), .int (s), .int (h), .int (b)])).length) Slot.unset).toArray = ls at hl ⊢
  have hl : lv_has ls 6 [(0, .ref (a 0)), (1, .int (s)), (2, .int (h)), (3, .int (b))] := hl
  refine lv_iload_n hx hb dX4_find_0 rfl (lv_at hl 1 rfl) ?_
  refine lv_bipush (v := nI 12) hx hb dX4_find_1 (by decide) ?_
  refine k_goXv hS (vx_runS (rest := []) ⟨hx, hb, hml, hown, hts⟩ (c_X4_requireIndex l hl0 D q A (wC q a S cap nl) s (nI 12)) (va_cwS 2 hts gX4_find_X4_requireIndex rfl rfl rfl (by decide +kernel) ⟨Nat.le_of_ble_eq_true rfl, Nat.le_of_ble_eq_true rfl⟩) ⟨kBX_blind, fun U hU hW => ⟨rfl, by rw [hU]; exact hP, hK.warm hW, hX.at hS hU hW⟩⟩ rfl rfl hl.1 rfl (lv_room (Nat.le_of_ble_eq_true rfl)) dX4_find_3 ⟨Nat.le_of_ble_eq_true rfl, Nat.le_of_ble_eq_true rfl⟩) (fun E ce q9 H locs hE hP hS h1 h2 h3 => k_outX hout hlocks h1 h2 h3 (⟨0, by rw [hE.1]; rfl, by unfold coFind; rw [if_neg hE.2]; try rfl⟩) hP hS (Nat.le_of_ble_eq_true rfl) (Nat.le_of_ble_eq_true rfl)) (fun H locs c_2 hP hS => ?_)
  obtain ⟨e_s, b_s⟩ := ixP_nat c_2 (by omega)
  rw [e_s] at hl
  refine lv_iload_n hx hb dX4_find_6 rfl (lv_at hl 2 rfl) ?_
  refine lv_iconst (v := nI 0) hx hb dX4_find_7 (by decide) ?_
  refine lv_aload_n hx hb dX4_find_8 rfl (lv_at hl 0 rfl) ?_
  refine va_get (D := D) (ci := 5) (v := .int (S 0 0)) (C := RX4) (T := TX4) (N := 6) hx hb hts in_X4_find_X4 hown hK.1 hP.1 0 rfl rfl 5 (by decide) (hts _ fl_X4_find_41) (fun _ h9 => h9) rfl dX4_find_9 ?_
  refine k_top (y := nI w0) hnow ?_
  refine k_goXv hS (vx_runS (rest := []) ⟨hx, hb, hml, hown, hts⟩ (c_X4_requireWithin l hl0 D q A (wC q a S cap nl) h (nI 0) (nI w0)) (va_cwS 3 hts gX4_find_X4_requireWithin rfl rfl rfl (by decide +kernel) ⟨Nat.le_of_ble_eq_true rfl, Nat.le_of_ble_eq_true rfl⟩) ⟨kBX_blind, fun U hU hW => ⟨rfl, by rw [hU]; exact hP, hK.warm hW, hX.at hS hU hW⟩⟩ rfl rfl hl.1 rfl (lv_room (Nat.le_of_ble_eq_true rfl)) dX4_find_12 ⟨Nat.le_of_ble_eq_true rfl, Nat.le_of_ble_eq_true rfl⟩) (fun E ce q9 H locs hE hP hS h1 h2 h3 => k_outX hout hlocks h1 h2 h3 (⟨1, by rw [hE.1]; rfl, by unfold coFind; rw [if_pos c_2, if_neg hE.2]; try rfl⟩) hP hS (Nat.le_of_ble_eq_true rfl) (Nat.le_of_ble_eq_true rfl)) (fun H locs c_3 hP hS => ?_)
  obtain ⟨e_h, b_h⟩ := inP_nat c_3 (by omega)
  rw [e_h] at hl
  refine lv_iload_n hx hb dX4_find_15 rfl (lv_at hl 3 rfl) ?_
  refine lv_iconst (v := nI 0) hx hb dX4_find_16 (by decide) ?_
  refine lv_bipush (v := nI 60) hx hb dX4_find_17 (by decide) ?_
  refine k_goXv hS (vx_runS (rest := []) ⟨hx, hb, hml, hown, hts⟩ (c_X4_requireWithin l hl0 D q A (wC q a S cap nl) b (nI 0) (nI 60)) (va_cwS 3 hts gX4_find_X4_requireWithin rfl rfl rfl (by decide +kernel) ⟨Nat.le_of_ble_eq_true rfl, Nat.le_of_ble_eq_true rfl⟩) ⟨kBX_blind, fun U hU hW => ⟨rfl, by rw [hU]; exact hP, hK.warm hW, hX.at hS hU hW⟩⟩ rfl rfl hl.1 rfl (lv_room (Nat.le_of_ble_eq_true rfl)) dX4_find_19 ⟨Nat.le_of_ble_eq_true rfl, Nat.le_of_ble_eq_true rfl⟩) (fun E ce q9 H locs hE hP hS h1 h2 h3 => k_outX hout hlocks h1 h2 h3 (⟨1, by rw [hE.1]; rfl, by unfold coFind; rw [if_pos c_2, if_pos c_3, if_neg hE.2]; try rfl⟩) hP hS (Nat.le_of_ble_eq_true rfl) (Nat.le_of_ble_eq_true rfl)) (fun H locs c_4 hP hS => ?_)
  refine lv_aload_n hx hb dX4_find_22 rfl (lv_at hl 0 rfl) ?_
  refine va_get (D := D) (ci := 5) (v := .ref (a 2)) (C := RX4) (T := TX4) (N := 6) hx hb hts in_X4_find_X4 hown hK.1 hP.1 0 rfl rfl 1 (by decide) (hts _ fl_X4_find_19) (fun _ h9 => h9) rfl dX4_find_23 ?_
  refine va_get (D := D) (ci := 2) (v := .int (S 0 1)) (C := RX1) (T := TX1) (N := 8) hx hb hts in_X4_find_X1 hown hK.1 hP.1 2 rfl rfl 7 (by decide) (hts _ fl_X4_find_74) (fun _ h9 => h9) rfl dX4_find_26 ?_
  refine k_top (y := nI n) hn ?_
  refine lv_bipush (v := nI 60) hx hb dX4_find_29 (by decide) ?_
  refine k_icmp_ge (P := n < 60) (tgt := 38) hx hb dX4_find_31 (by decide) (nI_ltI (by omega) (by omega)) (fun c_5 => ?_) (fun c_5 => ?_)
  · skip
    refine lv_iconst (v := nI 0) hx hb dX4_find_38 (by decide) ?_
    refine k_goXv hS (vx_runS (rest := []) ⟨hx, hb, hml, hown, hts⟩ (c_X4_requireState l hl0 D q A (wC q a S cap nl) (nI 0)) (va_cwS 1 hts gX4_find_X4_requireState rfl rfl rfl (by decide +kernel) ⟨Nat.le_of_ble_eq_true rfl, Nat.le_of_ble_eq_true rfl⟩) ⟨kBX_blind, fun U hU hW => ⟨rfl, by rw [hU]; exact hP, hK.warm hW, hX.at hS hU hW⟩⟩ rfl rfl hl.1 rfl (lv_room (Nat.le_of_ble_eq_true rfl)) dX4_find_39 ⟨Nat.le_of_ble_eq_true rfl, Nat.le_of_ble_eq_true rfl⟩) (fun E ce q9 H locs hE hP hS h1 h2 h3 => k_outX hout hlocks h1 h2 h3 (⟨2, by rw [hE.1]; rfl, by unfold coFind; rw [if_pos c_2, if_pos c_3, if_pos c_4, if_neg c_5]; try rfl⟩) hP hS (Nat.le_of_ble_eq_true rfl) (Nat.le_of_ble_eq_true rfl)) (fun H locs c_6 hP hS => ?_)
    exact absurd rfl c_6
  · skip
    refine lv_iconst (v := nI 1) hx hb dX4_find_34 (by decide) ?_
    refine lv_goto (tgt := 39) hx hb dX4_find_35 (by decide) ?_
    refine k_goXv hS (vx_runS (rest := []) ⟨hx, hb, hml, hown, hts⟩ (c_X4_requireState l hl0 D q A (wC q a S cap nl) (nI 1)) (va_cwS 1 hts gX4_find_X4_requireState rfl rfl rfl (by decide +kernel) ⟨Nat.le_of_ble_eq_true rfl, Nat.le_of_ble_eq_true rfl⟩) ⟨kBX_blind, fun U hU hW => ⟨rfl, by rw [hU]; exact hP, hK.warm hW, hX.at hS hU hW⟩⟩ rfl rfl hl.1 rfl (lv_room (Nat.le_of_ble_eq_true rfl)) dX4_find_39 ⟨Nat.le_of_ble_eq_true rfl, Nat.le_of_ble_eq_true rfl⟩) (fun E ce q9 H locs hE hP hS h1 h2 h3 => absurd hE.2 (by decide)) (fun H locs c_7 hP hS => ?_)
    refine lv_aload_n hx hb dX4_find_42 rfl (lv_at hl 0 rfl) ?_
    refine va_get (D := D) (ci := 5) (v := .ref (a 2)) (C := RX4) (T := TX4) (N := 6) hx hb hts in_X4_find_X4 hown hK.1 hP.1 0 rfl rfl 1 (by decide) (hts _ fl_X4_find_19) (fun _ h9 => h9) rfl dX4_find_43 ?_
    refine lv_iload_n hx hb dX4_find_46 rfl (lv_at hl 1 rfl) ?_
    refine lv_iload_n hx hb dX4_find_47 rfl (lv_at hl 2 rfl) ?_
    refine lv_iload_n hx hb dX4_find_48 rfl (lv_at hl 3 rfl) ?_
    refine k_goRv hS (va_runV (rest := []) ⟨hx, hb, hml, hown, hts⟩ (c_X1_noteFinding l D q A a S cap nl n (nI s.toNatClampNeg) (nI h.toNatClampNeg) b hn (by omega)) (cwV 3 hts gX4_find_X1_noteFinding rfl rfl rfl (by decide +kernel) ⟨Nat.le_of_ble_eq_true rfl, Nat.le_of_ble_eq_true rfl⟩) ⟨kB_blind, (va_recv hK.1 hP.1 (ci := 2) (q0 := 2) rfl rfl), fun U hU hW => ⟨rfl, by rw [hU]; exact hP, hK.warm hW⟩⟩ rfl rfl hl.1 rfl (lv_room (Nat.le_of_ble_eq_true rfl)) dX4_find_49 ⟨Nat.le_of_ble_eq_true rfl, Nat.le_of_ble_eq_true rfl⟩) (fun H locs hP hS => ?_)
    refine lv_iconst (v := nI 0) hx hb dX4_find_52 (by decide) ?_
    refine lv_istore (lv' := [(4, .int (nI 0)), (0, .ref (a 0)), (1, .int (nI s.toNatClampNeg)), (2, .int (nI h.toNatClampNeg)), (3, .int (b))]) hx hb dX4_find_53 hl (by decide) rfl (fun ls hl => ?_)
    refine lv_iload_n hx hb dX4_find_55 rfl (lv_at hl 3 rfl) ?_
    refine lv_istore (lv' := [(5, .int (nI h.toNatClampNeg)), (4, .int (nI 0)), (0, .ref (a 0)), (1, .int (nI s.toNatClampNeg)), (2, .int (nI h.toNatClampNeg)), (3, .int (b))]) hx hb dX4_find_56 hl (by decide) rfl (fun ls hl => ?_)
    refine W.widen (k := 4) (n := 24) (Nat.le_of_ble_eq_true rfl) (Nat.le_of_ble_eq_true rfl) ?_
    exact lp_X4_find_58 a S cap nl s h b n w0 hn hn60 hnl hnow hw200 b_s (by unfold coFind; rw [if_pos c_2, if_pos c_3, if_pos c_4, if_pos c_5]) c_5 C0 hK ((w0 - h.toNatClampNeg - 0) + 1) 0 (noteF S n (nI s.toNatClampNeg) (nI h.toNatClampNeg) b) (nI s.toNatClampNeg) (nI h.toNatClampNeg) (nI 0) (nI h.toNatClampNeg) (by omega) (by first | omega | assumption) (by rfl) rfl rfl (by rfl) (by rfl) _ _ hP hS ls (lv_sub hl [2, 5, 3, 4, 1, 0] rfl)
theorem fl_X4_turnUp_19 : Cond.fieldLink RX4 19 "LampCounts" "lamps" "LLampCounts$Lamps;" ∈ wsX4_turnUp := by decide +kernel
theorem fl_X4_turnUp_92 : Cond.fieldLink RX4 92 "LampCounts$Lamps" "readings" "[I" ∈ wsX4_turnUp := by decide +kernel
theorem in_X4_turnUp_X1 : ∀ w ∈ u_ws RX1 TX1 8, w ∈ wsX4_turnUp := by decide +kernel
theorem in_X4_turnUp_X4 : ∀ w ∈ u_ws RX4 TX4 6, w ∈ wsX4_turnUp := by decide +kernel
set_option maxHeartbeats 4000000 in
set_option maxRecDepth 100000 in
theorem c_X4_turnUp (l : Launch) (hl0 : l.stackTraces = false) (D : va_G) (q : Nat → ClassId) (A : Nat → Prop) (a : Nat → Nat) (S : Nat → Nat → Int32) (cap nl : Nat) (s h r0 : Int32) (n w0 : Nat) (hn : S 0 1 = nI n) (hn60 : n ≤ 60) (hnl : nl ≤ cap ∧ cap ≤ 40 ∧ nl ≤ 30) (hnow : S 0 0 = nI w0) (hw200 : w0 ≤ 200) : vx_Met l yX4_turnUp wsX4_turnUp ({ frames := 8, cells := 4, slots := 24, locals := 243 } : Room) (va_Pc [.ref (a 0), .int (s), .int (h), .int (r0)] (kBX D q A (fun H => kW D A (wC q a S cap nl) H))) (kXi D A (fun r => (coTurnUp S n nl s h r0).1 = nI 0 ∧ r = (coTurnUp S n nl s h r0).2.1) (wC q a ((coTurnUp S n nl s h r0).2.2) cap nl)) (kXC D A (wC q a S cap nl) (fun E => exC [eI, eA, eS] E (coTurnUp S n nl s h r0).1)) 4 24 A := by
  refine vx_ofW (cc := cX4_turnUp) (maxL := 4) (ret := (some .int)) (by decide) rfl ?_
  intro p e u m args below meth c s₁ B hml0 hout hv
  obtain ⟨rfl, hP, hK, hX⟩ := hv
  have C0 : kAt p u m #[.ref (a 0), .int (s), .int (h), .int (r0)] meth c cX4_turnUp 4 (some .int) RX4 wsX4_turnUp := kAt_of B hml0
  obtain ⟨hx, hb, hr, hml, hown, hts, hlocks⟩ := id C0
  have hS : va_S A u.heap u.heap [] := va_S.rf
  have hl := lv_entry ([.ref (a 0), .int (s), .int (h), .int (r0)]) (n := 4) (Nat.le_of_ble_eq_true rfl)
  rw [lg_entry_eq]
  generalize (lg_sl ([.ref (a 0), .int (s), .int (h), .int (r0)]) ++ List.replicate (4 - (lg_sl ([.ref (a 0), .int (s), .int (h), .int (r0)])).length) Slot.unset).toArray = ls at hl ⊢
  have hl : lv_has ls 4 [(0, .ref (a 0)), (1, .int (s)), (2, .int (h)), (3, .int (r0))] := hl
  refine lv_iload_n hx hb dX4_turnUp_0 rfl (lv_at hl 1 rfl) ?_
  refine lv_bipush (v := nI 12) hx hb dX4_turnUp_1 (by decide) ?_
  refine k_goXv hS (vx_runS (rest := []) ⟨hx, hb, hml, hown, hts⟩ (c_X4_requireIndex l hl0 D q A (wC q a S cap nl) s (nI 12)) (va_cwS 2 hts gX4_turnUp_X4_requireIndex rfl rfl rfl (by decide +kernel) ⟨Nat.le_of_ble_eq_true rfl, Nat.le_of_ble_eq_true rfl⟩) ⟨kBX_blind, fun U hU hW => ⟨rfl, by rw [hU]; exact hP, hK.warm hW, hX.at hS hU hW⟩⟩ rfl rfl hl.1 rfl (lv_room (Nat.le_of_ble_eq_true rfl)) dX4_turnUp_3 ⟨Nat.le_of_ble_eq_true rfl, Nat.le_of_ble_eq_true rfl⟩) (fun E ce q9 H locs hE hP hS h1 h2 h3 => k_outX hout hlocks h1 h2 h3 (⟨0, by rw [hE.1]; rfl, by unfold coTurnUp; rw [if_neg hE.2]; try rfl⟩) hP hS (Nat.le_of_ble_eq_true rfl) (Nat.le_of_ble_eq_true rfl)) (fun H locs c_1 hP hS => ?_)
  obtain ⟨e_s, b_s⟩ := ixP_nat c_1 (by omega)
  rw [e_s] at hl
  refine lv_aload_n hx hb dX4_turnUp_6 rfl (lv_at hl 0 rfl) ?_
  refine lv_iload_n hx hb dX4_turnUp_7 rfl (lv_at hl 2 rfl) ?_
  refine k_goXv hS (vx_runV (rest := []) ⟨hx, hb, hml, hown, hts⟩ (c_X4_requireEnded l hl0 D q A a S cap nl h) (cwV 1 hts gX4_turnUp_X4_requireEnded rfl rfl rfl (by decide +kernel) ⟨Nat.le_of_ble_eq_true rfl, Nat.le_of_ble_eq_true rfl⟩) ⟨kBX_blind, (va_recv hK.1 hP.1 (ci := 5) (q0 := 0) rfl rfl), fun U hU hW => ⟨rfl, by rw [hU]; exact hP, hK.warm hW, hX.at hS hU hW⟩⟩ rfl rfl hl.1 rfl (lv_room (Nat.le_of_ble_eq_true rfl)) dX4_turnUp_8 ⟨Nat.le_of_ble_eq_true rfl, Nat.le_of_ble_eq_true rfl⟩) (fun E ce q9 H locs hE hP hS h1 h2 h3 => k_outX hout hlocks h1 h2 h3 (⟨1, by rw [hE.1]; rfl, by unfold coTurnUp; rw [if_pos c_1, if_neg hE.2]; try rfl⟩) hP hS (Nat.le_of_ble_eq_true rfl) (Nat.le_of_ble_eq_true rfl)) (fun H locs c_2 hP hS => ?_)
  obtain ⟨e_h, b_h⟩ := inP_lt hnow c_2 (by omega)
  rw [e_h] at hl
  refine lv_iload_n hx hb dX4_turnUp_11 rfl (lv_at hl 3 rfl) ?_
  refine lv_iconst (v := nI 0) hx hb dX4_turnUp_12 (by decide) ?_
  refine lv_sipush (v := nI 30000) hx hb dX4_turnUp_13 (by decide) ?_
  refine k_goXv hS (vx_runS (rest := []) ⟨hx, hb, hml, hown, hts⟩ (c_X4_requireWithin l hl0 D q A (wC q a S cap nl) r0 (nI 0) (nI 30000)) (va_cwS 3 hts gX4_turnUp_X4_requireWithin rfl rfl rfl (by decide +kernel) ⟨Nat.le_of_ble_eq_true rfl, Nat.le_of_ble_eq_true rfl⟩) ⟨kBX_blind, fun U hU hW => ⟨rfl, by rw [hU]; exact hP, hK.warm hW, hX.at hS hU hW⟩⟩ rfl rfl hl.1 rfl (lv_room (Nat.le_of_ble_eq_true rfl)) dX4_turnUp_16 ⟨Nat.le_of_ble_eq_true rfl, Nat.le_of_ble_eq_true rfl⟩) (fun E ce q9 H locs hE hP hS h1 h2 h3 => k_outX hout hlocks h1 h2 h3 (⟨1, by rw [hE.1]; rfl, by unfold coTurnUp; rw [if_pos c_1, if_pos c_2, if_neg hE.2]; try rfl⟩) hP hS (Nat.le_of_ble_eq_true rfl) (Nat.le_of_ble_eq_true rfl)) (fun H locs c_3 hP hS => ?_)
  refine lv_aload_n hx hb dX4_turnUp_19 rfl (lv_at hl 0 rfl) ?_
  refine va_get (D := D) (ci := 5) (v := .ref (a 2)) (C := RX4) (T := TX4) (N := 6) hx hb hts in_X4_turnUp_X4 hown hK.1 hP.1 0 rfl rfl 1 (by decide) (hts _ fl_X4_turnUp_19) (fun _ h9 => h9) rfl dX4_turnUp_20 ?_
  refine lv_iload_n hx hb dX4_turnUp_23 rfl (lv_at hl 1 rfl) ?_
  refine lv_iload_n hx hb dX4_turnUp_24 rfl (lv_at hl 2 rfl) ?_
  refine k_callV (rest := []) (r := bI (S 13 (h.toNatClampNeg * 12 + s.toNatClampNeg) = -1)) ⟨hx, hb, hml, hown, hts⟩ (c_X1_isLost l D q a S cap nl s.toNatClampNeg h.toNatClampNeg (by omega) (by omega)) (cwV 2 hts gX4_turnUp_X1_isLost rfl rfl rfl (by decide +kernel) ⟨Nat.le_of_ble_eq_true rfl, Nat.le_of_ble_eq_true rfl⟩) hK hP.1 (va_recv hK.1 hP.1 (ci := 2) (q0 := 2) rfl rfl) rfl hl.1 rfl (Nat.le_of_ble_eq_true rfl) dX4_turnUp_25 ⟨Nat.le_of_ble_eq_true rfl, Nat.le_of_ble_eq_true rfl⟩ (fun _ h => h) ?_
  refine k_goXv hS (vx_runS (rest := []) ⟨hx, hb, hml, hown, hts⟩ (c_X4_requireState l hl0 D q A (wC q a S cap nl) (bI (S 13 (h.toNatClampNeg * 12 + s.toNatClampNeg) = -1))) (va_cwS 1 hts gX4_turnUp_X4_requireState rfl rfl rfl (by decide +kernel) ⟨Nat.le_of_ble_eq_true rfl, Nat.le_of_ble_eq_true rfl⟩) ⟨kBX_blind, fun U hU hW => ⟨rfl, by rw [hU]; exact hP, hK.warm hW, hX.at hS hU hW⟩⟩ rfl rfl hl.1 rfl (lv_room (Nat.le_of_ble_eq_true rfl)) dX4_turnUp_28 ⟨Nat.le_of_ble_eq_true rfl, Nat.le_of_ble_eq_true rfl⟩) (fun E ce q9 H locs hE hP hS h1 h2 h3 => k_outX hout hlocks h1 h2 h3 (⟨2, by rw [hE.1]; rfl, by unfold coTurnUp; rw [if_pos c_1, if_pos c_2, if_pos c_3, if_neg (bI_0.mp hE.2)]; try rfl⟩) hP hS (Nat.le_of_ble_eq_true rfl) (Nat.le_of_ble_eq_true rfl)) (fun H locs c_4 hP hS => ?_)
  have c_4 : S 13 (h.toNatClampNeg * 12 + s.toNatClampNeg) = -1 := Classical.not_not.mp (fun z => c_4 (bI_0.mpr z))
  refine lv_aload_n hx hb dX4_turnUp_31 rfl (lv_at hl 0 rfl) ?_
  refine va_get (D := D) (ci := 5) (v := .ref (a 2)) (C := RX4) (T := TX4) (N := 6) hx hb hts in_X4_turnUp_X4 hown hK.1 hP.1 0 rfl rfl 1 (by decide) (hts _ fl_X4_turnUp_19) (fun _ h9 => h9) rfl dX4_turnUp_32 ?_
  refine va_get (D := D) (ci := 2) (v := .ref (a 13)) (C := RX1) (T := TX1) (N := 8) hx hb hts in_X4_turnUp_X1 hown hK.1 hP.1 2 rfl rfl 2 (by decide) (hts _ fl_X4_turnUp_92) (fun _ h9 => h9) rfl dX4_turnUp_35 ?_
  refine lv_iload_n hx hb dX4_turnUp_38 rfl (lv_at hl 1 rfl) ?_
  refine lv_iload_n hx hb dX4_turnUp_39 rfl (lv_at hl 2 rfl) ?_
  refine k_callS (rest := [.ref (a 13)]) (r := nI (h.toNatClampNeg * 12 + s.toNatClampNeg)) ⟨hx, hb, hml, hown, hts⟩ (c_X4_cell l D q s.toNatClampNeg h.toNatClampNeg) (va_cwS 2 hts gX4_turnUp_X4_cell rfl rfl rfl (by decide +kernel) ⟨Nat.le_of_ble_eq_true rfl, Nat.le_of_ble_eq_true rfl⟩) hK trivial rfl hl.1 rfl (Nat.le_of_ble_eq_true rfl) dX4_turnUp_40 ⟨Nat.le_of_ble_eq_true rfl, Nat.le_of_ble_eq_true rfl⟩ (fun _ h => h) ?_
  refine lv_iload_n hx hb dX4_turnUp_43 rfl (lv_at hl 3 rfl) ?_
  refine k_iast (wC q a ((up S 13 (h.toNatClampNeg * 12 + s.toNatClampNeg) r0)) cap nl) hx hb hK hP hS 13 rfl (h.toNatClampNeg * 12 + s.toNatClampNeg) rfl (by omega) (by decide) wC_s13 dX4_turnUp_44 (fun H locs hP hS => ?_)
  refine lv_aload_n hx hb dX4_turnUp_45 rfl (lv_at hl 0 rfl) ?_
  refine lv_iload_n hx hb dX4_turnUp_46 rfl (lv_at hl 1 rfl) ?_
  refine lv_iload_n hx hb dX4_turnUp_47 rfl (lv_at hl 2 rfl) ?_
  refine k_goRi hS (va_runV (rest := []) ⟨hx, hb, hml, hown, hts⟩ (c_X4_recount l D q A a ((up S 13 (h.toNatClampNeg * 12 + s.toNatClampNeg) r0)) cap nl n s.toNatClampNeg h.toNatClampNeg (by omega) (by omega) hn hn60 hnl) (cwV 2 hts gX4_turnUp_X4_recount rfl rfl rfl (by decide +kernel) ⟨Nat.le_of_ble_eq_true rfl, Nat.le_of_ble_eq_true rfl⟩) ⟨kB_blind, (va_recv hK.1 hP.1 (ci := 5) (q0 := 0) rfl rfl), fun U hU hW => ⟨rfl, by rw [hU]; exact hP, hK.warm hW⟩⟩ rfl rfl hl.1 rfl (lv_room (Nat.le_of_ble_eq_true rfl)) dX4_turnUp_48 ⟨Nat.le_of_ble_eq_true rfl, Nat.le_of_ble_eq_true rfl⟩) (fun H locs hP hS => ?_)
  have eM : (rcF ((up S 13 (h.toNatClampNeg * 12 + s.toNatClampNeg) r0)) n nl s.toNatClampNeg h.toNatClampNeg).2 = (coTurnUp S n nl s h r0).2.2 := by unfold coTurnUp; rw [if_pos c_1, if_pos c_2, if_pos c_3, if_pos c_4]; try rfl
  rw [eM] at hP
  exact k_iretX hx hb hr hlocks hP hS ⟨by unfold coTurnUp; rw [if_pos c_1, if_pos c_2, if_pos c_3, if_pos c_4]; try rfl, by unfold coTurnUp; rw [if_pos c_1, if_pos c_2, if_pos c_3, if_pos c_4]; try rfl⟩ (Nat.le_of_ble_eq_true rfl) (Nat.le_of_ble_eq_true rfl) dX4_turnUp_51
theorem fl_X4_quit_33 : Cond.fieldLink RX4 33 "LampCounts" "made" "Ljava/util/ArrayList;" ∈ wsX4_quit := by decide +kernel
theorem fl_X4_quit_41 : Cond.fieldLink RX4 41 "LampCounts" "now" "I" ∈ wsX4_quit := by decide +kernel
theorem fl_X4_quit_118 : Cond.fieldLink RX4 118 "LampCounts$Lease" "end" "I" ∈ wsX4_quit := by decide +kernel
theorem fl_X4_quit_121 : Cond.fieldLink RX4 121 "LampCounts$Lease" "start" "I" ∈ wsX4_quit := by decide +kernel
theorem in_X4_quit_X2 : ∀ w ∈ u_ws RX2 TX2 9, w ∈ wsX4_quit := by decide +kernel
theorem in_X4_quit_X4 : ∀ w ∈ u_ws RX4 TX4 6, w ∈ wsX4_quit := by decide +kernel
theorem cl_X4_quit_101 : Cond.classLink RX4 101 "LampCounts$Lease" ∈ wsX4_quit := by decide +kernel
set_option maxHeartbeats 4000000 in
set_option maxRecDepth 100000 in
theorem c_X4_quit (l : Launch) (hl0 : l.stackTraces = false) (D : va_G) (q : Nat → ClassId) (A : Nat → Prop) (a : Nat → Nat) (S : Nat → Nat → Int32) (cap nl : Nat) (y : Int32) (w0 : Nat) (hnl : nl ≤ cap ∧ cap ≤ 40 ∧ nl ≤ 30) (hnow : S 0 0 = nI w0) (hw200 : w0 ≤ 200) : vx_Met l yX4_quit wsX4_quit ({ frames := 7, cells := 2, slots := 12, locals := 221 } : Room) (va_Pc [.ref (a 0), .int (y)] (kBX D q A (fun H => kW D A (wC q a S cap nl) H))) (kXi D A (fun r => (coQuit S w0 nl y).1 = nI 0 ∧ r = (coQuit S w0 nl y).2.1) (wC q a ((coQuit S w0 nl y).2.2) cap nl)) (kXC D A (wC q a S cap nl) (fun E => exC [eI, eS] E (coQuit S w0 nl y).1)) 2 12 A := by
  refine vx_ofW (cc := cX4_quit) (maxL := 3) (ret := (some .int)) (by decide) rfl ?_
  intro p e u m args below meth c s₁ B hml0 hout hv
  obtain ⟨rfl, hP, hK, hX⟩ := hv
  have C0 : kAt p u m #[.ref (a 0), .int (y)] meth c cX4_quit 3 (some .int) RX4 wsX4_quit := kAt_of B hml0
  obtain ⟨hx, hb, hr, hml, hown, hts, hlocks⟩ := id C0
  have hS : va_S A u.heap u.heap [] := va_S.rf
  have hl := lv_entry ([.ref (a 0), .int (y)]) (n := 3) (Nat.le_of_ble_eq_true rfl)
  rw [lg_entry_eq]
  generalize (lg_sl ([.ref (a 0), .int (y)]) ++ List.replicate (3 - (lg_sl ([.ref (a 0), .int (y)])).length) Slot.unset).toArray = ls at hl ⊢
  have hl : lv_has ls 3 [(0, .ref (a 0)), (1, .int (y))] := hl
  refine lv_iload_n hx hb dX4_quit_0 rfl (lv_at hl 1 rfl) ?_
  refine lv_aload_n hx hb dX4_quit_1 rfl (lv_at hl 0 rfl) ?_
  refine va_get (D := D) (ci := 5) (v := .ref (a 4)) (C := RX4) (T := TX4) (N := 6) hx hb hts in_X4_quit_X4 hown hK.1 hP.1 0 rfl rfl 3 (by decide) (hts _ fl_X4_quit_33) (fun _ h9 => h9) rfl dX4_quit_2 ?_
  refine k_callV (rest := [.int (y)]) (r := nI nl) ⟨hx, hb, hml, hown, hts⟩ (c_Jx4a65c_size_8abf5 l D q a S cap nl) (cwV 0 hts gX4_quit_Jx4a65c_size_8abf5 rfl rfl rfl (by decide +kernel) ⟨Nat.le_of_ble_eq_true rfl, Nat.le_of_ble_eq_true rfl⟩) hK hP.1 (va_recv hK.1 hP.1 (ci := 0) (q0 := 4) rfl rfl) rfl hl.1 rfl (Nat.le_of_ble_eq_true rfl) dX4_quit_5 ⟨Nat.le_of_ble_eq_true rfl, Nat.le_of_ble_eq_true rfl⟩ (fun _ h => h) ?_
  refine k_goXv hS (vx_runS (rest := []) ⟨hx, hb, hml, hown, hts⟩ (c_X4_requireIndex l hl0 D q A (wC q a S cap nl) y (nI nl)) (va_cwS 2 hts gX4_quit_X4_requireIndex rfl rfl rfl (by decide +kernel) ⟨Nat.le_of_ble_eq_true rfl, Nat.le_of_ble_eq_true rfl⟩) ⟨kBX_blind, fun U hU hW => ⟨rfl, by rw [hU]; exact hP, hK.warm hW, hX.at hS hU hW⟩⟩ rfl rfl hl.1 rfl (lv_room (Nat.le_of_ble_eq_true rfl)) dX4_quit_8 ⟨Nat.le_of_ble_eq_true rfl, Nat.le_of_ble_eq_true rfl⟩) (fun E ce q9 H locs hE hP hS h1 h2 h3 => k_outX hout hlocks h1 h2 h3 (⟨0, by rw [hE.1]; rfl, by unfold coQuit; rw [if_neg hE.2]; try rfl⟩) hP hS (Nat.le_of_ble_eq_true rfl) (Nat.le_of_ble_eq_true rfl)) (fun H locs c_1 hP hS => ?_)
  obtain ⟨e_y, b_y⟩ := ixP_nat c_1 (by omega)
  rw [e_y] at hl
  refine lv_aload_n hx hb dX4_quit_11 rfl (lv_at hl 0 rfl) ?_
  refine va_get (D := D) (ci := 5) (v := .ref (a 4)) (C := RX4) (T := TX4) (N := 6) hx hb hts in_X4_quit_X4 hown hK.1 hP.1 0 rfl rfl 3 (by decide) (hts _ fl_X4_quit_33) (fun _ h9 => h9) rfl dX4_quit_12 ?_
  refine lv_iload_n hx hb dX4_quit_15 rfl (lv_at hl 1 rfl) ?_
  refine k_callVr (rest := []) (r := a (100 + y.toNatClampNeg)) ⟨hx, hb, hml, hown, hts⟩ (c_Jx4a65c_get_915e3 l D q a S cap nl y.toNatClampNeg hnl (by omega)) (cwV 1 hts gX4_quit_Jx4a65c_get_915e3 rfl rfl rfl (by decide +kernel) ⟨Nat.le_of_ble_eq_true rfl, Nat.le_of_ble_eq_true rfl⟩) hK hP.1 (va_recv hK.1 hP.1 (ci := 0) (q0 := 4) rfl rfl) rfl hl.1 rfl (Nat.le_of_ble_eq_true rfl) dX4_quit_16 ⟨Nat.le_of_ble_eq_true rfl, Nat.le_of_ble_eq_true rfl⟩ ?_
  refine va_castS (nm := "LampCounts$Lease") hx hb hown (hts _ cl_X4_quit_101) (hK.1.1 3 _ rfl).2 (va_recv hK.1 hP.1 (ci := 3) (q0 := 27 + y.toNatClampNeg) rfl (wC_ls (by omega) (by omega))) dX4_quit_19 ?_
  refine lv_astore_n (lv' := [(2, .ref (a (100 + y.toNatClampNeg))), (0, .ref (a 0)), (1, .int (nI y.toNatClampNeg))]) hx hb dX4_quit_22 rfl hl (by decide) rfl (fun ls hl => ?_)
  refine lv_aload_n hx hb dX4_quit_23 rfl (lv_at hl 0 rfl) ?_
  refine va_get (D := D) (ci := 3) (v := .int (S 36 y.toNatClampNeg)) (C := RX2) (T := TX2) (N := 9) hx hb hts in_X4_quit_X2 hown hK.1 hP.1 (27 + y.toNatClampNeg) (wC_ls (by omega) (by omega)) rfl 6 (by decide) (hts _ fl_X4_quit_118) (fun _ h9 => h9) rfl dX4_quit_24 ?_
  refine lv_aload_n hx hb dX4_quit_27 rfl (lv_at hl 1 rfl) ?_
  refine va_get (D := D) (ci := 5) (v := .int (S 0 0)) (C := RX4) (T := TX4) (N := 6) hx hb hts in_X4_quit_X4 hown hK.1 hP.1 0 rfl rfl 5 (by decide) (hts _ fl_X4_quit_41) (fun _ h9 => h9) rfl dX4_quit_28 ?_
  refine k_top (y := nI w0) hnow ?_
  refine k_icmp_le (P := S 36 y.toNatClampNeg ≤ nI w0) (tgt := 38) hx hb dX4_quit_31 (by decide) Iff.rfl (fun c_2 => ?_) (fun c_2 => ?_)
  · skip
    refine lv_iconst (v := nI 0) hx hb dX4_quit_38 (by decide) ?_
    refine k_goXv hS (vx_runS (rest := []) ⟨hx, hb, hml, hown, hts⟩ (c_X4_requireState l hl0 D q A (wC q a S cap nl) (nI 0)) (va_cwS 1 hts gX4_quit_X4_requireState rfl rfl rfl (by decide +kernel) ⟨Nat.le_of_ble_eq_true rfl, Nat.le_of_ble_eq_true rfl⟩) ⟨kBX_blind, fun U hU hW => ⟨rfl, by rw [hU]; exact hP, hK.warm hW, hX.at hS hU hW⟩⟩ rfl rfl hl.1 rfl (lv_room (Nat.le_of_ble_eq_true rfl)) dX4_quit_39 ⟨Nat.le_of_ble_eq_true rfl, Nat.le_of_ble_eq_true rfl⟩) (fun E ce q9 H locs hE hP hS h1 h2 h3 => k_outX hout hlocks h1 h2 h3 (⟨1, by rw [hE.1]; rfl, by unfold coQuit; rw [if_pos c_1, if_pos c_2]; try rfl⟩) hP hS (Nat.le_of_ble_eq_true rfl) (Nat.le_of_ble_eq_true rfl)) (fun H locs c_3 hP hS => ?_)
    exact absurd rfl c_3
  · skip
    refine lv_iconst (v := nI 1) hx hb dX4_quit_34 (by decide) ?_
    refine lv_goto (tgt := 39) hx hb dX4_quit_35 (by decide) ?_
    refine k_goXv hS (vx_runS (rest := []) ⟨hx, hb, hml, hown, hts⟩ (c_X4_requireState l hl0 D q A (wC q a S cap nl) (nI 1)) (va_cwS 1 hts gX4_quit_X4_requireState rfl rfl rfl (by decide +kernel) ⟨Nat.le_of_ble_eq_true rfl, Nat.le_of_ble_eq_true rfl⟩) ⟨kBX_blind, fun U hU hW => ⟨rfl, by rw [hU]; exact hP, hK.warm hW, hX.at hS hU hW⟩⟩ rfl rfl hl.1 rfl (lv_room (Nat.le_of_ble_eq_true rfl)) dX4_quit_39 ⟨Nat.le_of_ble_eq_true rfl, Nat.le_of_ble_eq_true rfl⟩) (fun E ce q9 H locs hE hP hS h1 h2 h3 => absurd hE.2 (by decide)) (fun H locs c_4 hP hS => ?_)
    refine lv_aload_n hx hb dX4_quit_42 rfl (lv_at hl 0 rfl) ?_
    refine lv_aload_n hx hb dX4_quit_43 rfl (lv_at hl 1 rfl) ?_
    refine va_get (D := D) (ci := 5) (v := .int (S 0 0)) (C := RX4) (T := TX4) (N := 6) hx hb hts in_X4_quit_X4 hown hK.1 hP.1 0 rfl rfl 5 (by decide) (hts _ fl_X4_quit_41) (fun _ h9 => h9) rfl dX4_quit_44 ?_
    refine k_top (y := nI w0) hnow ?_
    refine k_puti (wC q a ((up S 36 y.toNatClampNeg (nI w0))) cap nl) hx hb hts in_X4_quit_X2 tyX2 tyX2_ok nmX2 hown hK hP hS (27 + y.toNatClampNeg) (wC_ls (by omega) (by omega)) rfl 6 (by decide) (hts _ fl_X4_quit_118) (fun _ h9 => h9) rfl (by decide +kernel) (Nat.le_of_ble_eq_true rfl) (wC_lset6 (by omega) (by omega)) dX4_quit_47 (fun H locs hP hS => ?_)
    refine lv_aload_n hx hb dX4_quit_50 rfl (lv_at hl 1 rfl) ?_
    refine va_get (D := D) (ci := 5) (v := .int (((up S 36 y.toNatClampNeg (nI w0))) 0 0)) (C := RX4) (T := TX4) (N := 6) hx hb hts in_X4_quit_X4 hown hK.1 hP.1 0 rfl rfl 5 (by decide) (hts _ fl_X4_quit_41) (fun _ h9 => h9) rfl dX4_quit_51 ?_
    refine k_top (y := S 0 0) (congrFun (up_n (by decide)) _) ?_
    refine k_top (y := nI w0) hnow ?_
    refine lv_aload_n hx hb dX4_quit_54 rfl (lv_at hl 0 rfl) ?_
    refine va_get (D := D) (ci := 3) (v := .int (((up S 36 y.toNatClampNeg (nI w0))) 35 y.toNatClampNeg)) (C := RX2) (T := TX2) (N := 9) hx hb hts in_X4_quit_X2 hown hK.1 hP.1 (27 + y.toNatClampNeg) (wC_ls (by omega) (by omega)) rfl 5 (by decide) (hts _ fl_X4_quit_121) (fun _ h9 => h9) rfl dX4_quit_55 ?_
    refine k_top (y := S 35 y.toNatClampNeg) (congrFun (up_n (by decide)) _) ?_
    refine lv_isub hx hb dX4_quit_58 ?_
    have eM : (up S 36 y.toNatClampNeg (nI w0)) = (coQuit S w0 nl y).2.2 := by unfold coQuit; rw [if_pos c_1, if_neg c_2]; try rfl
    rw [eM] at hP
    exact k_iretX hx hb hr hlocks hP hS ⟨by unfold coQuit; rw [if_pos c_1, if_neg c_2]; try rfl, by unfold coQuit; rw [if_pos c_1, if_neg c_2]; try rfl⟩ (Nat.le_of_ble_eq_true rfl) (Nat.le_of_ble_eq_true rfl) dX4_quit_59
theorem fl_X4_pay_37 : Cond.fieldLink RX4 37 "LampCounts" "paid" "[I" ∈ wsX4_pay := by decide +kernel
theorem cs_X4_pay_124 : Cond.constant RX4 124 (nI 100000) ∈ wsX4_pay := by decide +kernel
theorem cs_X4_pay_125 : Cond.constant RX4 125 (nI 1000000) ∈ wsX4_pay := by decide +kernel
theorem in_X4_pay_X4 : ∀ w ∈ u_ws RX4 TX4 6, w ∈ wsX4_pay := by decide +kernel
set_option maxHeartbeats 4000000 in
set_option maxRecDepth 100000 in
theorem c_X4_pay (l : Launch) (hl0 : l.stackTraces = false) (D : va_G) (q : Nat → ClassId) (A : Nat → Prop) (a : Nat → Nat) (S : Nat → Nat → Int32) (cap nl : Nat) (who mo : Int32) (hnl : nl ≤ cap ∧ cap ≤ 40 ∧ nl ≤ 30) : vx_Met l yX4_pay wsX4_pay ({ frames := 7, cells := 3, slots := 18, locals := 222 } : Room) (va_Pc [.ref (a 0), .int (who), .int (mo)] (kBX D q A (fun H => kW D A (wC q a S cap nl) H))) (kXi D A (fun r => (coPay S nl who mo).1 = nI 0 ∧ r = (coPay S nl who mo).2.1) (wC q a ((coPay S nl who mo).2.2) cap nl)) (kXC D A (wC q a S cap nl) (fun E => exC [eI, eA, eS] E (coPay S nl who mo).1)) 3 18 A := by
  refine vx_ofW (cc := cX4_pay) (maxL := 3) (ret := (some .int)) (by decide) rfl ?_
  intro p e u m args below meth c s₁ B hml0 hout hv
  obtain ⟨rfl, hP, hK, hX⟩ := hv
  have C0 : kAt p u m #[.ref (a 0), .int (who), .int (mo)] meth c cX4_pay 3 (some .int) RX4 wsX4_pay := kAt_of B hml0
  obtain ⟨hx, hb, hr, hml, hown, hts, hlocks⟩ := id C0
  have hS : va_S A u.heap u.heap [] := va_S.rf
  have hl := lv_entry ([.ref (a 0), .int (who), .int (mo)]) (n := 3) (Nat.le_of_ble_eq_true rfl)
  rw [lg_entry_eq]
  generalize (lg_sl ([.ref (a 0), .int (who), .int (mo)]) ++ List.replicate (3 - (lg_sl ([.ref (a 0), .int (who), .int (mo)])).length) Slot.unset).toArray = ls at hl ⊢
  have hl : lv_has ls 3 [(0, .ref (a 0)), (1, .int (who)), (2, .int (mo))] := hl
  refine lv_iload_n hx hb dX4_pay_0 rfl (lv_at hl 1 rfl) ?_
  refine lv_bipush (v := nI 6) hx hb dX4_pay_1 (by decide) ?_
  refine k_goXv hS (vx_runS (rest := []) ⟨hx, hb, hml, hown, hts⟩ (c_X4_requireIndex l hl0 D q A (wC q a S cap nl) who (nI 6)) (va_cwS 2 hts gX4_pay_X4_requireIndex rfl rfl rfl (by decide +kernel) ⟨Nat.le_of_ble_eq_true rfl, Nat.le_of_ble_eq_true rfl⟩) ⟨kBX_blind, fun U hU hW => ⟨rfl, by rw [hU]; exact hP, hK.warm hW, hX.at hS hU hW⟩⟩ rfl rfl hl.1 rfl (lv_room (Nat.le_of_ble_eq_true rfl)) dX4_pay_3 ⟨Nat.le_of_ble_eq_true rfl, Nat.le_of_ble_eq_true rfl⟩) (fun E ce q9 H locs hE hP hS h1 h2 h3 => k_outX hout hlocks h1 h2 h3 (⟨0, by rw [hE.1]; rfl, by unfold coPay; rw [if_neg hE.2]; try rfl⟩) hP hS (Nat.le_of_ble_eq_true rfl) (Nat.le_of_ble_eq_true rfl)) (fun H locs c_1 hP hS => ?_)
  obtain ⟨e_who, b_who⟩ := ixP_nat c_1 (by omega)
  rw [e_who] at hl
  refine lv_iload_n hx hb dX4_pay_6 rfl (lv_at hl 2 rfl) ?_
  refine lv_iconst (v := nI 1) hx hb dX4_pay_7 (by decide) ?_
  refine lv_ldc (v := nI 100000) hx hb hown (hts _ cs_X4_pay_124) dX4_pay_8 ?_
  refine k_goXv hS (vx_runS (rest := []) ⟨hx, hb, hml, hown, hts⟩ (c_X4_requireWithin l hl0 D q A (wC q a S cap nl) mo (nI 1) (nI 100000)) (va_cwS 3 hts gX4_pay_X4_requireWithin rfl rfl rfl (by decide +kernel) ⟨Nat.le_of_ble_eq_true rfl, Nat.le_of_ble_eq_true rfl⟩) ⟨kBX_blind, fun U hU hW => ⟨rfl, by rw [hU]; exact hP, hK.warm hW, hX.at hS hU hW⟩⟩ rfl rfl hl.1 rfl (lv_room (Nat.le_of_ble_eq_true rfl)) dX4_pay_10 ⟨Nat.le_of_ble_eq_true rfl, Nat.le_of_ble_eq_true rfl⟩) (fun E ce q9 H locs hE hP hS h1 h2 h3 => k_outX hout hlocks h1 h2 h3 (⟨1, by rw [hE.1]; rfl, by unfold coPay; rw [if_pos c_1, if_neg hE.2]; try rfl⟩) hP hS (Nat.le_of_ble_eq_true rfl) (Nat.le_of_ble_eq_true rfl)) (fun H locs c_2 hP hS => ?_)
  refine lv_aload_n hx hb dX4_pay_13 rfl (lv_at hl 0 rfl) ?_
  refine va_get (D := D) (ci := 5) (v := .ref (a 5)) (C := RX4) (T := TX4) (N := 6) hx hb hts in_X4_pay_X4 hown hK.1 hP.1 0 rfl rfl 4 (by decide) (hts _ fl_X4_pay_37) (fun _ h9 => h9) rfl dX4_pay_14 ?_
  refine lv_iload_n hx hb dX4_pay_17 rfl (lv_at hl 1 rfl) ?_
  refine k_iald hx hb hK hP.1 5 rfl who.toNatClampNeg rfl (by omega) (by decide) dX4_pay_18 ?_
  refine lv_iload_n hx hb dX4_pay_19 rfl (lv_at hl 2 rfl) ?_
  refine lv_iadd hx hb dX4_pay_20 ?_
  refine lv_ldc (v := nI 1000000) hx hb hown (hts _ cs_X4_pay_125) dX4_pay_21 ?_
  refine k_icmp_gt (P := (S 5 who.toNatClampNeg) + mo ≤ nI 1000000) (tgt := 30) hx hb dX4_pay_23 (by decide) Iff.rfl (fun c_3 => ?_) (fun c_3 => ?_)
  · skip
    refine lv_iconst (v := nI 0) hx hb dX4_pay_30 (by decide) ?_
    refine k_goXv hS (vx_runS (rest := []) ⟨hx, hb, hml, hown, hts⟩ (c_X4_requireState l hl0 D q A (wC q a S cap nl) (nI 0)) (va_cwS 1 hts gX4_pay_X4_requireState rfl rfl rfl (by decide +kernel) ⟨Nat.le_of_ble_eq_true rfl, Nat.le_of_ble_eq_true rfl⟩) ⟨kBX_blind, fun U hU hW => ⟨rfl, by rw [hU]; exact hP, hK.warm hW, hX.at hS hU hW⟩⟩ rfl rfl hl.1 rfl (lv_room (Nat.le_of_ble_eq_true rfl)) dX4_pay_31 ⟨Nat.le_of_ble_eq_true rfl, Nat.le_of_ble_eq_true rfl⟩) (fun E ce q9 H locs hE hP hS h1 h2 h3 => k_outX hout hlocks h1 h2 h3 (⟨2, by rw [hE.1]; rfl, by unfold coPay; rw [if_pos c_1, if_pos c_2, if_neg c_3]; try rfl⟩) hP hS (Nat.le_of_ble_eq_true rfl) (Nat.le_of_ble_eq_true rfl)) (fun H locs c_4 hP hS => ?_)
    exact absurd rfl c_4
  · skip
    refine lv_iconst (v := nI 1) hx hb dX4_pay_26 (by decide) ?_
    refine lv_goto (tgt := 31) hx hb dX4_pay_27 (by decide) ?_
    refine k_goXv hS (vx_runS (rest := []) ⟨hx, hb, hml, hown, hts⟩ (c_X4_requireState l hl0 D q A (wC q a S cap nl) (nI 1)) (va_cwS 1 hts gX4_pay_X4_requireState rfl rfl rfl (by decide +kernel) ⟨Nat.le_of_ble_eq_true rfl, Nat.le_of_ble_eq_true rfl⟩) ⟨kBX_blind, fun U hU hW => ⟨rfl, by rw [hU]; exact hP, hK.warm hW, hX.at hS hU hW⟩⟩ rfl rfl hl.1 rfl (lv_room (Nat.le_of_ble_eq_true rfl)) dX4_pay_31 ⟨Nat.le_of_ble_eq_true rfl, Nat.le_of_ble_eq_true rfl⟩) (fun E ce q9 H locs hE hP hS h1 h2 h3 => absurd hE.2 (by decide)) (fun H locs c_5 hP hS => ?_)
    refine lv_aload_n hx hb dX4_pay_34 rfl (lv_at hl 0 rfl) ?_
    refine va_get (D := D) (ci := 5) (v := .ref (a 5)) (C := RX4) (T := TX4) (N := 6) hx hb hts in_X4_pay_X4 hown hK.1 hP.1 0 rfl rfl 4 (by decide) (hts _ fl_X4_pay_37) (fun _ h9 => h9) rfl dX4_pay_35 ?_
    refine lv_iload_n hx hb dX4_pay_38 rfl (lv_at hl 1 rfl) ?_
    refine lv_dup2_11 hx hb dX4_pay_39 rfl rfl ?_
    refine k_iald hx hb hK hP.1 5 rfl who.toNatClampNeg rfl (by omega) (by decide) dX4_pay_40 ?_
    refine lv_iload_n hx hb dX4_pay_41 rfl (lv_at hl 2 rfl) ?_
    refine lv_iadd hx hb dX4_pay_42 ?_
    refine k_iast (wC q a ((up S 5 who.toNatClampNeg ((S 5 who.toNatClampNeg) + mo))) cap nl) hx hb hK hP hS 5 rfl who.toNatClampNeg rfl (by omega) (by decide) wC_s5 dX4_pay_43 (fun H locs hP hS => ?_)
    refine lv_aload_n hx hb dX4_pay_44 rfl (lv_at hl 0 rfl) ?_
    refine lv_iload_n hx hb dX4_pay_45 rfl (lv_at hl 1 rfl) ?_
    refine k_callV (rest := []) (r := dbF ((up S 5 who.toNatClampNeg ((S 5 who.toNatClampNeg) + mo))) who.toNatClampNeg nl) ⟨hx, hb, hml, hown, hts⟩ (c_X4_debt l D q a ((up S 5 who.toNatClampNeg ((S 5 who.toNatClampNeg) + mo))) cap nl who.toNatClampNeg (by omega) hnl) (cwV 1 hts gX4_pay_X4_debt rfl rfl rfl (by decide +kernel) ⟨Nat.le_of_ble_eq_true rfl, Nat.le_of_ble_eq_true rfl⟩) hK hP.1 (va_recv hK.1 hP.1 (ci := 5) (q0 := 0) rfl rfl) rfl hl.1 rfl (Nat.le_of_ble_eq_true rfl) dX4_pay_46 ⟨Nat.le_of_ble_eq_true rfl, Nat.le_of_ble_eq_true rfl⟩ (fun _ h => h) ?_
    have eM : (up S 5 who.toNatClampNeg ((S 5 who.toNatClampNeg) + mo)) = (coPay S nl who mo).2.2 := by unfold coPay; rw [if_pos c_1, if_pos c_2, if_pos c_3]; try rfl
    rw [eM] at hP
    exact k_iretX hx hb hr hlocks hP hS ⟨by unfold coPay; rw [if_pos c_1, if_pos c_2, if_pos c_3]; try rfl, by unfold coPay; rw [if_pos c_1, if_pos c_2, if_pos c_3]; try rfl⟩ (Nat.le_of_ble_eq_true rfl) (Nat.le_of_ble_eq_true rfl) dX4_pay_49
theorem fl_X4_setSkill_26 : Cond.fieldLink RX4 26 "LampCounts" "buskers" "LLampCounts$Buskers;" ∈ wsX4_setSkill := by decide +kernel
theorem fl_X4_setSkill_130 : Cond.fieldLink RX4 130 "LampCounts$Buskers" "skills" "[I" ∈ wsX4_setSkill := by decide +kernel
theorem in_X4_setSkill_X0 : ∀ w ∈ u_ws RX0 TX0 9, w ∈ wsX4_setSkill := by decide +kernel
theorem in_X4_setSkill_X4 : ∀ w ∈ u_ws RX4 TX4 6, w ∈ wsX4_setSkill := by decide +kernel
set_option maxHeartbeats 4000000 in
set_option maxRecDepth 100000 in
theorem c_X4_setSkill (l : Launch) (hl0 : l.stackTraces = false) (D : va_G) (q : Nat → ClassId) (A : Nat → Prop) (a : Nat → Nat) (S : Nat → Nat → Int32) (cap nl : Nat) (b to : Int32)  : vx_Met l yX4_setSkill wsX4_setSkill ({ frames := 7, cells := 2, slots := 12, locals := 222 } : Room) (va_Pc [.ref (a 0), .int (b), .int (to)] (kBX D q A (fun H => kW D A (wC q a S cap nl) H))) (kXi D A (fun r => (coSetSkill S b to).1 = nI 0 ∧ r = (coSetSkill S b to).2.1) (wC q a ((coSetSkill S b to).2.2) cap nl)) (kXC D A (wC q a S cap nl) (fun E => exC [eI, eA] E (coSetSkill S b to).1)) 2 12 A := by
  refine vx_ofW (cc := cX4_setSkill) (maxL := 4) (ret := (some .int)) (by decide) rfl ?_
  intro p e u m args below meth c s₁ B hml0 hout hv
  obtain ⟨rfl, hP, hK, hX⟩ := hv
  have C0 : kAt p u m #[.ref (a 0), .int (b), .int (to)] meth c cX4_setSkill 4 (some .int) RX4 wsX4_setSkill := kAt_of B hml0
  obtain ⟨hx, hb, hr, hml, hown, hts, hlocks⟩ := id C0
  have hS : va_S A u.heap u.heap [] := va_S.rf
  have hl := lv_entry ([.ref (a 0), .int (b), .int (to)]) (n := 4) (Nat.le_of_ble_eq_true rfl)
  rw [lg_entry_eq]
  generalize (lg_sl ([.ref (a 0), .int (b), .int (to)]) ++ List.replicate (4 - (lg_sl ([.ref (a 0), .int (b), .int (to)])).length) Slot.unset).toArray = ls at hl ⊢
  have hl : lv_has ls 4 [(0, .ref (a 0)), (1, .int (b)), (2, .int (to))] := hl
  refine lv_iload_n hx hb dX4_setSkill_0 rfl (lv_at hl 1 rfl) ?_
  refine lv_bipush (v := nI 6) hx hb dX4_setSkill_1 (by decide) ?_
  refine k_goXv hS (vx_runS (rest := []) ⟨hx, hb, hml, hown, hts⟩ (c_X4_requireIndex l hl0 D q A (wC q a S cap nl) b (nI 6)) (va_cwS 2 hts gX4_setSkill_X4_requireIndex rfl rfl rfl (by decide +kernel) ⟨Nat.le_of_ble_eq_true rfl, Nat.le_of_ble_eq_true rfl⟩) ⟨kBX_blind, fun U hU hW => ⟨rfl, by rw [hU]; exact hP, hK.warm hW, hX.at hS hU hW⟩⟩ rfl rfl hl.1 rfl (lv_room (Nat.le_of_ble_eq_true rfl)) dX4_setSkill_3 ⟨Nat.le_of_ble_eq_true rfl, Nat.le_of_ble_eq_true rfl⟩) (fun E ce q9 H locs hE hP hS h1 h2 h3 => k_outX hout hlocks h1 h2 h3 (⟨0, by rw [hE.1]; rfl, by unfold coSetSkill; rw [if_neg hE.2]; try rfl⟩) hP hS (Nat.le_of_ble_eq_true rfl) (Nat.le_of_ble_eq_true rfl)) (fun H locs c_1 hP hS => ?_)
  obtain ⟨e_b, b_b⟩ := ixP_nat c_1 (by omega)
  rw [e_b] at hl
  refine lv_iload_n hx hb dX4_setSkill_6 rfl (lv_at hl 2 rfl) ?_
  refine lv_iconst (v := nI 0) hx hb dX4_setSkill_7 (by decide) ?_
  refine lv_bipush (v := nI 50) hx hb dX4_setSkill_8 (by decide) ?_
  refine k_goXv hS (vx_runS (rest := []) ⟨hx, hb, hml, hown, hts⟩ (c_X4_requireWithin l hl0 D q A (wC q a S cap nl) to (nI 0) (nI 50)) (va_cwS 3 hts gX4_setSkill_X4_requireWithin rfl rfl rfl (by decide +kernel) ⟨Nat.le_of_ble_eq_true rfl, Nat.le_of_ble_eq_true rfl⟩) ⟨kBX_blind, fun U hU hW => ⟨rfl, by rw [hU]; exact hP, hK.warm hW, hX.at hS hU hW⟩⟩ rfl rfl hl.1 rfl (lv_room (Nat.le_of_ble_eq_true rfl)) dX4_setSkill_10 ⟨Nat.le_of_ble_eq_true rfl, Nat.le_of_ble_eq_true rfl⟩) (fun E ce q9 H locs hE hP hS h1 h2 h3 => k_outX hout hlocks h1 h2 h3 (⟨1, by rw [hE.1]; rfl, by unfold coSetSkill; rw [if_pos c_1, if_neg hE.2]; try rfl⟩) hP hS (Nat.le_of_ble_eq_true rfl) (Nat.le_of_ble_eq_true rfl)) (fun H locs c_2 hP hS => ?_)
  refine lv_aload_n hx hb dX4_setSkill_13 rfl (lv_at hl 0 rfl) ?_
  refine va_get (D := D) (ci := 5) (v := .ref (a 3)) (C := RX4) (T := TX4) (N := 6) hx hb hts in_X4_setSkill_X4 hown hK.1 hP.1 0 rfl rfl 2 (by decide) (hts _ fl_X4_setSkill_26) (fun _ h9 => h9) rfl dX4_setSkill_14 ?_
  refine va_get (D := D) (ci := 1) (v := .ref (a 18)) (C := RX0) (T := TX0) (N := 9) hx hb hts in_X4_setSkill_X0 hown hK.1 hP.1 3 rfl rfl 0 (by decide) (hts _ fl_X4_setSkill_130) (fun _ h9 => h9) rfl dX4_setSkill_17 ?_
  refine lv_iload_n hx hb dX4_setSkill_20 rfl (lv_at hl 1 rfl) ?_
  refine k_iald hx hb hK hP.1 18 rfl b.toNatClampNeg rfl (by omega) (by decide) dX4_setSkill_21 ?_
  refine lv_istore_n (lv' := [(3, .int (S 18 b.toNatClampNeg)), (0, .ref (a 0)), (1, .int (nI b.toNatClampNeg)), (2, .int (to))]) hx hb dX4_setSkill_22 rfl hl (by decide) rfl (fun ls hl => ?_)
  refine lv_aload_n hx hb dX4_setSkill_23 rfl (lv_at hl 1 rfl) ?_
  refine va_get (D := D) (ci := 5) (v := .ref (a 3)) (C := RX4) (T := TX4) (N := 6) hx hb hts in_X4_setSkill_X4 hown hK.1 hP.1 0 rfl rfl 2 (by decide) (hts _ fl_X4_setSkill_26) (fun _ h9 => h9) rfl dX4_setSkill_24 ?_
  refine va_get (D := D) (ci := 1) (v := .ref (a 18)) (C := RX0) (T := TX0) (N := 9) hx hb hts in_X4_setSkill_X0 hown hK.1 hP.1 3 rfl rfl 0 (by decide) (hts _ fl_X4_setSkill_130) (fun _ h9 => h9) rfl dX4_setSkill_27 ?_
  refine lv_iload_n hx hb dX4_setSkill_30 rfl (lv_at hl 2 rfl) ?_
  refine lv_iload_n hx hb dX4_setSkill_31 rfl (lv_at hl 3 rfl) ?_
  refine k_iast (wC q a ((up S 18 b.toNatClampNeg to)) cap nl) hx hb hK hP hS 18 rfl b.toNatClampNeg rfl (by omega) (by decide) wC_s18 dX4_setSkill_32 (fun H locs hP hS => ?_)
  refine lv_iload_n hx hb dX4_setSkill_33 rfl (lv_at hl 0 rfl) ?_
  have eM : (up S 18 b.toNatClampNeg to) = (coSetSkill S b to).2.2 := by unfold coSetSkill; rw [if_pos c_1, if_pos c_2]; try rfl
  rw [eM] at hP
  exact k_iretX hx hb hr hlocks hP hS ⟨by unfold coSetSkill; rw [if_pos c_1, if_pos c_2]; try rfl, by unfold coSetSkill; rw [if_pos c_1, if_pos c_2]; try rfl⟩ (Nat.le_of_ble_eq_true rfl) (Nat.le_of_ble_eq_true rfl) dX4_setSkill_34
theorem fl_X4_ask_26 : Cond.fieldLink RX4 26 "LampCounts" "buskers" "LLampCounts$Buskers;" ∈ wsX4_ask := by decide +kernel
theorem fl_X4_ask_136 : Cond.fieldLink RX4 136 "LampCounts$Buskers" "asks" "[Z" ∈ wsX4_ask := by decide +kernel
theorem in_X4_ask_X0 : ∀ w ∈ u_ws RX0 TX0 9, w ∈ wsX4_ask := by decide +kernel
theorem in_X4_ask_X4 : ∀ w ∈ u_ws RX4 TX4 6, w ∈ wsX4_ask := by decide +kernel
set_option maxHeartbeats 4000000 in
set_option maxRecDepth 100000 in
theorem c_X4_ask (l : Launch) (hl0 : l.stackTraces = false) (D : va_G) (q : Nat → ClassId) (A : Nat → Prop) (a : Nat → Nat) (S : Nat → Nat → Int32) (cap nl : Nat) (b s : Int32)  : vx_Met l yX4_ask wsX4_ask ({ frames := 7, cells := 3, slots := 18, locals := 221 } : Room) (va_Pc [.ref (a 0), .int (b), .int (s)] (kBX D q A (fun H => kW D A (wC q a S cap nl) H))) (kXi D A (fun r => (coAsk S b s).1 = nI 0 ∧ r = (coAsk S b s).2.1) (wC q a ((coAsk S b s).2.2) cap nl)) (kXC D A (wC q a S cap nl) (fun E => exC [eI, eS] E (coAsk S b s).1)) 3 18 A := by
  refine vx_ofW (cc := cX4_ask) (maxL := 4) (ret := (some .int)) (by decide) rfl ?_
  intro p e u m args below meth c s₁ B hml0 hout hv
  obtain ⟨rfl, hP, hK, hX⟩ := hv
  have C0 : kAt p u m #[.ref (a 0), .int (b), .int (s)] meth c cX4_ask 4 (some .int) RX4 wsX4_ask := kAt_of B hml0
  obtain ⟨hx, hb, hr, hml, hown, hts, hlocks⟩ := id C0
  have hS : va_S A u.heap u.heap [] := va_S.rf
  have hl := lv_entry ([.ref (a 0), .int (b), .int (s)]) (n := 4) (Nat.le_of_ble_eq_true rfl)
  rw [lg_entry_eq]
  generalize (lg_sl ([.ref (a 0), .int (b), .int (s)]) ++ List.replicate (4 - (lg_sl ([.ref (a 0), .int (b), .int (s)])).length) Slot.unset).toArray = ls at hl ⊢
  have hl : lv_has ls 4 [(0, .ref (a 0)), (1, .int (b)), (2, .int (s))] := hl
  refine lv_iload_n hx hb dX4_ask_0 rfl (lv_at hl 1 rfl) ?_
  refine lv_bipush (v := nI 6) hx hb dX4_ask_1 (by decide) ?_
  refine k_goXv hS (vx_runS (rest := []) ⟨hx, hb, hml, hown, hts⟩ (c_X4_requireIndex l hl0 D q A (wC q a S cap nl) b (nI 6)) (va_cwS 2 hts gX4_ask_X4_requireIndex rfl rfl rfl (by decide +kernel) ⟨Nat.le_of_ble_eq_true rfl, Nat.le_of_ble_eq_true rfl⟩) ⟨kBX_blind, fun U hU hW => ⟨rfl, by rw [hU]; exact hP, hK.warm hW, hX.at hS hU hW⟩⟩ rfl rfl hl.1 rfl (lv_room (Nat.le_of_ble_eq_true rfl)) dX4_ask_3 ⟨Nat.le_of_ble_eq_true rfl, Nat.le_of_ble_eq_true rfl⟩) (fun E ce q9 H locs hE hP hS h1 h2 h3 => k_outX hout hlocks h1 h2 h3 (⟨0, by rw [hE.1]; rfl, by unfold coAsk; rw [if_neg hE.2]; try rfl⟩) hP hS (Nat.le_of_ble_eq_true rfl) (Nat.le_of_ble_eq_true rfl)) (fun H locs c_1 hP hS => ?_)
  obtain ⟨e_b, b_b⟩ := ixP_nat c_1 (by omega)
  rw [e_b] at hl
  refine lv_iload_n hx hb dX4_ask_6 rfl (lv_at hl 2 rfl) ?_
  refine lv_bipush (v := nI 12) hx hb dX4_ask_7 (by decide) ?_
  refine k_goXv hS (vx_runS (rest := []) ⟨hx, hb, hml, hown, hts⟩ (c_X4_requireIndex l hl0 D q A (wC q a S cap nl) s (nI 12)) (va_cwS 2 hts gX4_ask_X4_requireIndex rfl rfl rfl (by decide +kernel) ⟨Nat.le_of_ble_eq_true rfl, Nat.le_of_ble_eq_true rfl⟩) ⟨kBX_blind, fun U hU hW => ⟨rfl, by rw [hU]; exact hP, hK.warm hW, hX.at hS hU hW⟩⟩ rfl rfl hl.1 rfl (lv_room (Nat.le_of_ble_eq_true rfl)) dX4_ask_9 ⟨Nat.le_of_ble_eq_true rfl, Nat.le_of_ble_eq_true rfl⟩) (fun E ce q9 H locs hE hP hS h1 h2 h3 => k_outX hout hlocks h1 h2 h3 (⟨0, by rw [hE.1]; rfl, by unfold coAsk; rw [if_pos c_1, if_neg hE.2]; try rfl⟩) hP hS (Nat.le_of_ble_eq_true rfl) (Nat.le_of_ble_eq_true rfl)) (fun H locs c_2 hP hS => ?_)
  obtain ⟨e_s, b_s⟩ := ixP_nat c_2 (by omega)
  rw [e_s] at hl
  refine lv_iload_n hx hb dX4_ask_12 rfl (lv_at hl 1 rfl) ?_
  refine lv_iload_n hx hb dX4_ask_13 rfl (lv_at hl 2 rfl) ?_
  refine k_callS (rest := []) (r := nI (b.toNatClampNeg * 12 + s.toNatClampNeg)) ⟨hx, hb, hml, hown, hts⟩ (c_X0_wish l D q b.toNatClampNeg s.toNatClampNeg) (va_cwS 2 hts gX4_ask_X0_wish rfl rfl rfl (by decide +kernel) ⟨Nat.le_of_ble_eq_true rfl, Nat.le_of_ble_eq_true rfl⟩) hK trivial rfl hl.1 rfl (Nat.le_of_ble_eq_true rfl) dX4_ask_14 ⟨Nat.le_of_ble_eq_true rfl, Nat.le_of_ble_eq_true rfl⟩ (fun _ h => h) ?_
  refine lv_istore_n (lv' := [(3, .int (nI (b.toNatClampNeg * 12 + s.toNatClampNeg))), (0, .ref (a 0)), (1, .int (nI b.toNatClampNeg)), (2, .int (nI s.toNatClampNeg))]) hx hb dX4_ask_17 rfl hl (by decide) rfl (fun ls hl => ?_)
  refine lv_aload_n hx hb dX4_ask_18 rfl (lv_at hl 1 rfl) ?_
  refine va_get (D := D) (ci := 5) (v := .ref (a 3)) (C := RX4) (T := TX4) (N := 6) hx hb hts in_X4_ask_X4 hown hK.1 hP.1 0 rfl rfl 2 (by decide) (hts _ fl_X4_ask_26) (fun _ h9 => h9) rfl dX4_ask_19 ?_
  refine va_get (D := D) (ci := 1) (v := .ref (a 21)) (C := RX0) (T := TX0) (N := 9) hx hb hts in_X4_ask_X0 hown hK.1 hP.1 3 rfl rfl 3 (by decide) (hts _ fl_X4_ask_136) (fun _ h9 => h9) rfl dX4_ask_22 ?_
  refine lv_iload_n hx hb dX4_ask_25 rfl (lv_at hl 0 rfl) ?_
  refine k_zald hx hb hK hP.1 21 rfl (b.toNatClampNeg * 12 + s.toNatClampNeg) rfl (by omega) (by decide) dX4_ask_26 ?_
  refine k_if_ne (P := S 21 (b.toNatClampNeg * 12 + s.toNatClampNeg) = 0) (tgt := 34) hx hb dX4_ask_27 (by decide) Iff.rfl (fun c_3 => ?_) (fun c_3 => ?_)
  · skip
    refine lv_iconst (v := nI 0) hx hb dX4_ask_34 (by decide) ?_
    refine k_goXv hS (vx_runS (rest := []) ⟨hx, hb, hml, hown, hts⟩ (c_X4_requireState l hl0 D q A (wC q a S cap nl) (nI 0)) (va_cwS 1 hts gX4_ask_X4_requireState rfl rfl rfl (by decide +kernel) ⟨Nat.le_of_ble_eq_true rfl, Nat.le_of_ble_eq_true rfl⟩) ⟨kBX_blind, fun U hU hW => ⟨rfl, by rw [hU]; exact hP, hK.warm hW, hX.at hS hU hW⟩⟩ rfl rfl hl.1 rfl (lv_room (Nat.le_of_ble_eq_true rfl)) dX4_ask_35 ⟨Nat.le_of_ble_eq_true rfl, Nat.le_of_ble_eq_true rfl⟩) (fun E ce q9 H locs hE hP hS h1 h2 h3 => k_outX hout hlocks h1 h2 h3 (⟨1, by rw [hE.1]; rfl, by unfold coAsk; rw [if_pos c_1, if_pos c_2, if_neg c_3]; try rfl⟩) hP hS (Nat.le_of_ble_eq_true rfl) (Nat.le_of_ble_eq_true rfl)) (fun H locs c_4 hP hS => ?_)
    exact absurd rfl c_4
  · skip
    refine lv_iconst (v := nI 1) hx hb dX4_ask_30 (by decide) ?_
    refine lv_goto (tgt := 35) hx hb dX4_ask_31 (by decide) ?_
    refine k_goXv hS (vx_runS (rest := []) ⟨hx, hb, hml, hown, hts⟩ (c_X4_requireState l hl0 D q A (wC q a S cap nl) (nI 1)) (va_cwS 1 hts gX4_ask_X4_requireState rfl rfl rfl (by decide +kernel) ⟨Nat.le_of_ble_eq_true rfl, Nat.le_of_ble_eq_true rfl⟩) ⟨kBX_blind, fun U hU hW => ⟨rfl, by rw [hU]; exact hP, hK.warm hW, hX.at hS hU hW⟩⟩ rfl rfl hl.1 rfl (lv_room (Nat.le_of_ble_eq_true rfl)) dX4_ask_35 ⟨Nat.le_of_ble_eq_true rfl, Nat.le_of_ble_eq_true rfl⟩) (fun E ce q9 H locs hE hP hS h1 h2 h3 => absurd hE.2 (by decide)) (fun H locs c_5 hP hS => ?_)
    refine lv_aload_n hx hb dX4_ask_38 rfl (lv_at hl 1 rfl) ?_
    refine va_get (D := D) (ci := 5) (v := .ref (a 3)) (C := RX4) (T := TX4) (N := 6) hx hb hts in_X4_ask_X4 hown hK.1 hP.1 0 rfl rfl 2 (by decide) (hts _ fl_X4_ask_26) (fun _ h9 => h9) rfl dX4_ask_39 ?_
    refine va_get (D := D) (ci := 1) (v := .ref (a 21)) (C := RX0) (T := TX0) (N := 9) hx hb hts in_X4_ask_X0 hown hK.1 hP.1 3 rfl rfl 3 (by decide) (hts _ fl_X4_ask_136) (fun _ h9 => h9) rfl dX4_ask_42 ?_
    refine lv_iload_n hx hb dX4_ask_45 rfl (lv_at hl 0 rfl) ?_
    refine lv_iconst (v := nI 1) hx hb dX4_ask_46 (by decide) ?_
    refine k_zast (wC q a ((up S 21 (b.toNatClampNeg * 12 + s.toNatClampNeg) (nI 1))) cap nl) hx hb hK hP hS 21 rfl (b.toNatClampNeg * 12 + s.toNatClampNeg) rfl (by omega) (by decide) rfl wC_s21 dX4_ask_47 (fun H locs hP hS => ?_)
    refine lv_aload_n hx hb dX4_ask_48 rfl (lv_at hl 1 rfl) ?_
    refine va_get (D := D) (ci := 5) (v := .ref (a 3)) (C := RX4) (T := TX4) (N := 6) hx hb hts in_X4_ask_X4 hown hK.1 hP.1 0 rfl rfl 2 (by decide) (hts _ fl_X4_ask_26) (fun _ h9 => h9) rfl dX4_ask_49 ?_
    refine lv_iload_n hx hb dX4_ask_52 rfl (lv_at hl 2 rfl) ?_
    refine k_callV (rest := []) (r := akF ((up S 21 (b.toNatClampNeg * 12 + s.toNatClampNeg) (nI 1))) b.toNatClampNeg 12) ⟨hx, hb, hml, hown, hts⟩ (c_X0_askedBy l D q a ((up S 21 (b.toNatClampNeg * 12 + s.toNatClampNeg) (nI 1))) cap nl b.toNatClampNeg (by omega)) (cwV 1 hts gX4_ask_X0_askedBy rfl rfl rfl (by decide +kernel) ⟨Nat.le_of_ble_eq_true rfl, Nat.le_of_ble_eq_true rfl⟩) hK hP.1 (va_recv hK.1 hP.1 (ci := 1) (q0 := 3) rfl rfl) rfl hl.1 rfl (Nat.le_of_ble_eq_true rfl) dX4_ask_53 ⟨Nat.le_of_ble_eq_true rfl, Nat.le_of_ble_eq_true rfl⟩ (fun _ h => h) ?_
    have eM : (up S 21 (b.toNatClampNeg * 12 + s.toNatClampNeg) (nI 1)) = (coAsk S b s).2.2 := by unfold coAsk; rw [if_pos c_1, if_pos c_2, if_pos c_3]; try rfl
    rw [eM] at hP
    exact k_iretX hx hb hr hlocks hP hS ⟨by unfold coAsk; rw [if_pos c_1, if_pos c_2, if_pos c_3]; try rfl, by unfold coAsk; rw [if_pos c_1, if_pos c_2, if_pos c_3]; try rfl⟩ (Nat.le_of_ble_eq_true rfl) (Nat.le_of_ble_eq_true rfl) dX4_ask_56
theorem fl_X4_lot_26 : Cond.fieldLink RX4 26 "LampCounts" "buskers" "LLampCounts$Buskers;" ∈ wsX4_lot := by decide +kernel
theorem fl_X4_lot_142 : Cond.fieldLink RX4 142 "LampCounts$Buskers" "lotsLeft" "I" ∈ wsX4_lot := by decide +kernel
theorem fl_X4_lot_145 : Cond.fieldLink RX4 145 "LampCounts$Buskers" "told" "[I" ∈ wsX4_lot := by decide +kernel
theorem in_X4_lot_X0 : ∀ w ∈ u_ws RX0 TX0 9, w ∈ wsX4_lot := by decide +kernel
theorem in_X4_lot_X4 : ∀ w ∈ u_ws RX4 TX4 6, w ∈ wsX4_lot := by decide +kernel
set_option maxHeartbeats 4000000 in
set_option maxRecDepth 100000 in
theorem c_X4_lot (l : Launch) (hl0 : l.stackTraces = false) (D : va_G) (q : Nat → ClassId) (A : Nat → Prop) (a : Nat → Nat) (S : Nat → Nat → Int32) (cap nl : Nat) (v : Int32) (L : Nat) (hL : S 0 2 = nI L) (hL50 : L ≤ 50) : vx_Met l yX4_lot wsX4_lot ({ frames := 7, cells := 2, slots := 12, locals := 222 } : Room) (va_Pc [.ref (a 0), .int (v)] (kBX D q A (fun H => kW D A (wC q a S cap nl) H))) (kXi D A (fun r => (coLot S L v).1 = nI 0 ∧ r = (coLot S L v).2.1) (wC q a ((coLot S L v).2.2) cap nl)) (kXC D A (wC q a S cap nl) (fun E => exC [eA, eS] E (coLot S L v).1)) 2 12 A := by
  refine vx_ofW (cc := cX4_lot) (maxL := 2) (ret := (some .int)) (by decide) rfl ?_
  intro p e u m args below meth c s₁ B hml0 hout hv
  obtain ⟨rfl, hP, hK, hX⟩ := hv
  have C0 : kAt p u m #[.ref (a 0), .int (v)] meth c cX4_lot 2 (some .int) RX4 wsX4_lot := kAt_of B hml0
  obtain ⟨hx, hb, hr, hml, hown, hts, hlocks⟩ := id C0
  have hS : va_S A u.heap u.heap [] := va_S.rf
  have hl := lv_entry ([.ref (a 0), .int (v)]) (n := 2) (Nat.le_of_ble_eq_true rfl)
  rw [lg_entry_eq]
  generalize (lg_sl ([.ref (a 0), .int (v)]) ++ List.replicate (2 - (lg_sl ([.ref (a 0), .int (v)])).length) Slot.unset).toArray = ls at hl ⊢
  have hl : lv_has ls 2 [(0, .ref (a 0)), (1, .int (v))] := hl
  refine lv_iload_n hx hb dX4_lot_0 rfl (lv_at hl 1 rfl) ?_
  refine lv_iconst (v := nI 0) hx hb dX4_lot_1 (by decide) ?_
  refine lv_sipush (v := nI 1000) hx hb dX4_lot_2 (by decide) ?_
  refine k_goXv hS (vx_runS (rest := []) ⟨hx, hb, hml, hown, hts⟩ (c_X4_requireWithin l hl0 D q A (wC q a S cap nl) v (nI 0) (nI 1000)) (va_cwS 3 hts gX4_lot_X4_requireWithin rfl rfl rfl (by decide +kernel) ⟨Nat.le_of_ble_eq_true rfl, Nat.le_of_ble_eq_true rfl⟩) ⟨kBX_blind, fun U hU hW => ⟨rfl, by rw [hU]; exact hP, hK.warm hW, hX.at hS hU hW⟩⟩ rfl rfl hl.1 rfl (lv_room (Nat.le_of_ble_eq_true rfl)) dX4_lot_5 ⟨Nat.le_of_ble_eq_true rfl, Nat.le_of_ble_eq_true rfl⟩) (fun E ce q9 H locs hE hP hS h1 h2 h3 => k_outX hout hlocks h1 h2 h3 (⟨0, by rw [hE.1]; rfl, by unfold coLot; rw [if_neg hE.2]; try rfl⟩) hP hS (Nat.le_of_ble_eq_true rfl) (Nat.le_of_ble_eq_true rfl)) (fun H locs c_1 hP hS => ?_)
  refine lv_aload_n hx hb dX4_lot_8 rfl (lv_at hl 0 rfl) ?_
  refine va_get (D := D) (ci := 5) (v := .ref (a 3)) (C := RX4) (T := TX4) (N := 6) hx hb hts in_X4_lot_X4 hown hK.1 hP.1 0 rfl rfl 2 (by decide) (hts _ fl_X4_lot_26) (fun _ h9 => h9) rfl dX4_lot_9 ?_
  refine va_get (D := D) (ci := 1) (v := .int (S 0 2)) (C := RX0) (T := TX0) (N := 9) hx hb hts in_X4_lot_X0 hown hK.1 hP.1 3 rfl rfl 8 (by decide) (hts _ fl_X4_lot_142) (fun _ h9 => h9) rfl dX4_lot_12 ?_
  refine k_top (y := nI L) hL ?_
  refine lv_bipush (v := nI 50) hx hb dX4_lot_15 (by decide) ?_
  refine k_icmp_ge (P := L < 50) (tgt := 24) hx hb dX4_lot_17 (by decide) (nI_ltI (by omega) (by omega)) (fun c_2 => ?_) (fun c_2 => ?_)
  · skip
    refine lv_iconst (v := nI 0) hx hb dX4_lot_24 (by decide) ?_
    refine k_goXv hS (vx_runS (rest := []) ⟨hx, hb, hml, hown, hts⟩ (c_X4_requireState l hl0 D q A (wC q a S cap nl) (nI 0)) (va_cwS 1 hts gX4_lot_X4_requireState rfl rfl rfl (by decide +kernel) ⟨Nat.le_of_ble_eq_true rfl, Nat.le_of_ble_eq_true rfl⟩) ⟨kBX_blind, fun U hU hW => ⟨rfl, by rw [hU]; exact hP, hK.warm hW, hX.at hS hU hW⟩⟩ rfl rfl hl.1 rfl (lv_room (Nat.le_of_ble_eq_true rfl)) dX4_lot_25 ⟨Nat.le_of_ble_eq_true rfl, Nat.le_of_ble_eq_true rfl⟩) (fun E ce q9 H locs hE hP hS h1 h2 h3 => k_outX hout hlocks h1 h2 h3 (⟨1, by rw [hE.1]; rfl, by unfold coLot; rw [if_pos c_1, if_neg c_2]; try rfl⟩) hP hS (Nat.le_of_ble_eq_true rfl) (Nat.le_of_ble_eq_true rfl)) (fun H locs c_3 hP hS => ?_)
    exact absurd rfl c_3
  · skip
    refine lv_iconst (v := nI 1) hx hb dX4_lot_20 (by decide) ?_
    refine lv_goto (tgt := 25) hx hb dX4_lot_21 (by decide) ?_
    refine k_goXv hS (vx_runS (rest := []) ⟨hx, hb, hml, hown, hts⟩ (c_X4_requireState l hl0 D q A (wC q a S cap nl) (nI 1)) (va_cwS 1 hts gX4_lot_X4_requireState rfl rfl rfl (by decide +kernel) ⟨Nat.le_of_ble_eq_true rfl, Nat.le_of_ble_eq_true rfl⟩) ⟨kBX_blind, fun U hU hW => ⟨rfl, by rw [hU]; exact hP, hK.warm hW, hX.at hS hU hW⟩⟩ rfl rfl hl.1 rfl (lv_room (Nat.le_of_ble_eq_true rfl)) dX4_lot_25 ⟨Nat.le_of_ble_eq_true rfl, Nat.le_of_ble_eq_true rfl⟩) (fun E ce q9 H locs hE hP hS h1 h2 h3 => absurd hE.2 (by decide)) (fun H locs c_4 hP hS => ?_)
    refine lv_aload_n hx hb dX4_lot_28 rfl (lv_at hl 0 rfl) ?_
    refine va_get (D := D) (ci := 5) (v := .ref (a 3)) (C := RX4) (T := TX4) (N := 6) hx hb hts in_X4_lot_X4 hown hK.1 hP.1 0 rfl rfl 2 (by decide) (hts _ fl_X4_lot_26) (fun _ h9 => h9) rfl dX4_lot_29 ?_
    refine va_get (D := D) (ci := 1) (v := .ref (a 25)) (C := RX0) (T := TX0) (N := 9) hx hb hts in_X4_lot_X0 hown hK.1 hP.1 3 rfl rfl 7 (by decide) (hts _ fl_X4_lot_145) (fun _ h9 => h9) rfl dX4_lot_32 ?_
    refine lv_aload_n hx hb dX4_lot_35 rfl (lv_at hl 0 rfl) ?_
    refine va_get (D := D) (ci := 5) (v := .ref (a 3)) (C := RX4) (T := TX4) (N := 6) hx hb hts in_X4_lot_X4 hown hK.1 hP.1 0 rfl rfl 2 (by decide) (hts _ fl_X4_lot_26) (fun _ h9 => h9) rfl dX4_lot_36 ?_
    refine va_get (D := D) (ci := 1) (v := .int (S 0 2)) (C := RX0) (T := TX0) (N := 9) hx hb hts in_X4_lot_X0 hown hK.1 hP.1 3 rfl rfl 8 (by decide) (hts _ fl_X4_lot_142) (fun _ h9 => h9) rfl dX4_lot_39 ?_
    refine k_top (y := nI L) hL ?_
    refine lv_iload_n hx hb dX4_lot_42 rfl (lv_at hl 1 rfl) ?_
    refine k_iast (wC q a ((up S 25 L v)) cap nl) hx hb hK hP hS 25 rfl L rfl (by omega) (by decide) wC_s25 dX4_lot_43 (fun H locs hP hS => ?_)
    refine lv_aload_n hx hb dX4_lot_44 rfl (lv_at hl 0 rfl) ?_
    refine va_get (D := D) (ci := 5) (v := .ref (a 3)) (C := RX4) (T := TX4) (N := 6) hx hb hts in_X4_lot_X4 hown hK.1 hP.1 0 rfl rfl 2 (by decide) (hts _ fl_X4_lot_26) (fun _ h9 => h9) rfl dX4_lot_45 ?_
    refine lv_dup hx hb dX4_lot_48 rfl ?_
    refine va_get (D := D) (ci := 1) (v := .int (((up S 25 L v)) 0 2)) (C := RX0) (T := TX0) (N := 9) hx hb hts in_X4_lot_X0 hown hK.1 hP.1 3 rfl rfl 8 (by decide) (hts _ fl_X4_lot_142) (fun _ h9 => h9) rfl dX4_lot_49 ?_
    refine k_top (y := S 0 2) (congrFun (up_n (by decide)) _) ?_
    refine k_top (y := nI L) hL ?_
    refine lv_iconst (v := nI 1) hx hb dX4_lot_52 (by decide) ?_
    refine lv_iadd hx hb dX4_lot_53 ?_
    refine k_top (y := nI (L + 1)) (nI_add _ _) ?_
    refine k_puti (wC q a ((up (up S 25 L v) 0 2 (nI (L + 1)))) cap nl) hx hb hts in_X4_lot_X0 tyX0 tyX0_ok nmX0 hown hK hP hS 3 rfl rfl 8 (by decide) (hts _ fl_X4_lot_142) (fun _ h9 => h9) rfl (by decide +kernel) (Nat.le_of_ble_eq_true rfl) wC_f3_8 dX4_lot_54 (fun H locs hP hS => ?_)
    refine lv_aload_n hx hb dX4_lot_57 rfl (lv_at hl 0 rfl) ?_
    refine va_get (D := D) (ci := 5) (v := .ref (a 3)) (C := RX4) (T := TX4) (N := 6) hx hb hts in_X4_lot_X4 hown hK.1 hP.1 0 rfl rfl 2 (by decide) (hts _ fl_X4_lot_26) (fun _ h9 => h9) rfl dX4_lot_58 ?_
    refine va_get (D := D) (ci := 1) (v := .int (((up (up S 25 L v) 0 2 (nI (L + 1)))) 0 2)) (C := RX0) (T := TX0) (N := 9) hx hb hts in_X4_lot_X0 hown hK.1 hP.1 3 rfl rfl 8 (by decide) (hts _ fl_X4_lot_142) (fun _ h9 => h9) rfl dX4_lot_61 ?_
    refine k_top (y := nI (L + 1)) (up_si _ _ _ _) ?_
    have eM : (up (up S 25 L v) 0 2 (nI (L + 1))) = (coLot S L v).2.2 := by unfold coLot; rw [if_pos c_1, if_pos c_2]; try rfl
    rw [eM] at hP
    exact k_iretX hx hb hr hlocks hP hS ⟨by unfold coLot; rw [if_pos c_1, if_pos c_2]; try rfl, by unfold coLot; rw [if_pos c_1, if_pos c_2]; try rfl⟩ (Nat.le_of_ble_eq_true rfl) (Nat.le_of_ble_eq_true rfl) dX4_lot_64
theorem fl_X4_steps_12 : Cond.fieldLink RX4 12 "LampCounts" "street" "LLampCounts$Street;" ∈ wsX4_steps := by decide +kernel
theorem fl_X4_steps_148 : Cond.fieldLink RX4 148 "LampCounts$Street" "walked" "[I" ∈ wsX4_steps := by decide +kernel
theorem in_X4_steps_X3 : ∀ w ∈ u_ws RX3 TX3 5, w ∈ wsX4_steps := by decide +kernel
theorem in_X4_steps_X4 : ∀ w ∈ u_ws RX4 TX4 6, w ∈ wsX4_steps := by decide +kernel
set_option maxHeartbeats 4000000 in
set_option maxRecDepth 100000 in
theorem c_X4_steps (l : Launch) (hl0 : l.stackTraces = false) (D : va_G) (q : Nat → ClassId) (A : Nat → Prop) (a : Nat → Nat) (S : Nat → Nat → Int32) (cap nl : Nat) (s h : Int32) (w0 : Nat) (hnow : S 0 0 = nI w0) (hw200 : w0 ≤ 200) : vx_Met l yX4_steps wsX4_steps ({ frames := 9, cells := 2, slots := 12, locals := 265 } : Room) (va_Pc [.ref (a 0), .int (s), .int (h)] (kBX D q A (fun H => kW D A (wC q a S cap nl) H))) (kXi D A (fun r => (coRow S 8 s h).1 = nI 0 ∧ r = (coRow S 8 s h).2.1) (wC q a ((coRow S 8 s h).2.2) cap nl)) (kXC D A (wC q a S cap nl) (fun E => exC [eI, eA] E (coRow S 8 s h).1)) 2 12 A := by
  refine vx_ofW (cc := cX4_steps) (maxL := 3) (ret := (some .int)) (by decide) rfl ?_
  intro p e u m args below meth c s₁ B hml0 hout hv
  obtain ⟨rfl, hP, hK, hX⟩ := hv
  have C0 : kAt p u m #[.ref (a 0), .int (s), .int (h)] meth c cX4_steps 3 (some .int) RX4 wsX4_steps := kAt_of B hml0
  obtain ⟨hx, hb, hr, hml, hown, hts, hlocks⟩ := id C0
  have hS : va_S A u.heap u.heap [] := va_S.rf
  have hl := lv_entry ([.ref (a 0), .int (s), .int (h)]) (n := 3) (Nat.le_of_ble_eq_true rfl)
  rw [lg_entry_eq]
  generalize (lg_sl ([.ref (a 0), .int (s), .int (h)]) ++ List.replicate (3 - (lg_sl ([.ref (a 0), .int (s), .int (h)])).length) Slot.unset).toArray = ls at hl ⊢
  have hl : lv_has ls 3 [(0, .ref (a 0)), (1, .int (s)), (2, .int (h))] := hl
  refine lv_aload_n hx hb dX4_steps_0 rfl (lv_at hl 0 rfl) ?_
  refine va_get (D := D) (ci := 5) (v := .ref (a 1)) (C := RX4) (T := TX4) (N := 6) hx hb hts in_X4_steps_X4 hown hK.1 hP.1 0 rfl rfl 0 (by decide) (hts _ fl_X4_steps_12) (fun _ h9 => h9) rfl dX4_steps_1 ?_
  refine va_get (D := D) (ci := 4) (v := .ref (a 8)) (C := RX3) (T := TX3) (N := 5) hx hb hts in_X4_steps_X3 hown hK.1 hP.1 1 rfl rfl 2 (by decide) (hts _ fl_X4_steps_148) (fun _ h9 => h9) rfl dX4_steps_4 ?_
  refine lv_aload_n hx hb dX4_steps_7 rfl (lv_at hl 0 rfl) ?_
  refine lv_iload_n hx hb dX4_steps_8 rfl (lv_at hl 1 rfl) ?_
  refine lv_iload_n hx hb dX4_steps_9 rfl (lv_at hl 2 rfl) ?_
  refine k_goXi hS (vx_runV (rest := [.ref (a 8)]) ⟨hx, hb, hml, hown, hts⟩ (c_X4_endedCell l hl0 D q A a S cap nl s h w0 hnow hw200) (cwV 2 hts gX4_steps_X4_endedCell rfl rfl rfl (by decide +kernel) ⟨Nat.le_of_ble_eq_true rfl, Nat.le_of_ble_eq_true rfl⟩) ⟨kBX_blind, (va_recv hK.1 hP.1 (ci := 5) (q0 := 0) rfl rfl), fun U hU hW => ⟨rfl, by rw [hU]; exact hP, hK.warm hW, hX.at hS hU hW⟩⟩ rfl rfl hl.1 rfl (lv_room (Nat.le_of_ble_eq_true rfl)) dX4_steps_10 ⟨Nat.le_of_ble_eq_true rfl, Nat.le_of_ble_eq_true rfl⟩) (fun E ce q9 H locs hE hP hS h1 h2 h3 => k_outX hout hlocks h1 h2 h3 (hE.elim (fun z => ⟨0, by rw [z.1]; rfl, by unfold coRow; rw [if_neg z.2]; try rfl⟩) (fun z => ⟨1, by rw [z.1]; rfl, by unfold coRow; rw [if_pos z.2.1, if_neg z.2.2]; try rfl⟩)) hP hS (Nat.le_of_ble_eq_true rfl) (Nat.le_of_ble_eq_true rfl)) (fun r H locs c_1 hP hS => ?_)
  obtain ⟨c_1a, c_1b, rfl⟩ := c_1
  obtain ⟨e_s, b_s⟩ := ixP_nat c_1a (by omega)
  obtain ⟨e_h, b_h⟩ := inP_lt hnow c_1b (by omega)
  refine k_iald hx hb hK hP.1 8 rfl (h.toNatClampNeg * 12 + s.toNatClampNeg) rfl (by omega) (by decide) dX4_steps_13 ?_
  have eM : S = (coRow S 8 s h).2.2 := by unfold coRow; rw [if_pos c_1a, if_pos c_1b]; try rfl
  rw [eM] at hP
  exact k_iretX hx hb hr hlocks hP hS ⟨by unfold coRow; rw [if_pos c_1a, if_pos c_1b]; try rfl, by unfold coRow; rw [if_pos c_1a, if_pos c_1b]; try rfl⟩ (Nat.le_of_ble_eq_true rfl) (Nat.le_of_ble_eq_true rfl) dX4_steps_14
theorem fl_X4_crowd_12 : Cond.fieldLink RX4 12 "LampCounts" "street" "LLampCounts$Street;" ∈ wsX4_crowd := by decide +kernel
theorem fl_X4_crowd_154 : Cond.fieldLink RX4 154 "LampCounts$Street" "stopped" "[I" ∈ wsX4_crowd := by decide +kernel
theorem in_X4_crowd_X3 : ∀ w ∈ u_ws RX3 TX3 5, w ∈ wsX4_crowd := by decide +kernel
theorem in_X4_crowd_X4 : ∀ w ∈ u_ws RX4 TX4 6, w ∈ wsX4_crowd := by decide +kernel
set_option maxHeartbeats 4000000 in
set_option maxRecDepth 100000 in
theorem c_X4_crowd (l : Launch) (hl0 : l.stackTraces = false) (D : va_G) (q : Nat → ClassId) (A : Nat → Prop) (a : Nat → Nat) (S : Nat → Nat → Int32) (cap nl : Nat) (s h : Int32) (w0 : Nat) (hnow : S 0 0 = nI w0) (hw200 : w0 ≤ 200) : vx_Met l yX4_crowd wsX4_crowd ({ frames := 9, cells := 2, slots := 12, locals := 265 } : Room) (va_Pc [.ref (a 0), .int (s), .int (h)] (kBX D q A (fun H => kW D A (wC q a S cap nl) H))) (kXi D A (fun r => (coRow S 9 s h).1 = nI 0 ∧ r = (coRow S 9 s h).2.1) (wC q a ((coRow S 9 s h).2.2) cap nl)) (kXC D A (wC q a S cap nl) (fun E => exC [eI, eA] E (coRow S 9 s h).1)) 2 12 A := by
  refine vx_ofW (cc := cX4_crowd) (maxL := 3) (ret := (some .int)) (by decide) rfl ?_
  intro p e u m args below meth c s₁ B hml0 hout hv
  obtain ⟨rfl, hP, hK, hX⟩ := hv
  have C0 : kAt p u m #[.ref (a 0), .int (s), .int (h)] meth c cX4_crowd 3 (some .int) RX4 wsX4_crowd := kAt_of B hml0
  obtain ⟨hx, hb, hr, hml, hown, hts, hlocks⟩ := id C0
  have hS : va_S A u.heap u.heap [] := va_S.rf
  have hl := lv_entry ([.ref (a 0), .int (s), .int (h)]) (n := 3) (Nat.le_of_ble_eq_true rfl)
  rw [lg_entry_eq]
  generalize (lg_sl ([.ref (a 0), .int (s), .int (h)]) ++ List.replicate (3 - (lg_sl ([.ref (a 0), .int (s), .int (h)])).length) Slot.unset).toArray = ls at hl ⊢
  have hl : lv_has ls 3 [(0, .ref (a 0)), (1, .int (s)), (2, .int (h))] := hl
  refine lv_aload_n hx hb dX4_crowd_0 rfl (lv_at hl 0 rfl) ?_
  refine va_get (D := D) (ci := 5) (v := .ref (a 1)) (C := RX4) (T := TX4) (N := 6) hx hb hts in_X4_crowd_X4 hown hK.1 hP.1 0 rfl rfl 0 (by decide) (hts _ fl_X4_crowd_12) (fun _ h9 => h9) rfl dX4_crowd_1 ?_
  refine va_get (D := D) (ci := 4) (v := .ref (a 9)) (C := RX3) (T := TX3) (N := 5) hx hb hts in_X4_crowd_X3 hown hK.1 hP.1 1 rfl rfl 3 (by decide) (hts _ fl_X4_crowd_154) (fun _ h9 => h9) rfl dX4_crowd_4 ?_
  refine lv_aload_n hx hb dX4_crowd_7 rfl (lv_at hl 0 rfl) ?_
  refine lv_iload_n hx hb dX4_crowd_8 rfl (lv_at hl 1 rfl) ?_
  refine lv_iload_n hx hb dX4_crowd_9 rfl (lv_at hl 2 rfl) ?_
  refine k_goXi hS (vx_runV (rest := [.ref (a 9)]) ⟨hx, hb, hml, hown, hts⟩ (c_X4_endedCell l hl0 D q A a S cap nl s h w0 hnow hw200) (cwV 2 hts gX4_crowd_X4_endedCell rfl rfl rfl (by decide +kernel) ⟨Nat.le_of_ble_eq_true rfl, Nat.le_of_ble_eq_true rfl⟩) ⟨kBX_blind, (va_recv hK.1 hP.1 (ci := 5) (q0 := 0) rfl rfl), fun U hU hW => ⟨rfl, by rw [hU]; exact hP, hK.warm hW, hX.at hS hU hW⟩⟩ rfl rfl hl.1 rfl (lv_room (Nat.le_of_ble_eq_true rfl)) dX4_crowd_10 ⟨Nat.le_of_ble_eq_true rfl, Nat.le_of_ble_eq_true rfl⟩) (fun E ce q9 H locs hE hP hS h1 h2 h3 => k_outX hout hlocks h1 h2 h3 (hE.elim (fun z => ⟨0, by rw [z.1]; rfl, by unfold coRow; rw [if_neg z.2]; try rfl⟩) (fun z => ⟨1, by rw [z.1]; rfl, by unfold coRow; rw [if_pos z.2.1, if_neg z.2.2]; try rfl⟩)) hP hS (Nat.le_of_ble_eq_true rfl) (Nat.le_of_ble_eq_true rfl)) (fun r H locs c_1 hP hS => ?_)
  obtain ⟨c_1a, c_1b, rfl⟩ := c_1
  obtain ⟨e_s, b_s⟩ := ixP_nat c_1a (by omega)
  obtain ⟨e_h, b_h⟩ := inP_lt hnow c_1b (by omega)
  refine k_iald hx hb hK hP.1 9 rfl (h.toNatClampNeg * 12 + s.toNatClampNeg) rfl (by omega) (by decide) dX4_crowd_13 ?_
  have eM : S = (coRow S 9 s h).2.2 := by unfold coRow; rw [if_pos c_1a, if_pos c_1b]; try rfl
  rw [eM] at hP
  exact k_iretX hx hb hr hlocks hP hS ⟨by unfold coRow; rw [if_pos c_1a, if_pos c_1b]; try rfl, by unfold coRow; rw [if_pos c_1a, if_pos c_1b]; try rfl⟩ (Nat.le_of_ble_eq_true rfl) (Nat.le_of_ble_eq_true rfl) dX4_crowd_14
theorem fl_X4_reading_19 : Cond.fieldLink RX4 19 "LampCounts" "lamps" "LLampCounts$Lamps;" ∈ wsX4_reading := by decide +kernel
theorem fl_X4_reading_92 : Cond.fieldLink RX4 92 "LampCounts$Lamps" "readings" "[I" ∈ wsX4_reading := by decide +kernel
theorem in_X4_reading_X1 : ∀ w ∈ u_ws RX1 TX1 8, w ∈ wsX4_reading := by decide +kernel
theorem in_X4_reading_X4 : ∀ w ∈ u_ws RX4 TX4 6, w ∈ wsX4_reading := by decide +kernel
set_option maxHeartbeats 4000000 in
set_option maxRecDepth 100000 in
theorem c_X4_reading (l : Launch) (hl0 : l.stackTraces = false) (D : va_G) (q : Nat → ClassId) (A : Nat → Prop) (a : Nat → Nat) (S : Nat → Nat → Int32) (cap nl : Nat) (s h : Int32) (w0 : Nat) (hnow : S 0 0 = nI w0) (hw200 : w0 ≤ 200) : vx_Met l yX4_reading wsX4_reading ({ frames := 9, cells := 2, slots := 12, locals := 265 } : Room) (va_Pc [.ref (a 0), .int (s), .int (h)] (kBX D q A (fun H => kW D A (wC q a S cap nl) H))) (kXi D A (fun r => (coRow S 13 s h).1 = nI 0 ∧ r = (coRow S 13 s h).2.1) (wC q a ((coRow S 13 s h).2.2) cap nl)) (kXC D A (wC q a S cap nl) (fun E => exC [eI, eA] E (coRow S 13 s h).1)) 2 12 A := by
  refine vx_ofW (cc := cX4_reading) (maxL := 3) (ret := (some .int)) (by decide) rfl ?_
  intro p e u m args below meth c s₁ B hml0 hout hv
  obtain ⟨rfl, hP, hK, hX⟩ := hv
  have C0 : kAt p u m #[.ref (a 0), .int (s), .int (h)] meth c cX4_reading 3 (some .int) RX4 wsX4_reading := kAt_of B hml0
  obtain ⟨hx, hb, hr, hml, hown, hts, hlocks⟩ := id C0
  have hS : va_S A u.heap u.heap [] := va_S.rf
  have hl := lv_entry ([.ref (a 0), .int (s), .int (h)]) (n := 3) (Nat.le_of_ble_eq_true rfl)
  rw [lg_entry_eq]
  generalize (lg_sl ([.ref (a 0), .int (s), .int (h)]) ++ List.replicate (3 - (lg_sl ([.ref (a 0), .int (s), .int (h)])).length) Slot.unset).toArray = ls at hl ⊢
  have hl : lv_has ls 3 [(0, .ref (a 0)), (1, .int (s)), (2, .int (h))] := hl
  refine lv_aload_n hx hb dX4_reading_0 rfl (lv_at hl 0 rfl) ?_
  refine va_get (D := D) (ci := 5) (v := .ref (a 2)) (C := RX4) (T := TX4) (N := 6) hx hb hts in_X4_reading_X4 hown hK.1 hP.1 0 rfl rfl 1 (by decide) (hts _ fl_X4_reading_19) (fun _ h9 => h9) rfl dX4_reading_1 ?_
  refine va_get (D := D) (ci := 2) (v := .ref (a 13)) (C := RX1) (T := TX1) (N := 8) hx hb hts in_X4_reading_X1 hown hK.1 hP.1 2 rfl rfl 2 (by decide) (hts _ fl_X4_reading_92) (fun _ h9 => h9) rfl dX4_reading_4 ?_
  refine lv_aload_n hx hb dX4_reading_7 rfl (lv_at hl 0 rfl) ?_
  refine lv_iload_n hx hb dX4_reading_8 rfl (lv_at hl 1 rfl) ?_
  refine lv_iload_n hx hb dX4_reading_9 rfl (lv_at hl 2 rfl) ?_
  refine k_goXi hS (vx_runV (rest := [.ref (a 13)]) ⟨hx, hb, hml, hown, hts⟩ (c_X4_endedCell l hl0 D q A a S cap nl s h w0 hnow hw200) (cwV 2 hts gX4_reading_X4_endedCell rfl rfl rfl (by decide +kernel) ⟨Nat.le_of_ble_eq_true rfl, Nat.le_of_ble_eq_true rfl⟩) ⟨kBX_blind, (va_recv hK.1 hP.1 (ci := 5) (q0 := 0) rfl rfl), fun U hU hW => ⟨rfl, by rw [hU]; exact hP, hK.warm hW, hX.at hS hU hW⟩⟩ rfl rfl hl.1 rfl (lv_room (Nat.le_of_ble_eq_true rfl)) dX4_reading_10 ⟨Nat.le_of_ble_eq_true rfl, Nat.le_of_ble_eq_true rfl⟩) (fun E ce q9 H locs hE hP hS h1 h2 h3 => k_outX hout hlocks h1 h2 h3 (hE.elim (fun z => ⟨0, by rw [z.1]; rfl, by unfold coRow; rw [if_neg z.2]; try rfl⟩) (fun z => ⟨1, by rw [z.1]; rfl, by unfold coRow; rw [if_pos z.2.1, if_neg z.2.2]; try rfl⟩)) hP hS (Nat.le_of_ble_eq_true rfl) (Nat.le_of_ble_eq_true rfl)) (fun r H locs c_1 hP hS => ?_)
  obtain ⟨c_1a, c_1b, rfl⟩ := c_1
  obtain ⟨e_s, b_s⟩ := ixP_nat c_1a (by omega)
  obtain ⟨e_h, b_h⟩ := inP_lt hnow c_1b (by omega)
  refine k_iald hx hb hK hP.1 13 rfl (h.toNatClampNeg * 12 + s.toNatClampNeg) rfl (by omega) (by decide) dX4_reading_13 ?_
  have eM : S = (coRow S 13 s h).2.2 := by unfold coRow; rw [if_pos c_1a, if_pos c_1b]; try rfl
  rw [eM] at hP
  exact k_iretX hx hb hr hlocks hP hS ⟨by unfold coRow; rw [if_pos c_1a, if_pos c_1b]; try rfl, by unfold coRow; rw [if_pos c_1a, if_pos c_1b]; try rfl⟩ (Nat.le_of_ble_eq_true rfl) (Nat.le_of_ble_eq_true rfl) dX4_reading_14
theorem fl_X4_count_19 : Cond.fieldLink RX4 19 "LampCounts" "lamps" "LLampCounts$Lamps;" ∈ wsX4_count := by decide +kernel
theorem fl_X4_count_163 : Cond.fieldLink RX4 163 "LampCounts$Lamps" "kept" "[I" ∈ wsX4_count := by decide +kernel
theorem in_X4_count_X1 : ∀ w ∈ u_ws RX1 TX1 8, w ∈ wsX4_count := by decide +kernel
theorem in_X4_count_X4 : ∀ w ∈ u_ws RX4 TX4 6, w ∈ wsX4_count := by decide +kernel
set_option maxHeartbeats 4000000 in
set_option maxRecDepth 100000 in
theorem c_X4_count (l : Launch) (hl0 : l.stackTraces = false) (D : va_G) (q : Nat → ClassId) (A : Nat → Prop) (a : Nat → Nat) (S : Nat → Nat → Int32) (cap nl : Nat) (s h : Int32) (w0 : Nat) (hnow : S 0 0 = nI w0) (hw200 : w0 ≤ 200) : vx_Met l yX4_count wsX4_count ({ frames := 9, cells := 2, slots := 12, locals := 265 } : Room) (va_Pc [.ref (a 0), .int (s), .int (h)] (kBX D q A (fun H => kW D A (wC q a S cap nl) H))) (kXi D A (fun r => (coRow S 14 s h).1 = nI 0 ∧ r = (coRow S 14 s h).2.1) (wC q a ((coRow S 14 s h).2.2) cap nl)) (kXC D A (wC q a S cap nl) (fun E => exC [eI, eA] E (coRow S 14 s h).1)) 2 12 A := by
  refine vx_ofW (cc := cX4_count) (maxL := 3) (ret := (some .int)) (by decide) rfl ?_
  intro p e u m args below meth c s₁ B hml0 hout hv
  obtain ⟨rfl, hP, hK, hX⟩ := hv
  have C0 : kAt p u m #[.ref (a 0), .int (s), .int (h)] meth c cX4_count 3 (some .int) RX4 wsX4_count := kAt_of B hml0
  obtain ⟨hx, hb, hr, hml, hown, hts, hlocks⟩ := id C0
  have hS : va_S A u.heap u.heap [] := va_S.rf
  have hl := lv_entry ([.ref (a 0), .int (s), .int (h)]) (n := 3) (Nat.le_of_ble_eq_true rfl)
  rw [lg_entry_eq]
  generalize (lg_sl ([.ref (a 0), .int (s), .int (h)]) ++ List.replicate (3 - (lg_sl ([.ref (a 0), .int (s), .int (h)])).length) Slot.unset).toArray = ls at hl ⊢
  have hl : lv_has ls 3 [(0, .ref (a 0)), (1, .int (s)), (2, .int (h))] := hl
  refine lv_aload_n hx hb dX4_count_0 rfl (lv_at hl 0 rfl) ?_
  refine va_get (D := D) (ci := 5) (v := .ref (a 2)) (C := RX4) (T := TX4) (N := 6) hx hb hts in_X4_count_X4 hown hK.1 hP.1 0 rfl rfl 1 (by decide) (hts _ fl_X4_count_19) (fun _ h9 => h9) rfl dX4_count_1 ?_
  refine va_get (D := D) (ci := 2) (v := .ref (a 14)) (C := RX1) (T := TX1) (N := 8) hx hb hts in_X4_count_X1 hown hK.1 hP.1 2 rfl rfl 3 (by decide) (hts _ fl_X4_count_163) (fun _ h9 => h9) rfl dX4_count_4 ?_
  refine lv_aload_n hx hb dX4_count_7 rfl (lv_at hl 0 rfl) ?_
  refine lv_iload_n hx hb dX4_count_8 rfl (lv_at hl 1 rfl) ?_
  refine lv_iload_n hx hb dX4_count_9 rfl (lv_at hl 2 rfl) ?_
  refine k_goXi hS (vx_runV (rest := [.ref (a 14)]) ⟨hx, hb, hml, hown, hts⟩ (c_X4_endedCell l hl0 D q A a S cap nl s h w0 hnow hw200) (cwV 2 hts gX4_count_X4_endedCell rfl rfl rfl (by decide +kernel) ⟨Nat.le_of_ble_eq_true rfl, Nat.le_of_ble_eq_true rfl⟩) ⟨kBX_blind, (va_recv hK.1 hP.1 (ci := 5) (q0 := 0) rfl rfl), fun U hU hW => ⟨rfl, by rw [hU]; exact hP, hK.warm hW, hX.at hS hU hW⟩⟩ rfl rfl hl.1 rfl (lv_room (Nat.le_of_ble_eq_true rfl)) dX4_count_10 ⟨Nat.le_of_ble_eq_true rfl, Nat.le_of_ble_eq_true rfl⟩) (fun E ce q9 H locs hE hP hS h1 h2 h3 => k_outX hout hlocks h1 h2 h3 (hE.elim (fun z => ⟨0, by rw [z.1]; rfl, by unfold coRow; rw [if_neg z.2]; try rfl⟩) (fun z => ⟨1, by rw [z.1]; rfl, by unfold coRow; rw [if_pos z.2.1, if_neg z.2.2]; try rfl⟩)) hP hS (Nat.le_of_ble_eq_true rfl) (Nat.le_of_ble_eq_true rfl)) (fun r H locs c_1 hP hS => ?_)
  obtain ⟨c_1a, c_1b, rfl⟩ := c_1
  obtain ⟨e_s, b_s⟩ := ixP_nat c_1a (by omega)
  obtain ⟨e_h, b_h⟩ := inP_lt hnow c_1b (by omega)
  refine k_iald hx hb hK hP.1 14 rfl (h.toNatClampNeg * 12 + s.toNatClampNeg) rfl (by omega) (by decide) dX4_count_13 ?_
  have eM : S = (coRow S 14 s h).2.2 := by unfold coRow; rw [if_pos c_1a, if_pos c_1b]; try rfl
  rw [eM] at hP
  exact k_iretX hx hb hr hlocks hP hS ⟨by unfold coRow; rw [if_pos c_1a, if_pos c_1b]; try rfl, by unfold coRow; rw [if_pos c_1a, if_pos c_1b]; try rfl⟩ (Nat.le_of_ble_eq_true rfl) (Nat.le_of_ble_eq_true rfl) dX4_count_14
theorem fl_X4_player_26 : Cond.fieldLink RX4 26 "LampCounts" "buskers" "LLampCounts$Buskers;" ∈ wsX4_player := by decide +kernel
theorem fl_X4_player_190 : Cond.fieldLink RX4 190 "LampCounts$Buskers" "players" "[I" ∈ wsX4_player := by decide +kernel
theorem in_X4_player_X0 : ∀ w ∈ u_ws RX0 TX0 9, w ∈ wsX4_player := by decide +kernel
theorem in_X4_player_X4 : ∀ w ∈ u_ws RX4 TX4 6, w ∈ wsX4_player := by decide +kernel
set_option maxHeartbeats 4000000 in
set_option maxRecDepth 100000 in
theorem c_X4_player (l : Launch) (hl0 : l.stackTraces = false) (D : va_G) (q : Nat → ClassId) (A : Nat → Prop) (a : Nat → Nat) (S : Nat → Nat → Int32) (cap nl : Nat) (s h : Int32) (w0 : Nat) (hnow : S 0 0 = nI w0) (hw200 : w0 ≤ 200) : vx_Met l yX4_player wsX4_player ({ frames := 9, cells := 2, slots := 12, locals := 265 } : Room) (va_Pc [.ref (a 0), .int (s), .int (h)] (kBX D q A (fun H => kW D A (wC q a S cap nl) H))) (kXi D A (fun r => (coRow S 24 s h).1 = nI 0 ∧ r = (coRow S 24 s h).2.1) (wC q a ((coRow S 24 s h).2.2) cap nl)) (kXC D A (wC q a S cap nl) (fun E => exC [eI, eA] E (coRow S 24 s h).1)) 2 12 A := by
  refine vx_ofW (cc := cX4_player) (maxL := 3) (ret := (some .int)) (by decide) rfl ?_
  intro p e u m args below meth c s₁ B hml0 hout hv
  obtain ⟨rfl, hP, hK, hX⟩ := hv
  have C0 : kAt p u m #[.ref (a 0), .int (s), .int (h)] meth c cX4_player 3 (some .int) RX4 wsX4_player := kAt_of B hml0
  obtain ⟨hx, hb, hr, hml, hown, hts, hlocks⟩ := id C0
  have hS : va_S A u.heap u.heap [] := va_S.rf
  have hl := lv_entry ([.ref (a 0), .int (s), .int (h)]) (n := 3) (Nat.le_of_ble_eq_true rfl)
  rw [lg_entry_eq]
  generalize (lg_sl ([.ref (a 0), .int (s), .int (h)]) ++ List.replicate (3 - (lg_sl ([.ref (a 0), .int (s), .int (h)])).length) Slot.unset).toArray = ls at hl ⊢
  have hl : lv_has ls 3 [(0, .ref (a 0)), (1, .int (s)), (2, .int (h))] := hl
  refine lv_aload_n hx hb dX4_player_0 rfl (lv_at hl 0 rfl) ?_
  refine va_get (D := D) (ci := 5) (v := .ref (a 3)) (C := RX4) (T := TX4) (N := 6) hx hb hts in_X4_player_X4 hown hK.1 hP.1 0 rfl rfl 2 (by decide) (hts _ fl_X4_player_26) (fun _ h9 => h9) rfl dX4_player_1 ?_
  refine va_get (D := D) (ci := 1) (v := .ref (a 24)) (C := RX0) (T := TX0) (N := 9) hx hb hts in_X4_player_X0 hown hK.1 hP.1 3 rfl rfl 6 (by decide) (hts _ fl_X4_player_190) (fun _ h9 => h9) rfl dX4_player_4 ?_
  refine lv_aload_n hx hb dX4_player_7 rfl (lv_at hl 0 rfl) ?_
  refine lv_iload_n hx hb dX4_player_8 rfl (lv_at hl 1 rfl) ?_
  refine lv_iload_n hx hb dX4_player_9 rfl (lv_at hl 2 rfl) ?_
  refine k_goXi hS (vx_runV (rest := [.ref (a 24)]) ⟨hx, hb, hml, hown, hts⟩ (c_X4_endedCell l hl0 D q A a S cap nl s h w0 hnow hw200) (cwV 2 hts gX4_player_X4_endedCell rfl rfl rfl (by decide +kernel) ⟨Nat.le_of_ble_eq_true rfl, Nat.le_of_ble_eq_true rfl⟩) ⟨kBX_blind, (va_recv hK.1 hP.1 (ci := 5) (q0 := 0) rfl rfl), fun U hU hW => ⟨rfl, by rw [hU]; exact hP, hK.warm hW, hX.at hS hU hW⟩⟩ rfl rfl hl.1 rfl (lv_room (Nat.le_of_ble_eq_true rfl)) dX4_player_10 ⟨Nat.le_of_ble_eq_true rfl, Nat.le_of_ble_eq_true rfl⟩) (fun E ce q9 H locs hE hP hS h1 h2 h3 => k_outX hout hlocks h1 h2 h3 (hE.elim (fun z => ⟨0, by rw [z.1]; rfl, by unfold coRow; rw [if_neg z.2]; try rfl⟩) (fun z => ⟨1, by rw [z.1]; rfl, by unfold coRow; rw [if_pos z.2.1, if_neg z.2.2]; try rfl⟩)) hP hS (Nat.le_of_ble_eq_true rfl) (Nat.le_of_ble_eq_true rfl)) (fun r H locs c_1 hP hS => ?_)
  obtain ⟨c_1a, c_1b, rfl⟩ := c_1
  obtain ⟨e_s, b_s⟩ := ixP_nat c_1a (by omega)
  obtain ⟨e_h, b_h⟩ := inP_lt hnow c_1b (by omega)
  refine k_iald hx hb hK hP.1 24 rfl (h.toNatClampNeg * 12 + s.toNatClampNeg) rfl (by omega) (by decide) dX4_player_13 ?_
  have eM : S = (coRow S 24 s h).2.2 := by unfold coRow; rw [if_pos c_1a, if_pos c_1b]; try rfl
  rw [eM] at hP
  exact k_iretX hx hb hr hlocks hP hS ⟨by unfold coRow; rw [if_pos c_1a, if_pos c_1b]; try rfl, by unfold coRow; rw [if_pos c_1a, if_pos c_1b]; try rfl⟩ (Nat.le_of_ble_eq_true rfl) (Nat.le_of_ble_eq_true rfl) dX4_player_14
theorem fl_X4_through_12 : Cond.fieldLink RX4 12 "LampCounts" "street" "LLampCounts$Street;" ∈ wsX4_through := by decide +kernel
theorem fl_X4_through_157 : Cond.fieldLink RX4 157 "LampCounts$Street" "wentOut" "[I" ∈ wsX4_through := by decide +kernel
theorem in_X4_through_X3 : ∀ w ∈ u_ws RX3 TX3 5, w ∈ wsX4_through := by decide +kernel
theorem in_X4_through_X4 : ∀ w ∈ u_ws RX4 TX4 6, w ∈ wsX4_through := by decide +kernel
set_option maxHeartbeats 4000000 in
set_option maxRecDepth 100000 in
theorem c_X4_through (l : Launch) (hl0 : l.stackTraces = false) (D : va_G) (q : Nat → ClassId) (A : Nat → Prop) (a : Nat → Nat) (S : Nat → Nat → Int32) (cap nl : Nat) (h : Int32) (w0 : Nat) (hnow : S 0 0 = nI w0) (hw200 : w0 ≤ 200) : vx_Met l yX4_through wsX4_through ({ frames := 8, cells := 1, slots := 6, locals := 243 } : Room) (va_Pc [.ref (a 0), .int (h)] (kBX D q A (fun H => kW D A (wC q a S cap nl) H))) (kXi D A (fun r => (coThrough S h).1 = nI 0 ∧ r = (coThrough S h).2.1) (wC q a ((coThrough S h).2.2) cap nl)) (kXC D A (wC q a S cap nl) (fun E => exC [eA] E (coThrough S h).1)) 1 6 A := by
  refine vx_ofW (cc := cX4_through) (maxL := 2) (ret := (some .int)) (by decide) rfl ?_
  intro p e u m args below meth c s₁ B hml0 hout hv
  obtain ⟨rfl, hP, hK, hX⟩ := hv
  have C0 : kAt p u m #[.ref (a 0), .int (h)] meth c cX4_through 2 (some .int) RX4 wsX4_through := kAt_of B hml0
  obtain ⟨hx, hb, hr, hml, hown, hts, hlocks⟩ := id C0
  have hS : va_S A u.heap u.heap [] := va_S.rf
  have hl := lv_entry ([.ref (a 0), .int (h)]) (n := 2) (Nat.le_of_ble_eq_true rfl)
  rw [lg_entry_eq]
  generalize (lg_sl ([.ref (a 0), .int (h)]) ++ List.replicate (2 - (lg_sl ([.ref (a 0), .int (h)])).length) Slot.unset).toArray = ls at hl ⊢
  have hl : lv_has ls 2 [(0, .ref (a 0)), (1, .int (h))] := hl
  refine lv_aload_n hx hb dX4_through_0 rfl (lv_at hl 0 rfl) ?_
  refine lv_iload_n hx hb dX4_through_1 rfl (lv_at hl 1 rfl) ?_
  refine k_goXv hS (vx_runV (rest := []) ⟨hx, hb, hml, hown, hts⟩ (c_X4_requireEnded l hl0 D q A a S cap nl h) (cwV 1 hts gX4_through_X4_requireEnded rfl rfl rfl (by decide +kernel) ⟨Nat.le_of_ble_eq_true rfl, Nat.le_of_ble_eq_true rfl⟩) ⟨kBX_blind, (va_recv hK.1 hP.1 (ci := 5) (q0 := 0) rfl rfl), fun U hU hW => ⟨rfl, by rw [hU]; exact hP, hK.warm hW, hX.at hS hU hW⟩⟩ rfl rfl hl.1 rfl (lv_room (Nat.le_of_ble_eq_true rfl)) dX4_through_2 ⟨Nat.le_of_ble_eq_true rfl, Nat.le_of_ble_eq_true rfl⟩) (fun E ce q9 H locs hE hP hS h1 h2 h3 => k_outX hout hlocks h1 h2 h3 (⟨0, by rw [hE.1]; rfl, by unfold coThrough; rw [if_neg hE.2]; try rfl⟩) hP hS (Nat.le_of_ble_eq_true rfl) (Nat.le_of_ble_eq_true rfl)) (fun H locs c_1 hP hS => ?_)
  obtain ⟨e_h, b_h⟩ := inP_lt hnow c_1 (by omega)
  rw [e_h] at hl
  refine lv_aload_n hx hb dX4_through_5 rfl (lv_at hl 0 rfl) ?_
  refine va_get (D := D) (ci := 5) (v := .ref (a 1)) (C := RX4) (T := TX4) (N := 6) hx hb hts in_X4_through_X4 hown hK.1 hP.1 0 rfl rfl 0 (by decide) (hts _ fl_X4_through_12) (fun _ h9 => h9) rfl dX4_through_6 ?_
  refine va_get (D := D) (ci := 4) (v := .ref (a 10)) (C := RX3) (T := TX3) (N := 5) hx hb hts in_X4_through_X3 hown hK.1 hP.1 1 rfl rfl 4 (by decide) (hts _ fl_X4_through_157) (fun _ h9 => h9) rfl dX4_through_9 ?_
  refine lv_iload_n hx hb dX4_through_12 rfl (lv_at hl 1 rfl) ?_
  refine k_iald hx hb hK hP.1 10 rfl h.toNatClampNeg rfl (by omega) (by decide) dX4_through_13 ?_
  have eM : S = (coThrough S h).2.2 := by unfold coThrough; rw [if_pos c_1]; try rfl
  rw [eM] at hP
  exact k_iretX hx hb hr hlocks hP hS ⟨by unfold coThrough; rw [if_pos c_1]; try rfl, by unfold coThrough; rw [if_pos c_1]; try rfl⟩ (Nat.le_of_ble_eq_true rfl) (Nat.le_of_ble_eq_true rfl) dX4_through_14
theorem fl_X4_taken_19 : Cond.fieldLink RX4 19 "LampCounts" "lamps" "LLampCounts$Lamps;" ∈ wsX4_taken := by decide +kernel
theorem in_X4_taken_X4 : ∀ w ∈ u_ws RX4 TX4 6, w ∈ wsX4_taken := by decide +kernel
set_option maxHeartbeats 4000000 in
set_option maxRecDepth 100000 in
theorem c_X4_taken (l : Launch) (hl0 : l.stackTraces = false) (D : va_G) (q : Nat → ClassId) (A : Nat → Prop) (a : Nat → Nat) (S : Nat → Nat → Int32) (cap nl : Nat) (s h : Int32) (n : Nat) (hn : S 0 1 = nI n) (hn60 : n ≤ 60) : vx_Met l yX4_taken wsX4_taken ({ frames := 7, cells := 2, slots := 12, locals := 222 } : Room) (va_Pc [.ref (a 0), .int (s), .int (h)] (kBX D q A (fun H => kW D A (wC q a S cap nl) H))) (kXi D A (fun r => (coTaken S n s h).1 = nI 0 ∧ r = (coTaken S n s h).2.1) (wC q a ((coTaken S n s h).2.2) cap nl)) (kXC D A (wC q a S cap nl) (fun E => exC [eI, eA] E (coTaken S n s h).1)) 2 12 A := by
  refine vx_ofW (cc := cX4_taken) (maxL := 3) (ret := (some .int)) (by decide) rfl ?_
  intro p e u m args below meth c s₁ B hml0 hout hv
  obtain ⟨rfl, hP, hK, hX⟩ := hv
  have C0 : kAt p u m #[.ref (a 0), .int (s), .int (h)] meth c cX4_taken 3 (some .int) RX4 wsX4_taken := kAt_of B hml0
  obtain ⟨hx, hb, hr, hml, hown, hts, hlocks⟩ := id C0
  have hS : va_S A u.heap u.heap [] := va_S.rf
  have hl := lv_entry ([.ref (a 0), .int (s), .int (h)]) (n := 3) (Nat.le_of_ble_eq_true rfl)
  rw [lg_entry_eq]
  generalize (lg_sl ([.ref (a 0), .int (s), .int (h)]) ++ List.replicate (3 - (lg_sl ([.ref (a 0), .int (s), .int (h)])).length) Slot.unset).toArray = ls at hl ⊢
  have hl : lv_has ls 3 [(0, .ref (a 0)), (1, .int (s)), (2, .int (h))] := hl
  refine lv_iload_n hx hb dX4_taken_0 rfl (lv_at hl 1 rfl) ?_
  refine lv_bipush (v := nI 12) hx hb dX4_taken_1 (by decide) ?_
  refine k_goXv hS (vx_runS (rest := []) ⟨hx, hb, hml, hown, hts⟩ (c_X4_requireIndex l hl0 D q A (wC q a S cap nl) s (nI 12)) (va_cwS 2 hts gX4_taken_X4_requireIndex rfl rfl rfl (by decide +kernel) ⟨Nat.le_of_ble_eq_true rfl, Nat.le_of_ble_eq_true rfl⟩) ⟨kBX_blind, fun U hU hW => ⟨rfl, by rw [hU]; exact hP, hK.warm hW, hX.at hS hU hW⟩⟩ rfl rfl hl.1 rfl (lv_room (Nat.le_of_ble_eq_true rfl)) dX4_taken_3 ⟨Nat.le_of_ble_eq_true rfl, Nat.le_of_ble_eq_true rfl⟩) (fun E ce q9 H locs hE hP hS h1 h2 h3 => k_outX hout hlocks h1 h2 h3 (⟨0, by rw [hE.1]; rfl, by unfold coTaken; rw [if_neg hE.2]; try rfl⟩) hP hS (Nat.le_of_ble_eq_true rfl) (Nat.le_of_ble_eq_true rfl)) (fun H locs c_1 hP hS => ?_)
  obtain ⟨e_s, b_s⟩ := ixP_nat c_1 (by omega)
  rw [e_s] at hl
  refine lv_iload_n hx hb dX4_taken_6 rfl (lv_at hl 2 rfl) ?_
  refine lv_iconst (v := nI 0) hx hb dX4_taken_7 (by decide) ?_
  refine lv_sipush (v := nI 199) hx hb dX4_taken_8 (by decide) ?_
  refine k_goXv hS (vx_runS (rest := []) ⟨hx, hb, hml, hown, hts⟩ (c_X4_requireWithin l hl0 D q A (wC q a S cap nl) h (nI 0) (nI 199)) (va_cwS 3 hts gX4_taken_X4_requireWithin rfl rfl rfl (by decide +kernel) ⟨Nat.le_of_ble_eq_true rfl, Nat.le_of_ble_eq_true rfl⟩) ⟨kBX_blind, fun U hU hW => ⟨rfl, by rw [hU]; exact hP, hK.warm hW, hX.at hS hU hW⟩⟩ rfl rfl hl.1 rfl (lv_room (Nat.le_of_ble_eq_true rfl)) dX4_taken_11 ⟨Nat.le_of_ble_eq_true rfl, Nat.le_of_ble_eq_true rfl⟩) (fun E ce q9 H locs hE hP hS h1 h2 h3 => k_outX hout hlocks h1 h2 h3 (⟨1, by rw [hE.1]; rfl, by unfold coTaken; rw [if_pos c_1, if_neg hE.2]; try rfl⟩) hP hS (Nat.le_of_ble_eq_true rfl) (Nat.le_of_ble_eq_true rfl)) (fun H locs c_2 hP hS => ?_)
  obtain ⟨e_h, b_h⟩ := inP_nat c_2 (by omega)
  rw [e_h] at hl
  refine lv_aload_n hx hb dX4_taken_14 rfl (lv_at hl 0 rfl) ?_
  refine va_get (D := D) (ci := 5) (v := .ref (a 2)) (C := RX4) (T := TX4) (N := 6) hx hb hts in_X4_taken_X4 hown hK.1 hP.1 0 rfl rfl 1 (by decide) (hts _ fl_X4_taken_19) (fun _ h9 => h9) rfl dX4_taken_15 ?_
  refine lv_iload_n hx hb dX4_taken_18 rfl (lv_at hl 1 rfl) ?_
  refine lv_iload_n hx hb dX4_taken_19 rfl (lv_at hl 2 rfl) ?_
  refine k_callV (rest := []) (r := takenF (S 15) (S 16) (S 17) (nI s.toNatClampNeg) (nI h.toNatClampNeg) n) ⟨hx, hb, hml, hown, hts⟩ (c_X1_foundLast l D q a S cap nl s.toNatClampNeg h.toNatClampNeg n hn hn60) (cwV 2 hts gX4_taken_X1_foundLast rfl rfl rfl (by decide +kernel) ⟨Nat.le_of_ble_eq_true rfl, Nat.le_of_ble_eq_true rfl⟩) hK hP.1 (va_recv hK.1 hP.1 (ci := 2) (q0 := 2) rfl rfl) rfl hl.1 rfl (Nat.le_of_ble_eq_true rfl) dX4_taken_20 ⟨Nat.le_of_ble_eq_true rfl, Nat.le_of_ble_eq_true rfl⟩ (fun _ h => h) ?_
  have eM : S = (coTaken S n s h).2.2 := by unfold coTaken; rw [if_pos c_1, if_pos c_2]; try rfl
  rw [eM] at hP
  exact k_iretX hx hb hr hlocks hP hS ⟨by unfold coTaken; rw [if_pos c_1, if_pos c_2]; try rfl, by unfold coTaken; rw [if_pos c_1, if_pos c_2]; try rfl⟩ (Nat.le_of_ble_eq_true rfl) (Nat.le_of_ble_eq_true rfl) dX4_taken_23
theorem fl_X4_countAnew_19 : Cond.fieldLink RX4 19 "LampCounts" "lamps" "LLampCounts$Lamps;" ∈ wsX4_countAnew := by decide +kernel
theorem in_X4_countAnew_X4 : ∀ w ∈ u_ws RX4 TX4 6, w ∈ wsX4_countAnew := by decide +kernel
set_option maxHeartbeats 4000000 in
set_option maxRecDepth 100000 in
theorem c_X4_countAnew (l : Launch) (hl0 : l.stackTraces = false) (D : va_G) (q : Nat → ClassId) (A : Nat → Prop) (a : Nat → Nat) (S : Nat → Nat → Int32) (cap nl : Nat) (s h : Int32) (n w0 : Nat) (hn : S 0 1 = nI n) (hn60 : n ≤ 60) (hnow : S 0 0 = nI w0) (hw200 : w0 ≤ 200) : vx_Met l yX4_countAnew wsX4_countAnew ({ frames := 8, cells := 2, slots := 12, locals := 243 } : Room) (va_Pc [.ref (a 0), .int (s), .int (h)] (kBX D q A (fun H => kW D A (wC q a S cap nl) H))) (kXi D A (fun r => (coAnew S n s h).1 = nI 0 ∧ r = (coAnew S n s h).2.1) (wC q a ((coAnew S n s h).2.2) cap nl)) (kXC D A (wC q a S cap nl) (fun E => exC [eI, eA] E (coAnew S n s h).1)) 2 12 A := by
  refine vx_ofW (cc := cX4_countAnew) (maxL := 3) (ret := (some .int)) (by decide) rfl ?_
  intro p e u m args below meth c s₁ B hml0 hout hv
  obtain ⟨rfl, hP, hK, hX⟩ := hv
  have C0 : kAt p u m #[.ref (a 0), .int (s), .int (h)] meth c cX4_countAnew 3 (some .int) RX4 wsX4_countAnew := kAt_of B hml0
  obtain ⟨hx, hb, hr, hml, hown, hts, hlocks⟩ := id C0
  have hS : va_S A u.heap u.heap [] := va_S.rf
  have hl := lv_entry ([.ref (a 0), .int (s), .int (h)]) (n := 3) (Nat.le_of_ble_eq_true rfl)
  rw [lg_entry_eq]
  generalize (lg_sl ([.ref (a 0), .int (s), .int (h)]) ++ List.replicate (3 - (lg_sl ([.ref (a 0), .int (s), .int (h)])).length) Slot.unset).toArray = ls at hl ⊢
  have hl : lv_has ls 3 [(0, .ref (a 0)), (1, .int (s)), (2, .int (h))] := hl
  refine lv_iload_n hx hb dX4_countAnew_0 rfl (lv_at hl 1 rfl) ?_
  refine lv_bipush (v := nI 12) hx hb dX4_countAnew_1 (by decide) ?_
  refine k_goXv hS (vx_runS (rest := []) ⟨hx, hb, hml, hown, hts⟩ (c_X4_requireIndex l hl0 D q A (wC q a S cap nl) s (nI 12)) (va_cwS 2 hts gX4_countAnew_X4_requireIndex rfl rfl rfl (by decide +kernel) ⟨Nat.le_of_ble_eq_true rfl, Nat.le_of_ble_eq_true rfl⟩) ⟨kBX_blind, fun U hU hW => ⟨rfl, by rw [hU]; exact hP, hK.warm hW, hX.at hS hU hW⟩⟩ rfl rfl hl.1 rfl (lv_room (Nat.le_of_ble_eq_true rfl)) dX4_countAnew_3 ⟨Nat.le_of_ble_eq_true rfl, Nat.le_of_ble_eq_true rfl⟩) (fun E ce q9 H locs hE hP hS h1 h2 h3 => k_outX hout hlocks h1 h2 h3 (⟨0, by rw [hE.1]; rfl, by unfold coAnew; rw [if_neg hE.2]; try rfl⟩) hP hS (Nat.le_of_ble_eq_true rfl) (Nat.le_of_ble_eq_true rfl)) (fun H locs c_1 hP hS => ?_)
  obtain ⟨e_s, b_s⟩ := ixP_nat c_1 (by omega)
  rw [e_s] at hl
  refine lv_aload_n hx hb dX4_countAnew_6 rfl (lv_at hl 0 rfl) ?_
  refine lv_iload_n hx hb dX4_countAnew_7 rfl (lv_at hl 2 rfl) ?_
  refine k_goXv hS (vx_runV (rest := []) ⟨hx, hb, hml, hown, hts⟩ (c_X4_requireEnded l hl0 D q A a S cap nl h) (cwV 1 hts gX4_countAnew_X4_requireEnded rfl rfl rfl (by decide +kernel) ⟨Nat.le_of_ble_eq_true rfl, Nat.le_of_ble_eq_true rfl⟩) ⟨kBX_blind, (va_recv hK.1 hP.1 (ci := 5) (q0 := 0) rfl rfl), fun U hU hW => ⟨rfl, by rw [hU]; exact hP, hK.warm hW, hX.at hS hU hW⟩⟩ rfl rfl hl.1 rfl (lv_room (Nat.le_of_ble_eq_true rfl)) dX4_countAnew_8 ⟨Nat.le_of_ble_eq_true rfl, Nat.le_of_ble_eq_true rfl⟩) (fun E ce q9 H locs hE hP hS h1 h2 h3 => k_outX hout hlocks h1 h2 h3 (⟨1, by rw [hE.1]; rfl, by unfold coAnew; rw [if_pos c_1, if_neg hE.2]; try rfl⟩) hP hS (Nat.le_of_ble_eq_true rfl) (Nat.le_of_ble_eq_true rfl)) (fun H locs c_2 hP hS => ?_)
  obtain ⟨e_h, b_h⟩ := inP_lt hnow c_2 (by omega)
  rw [e_h] at hl
  refine lv_aload_n hx hb dX4_countAnew_11 rfl (lv_at hl 0 rfl) ?_
  refine va_get (D := D) (ci := 5) (v := .ref (a 2)) (C := RX4) (T := TX4) (N := 6) hx hb hts in_X4_countAnew_X4 hown hK.1 hP.1 0 rfl rfl 1 (by decide) (hts _ fl_X4_countAnew_19) (fun _ h9 => h9) rfl dX4_countAnew_12 ?_
  refine lv_iload_n hx hb dX4_countAnew_15 rfl (lv_at hl 1 rfl) ?_
  refine lv_iload_n hx hb dX4_countAnew_16 rfl (lv_at hl 2 rfl) ?_
  refine k_callV (rest := []) (r := anewF S n h.toNatClampNeg s.toNatClampNeg) ⟨hx, hb, hml, hown, hts⟩ (c_X1_foundAnew l D q a S cap nl s.toNatClampNeg h.toNatClampNeg n (by omega) (by omega) hn hn60) (cwV 2 hts gX4_countAnew_X1_foundAnew rfl rfl rfl (by decide +kernel) ⟨Nat.le_of_ble_eq_true rfl, Nat.le_of_ble_eq_true rfl⟩) hK hP.1 (va_recv hK.1 hP.1 (ci := 2) (q0 := 2) rfl rfl) rfl hl.1 rfl (Nat.le_of_ble_eq_true rfl) dX4_countAnew_17 ⟨Nat.le_of_ble_eq_true rfl, Nat.le_of_ble_eq_true rfl⟩ (fun _ h => h) ?_
  have eM : S = (coAnew S n s h).2.2 := by unfold coAnew; rw [if_pos c_1, if_pos c_2]; try rfl
  rw [eM] at hP
  exact k_iretX hx hb hr hlocks hP hS ⟨by unfold coAnew; rw [if_pos c_1, if_pos c_2]; try rfl, by unfold coAnew; rw [if_pos c_1, if_pos c_2]; try rfl⟩ (Nat.le_of_ble_eq_true rfl) (Nat.le_of_ble_eq_true rfl) dX4_countAnew_20
theorem fl_X4_missed_12 : Cond.fieldLink RX4 12 "LampCounts" "street" "LLampCounts$Street;" ∈ wsX4_missed := by decide +kernel
theorem fl_X4_missed_19 : Cond.fieldLink RX4 19 "LampCounts" "lamps" "LLampCounts$Lamps;" ∈ wsX4_missed := by decide +kernel
theorem fl_X4_missed_148 : Cond.fieldLink RX4 148 "LampCounts$Street" "walked" "[I" ∈ wsX4_missed := by decide +kernel
theorem fl_X4_missed_163 : Cond.fieldLink RX4 163 "LampCounts$Lamps" "kept" "[I" ∈ wsX4_missed := by decide +kernel
theorem in_X4_missed_X1 : ∀ w ∈ u_ws RX1 TX1 8, w ∈ wsX4_missed := by decide +kernel
theorem in_X4_missed_X3 : ∀ w ∈ u_ws RX3 TX3 5, w ∈ wsX4_missed := by decide +kernel
theorem in_X4_missed_X4 : ∀ w ∈ u_ws RX4 TX4 6, w ∈ wsX4_missed := by decide +kernel
theorem ml_X4_missed_169 : Cond.methodLink RX4 169 Lib.Math.abs.name ∈ wsX4_missed := by decide +kernel
theorem mls_X4_missed_169 : Cond.static Lib.Math.abs.name ∈ wsX4_missed := by decide +kernel
theorem mlc_X4_missed_169 : Cond.code Lib.Math.abs.name Lib.Math.abs.code 1 (some .int) ∈ wsX4_missed := by decide +kernel
theorem mli_X4_missed : Cond.initialized "java/lang/Math" ∈ wsX4_missed := by decide +kernel
set_option maxHeartbeats 4000000 in
set_option maxRecDepth 100000 in
theorem lp_X4_missed_9 {p : Program} {l : Launch} {e : Env} {u : State} {m : MethodId} {below : List Frame} {meth : Method} {c : Code} {D : va_G} {q : Nat → ClassId} {A : Nat → Prop} (a : Nat → Nat) (S : Nat → Nat → Int32) (cap nl : Nat) (h : Int32) (w0 : Nat) (hnow : S 0 0 = nI w0) (hw200 : w0 ≤ 200) (b_h : h.toNatClampNeg < w0) (hfin : coMissed S h = (nI 0, msC S h.toNatClampNeg 12, S)) (C0 : kAt p u m #[.ref (a 0), .int (h)] meth c cX4_missed 5 (some .int) RX4 wsX4_missed) (hK : kK D q u) :
    ∀ (f : Nat) (x : Nat) (T : Nat → Nat → Int32) (x1 : Int32) (x2 : Int32) (x3 : Int32), 12 - x < f → x ≤ 12 → T = S → x1 = nI h.toNatClampNeg → x2 = msC S h.toNatClampNeg x → x3 = nI x → ∀ (H : Heap) (locs : List Loc), kW D A (wC q a T cap nl) H → va_S A u.heap H locs → ∀ (ls : Array Slot), lv_has ls 5 [(0, .ref (a 0)), (1, .int x1), (2, .int x2), (3, .int x3)] → W p l e ({ frames := 8, cells := 1, slots := 6, locals := 243 } : Room) u m #[.ref (a 0), .int (h)] below meth c H locs 1 6 (vx_MQ below (kXi D A (fun r => (coMissed S h).1 = nI 0 ∧ r = (coMissed S h).2.1) (wC q a ((coMissed S h).2.2) cap nl)) (kXC D A (wC q a S cap nl) (fun E => exC [eA] E (coMissed S h).1)) #[.ref (a 0), .int (h)] u 1 6 A) (F0 m 9 ls []) := by
  obtain ⟨hx, hb, hr, hml, hown, hts, hlocks⟩ := id C0
  intro f
  induction f with
  | zero =>
    intro x T x1 x2 x3 hf
    exact absurd hf (Nat.not_lt_zero _)
  | succ f ih =>
    intro x T x1 x2 x3 hf hx12 eT e1 e2 e3 H locs hP hS ls hl
    replace eT := eT.symm
    subst eT
    replace e1 := e1.symm
    subst e1
    replace e2 := e2.symm
    subst e2
    replace e3 := e3.symm
    subst e3
    refine lv_iload_n hx hb dX4_missed_9 rfl (lv_at hl 3 rfl) ?_
    refine lv_bipush (v := nI 12) hx hb dX4_missed_10 (by decide) ?_
    refine k_icmp_ge (P := x < 12) (tgt := 55) hx hb dX4_missed_12 (by decide) (nI_ltI (by omega) (by omega)) (fun c_1 => ?_) (fun c_1 => ?_)
    · skip
      refine lv_iload_n hx hb dX4_missed_55 rfl (lv_at hl 2 rfl) ?_
      have eM : S = (coMissed S h).2.2 := by rw [hfin]
      rw [eM] at hP
      exact k_iretX hx hb hr hlocks hP hS ⟨by rw [hfin], by rw [hfin, show x = 12 from by omega]⟩ (Nat.le_of_ble_eq_true rfl) (Nat.le_of_ble_eq_true rfl) dX4_missed_56
    · skip
      refine lv_iload_n hx hb dX4_missed_15 rfl (lv_at hl 3 rfl) ?_
      refine lv_iload_n hx hb dX4_missed_16 rfl (lv_at hl 1 rfl) ?_
      refine k_callS (rest := []) (r := nI (h.toNatClampNeg * 12 + x)) ⟨hx, hb, hml, hown, hts⟩ (c_X4_cell l D q x h.toNatClampNeg) (va_cwS 2 hts gX4_missed_X4_cell rfl rfl rfl (by decide +kernel) ⟨Nat.le_of_ble_eq_true rfl, Nat.le_of_ble_eq_true rfl⟩) hK trivial rfl hl.1 rfl (Nat.le_of_ble_eq_true rfl) dX4_missed_17 ⟨Nat.le_of_ble_eq_true rfl, Nat.le_of_ble_eq_true rfl⟩ (fun _ h => h) ?_
      refine lv_istore (lv' := [(4, .int (nI (h.toNatClampNeg * 12 + x))), (0, .ref (a 0)), (1, .int (nI h.toNatClampNeg)), (2, .int (msC S h.toNatClampNeg x)), (3, .int (nI x))]) hx hb dX4_missed_20 hl (by decide) rfl (fun ls hl => ?_)
      refine lv_iload_n hx hb dX4_missed_22 rfl (lv_at hl 3 rfl) ?_
      refine lv_aload_n hx hb dX4_missed_23 rfl (lv_at hl 1 rfl) ?_
      refine va_get (D := D) (ci := 5) (v := .ref (a 2)) (C := RX4) (T := TX4) (N := 6) hx hb hts in_X4_missed_X4 hown hK.1 hP.1 0 rfl rfl 1 (by decide) (hts _ fl_X4_missed_19) (fun _ h9 => h9) rfl dX4_missed_24 ?_
      refine va_get (D := D) (ci := 2) (v := .ref (a 14)) (C := RX1) (T := TX1) (N := 8) hx hb hts in_X4_missed_X1 hown hK.1 hP.1 2 rfl rfl 3 (by decide) (hts _ fl_X4_missed_163) (fun _ h9 => h9) rfl dX4_missed_27 ?_
      refine lv_iload hx hb dX4_missed_30 (lv_at hl 0 rfl) ?_
      refine k_iald hx hb hK hP.1 14 rfl (h.toNatClampNeg * 12 + x) rfl (by omega) (by decide) dX4_missed_32 ?_
      refine lv_aload_n hx hb dX4_missed_33 rfl (lv_at hl 1 rfl) ?_
      refine va_get (D := D) (ci := 5) (v := .ref (a 1)) (C := RX4) (T := TX4) (N := 6) hx hb hts in_X4_missed_X4 hown hK.1 hP.1 0 rfl rfl 0 (by decide) (hts _ fl_X4_missed_12) (fun _ h9 => h9) rfl dX4_missed_34 ?_
      refine va_get (D := D) (ci := 4) (v := .ref (a 8)) (C := RX3) (T := TX3) (N := 5) hx hb hts in_X4_missed_X3 hown hK.1 hP.1 1 rfl rfl 2 (by decide) (hts _ fl_X4_missed_148) (fun _ h9 => h9) rfl dX4_missed_37 ?_
      refine lv_iload hx hb dX4_missed_40 (lv_at hl 0 rfl) ?_
      refine k_iald hx hb hK hP.1 8 rfl (h.toNatClampNeg * 12 + x) rfl (by omega) (by decide) dX4_missed_42 ?_
      refine lv_isub hx hb dX4_missed_43 ?_
      refine va_mabs hx hb (hml.trans hl.1.symm) hown (hts _ ml_X4_missed_169) (hts _ mls_X4_missed_169) (hts _ mli_X4_missed) (hts _ mlc_X4_missed_169) (Nat.le_of_ble_eq_true rfl) (Nat.le_of_ble_eq_true rfl) (Nat.le_of_ble_eq_true rfl) (Nat.le_of_ble_eq_true rfl) dX4_missed_44 ?_
      refine lv_iadd hx hb dX4_missed_47 ?_
      refine lv_istore_n (lv' := [(2, .int ((msC S h.toNatClampNeg x) + (if 0 ≤ (S 14 (h.toNatClampNeg * 12 + x)) - (S 8 (h.toNatClampNeg * 12 + x)) then (S 14 (h.toNatClampNeg * 12 + x)) - (S 8 (h.toNatClampNeg * 12 + x)) else 0 - ((S 14 (h.toNatClampNeg * 12 + x)) - (S 8 (h.toNatClampNeg * 12 + x)))))), (4, .int (nI (h.toNatClampNeg * 12 + x))), (0, .ref (a 0)), (1, .int (nI h.toNatClampNeg)), (3, .int (nI x))]) hx hb dX4_missed_48 rfl hl (by decide) rfl (fun ls hl => ?_)
      refine lv_iinc (v := nI (x + 1)) (lv' := [(3, .int (nI (x + 1))), (2, .int ((msC S h.toNatClampNeg x) + (if 0 ≤ (S 14 (h.toNatClampNeg * 12 + x)) - (S 8 (h.toNatClampNeg * 12 + x)) then (S 14 (h.toNatClampNeg * 12 + x)) - (S 8 (h.toNatClampNeg * 12 + x)) else 0 - ((S 14 (h.toNatClampNeg * 12 + x)) - (S 8 (h.toNatClampNeg * 12 + x)))))), (4, .int (nI (h.toNatClampNeg * 12 + x))), (0, .ref (a 0)), (1, .int (nI h.toNatClampNeg))]) hx hb dX4_missed_49 hl (k := 4) rfl (k_iinc _) (by decide) rfl (fun ls hl => ?_)
      refine lv_goto (tgt := 9) hx hb dX4_missed_52 (by decide) ?_
      exact ih (x + 1) S (nI h.toNatClampNeg) ((msC S h.toNatClampNeg x) + (if 0 ≤ (S 14 (h.toNatClampNeg * 12 + x)) - (S 8 (h.toNatClampNeg * 12 + x)) then (S 14 (h.toNatClampNeg * 12 + x)) - (S 8 (h.toNatClampNeg * 12 + x)) else 0 - ((S 14 (h.toNatClampNeg * 12 + x)) - (S 8 (h.toNatClampNeg * 12 + x))))) (nI (x + 1)) (by omega) (by first | omega | assumption) rfl rfl (by rfl) rfl _ _ hP hS ls (lv_sub hl [3, 4, 1, 0] rfl)
set_option maxHeartbeats 4000000 in
set_option maxRecDepth 100000 in
theorem c_X4_missed (l : Launch) (hl0 : l.stackTraces = false) (D : va_G) (q : Nat → ClassId) (A : Nat → Prop) (a : Nat → Nat) (S : Nat → Nat → Int32) (cap nl : Nat) (h : Int32) (w0 : Nat) (hnow : S 0 0 = nI w0) (hw200 : w0 ≤ 200) : vx_Met l yX4_missed wsX4_missed ({ frames := 8, cells := 1, slots := 6, locals := 243 } : Room) (va_Pc [.ref (a 0), .int (h)] (kBX D q A (fun H => kW D A (wC q a S cap nl) H))) (kXi D A (fun r => (coMissed S h).1 = nI 0 ∧ r = (coMissed S h).2.1) (wC q a ((coMissed S h).2.2) cap nl)) (kXC D A (wC q a S cap nl) (fun E => exC [eA] E (coMissed S h).1)) 1 6 A := by
  refine vx_ofW (cc := cX4_missed) (maxL := 5) (ret := (some .int)) (by decide) rfl ?_
  intro p e u m args below meth c s₁ B hml0 hout hv
  obtain ⟨rfl, hP, hK, hX⟩ := hv
  have C0 : kAt p u m #[.ref (a 0), .int (h)] meth c cX4_missed 5 (some .int) RX4 wsX4_missed := kAt_of B hml0
  obtain ⟨hx, hb, hr, hml, hown, hts, hlocks⟩ := id C0
  have hS : va_S A u.heap u.heap [] := va_S.rf
  have hl := lv_entry ([.ref (a 0), .int (h)]) (n := 5) (Nat.le_of_ble_eq_true rfl)
  rw [lg_entry_eq]
  generalize (lg_sl ([.ref (a 0), .int (h)]) ++ List.replicate (5 - (lg_sl ([.ref (a 0), .int (h)])).length) Slot.unset).toArray = ls at hl ⊢
  have hl : lv_has ls 5 [(0, .ref (a 0)), (1, .int (h))] := hl
  refine lv_aload_n hx hb dX4_missed_0 rfl (lv_at hl 0 rfl) ?_
  refine lv_iload_n hx hb dX4_missed_1 rfl (lv_at hl 1 rfl) ?_
  refine k_goXv hS (vx_runV (rest := []) ⟨hx, hb, hml, hown, hts⟩ (c_X4_requireEnded l hl0 D q A a S cap nl h) (cwV 1 hts gX4_missed_X4_requireEnded rfl rfl rfl (by decide +kernel) ⟨Nat.le_of_ble_eq_true rfl, Nat.le_of_ble_eq_true rfl⟩) ⟨kBX_blind, (va_recv hK.1 hP.1 (ci := 5) (q0 := 0) rfl rfl), fun U hU hW => ⟨rfl, by rw [hU]; exact hP, hK.warm hW, hX.at hS hU hW⟩⟩ rfl rfl hl.1 rfl (lv_room (Nat.le_of_ble_eq_true rfl)) dX4_missed_2 ⟨Nat.le_of_ble_eq_true rfl, Nat.le_of_ble_eq_true rfl⟩) (fun E ce q9 H locs hE hP hS h1 h2 h3 => k_outX hout hlocks h1 h2 h3 (⟨0, by rw [hE.1]; rfl, by unfold coMissed; rw [if_neg hE.2]; try rfl⟩) hP hS (Nat.le_of_ble_eq_true rfl) (Nat.le_of_ble_eq_true rfl)) (fun H locs c_2 hP hS => ?_)
  obtain ⟨e_h, b_h⟩ := inP_lt hnow c_2 (by omega)
  rw [e_h] at hl
  refine lv_iconst (v := nI 0) hx hb dX4_missed_5 (by decide) ?_
  refine lv_istore_n (lv' := [(2, .int (nI 0)), (0, .ref (a 0)), (1, .int (nI h.toNatClampNeg))]) hx hb dX4_missed_6 rfl hl (by decide) rfl (fun ls hl => ?_)
  refine lv_iconst (v := nI 0) hx hb dX4_missed_7 (by decide) ?_
  refine lv_istore_n (lv' := [(3, .int (nI 0)), (2, .int (nI 0)), (0, .ref (a 0)), (1, .int (nI h.toNatClampNeg))]) hx hb dX4_missed_8 rfl hl (by decide) rfl (fun ls hl => ?_)
  refine W.widen (k := 1) (n := 6) (Nat.le_of_ble_eq_true rfl) (Nat.le_of_ble_eq_true rfl) ?_
  exact lp_X4_missed_9 a S cap nl h w0 hnow hw200 b_h (by unfold coMissed; rw [if_pos c_2]) C0 hK ((12 - 0) + 1) 0 S (nI h.toNatClampNeg) (nI 0) (nI 0) (by omega) (by first | omega | assumption) rfl rfl (by rfl) rfl _ _ hP hS ls (lv_sub hl [2, 3, 1, 0] rfl)
theorem fl_X4_isOf_33 : Cond.fieldLink RX4 33 "LampCounts" "made" "Ljava/util/ArrayList;" ∈ wsX4_isOf := by decide +kernel
theorem in_X4_isOf_X4 : ∀ w ∈ u_ws RX4 TX4 6, w ∈ wsX4_isOf := by decide +kernel
theorem cl_X4_isOf_101 : Cond.classLink RX4 101 "LampCounts$Lease" ∈ wsX4_isOf := by decide +kernel
set_option maxHeartbeats 4000000 in
set_option maxRecDepth 100000 in
theorem c_X4_isOf (l : Launch) (hl0 : l.stackTraces = false) (D : va_G) (q : Nat → ClassId) (A : Nat → Prop) (a : Nat → Nat) (S : Nat → Nat → Int32) (cap nl : Nat) (y h : Int32) (hnl : nl ≤ cap ∧ cap ≤ 40 ∧ nl ≤ 30) : vx_Met l yX4_isOf wsX4_isOf ({ frames := 7, cells := 1, slots := 6, locals := 221 } : Room) (va_Pc [.ref (a 0), .int (y), .int (h)] (kBX D q A (fun H => kW D A (wC q a S cap nl) H))) (kXi D A (fun r => (coIsOf S nl y h).1 = nI 0 ∧ r = (coIsOf S nl y h).2.1) (wC q a ((coIsOf S nl y h).2.2) cap nl)) (kXC D A (wC q a S cap nl) (fun E => exC [eI] E (coIsOf S nl y h).1)) 1 6 A := by
  refine vx_ofW (cc := cX4_isOf) (maxL := 3) (ret := (some .boolean)) (by decide) rfl ?_
  intro p e u m args below meth c s₁ B hml0 hout hv
  obtain ⟨rfl, hP, hK, hX⟩ := hv
  have C0 : kAt p u m #[.ref (a 0), .int (y), .int (h)] meth c cX4_isOf 3 (some .boolean) RX4 wsX4_isOf := kAt_of B hml0
  obtain ⟨hx, hb, hr, hml, hown, hts, hlocks⟩ := id C0
  have hS : va_S A u.heap u.heap [] := va_S.rf
  have hl := lv_entry ([.ref (a 0), .int (y), .int (h)]) (n := 3) (Nat.le_of_ble_eq_true rfl)
  rw [lg_entry_eq]
  generalize (lg_sl ([.ref (a 0), .int (y), .int (h)]) ++ List.replicate (3 - (lg_sl ([.ref (a 0), .int (y), .int (h)])).length) Slot.unset).toArray = ls at hl ⊢
  have hl : lv_has ls 3 [(0, .ref (a 0)), (1, .int (y)), (2, .int (h))] := hl
  refine lv_iload_n hx hb dX4_isOf_0 rfl (lv_at hl 1 rfl) ?_
  refine lv_aload_n hx hb dX4_isOf_1 rfl (lv_at hl 0 rfl) ?_
  refine va_get (D := D) (ci := 5) (v := .ref (a 4)) (C := RX4) (T := TX4) (N := 6) hx hb hts in_X4_isOf_X4 hown hK.1 hP.1 0 rfl rfl 3 (by decide) (hts _ fl_X4_isOf_33) (fun _ h9 => h9) rfl dX4_isOf_2 ?_
  refine k_callV (rest := [.int (y)]) (r := nI nl) ⟨hx, hb, hml, hown, hts⟩ (c_Jx4a65c_size_8abf5 l D q a S cap nl) (cwV 0 hts gX4_isOf_Jx4a65c_size_8abf5 rfl rfl rfl (by decide +kernel) ⟨Nat.le_of_ble_eq_true rfl, Nat.le_of_ble_eq_true rfl⟩) hK hP.1 (va_recv hK.1 hP.1 (ci := 0) (q0 := 4) rfl rfl) rfl hl.1 rfl (Nat.le_of_ble_eq_true rfl) dX4_isOf_5 ⟨Nat.le_of_ble_eq_true rfl, Nat.le_of_ble_eq_true rfl⟩ (fun _ h => h) ?_
  refine k_goXv hS (vx_runS (rest := []) ⟨hx, hb, hml, hown, hts⟩ (c_X4_requireIndex l hl0 D q A (wC q a S cap nl) y (nI nl)) (va_cwS 2 hts gX4_isOf_X4_requireIndex rfl rfl rfl (by decide +kernel) ⟨Nat.le_of_ble_eq_true rfl, Nat.le_of_ble_eq_true rfl⟩) ⟨kBX_blind, fun U hU hW => ⟨rfl, by rw [hU]; exact hP, hK.warm hW, hX.at hS hU hW⟩⟩ rfl rfl hl.1 rfl (lv_room (Nat.le_of_ble_eq_true rfl)) dX4_isOf_8 ⟨Nat.le_of_ble_eq_true rfl, Nat.le_of_ble_eq_true rfl⟩) (fun E ce q9 H locs hE hP hS h1 h2 h3 => k_outX hout hlocks h1 h2 h3 (⟨0, by rw [hE.1]; rfl, by unfold coIsOf; rw [if_neg hE.2]; try rfl⟩) hP hS (Nat.le_of_ble_eq_true rfl) (Nat.le_of_ble_eq_true rfl)) (fun H locs c_1 hP hS => ?_)
  obtain ⟨e_y, b_y⟩ := ixP_nat c_1 (by omega)
  rw [e_y] at hl
  refine lv_aload_n hx hb dX4_isOf_11 rfl (lv_at hl 0 rfl) ?_
  refine va_get (D := D) (ci := 5) (v := .ref (a 4)) (C := RX4) (T := TX4) (N := 6) hx hb hts in_X4_isOf_X4 hown hK.1 hP.1 0 rfl rfl 3 (by decide) (hts _ fl_X4_isOf_33) (fun _ h9 => h9) rfl dX4_isOf_12 ?_
  refine lv_iload_n hx hb dX4_isOf_15 rfl (lv_at hl 1 rfl) ?_
  refine k_callVr (rest := []) (r := a (100 + y.toNatClampNeg)) ⟨hx, hb, hml, hown, hts⟩ (c_Jx4a65c_get_915e3 l D q a S cap nl y.toNatClampNeg hnl (by omega)) (cwV 1 hts gX4_isOf_Jx4a65c_get_915e3 rfl rfl rfl (by decide +kernel) ⟨Nat.le_of_ble_eq_true rfl, Nat.le_of_ble_eq_true rfl⟩) hK hP.1 (va_recv hK.1 hP.1 (ci := 0) (q0 := 4) rfl rfl) rfl hl.1 rfl (Nat.le_of_ble_eq_true rfl) dX4_isOf_16 ⟨Nat.le_of_ble_eq_true rfl, Nat.le_of_ble_eq_true rfl⟩ ?_
  refine va_castS (nm := "LampCounts$Lease") hx hb hown (hts _ cl_X4_isOf_101) (hK.1.1 3 _ rfl).2 (va_recv hK.1 hP.1 (ci := 3) (q0 := 27 + y.toNatClampNeg) rfl (wC_ls (by omega) (by omega))) dX4_isOf_19 ?_
  refine lv_iload_n hx hb dX4_isOf_22 rfl (lv_at hl 2 rfl) ?_
  refine k_callV (rest := []) (r := bI (covP S y.toNatClampNeg h)) ⟨hx, hb, hml, hown, hts⟩ (c_X2_covers l D q a S cap nl y.toNatClampNeg h (by omega) (by omega)) (cwV 1 hts gX4_isOf_X2_covers rfl rfl rfl (by decide +kernel) ⟨Nat.le_of_ble_eq_true rfl, Nat.le_of_ble_eq_true rfl⟩) hK hP.1 (va_recv hK.1 hP.1 (ci := 3) (q0 := 27 + y.toNatClampNeg) rfl (wC_ls (by omega) (by omega))) rfl hl.1 rfl (Nat.le_of_ble_eq_true rfl) dX4_isOf_23 ⟨Nat.le_of_ble_eq_true rfl, Nat.le_of_ble_eq_true rfl⟩ (fun _ h => h) ?_
  have eM : S = (coIsOf S nl y h).2.2 := by unfold coIsOf; rw [if_pos c_1]; try rfl
  rw [eM] at hP
  exact k_zretX hx hb hr bI_nar hlocks hP hS ⟨by unfold coIsOf; rw [if_pos c_1]; try rfl, by unfold coIsOf; rw [if_pos c_1]; try rfl⟩ (Nat.le_of_ble_eq_true rfl) (Nat.le_of_ble_eq_true rfl) dX4_isOf_26
theorem fl_X4_billed_33 : Cond.fieldLink RX4 33 "LampCounts" "made" "Ljava/util/ArrayList;" ∈ wsX4_billed := by decide +kernel
theorem fl_X4_billed_178 : Cond.fieldLink RX4 178 "LampCounts$Lease" "bill" "I" ∈ wsX4_billed := by decide +kernel
theorem in_X4_billed_X2 : ∀ w ∈ u_ws RX2 TX2 9, w ∈ wsX4_billed := by decide +kernel
theorem in_X4_billed_X4 : ∀ w ∈ u_ws RX4 TX4 6, w ∈ wsX4_billed := by decide +kernel
theorem cl_X4_billed_101 : Cond.classLink RX4 101 "LampCounts$Lease" ∈ wsX4_billed := by decide +kernel
set_option maxHeartbeats 4000000 in
set_option maxRecDepth 100000 in
theorem c_X4_billed (l : Launch) (hl0 : l.stackTraces = false) (D : va_G) (q : Nat → ClassId) (A : Nat → Prop) (a : Nat → Nat) (S : Nat → Nat → Int32) (cap nl : Nat) (y : Int32) (hnl : nl ≤ cap ∧ cap ≤ 40 ∧ nl ≤ 30) : vx_Met l yX4_billed wsX4_billed ({ frames := 7, cells := 1, slots := 6, locals := 221 } : Room) (va_Pc [.ref (a 0), .int (y)] (kBX D q A (fun H => kW D A (wC q a S cap nl) H))) (kXi D A (fun r => (coLs S 37 nl y).1 = nI 0 ∧ r = (coLs S 37 nl y).2.1) (wC q a ((coLs S 37 nl y).2.2) cap nl)) (kXC D A (wC q a S cap nl) (fun E => exC [eI] E (coLs S 37 nl y).1)) 1 6 A := by
  refine vx_ofW (cc := cX4_billed) (maxL := 2) (ret := (some .int)) (by decide) rfl ?_
  intro p e u m args below meth c s₁ B hml0 hout hv
  obtain ⟨rfl, hP, hK, hX⟩ := hv
  have C0 : kAt p u m #[.ref (a 0), .int (y)] meth c cX4_billed 2 (some .int) RX4 wsX4_billed := kAt_of B hml0
  obtain ⟨hx, hb, hr, hml, hown, hts, hlocks⟩ := id C0
  have hS : va_S A u.heap u.heap [] := va_S.rf
  have hl := lv_entry ([.ref (a 0), .int (y)]) (n := 2) (Nat.le_of_ble_eq_true rfl)
  rw [lg_entry_eq]
  generalize (lg_sl ([.ref (a 0), .int (y)]) ++ List.replicate (2 - (lg_sl ([.ref (a 0), .int (y)])).length) Slot.unset).toArray = ls at hl ⊢
  have hl : lv_has ls 2 [(0, .ref (a 0)), (1, .int (y))] := hl
  refine lv_iload_n hx hb dX4_billed_0 rfl (lv_at hl 1 rfl) ?_
  refine lv_aload_n hx hb dX4_billed_1 rfl (lv_at hl 0 rfl) ?_
  refine va_get (D := D) (ci := 5) (v := .ref (a 4)) (C := RX4) (T := TX4) (N := 6) hx hb hts in_X4_billed_X4 hown hK.1 hP.1 0 rfl rfl 3 (by decide) (hts _ fl_X4_billed_33) (fun _ h9 => h9) rfl dX4_billed_2 ?_
  refine k_callV (rest := [.int (y)]) (r := nI nl) ⟨hx, hb, hml, hown, hts⟩ (c_Jx4a65c_size_8abf5 l D q a S cap nl) (cwV 0 hts gX4_billed_Jx4a65c_size_8abf5 rfl rfl rfl (by decide +kernel) ⟨Nat.le_of_ble_eq_true rfl, Nat.le_of_ble_eq_true rfl⟩) hK hP.1 (va_recv hK.1 hP.1 (ci := 0) (q0 := 4) rfl rfl) rfl hl.1 rfl (Nat.le_of_ble_eq_true rfl) dX4_billed_5 ⟨Nat.le_of_ble_eq_true rfl, Nat.le_of_ble_eq_true rfl⟩ (fun _ h => h) ?_
  refine k_goXv hS (vx_runS (rest := []) ⟨hx, hb, hml, hown, hts⟩ (c_X4_requireIndex l hl0 D q A (wC q a S cap nl) y (nI nl)) (va_cwS 2 hts gX4_billed_X4_requireIndex rfl rfl rfl (by decide +kernel) ⟨Nat.le_of_ble_eq_true rfl, Nat.le_of_ble_eq_true rfl⟩) ⟨kBX_blind, fun U hU hW => ⟨rfl, by rw [hU]; exact hP, hK.warm hW, hX.at hS hU hW⟩⟩ rfl rfl hl.1 rfl (lv_room (Nat.le_of_ble_eq_true rfl)) dX4_billed_8 ⟨Nat.le_of_ble_eq_true rfl, Nat.le_of_ble_eq_true rfl⟩) (fun E ce q9 H locs hE hP hS h1 h2 h3 => k_outX hout hlocks h1 h2 h3 (⟨0, by rw [hE.1]; rfl, by unfold coLs; rw [if_neg hE.2]; try rfl⟩) hP hS (Nat.le_of_ble_eq_true rfl) (Nat.le_of_ble_eq_true rfl)) (fun H locs c_1 hP hS => ?_)
  obtain ⟨e_y, b_y⟩ := ixP_nat c_1 (by omega)
  rw [e_y] at hl
  refine lv_aload_n hx hb dX4_billed_11 rfl (lv_at hl 0 rfl) ?_
  refine va_get (D := D) (ci := 5) (v := .ref (a 4)) (C := RX4) (T := TX4) (N := 6) hx hb hts in_X4_billed_X4 hown hK.1 hP.1 0 rfl rfl 3 (by decide) (hts _ fl_X4_billed_33) (fun _ h9 => h9) rfl dX4_billed_12 ?_
  refine lv_iload_n hx hb dX4_billed_15 rfl (lv_at hl 1 rfl) ?_
  refine k_callVr (rest := []) (r := a (100 + y.toNatClampNeg)) ⟨hx, hb, hml, hown, hts⟩ (c_Jx4a65c_get_915e3 l D q a S cap nl y.toNatClampNeg hnl (by omega)) (cwV 1 hts gX4_billed_Jx4a65c_get_915e3 rfl rfl rfl (by decide +kernel) ⟨Nat.le_of_ble_eq_true rfl, Nat.le_of_ble_eq_true rfl⟩) hK hP.1 (va_recv hK.1 hP.1 (ci := 0) (q0 := 4) rfl rfl) rfl hl.1 rfl (Nat.le_of_ble_eq_true rfl) dX4_billed_16 ⟨Nat.le_of_ble_eq_true rfl, Nat.le_of_ble_eq_true rfl⟩ ?_
  refine va_castS (nm := "LampCounts$Lease") hx hb hown (hts _ cl_X4_billed_101) (hK.1.1 3 _ rfl).2 (va_recv hK.1 hP.1 (ci := 3) (q0 := 27 + y.toNatClampNeg) rfl (wC_ls (by omega) (by omega))) dX4_billed_19 ?_
  refine va_get (D := D) (ci := 3) (v := .int (S 37 y.toNatClampNeg)) (C := RX2) (T := TX2) (N := 9) hx hb hts in_X4_billed_X2 hown hK.1 hP.1 (27 + y.toNatClampNeg) (wC_ls (by omega) (by omega)) rfl 7 (by decide) (hts _ fl_X4_billed_178) (fun _ h9 => h9) rfl dX4_billed_22 ?_
  have eM : S = (coLs S 37 nl y).2.2 := by unfold coLs; rw [if_pos c_1]; try rfl
  rw [eM] at hP
  exact k_iretX hx hb hr hlocks hP hS ⟨by unfold coLs; rw [if_pos c_1]; try rfl, by unfold coLs; rw [if_pos c_1]; try rfl⟩ (Nat.le_of_ble_eq_true rfl) (Nat.le_of_ble_eq_true rfl) dX4_billed_25
theorem fl_X4_corrected_33 : Cond.fieldLink RX4 33 "LampCounts" "made" "Ljava/util/ArrayList;" ∈ wsX4_corrected := by decide +kernel
theorem fl_X4_corrected_187 : Cond.fieldLink RX4 187 "LampCounts$Lease" "corrections" "I" ∈ wsX4_corrected := by decide +kernel
theorem in_X4_corrected_X2 : ∀ w ∈ u_ws RX2 TX2 9, w ∈ wsX4_corrected := by decide +kernel
theorem in_X4_corrected_X4 : ∀ w ∈ u_ws RX4 TX4 6, w ∈ wsX4_corrected := by decide +kernel
theorem cl_X4_corrected_101 : Cond.classLink RX4 101 "LampCounts$Lease" ∈ wsX4_corrected := by decide +kernel
set_option maxHeartbeats 4000000 in
set_option maxRecDepth 100000 in
theorem c_X4_corrected (l : Launch) (hl0 : l.stackTraces = false) (D : va_G) (q : Nat → ClassId) (A : Nat → Prop) (a : Nat → Nat) (S : Nat → Nat → Int32) (cap nl : Nat) (y : Int32) (hnl : nl ≤ cap ∧ cap ≤ 40 ∧ nl ≤ 30) : vx_Met l yX4_corrected wsX4_corrected ({ frames := 7, cells := 1, slots := 6, locals := 221 } : Room) (va_Pc [.ref (a 0), .int (y)] (kBX D q A (fun H => kW D A (wC q a S cap nl) H))) (kXi D A (fun r => (coLs S 38 nl y).1 = nI 0 ∧ r = (coLs S 38 nl y).2.1) (wC q a ((coLs S 38 nl y).2.2) cap nl)) (kXC D A (wC q a S cap nl) (fun E => exC [eI] E (coLs S 38 nl y).1)) 1 6 A := by
  refine vx_ofW (cc := cX4_corrected) (maxL := 2) (ret := (some .int)) (by decide) rfl ?_
  intro p e u m args below meth c s₁ B hml0 hout hv
  obtain ⟨rfl, hP, hK, hX⟩ := hv
  have C0 : kAt p u m #[.ref (a 0), .int (y)] meth c cX4_corrected 2 (some .int) RX4 wsX4_corrected := kAt_of B hml0
  obtain ⟨hx, hb, hr, hml, hown, hts, hlocks⟩ := id C0
  have hS : va_S A u.heap u.heap [] := va_S.rf
  have hl := lv_entry ([.ref (a 0), .int (y)]) (n := 2) (Nat.le_of_ble_eq_true rfl)
  rw [lg_entry_eq]
  generalize (lg_sl ([.ref (a 0), .int (y)]) ++ List.replicate (2 - (lg_sl ([.ref (a 0), .int (y)])).length) Slot.unset).toArray = ls at hl ⊢
  have hl : lv_has ls 2 [(0, .ref (a 0)), (1, .int (y))] := hl
  refine lv_iload_n hx hb dX4_corrected_0 rfl (lv_at hl 1 rfl) ?_
  refine lv_aload_n hx hb dX4_corrected_1 rfl (lv_at hl 0 rfl) ?_
  refine va_get (D := D) (ci := 5) (v := .ref (a 4)) (C := RX4) (T := TX4) (N := 6) hx hb hts in_X4_corrected_X4 hown hK.1 hP.1 0 rfl rfl 3 (by decide) (hts _ fl_X4_corrected_33) (fun _ h9 => h9) rfl dX4_corrected_2 ?_
  refine k_callV (rest := [.int (y)]) (r := nI nl) ⟨hx, hb, hml, hown, hts⟩ (c_Jx4a65c_size_8abf5 l D q a S cap nl) (cwV 0 hts gX4_corrected_Jx4a65c_size_8abf5 rfl rfl rfl (by decide +kernel) ⟨Nat.le_of_ble_eq_true rfl, Nat.le_of_ble_eq_true rfl⟩) hK hP.1 (va_recv hK.1 hP.1 (ci := 0) (q0 := 4) rfl rfl) rfl hl.1 rfl (Nat.le_of_ble_eq_true rfl) dX4_corrected_5 ⟨Nat.le_of_ble_eq_true rfl, Nat.le_of_ble_eq_true rfl⟩ (fun _ h => h) ?_
  refine k_goXv hS (vx_runS (rest := []) ⟨hx, hb, hml, hown, hts⟩ (c_X4_requireIndex l hl0 D q A (wC q a S cap nl) y (nI nl)) (va_cwS 2 hts gX4_corrected_X4_requireIndex rfl rfl rfl (by decide +kernel) ⟨Nat.le_of_ble_eq_true rfl, Nat.le_of_ble_eq_true rfl⟩) ⟨kBX_blind, fun U hU hW => ⟨rfl, by rw [hU]; exact hP, hK.warm hW, hX.at hS hU hW⟩⟩ rfl rfl hl.1 rfl (lv_room (Nat.le_of_ble_eq_true rfl)) dX4_corrected_8 ⟨Nat.le_of_ble_eq_true rfl, Nat.le_of_ble_eq_true rfl⟩) (fun E ce q9 H locs hE hP hS h1 h2 h3 => k_outX hout hlocks h1 h2 h3 (⟨0, by rw [hE.1]; rfl, by unfold coLs; rw [if_neg hE.2]; try rfl⟩) hP hS (Nat.le_of_ble_eq_true rfl) (Nat.le_of_ble_eq_true rfl)) (fun H locs c_1 hP hS => ?_)
  obtain ⟨e_y, b_y⟩ := ixP_nat c_1 (by omega)
  rw [e_y] at hl
  refine lv_aload_n hx hb dX4_corrected_11 rfl (lv_at hl 0 rfl) ?_
  refine va_get (D := D) (ci := 5) (v := .ref (a 4)) (C := RX4) (T := TX4) (N := 6) hx hb hts in_X4_corrected_X4 hown hK.1 hP.1 0 rfl rfl 3 (by decide) (hts _ fl_X4_corrected_33) (fun _ h9 => h9) rfl dX4_corrected_12 ?_
  refine lv_iload_n hx hb dX4_corrected_15 rfl (lv_at hl 1 rfl) ?_
  refine k_callVr (rest := []) (r := a (100 + y.toNatClampNeg)) ⟨hx, hb, hml, hown, hts⟩ (c_Jx4a65c_get_915e3 l D q a S cap nl y.toNatClampNeg hnl (by omega)) (cwV 1 hts gX4_corrected_Jx4a65c_get_915e3 rfl rfl rfl (by decide +kernel) ⟨Nat.le_of_ble_eq_true rfl, Nat.le_of_ble_eq_true rfl⟩) hK hP.1 (va_recv hK.1 hP.1 (ci := 0) (q0 := 4) rfl rfl) rfl hl.1 rfl (Nat.le_of_ble_eq_true rfl) dX4_corrected_16 ⟨Nat.le_of_ble_eq_true rfl, Nat.le_of_ble_eq_true rfl⟩ ?_
  refine va_castS (nm := "LampCounts$Lease") hx hb hown (hts _ cl_X4_corrected_101) (hK.1.1 3 _ rfl).2 (va_recv hK.1 hP.1 (ci := 3) (q0 := 27 + y.toNatClampNeg) rfl (wC_ls (by omega) (by omega))) dX4_corrected_19 ?_
  refine va_get (D := D) (ci := 3) (v := .int (S 38 y.toNatClampNeg)) (C := RX2) (T := TX2) (N := 9) hx hb hts in_X4_corrected_X2 hown hK.1 hP.1 (27 + y.toNatClampNeg) (wC_ls (by omega) (by omega)) rfl 8 (by decide) (hts _ fl_X4_corrected_187) (fun _ h9 => h9) rfl dX4_corrected_22 ?_
  have eM : S = (coLs S 38 nl y).2.2 := by unfold coLs; rw [if_pos c_1]; try rfl
  rw [eM] at hP
  exact k_iretX hx hb hr hlocks hP hS ⟨by unfold coLs; rw [if_pos c_1]; try rfl, by unfold coLs; rw [if_pos c_1]; try rfl⟩ (Nat.le_of_ble_eq_true rfl) (Nat.le_of_ble_eq_true rfl) dX4_corrected_25
theorem fl_X4_billedAnew_19 : Cond.fieldLink RX4 19 "LampCounts" "lamps" "LLampCounts$Lamps;" ∈ wsX4_billedAnew := by decide +kernel
theorem fl_X4_billedAnew_33 : Cond.fieldLink RX4 33 "LampCounts" "made" "Ljava/util/ArrayList;" ∈ wsX4_billedAnew := by decide +kernel
theorem fl_X4_billedAnew_41 : Cond.fieldLink RX4 41 "LampCounts" "now" "I" ∈ wsX4_billedAnew := by decide +kernel
theorem fl_X4_billedAnew_118 : Cond.fieldLink RX4 118 "LampCounts$Lease" "end" "I" ∈ wsX4_billedAnew := by decide +kernel
theorem fl_X4_billedAnew_121 : Cond.fieldLink RX4 121 "LampCounts$Lease" "start" "I" ∈ wsX4_billedAnew := by decide +kernel
theorem fl_X4_billedAnew_181 : Cond.fieldLink RX4 181 "LampCounts$Lease" "section" "I" ∈ wsX4_billedAnew := by decide +kernel
theorem in_X4_billedAnew_X2 : ∀ w ∈ u_ws RX2 TX2 9, w ∈ wsX4_billedAnew := by decide +kernel
theorem in_X4_billedAnew_X4 : ∀ w ∈ u_ws RX4 TX4 6, w ∈ wsX4_billedAnew := by decide +kernel
theorem cl_X4_billedAnew_101 : Cond.classLink RX4 101 "LampCounts$Lease" ∈ wsX4_billedAnew := by decide +kernel
set_option maxHeartbeats 4000000 in
set_option maxRecDepth 100000 in
theorem lp_X4_billedAnew_31 {p : Program} {l : Launch} {e : Env} {u : State} {m : MethodId} {below : List Frame} {meth : Method} {c : Code} {D : va_G} {q : Nat → ClassId} {A : Nat → Prop} (a : Nat → Nat) (S : Nat → Nat → Int32) (cap nl : Nat) (y : Int32) (n w0 : Nat) (hn : S 0 1 = nI n) (hn60 : n ≤ 60) (hnl : nl ≤ cap ∧ cap ≤ 40 ∧ nl ≤ 30) (hnow : S 0 0 = nI w0) (hw200 : w0 ≤ 200) (hoc : okC S nl) (b_y : y.toNatClampNeg < nl) (hfin : coBilledAnew S n w0 nl y = (nI 0, baF S n y.toNatClampNeg (min (ix S 36 y.toNatClampNeg) w0 - ix S 35 y.toNatClampNeg), S)) (C0 : kAt p u m #[.ref (a 0), .int (y)] meth c cX4_billedAnew 5 (some .int) RX4 wsX4_billedAnew) (hK : kK D q u) :
    ∀ (f : Nat) (j : Nat) (T : Nat → Nat → Int32) (x1 : Int32) (x2 : Nat) (x3 : Int32) (x4 : Int32), min (ix S 36 y.toNatClampNeg) w0 - ix S 35 y.toNatClampNeg - j < f → j ≤ min (ix S 36 y.toNatClampNeg) w0 - ix S 35 y.toNatClampNeg → secN S y.toNatClampNeg < 12 ∧ ix S 35 y.toNatClampNeg ≤ 200 ∧ ix S 36 y.toNatClampNeg ≤ 300 → T = S → x1 = nI y.toNatClampNeg → x2 = a (100 + y.toNatClampNeg) → x3 = baF S n y.toNatClampNeg j → x4 = nI (ix S 35 y.toNatClampNeg + j) → ∀ (H : Heap) (locs : List Loc), kW D A (wC q a T cap nl) H → va_S A u.heap H locs → ∀ (ls : Array Slot), lv_has ls 5 [(0, .ref (a 0)), (1, .int x1), (2, .ref x2), (3, .int x3), (4, .int x4)] → W p l e ({ frames := 7, cells := 1, slots := 6, locals := 221 } : Room) u m #[.ref (a 0), .int (y)] below meth c H locs 1 6 (vx_MQ below (kXi D A (fun r => (coBilledAnew S n w0 nl y).1 = nI 0 ∧ r = (coBilledAnew S n w0 nl y).2.1) (wC q a ((coBilledAnew S n w0 nl y).2.2) cap nl)) (kXC D A (wC q a S cap nl) (fun E => exC [eI] E (coBilledAnew S n w0 nl y).1)) #[.ref (a 0), .int (y)] u 1 6 A) (F0 m 31 ls []) := by
  obtain ⟨hx, hb, hr, hml, hown, hts, hlocks⟩ := id C0
  intro f
  induction f with
  | zero =>
    intro j T x1 x2 x3 x4 hf
    exact absurd hf (Nat.not_lt_zero _)
  | succ f ih =>
    intro j T x1 x2 x3 x4 hf hj h3 eT e1 e2 e3 e4 H locs hP hS ls hl
    replace eT := eT.symm
    subst eT
    replace e1 := e1.symm
    subst e1
    replace e2 := e2.symm
    subst e2
    replace e3 := e3.symm
    subst e3
    replace e4 := e4.symm
    subst e4
    refine lv_iload hx hb dX4_billedAnew_31 (lv_at hl 4 rfl) ?_
    refine lv_aload_n hx hb dX4_billedAnew_33 rfl (lv_at hl 2 rfl) ?_
    refine va_get (D := D) (ci := 3) (v := .int (S 36 y.toNatClampNeg)) (C := RX2) (T := TX2) (N := 9) hx hb hts in_X4_billedAnew_X2 hown hK.1 hP.1 (27 + y.toNatClampNeg) (wC_ls (by omega) (by omega)) rfl 6 (by decide) (hts _ fl_X4_billedAnew_118) (fun _ h9 => h9) rfl dX4_billedAnew_34 ?_
    refine k_top (y := nI (ix S 36 y.toNatClampNeg)) (hoc _ b_y).2.2.1 ?_
    refine k_icmp_ge (P := ix S 35 y.toNatClampNeg + j < ix S 36 y.toNatClampNeg) (tgt := 75) hx hb dX4_billedAnew_37 (by decide) (nI_ltI (by omega) (by omega)) (fun c_1 => ?_) (fun c_1 => ?_)
    · skip
      refine lv_iload_n hx hb dX4_billedAnew_75 rfl (lv_at hl 3 rfl) ?_
      have eM : S = (coBilledAnew S n w0 nl y).2.2 := by rw [hfin]
      rw [eM] at hP
      exact k_iretX hx hb hr hlocks hP hS ⟨by rw [hfin], by rw [hfin, show min (ix S 36 y.toNatClampNeg) w0 - ix S 35 y.toNatClampNeg = j from by omega]⟩ (Nat.le_of_ble_eq_true rfl) (Nat.le_of_ble_eq_true rfl) dX4_billedAnew_76
    · skip
      refine lv_iload hx hb dX4_billedAnew_40 (lv_at hl 4 rfl) ?_
      refine lv_aload_n hx hb dX4_billedAnew_42 rfl (lv_at hl 0 rfl) ?_
      refine va_get (D := D) (ci := 5) (v := .int (S 0 0)) (C := RX4) (T := TX4) (N := 6) hx hb hts in_X4_billedAnew_X4 hown hK.1 hP.1 0 rfl rfl 5 (by decide) (hts _ fl_X4_billedAnew_41) (fun _ h9 => h9) rfl dX4_billedAnew_43 ?_
      refine k_top (y := nI w0) hnow ?_
      refine k_icmp_ge (P := ix S 35 y.toNatClampNeg + j < w0) (tgt := 75) hx hb dX4_billedAnew_46 (by decide) (nI_ltI (by omega) (by omega)) (fun c_2 => ?_) (fun c_2 => ?_)
      · skip
        refine lv_iload_n hx hb dX4_billedAnew_75 rfl (lv_at hl 3 rfl) ?_
        have eM : S = (coBilledAnew S n w0 nl y).2.2 := by rw [hfin]
        rw [eM] at hP
        exact k_iretX hx hb hr hlocks hP hS ⟨by rw [hfin], by rw [hfin, show min (ix S 36 y.toNatClampNeg) w0 - ix S 35 y.toNatClampNeg = j from by omega]⟩ (Nat.le_of_ble_eq_true rfl) (Nat.le_of_ble_eq_true rfl) dX4_billedAnew_76
      · skip
        refine lv_iload_n hx hb dX4_billedAnew_49 rfl (lv_at hl 3 rfl) ?_
        refine lv_aload_n hx hb dX4_billedAnew_50 rfl (lv_at hl 2 rfl) ?_
        refine lv_aload_n hx hb dX4_billedAnew_51 rfl (lv_at hl 0 rfl) ?_
        refine va_get (D := D) (ci := 5) (v := .ref (a 2)) (C := RX4) (T := TX4) (N := 6) hx hb hts in_X4_billedAnew_X4 hown hK.1 hP.1 0 rfl rfl 1 (by decide) (hts _ fl_X4_billedAnew_19) (fun _ h9 => h9) rfl dX4_billedAnew_52 ?_
        refine lv_aload_n hx hb dX4_billedAnew_55 rfl (lv_at hl 2 rfl) ?_
        refine va_get (D := D) (ci := 3) (v := .int (S 31 y.toNatClampNeg)) (C := RX2) (T := TX2) (N := 9) hx hb hts in_X4_billedAnew_X2 hown hK.1 hP.1 (27 + y.toNatClampNeg) (wC_ls (by omega) (by omega)) rfl 1 (by decide) (hts _ fl_X4_billedAnew_181) (fun _ h9 => h9) rfl dX4_billedAnew_56 ?_
        refine k_top (y := nI (secN S y.toNatClampNeg)) (hoc _ b_y).1.1 ?_
        refine lv_iload hx hb dX4_billedAnew_59 (lv_at hl 4 rfl) ?_
        refine k_callV (rest := [.ref (a (100 + y.toNatClampNeg)), .int (baF S n y.toNatClampNeg j)]) (r := anewF S n (ix S 35 y.toNatClampNeg + j) (secN S y.toNatClampNeg)) ⟨hx, hb, hml, hown, hts⟩ (c_X1_foundAnew l D q a S cap nl (secN S y.toNatClampNeg) (ix S 35 y.toNatClampNeg + j) n (by omega) (by omega) hn hn60) (cwV 2 hts gX4_billedAnew_X1_foundAnew rfl rfl rfl (by decide +kernel) ⟨Nat.le_of_ble_eq_true rfl, Nat.le_of_ble_eq_true rfl⟩) hK hP.1 (va_recv hK.1 hP.1 (ci := 2) (q0 := 2) rfl rfl) rfl hl.1 rfl (Nat.le_of_ble_eq_true rfl) dX4_billedAnew_61 ⟨Nat.le_of_ble_eq_true rfl, Nat.le_of_ble_eq_true rfl⟩ (fun _ h => h) ?_
        refine k_callV (rest := [.int (baF S n y.toNatClampNeg j)]) (r := rentF S y.toNatClampNeg (anewF S n (ix S 35 y.toNatClampNeg + j) (secN S y.toNatClampNeg))) ⟨hx, hb, hml, hown, hts⟩ (c_X2_rentFor l D q a S cap nl y.toNatClampNeg (anewF S n (ix S 35 y.toNatClampNeg + j) (secN S y.toNatClampNeg)) (by omega) (by omega)) (cwV 1 hts gX4_billedAnew_X2_rentFor rfl rfl rfl (by decide +kernel) ⟨Nat.le_of_ble_eq_true rfl, Nat.le_of_ble_eq_true rfl⟩) hK hP.1 (va_recv hK.1 hP.1 (ci := 3) (q0 := 27 + y.toNatClampNeg) rfl (wC_ls (by omega) (by omega))) rfl hl.1 rfl (Nat.le_of_ble_eq_true rfl) dX4_billedAnew_64 ⟨Nat.le_of_ble_eq_true rfl, Nat.le_of_ble_eq_true rfl⟩ (fun _ h => h) ?_
        refine lv_iadd hx hb dX4_billedAnew_67 ?_
        refine lv_istore_n (lv' := [(3, .int ((baF S n y.toNatClampNeg j) + (rentF S y.toNatClampNeg (anewF S n (ix S 35 y.toNatClampNeg + j) (secN S y.toNatClampNeg))))), (0, .ref (a 0)), (1, .int (nI y.toNatClampNeg)), (2, .ref (a (100 + y.toNatClampNeg))), (4, .int (nI (ix S 35 y.toNatClampNeg + j)))]) hx hb dX4_billedAnew_68 rfl hl (by decide) rfl (fun ls hl => ?_)
        refine lv_iinc (v := nI (ix S 35 y.toNatClampNeg + j + 1)) (lv' := [(4, .int (nI (ix S 35 y.toNatClampNeg + j + 1))), (3, .int ((baF S n y.toNatClampNeg j) + (rentF S y.toNatClampNeg (anewF S n (ix S 35 y.toNatClampNeg + j) (secN S y.toNatClampNeg))))), (0, .ref (a 0)), (1, .int (nI y.toNatClampNeg)), (2, .ref (a (100 + y.toNatClampNeg)))]) hx hb dX4_billedAnew_69 hl (k := 4) rfl (k_iinc _) (by decide) rfl (fun ls hl => ?_)
        refine lv_goto (tgt := 31) hx hb dX4_billedAnew_72 (by decide) ?_
        exact ih (j + 1) S (nI y.toNatClampNeg) (a (100 + y.toNatClampNeg)) ((baF S n y.toNatClampNeg j) + (rentF S y.toNatClampNeg (anewF S n (ix S 35 y.toNatClampNeg + j) (secN S y.toNatClampNeg)))) (nI (ix S 35 y.toNatClampNeg + j + 1)) (by omega) (by first | omega | assumption) (by first | omega | assumption) rfl rfl rfl (by rfl) (by rfl) _ _ hP hS ls (lv_sub hl [2, 3, 4, 1, 0] rfl)
set_option maxHeartbeats 4000000 in
set_option maxRecDepth 100000 in
theorem c_X4_billedAnew (l : Launch) (hl0 : l.stackTraces = false) (D : va_G) (q : Nat → ClassId) (A : Nat → Prop) (a : Nat → Nat) (S : Nat → Nat → Int32) (cap nl : Nat) (y : Int32) (n w0 : Nat) (hn : S 0 1 = nI n) (hn60 : n ≤ 60) (hnl : nl ≤ cap ∧ cap ≤ 40 ∧ nl ≤ 30) (hnow : S 0 0 = nI w0) (hw200 : w0 ≤ 200) (hoc : okC S nl) : vx_Met l yX4_billedAnew wsX4_billedAnew ({ frames := 7, cells := 1, slots := 6, locals := 221 } : Room) (va_Pc [.ref (a 0), .int (y)] (kBX D q A (fun H => kW D A (wC q a S cap nl) H))) (kXi D A (fun r => (coBilledAnew S n w0 nl y).1 = nI 0 ∧ r = (coBilledAnew S n w0 nl y).2.1) (wC q a ((coBilledAnew S n w0 nl y).2.2) cap nl)) (kXC D A (wC q a S cap nl) (fun E => exC [eI] E (coBilledAnew S n w0 nl y).1)) 1 6 A := by
  refine vx_ofW (cc := cX4_billedAnew) (maxL := 5) (ret := (some .int)) (by decide) rfl ?_
  intro p e u m args below meth c s₁ B hml0 hout hv
  obtain ⟨rfl, hP, hK, hX⟩ := hv
  have C0 : kAt p u m #[.ref (a 0), .int (y)] meth c cX4_billedAnew 5 (some .int) RX4 wsX4_billedAnew := kAt_of B hml0
  obtain ⟨hx, hb, hr, hml, hown, hts, hlocks⟩ := id C0
  have hS : va_S A u.heap u.heap [] := va_S.rf
  have hl := lv_entry ([.ref (a 0), .int (y)]) (n := 5) (Nat.le_of_ble_eq_true rfl)
  rw [lg_entry_eq]
  generalize (lg_sl ([.ref (a 0), .int (y)]) ++ List.replicate (5 - (lg_sl ([.ref (a 0), .int (y)])).length) Slot.unset).toArray = ls at hl ⊢
  have hl : lv_has ls 5 [(0, .ref (a 0)), (1, .int (y))] := hl
  refine lv_iload_n hx hb dX4_billedAnew_0 rfl (lv_at hl 1 rfl) ?_
  refine lv_aload_n hx hb dX4_billedAnew_1 rfl (lv_at hl 0 rfl) ?_
  refine va_get (D := D) (ci := 5) (v := .ref (a 4)) (C := RX4) (T := TX4) (N := 6) hx hb hts in_X4_billedAnew_X4 hown hK.1 hP.1 0 rfl rfl 3 (by decide) (hts _ fl_X4_billedAnew_33) (fun _ h9 => h9) rfl dX4_billedAnew_2 ?_
  refine k_callV (rest := [.int (y)]) (r := nI nl) ⟨hx, hb, hml, hown, hts⟩ (c_Jx4a65c_size_8abf5 l D q a S cap nl) (cwV 0 hts gX4_billedAnew_Jx4a65c_size_8abf5 rfl rfl rfl (by decide +kernel) ⟨Nat.le_of_ble_eq_true rfl, Nat.le_of_ble_eq_true rfl⟩) hK hP.1 (va_recv hK.1 hP.1 (ci := 0) (q0 := 4) rfl rfl) rfl hl.1 rfl (Nat.le_of_ble_eq_true rfl) dX4_billedAnew_5 ⟨Nat.le_of_ble_eq_true rfl, Nat.le_of_ble_eq_true rfl⟩ (fun _ h => h) ?_
  refine k_goXv hS (vx_runS (rest := []) ⟨hx, hb, hml, hown, hts⟩ (c_X4_requireIndex l hl0 D q A (wC q a S cap nl) y (nI nl)) (va_cwS 2 hts gX4_billedAnew_X4_requireIndex rfl rfl rfl (by decide +kernel) ⟨Nat.le_of_ble_eq_true rfl, Nat.le_of_ble_eq_true rfl⟩) ⟨kBX_blind, fun U hU hW => ⟨rfl, by rw [hU]; exact hP, hK.warm hW, hX.at hS hU hW⟩⟩ rfl rfl hl.1 rfl (lv_room (Nat.le_of_ble_eq_true rfl)) dX4_billedAnew_8 ⟨Nat.le_of_ble_eq_true rfl, Nat.le_of_ble_eq_true rfl⟩) (fun E ce q9 H locs hE hP hS h1 h2 h3 => k_outX hout hlocks h1 h2 h3 (⟨0, by rw [hE.1]; rfl, by unfold coBilledAnew; rw [if_neg hE.2]; try rfl⟩) hP hS (Nat.le_of_ble_eq_true rfl) (Nat.le_of_ble_eq_true rfl)) (fun H locs c_3 hP hS => ?_)
  obtain ⟨e_y, b_y⟩ := ixP_nat c_3 (by omega)
  rw [e_y] at hl
  refine lv_aload_n hx hb dX4_billedAnew_11 rfl (lv_at hl 0 rfl) ?_
  refine va_get (D := D) (ci := 5) (v := .ref (a 4)) (C := RX4) (T := TX4) (N := 6) hx hb hts in_X4_billedAnew_X4 hown hK.1 hP.1 0 rfl rfl 3 (by decide) (hts _ fl_X4_billedAnew_33) (fun _ h9 => h9) rfl dX4_billedAnew_12 ?_
  refine lv_iload_n hx hb dX4_billedAnew_15 rfl (lv_at hl 1 rfl) ?_
  refine k_callVr (rest := []) (r := a (100 + y.toNatClampNeg)) ⟨hx, hb, hml, hown, hts⟩ (c_Jx4a65c_get_915e3 l D q a S cap nl y.toNatClampNeg hnl (by omega)) (cwV 1 hts gX4_billedAnew_Jx4a65c_get_915e3 rfl rfl rfl (by decide +kernel) ⟨Nat.le_of_ble_eq_true rfl, Nat.le_of_ble_eq_true rfl⟩) hK hP.1 (va_recv hK.1 hP.1 (ci := 0) (q0 := 4) rfl rfl) rfl hl.1 rfl (Nat.le_of_ble_eq_true rfl) dX4_billedAnew_16 ⟨Nat.le_of_ble_eq_true rfl, Nat.le_of_ble_eq_true rfl⟩ ?_
  refine va_castS (nm := "LampCounts$Lease") hx hb hown (hts _ cl_X4_billedAnew_101) (hK.1.1 3 _ rfl).2 (va_recv hK.1 hP.1 (ci := 3) (q0 := 27 + y.toNatClampNeg) rfl (wC_ls (by omega) (by omega))) dX4_billedAnew_19 ?_
  refine lv_astore_n (lv' := [(2, .ref (a (100 + y.toNatClampNeg))), (0, .ref (a 0)), (1, .int (nI y.toNatClampNeg))]) hx hb dX4_billedAnew_22 rfl hl (by decide) rfl (fun ls hl => ?_)
  refine lv_iconst (v := nI 0) hx hb dX4_billedAnew_23 (by decide) ?_
  refine lv_istore_n (lv' := [(3, .int (nI 0)), (2, .ref (a (100 + y.toNatClampNeg))), (0, .ref (a 0)), (1, .int (nI y.toNatClampNeg))]) hx hb dX4_billedAnew_24 rfl hl (by decide) rfl (fun ls hl => ?_)
  refine lv_aload_n hx hb dX4_billedAnew_25 rfl (lv_at hl 1 rfl) ?_
  refine va_get (D := D) (ci := 3) (v := .int (S 35 y.toNatClampNeg)) (C := RX2) (T := TX2) (N := 9) hx hb hts in_X4_billedAnew_X2 hown hK.1 hP.1 (27 + y.toNatClampNeg) (wC_ls (by omega) (by omega)) rfl 5 (by decide) (hts _ fl_X4_billedAnew_121) (fun _ h9 => h9) rfl dX4_billedAnew_26 ?_
  have h3 : secN S y.toNatClampNeg < 12 ∧ ix S 35 y.toNatClampNeg ≤ 200 ∧ ix S 36 y.toNatClampNeg ≤ 300 := ⟨(hoc _ b_y).1.2, (hoc _ b_y).2.1.2, (hoc _ b_y).2.2.2⟩
  refine k_top (y := nI (ix S 35 y.toNatClampNeg)) (hoc _ b_y).2.1.1 ?_
  refine lv_istore (lv' := [(4, .int (nI (ix S 35 y.toNatClampNeg))), (3, .int (nI 0)), (2, .ref (a (100 + y.toNatClampNeg))), (0, .ref (a 0)), (1, .int (nI y.toNatClampNeg))]) hx hb dX4_billedAnew_29 hl (by decide) rfl (fun ls hl => ?_)
  refine W.widen (k := 1) (n := 6) (Nat.le_of_ble_eq_true rfl) (Nat.le_of_ble_eq_true rfl) ?_
  exact lp_X4_billedAnew_31 a S cap nl y n w0 hn hn60 hnl hnow hw200 hoc b_y (by unfold coBilledAnew; rw [if_pos c_3]) C0 hK ((min (ix S 36 y.toNatClampNeg) w0 - ix S 35 y.toNatClampNeg - 0) + 1) 0 S (nI y.toNatClampNeg) (a (100 + y.toNatClampNeg)) (nI 0) (nI (ix S 35 y.toNatClampNeg)) (by omega) (by first | omega | assumption) (by first | omega | assumption) rfl rfl rfl (by rfl) (by rfl) _ _ hP hS ls (lv_sub hl [3, 4, 2, 1, 0] rfl)
set_option maxHeartbeats 4000000 in
set_option maxRecDepth 100000 in
theorem c_X4_owes (l : Launch) (hl0 : l.stackTraces = false) (D : va_G) (q : Nat → ClassId) (A : Nat → Prop) (a : Nat → Nat) (S : Nat → Nat → Int32) (cap nl : Nat) (who : Int32) (hnl : nl ≤ cap ∧ cap ≤ 40 ∧ nl ≤ 30) : vx_Met l yX4_owes wsX4_owes ({ frames := 7, cells := 1, slots := 6, locals := 221 } : Room) (va_Pc [.ref (a 0), .int (who)] (kBX D q A (fun H => kW D A (wC q a S cap nl) H))) (kXi D A (fun r => (coOwes S nl who).1 = nI 0 ∧ r = (coOwes S nl who).2.1) (wC q a ((coOwes S nl who).2.2) cap nl)) (kXC D A (wC q a S cap nl) (fun E => exC [eI] E (coOwes S nl who).1)) 1 6 A := by
  refine vx_ofW (cc := cX4_owes) (maxL := 2) (ret := (some .int)) (by decide) rfl ?_
  intro p e u m args below meth c s₁ B hml0 hout hv
  obtain ⟨rfl, hP, hK, hX⟩ := hv
  have C0 : kAt p u m #[.ref (a 0), .int (who)] meth c cX4_owes 2 (some .int) RX4 wsX4_owes := kAt_of B hml0
  obtain ⟨hx, hb, hr, hml, hown, hts, hlocks⟩ := id C0
  have hS : va_S A u.heap u.heap [] := va_S.rf
  have hl := lv_entry ([.ref (a 0), .int (who)]) (n := 2) (Nat.le_of_ble_eq_true rfl)
  rw [lg_entry_eq]
  generalize (lg_sl ([.ref (a 0), .int (who)]) ++ List.replicate (2 - (lg_sl ([.ref (a 0), .int (who)])).length) Slot.unset).toArray = ls at hl ⊢
  have hl : lv_has ls 2 [(0, .ref (a 0)), (1, .int (who))] := hl
  refine lv_iload_n hx hb dX4_owes_0 rfl (lv_at hl 1 rfl) ?_
  refine lv_bipush (v := nI 6) hx hb dX4_owes_1 (by decide) ?_
  refine k_goXv hS (vx_runS (rest := []) ⟨hx, hb, hml, hown, hts⟩ (c_X4_requireIndex l hl0 D q A (wC q a S cap nl) who (nI 6)) (va_cwS 2 hts gX4_owes_X4_requireIndex rfl rfl rfl (by decide +kernel) ⟨Nat.le_of_ble_eq_true rfl, Nat.le_of_ble_eq_true rfl⟩) ⟨kBX_blind, fun U hU hW => ⟨rfl, by rw [hU]; exact hP, hK.warm hW, hX.at hS hU hW⟩⟩ rfl rfl hl.1 rfl (lv_room (Nat.le_of_ble_eq_true rfl)) dX4_owes_3 ⟨Nat.le_of_ble_eq_true rfl, Nat.le_of_ble_eq_true rfl⟩) (fun E ce q9 H locs hE hP hS h1 h2 h3 => k_outX hout hlocks h1 h2 h3 (⟨0, by rw [hE.1]; rfl, by unfold coOwes; rw [if_neg hE.2]; try rfl⟩) hP hS (Nat.le_of_ble_eq_true rfl) (Nat.le_of_ble_eq_true rfl)) (fun H locs c_1 hP hS => ?_)
  obtain ⟨e_who, b_who⟩ := ixP_nat c_1 (by omega)
  rw [e_who] at hl
  refine lv_aload_n hx hb dX4_owes_6 rfl (lv_at hl 0 rfl) ?_
  refine lv_iload_n hx hb dX4_owes_7 rfl (lv_at hl 1 rfl) ?_
  refine k_callV (rest := []) (r := dbF S who.toNatClampNeg nl) ⟨hx, hb, hml, hown, hts⟩ (c_X4_debt l D q a S cap nl who.toNatClampNeg (by omega) hnl) (cwV 1 hts gX4_owes_X4_debt rfl rfl rfl (by decide +kernel) ⟨Nat.le_of_ble_eq_true rfl, Nat.le_of_ble_eq_true rfl⟩) hK hP.1 (va_recv hK.1 hP.1 (ci := 5) (q0 := 0) rfl rfl) rfl hl.1 rfl (Nat.le_of_ble_eq_true rfl) dX4_owes_8 ⟨Nat.le_of_ble_eq_true rfl, Nat.le_of_ble_eq_true rfl⟩ (fun _ h => h) ?_
  have eM : S = (coOwes S nl who).2.2 := by unfold coOwes; rw [if_pos c_1]; try rfl
  rw [eM] at hP
  exact k_iretX hx hb hr hlocks hP hS ⟨by unfold coOwes; rw [if_pos c_1]; try rfl, by unfold coOwes; rw [if_pos c_1]; try rfl⟩ (Nat.le_of_ble_eq_true rfl) (Nat.le_of_ble_eq_true rfl) dX4_owes_11
theorem fl_X4_played_26 : Cond.fieldLink RX4 26 "LampCounts" "buskers" "LLampCounts$Buskers;" ∈ wsX4_played := by decide +kernel
theorem fl_X4_played_193 : Cond.fieldLink RX4 193 "LampCounts$Buskers" "hoursPlayed" "[I" ∈ wsX4_played := by decide +kernel
theorem in_X4_played_X0 : ∀ w ∈ u_ws RX0 TX0 9, w ∈ wsX4_played := by decide +kernel
theorem in_X4_played_X4 : ∀ w ∈ u_ws RX4 TX4 6, w ∈ wsX4_played := by decide +kernel
set_option maxHeartbeats 4000000 in
set_option maxRecDepth 100000 in
theorem c_X4_played (l : Launch) (hl0 : l.stackTraces = false) (D : va_G) (q : Nat → ClassId) (A : Nat → Prop) (a : Nat → Nat) (S : Nat → Nat → Int32) (cap nl : Nat) (b : Int32)  : vx_Met l yX4_played wsX4_played ({ frames := 7, cells := 1, slots := 6, locals := 221 } : Room) (va_Pc [.ref (a 0), .int (b)] (kBX D q A (fun H => kW D A (wC q a S cap nl) H))) (kXi D A (fun r => (coBusker S 19 b).1 = nI 0 ∧ r = (coBusker S 19 b).2.1) (wC q a ((coBusker S 19 b).2.2) cap nl)) (kXC D A (wC q a S cap nl) (fun E => exC [eI] E (coBusker S 19 b).1)) 1 6 A := by
  refine vx_ofW (cc := cX4_played) (maxL := 2) (ret := (some .int)) (by decide) rfl ?_
  intro p e u m args below meth c s₁ B hml0 hout hv
  obtain ⟨rfl, hP, hK, hX⟩ := hv
  have C0 : kAt p u m #[.ref (a 0), .int (b)] meth c cX4_played 2 (some .int) RX4 wsX4_played := kAt_of B hml0
  obtain ⟨hx, hb, hr, hml, hown, hts, hlocks⟩ := id C0
  have hS : va_S A u.heap u.heap [] := va_S.rf
  have hl := lv_entry ([.ref (a 0), .int (b)]) (n := 2) (Nat.le_of_ble_eq_true rfl)
  rw [lg_entry_eq]
  generalize (lg_sl ([.ref (a 0), .int (b)]) ++ List.replicate (2 - (lg_sl ([.ref (a 0), .int (b)])).length) Slot.unset).toArray = ls at hl ⊢
  have hl : lv_has ls 2 [(0, .ref (a 0)), (1, .int (b))] := hl
  refine lv_iload_n hx hb dX4_played_0 rfl (lv_at hl 1 rfl) ?_
  refine lv_bipush (v := nI 6) hx hb dX4_played_1 (by decide) ?_
  refine k_goXv hS (vx_runS (rest := []) ⟨hx, hb, hml, hown, hts⟩ (c_X4_requireIndex l hl0 D q A (wC q a S cap nl) b (nI 6)) (va_cwS 2 hts gX4_played_X4_requireIndex rfl rfl rfl (by decide +kernel) ⟨Nat.le_of_ble_eq_true rfl, Nat.le_of_ble_eq_true rfl⟩) ⟨kBX_blind, fun U hU hW => ⟨rfl, by rw [hU]; exact hP, hK.warm hW, hX.at hS hU hW⟩⟩ rfl rfl hl.1 rfl (lv_room (Nat.le_of_ble_eq_true rfl)) dX4_played_3 ⟨Nat.le_of_ble_eq_true rfl, Nat.le_of_ble_eq_true rfl⟩) (fun E ce q9 H locs hE hP hS h1 h2 h3 => k_outX hout hlocks h1 h2 h3 (⟨0, by rw [hE.1]; rfl, by unfold coBusker; rw [if_neg hE.2]; try rfl⟩) hP hS (Nat.le_of_ble_eq_true rfl) (Nat.le_of_ble_eq_true rfl)) (fun H locs c_1 hP hS => ?_)
  obtain ⟨e_b, b_b⟩ := ixP_nat c_1 (by omega)
  rw [e_b] at hl
  refine lv_aload_n hx hb dX4_played_6 rfl (lv_at hl 0 rfl) ?_
  refine va_get (D := D) (ci := 5) (v := .ref (a 3)) (C := RX4) (T := TX4) (N := 6) hx hb hts in_X4_played_X4 hown hK.1 hP.1 0 rfl rfl 2 (by decide) (hts _ fl_X4_played_26) (fun _ h9 => h9) rfl dX4_played_7 ?_
  refine va_get (D := D) (ci := 1) (v := .ref (a 19)) (C := RX0) (T := TX0) (N := 9) hx hb hts in_X4_played_X0 hown hK.1 hP.1 3 rfl rfl 1 (by decide) (hts _ fl_X4_played_193) (fun _ h9 => h9) rfl dX4_played_10 ?_
  refine lv_iload_n hx hb dX4_played_13 rfl (lv_at hl 1 rfl) ?_
  refine k_iald hx hb hK hP.1 19 rfl b.toNatClampNeg rfl (by omega) (by decide) dX4_played_14 ?_
  have eM : S = (coBusker S 19 b).2.2 := by unfold coBusker; rw [if_pos c_1]; try rfl
  rw [eM] at hP
  exact k_iretX hx hb hr hlocks hP hS ⟨by unfold coBusker; rw [if_pos c_1]; try rfl, by unfold coBusker; rw [if_pos c_1]; try rfl⟩ (Nat.le_of_ble_eq_true rfl) (Nat.le_of_ble_eq_true rfl) dX4_played_15
theorem fl_X4_coins_26 : Cond.fieldLink RX4 26 "LampCounts" "buskers" "LLampCounts$Buskers;" ∈ wsX4_coins := by decide +kernel
theorem fl_X4_coins_196 : Cond.fieldLink RX4 196 "LampCounts$Buskers" "purses" "[I" ∈ wsX4_coins := by decide +kernel
theorem in_X4_coins_X0 : ∀ w ∈ u_ws RX0 TX0 9, w ∈ wsX4_coins := by decide +kernel
theorem in_X4_coins_X4 : ∀ w ∈ u_ws RX4 TX4 6, w ∈ wsX4_coins := by decide +kernel
set_option maxHeartbeats 4000000 in
set_option maxRecDepth 100000 in
theorem c_X4_coins (l : Launch) (hl0 : l.stackTraces = false) (D : va_G) (q : Nat → ClassId) (A : Nat → Prop) (a : Nat → Nat) (S : Nat → Nat → Int32) (cap nl : Nat) (b : Int32)  : vx_Met l yX4_coins wsX4_coins ({ frames := 7, cells := 1, slots := 6, locals := 221 } : Room) (va_Pc [.ref (a 0), .int (b)] (kBX D q A (fun H => kW D A (wC q a S cap nl) H))) (kXi D A (fun r => (coBusker S 20 b).1 = nI 0 ∧ r = (coBusker S 20 b).2.1) (wC q a ((coBusker S 20 b).2.2) cap nl)) (kXC D A (wC q a S cap nl) (fun E => exC [eI] E (coBusker S 20 b).1)) 1 6 A := by
  refine vx_ofW (cc := cX4_coins) (maxL := 2) (ret := (some .int)) (by decide) rfl ?_
  intro p e u m args below meth c s₁ B hml0 hout hv
  obtain ⟨rfl, hP, hK, hX⟩ := hv
  have C0 : kAt p u m #[.ref (a 0), .int (b)] meth c cX4_coins 2 (some .int) RX4 wsX4_coins := kAt_of B hml0
  obtain ⟨hx, hb, hr, hml, hown, hts, hlocks⟩ := id C0
  have hS : va_S A u.heap u.heap [] := va_S.rf
  have hl := lv_entry ([.ref (a 0), .int (b)]) (n := 2) (Nat.le_of_ble_eq_true rfl)
  rw [lg_entry_eq]
  generalize (lg_sl ([.ref (a 0), .int (b)]) ++ List.replicate (2 - (lg_sl ([.ref (a 0), .int (b)])).length) Slot.unset).toArray = ls at hl ⊢
  have hl : lv_has ls 2 [(0, .ref (a 0)), (1, .int (b))] := hl
  refine lv_iload_n hx hb dX4_coins_0 rfl (lv_at hl 1 rfl) ?_
  refine lv_bipush (v := nI 6) hx hb dX4_coins_1 (by decide) ?_
  refine k_goXv hS (vx_runS (rest := []) ⟨hx, hb, hml, hown, hts⟩ (c_X4_requireIndex l hl0 D q A (wC q a S cap nl) b (nI 6)) (va_cwS 2 hts gX4_coins_X4_requireIndex rfl rfl rfl (by decide +kernel) ⟨Nat.le_of_ble_eq_true rfl, Nat.le_of_ble_eq_true rfl⟩) ⟨kBX_blind, fun U hU hW => ⟨rfl, by rw [hU]; exact hP, hK.warm hW, hX.at hS hU hW⟩⟩ rfl rfl hl.1 rfl (lv_room (Nat.le_of_ble_eq_true rfl)) dX4_coins_3 ⟨Nat.le_of_ble_eq_true rfl, Nat.le_of_ble_eq_true rfl⟩) (fun E ce q9 H locs hE hP hS h1 h2 h3 => k_outX hout hlocks h1 h2 h3 (⟨0, by rw [hE.1]; rfl, by unfold coBusker; rw [if_neg hE.2]; try rfl⟩) hP hS (Nat.le_of_ble_eq_true rfl) (Nat.le_of_ble_eq_true rfl)) (fun H locs c_1 hP hS => ?_)
  obtain ⟨e_b, b_b⟩ := ixP_nat c_1 (by omega)
  rw [e_b] at hl
  refine lv_aload_n hx hb dX4_coins_6 rfl (lv_at hl 0 rfl) ?_
  refine va_get (D := D) (ci := 5) (v := .ref (a 3)) (C := RX4) (T := TX4) (N := 6) hx hb hts in_X4_coins_X4 hown hK.1 hP.1 0 rfl rfl 2 (by decide) (hts _ fl_X4_coins_26) (fun _ h9 => h9) rfl dX4_coins_7 ?_
  refine va_get (D := D) (ci := 1) (v := .ref (a 20)) (C := RX0) (T := TX0) (N := 9) hx hb hts in_X4_coins_X0 hown hK.1 hP.1 3 rfl rfl 2 (by decide) (hts _ fl_X4_coins_196) (fun _ h9 => h9) rfl dX4_coins_10 ?_
  refine lv_iload_n hx hb dX4_coins_13 rfl (lv_at hl 1 rfl) ?_
  refine k_iald hx hb hK hP.1 20 rfl b.toNatClampNeg rfl (by omega) (by decide) dX4_coins_14 ?_
  have eM : S = (coBusker S 20 b).2.2 := by unfold coBusker; rw [if_pos c_1]; try rfl
  rw [eM] at hP
  exact k_iretX hx hb hr hlocks hP hS ⟨by unfold coBusker; rw [if_pos c_1]; try rfl, by unfold coBusker; rw [if_pos c_1]; try rfl⟩ (Nat.le_of_ble_eq_true rfl) (Nat.le_of_ble_eq_true rfl) dX4_coins_15
theorem fl_X4_hour_41 : Cond.fieldLink RX4 41 "LampCounts" "now" "I" ∈ wsX4_hour := by decide +kernel
theorem in_X4_hour_X4 : ∀ w ∈ u_ws RX4 TX4 6, w ∈ wsX4_hour := by decide +kernel
set_option maxHeartbeats 4000000 in
set_option maxRecDepth 100000 in
theorem c_X4_hour (l : Launch) (D : va_G) (q : Nat → ClassId) (a : Nat → Nat) (S : Nat → Nat → Int32) (cap nl : Nat)   : Met l yX4_hour wsX4_hour ({ frames := 0, cells := 0, slots := 0, locals := 0 } : Room) (va_Pc [.ref (a 0)] (kB D q (fun H => va_P D vwCl (wC q a S cap nl) H))) (kSi (S 0 0)) 0 0 (fun _ => False) := by
  refine Met.ofW (cc := cX4_hour) (maxL := 1) (ret := (some .int)) (by decide) rfl ?_
  intro p e u m args below meth c s₁ B hml0 hv
  obtain ⟨rfl, hP, hK⟩ := hv
  have C0 : kAt p u m #[.ref (a 0)] meth c cX4_hour 1 (some .int) RX4 wsX4_hour := kAt_of B hml0
  obtain ⟨hx, hb, hr, hml, hown, hts, hlocks⟩ := id C0
  have hl := lv_entry ([.ref (a 0)]) (n := 1) (Nat.le_of_ble_eq_true rfl)
  rw [lg_entry_eq]
  generalize (lg_sl ([.ref (a 0)]) ++ List.replicate (1 - (lg_sl ([.ref (a 0)])).length) Slot.unset).toArray = ls at hl ⊢
  have hl : lv_has ls 1 [(0, .ref (a 0))] := hl
  refine lv_aload_n hx hb dX4_hour_0 rfl (lv_at hl 0 rfl) ?_
  refine va_get (D := D) (ci := 5) (v := .int (S 0 0)) (C := RX4) (T := TX4) (N := 6) hx hb hts in_X4_hour_X4 hown hK.1 hP 0 rfl rfl 5 (by decide) (hts _ fl_X4_hour_41) (fun _ h9 => h9) rfl dX4_hour_1 ?_
  exact k_iretS hx hb hr hlocks rfl rfl (by rfl) dX4_hour_4
theorem fl_X4_leases_33 : Cond.fieldLink RX4 33 "LampCounts" "made" "Ljava/util/ArrayList;" ∈ wsX4_leases := by decide +kernel
theorem in_X4_leases_X4 : ∀ w ∈ u_ws RX4 TX4 6, w ∈ wsX4_leases := by decide +kernel
set_option maxHeartbeats 4000000 in
set_option maxRecDepth 100000 in
theorem c_X4_leases (l : Launch) (D : va_G) (q : Nat → ClassId) (a : Nat → Nat) (S : Nat → Nat → Int32) (cap nl : Nat)   : Met l yX4_leases wsX4_leases ({ frames := 1, cells := 0, slots := 0, locals := 20 } : Room) (va_Pc [.ref (a 0)] (kB D q (fun H => va_P D vwCl (wC q a S cap nl) H))) (kSi (nI nl)) 0 0 (fun _ => False) := by
  refine Met.ofW (cc := cX4_leases) (maxL := 1) (ret := (some .int)) (by decide) rfl ?_
  intro p e u m args below meth c s₁ B hml0 hv
  obtain ⟨rfl, hP, hK⟩ := hv
  have C0 : kAt p u m #[.ref (a 0)] meth c cX4_leases 1 (some .int) RX4 wsX4_leases := kAt_of B hml0
  obtain ⟨hx, hb, hr, hml, hown, hts, hlocks⟩ := id C0
  have hl := lv_entry ([.ref (a 0)]) (n := 1) (Nat.le_of_ble_eq_true rfl)
  rw [lg_entry_eq]
  generalize (lg_sl ([.ref (a 0)]) ++ List.replicate (1 - (lg_sl ([.ref (a 0)])).length) Slot.unset).toArray = ls at hl ⊢
  have hl : lv_has ls 1 [(0, .ref (a 0))] := hl
  refine lv_aload_n hx hb dX4_leases_0 rfl (lv_at hl 0 rfl) ?_
  refine va_get (D := D) (ci := 5) (v := .ref (a 4)) (C := RX4) (T := TX4) (N := 6) hx hb hts in_X4_leases_X4 hown hK.1 hP 0 rfl rfl 3 (by decide) (hts _ fl_X4_leases_33) (fun _ h9 => h9) rfl dX4_leases_1 ?_
  refine k_callV (rest := []) (r := nI nl) ⟨hx, hb, hml, hown, hts⟩ (c_Jx4a65c_size_8abf5 l D q a S cap nl) (cwV 0 hts gX4_leases_Jx4a65c_size_8abf5 rfl rfl rfl (by decide +kernel) ⟨Nat.le_of_ble_eq_true rfl, Nat.le_of_ble_eq_true rfl⟩) hK hP (va_recv hK.1 hP (ci := 0) (q0 := 4) rfl rfl) rfl hl.1 rfl (Nat.le_of_ble_eq_true rfl) dX4_leases_4 ⟨Nat.zero_le _, Nat.zero_le _⟩ (fun _ h => h) ?_
  exact k_iretS hx hb hr hlocks rfl rfl (by rfl) dX4_leases_7
theorem fl_X4_lots_26 : Cond.fieldLink RX4 26 "LampCounts" "buskers" "LLampCounts$Buskers;" ∈ wsX4_lots := by decide +kernel
theorem fl_X4_lots_142 : Cond.fieldLink RX4 142 "LampCounts$Buskers" "lotsLeft" "I" ∈ wsX4_lots := by decide +kernel
theorem in_X4_lots_X0 : ∀ w ∈ u_ws RX0 TX0 9, w ∈ wsX4_lots := by decide +kernel
theorem in_X4_lots_X4 : ∀ w ∈ u_ws RX4 TX4 6, w ∈ wsX4_lots := by decide +kernel
set_option maxHeartbeats 4000000 in
set_option maxRecDepth 100000 in
theorem c_X4_lots (l : Launch) (D : va_G) (q : Nat → ClassId) (a : Nat → Nat) (S : Nat → Nat → Int32) (cap nl : Nat)   : Met l yX4_lots wsX4_lots ({ frames := 0, cells := 0, slots := 0, locals := 0 } : Room) (va_Pc [.ref (a 0)] (kB D q (fun H => va_P D vwCl (wC q a S cap nl) H))) (kSi (S 0 2)) 0 0 (fun _ => False) := by
  refine Met.ofW (cc := cX4_lots) (maxL := 1) (ret := (some .int)) (by decide) rfl ?_
  intro p e u m args below meth c s₁ B hml0 hv
  obtain ⟨rfl, hP, hK⟩ := hv
  have C0 : kAt p u m #[.ref (a 0)] meth c cX4_lots 1 (some .int) RX4 wsX4_lots := kAt_of B hml0
  obtain ⟨hx, hb, hr, hml, hown, hts, hlocks⟩ := id C0
  have hl := lv_entry ([.ref (a 0)]) (n := 1) (Nat.le_of_ble_eq_true rfl)
  rw [lg_entry_eq]
  generalize (lg_sl ([.ref (a 0)]) ++ List.replicate (1 - (lg_sl ([.ref (a 0)])).length) Slot.unset).toArray = ls at hl ⊢
  have hl : lv_has ls 1 [(0, .ref (a 0))] := hl
  refine lv_aload_n hx hb dX4_lots_0 rfl (lv_at hl 0 rfl) ?_
  refine va_get (D := D) (ci := 5) (v := .ref (a 3)) (C := RX4) (T := TX4) (N := 6) hx hb hts in_X4_lots_X4 hown hK.1 hP 0 rfl rfl 2 (by decide) (hts _ fl_X4_lots_26) (fun _ h9 => h9) rfl dX4_lots_1 ?_
  refine va_get (D := D) (ci := 1) (v := .int (S 0 2)) (C := RX0) (T := TX0) (N := 9) hx hb hts in_X4_lots_X0 hown hK.1 hP 3 rfl rfl 8 (by decide) (hts _ fl_X4_lots_142) (fun _ h9 => h9) rfl dX4_lots_4 ?_
  exact k_iretS hx hb hr hlocks rfl rfl (by rfl) dX4_lots_7
theorem fl_X4_pass_41 : Cond.fieldLink RX4 41 "LampCounts" "now" "I" ∈ wsX4_pass := by decide +kernel
theorem in_X4_pass_X4 : ∀ w ∈ u_ws RX4 TX4 6, w ∈ wsX4_pass := by decide +kernel
set_option maxHeartbeats 4000000 in
set_option maxRecDepth 100000 in
theorem lp_X4_pass_31 {p : Program} {l : Launch} {e : Env} {u : State} {m : MethodId} {below : List Frame} {meth : Method} {c : Code} {D : va_G} {q : Nat → ClassId} {A : Nat → Prop} (a : Nat → Nat) (S : Nat → Nat → Int32) (cap nl : Nat) (h : Int32) (n w0 : Nat) (hn : S 0 1 = nI n) (hn60 : n ≤ 60) (hnl : nl ≤ cap ∧ cap ≤ 40 ∧ nl ≤ 30) (hnow : S 0 0 = nI w0) (hw200 : w0 ≤ 200) (hoc : okC S nl) (hlt : okL S) (b_h : 1 ≤ h.toNatClampNeg ∧ h.toNatClampNeg ≤ 50) (b_w : w0 + h.toNatClampNeg ≤ 200) (hfin : coPass S n nl w0 h = (nI 0, psC S n nl w0 h.toNatClampNeg)) (C0 : kAt p u m #[.ref (a 0), .int (h)] meth c cX4_pass 4 (some .int) RX4 wsX4_pass) (hK : kK D q u) :
    ∀ (f : Nat) (k : Nat) (T : Nat → Nat → Int32) (x1 : Int32) (x2 : Int32) (x3 : Int32), h.toNatClampNeg - k < f → k ≤ h.toNatClampNeg → T = (psC S n nl w0 k).2 → x1 = nI h.toNatClampNeg → x2 = (psC S n nl w0 k).1 → x3 = nI k → ∀ (H : Heap) (locs : List Loc), kW D A (wC q a T cap nl) H → va_S A u.heap H locs → ∀ (ls : Array Slot), lv_has ls 4 [(0, .ref (a 0)), (1, .int x1), (2, .int x2), (3, .int x3)] → W p l e ({ frames := 7, cells := 2, slots := 12, locals := 222 } : Room) u m #[.ref (a 0), .int (h)] below meth c H locs 2 12 (vx_MQ below (kXi D A (fun r => (coPass S n nl w0 h).1 = nI 0 ∧ r = (coPass S n nl w0 h).2.1) (wC q a ((coPass S n nl w0 h).2.2) cap nl)) (kXC D A (wC q a S cap nl) (fun E => exC [eA, eS] E (coPass S n nl w0 h).1)) #[.ref (a 0), .int (h)] u 2 12 A) (F0 m 31 ls []) := by
  obtain ⟨hx, hb, hr, hml, hown, hts, hlocks⟩ := id C0
  intro f
  induction f with
  | zero =>
    intro k T x1 x2 x3 hf
    exact absurd hf (Nat.not_lt_zero _)
  | succ f ih =>
    intro k T x1 x2 x3 hf hk eT e1 e2 e3 H locs hP hS ls hl
    replace eT := eT.symm
    subst eT
    replace e1 := e1.symm
    subst e1
    replace e2 := e2.symm
    subst e2
    replace e3 := e3.symm
    subst e3
    refine lv_iload_n hx hb dX4_pass_31 rfl (lv_at hl 3 rfl) ?_
    refine lv_iload_n hx hb dX4_pass_32 rfl (lv_at hl 1 rfl) ?_
    refine k_icmp_ge (P := k < h.toNatClampNeg) (tgt := 49) hx hb dX4_pass_33 (by decide) (nI_ltI (by omega) (by omega)) (fun c_1 => ?_) (fun c_1 => ?_)
    · skip
      refine lv_iload_n hx hb dX4_pass_49 rfl (lv_at hl 2 rfl) ?_
      have eM : (psC S n nl w0 k).2 = (coPass S n nl w0 h).2.2 := by rw [hfin, show h.toNatClampNeg = k from by omega]
      rw [eM] at hP
      exact k_iretX hx hb hr hlocks hP hS ⟨by rw [hfin], by rw [hfin, show h.toNatClampNeg = k from by omega]⟩ (Nat.le_of_ble_eq_true rfl) (Nat.le_of_ble_eq_true rfl) dX4_pass_50
    · skip
      refine lv_iload_n hx hb dX4_pass_36 rfl (lv_at hl 2 rfl) ?_
      refine lv_aload_n hx hb dX4_pass_37 rfl (lv_at hl 0 rfl) ?_
      refine k_goRi hS (va_runV (rest := [.int ((psC S n nl w0 k).1)]) ⟨hx, hb, hml, hown, hts⟩ (c_X4_endHour l D q A a ((psC S n nl w0 k).2) cap nl n (w0 + k) (psC_ok hnow hn hoc hlt k).2.1 hn60 hnl (by omega) (psC_ok hnow hn hoc hlt k).1 (psC_ok hnow hn hoc hlt k).2.2.1.s (psC_ok hnow hn hoc hlt k).2.2.2) (cwV 0 hts gX4_pass_X4_endHour rfl rfl rfl (by decide +kernel) ⟨Nat.le_of_ble_eq_true rfl, Nat.le_of_ble_eq_true rfl⟩) ⟨kB_blind, (va_recv hK.1 hP.1 (ci := 5) (q0 := 0) rfl rfl), fun U hU hW => ⟨rfl, by rw [hU]; exact hP, hK.warm hW⟩⟩ rfl rfl hl.1 rfl (lv_room (Nat.le_of_ble_eq_true rfl)) dX4_pass_38 ⟨Nat.le_of_ble_eq_true rfl, Nat.le_of_ble_eq_true rfl⟩) (fun H locs hP hS => ?_)
      refine lv_iadd hx hb dX4_pass_41 ?_
      refine lv_istore_n (lv' := [(2, .int (((psC S n nl w0 k).1) + (ehV ((psC S n nl w0 k).2) (w0 + k)))), (0, .ref (a 0)), (1, .int (nI h.toNatClampNeg)), (3, .int (nI k))]) hx hb dX4_pass_42 rfl hl (by decide) rfl (fun ls hl => ?_)
      refine lv_iinc (v := nI (k + 1)) (lv' := [(3, .int (nI (k + 1))), (2, .int (((psC S n nl w0 k).1) + (ehV ((psC S n nl w0 k).2) (w0 + k)))), (0, .ref (a 0)), (1, .int (nI h.toNatClampNeg))]) hx hb dX4_pass_43 hl (k := 3) rfl (k_iinc _) (by decide) rfl (fun ls hl => ?_)
      refine lv_goto (tgt := 31) hx hb dX4_pass_46 (by decide) ?_
      exact ih (k + 1) ((ehM ((psC S n nl w0 k).2) n nl (w0 + k))) (nI h.toNatClampNeg) (((psC S n nl w0 k).1) + (ehV ((psC S n nl w0 k).2) (w0 + k))) (nI (k + 1)) (by omega) (by first | omega | assumption) (by rfl) rfl (by rfl) rfl _ _ hP hS ls (lv_sub hl [2, 3, 1, 0] rfl)
set_option maxHeartbeats 4000000 in
set_option maxRecDepth 100000 in
theorem c_X4_pass (l : Launch) (hl0 : l.stackTraces = false) (D : va_G) (q : Nat → ClassId) (A : Nat → Prop) (a : Nat → Nat) (S : Nat → Nat → Int32) (cap nl : Nat) (h : Int32) (n w0 : Nat) (hn : S 0 1 = nI n) (hn60 : n ≤ 60) (hnl : nl ≤ cap ∧ cap ≤ 40 ∧ nl ≤ 30) (hnow : S 0 0 = nI w0) (hw200 : w0 ≤ 200) (hoc : okC S nl) (hlt : okL S) : vx_Met l yX4_pass wsX4_pass ({ frames := 7, cells := 2, slots := 12, locals := 222 } : Room) (va_Pc [.ref (a 0), .int (h)] (kBX D q A (fun H => kW D A (wC q a S cap nl) H))) (kXi D A (fun r => (coPass S n nl w0 h).1 = nI 0 ∧ r = (coPass S n nl w0 h).2.1) (wC q a ((coPass S n nl w0 h).2.2) cap nl)) (kXC D A (wC q a S cap nl) (fun E => exC [eA, eS] E (coPass S n nl w0 h).1)) 2 12 A := by
  refine vx_ofW (cc := cX4_pass) (maxL := 4) (ret := (some .int)) (by decide) rfl ?_
  intro p e u m args below meth c s₁ B hml0 hout hv
  obtain ⟨rfl, hP, hK, hX⟩ := hv
  have C0 : kAt p u m #[.ref (a 0), .int (h)] meth c cX4_pass 4 (some .int) RX4 wsX4_pass := kAt_of B hml0
  obtain ⟨hx, hb, hr, hml, hown, hts, hlocks⟩ := id C0
  have hS : va_S A u.heap u.heap [] := va_S.rf
  have hl := lv_entry ([.ref (a 0), .int (h)]) (n := 4) (Nat.le_of_ble_eq_true rfl)
  rw [lg_entry_eq]
  generalize (lg_sl ([.ref (a 0), .int (h)]) ++ List.replicate (4 - (lg_sl ([.ref (a 0), .int (h)])).length) Slot.unset).toArray = ls at hl ⊢
  have hl : lv_has ls 4 [(0, .ref (a 0)), (1, .int (h))] := hl
  refine lv_iload_n hx hb dX4_pass_0 rfl (lv_at hl 1 rfl) ?_
  refine lv_iconst (v := nI 1) hx hb dX4_pass_1 (by decide) ?_
  refine lv_bipush (v := nI 50) hx hb dX4_pass_2 (by decide) ?_
  refine k_goXv hS (vx_runS (rest := []) ⟨hx, hb, hml, hown, hts⟩ (c_X4_requireWithin l hl0 D q A (wC q a S cap nl) h (nI 1) (nI 50)) (va_cwS 3 hts gX4_pass_X4_requireWithin rfl rfl rfl (by decide +kernel) ⟨Nat.le_of_ble_eq_true rfl, Nat.le_of_ble_eq_true rfl⟩) ⟨kBX_blind, fun U hU hW => ⟨rfl, by rw [hU]; exact hP, hK.warm hW, hX.at hS hU hW⟩⟩ rfl rfl hl.1 rfl (lv_room (Nat.le_of_ble_eq_true rfl)) dX4_pass_4 ⟨Nat.le_of_ble_eq_true rfl, Nat.le_of_ble_eq_true rfl⟩) (fun E ce q9 H locs hE hP hS h1 h2 h3 => k_outX hout hlocks h1 h2 h3 (⟨0, by rw [hE.1]; rfl, by unfold coPass; rw [if_neg hE.2]; try rfl⟩) hP hS (Nat.le_of_ble_eq_true rfl) (Nat.le_of_ble_eq_true rfl)) (fun H locs c_2 hP hS => ?_)
  obtain ⟨e_h, b_h⟩ := inP_nat1 c_2 (by decide)
  rw [e_h] at hl
  refine lv_aload_n hx hb dX4_pass_7 rfl (lv_at hl 0 rfl) ?_
  refine va_get (D := D) (ci := 5) (v := .int (S 0 0)) (C := RX4) (T := TX4) (N := 6) hx hb hts in_X4_pass_X4 hown hK.1 hP.1 0 rfl rfl 5 (by decide) (hts _ fl_X4_pass_41) (fun _ h9 => h9) rfl dX4_pass_8 ?_
  refine k_top (y := nI w0) hnow ?_
  refine lv_iload_n hx hb dX4_pass_11 rfl (lv_at hl 1 rfl) ?_
  refine lv_iadd hx hb dX4_pass_12 ?_
  refine k_top (y := nI (w0 + h.toNatClampNeg)) (nI_add _ _) ?_
  refine lv_sipush (v := nI 200) hx hb dX4_pass_13 (by decide) ?_
  refine k_icmp_gt (P := w0 + h.toNatClampNeg ≤ 200) (tgt := 23) hx hb dX4_pass_16 (by decide) (nI_leI (by omega) (by omega)) (fun c_3 => ?_) (fun c_3 => ?_)
  · skip
    refine lv_iconst (v := nI 0) hx hb dX4_pass_23 (by decide) ?_
    refine k_goXv hS (vx_runS (rest := []) ⟨hx, hb, hml, hown, hts⟩ (c_X4_requireState l hl0 D q A (wC q a S cap nl) (nI 0)) (va_cwS 1 hts gX4_pass_X4_requireState rfl rfl rfl (by decide +kernel) ⟨Nat.le_of_ble_eq_true rfl, Nat.le_of_ble_eq_true rfl⟩) ⟨kBX_blind, fun U hU hW => ⟨rfl, by rw [hU]; exact hP, hK.warm hW, hX.at hS hU hW⟩⟩ rfl rfl hl.1 rfl (lv_room (Nat.le_of_ble_eq_true rfl)) dX4_pass_24 ⟨Nat.le_of_ble_eq_true rfl, Nat.le_of_ble_eq_true rfl⟩) (fun E ce q9 H locs hE hP hS h1 h2 h3 => k_outX hout hlocks h1 h2 h3 (⟨1, by rw [hE.1]; rfl, by unfold coPass; rw [if_pos c_2, if_neg c_3]; try rfl⟩) hP hS (Nat.le_of_ble_eq_true rfl) (Nat.le_of_ble_eq_true rfl)) (fun H locs c_4 hP hS => ?_)
    exact absurd rfl c_4
  · skip
    refine lv_iconst (v := nI 1) hx hb dX4_pass_19 (by decide) ?_
    refine lv_goto (tgt := 24) hx hb dX4_pass_20 (by decide) ?_
    refine k_goXv hS (vx_runS (rest := []) ⟨hx, hb, hml, hown, hts⟩ (c_X4_requireState l hl0 D q A (wC q a S cap nl) (nI 1)) (va_cwS 1 hts gX4_pass_X4_requireState rfl rfl rfl (by decide +kernel) ⟨Nat.le_of_ble_eq_true rfl, Nat.le_of_ble_eq_true rfl⟩) ⟨kBX_blind, fun U hU hW => ⟨rfl, by rw [hU]; exact hP, hK.warm hW, hX.at hS hU hW⟩⟩ rfl rfl hl.1 rfl (lv_room (Nat.le_of_ble_eq_true rfl)) dX4_pass_24 ⟨Nat.le_of_ble_eq_true rfl, Nat.le_of_ble_eq_true rfl⟩) (fun E ce q9 H locs hE hP hS h1 h2 h3 => absurd hE.2 (by decide)) (fun H locs c_5 hP hS => ?_)
    refine lv_iconst (v := nI 0) hx hb dX4_pass_27 (by decide) ?_
    refine lv_istore_n (lv' := [(2, .int (nI 0)), (0, .ref (a 0)), (1, .int (nI h.toNatClampNeg))]) hx hb dX4_pass_28 rfl hl (by decide) rfl (fun ls hl => ?_)
    refine lv_iconst (v := nI 0) hx hb dX4_pass_29 (by decide) ?_
    refine lv_istore_n (lv' := [(3, .int (nI 0)), (2, .int (nI 0)), (0, .ref (a 0)), (1, .int (nI h.toNatClampNeg))]) hx hb dX4_pass_30 rfl hl (by decide) rfl (fun ls hl => ?_)
    refine W.widen (k := 2) (n := 12) (Nat.le_of_ble_eq_true rfl) (Nat.le_of_ble_eq_true rfl) ?_
    exact lp_X4_pass_31 a S cap nl h n w0 hn hn60 hnl hnow hw200 hoc hlt b_h c_3 (by unfold coPass; rw [if_pos c_2, if_pos c_3]) C0 hK ((h.toNatClampNeg - 0) + 1) 0 S (nI h.toNatClampNeg) (nI 0) (nI 0) (by omega) (by first | omega | assumption) (by rfl) rfl (by rfl) rfl _ _ hP hS ls (lv_sub hl [2, 3, 1, 0] rfl)
