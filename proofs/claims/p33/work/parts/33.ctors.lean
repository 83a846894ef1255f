def wN3 (q : Nat → ClassId) (z : Nat) (f : Nat → Nat) : va_W := [(z, .inr (4, [.ref (f 6), .ref (f 7), .ref (f 8), .ref (f 9), .ref (f 10)])), (f 6, .inl (q 0, 12, .inl zR)), (f 7, .inl (q 0, 12, .inl zR)), (f 8, .inl (q 0, 2400, .inl zR)), (f 9, .inl (q 0, 2400, .inl zR)), (f 10, .inl (q 0, 200, .inl zR))]
def wN1 (q : Nat → ClassId) (z : Nat) (f : Nat → Nat) : va_W := [(z, .inr (2, [.ref (f 11), .ref (f 12), .ref (f 13), .ref (f 14), .ref (f 15), .ref (f 16), .ref (f 17), .int (nI 0)])), (f 11, .inl (q 1, 12, .inl zR)), (f 12, .inl (q 0, 12, .inl zR)), (f 13, .inl (q 0, 2400, .inl zR)), (f 14, .inl (q 0, 2400, .inl zR)), (f 15, .inl (q 0, 60, .inl zR)), (f 16, .inl (q 0, 60, .inl zR)), (f 17, .inl (q 0, 60, .inl zR))]
theorem fl_X3_init_9 : Cond.fieldLink RX3 9 "LampCounts$Street" "comeIn" "[I" ∈ wsX3_init := by decide +kernel
theorem fl_X3_init_15 : Cond.fieldLink RX3 15 "LampCounts$Street" "leave" "[I" ∈ wsX3_init := by decide +kernel
theorem fl_X3_init_18 : Cond.fieldLink RX3 18 "LampCounts$Street" "walked" "[I" ∈ wsX3_init := by decide +kernel
theorem fl_X3_init_21 : Cond.fieldLink RX3 21 "LampCounts$Street" "stopped" "[I" ∈ wsX3_init := by decide +kernel
theorem fl_X3_init_24 : Cond.fieldLink RX3 24 "LampCounts$Street" "wentOut" "[I" ∈ wsX3_init := by decide +kernel
theorem in_X3_init : ∀ w ∈ u_ws RX3 TX3 5, w ∈ wsX3_init := by decide +kernel
set_option maxHeartbeats 4000000 in
set_option maxRecDepth 100000 in
theorem c_X3_init (l : Launch) (D : va_G) (q : Nat → ClassId) (A : Nat → Prop) (z : Nat) : Met l yX3_init wsX3_init ({ frames := 2, cells := 5, slots := 5024, locals := 128 } : Room) (va_Pc [.ref z] (kBN D q A (fun H => kW D A [(z, .inr (4, [.null, .null, .null, .null, .null]))] H))) (kRn D A (fun f => wN3 q z f)) 5 5024 A := by
  refine Met.ofW (cc := cX3_init) (maxL := 1) (ret := none) (by decide) rfl ?_
  intro p e u m args below meth c s₁ B hml0 hv
  obtain ⟨rfl, ⟨hP, hK⟩, hA⟩ := hv
  have hin : meth.name = "<init>" := (name_of_methodNamed B.named B.method).1
  have C0 : kAt p u m #[.ref z] meth c cX3_init 1 none RX3 wsX3_init := kAt_of B hml0
  obtain ⟨hx, hb, hr, hml, hown, hts, hlocks⟩ := id C0
  have hS : va_S A u.heap u.heap [] := va_S.rf
  have hl := lv_entry ([.ref z]) (n := 1) (Nat.le_of_ble_eq_true rfl)
  rw [lg_entry_eq]
  generalize (lg_sl ([.ref z]) ++ List.replicate (1 - (lg_sl ([.ref z])).length) Slot.unset).toArray = ls at hl ⊢
  have hl : lv_has ls 1 [(0, .ref z)] := hl
  refine lv_aload_n hx hb dX3_init_0 rfl (lv_at hl 0 rfl) ?_
  refine W.objInit hx hb hown (hts (.methodLink RX3 3 objectInit) (by decide +kernel)) (hts (.instanceMethod objectInit) (by decide +kernel)) (hts _ (List.mem_of_getElem? (i := 3) rfl)) rfl (by rw [hml]; exact hl.1) rfl dX3_init_1 (Nat.le_of_ble_eq_true rfl) (Nat.le_of_ble_eq_true rfl) ?_
  refine W.eq (g2 := F0 m 4 ls []) rfl ?_
  refine lv_aload_n hx hb dX3_init_4 rfl (lv_at hl 0 rfl) ?_
  refine lv_bipush (v := nI 12) hx hb dX3_init_5 (by decide) ?_
  refine k_newi (N := 12) hx hb (hts (.arrayClass .int) (by decide +kernel)) hK hP hS hA (Nat.le_of_ble_eq_true rfl) (Nat.le_of_ble_eq_true rfl) (Nat.le_of_ble_eq_true rfl) dX3_init_7 (fun r7 H hP hS => ?_)
  replace hP : kW D A [(z, .inr (4, [.null, .null, .null, .null, .null])), (r7, .inl (q 0, 12, .inl zR))] H := hP
  refine va_putF (v := .ref r7) (ty := .array .int) (C := RX3) (T := TX3) (N := 5) hx hb hts in_X3_init tyX3 tyX3_ok nmX3 hown hK.1 hP.1 hP.2 hS 0 rfl rfl 0 (by decide) (hts _ fl_X3_init_9) (fun _ h9 => h9) rfl hin rfl (by decide +kernel) rfl rfl (Nat.le_of_ble_eq_true rfl) dX3_init_9 (fun H locs hP hD hS => ?_)
  replace hP : kW D A [(z, .inr (4, [.ref r7, .null, .null, .null, .null])), (r7, .inl (q 0, 12, .inl zR))] H := ⟨hP, hD⟩
  refine lv_aload_n hx hb dX3_init_12 rfl (lv_at hl 0 rfl) ?_
  refine lv_bipush (v := nI 12) hx hb dX3_init_13 (by decide) ?_
  refine k_newi (N := 12) hx hb (hts (.arrayClass .int) (by decide +kernel)) hK hP hS hA (Nat.le_of_ble_eq_true rfl) (Nat.le_of_ble_eq_true rfl) (Nat.le_of_ble_eq_true rfl) dX3_init_15 (fun r15 H hP hS => ?_)
  replace hP : kW D A [(z, .inr (4, [.ref r7, .null, .null, .null, .null])), (r7, .inl (q 0, 12, .inl zR)), (r15, .inl (q 0, 12, .inl zR))] H := hP
  refine va_putF (v := .ref r15) (ty := .array .int) (C := RX3) (T := TX3) (N := 5) hx hb hts in_X3_init tyX3 tyX3_ok nmX3 hown hK.1 hP.1 hP.2 hS 0 rfl rfl 1 (by decide) (hts _ fl_X3_init_15) (fun _ h9 => h9) rfl hin rfl (by decide +kernel) rfl rfl (Nat.le_of_ble_eq_true rfl) dX3_init_17 (fun H locs hP hD hS => ?_)
  replace hP : kW D A [(z, .inr (4, [.ref r7, .ref r15, .null, .null, .null])), (r7, .inl (q 0, 12, .inl zR)), (r15, .inl (q 0, 12, .inl zR))] H := ⟨hP, hD⟩
  refine lv_aload_n hx hb dX3_init_20 rfl (lv_at hl 0 rfl) ?_
  refine lv_sipush (v := nI 2400) hx hb dX3_init_21 (by decide) ?_
  refine k_newi (N := 2400) hx hb (hts (.arrayClass .int) (by decide +kernel)) hK hP hS hA (Nat.le_of_ble_eq_true rfl) (Nat.le_of_ble_eq_true rfl) (Nat.le_of_ble_eq_true rfl) dX3_init_24 (fun r24 H hP hS => ?_)
  replace hP : kW D A [(z, .inr (4, [.ref r7, .ref r15, .null, .null, .null])), (r7, .inl (q 0, 12, .inl zR)), (r15, .inl (q 0, 12, .inl zR)), (r24, .inl (q 0, 2400, .inl zR))] H := hP
  refine va_putF (v := .ref r24) (ty := .array .int) (C := RX3) (T := TX3) (N := 5) hx hb hts in_X3_init tyX3 tyX3_ok nmX3 hown hK.1 hP.1 hP.2 hS 0 rfl rfl 2 (by decide) (hts _ fl_X3_init_18) (fun _ h9 => h9) rfl hin rfl (by decide +kernel) rfl rfl (Nat.le_of_ble_eq_true rfl) dX3_init_26 (fun H locs hP hD hS => ?_)
  replace hP : kW D A [(z, .inr (4, [.ref r7, .ref r15, .ref r24, .null, .null])), (r7, .inl (q 0, 12, .inl zR)), (r15, .inl (q 0, 12, .inl zR)), (r24, .inl (q 0, 2400, .inl zR))] H := ⟨hP, hD⟩
  refine lv_aload_n hx hb dX3_init_29 rfl (lv_at hl 0 rfl) ?_
  refine lv_sipush (v := nI 2400) hx hb dX3_init_30 (by decide) ?_
  refine k_newi (N := 2400) hx hb (hts (.arrayClass .int) (by decide +kernel)) hK hP hS hA (Nat.le_of_ble_eq_true rfl) (Nat.le_of_ble_eq_true rfl) (Nat.le_of_ble_eq_true rfl) dX3_init_33 (fun r33 H hP hS => ?_)
  replace hP : kW D A [(z, .inr (4, [.ref r7, .ref r15, .ref r24, .null, .null])), (r7, .inl (q 0, 12, .inl zR)), (r15, .inl (q 0, 12, .inl zR)), (r24, .inl (q 0, 2400, .inl zR)), (r33, .inl (q 0, 2400, .inl zR))] H := hP
  refine va_putF (v := .ref r33) (ty := .array .int) (C := RX3) (T := TX3) (N := 5) hx hb hts in_X3_init tyX3 tyX3_ok nmX3 hown hK.1 hP.1 hP.2 hS 0 rfl rfl 3 (by decide) (hts _ fl_X3_init_21) (fun _ h9 => h9) rfl hin rfl (by decide +kernel) rfl rfl (Nat.le_of_ble_eq_true rfl) dX3_init_35 (fun H locs hP hD hS => ?_)
  replace hP : kW D A [(z, .inr (4, [.ref r7, .ref r15, .ref r24, .ref r33, .null])), (r7, .inl (q 0, 12, .inl zR)), (r15, .inl (q 0, 12, .inl zR)), (r24, .inl (q 0, 2400, .inl zR)), (r33, .inl (q 0, 2400, .inl zR))] H := ⟨hP, hD⟩
  refine lv_aload_n hx hb dX3_init_38 rfl (lv_at hl 0 rfl) ?_
  refine lv_sipush (v := nI 200) hx hb dX3_init_39 (by decide) ?_
  refine k_newi (N := 200) hx hb (hts (.arrayClass .int) (by decide +kernel)) hK hP hS hA (Nat.le_of_ble_eq_true rfl) (Nat.le_of_ble_eq_true rfl) (Nat.le_of_ble_eq_true rfl) dX3_init_42 (fun r42 H hP hS => ?_)
  replace hP : kW D A [(z, .inr (4, [.ref r7, .ref r15, .ref r24, .ref r33, .null])), (r7, .inl (q 0, 12, .inl zR)), (r15, .inl (q 0, 12, .inl zR)), (r24, .inl (q 0, 2400, .inl zR)), (r33, .inl (q 0, 2400, .inl zR)), (r42, .inl (q 0, 200, .inl zR))] H := hP
  refine va_putF (v := .ref r42) (ty := .array .int) (C := RX3) (T := TX3) (N := 5) hx hb hts in_X3_init tyX3 tyX3_ok nmX3 hown hK.1 hP.1 hP.2 hS 0 rfl rfl 4 (by decide) (hts _ fl_X3_init_24) (fun _ h9 => h9) rfl hin rfl (by decide +kernel) rfl rfl (Nat.le_of_ble_eq_true rfl) dX3_init_44 (fun H locs hP hD hS => ?_)
  replace hP : kW D A [(z, .inr (4, [.ref r7, .ref r15, .ref r24, .ref r33, .ref r42])), (r7, .inl (q 0, 12, .inl zR)), (r15, .inl (q 0, 12, .inl zR)), (r24, .inl (q 0, 2400, .inl zR)), (r33, .inl (q 0, 2400, .inl zR)), (r42, .inl (q 0, 200, .inl zR))] H := ⟨hP, hD⟩
  exact k_vretN (w := fun f => wN3 q z f) (fun k => match k with | 6 => r7 | 7 => r15 | 8 => r24 | 9 => r33 | 10 => r42 | _ => 0) hx hb hr hlocks hP hS dX3_init_47
theorem fl_X1_init_9 : Cond.fieldLink RX1 9 "LampCounts$Lamps" "broken" "[Z" ∈ wsX1_init := by decide +kernel
theorem fl_X1_init_15 : Cond.fieldLink RX1 15 "LampCounts$Lamps" "blindSpots" "[I" ∈ wsX1_init := by decide +kernel
theorem fl_X1_init_19 : Cond.fieldLink RX1 19 "LampCounts$Lamps" "readings" "[I" ∈ wsX1_init := by decide +kernel
theorem fl_X1_init_22 : Cond.fieldLink RX1 22 "LampCounts$Lamps" "kept" "[I" ∈ wsX1_init := by decide +kernel
theorem fl_X1_init_25 : Cond.fieldLink RX1 25 "LampCounts$Lamps" "foundSection" "[I" ∈ wsX1_init := by decide +kernel
theorem fl_X1_init_28 : Cond.fieldLink RX1 28 "LampCounts$Lamps" "foundHour" "[I" ∈ wsX1_init := by decide +kernel
theorem fl_X1_init_31 : Cond.fieldLink RX1 31 "LampCounts$Lamps" "foundBlind" "[I" ∈ wsX1_init := by decide +kernel
theorem fl_X1_init_34 : Cond.fieldLink RX1 34 "LampCounts$Lamps" "findings" "I" ∈ wsX1_init := by decide +kernel
theorem in_X1_init : ∀ w ∈ u_ws RX1 TX1 8, w ∈ wsX1_init := by decide +kernel
set_option maxHeartbeats 4000000 in
set_option maxRecDepth 100000 in
theorem c_X1_init (l : Launch) (D : va_G) (q : Nat → ClassId) (A : Nat → Prop) (z : Nat) : Met l yX1_init wsX1_init ({ frames := 2, cells := 7, slots := 5004, locals := 128 } : Room) (va_Pc [.ref z] (kBN D q A (fun H => kW D A [(z, .inr (2, [.null, .null, .null, .null, .null, .null, .null, .int 0]))] H))) (kRn D A (fun f => wN1 q z f)) 7 5004 A := by
  refine Met.ofW (cc := cX1_init) (maxL := 1) (ret := none) (by decide) rfl ?_
  intro p e u m args below meth c s₁ B hml0 hv
  obtain ⟨rfl, ⟨hP, hK⟩, hA⟩ := hv
  have hin : meth.name = "<init>" := (name_of_methodNamed B.named B.method).1
  have C0 : kAt p u m #[.ref z] meth c cX1_init 1 none RX1 wsX1_init := kAt_of B hml0
  obtain ⟨hx, hb, hr, hml, hown, hts, hlocks⟩ := id C0
  have hS : va_S A u.heap u.heap [] := va_S.rf
  have hl := lv_entry ([.ref z]) (n := 1) (Nat.le_of_ble_eq_true rfl)
  rw [lg_entry_eq]
  generalize (lg_sl ([.ref z]) ++ List.replicate (1 - (lg_sl ([.ref z])).length) Slot.unset).toArray = ls at hl ⊢
  have hl : lv_has ls 1 [(0, .ref z)] := hl
  refine lv_aload_n hx hb dX1_init_0 rfl (lv_at hl 0 rfl) ?_
  refine W.objInit hx hb hown (hts (.methodLink RX1 3 objectInit) (by decide +kernel)) (hts (.instanceMethod objectInit) (by decide +kernel)) (hts _ (List.mem_of_getElem? (i := 3) rfl)) rfl (by rw [hml]; exact hl.1) rfl dX1_init_1 (Nat.le_of_ble_eq_true rfl) (Nat.le_of_ble_eq_true rfl) ?_
  refine W.eq (g2 := F0 m 4 ls []) rfl ?_
  refine lv_aload_n hx hb dX1_init_4 rfl (lv_at hl 0 rfl) ?_
  refine lv_bipush (v := nI 12) hx hb dX1_init_5 (by decide) ?_
  refine k_newz (N := 12) hx hb (hts (.arrayClass .boolean) (by decide +kernel)) hK hP hS hA (Nat.le_of_ble_eq_true rfl) (Nat.le_of_ble_eq_true rfl) (Nat.le_of_ble_eq_true rfl) dX1_init_7 (fun r7 H hP hS => ?_)
  replace hP : kW D A [(z, .inr (2, [.null, .null, .null, .null, .null, .null, .null, .int 0])), (r7, .inl (q 1, 12, .inl zR))] H := hP
  refine va_putF (v := .ref r7) (ty := .array .boolean) (C := RX1) (T := TX1) (N := 8) hx hb hts in_X1_init tyX1 tyX1_ok nmX1 hown hK.1 hP.1 hP.2 hS 0 rfl rfl 0 (by decide) (hts _ fl_X1_init_9) (fun _ h9 => h9) rfl hin rfl (by decide +kernel) rfl rfl (Nat.le_of_ble_eq_true rfl) dX1_init_9 (fun H locs hP hD hS => ?_)
  replace hP : kW D A [(z, .inr (2, [.ref r7, .null, .null, .null, .null, .null, .null, .int 0])), (r7, .inl (q 1, 12, .inl zR))] H := ⟨hP, hD⟩
  refine lv_aload_n hx hb dX1_init_12 rfl (lv_at hl 0 rfl) ?_
  refine lv_bipush (v := nI 12) hx hb dX1_init_13 (by decide) ?_
  refine k_newi (N := 12) hx hb (hts (.arrayClass .int) (by decide +kernel)) hK hP hS hA (Nat.le_of_ble_eq_true rfl) (Nat.le_of_ble_eq_true rfl) (Nat.le_of_ble_eq_true rfl) dX1_init_15 (fun r15 H hP hS => ?_)
  replace hP : kW D A [(z, .inr (2, [.ref r7, .null, .null, .null, .null, .null, .null, .int 0])), (r7, .inl (q 1, 12, .inl zR)), (r15, .inl (q 0, 12, .inl zR))] H := hP
  refine va_putF (v := .ref r15) (ty := .array .int) (C := RX1) (T := TX1) (N := 8) hx hb hts in_X1_init tyX1 tyX1_ok nmX1 hown hK.1 hP.1 hP.2 hS 0 rfl rfl 1 (by decide) (hts _ fl_X1_init_15) (fun _ h9 => h9) rfl hin rfl (by decide +kernel) rfl rfl (Nat.le_of_ble_eq_true rfl) dX1_init_17 (fun H locs hP hD hS => ?_)
  replace hP : kW D A [(z, .inr (2, [.ref r7, .ref r15, .null, .null, .null, .null, .null, .int 0])), (r7, .inl (q 1, 12, .inl zR)), (r15, .inl (q 0, 12, .inl zR))] H := ⟨hP, hD⟩
  refine lv_aload_n hx hb dX1_init_20 rfl (lv_at hl 0 rfl) ?_
  refine lv_sipush (v := nI 2400) hx hb dX1_init_21 (by decide) ?_
  refine k_newi (N := 2400) hx hb (hts (.arrayClass .int) (by decide +kernel)) hK hP hS hA (Nat.le_of_ble_eq_true rfl) (Nat.le_of_ble_eq_true rfl) (Nat.le_of_ble_eq_true rfl) dX1_init_24 (fun r24 H hP hS => ?_)
  replace hP : kW D A [(z, .inr (2, [.ref r7, .ref r15, .null, .null, .null, .null, .null, .int 0])), (r7, .inl (q 1, 12, .inl zR)), (r15, .inl (q 0, 12, .inl zR)), (r24, .inl (q 0, 2400, .inl zR))] H := hP
  refine va_putF (v := .ref r24) (ty := .array .int) (C := RX1) (T := TX1) (N := 8) hx hb hts in_X1_init tyX1 tyX1_ok nmX1 hown hK.1 hP.1 hP.2 hS 0 rfl rfl 2 (by decide) (hts _ fl_X1_init_19) (fun _ h9 => h9) rfl hin rfl (by decide +kernel) rfl rfl (Nat.le_of_ble_eq_true rfl) dX1_init_26 (fun H locs hP hD hS => ?_)
  replace hP : kW D A [(z, .inr (2, [.ref r7, .ref r15, .ref r24, .null, .null, .null, .null, .int 0])), (r7, .inl (q 1, 12, .inl zR)), (r15, .inl (q 0, 12, .inl zR)), (r24, .inl (q 0, 2400, .inl zR))] H := ⟨hP, hD⟩
  refine lv_aload_n hx hb dX1_init_29 rfl (lv_at hl 0 rfl) ?_
  refine lv_sipush (v := nI 2400) hx hb dX1_init_30 (by decide) ?_
  refine k_newi (N := 2400) hx hb (hts (.arrayClass .int) (by decide +kernel)) hK hP hS hA (Nat.le_of_ble_eq_true rfl) (Nat.le_of_ble_eq_true rfl) (Nat.le_of_ble_eq_true rfl) dX1_init_33 (fun r33 H hP hS => ?_)
  replace hP : kW D A [(z, .inr (2, [.ref r7, .ref r15, .ref r24, .null, .null, .null, .null, .int 0])), (r7, .inl (q 1, 12, .inl zR)), (r15, .inl (q 0, 12, .inl zR)), (r24, .inl (q 0, 2400, .inl zR)), (r33, .inl (q 0, 2400, .inl zR))] H := hP
  refine va_putF (v := .ref r33) (ty := .array .int) (C := RX1) (T := TX1) (N := 8) hx hb hts in_X1_init tyX1 tyX1_ok nmX1 hown hK.1 hP.1 hP.2 hS 0 rfl rfl 3 (by decide) (hts _ fl_X1_init_22) (fun _ h9 => h9) rfl hin rfl (by decide +kernel) rfl rfl (Nat.le_of_ble_eq_true rfl) dX1_init_35 (fun H locs hP hD hS => ?_)
  replace hP : kW D A [(z, .inr (2, [.ref r7, .ref r15, .ref r24, .ref r33, .null, .null, .null, .int 0])), (r7, .inl (q 1, 12, .inl zR)), (r15, .inl (q 0, 12, .inl zR)), (r24, .inl (q 0, 2400, .inl zR)), (r33, .inl (q 0, 2400, .inl zR))] H := ⟨hP, hD⟩
  refine lv_aload_n hx hb dX1_init_38 rfl (lv_at hl 0 rfl) ?_
  refine lv_bipush (v := nI 60) hx hb dX1_init_39 (by decide) ?_
  refine k_newi (N := 60) hx hb (hts (.arrayClass .int) (by decide +kernel)) hK hP hS hA (Nat.le_of_ble_eq_true rfl) (Nat.le_of_ble_eq_true rfl) (Nat.le_of_ble_eq_true rfl) dX1_init_41 (fun r41 H hP hS => ?_)
  replace hP : kW D A [(z, .inr (2, [.ref r7, .ref r15, .ref r24, .ref r33, .null, .null, .null, .int 0])), (r7, .inl (q 1, 12, .inl zR)), (r15, .inl (q 0, 12, .inl zR)), (r24, .inl (q 0, 2400, .inl zR)), (r33, .inl (q 0, 2400, .inl zR)), (r41, .inl (q 0, 60, .inl zR))] H := hP
  refine va_putF (v := .ref r41) (ty := .array .int) (C := RX1) (T := TX1) (N := 8) hx hb hts in_X1_init tyX1 tyX1_ok nmX1 hown hK.1 hP.1 hP.2 hS 0 rfl rfl 4 (by decide) (hts _ fl_X1_init_25) (fun _ h9 => h9) rfl hin rfl (by decide +kernel) rfl rfl (Nat.le_of_ble_eq_true rfl) dX1_init_43 (fun H locs hP hD hS => ?_)
  replace hP : kW D A [(z, .inr (2, [.ref r7, .ref r15, .ref r24, .ref r33, .ref r41, .null, .null, .int 0])), (r7, .inl (q 1, 12, .inl zR)), (r15, .inl (q 0, 12, .inl zR)), (r24, .inl (q 0, 2400, .inl zR)), (r33, .inl (q 0, 2400, .inl zR)), (r41, .inl (q 0, 60, .inl zR))] H := ⟨hP, hD⟩
  refine lv_aload_n hx hb dX1_init_46 rfl (lv_at hl 0 rfl) ?_
  refine lv_bipush (v := nI 60) hx hb dX1_init_47 (by decide) ?_
  refine k_newi (N := 60) hx hb (hts (.arrayClass .int) (by decide +kernel)) hK hP hS hA (Nat.le_of_ble_eq_true rfl) (Nat.le_of_ble_eq_true rfl) (Nat.le_of_ble_eq_true rfl) dX1_init_49 (fun r49 H hP hS => ?_)
  replace hP : kW D A [(z, .inr (2, [.ref r7, .ref r15, .ref r24, .ref r33, .ref r41, .null, .null, .int 0])), (r7, .inl (q 1, 12, .inl zR)), (r15, .inl (q 0, 12, .inl zR)), (r24, .inl (q 0, 2400, .inl zR)), (r33, .inl (q 0, 2400, .inl zR)), (r41, .inl (q 0, 60, .inl zR)), (r49, .inl (q 0, 60, .inl zR))] H := hP
  refine va_putF (v := .ref r49) (ty := .array .int) (C := RX1) (T := TX1) (N := 8) hx hb hts in_X1_init tyX1 tyX1_ok nmX1 hown hK.1 hP.1 hP.2 hS 0 rfl rfl 5 (by decide) (hts _ fl_X1_init_28) (fun _ h9 => h9) rfl hin rfl (by decide +kernel) rfl rfl (Nat.le_of_ble_eq_true rfl) dX1_init_51 (fun H locs hP hD hS => ?_)
  replace hP : kW D A [(z, .inr (2, [.ref r7, .ref r15, .ref r24, .ref r33, .ref r41, .ref r49, .null, .int 0])), (r7, .inl (q 1, 12, .inl zR)), (r15, .inl (q 0, 12, .inl zR)), (r24, .inl (q 0, 2400, .inl zR)), (r33, .inl (q 0, 2400, .inl zR)), (r41, .inl (q 0, 60, .inl zR)), (r49, .inl (q 0, 60, .inl zR))] H := ⟨hP, hD⟩
  refine lv_aload_n hx hb dX1_init_54 rfl (lv_at hl 0 rfl) ?_
  refine lv_bipush (v := nI 60) hx hb dX1_init_55 (by decide) ?_
  refine k_newi (N := 60) hx hb (hts (.arrayClass .int) (by decide +kernel)) hK hP hS hA (Nat.le_of_ble_eq_true rfl) (Nat.le_of_ble_eq_true rfl) (Nat.le_of_ble_eq_true rfl) dX1_init_57 (fun r57 H hP hS => ?_)
  replace hP : kW D A [(z, .inr (2, [.ref r7, .ref r15, .ref r24, .ref r33, .ref r41, .ref r49, .null, .int 0])), (r7, .inl (q 1, 12, .inl zR)), (r15, .inl (q 0, 12, .inl zR)), (r24, .inl (q 0, 2400, .inl zR)), (r33, .inl (q 0, 2400, .inl zR)), (r41, .inl (q 0, 60, .inl zR)), (r49, .inl (q 0, 60, .inl zR)), (r57, .inl (q 0, 60, .inl zR))] H := hP
  refine va_putF (v := .ref r57) (ty := .array .int) (C := RX1) (T := TX1) (N := 8) hx hb hts in_X1_init tyX1 tyX1_ok nmX1 hown hK.1 hP.1 hP.2 hS 0 rfl rfl 6 (by decide) (hts _ fl_X1_init_31) (fun _ h9 => h9) rfl hin rfl (by decide +kernel) rfl rfl (Nat.le_of_ble_eq_true rfl) dX1_init_59 (fun H locs hP hD hS => ?_)
  replace hP : kW D A [(z, .inr (2, [.ref r7, .ref r15, .ref r24, .ref r33, .ref r41, .ref r49, .ref r57, .int 0])), (r7, .inl (q 1, 12, .inl zR)), (r15, .inl (q 0, 12, .inl zR)), (r24, .inl (q 0, 2400, .inl zR)), (r33, .inl (q 0, 2400, .inl zR)), (r41, .inl (q 0, 60, .inl zR)), (r49, .inl (q 0, 60, .inl zR)), (r57, .inl (q 0, 60, .inl zR))] H := ⟨hP, hD⟩
  refine lv_aload_n hx hb dX1_init_62 rfl (lv_at hl 0 rfl) ?_
  refine lv_iconst (v := nI 0) hx hb dX1_init_63 (by decide) ?_
  refine va_put (v := .int (nI 0)) (ty := .int) (C := RX1) (T := TX1) (N := 8) hx hb hts in_X1_init tyX1 tyX1_ok nmX1 hown hK.1 hP.1 hP.2 hS 0 rfl rfl 7 (by decide) (hts _ fl_X1_init_34) (fun _ h9 => h9) rfl (by decide +kernel) rfl rfl (Nat.le_of_ble_eq_true rfl) dX1_init_64 (fun H locs hP hD hS => ?_)
  replace hP : kW D A [(z, .inr (2, [.ref r7, .ref r15, .ref r24, .ref r33, .ref r41, .ref r49, .ref r57, .int (nI 0)])), (r7, .inl (q 1, 12, .inl zR)), (r15, .inl (q 0, 12, .inl zR)), (r24, .inl (q 0, 2400, .inl zR)), (r33, .inl (q 0, 2400, .inl zR)), (r41, .inl (q 0, 60, .inl zR)), (r49, .inl (q 0, 60, .inl zR)), (r57, .inl (q 0, 60, .inl zR))] H := ⟨hP, hD⟩
  exact k_vretN (w := fun f => wN1 q z f) (fun k => match k with | 11 => r7 | 12 => r15 | 13 => r24 | 14 => r33 | 15 => r41 | 16 => r49 | 17 => r57 | _ => 0) hx hb hr hlocks hP hS dX1_init_67
def wN0 (q : Nat → ClassId) (z : Nat) (f : Nat → Nat) : va_W := [(z, .inr (1, [.ref (f 18), .ref (f 19), .ref (f 20), .ref (f 21), .ref (f 22), .ref (f 23), .ref (f 24), .ref (f 25), .int (nI 0)])), (f 18, .inl (q 0, 6, .inl (flR zR (nI 10) 6))), (f 19, .inl (q 0, 6, .inl zR)), (f 20, .inl (q 0, 6, .inl zR)), (f 21, .inl (q 1, 72, .inl zR)), (f 22, .inl (q 1, 6, .inl zR)), (f 23, .inl (q 0, 6, .inl zR)), (f 24, .inl (q 0, 2400, .inl zR)), (f 25, .inl (q 0, 50, .inl zR))]
set_option maxHeartbeats 4000000 in
set_option maxRecDepth 100000 in
theorem c_J7_fill_53178 (l : Launch) (D : va_G) (q : Nat → ClassId) (A : Nat → Prop) (z : Nat) (v : Int32) (g : Nat → Int32) : Met l yJ7_fill_53178 wsJ7_fill_53178 ({ frames := 1, cells := 0, slots := 0, locals := 16 } : Room) (va_Pc [.ref z, .int v] (kBN D q A (fun H => kW D A [(z, .inl (q 0, 6, .inl g))] H))) (kRn D A (fun _ => [(z, .inl (q 0, 6, .inl (flR g v 6)))])) 0 0 A := by
  refine Met.ofW (cc := cJ7_fill_53178) (maxL := 4) (ret := none) (by decide) rfl ?_
  intro p e u m args below meth c s₁ B hml0 hv
  obtain ⟨rfl, ⟨hP, hK⟩, hA⟩ := hv
  have C0 : kAt p u m #[.ref z, .int v] meth c cJ7_fill_53178 4 none RJ7 wsJ7_fill_53178 := kAt_of B hml0
  obtain ⟨hx, hb, hr, hml, hown, hts, hlocks⟩ := id C0
  have hS : va_S A u.heap u.heap [] := va_S.rf
  have hl := lv_entry ([.ref z, .int v]) (n := 4) (Nat.le_of_ble_eq_true rfl)
  rw [lg_entry_eq]
  generalize (lg_sl ([.ref z, .int v]) ++ List.replicate (4 - (lg_sl ([.ref z, .int v])).length) Slot.unset).toArray = ls at hl ⊢
  have hl : lv_has ls 4 [(0, .ref z), (1, .int v)] := hl
  refine lv_iconst (v := nI 0) hx hb dJ7_fill_53178_0 (by decide) ?_
  refine lv_istore_n (lv' := [(2, .int (nI 0)), (0, .ref z), (1, .int v)]) hx hb dJ7_fill_53178_1 rfl hl (by decide) rfl (fun ls hl => ?_)
  refine lv_aload_n hx hb dJ7_fill_53178_2 rfl (lv_at hl 1 rfl) ?_
  refine va_alen hx hb hK.1 hP.1 0 0 (x := (6, .inl g)) rfl rfl (v := nI 6) rfl dJ7_fill_53178_3 ?_
  refine lv_istore_n (lv' := [(3, .int (nI 6)), (2, .int (nI 0)), (0, .ref z), (1, .int v)]) hx hb dJ7_fill_53178_4 rfl hl (by decide) rfl (fun ls hl => ?_)
  refine lv_iload_n hx hb dJ7_fill_53178_5 rfl (lv_at hl 1 rfl) ?_
  refine lv_iload_n hx hb dJ7_fill_53178_6 rfl (lv_at hl 0 rfl) ?_
  refine k_icmp_ge (P := True) (tgt := 20) hx hb dJ7_fill_53178_7 (by decide) (by decide) (fun h0 => absurd trivial h0) (fun _ => ?_)
  refine lv_aload_n hx hb dJ7_fill_53178_10 rfl (lv_at hl 2 rfl) ?_
  refine lv_iload_n hx hb dJ7_fill_53178_11 rfl (lv_at hl 1 rfl) ?_
  refine lv_iload_n hx hb dJ7_fill_53178_12 rfl (lv_at hl 3 rfl) ?_
  refine k_iast [(z, .inl (q 0, 6, .inl (flR g v 1)))] hx hb hK hP hS 0 rfl 0 rfl (by decide) (by decide) rfl dJ7_fill_53178_13 (fun H locs hP hS => ?_)
  refine lv_iinc (v := nI 1) (lv' := [(2, .int (nI 1)), (3, .int (nI 6)), (0, .ref z), (1, .int v)]) hx hb dJ7_fill_53178_14 hl (k := 1) rfl (by decide) (by decide) rfl (fun ls hl => ?_)
  refine lv_goto (tgt := 5) hx hb dJ7_fill_53178_17 (by decide) ?_
  refine lv_iload_n hx hb dJ7_fill_53178_5 rfl (lv_at hl 0 rfl) ?_
  refine lv_iload_n hx hb dJ7_fill_53178_6 rfl (lv_at hl 1 rfl) ?_
  refine k_icmp_ge (P := True) (tgt := 20) hx hb dJ7_fill_53178_7 (by decide) (by decide) (fun h0 => absurd trivial h0) (fun _ => ?_)
  refine lv_aload_n hx hb dJ7_fill_53178_10 rfl (lv_at hl 2 rfl) ?_
  refine lv_iload_n hx hb dJ7_fill_53178_11 rfl (lv_at hl 0 rfl) ?_
  refine lv_iload_n hx hb dJ7_fill_53178_12 rfl (lv_at hl 3 rfl) ?_
  refine k_iast [(z, .inl (q 0, 6, .inl (flR g v 2)))] hx hb hK hP hS 0 rfl 1 rfl (by decide) (by decide) rfl dJ7_fill_53178_13 (fun H locs hP hS => ?_)
  refine lv_iinc (v := nI 2) (lv' := [(2, .int (nI 2)), (3, .int (nI 6)), (0, .ref z), (1, .int v)]) hx hb dJ7_fill_53178_14 hl (k := 0) rfl (by decide) (by decide) rfl (fun ls hl => ?_)
  refine lv_goto (tgt := 5) hx hb dJ7_fill_53178_17 (by decide) ?_
  refine lv_iload_n hx hb dJ7_fill_53178_5 rfl (lv_at hl 0 rfl) ?_
  refine lv_iload_n hx hb dJ7_fill_53178_6 rfl (lv_at hl 1 rfl) ?_
  refine k_icmp_ge (P := True) (tgt := 20) hx hb dJ7_fill_53178_7 (by decide) (by decide) (fun h0 => absurd trivial h0) (fun _ => ?_)
  refine lv_aload_n hx hb dJ7_fill_53178_10 rfl (lv_at hl 2 rfl) ?_
  refine lv_iload_n hx hb dJ7_fill_53178_11 rfl (lv_at hl 0 rfl) ?_
  refine lv_iload_n hx hb dJ7_fill_53178_12 rfl (lv_at hl 3 rfl) ?_
  refine k_iast [(z, .inl (q 0, 6, .inl (flR g v 3)))] hx hb hK hP hS 0 rfl 2 rfl (by decide) (by decide) rfl dJ7_fill_53178_13 (fun H locs hP hS => ?_)
  refine lv_iinc (v := nI 3) (lv' := [(2, .int (nI 3)), (3, .int (nI 6)), (0, .ref z), (1, .int v)]) hx hb dJ7_fill_53178_14 hl (k := 0) rfl (by decide) (by decide) rfl (fun ls hl => ?_)
  refine lv_goto (tgt := 5) hx hb dJ7_fill_53178_17 (by decide) ?_
  refine lv_iload_n hx hb dJ7_fill_53178_5 rfl (lv_at hl 0 rfl) ?_
  refine lv_iload_n hx hb dJ7_fill_53178_6 rfl (lv_at hl 1 rfl) ?_
  refine k_icmp_ge (P := True) (tgt := 20) hx hb dJ7_fill_53178_7 (by decide) (by decide) (fun h0 => absurd trivial h0) (fun _ => ?_)
  refine lv_aload_n hx hb dJ7_fill_53178_10 rfl (lv_at hl 2 rfl) ?_
  refine lv_iload_n hx hb dJ7_fill_53178_11 rfl (lv_at hl 0 rfl) ?_
  refine lv_iload_n hx hb dJ7_fill_53178_12 rfl (lv_at hl 3 rfl) ?_
  refine k_iast [(z, .inl (q 0, 6, .inl (flR g v 4)))] hx hb hK hP hS 0 rfl 3 rfl (by decide) (by decide) rfl dJ7_fill_53178_13 (fun H locs hP hS => ?_)
  refine lv_iinc (v := nI 4) (lv' := [(2, .int (nI 4)), (3, .int (nI 6)), (0, .ref z), (1, .int v)]) hx hb dJ7_fill_53178_14 hl (k := 0) rfl (by decide) (by decide) rfl (fun ls hl => ?_)
  refine lv_goto (tgt := 5) hx hb dJ7_fill_53178_17 (by decide) ?_
  refine lv_iload_n hx hb dJ7_fill_53178_5 rfl (lv_at hl 0 rfl) ?_
  refine lv_iload_n hx hb dJ7_fill_53178_6 rfl (lv_at hl 1 rfl) ?_
  refine k_icmp_ge (P := True) (tgt := 20) hx hb dJ7_fill_53178_7 (by decide) (by decide) (fun h0 => absurd trivial h0) (fun _ => ?_)
  refine lv_aload_n hx hb dJ7_fill_53178_10 rfl (lv_at hl 2 rfl) ?_
  refine lv_iload_n hx hb dJ7_fill_53178_11 rfl (lv_at hl 0 rfl) ?_
  refine lv_iload_n hx hb dJ7_fill_53178_12 rfl (lv_at hl 3 rfl) ?_
  refine k_iast [(z, .inl (q 0, 6, .inl (flR g v 5)))] hx hb hK hP hS 0 rfl 4 rfl (by decide) (by decide) rfl dJ7_fill_53178_13 (fun H locs hP hS => ?_)
  refine lv_iinc (v := nI 5) (lv' := [(2, .int (nI 5)), (3, .int (nI 6)), (0, .ref z), (1, .int v)]) hx hb dJ7_fill_53178_14 hl (k := 0) rfl (by decide) (by decide) rfl (fun ls hl => ?_)
  refine lv_goto (tgt := 5) hx hb dJ7_fill_53178_17 (by decide) ?_
  refine lv_iload_n hx hb dJ7_fill_53178_5 rfl (lv_at hl 0 rfl) ?_
  refine lv_iload_n hx hb dJ7_fill_53178_6 rfl (lv_at hl 1 rfl) ?_
  refine k_icmp_ge (P := True) (tgt := 20) hx hb dJ7_fill_53178_7 (by decide) (by decide) (fun h0 => absurd trivial h0) (fun _ => ?_)
  refine lv_aload_n hx hb dJ7_fill_53178_10 rfl (lv_at hl 2 rfl) ?_
  refine lv_iload_n hx hb dJ7_fill_53178_11 rfl (lv_at hl 0 rfl) ?_
  refine lv_iload_n hx hb dJ7_fill_53178_12 rfl (lv_at hl 3 rfl) ?_
  refine k_iast [(z, .inl (q 0, 6, .inl (flR g v 6)))] hx hb hK hP hS 0 rfl 5 rfl (by decide) (by decide) rfl dJ7_fill_53178_13 (fun H locs hP hS => ?_)
  refine lv_iinc (v := nI 6) (lv' := [(2, .int (nI 6)), (3, .int (nI 6)), (0, .ref z), (1, .int v)]) hx hb dJ7_fill_53178_14 hl (k := 0) rfl (by decide) (by decide) rfl (fun ls hl => ?_)
  refine lv_goto (tgt := 5) hx hb dJ7_fill_53178_17 (by decide) ?_
  refine lv_iload_n hx hb dJ7_fill_53178_5 rfl (lv_at hl 0 rfl) ?_
  refine lv_iload_n hx hb dJ7_fill_53178_6 rfl (lv_at hl 1 rfl) ?_
  refine k_icmp_ge (P := False) (tgt := 20) hx hb dJ7_fill_53178_7 (by decide) (by decide) (fun _ => ?_) (fun h0 => h0.elim)
  exact k_vretN (w := fun _ => [(z, .inl (q 0, 6, .inl (flR g v 6)))]) (fun _ => 0) hx hb hr hlocks hP hS dJ7_fill_53178_20
theorem fl_X0_init_9 : Cond.fieldLink RX0 9 "LampCounts$Buskers" "skills" "[I" ∈ wsX0_init := by decide +kernel
theorem fl_X0_init_15 : Cond.fieldLink RX0 15 "LampCounts$Buskers" "hoursPlayed" "[I" ∈ wsX0_init := by decide +kernel
theorem fl_X0_init_18 : Cond.fieldLink RX0 18 "LampCounts$Buskers" "purses" "[I" ∈ wsX0_init := by decide +kernel
theorem fl_X0_init_21 : Cond.fieldLink RX0 21 "LampCounts$Buskers" "asks" "[Z" ∈ wsX0_init := by decide +kernel
theorem fl_X0_init_25 : Cond.fieldLink RX0 25 "LampCounts$Buskers" "playing" "[Z" ∈ wsX0_init := by decide +kernel
theorem fl_X0_init_28 : Cond.fieldLink RX0 28 "LampCounts$Buskers" "tied" "[I" ∈ wsX0_init := by decide +kernel
theorem fl_X0_init_31 : Cond.fieldLink RX0 31 "LampCounts$Buskers" "players" "[I" ∈ wsX0_init := by decide +kernel
theorem fl_X0_init_34 : Cond.fieldLink RX0 34 "LampCounts$Buskers" "told" "[I" ∈ wsX0_init := by decide +kernel
theorem fl_X0_init_37 : Cond.fieldLink RX0 37 "LampCounts$Buskers" "lotsLeft" "I" ∈ wsX0_init := by decide +kernel
theorem in_X0_init : ∀ w ∈ u_ws RX0 TX0 9, w ∈ wsX0_init := by decide +kernel
set_option maxHeartbeats 4000000 in
set_option maxRecDepth 100000 in
theorem c_X0_init (l : Launch) (D : va_G) (q : Nat → ClassId) (A : Nat → Prop) (z : Nat) : Met l yX0_init wsX0_init ({ frames := 2, cells := 8, slots := 2552, locals := 128 } : Room) (va_Pc [.ref z] (kBN D q A (fun H => kW D A [(z, .inr (1, [.null, .null, .null, .null, .null, .null, .null, .null, .int 0]))] H))) (kRn D A (fun f => wN0 q z f)) 8 2552 A := by
  refine Met.ofW (cc := cX0_init) (maxL := 1) (ret := none) (by decide) rfl ?_
  intro p e u m args below meth c s₁ B hml0 hv
  obtain ⟨rfl, ⟨hP, hK⟩, hA⟩ := hv
  have hin : meth.name = "<init>" := (name_of_methodNamed B.named B.method).1
  have C0 : kAt p u m #[.ref z] meth c cX0_init 1 none RX0 wsX0_init := kAt_of B hml0
  obtain ⟨hx, hb, hr, hml, hown, hts, hlocks⟩ := id C0
  have hS : va_S A u.heap u.heap [] := va_S.rf
  have hl := lv_entry ([.ref z]) (n := 1) (Nat.le_of_ble_eq_true rfl)
  rw [lg_entry_eq]
  generalize (lg_sl ([.ref z]) ++ List.replicate (1 - (lg_sl ([.ref z])).length) Slot.unset).toArray = ls at hl ⊢
  have hl : lv_has ls 1 [(0, .ref z)] := hl
  refine lv_aload_n hx hb dX0_init_0 rfl (lv_at hl 0 rfl) ?_
  refine W.objInit hx hb hown (hts (.methodLink RX0 3 objectInit) (by decide +kernel)) (hts (.instanceMethod objectInit) (by decide +kernel)) (hts _ (List.mem_of_getElem? (i := 3) rfl)) rfl (by rw [hml]; exact hl.1) rfl dX0_init_1 (Nat.le_of_ble_eq_true rfl) (Nat.le_of_ble_eq_true rfl) ?_
  refine W.eq (g2 := F0 m 4 ls []) rfl ?_
  refine lv_aload_n hx hb dX0_init_4 rfl (lv_at hl 0 rfl) ?_
  refine lv_bipush (v := nI 6) hx hb dX0_init_5 (by decide) ?_
  refine k_newi (N := 6) hx hb (hts (.arrayClass .int) (by decide +kernel)) hK hP hS hA (Nat.le_of_ble_eq_true rfl) (Nat.le_of_ble_eq_true rfl) (Nat.le_of_ble_eq_true rfl) dX0_init_7 (fun r7 H hP hS => ?_)
  replace hP : kW D A [(z, .inr (1, [.null, .null, .null, .null, .null, .null, .null, .null, .int 0])), (r7, .inl (q 0, 6, .inl zR))] H := hP
  refine va_putF (v := .ref r7) (ty := .array .int) (C := RX0) (T := TX0) (N := 9) hx hb hts in_X0_init tyX0 tyX0_ok nmX0 hown hK.1 hP.1 hP.2 hS 0 rfl rfl 0 (by decide) (hts _ fl_X0_init_9) (fun _ h9 => h9) rfl hin rfl (by decide +kernel) rfl rfl (Nat.le_of_ble_eq_true rfl) dX0_init_9 (fun H locs hP hD hS => ?_)
  replace hP : kW D A [(z, .inr (1, [.ref r7, .null, .null, .null, .null, .null, .null, .null, .int 0])), (r7, .inl (q 0, 6, .inl zR))] H := ⟨hP, hD⟩
  refine lv_aload_n hx hb dX0_init_12 rfl (lv_at hl 0 rfl) ?_
  refine lv_bipush (v := nI 6) hx hb dX0_init_13 (by decide) ?_
  refine k_newi (N := 6) hx hb (hts (.arrayClass .int) (by decide +kernel)) hK hP hS hA (Nat.le_of_ble_eq_true rfl) (Nat.le_of_ble_eq_true rfl) (Nat.le_of_ble_eq_true rfl) dX0_init_15 (fun r15 H hP hS => ?_)
  replace hP : kW D A [(z, .inr (1, [.ref r7, .null, .null, .null, .null, .null, .null, .null, .int 0])), (r7, .inl (q 0, 6, .inl zR)), (r15, .inl (q 0, 6, .inl zR))] H := hP
  refine va_putF (v := .ref r15) (ty := .array .int) (C := RX0) (T := TX0) (N := 9) hx hb hts in_X0_init tyX0 tyX0_ok nmX0 hown hK.1 hP.1 hP.2 hS 0 rfl rfl 1 (by decide) (hts _ fl_X0_init_15) (fun _ h9 => h9) rfl hin rfl (by decide +kernel) rfl rfl (Nat.le_of_ble_eq_true rfl) dX0_init_17 (fun H locs hP hD hS => ?_)
  replace hP : kW D A [(z, .inr (1, [.ref r7, .ref r15, .null, .null, .null, .null, .null, .null, .int 0])), (r7, .inl (q 0, 6, .inl zR)), (r15, .inl (q 0, 6, .inl zR))] H := ⟨hP, hD⟩
  refine lv_aload_n hx hb dX0_init_20 rfl (lv_at hl 0 rfl) ?_
  refine lv_bipush (v := nI 6) hx hb dX0_init_21 (by decide) ?_
  refine k_newi (N := 6) hx hb (hts (.arrayClass .int) (by decide +kernel)) hK hP hS hA (Nat.le_of_ble_eq_true rfl) (Nat.le_of_ble_eq_true rfl) (Nat.le_of_ble_eq_true rfl) dX0_init_23 (fun r23 H hP hS => ?_)
  replace hP : kW D A [(z, .inr (1, [.ref r7, .ref r15, .null, .null, .null, .null, .null, .null, .int 0])), (r7, .inl (q 0, 6, .inl zR)), (r15, .inl (q 0, 6, .inl zR)), (r23, .inl (q 0, 6, .inl zR))] H := hP
  refine va_putF (v := .ref r23) (ty := .array .int) (C := RX0) (T := TX0) (N := 9) hx hb hts in_X0_init tyX0 tyX0_ok nmX0 hown hK.1 hP.1 hP.2 hS 0 rfl rfl 2 (by decide) (hts _ fl_X0_init_18) (fun _ h9 => h9) rfl hin rfl (by decide +kernel) rfl rfl (Nat.le_of_ble_eq_true rfl) dX0_init_25 (fun H locs hP hD hS => ?_)
  replace hP : kW D A [(z, .inr (1, [.ref r7, .ref r15, .ref r23, .null, .null, .null, .null, .null, .int 0])), (r7, .inl (q 0, 6, .inl zR)), (r15, .inl (q 0, 6, .inl zR)), (r23, .inl (q 0, 6, .inl zR))] H := ⟨hP, hD⟩
  refine lv_aload_n hx hb dX0_init_28 rfl (lv_at hl 0 rfl) ?_
  refine lv_bipush (v := nI 72) hx hb dX0_init_29 (by decide) ?_
  refine k_newz (N := 72) hx hb (hts (.arrayClass .boolean) (by decide +kernel)) hK hP hS hA (Nat.le_of_ble_eq_true rfl) (Nat.le_of_ble_eq_true rfl) (Nat.le_of_ble_eq_true rfl) dX0_init_31 (fun r31 H hP hS => ?_)
  replace hP : kW D A [(z, .inr (1, [.ref r7, .ref r15, .ref r23, .null, .null, .null, .null, .null, .int 0])), (r7, .inl (q 0, 6, .inl zR)), (r15, .inl (q 0, 6, .inl zR)), (r23, .inl (q 0, 6, .inl zR)), (r31, .inl (q 1, 72, .inl zR))] H := hP
  refine va_putF (v := .ref r31) (ty := .array .boolean) (C := RX0) (T := TX0) (N := 9) hx hb hts in_X0_init tyX0 tyX0_ok nmX0 hown hK.1 hP.1 hP.2 hS 0 rfl rfl 3 (by decide) (hts _ fl_X0_init_21) (fun _ h9 => h9) rfl hin rfl (by decide +kernel) rfl rfl (Nat.le_of_ble_eq_true rfl) dX0_init_33 (fun H locs hP hD hS => ?_)
  replace hP : kW D A [(z, .inr (1, [.ref r7, .ref r15, .ref r23, .ref r31, .null, .null, .null, .null, .int 0])), (r7, .inl (q 0, 6, .inl zR)), (r15, .inl (q 0, 6, .inl zR)), (r23, .inl (q 0, 6, .inl zR)), (r31, .inl (q 1, 72, .inl zR))] H := ⟨hP, hD⟩
  refine lv_aload_n hx hb dX0_init_36 rfl (lv_at hl 0 rfl) ?_
  refine lv_bipush (v := nI 6) hx hb dX0_init_37 (by decide) ?_
  refine k_newz (N := 6) hx hb (hts (.arrayClass .boolean) (by decide +kernel)) hK hP hS hA (Nat.le_of_ble_eq_true rfl) (Nat.le_of_ble_eq_true rfl) (Nat.le_of_ble_eq_true rfl) dX0_init_39 (fun r39 H hP hS => ?_)
  replace hP : kW D A [(z, .inr (1, [.ref r7, .ref r15, .ref r23, .ref r31, .null, .null, .null, .null, .int 0])), (r7, .inl (q 0, 6, .inl zR)), (r15, .inl (q 0, 6, .inl zR)), (r23, .inl (q 0, 6, .inl zR)), (r31, .inl (q 1, 72, .inl zR)), (r39, .inl (q 1, 6, .inl zR))] H := hP
  refine va_putF (v := .ref r39) (ty := .array .boolean) (C := RX0) (T := TX0) (N := 9) hx hb hts in_X0_init tyX0 tyX0_ok nmX0 hown hK.1 hP.1 hP.2 hS 0 rfl rfl 4 (by decide) (hts _ fl_X0_init_25) (fun _ h9 => h9) rfl hin rfl (by decide +kernel) rfl rfl (Nat.le_of_ble_eq_true rfl) dX0_init_41 (fun H locs hP hD hS => ?_)
  replace hP : kW D A [(z, .inr (1, [.ref r7, .ref r15, .ref r23, .ref r31, .ref r39, .null, .null, .null, .int 0])), (r7, .inl (q 0, 6, .inl zR)), (r15, .inl (q 0, 6, .inl zR)), (r23, .inl (q 0, 6, .inl zR)), (r31, .inl (q 1, 72, .inl zR)), (r39, .inl (q 1, 6, .inl zR))] H := ⟨hP, hD⟩
  refine lv_aload_n hx hb dX0_init_44 rfl (lv_at hl 0 rfl) ?_
  refine lv_bipush (v := nI 6) hx hb dX0_init_45 (by decide) ?_
  refine k_newi (N := 6) hx hb (hts (.arrayClass .int) (by decide +kernel)) hK hP hS hA (Nat.le_of_ble_eq_true rfl) (Nat.le_of_ble_eq_true rfl) (Nat.le_of_ble_eq_true rfl) dX0_init_47 (fun r47 H hP hS => ?_)
  replace hP : kW D A [(z, .inr (1, [.ref r7, .ref r15, .ref r23, .ref r31, .ref r39, .null, .null, .null, .int 0])), (r7, .inl (q 0, 6, .inl zR)), (r15, .inl (q 0, 6, .inl zR)), (r23, .inl (q 0, 6, .inl zR)), (r31, .inl (q 1, 72, .inl zR)), (r39, .inl (q 1, 6, .inl zR)), (r47, .inl (q 0, 6, .inl zR))] H := hP
  refine va_putF (v := .ref r47) (ty := .array .int) (C := RX0) (T := TX0) (N := 9) hx hb hts in_X0_init tyX0 tyX0_ok nmX0 hown hK.1 hP.1 hP.2 hS 0 rfl rfl 5 (by decide) (hts _ fl_X0_init_28) (fun _ h9 => h9) rfl hin rfl (by decide +kernel) rfl rfl (Nat.le_of_ble_eq_true rfl) dX0_init_49 (fun H locs hP hD hS => ?_)
  replace hP : kW D A [(z, .inr (1, [.ref r7, .ref r15, .ref r23, .ref r31, .ref r39, .ref r47, .null, .null, .int 0])), (r7, .inl (q 0, 6, .inl zR)), (r15, .inl (q 0, 6, .inl zR)), (r23, .inl (q 0, 6, .inl zR)), (r31, .inl (q 1, 72, .inl zR)), (r39, .inl (q 1, 6, .inl zR)), (r47, .inl (q 0, 6, .inl zR))] H := ⟨hP, hD⟩
  refine lv_aload_n hx hb dX0_init_52 rfl (lv_at hl 0 rfl) ?_
  refine lv_sipush (v := nI 2400) hx hb dX0_init_53 (by decide) ?_
  refine k_newi (N := 2400) hx hb (hts (.arrayClass .int) (by decide +kernel)) hK hP hS hA (Nat.le_of_ble_eq_true rfl) (Nat.le_of_ble_eq_true rfl) (Nat.le_of_ble_eq_true rfl) dX0_init_56 (fun r56 H hP hS => ?_)
  replace hP : kW D A [(z, .inr (1, [.ref r7, .ref r15, .ref r23, .ref r31, .ref r39, .ref r47, .null, .null, .int 0])), (r7, .inl (q 0, 6, .inl zR)), (r15, .inl (q 0, 6, .inl zR)), (r23, .inl (q 0, 6, .inl zR)), (r31, .inl (q 1, 72, .inl zR)), (r39, .inl (q 1, 6, .inl zR)), (r47, .inl (q 0, 6, .inl zR)), (r56, .inl (q 0, 2400, .inl zR))] H := hP
  refine va_putF (v := .ref r56) (ty := .array .int) (C := RX0) (T := TX0) (N := 9) hx hb hts in_X0_init tyX0 tyX0_ok nmX0 hown hK.1 hP.1 hP.2 hS 0 rfl rfl 6 (by decide) (hts _ fl_X0_init_31) (fun _ h9 => h9) rfl hin rfl (by decide +kernel) rfl rfl (Nat.le_of_ble_eq_true rfl) dX0_init_58 (fun H locs hP hD hS => ?_)
  replace hP : kW D A [(z, .inr (1, [.ref r7, .ref r15, .ref r23, .ref r31, .ref r39, .ref r47, .ref r56, .null, .int 0])), (r7, .inl (q 0, 6, .inl zR)), (r15, .inl (q 0, 6, .inl zR)), (r23, .inl (q 0, 6, .inl zR)), (r31, .inl (q 1, 72, .inl zR)), (r39, .inl (q 1, 6, .inl zR)), (r47, .inl (q 0, 6, .inl zR)), (r56, .inl (q 0, 2400, .inl zR))] H := ⟨hP, hD⟩
  refine lv_aload_n hx hb dX0_init_61 rfl (lv_at hl 0 rfl) ?_
  refine lv_bipush (v := nI 50) hx hb dX0_init_62 (by decide) ?_
  refine k_newi (N := 50) hx hb (hts (.arrayClass .int) (by decide +kernel)) hK hP hS hA (Nat.le_of_ble_eq_true rfl) (Nat.le_of_ble_eq_true rfl) (Nat.le_of_ble_eq_true rfl) dX0_init_64 (fun r64 H hP hS => ?_)
  replace hP : kW D A [(z, .inr (1, [.ref r7, .ref r15, .ref r23, .ref r31, .ref r39, .ref r47, .ref r56, .null, .int 0])), (r7, .inl (q 0, 6, .inl zR)), (r15, .inl (q 0, 6, .inl zR)), (r23, .inl (q 0, 6, .inl zR)), (r31, .inl (q 1, 72, .inl zR)), (r39, .inl (q 1, 6, .inl zR)), (r47, .inl (q 0, 6, .inl zR)), (r56, .inl (q 0, 2400, .inl zR)), (r64, .inl (q 0, 50, .inl zR))] H := hP
  refine va_putF (v := .ref r64) (ty := .array .int) (C := RX0) (T := TX0) (N := 9) hx hb hts in_X0_init tyX0 tyX0_ok nmX0 hown hK.1 hP.1 hP.2 hS 0 rfl rfl 7 (by decide) (hts _ fl_X0_init_34) (fun _ h9 => h9) rfl hin rfl (by decide +kernel) rfl rfl (Nat.le_of_ble_eq_true rfl) dX0_init_66 (fun H locs hP hD hS => ?_)
  replace hP : kW D A [(z, .inr (1, [.ref r7, .ref r15, .ref r23, .ref r31, .ref r39, .ref r47, .ref r56, .ref r64, .int 0])), (r7, .inl (q 0, 6, .inl zR)), (r15, .inl (q 0, 6, .inl zR)), (r23, .inl (q 0, 6, .inl zR)), (r31, .inl (q 1, 72, .inl zR)), (r39, .inl (q 1, 6, .inl zR)), (r47, .inl (q 0, 6, .inl zR)), (r56, .inl (q 0, 2400, .inl zR)), (r64, .inl (q 0, 50, .inl zR))] H := ⟨hP, hD⟩
  refine lv_aload_n hx hb dX0_init_69 rfl (lv_at hl 0 rfl) ?_
  refine lv_iconst (v := nI 0) hx hb dX0_init_70 (by decide) ?_
  refine va_put (v := .int (nI 0)) (ty := .int) (C := RX0) (T := TX0) (N := 9) hx hb hts in_X0_init tyX0 tyX0_ok nmX0 hown hK.1 hP.1 hP.2 hS 0 rfl rfl 8 (by decide) (hts _ fl_X0_init_37) (fun _ h9 => h9) rfl (by decide +kernel) rfl rfl (Nat.le_of_ble_eq_true rfl) dX0_init_71 (fun H locs hP hD hS => ?_)
  replace hP : kW D A [(z, .inr (1, [.ref r7, .ref r15, .ref r23, .ref r31, .ref r39, .ref r47, .ref r56, .ref r64, .int (nI 0)])), (r7, .inl (q 0, 6, .inl zR)), (r15, .inl (q 0, 6, .inl zR)), (r23, .inl (q 0, 6, .inl zR)), (r31, .inl (q 1, 72, .inl zR)), (r39, .inl (q 1, 6, .inl zR)), (r47, .inl (q 0, 6, .inl zR)), (r56, .inl (q 0, 2400, .inl zR)), (r64, .inl (q 0, 50, .inl zR))] H := ⟨hP, hD⟩
  refine lv_aload_n hx hb dX0_init_74 rfl (lv_at hl 0 rfl) ?_
  refine va_get (D := D) (ci := 1) (v := .ref r7) (C := RX0) (T := TX0) (N := 9) hx hb hts in_X0_init hown hK.1 hP.1 0 rfl rfl 0 (by decide) (hts _ fl_X0_init_9) (fun _ h9 => h9) rfl dX0_init_75 ?_
  refine lv_bipush (v := nI 10) hx hb dX0_init_78 (by decide) ?_
  replace hP : kW D A ([(z, .inr (1, [.ref r7, .ref r15, .ref r23, .ref r31, .ref r39, .ref r47, .ref r56, .ref r64, .int (nI 0)])), (r15, .inl (q 0, 6, .inl zR)), (r23, .inl (q 0, 6, .inl zR)), (r31, .inl (q 1, 72, .inl zR)), (r39, .inl (q 1, 6, .inl zR)), (r47, .inl (q 0, 6, .inl zR)), (r56, .inl (q 0, 2400, .inl zR)), (r64, .inl (q 0, 50, .inl zR))] ++ [(r7, .inl (q 0, 6, .inl zR))]) H := ⟨hP.1.sub [0, 2, 3, 4, 5, 6, 7, 8, 1] rfl, hP.2.sub [0, 2, 3, 4, 5, 6, 7, 8, 1] rfl rfl⟩
  refine k_goNv hP hA hS (va_runS (rest := []) ⟨hx, hb, hml, hown, hts⟩ (c_J7_fill_53178 l D q (va_A [(r7, .inl (q 0, 6, .inl zR))] H.size) r7 (nI 10) zR) (va_cwS 2 hts gX0_init_J7_fill_53178 rfl rfl rfl (by decide +kernel) ⟨Nat.le_of_ble_eq_true rfl, Nat.le_of_ble_eq_true rfl⟩) ⟨kBN_blind, fun U hU hW => ⟨rfl, ⟨by rw [hU]; exact kW_cut hP, hK.warm hW⟩, fun z9 h9 => Or.inr (by rw [← hU]; exact h9)⟩⟩ rfl rfl hl.1 rfl (lv_room (Nat.le_of_ble_eq_true rfl)) dX0_init_80 ⟨Nat.le_of_ble_eq_true rfl, Nat.le_of_ble_eq_true rfl⟩) (fun f9 H locs hP hS => ?_)
  replace hP : kW D A [(z, .inr (1, [.ref r7, .ref r15, .ref r23, .ref r31, .ref r39, .ref r47, .ref r56, .ref r64, .int (nI 0)])), (r7, .inl (q 0, 6, .inl (flR zR (nI 10) 6))), (r15, .inl (q 0, 6, .inl zR)), (r23, .inl (q 0, 6, .inl zR)), (r31, .inl (q 1, 72, .inl zR)), (r39, .inl (q 1, 6, .inl zR)), (r47, .inl (q 0, 6, .inl zR)), (r56, .inl (q 0, 2400, .inl zR)), (r64, .inl (q 0, 50, .inl zR))] H := ⟨hP.1.sub [0, 8, 1, 2, 3, 4, 5, 6, 7] rfl, hP.2.sub [0, 8, 1, 2, 3, 4, 5, 6, 7] rfl rfl⟩
  exact k_vretN (w := fun f => wN0 q z f) (fun k => match k with | 18 => r7 | 19 => r15 | 20 => r23 | 21 => r31 | 22 => r39 | 23 => r47 | 24 => r56 | 25 => r64 | _ => 0) hx hb hr hlocks hP hS dX0_init_83
