/-- ends of the class constructor: the list lies on its empty row, the object where it was asked -/
def kRcz (D : va_G) (A : Nat → Prop) (e0 z : Nat) (w : (Nat → Nat) → va_W) : Array Value → State → Outcome → State → Prop := va_Qv (fun f : Nat → Nat => f 26 = e0 ∧ f 0 = z) (fun f t => kW D A (w f) t.heap) A
set_option maxHeartbeats 4000000 in
set_option maxRecDepth 100000 in
theorem c_Jxa1e45_init_da8c8 (l : Launch) (D : va_G) (q : Nat → ClassId) (A : Nat → Prop) (z : Nat) (w : va_W) : Met l yJxa1e45_init_da8c8 wsJxa1e45_init_da8c8 ({ frames := 1, cells := 0, slots := 0, locals := 64 } : Room) (va_Pc [.ref z] (kBN D q A (fun H => kW D A w H))) (kRn D A (fun _ => w)) 0 0 A := by
  refine Met.ofW (cc := cJxa1e45_init_da8c8) (maxL := 1) (ret := none) (by decide) rfl ?_
  intro p e u m args below meth c s₁ B hml0 hv
  obtain ⟨rfl, ⟨hP, hK⟩, hA⟩ := hv
  have hin : meth.name = "<init>" := (name_of_methodNamed B.named B.method).1
  have C0 : kAt p u m #[.ref z] meth c cJxa1e45_init_da8c8 1 none RJxa1e45 wsJxa1e45_init_da8c8 := kAt_of B hml0
  obtain ⟨hx, hb, hr, hml, hown, hts, hlocks⟩ := id C0
  have hS : va_S A u.heap u.heap [] := va_S.rf
  have hl := lv_entry ([.ref z]) (n := 1) (Nat.le_of_ble_eq_true rfl)
  rw [lg_entry_eq]
  generalize (lg_sl ([.ref z]) ++ List.replicate (1 - (lg_sl ([.ref z])).length) Slot.unset).toArray = ls at hl ⊢
  have hl : lv_has ls 1 [(0, .ref z)] := hl
  refine lv_aload_n hx hb dJxa1e45_init_da8c8_0 rfl (lv_at hl 0 rfl) ?_
  refine W.objInit hx hb hown (hts (.methodLink RJxa1e45 1 objectInit) (by decide +kernel)) (hts (.instanceMethod objectInit) (by decide +kernel)) (hts _ (List.mem_of_getElem? (i := 3) rfl)) rfl (by rw [hml]; exact hl.1) rfl dJxa1e45_init_da8c8_1 (Nat.le_of_ble_eq_true rfl) (Nat.le_of_ble_eq_true rfl) ?_
  refine W.eq (g2 := F0 m 4 ls []) rfl ?_
  exact k_vretN (w := fun _ => w) (fun _ => 0) hx hb hr hlocks hP hS dJxa1e45_init_da8c8_4
theorem in_Jxc12de_init_da8c8 : ∀ w ∈ u_ws RJx4a65c TJx4a65c 3, w ∈ wsJxc12de_init_da8c8 := by decide +kernel
set_option maxHeartbeats 4000000 in
set_option maxRecDepth 100000 in
theorem c_Jxc12de_init_da8c8 (l : Launch) (D : va_G) (q : Nat → ClassId) (A : Nat → Prop) (z : Nat) : Met l yJxc12de_init_da8c8 wsJxc12de_init_da8c8 ({ frames := 2, cells := 0, slots := 0, locals := 128 } : Room) (va_Pc [.ref z] (kBN D q A (fun H => kW D A [(z, .inr (0, [.int 0, .null, .int 0]))] H))) (kRn D A (fun _ => [(z, .inr (0, [.int 0, .null, .int 0]))])) 0 0 A := by
  refine Met.ofW (cc := cJxc12de_init_da8c8) (maxL := 1) (ret := none) (by decide) rfl ?_
  intro p e u m args below meth c s₁ B hml0 hv
  obtain ⟨rfl, ⟨hP, hK⟩, hA⟩ := hv
  have hin : meth.name = "<init>" := (name_of_methodNamed B.named B.method).1
  have C0 : kAt p u m #[.ref z] meth c cJxc12de_init_da8c8 1 none RJxc12de wsJxc12de_init_da8c8 := kAt_of B hml0
  obtain ⟨hx, hb, hr, hml, hown, hts, hlocks⟩ := id C0
  have hS : va_S A u.heap u.heap [] := va_S.rf
  have hl := lv_entry ([.ref z]) (n := 1) (Nat.le_of_ble_eq_true rfl)
  rw [lg_entry_eq]
  generalize (lg_sl ([.ref z]) ++ List.replicate (1 - (lg_sl ([.ref z])).length) Slot.unset).toArray = ls at hl ⊢
  have hl : lv_has ls 1 [(0, .ref z)] := hl
  refine lv_aload_n hx hb dJxc12de_init_da8c8_0 rfl (lv_at hl 0 rfl) ?_
  skip
  replace hP : kW D A ([] ++ [(z, .inr (0, [.int 0, .null, .int 0]))]) u.heap := hP
  refine k_goNv (H0 := u.heap) hP hA hS (va_runI (As := []) (rest := []) ⟨hx, hb, hml, hown, hts⟩ (c_Jxa1e45_init_da8c8 l D q (va_A [(z, .inr (0, [.int 0, .null, .int 0]))] u.heap.size) z [(z, .inr (0, [.int 0, .null, .int 0]))]) (cwI 0 hts gJxc12de_init_da8c8_Jxa1e45_init_da8c8 rfl rfl rfl (hts (.initialized RJxa1e45) (by decide +kernel)) (hts (.methodLink RJxc12de 1 yJxa1e45_init_da8c8) (by decide +kernel)) (hts (.instanceMethod yJxa1e45_init_da8c8) (by decide +kernel)) rfl (by decide +kernel) ⟨Nat.le_of_ble_eq_true rfl, Nat.le_of_ble_eq_true rfl⟩) ⟨kBN_blind, fun U hU hW => ⟨rfl, ⟨by rw [hU]; exact kW_cut hP, hK.warm hW⟩, fun z9 h9 => Or.inr (by rw [← hU]; exact h9)⟩⟩ rfl rfl hl.1 rfl (lv_room (Nat.le_of_ble_eq_true rfl)) dJxc12de_init_da8c8_1 ⟨Nat.le_of_ble_eq_true rfl, Nat.le_of_ble_eq_true rfl⟩) (fun f1 H locs hP hS => ?_)
  replace hP : kW D A [(z, .inr (0, [.int 0, .null, .int 0]))] H := hP
  refine lv_aload_n hx hb dJxc12de_init_da8c8_4 rfl (lv_at hl 0 rfl) ?_
  refine lv_iconst (v := nI 0) hx hb dJxc12de_init_da8c8_5 (by decide) ?_
  refine va_put (v := .int (nI 0)) (ty := .int) (C := RJx4a65c) (T := TJx4a65c) (N := 3) hx hb hts in_Jxc12de_init_da8c8 tyJx4a65c tyJx4a65c_ok nmJx4a65c hown hK.1 hP.1 hP.2 hS 0 rfl rfl 0 (by decide) (hts (.fieldLink RJxc12de 7 "java/util/AbstractList" "modCount" "I") (by decide +kernel)) (fun _ h9 => h9) rfl (by decide +kernel) rfl rfl (Nat.le_of_ble_eq_true rfl) dJxc12de_init_da8c8_6 (fun H locs hP hD hS => ?_)
  exact k_vretN (w := fun _ => [(z, .inr (0, [.int 0, .null, .int 0]))]) (fun _ => 0) hx hb hr hlocks ⟨hP, hD⟩ hS dJxc12de_init_da8c8_9
theorem in_Jx4a65c_init_da8c8 : ∀ w ∈ u_ws RJx4a65c TJx4a65c 3, w ∈ wsJx4a65c_init_da8c8 := by decide +kernel
set_option maxHeartbeats 4000000 in
set_option maxRecDepth 100000 in
theorem c_Jx4a65c_init_da8c8 (l : Launch) (D : va_G) (q : Nat → ClassId) (A : Nat → Prop) (z e0 : Nat) : Met l yJx4a65c_init_da8c8 wsJx4a65c_init_da8c8 ({ frames := 3, cells := 0, slots := 0, locals := 192 } : Room) (va_Pc [.ref z] (kBE D q A e0 (fun H => kW D A [(z, .inr (0, [.int 0, .null, .int 0]))] H))) (kRn D A (fun _ => [(z, .inr (0, [.int 0, .ref e0, .int 0]))])) 0 0 A := by
  refine Met.ofW (cc := cJx4a65c_init_da8c8) (maxL := 1) (ret := none) (by decide) rfl ?_
  intro p e u m args below meth c s₁ B hml0 hv
  obtain ⟨rfl, ⟨⟨hP, hK⟩, hA⟩, hZ⟩ := hv
  have hin : meth.name = "<init>" := (name_of_methodNamed B.named B.method).1
  have C0 : kAt p u m #[.ref z] meth c cJx4a65c_init_da8c8 1 none RJx4a65c wsJx4a65c_init_da8c8 := kAt_of B hml0
  obtain ⟨hx, hb, hr, hml, hown, hts, hlocks⟩ := id C0
  have hS : va_S A u.heap u.heap [] := va_S.rf
  have hl := lv_entry ([.ref z]) (n := 1) (Nat.le_of_ble_eq_true rfl)
  rw [lg_entry_eq]
  generalize (lg_sl ([.ref z]) ++ List.replicate (1 - (lg_sl ([.ref z])).length) Slot.unset).toArray = ls at hl ⊢
  have hl : lv_has ls 1 [(0, .ref z)] := hl
  refine lv_aload_n hx hb dJx4a65c_init_da8c8_0 rfl (lv_at hl 0 rfl) ?_
  replace hP : kW D A ([] ++ [(z, .inr (0, [.int 0, .null, .int 0]))]) u.heap := hP
  refine k_goNv (H0 := u.heap) hP hA hS (va_runI (As := []) (rest := []) ⟨hx, hb, hml, hown, hts⟩ (c_Jxc12de_init_da8c8 l D q (va_A [(z, .inr (0, [.int 0, .null, .int 0]))] u.heap.size) z) (cwI 0 hts gJx4a65c_init_da8c8_Jxc12de_init_da8c8 rfl rfl rfl (hts (.initialized RJxc12de) (by decide +kernel)) (hts (.methodLink RJx4a65c 1 yJxc12de_init_da8c8) (by decide +kernel)) (hts (.instanceMethod yJxc12de_init_da8c8) (by decide +kernel)) rfl (by decide +kernel) ⟨Nat.le_of_ble_eq_true rfl, Nat.le_of_ble_eq_true rfl⟩) ⟨kBN_blind, fun U hU hW => ⟨rfl, ⟨by rw [hU]; exact kW_cut hP, hK.warm hW⟩, fun z9 h9 => Or.inr (by rw [← hU]; exact h9)⟩⟩ rfl rfl hl.1 rfl (lv_room (Nat.le_of_ble_eq_true rfl)) dJx4a65c_init_da8c8_1 ⟨Nat.le_of_ble_eq_true rfl, Nat.le_of_ble_eq_true rfl⟩) (fun f1 H locs hP hS => ?_)
  replace hP : kW D A [(z, .inr (0, [.int 0, .null, .int 0]))] H := hP
  refine lv_aload_n hx hb dJx4a65c_init_da8c8_4 rfl (lv_at hl 0 rfl) ?_
  refine va_gets hx hb hZ hS hown (hts (.fieldLink RJx4a65c 39 "java/util/ArrayList" "DEFAULTCAPACITY_EMPTY_ELEMENTDATA" "[Ljava/lang/Object;") (by decide +kernel)) (fun _ h9 => h9) dJx4a65c_init_da8c8_5 ?_
  refine va_put (v := .ref e0) (ty := .array (.object "java/lang/Object")) (C := RJx4a65c) (T := TJx4a65c) (N := 3) hx hb hts in_Jx4a65c_init_da8c8 tyJx4a65c tyJx4a65c_ok nmJx4a65c hown hK.1 hP.1 hP.2 hS 0 rfl rfl 1 (by decide) (hts (.fieldLink RJx4a65c 9 "java/util/ArrayList" "elementData" "[Ljava/lang/Object;") (by decide +kernel)) (fun _ h9 => h9) rfl (by decide +kernel) rfl rfl (Nat.le_of_ble_eq_true rfl) dJx4a65c_init_da8c8_8 (fun H locs hP hD hS => ?_)
  exact k_vretN (w := fun _ => [(z, .inr (0, [.int 0, .ref e0, .int 0]))]) (fun _ => 0) hx hb hr hlocks ⟨hP, hD⟩ hS dJx4a65c_init_da8c8_11
theorem in_X4_init_X4 : ∀ w ∈ u_ws RX4 TX4 6, w ∈ wsX4_init := by decide +kernel
theorem in_X4_init_X3 : ∀ w ∈ u_ws RX3 TX3 5, w ∈ wsX4_init := by decide +kernel
theorem in_X4_init_X1 : ∀ w ∈ u_ws RX1 TX1 8, w ∈ wsX4_init := by decide +kernel
theorem in_X4_init_X0 : ∀ w ∈ u_ws RX0 TX0 9, w ∈ wsX4_init := by decide +kernel
theorem in_X4_init_Jx4a65c : ∀ w ∈ u_ws RJx4a65c TJx4a65c 3, w ∈ wsX4_init := by decide +kernel
set_option maxHeartbeats 4000000 in
set_option maxRecDepth 100000 in
theorem c_X4_init (l : Launch) (D : va_G) (q : Nat → ClassId) (A : Nat → Prop) (z e0 : Nat) : Met l yX4_init wsX4_init ({ frames := 5, cells := 25, slots := 12611, locals := 320 } : Room) (va_Pc [.ref z] (kBE D q A e0 (fun H => kW D A [(z, .inr (5, [.null, .null, .null, .null, .null, .int 0]))] H))) (kRcz D A e0 z (fun f => wC q f S0 0 0)) 25 12611 A := by
  refine Met.ofW (cc := cX4_init) (maxL := 1) (ret := none) (by decide) rfl ?_
  intro p e u m args below meth c s₁ B hml0 hv
  obtain ⟨rfl, ⟨⟨hP, hK⟩, hA⟩, hZ⟩ := hv
  have hin : meth.name = "<init>" := (name_of_methodNamed B.named B.method).1
  have C0 : kAt p u m #[.ref z] meth c cX4_init 1 none RX4 wsX4_init := kAt_of B hml0
  obtain ⟨hx, hb, hr, hml, hown, hts, hlocks⟩ := id C0
  have hS : va_S A u.heap u.heap [] := va_S.rf
  have hl := lv_entry ([.ref z]) (n := 1) (Nat.le_of_ble_eq_true rfl)
  rw [lg_entry_eq]
  generalize (lg_sl ([.ref z]) ++ List.replicate (1 - (lg_sl ([.ref z])).length) Slot.unset).toArray = ls at hl ⊢
  have hl : lv_has ls 1 [(0, .ref z)] := hl
  refine lv_aload_n hx hb dX4_init_0 rfl (lv_at hl 0 rfl) ?_
  refine W.objInit hx hb hown (hts (.methodLink RX4 3 objectInit) (by decide +kernel)) (hts (.instanceMethod objectInit) (by decide +kernel)) (hts _ (List.mem_of_getElem? (i := 3) rfl)) rfl (by rw [hml]; exact hl.1) rfl dX4_init_1 (Nat.le_of_ble_eq_true rfl) (Nat.le_of_ble_eq_true rfl) ?_
  refine W.eq (g2 := F0 m 4 ls []) rfl ?_
  refine lv_aload_n hx hb dX4_init_4 rfl (lv_at hl 0 rfl) ?_
  refine va_new (ci := 4) (fs := [.null, .null, .null, .null, .null]) (C := RX3) (T := TX3) (N := 5) hx hb hts in_X4_init_X3 tyX3 tyX3_ok hown (hts (.classLink RX4 9 RX3) (by decide +kernel)) (hts (.instantiable RX3 5) (by decide +kernel)) (hts (.initialized RX3) (by decide +kernel)) hK.1 hP.1 hP.2 hS hA rfl (fun j hj => by rcases (show j = 0 ∨ j = 1 ∨ j = 2 ∨ j = 3 ∨ j = 4 by omega) with rfl | rfl | rfl | rfl | rfl <;> rfl) (Nat.le_of_ble_eq_true rfl) (Nat.le_of_ble_eq_true rfl) dX4_init_5 (fun n4 H hP hD hS => ?_)
  replace hP : kW D A (((z, .inr (5, [.null, .null, .null, .null, .null, .int 0])) :: ([])) ++ [(n4, .inr (4, [.null, .null, .null, .null, .null]))]) H := ⟨hP, hD⟩
  refine lv_dup hx hb dX4_init_8 rfl ?_
  refine k_goNv (H0 := u.heap) hP hA hS (va_runIN (As := []) (rest := [.ref n4, .ref z]) ⟨hx, hb, hml, hown, hts⟩ (c_X3_init l D q (va_A [(n4, .inr (4, [.null, .null, .null, .null, .null]))] H.size) n4) ⟨va_cnB 0 hts gX4_init_X3_init_n11 rfl rfl rfl hK.2.2.2.2.1 (hts (.initialized RX3) (by decide +kernel)) (by decide +kernel) ⟨Nat.le_of_ble_eq_true rfl, Nat.le_of_ble_eq_true rfl⟩, rfl, hts (.instanceMethod yX3_init) (by decide +kernel)⟩ ⟨kBN_blind, fun U hU hW => ⟨rfl, ⟨by rw [hU]; exact kW_cut hP, hK.warm hW⟩, fun z9 h9 => Or.inr (by rw [← hU]; exact h9)⟩⟩ rfl rfl hl.1 rfl (lv_room (Nat.le_of_ble_eq_true rfl)) dX4_init_9 ⟨Nat.le_of_ble_eq_true rfl, Nat.le_of_ble_eq_true rfl⟩) (fun f4 H locs hP hS => ?_)
  replace hP : kW D A ((z, .inr (5, [.null, .null, .null, .null, .null, .int 0])) :: (wN3 q n4 f4)) H := hP
  refine va_putF (v := .ref n4) (ty := .object "LampCounts$Street") (C := RX4) (T := TX4) (N := 6) hx hb hts in_X4_init_X4 tyX4 tyX4_ok nmX4 hown hK.1 hP.1 hP.2 hS 0 rfl rfl 0 (by decide) (hts (.fieldLink RX4 12 "LampCounts" "street" "LLampCounts$Street;") (by decide +kernel)) (fun _ h9 => h9) rfl hin rfl (by decide +kernel) rfl rfl (Nat.le_of_ble_eq_true rfl) dX4_init_12 (fun H locs hP hD hS => ?_)
  replace hP : kW D A ((z, .inr (5, [.ref n4, .null, .null, .null, .null, .int 0])) :: (wN3 q n4 f4)) H := ⟨hP, hD⟩
  refine lv_aload_n hx hb dX4_init_15 rfl (lv_at hl 0 rfl) ?_
  refine va_new (ci := 2) (fs := [.null, .null, .null, .null, .null, .null, .null, .int 0]) (C := RX1) (T := TX1) (N := 8) hx hb hts in_X4_init_X1 tyX1 tyX1_ok hown (hts (.classLink RX4 16 RX1) (by decide +kernel)) (hts (.instantiable RX1 8) (by decide +kernel)) (hts (.initialized RX1) (by decide +kernel)) hK.1 hP.1 hP.2 hS hA rfl (fun j hj => by rcases (show j = 0 ∨ j = 1 ∨ j = 2 ∨ j = 3 ∨ j = 4 ∨ j = 5 ∨ j = 6 ∨ j = 7 by omega) with rfl | rfl | rfl | rfl | rfl | rfl | rfl | rfl <;> rfl) (Nat.le_of_ble_eq_true rfl) (Nat.le_of_ble_eq_true rfl) dX4_init_16 (fun n2 H hP hD hS => ?_)
  replace hP : kW D A (((z, .inr (5, [.ref n4, .null, .null, .null, .null, .int 0])) :: (wN3 q n4 f4)) ++ [(n2, .inr (2, [.null, .null, .null, .null, .null, .null, .null, .int 0]))]) H := ⟨hP, hD⟩
  refine lv_dup hx hb dX4_init_19 rfl ?_
  refine k_goNv (H0 := u.heap) hP hA hS (va_runIN (As := []) (rest := [.ref n2, .ref z]) ⟨hx, hb, hml, hown, hts⟩ (c_X1_init l D q (va_A [(n2, .inr (2, [.null, .null, .null, .null, .null, .null, .null, .int 0]))] H.size) n2) ⟨va_cnB 0 hts gX4_init_X1_init_n18 rfl rfl rfl hK.2.2.2.2.2 (hts (.initialized RX1) (by decide +kernel)) (by decide +kernel) ⟨Nat.le_of_ble_eq_true rfl, Nat.le_of_ble_eq_true rfl⟩, rfl, hts (.instanceMethod yX1_init) (by decide +kernel)⟩ ⟨kBN_blind, fun U hU hW => ⟨rfl, ⟨by rw [hU]; exact kW_cut hP, hK.warm hW⟩, fun z9 h9 => Or.inr (by rw [← hU]; exact h9)⟩⟩ rfl rfl hl.1 rfl (lv_room (Nat.le_of_ble_eq_true rfl)) dX4_init_20 ⟨Nat.le_of_ble_eq_true rfl, Nat.le_of_ble_eq_true rfl⟩) (fun f2 H locs hP hS => ?_)
  replace hP : kW D A ((z, .inr (5, [.ref n4, .null, .null, .null, .null, .int 0])) :: (wN3 q n4 f4 ++ wN1 q n2 f2)) H := hP
  refine va_putF (v := .ref n2) (ty := .object "LampCounts$Lamps") (C := RX4) (T := TX4) (N := 6) hx hb hts in_X4_init_X4 tyX4 tyX4_ok nmX4 hown hK.1 hP.1 hP.2 hS 0 rfl rfl 1 (by decide) (hts (.fieldLink RX4 19 "LampCounts" "lamps" "LLampCounts$Lamps;") (by decide +kernel)) (fun _ h9 => h9) rfl hin rfl (by decide +kernel) rfl rfl (Nat.le_of_ble_eq_true rfl) dX4_init_23 (fun H locs hP hD hS => ?_)
  replace hP : kW D A ((z, .inr (5, [.ref n4, .ref n2, .null, .null, .null, .int 0])) :: (wN3 q n4 f4 ++ wN1 q n2 f2)) H := ⟨hP, hD⟩
  refine lv_aload_n hx hb dX4_init_26 rfl (lv_at hl 0 rfl) ?_
  refine va_new (ci := 1) (fs := [.null, .null, .null, .null, .null, .null, .null, .null, .int 0]) (C := RX0) (T := TX0) (N := 9) hx hb hts in_X4_init_X0 tyX0 tyX0_ok hown (hts (.classLink RX4 23 RX0) (by decide +kernel)) (hts (.instantiable RX0 9) (by decide +kernel)) (hts (.initialized RX0) (by decide +kernel)) hK.1 hP.1 hP.2 hS hA rfl (fun j hj => by rcases (show j = 0 ∨ j = 1 ∨ j = 2 ∨ j = 3 ∨ j = 4 ∨ j = 5 ∨ j = 6 ∨ j = 7 ∨ j = 8 by omega) with rfl | rfl | rfl | rfl | rfl | rfl | rfl | rfl | rfl <;> rfl) (Nat.le_of_ble_eq_true rfl) (Nat.le_of_ble_eq_true rfl) dX4_init_27 (fun n1 H hP hD hS => ?_)
  replace hP : kW D A (((z, .inr (5, [.ref n4, .ref n2, .null, .null, .null, .int 0])) :: (wN3 q n4 f4 ++ wN1 q n2 f2)) ++ [(n1, .inr (1, [.null, .null, .null, .null, .null, .null, .null, .null, .int 0]))]) H := ⟨hP, hD⟩
  refine lv_dup hx hb dX4_init_30 rfl ?_
  refine k_goNv (H0 := u.heap) hP hA hS (va_runI (As := []) (rest := [.ref n1, .ref z]) ⟨hx, hb, hml, hown, hts⟩ (c_X0_init l D q (va_A [(n1, .inr (1, [.null, .null, .null, .null, .null, .null, .null, .null, .int 0]))] H.size) n1) (cwI 0 hts gX4_init_X0_init rfl rfl rfl (hts (.initialized RX0) (by decide +kernel)) (hts (.methodLink RX4 25 yX0_init) (by decide +kernel)) (hts (.instanceMethod yX0_init) (by decide +kernel)) rfl (by decide +kernel) ⟨Nat.le_of_ble_eq_true rfl, Nat.le_of_ble_eq_true rfl⟩) ⟨kBN_blind, fun U hU hW => ⟨rfl, ⟨by rw [hU]; exact kW_cut hP, hK.warm hW⟩, fun z9 h9 => Or.inr (by rw [← hU]; exact h9)⟩⟩ rfl rfl hl.1 rfl (lv_room (Nat.le_of_ble_eq_true rfl)) dX4_init_31 ⟨Nat.le_of_ble_eq_true rfl, Nat.le_of_ble_eq_true rfl⟩) (fun f1 H locs hP hS => ?_)
  replace hP : kW D A ((z, .inr (5, [.ref n4, .ref n2, .null, .null, .null, .int 0])) :: (wN3 q n4 f4 ++ wN1 q n2 f2 ++ wN0 q n1 f1)) H := hP
  refine va_putF (v := .ref n1) (ty := .object "LampCounts$Buskers") (C := RX4) (T := TX4) (N := 6) hx hb hts in_X4_init_X4 tyX4 tyX4_ok nmX4 hown hK.1 hP.1 hP.2 hS 0 rfl rfl 2 (by decide) (hts (.fieldLink RX4 26 "LampCounts" "buskers" "LLampCounts$Buskers;") (by decide +kernel)) (fun _ h9 => h9) rfl hin rfl (by decide +kernel) rfl rfl (Nat.le_of_ble_eq_true rfl) dX4_init_34 (fun H locs hP hD hS => ?_)
  replace hP : kW D A ((z, .inr (5, [.ref n4, .ref n2, .ref n1, .null, .null, .int 0])) :: (wN3 q n4 f4 ++ wN1 q n2 f2 ++ wN0 q n1 f1)) H := ⟨hP, hD⟩
  refine lv_aload_n hx hb dX4_init_37 rfl (lv_at hl 0 rfl) ?_
  refine va_new (ci := 0) (fs := [.int 0, .null, .int 0]) (C := RJx4a65c) (T := TJx4a65c) (N := 3) hx hb hts in_X4_init_Jx4a65c tyJx4a65c tyJx4a65c_ok hown (hts (.classLink RX4 30 RJx4a65c) (by decide +kernel)) (hts (.instantiable RJx4a65c 3) (by decide +kernel)) (hts (.initialized RJx4a65c) (by decide +kernel)) hK.1 hP.1 hP.2 hS hA rfl (fun j hj => by rcases (show j = 0 ∨ j = 1 ∨ j = 2 by omega) with rfl | rfl | rfl <;> rfl) (Nat.le_of_ble_eq_true rfl) (Nat.le_of_ble_eq_true rfl) dX4_init_38 (fun n0 H hP hD hS => ?_)
  replace hP : kW D A (((z, .inr (5, [.ref n4, .ref n2, .ref n1, .null, .null, .int 0])) :: (wN3 q n4 f4 ++ wN1 q n2 f2 ++ wN0 q n1 f1)) ++ [(n0, .inr (0, [.int 0, .null, .int 0]))]) H := ⟨hP, hD⟩
  refine lv_dup hx hb dX4_init_41 rfl ?_
  refine k_goNv (H0 := u.heap) hP hA hS (va_runI (As := []) (rest := [.ref n0, .ref z]) ⟨hx, hb, hml, hown, hts⟩ (c_Jx4a65c_init_da8c8 l D q (va_A [(n0, .inr (0, [.int 0, .null, .int 0]))] H.size) n0 e0) (cwI 0 hts gX4_init_Jx4a65c_init_da8c8 rfl rfl rfl (hts (.initialized RJx4a65c) (by decide +kernel)) (hts (.methodLink RX4 32 yJx4a65c_init_da8c8) (by decide +kernel)) (hts (.instanceMethod yJx4a65c_init_da8c8) (by decide +kernel)) rfl (by decide +kernel) ⟨Nat.le_of_ble_eq_true rfl, Nat.le_of_ble_eq_true rfl⟩) ⟨kBE_blind, fun U hU hW => ⟨rfl, ⟨⟨by rw [hU]; exact kW_cut hP, hK.warm hW⟩, fun z9 h9 => Or.inr (by rw [← hU]; exact h9)⟩, by rw [hU]; exact ((hZ.kept hS.2.1).moved hW.alike).narrow (kW_sub hP (fun z9 h9 => hA z9 (Nat.le_trans hS.1 h9)))⟩⟩ rfl rfl hl.1 rfl (lv_room (Nat.le_of_ble_eq_true rfl)) dX4_init_42 ⟨Nat.le_of_ble_eq_true rfl, Nat.le_of_ble_eq_true rfl⟩) (fun f0 H locs hP hS => ?_)
  replace hP : kW D A ((z, .inr (5, [.ref n4, .ref n2, .ref n1, .null, .null, .int 0])) :: (wN3 q n4 f4 ++ wN1 q n2 f2 ++ wN0 q n1 f1 ++ [(n0, .inr (0, [.int 0, .ref e0, .int 0]))])) H := hP
  refine va_putF (v := .ref n0) (ty := .object "java/util/ArrayList") (C := RX4) (T := TX4) (N := 6) hx hb hts in_X4_init_X4 tyX4 tyX4_ok nmX4 hown hK.1 hP.1 hP.2 hS 0 rfl rfl 3 (by decide) (hts (.fieldLink RX4 33 "LampCounts" "made" "Ljava/util/ArrayList;") (by decide +kernel)) (fun _ h9 => h9) rfl hin rfl (by decide +kernel) rfl rfl (Nat.le_of_ble_eq_true rfl) dX4_init_45 (fun H locs hP hD hS => ?_)
  replace hP : kW D A ((z, .inr (5, [.ref n4, .ref n2, .ref n1, .ref n0, .null, .int 0])) :: (wN3 q n4 f4 ++ wN1 q n2 f2 ++ wN0 q n1 f1 ++ [(n0, .inr (0, [.int 0, .ref e0, .int 0]))])) H := ⟨hP, hD⟩
  refine lv_aload_n hx hb dX4_init_48 rfl (lv_at hl 0 rfl) ?_
  refine lv_bipush (v := nI 6) hx hb dX4_init_49 (by decide) ?_
  refine k_newi (N := 6) hx hb (hts (.arrayClass .int) (by decide +kernel)) hK hP hS hA (Nat.le_of_ble_eq_true rfl) (Nat.le_of_ble_eq_true rfl) (Nat.le_of_ble_eq_true rfl) dX4_init_51 (fun r5 H hP hS => ?_)
  replace hP : kW D A ((z, .inr (5, [.ref n4, .ref n2, .ref n1, .ref n0, .null, .int 0])) :: (wN3 q n4 f4 ++ wN1 q n2 f2 ++ wN0 q n1 f1 ++ [(n0, .inr (0, [.int 0, .ref e0, .int 0]))] ++ [(r5, .inl (q 0, 6, .inl zR))])) H := hP
  refine va_putF (v := .ref r5) (ty := .array .int) (C := RX4) (T := TX4) (N := 6) hx hb hts in_X4_init_X4 tyX4 tyX4_ok nmX4 hown hK.1 hP.1 hP.2 hS 0 rfl rfl 4 (by decide) (hts (.fieldLink RX4 37 "LampCounts" "paid" "[I") (by decide +kernel)) (fun _ h9 => h9) rfl hin rfl (by decide +kernel) rfl rfl (Nat.le_of_ble_eq_true rfl) dX4_init_53 (fun H locs hP hD hS => ?_)
  replace hP : kW D A ((z, .inr (5, [.ref n4, .ref n2, .ref n1, .ref n0, .ref r5, .int 0])) :: (wN3 q n4 f4 ++ wN1 q n2 f2 ++ wN0 q n1 f1 ++ [(n0, .inr (0, [.int 0, .ref e0, .int 0]))] ++ [(r5, .inl (q 0, 6, .inl zR))])) H := ⟨hP, hD⟩
  refine lv_aload_n hx hb dX4_init_56 rfl (lv_at hl 0 rfl) ?_
  refine lv_iconst (v := nI 0) hx hb dX4_init_57 (by decide) ?_
  refine va_put (v := .int (nI 0)) (ty := .int) (C := RX4) (T := TX4) (N := 6) hx hb hts in_X4_init_X4 tyX4 tyX4_ok nmX4 hown hK.1 hP.1 hP.2 hS 0 rfl rfl 5 (by decide) (hts (.fieldLink RX4 41 "LampCounts" "now" "I") (by decide +kernel)) (fun _ h9 => h9) rfl (by decide +kernel) rfl rfl (Nat.le_of_ble_eq_true rfl) dX4_init_58 (fun H locs hP hD hS => ?_)
  replace hP : kW D A ((z, .inr (5, [.ref n4, .ref n2, .ref n1, .ref n0, .ref r5, .int (nI 0)])) :: (wN3 q n4 f4 ++ wN1 q n2 f2 ++ wN0 q n1 f1 ++ [(n0, .inr (0, [.int 0, .ref e0, .int 0]))] ++ [(r5, .inl (q 0, 6, .inl zR))])) H := ⟨hP, hD⟩
  have hQ : kW D A (wC q (fun k => match k with | 0 => z | 1 => n4 | 2 => n2 | 3 => n1 | 4 => n0 | 5 => r5 | 6 => f4 6 | 7 => f4 7 | 8 => f4 8 | 9 => f4 9 | 10 => f4 10 | 11 => f2 11 | 12 => f2 12 | 13 => f2 13 | 14 => f2 14 | 15 => f2 15 | 16 => f2 16 | 17 => f2 17 | 18 => f1 18 | 19 => f1 19 | 20 => f1 20 | 21 => f1 21 | 22 => f1 22 | 23 => f1 23 | 24 => f1 24 | 25 => f1 25 | 26 => e0 | _ => 0) S0 0 0) H := ⟨hP.1.sub [0, 1, 7, 15, 24, 25, 2, 3, 4, 5, 6, 8, 9, 10, 11, 12, 13, 14, 16, 17, 18, 19, 20, 21, 22, 23] rfl, hP.2.sub [0, 1, 7, 15, 24, 25, 2, 3, 4, 5, 6, 8, 9, 10, 11, 12, 13, 14, 16, 17, 18, 19, 20, 21, 22, 23] rfl rfl⟩
  exact W.vret hx hb hr (fun t ht _ => ⟨⟨(fun k => match k with | 0 => z | 1 => n4 | 2 => n2 | 3 => n1 | 4 => n0 | 5 => r5 | 6 => f4 6 | 7 => f4 7 | 8 => f4 8 | 9 => f4 9 | 10 => f4 10 | 11 => f2 11 | 12 => f2 12 | 13 => f2 13 | 14 => f2 14 | 15 => f2 15 | 16 => f2 16 | 17 => f2 17 | 18 => f1 18 | 19 => f1 19 | 20 => f1 20 | 21 => f1 21 | 22 => f1 22 | 23 => f1 23 | 24 => f1 24 | 25 => f1 25 | 26 => e0 | _ => 0), rfl, ⟨rfl, rfl⟩, by show kW D A (wC q _ S0 0 0) t.heap; rw [ht]; exact hQ⟩, hS.F ht⟩) hS.2.2 dX4_init_61 hlocks
