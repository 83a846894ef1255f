theorem in_Jx4a65c_add_9ea2d : ∀ w ∈ u_ws RJx4a65c TJx4a65c 3, w ∈ wsJx4a65c_add_9ea2d := by decide +kernel
set_option maxHeartbeats 4000000 in
set_option maxRecDepth 100000 in
theorem c_Jx4a65c_add_9ea2d (l : Launch) (D : va_G) (q : Nat → ClassId) (A : Nat → Prop) (a : Nat → Nat) (S : Nat → Nat → Int32) (cap nl e0 : Nat) (hg : (cap = 0 ∧ a 26 = e0) ∨ capP cap) (hnl : nl ≤ cap) (hn30 : nl < 30) : Met l yJx4a65c_add_9ea2d wsJx4a65c_add_9ea2d ({ frames := 6, cells := 1, slots := 40, locals := 384 } : Room) (va_Pc [.ref (a 4), .ref (a (100 + nl))] (kBF D q A e0 (fun H => kW D A (wA q a S cap nl ++ [wLs a S nl]) H))) (kRz D q A a (up S 0 3 (S 0 3 + nI 1)) nl) 1 40 A := by
  refine Met.ofW (cc := cJx4a65c_add_9ea2d) (maxL := 2) (ret := (some .boolean)) (by decide) rfl ?_
  intro p e u m args below meth c s₁ B hml0 hv
  obtain ⟨rfl, ⟨⟨hP, hK⟩, hA⟩, hE⟩ := hv
  have C0 : kAt p u m #[.ref (a 4), .ref (a (100 + nl))] meth c cJx4a65c_add_9ea2d 2 (some .boolean) RJx4a65c wsJx4a65c_add_9ea2d := kAt_of B hml0
  obtain ⟨hx, hb, hr, hml, hown, hts, hlocks⟩ := id C0
  have hS : va_S A u.heap u.heap [] := va_S.rf
  have hl := lv_entry ([.ref (a 4), .ref (a (100 + nl))]) (n := 2) (Nat.le_of_ble_eq_true rfl)
  rw [lg_entry_eq]
  generalize (lg_sl ([.ref (a 4), .ref (a (100 + nl))]) ++ List.replicate (2 - (lg_sl ([.ref (a 4), .ref (a (100 + nl))])).length) Slot.unset).toArray = ls at hl ⊢
  have hl : lv_has ls 2 [(0, .ref (a 4)), (1, .ref (a (100 + nl)))] := hl
  refine lv_aload_n hx hb dJx4a65c_add_9ea2d_0 rfl (lv_at hl 0 rfl) ?_
  refine lv_dup hx hb dJx4a65c_add_9ea2d_1 rfl ?_
  refine va_get (D := D) (ci := 0) (v := .int (S 0 3)) (C := RJx4a65c) (T := TJx4a65c) (N := 3) hx hb hts in_Jx4a65c_add_9ea2d hown hK.1 hP.1 0 rfl rfl 0 (by decide) (hts (.fieldLink RJx4a65c 63 "java/util/ArrayList" "modCount" "I") (by decide +kernel)) (u_same (hts (.sameField "java/util/ArrayList" "java/util/AbstractList" "modCount" "I") (by decide +kernel))) rfl dJx4a65c_add_9ea2d_2 ?_
  refine lv_iconst (v := nI 1) hx hb dJx4a65c_add_9ea2d_5 (by decide) ?_
  refine lv_iadd hx hb dJx4a65c_add_9ea2d_6 ?_
  refine va_put (v := .int (S 0 3 + nI 1)) (ty := .int) (C := RJx4a65c) (T := TJx4a65c) (N := 3) hx hb hts in_Jx4a65c_add_9ea2d tyJx4a65c tyJx4a65c_ok nmJx4a65c hown hK.1 hP.1 hP.2 hS 0 rfl rfl 0 (by decide) (hts (.fieldLink RJx4a65c 63 "java/util/ArrayList" "modCount" "I") (by decide +kernel)) (u_same (hts (.sameField "java/util/ArrayList" "java/util/AbstractList" "modCount" "I") (by decide +kernel))) rfl (by decide +kernel) rfl rfl (Nat.le_of_ble_eq_true rfl) dJx4a65c_add_9ea2d_7 (fun H locs hP9 hD9 hS => ?_)
  have hP : kW D A (wA q a (up S 0 3 (S 0 3 + nI 1)) cap nl ++ [wLs a (up S 0 3 (S 0 3 + nI 1)) nl]) H := by rw [wA_m, wLs_m]; exact ⟨hP9, hD9⟩
  refine lv_aload_n hx hb dJx4a65c_add_9ea2d_10 rfl (lv_at hl 0 rfl) ?_
  refine lv_aload_n hx hb dJx4a65c_add_9ea2d_11 rfl (lv_at hl 1 rfl) ?_
  refine lv_aload_n hx hb dJx4a65c_add_9ea2d_12 rfl (lv_at hl 0 rfl) ?_
  refine va_get (D := D) (ci := 0) (v := .ref (a 26)) (C := RJx4a65c) (T := TJx4a65c) (N := 3) hx hb hts in_Jx4a65c_add_9ea2d hown hK.1 hP.1 0 rfl rfl 1 (by decide) (hts (.fieldLink RJx4a65c 9 "java/util/ArrayList" "elementData" "[Ljava/lang/Object;") (by decide +kernel)) (fun _ h9 => h9) rfl dJx4a65c_add_9ea2d_13 ?_
  refine lv_aload_n hx hb dJx4a65c_add_9ea2d_16 rfl (lv_at hl 0 rfl) ?_
  refine va_get (D := D) (ci := 0) (v := .int (nI nl)) (C := RJx4a65c) (T := TJx4a65c) (N := 3) hx hb hts in_Jx4a65c_add_9ea2d hown hK.1 hP.1 0 rfl rfl 2 (by decide) (hts (.fieldLink RJx4a65c 48 "java/util/ArrayList" "size" "I") (by decide +kernel)) (fun _ h9 => h9) rfl dJx4a65c_add_9ea2d_17 ?_
  refine k_goT (H0 := u.heap) (wo := []) (w := (wA q a (up S 0 3 (S 0 3 + nI 1)) cap nl ++ [wLs a (up S 0 3 (S 0 3 + nI 1)) nl])) hP hA hS (va_runV (rest := []) ⟨hx, hb, hml, hown, hts⟩ (c_Jx4a65c_add_72be8 l D q (va_A (wA q a (up S 0 3 (S 0 3 + nI 1)) cap nl ++ [wLs a (up S 0 3 (S 0 3 + nI 1)) nl]) H.size) a (up S 0 3 (S 0 3 + nI 1)) cap nl e0 hg hnl hn30) (cwV 3 hts gJx4a65c_add_9ea2d_Jx4a65c_add_72be8 rfl rfl rfl (by decide +kernel) ⟨Nat.le_of_ble_eq_true rfl, Nat.le_of_ble_eq_true rfl⟩) ⟨kBF_blind, (va_recv hK.1 hP.1 (ci := 0) (q0 := 0) rfl rfl), fun U hU hW => ⟨rfl, ⟨⟨by rw [hU]; exact kW_cut (wo := []) hP, hK.warm hW⟩, fun z9 h9 => Or.inr (by rw [← hU]; exact h9)⟩, (hE.at hS hU hW).narrow (kW_sub (wo := []) hP (fun z9 h9 => hA z9 (Nat.le_trans hS.1 h9)))⟩⟩ rfl rfl hl.1 rfl (lv_room (Nat.le_of_ble_eq_true rfl)) dJx4a65c_add_9ea2d_20 ⟨Nat.le_of_ble_eq_true rfl, Nat.le_of_ble_eq_true rfl⟩) (fun x H locs hp hP hS => ?_)
  refine lv_iconst (v := nI 1) hx hb dJx4a65c_add_9ea2d_23 (by decide) ?_
  exact W.zret hx hb hr rfl (fun t ht _ => ⟨⟨nI 1, x, rfl, ⟨rfl, hp⟩, by show kW D A _ t.heap; rw [ht]; exact hP⟩, hS.F ht⟩) hS.2.2 dJx4a65c_add_9ea2d_24 hlocks
theorem in_X2_init : ∀ w ∈ u_ws RX2 TX2 9, w ∈ wsX2_init := by decide +kernel
set_option maxHeartbeats 4000000 in
set_option maxRecDepth 100000 in
theorem c_X2_init (l : Launch) (D : va_G) (q : Nat → ClassId) (A : Nat → Prop) (z : Nat) (d t b r f y : Int32) : Met l yX2_init wsX2_init ({ frames := 1, cells := 0, slots := 0, locals := 64 } : Room) (va_Pc [.ref z, .int d, .int t, .int b, .int r, .int f, .int y] (kBN D q A (fun H => kW D A [(z, .inr (3, [.int 0, .int 0, .int 0, .int 0, .int 0, .int 0, .int 0, .int 0, .int 0]))] H))) (kRn D A (fun _ => [(z, .inr (3, [.int d, .int (d / nI 3), .int t, .int b, .int r, .int f, .int y, .int (nI 0), .int (nI 0)]))])) 0 0 A := by
  refine Met.ofW (cc := cX2_init) (maxL := 7) (ret := none) (by decide) rfl ?_
  intro p e u m args below meth c s₁ B hml0 hv
  obtain ⟨rfl, ⟨hP, hK⟩, hA⟩ := hv
  have hin : meth.name = "<init>" := (name_of_methodNamed B.named B.method).1
  have C0 : kAt p u m #[.ref z, .int d, .int t, .int b, .int r, .int f, .int y] meth c cX2_init 7 none RX2 wsX2_init := kAt_of B hml0
  obtain ⟨hx, hb, hr, hml, hown, hts, hlocks⟩ := id C0
  have hS : va_S A u.heap u.heap [] := va_S.rf
  have hl := lv_entry ([.ref z, .int d, .int t, .int b, .int r, .int f, .int y]) (n := 7) (Nat.le_of_ble_eq_true rfl)
  rw [lg_entry_eq]
  generalize (lg_sl ([.ref z, .int d, .int t, .int b, .int r, .int f, .int y]) ++ List.replicate (7 - (lg_sl ([.ref z, .int d, .int t, .int b, .int r, .int f, .int y])).length) Slot.unset).toArray = ls at hl ⊢
  have hl : lv_has ls 7 [(0, .ref z), (1, .int d), (2, .int t), (3, .int b), (4, .int r), (5, .int f), (6, .int y)] := hl
  refine lv_aload_n hx hb dX2_init_0 rfl (lv_at hl 0 rfl) ?_
  refine W.objInit hx hb hown (hts (.methodLink RX2 3 objectInit) (by decide +kernel)) (hts (.instanceMethod objectInit) (by decide +kernel)) (hts _ (List.mem_of_getElem? (i := 3) rfl)) rfl (by rw [hml]; exact hl.1) rfl dX2_init_1 (Nat.le_of_ble_eq_true rfl) (Nat.le_of_ble_eq_true rfl) ?_
  refine W.eq (g2 := F0 m 4 ls []) rfl ?_
  refine lv_aload_n hx hb dX2_init_4 rfl (lv_at hl 0 rfl) ?_
  refine lv_iconst (v := nI 0) hx hb dX2_init_5 (by decide) ?_
  refine va_put (v := .int (nI 0)) (ty := .int) (C := RX2) (T := TX2) (N := 9) hx hb hts in_X2_init tyX2 tyX2_ok nmX2 hown hK.1 hP.1 hP.2 hS 0 rfl rfl 7 (by decide) (hts (.fieldLink RX2 9 "LampCounts$Lease" "bill" "I") (by decide +kernel)) (fun _ h9 => h9) rfl (by decide +kernel) rfl rfl (Nat.le_of_ble_eq_true rfl) dX2_init_6 (fun H locs hP hD hS => ?_)
  replace hP : kW D A [(z, .inr (3, [.int 0, .int 0, .int 0, .int 0, .int 0, .int 0, .int 0, .int (nI 0), .int 0]))] H := ⟨hP, hD⟩
  refine lv_aload_n hx hb dX2_init_9 rfl (lv_at hl 0 rfl) ?_
  refine lv_iconst (v := nI 0) hx hb dX2_init_10 (by decide) ?_
  refine va_put (v := .int (nI 0)) (ty := .int) (C := RX2) (T := TX2) (N := 9) hx hb hts in_X2_init tyX2 tyX2_ok nmX2 hown hK.1 hP.1 hP.2 hS 0 rfl rfl 8 (by decide) (hts (.fieldLink RX2 15 "LampCounts$Lease" "corrections" "I") (by decide +kernel)) (fun _ h9 => h9) rfl (by decide +kernel) rfl rfl (Nat.le_of_ble_eq_true rfl) dX2_init_11 (fun H locs hP hD hS => ?_)
  replace hP : kW D A [(z, .inr (3, [.int 0, .int 0, .int 0, .int 0, .int 0, .int 0, .int 0, .int (nI 0), .int (nI 0)]))] H := ⟨hP, hD⟩
  refine lv_aload_n hx hb dX2_init_14 rfl (lv_at hl 0 rfl) ?_
  refine lv_iload_n hx hb dX2_init_15 rfl (lv_at hl 1 rfl) ?_
  refine va_putF (v := .int (d)) (ty := .int) (C := RX2) (T := TX2) (N := 9) hx hb hts in_X2_init tyX2 tyX2_ok nmX2 hown hK.1 hP.1 hP.2 hS 0 rfl rfl 0 (by decide) (hts (.fieldLink RX2 18 "LampCounts$Lease" "door" "I") (by decide +kernel)) (fun _ h9 => h9) rfl hin rfl (by decide +kernel) rfl rfl (Nat.le_of_ble_eq_true rfl) dX2_init_16 (fun H locs hP hD hS => ?_)
  replace hP : kW D A [(z, .inr (3, [.int (d), .int 0, .int 0, .int 0, .int 0, .int 0, .int 0, .int (nI 0), .int (nI 0)]))] H := ⟨hP, hD⟩
  refine lv_aload_n hx hb dX2_init_19 rfl (lv_at hl 0 rfl) ?_
  refine lv_iload_n hx hb dX2_init_20 rfl (lv_at hl 1 rfl) ?_
  refine lv_iconst (v := nI 3) hx hb dX2_init_21 (by decide) ?_
  refine lv_idiv hx hb dX2_init_22 (by decide) ?_
  refine va_putF (v := .int ((d / nI 3))) (ty := .int) (C := RX2) (T := TX2) (N := 9) hx hb hts in_X2_init tyX2 tyX2_ok nmX2 hown hK.1 hP.1 hP.2 hS 0 rfl rfl 1 (by decide) (hts (.fieldLink RX2 21 "LampCounts$Lease" "section" "I") (by decide +kernel)) (fun _ h9 => h9) rfl hin rfl (by decide +kernel) rfl rfl (Nat.le_of_ble_eq_true rfl) dX2_init_23 (fun H locs hP hD hS => ?_)
  replace hP : kW D A [(z, .inr (3, [.int (d), .int ((d / nI 3)), .int 0, .int 0, .int 0, .int 0, .int 0, .int (nI 0), .int (nI 0)]))] H := ⟨hP, hD⟩
  refine lv_aload_n hx hb dX2_init_26 rfl (lv_at hl 0 rfl) ?_
  refine lv_iload_n hx hb dX2_init_27 rfl (lv_at hl 2 rfl) ?_
  refine va_putF (v := .int (t)) (ty := .int) (C := RX2) (T := TX2) (N := 9) hx hb hts in_X2_init tyX2 tyX2_ok nmX2 hown hK.1 hP.1 hP.2 hS 0 rfl rfl 2 (by decide) (hts (.fieldLink RX2 24 "LampCounts$Lease" "tenant" "I") (by decide +kernel)) (fun _ h9 => h9) rfl hin rfl (by decide +kernel) rfl rfl (Nat.le_of_ble_eq_true rfl) dX2_init_28 (fun H locs hP hD hS => ?_)
  replace hP : kW D A [(z, .inr (3, [.int (d), .int ((d / nI 3)), .int (t), .int 0, .int 0, .int 0, .int 0, .int (nI 0), .int (nI 0)]))] H := ⟨hP, hD⟩
  refine lv_aload_n hx hb dX2_init_31 rfl (lv_at hl 0 rfl) ?_
  refine lv_iload_n hx hb dX2_init_32 rfl (lv_at hl 3 rfl) ?_
  refine va_putF (v := .int (b)) (ty := .int) (C := RX2) (T := TX2) (N := 9) hx hb hts in_X2_init tyX2 tyX2_ok nmX2 hown hK.1 hP.1 hP.2 hS 0 rfl rfl 3 (by decide) (hts (.fieldLink RX2 27 "LampCounts$Lease" "base" "I") (by decide +kernel)) (fun _ h9 => h9) rfl hin rfl (by decide +kernel) rfl rfl (Nat.le_of_ble_eq_true rfl) dX2_init_33 (fun H locs hP hD hS => ?_)
  replace hP : kW D A [(z, .inr (3, [.int (d), .int ((d / nI 3)), .int (t), .int (b), .int 0, .int 0, .int 0, .int (nI 0), .int (nI 0)]))] H := ⟨hP, hD⟩
  refine lv_aload_n hx hb dX2_init_36 rfl (lv_at hl 0 rfl) ?_
  refine lv_iload hx hb dX2_init_37 (lv_at hl 4 rfl) ?_
  refine va_putF (v := .int (r)) (ty := .int) (C := RX2) (T := TX2) (N := 9) hx hb hts in_X2_init tyX2 tyX2_ok nmX2 hown hK.1 hP.1 hP.2 hS 0 rfl rfl 4 (by decide) (hts (.fieldLink RX2 30 "LampCounts$Lease" "rate" "I") (by decide +kernel)) (fun _ h9 => h9) rfl hin rfl (by decide +kernel) rfl rfl (Nat.le_of_ble_eq_true rfl) dX2_init_39 (fun H locs hP hD hS => ?_)
  replace hP : kW D A [(z, .inr (3, [.int (d), .int ((d / nI 3)), .int (t), .int (b), .int (r), .int 0, .int 0, .int (nI 0), .int (nI 0)]))] H := ⟨hP, hD⟩
  refine lv_aload_n hx hb dX2_init_42 rfl (lv_at hl 0 rfl) ?_
  refine lv_iload hx hb dX2_init_43 (lv_at hl 5 rfl) ?_
  refine va_putF (v := .int (f)) (ty := .int) (C := RX2) (T := TX2) (N := 9) hx hb hts in_X2_init tyX2 tyX2_ok nmX2 hown hK.1 hP.1 hP.2 hS 0 rfl rfl 5 (by decide) (hts (.fieldLink RX2 33 "LampCounts$Lease" "start" "I") (by decide +kernel)) (fun _ h9 => h9) rfl hin rfl (by decide +kernel) rfl rfl (Nat.le_of_ble_eq_true rfl) dX2_init_45 (fun H locs hP hD hS => ?_)
  replace hP : kW D A [(z, .inr (3, [.int (d), .int ((d / nI 3)), .int (t), .int (b), .int (r), .int (f), .int 0, .int (nI 0), .int (nI 0)]))] H := ⟨hP, hD⟩
  refine lv_aload_n hx hb dX2_init_48 rfl (lv_at hl 0 rfl) ?_
  refine lv_iload hx hb dX2_init_49 (lv_at hl 6 rfl) ?_
  refine va_put (v := .int (y)) (ty := .int) (C := RX2) (T := TX2) (N := 9) hx hb hts in_X2_init tyX2 tyX2_ok nmX2 hown hK.1 hP.1 hP.2 hS 0 rfl rfl 6 (by decide) (hts (.fieldLink RX2 36 "LampCounts$Lease" "end" "I") (by decide +kernel)) (fun _ h9 => h9) rfl (by decide +kernel) rfl rfl (Nat.le_of_ble_eq_true rfl) dX2_init_51 (fun H locs hP hD hS => ?_)
  replace hP : kW D A [(z, .inr (3, [.int (d), .int ((d / nI 3)), .int (t), .int (b), .int (r), .int (f), .int (y), .int (nI 0), .int (nI 0)]))] H := ⟨hP, hD⟩
  exact k_vretN (w := fun _ => [(z, .inr (3, [.int d, .int (d / nI 3), .int t, .int b, .int r, .int f, .int y, .int (nI 0), .int (nI 0)]))]) (fun _ => 0) hx hb hr hlocks hP hS dX2_init_54
theorem k_dh {b : Bool} : (if b = true then nI 1 else nI 0) = 0 ↔ ¬ b = true := by
  cases b
  · exact ⟨fun _ => by decide, fun _ => by decide⟩
  · exact ⟨fun h => absurd h (by decide), fun h => absurd rfl h⟩
theorem fl_X4_lease_33 : Cond.fieldLink RX4 33 "LampCounts" "made" "Ljava/util/ArrayList;" ∈ wsX4_lease := by decide +kernel
theorem in_X4_lease_X2 : ∀ w ∈ u_ws RX2 TX2 9, w ∈ wsX4_lease := by decide +kernel
theorem in_X4_lease_X4 : ∀ w ∈ u_ws RX4 TX4 6, w ∈ wsX4_lease := by decide +kernel
set_option maxHeartbeats 4000000 in
set_option maxRecDepth 100000 in
theorem c_X4_lease (l : Launch) (hl0 : l.stackTraces = false) (D : va_G) (q : Nat → ClassId) (A : Nat → Prop) (a : Nat → Nat) (S : Nat → Nat → Int32) (cap nl : Nat) (d t b r h : Int32) (w0 e0 : Nat) (hnl : nl ≤ cap ∧ cap ≤ 40 ∧ nl ≤ 30) (hnow : S 0 0 = nI w0) (hw200 : w0 ≤ 200) (hg : (cap = 0 ∧ a 26 = e0) ∨ capP cap) : vx_Met l yX4_lease wsX4_lease ({ frames := 8, cells := 9, slots := 97, locals := 410 } : Room) (va_Pc [.ref (a 0), .int (d), .int (t), .int (b), .int (r), .int (h)] (kBXE D q A e0 (fun H => kW D A (wC q a S cap nl) H))) (kRl D q A a nl (coLease S w0 nl d t b r h)) (kXC D A (wC q a S cap nl) (fun E => exC [eI, eA, eS] E (coLease S w0 nl d t b r h).1)) 9 97 A := by
  refine vx_ofW (cc := cX4_lease) (maxL := 7) (ret := (some .int)) (by decide) rfl ?_
  intro p e u m args below meth c s₁ B hml0 hout hv
  obtain ⟨rfl, ⟨hP, hK, hX⟩, hEE, hA⟩ := hv
  have C0 : kAt p u m #[.ref (a 0), .int (d), .int (t), .int (b), .int (r), .int (h)] meth c cX4_lease 7 (some .int) RX4 wsX4_lease := kAt_of B hml0
  obtain ⟨hx, hb, hr, hml, hown, hts, hlocks⟩ := id C0
  have hS : va_S A u.heap u.heap [] := va_S.rf
  have hl := lv_entry ([.ref (a 0), .int (d), .int (t), .int (b), .int (r), .int (h)]) (n := 7) (Nat.le_of_ble_eq_true rfl)
  rw [lg_entry_eq]
  generalize (lg_sl ([.ref (a 0), .int (d), .int (t), .int (b), .int (r), .int (h)]) ++ List.replicate (7 - (lg_sl ([.ref (a 0), .int (d), .int (t), .int (b), .int (r), .int (h)])).length) Slot.unset).toArray = ls at hl ⊢
  have hl : lv_has ls 7 [(0, .ref (a 0)), (1, .int (d)), (2, .int (t)), (3, .int (b)), (4, .int (r)), (5, .int (h))] := hl
  refine lv_iload_n hx hb dX4_lease_0 rfl (lv_at hl 1 rfl) ?_
  refine lv_bipush (v := nI 36) hx hb dX4_lease_1 (by decide) ?_
  refine k_goXv hS (vx_runS (rest := []) ⟨hx, hb, hml, hown, hts⟩ (c_X4_requireIndex l hl0 D q A (wC q a S cap nl) d (nI 36)) (va_cwS 2 hts gX4_lease_X4_requireIndex rfl rfl rfl (by decide +kernel) ⟨Nat.le_of_ble_eq_true rfl, Nat.le_of_ble_eq_true rfl⟩) ⟨kBX_blind, fun U hU hW => ⟨rfl, by rw [hU]; exact hP, hK.warm hW, hX.at hS hU hW⟩⟩ rfl rfl hl.1 rfl (lv_room (Nat.le_of_ble_eq_true rfl)) dX4_lease_3 ⟨Nat.le_of_ble_eq_true rfl, Nat.le_of_ble_eq_true rfl⟩) (fun E ce q9 H locs hE hP hS h1 h2 h3 => k_outX hout hlocks h1 h2 h3 (⟨0, by rw [hE.1]; rfl, by unfold coLease; rw [if_neg hE.2]; try rfl⟩) hP hS (Nat.le_of_ble_eq_true rfl) (Nat.le_of_ble_eq_true rfl)) (fun H locs c_1 hP hS => ?_)
  refine lv_iload_n hx hb dX4_lease_6 rfl (lv_at hl 2 rfl) ?_
  refine lv_bipush (v := nI 6) hx hb dX4_lease_7 (by decide) ?_
  refine k_goXv hS (vx_runS (rest := []) ⟨hx, hb, hml, hown, hts⟩ (c_X4_requireIndex l hl0 D q A (wC q a S cap nl) t (nI 6)) (va_cwS 2 hts gX4_lease_X4_requireIndex rfl rfl rfl (by decide +kernel) ⟨Nat.le_of_ble_eq_true rfl, Nat.le_of_ble_eq_true rfl⟩) ⟨kBX_blind, fun U hU hW => ⟨rfl, by rw [hU]; exact hP, hK.warm hW, hX.at hS hU hW⟩⟩ rfl rfl hl.1 rfl (lv_room (Nat.le_of_ble_eq_true rfl)) dX4_lease_9 ⟨Nat.le_of_ble_eq_true rfl, Nat.le_of_ble_eq_true rfl⟩) (fun E ce q9 H locs hE hP hS h1 h2 h3 => k_outX hout hlocks h1 h2 h3 (⟨0, by rw [hE.1]; rfl, by unfold coLease; rw [if_pos c_1, if_neg hE.2]; try rfl⟩) hP hS (Nat.le_of_ble_eq_true rfl) (Nat.le_of_ble_eq_true rfl)) (fun H locs c_2 hP hS => ?_)
  refine lv_iload_n hx hb dX4_lease_12 rfl (lv_at hl 3 rfl) ?_
  refine lv_iconst (v := nI 0) hx hb dX4_lease_13 (by decide) ?_
  refine lv_bipush (v := nI 50) hx hb dX4_lease_14 (by decide) ?_
  refine k_goXv hS (vx_runS (rest := []) ⟨hx, hb, hml, hown, hts⟩ (c_X4_requireWithin l hl0 D q A (wC q a S cap nl) b (nI 0) (nI 50)) (va_cwS 3 hts gX4_lease_X4_requireWithin rfl rfl rfl (by decide +kernel) ⟨Nat.le_of_ble_eq_true rfl, Nat.le_of_ble_eq_true rfl⟩) ⟨kBX_blind, fun U hU hW => ⟨rfl, by rw [hU]; exact hP, hK.warm hW, hX.at hS hU hW⟩⟩ rfl rfl hl.1 rfl (lv_room (Nat.le_of_ble_eq_true rfl)) dX4_lease_16 ⟨Nat.le_of_ble_eq_true rfl, Nat.le_of_ble_eq_true rfl⟩) (fun E ce q9 H locs hE hP hS h1 h2 h3 => k_outX hout hlocks h1 h2 h3 (⟨1, by rw [hE.1]; rfl, by unfold coLease; rw [if_pos c_1, if_pos c_2, if_neg hE.2]; try rfl⟩) hP hS (Nat.le_of_ble_eq_true rfl) (Nat.le_of_ble_eq_true rfl)) (fun H locs c_3 hP hS => ?_)
  refine lv_iload hx hb dX4_lease_19 (lv_at hl 4 rfl) ?_
  refine lv_iconst (v := nI 0) hx hb dX4_lease_21 (by decide) ?_
  refine lv_bipush (v := nI 50) hx hb dX4_lease_22 (by decide) ?_
  refine k_goXv hS (vx_runS (rest := []) ⟨hx, hb, hml, hown, hts⟩ (c_X4_requireWithin l hl0 D q A (wC q a S cap nl) r (nI 0) (nI 50)) (va_cwS 3 hts gX4_lease_X4_requireWithin rfl rfl rfl (by decide +kernel) ⟨Nat.le_of_ble_eq_true rfl, Nat.le_of_ble_eq_true rfl⟩) ⟨kBX_blind, fun U hU hW => ⟨rfl, by rw [hU]; exact hP, hK.warm hW, hX.at hS hU hW⟩⟩ rfl rfl hl.1 rfl (lv_room (Nat.le_of_ble_eq_true rfl)) dX4_lease_24 ⟨Nat.le_of_ble_eq_true rfl, Nat.le_of_ble_eq_true rfl⟩) (fun E ce q9 H locs hE hP hS h1 h2 h3 => k_outX hout hlocks h1 h2 h3 (⟨1, by rw [hE.1]; rfl, by unfold coLease; rw [if_pos c_1, if_pos c_2, if_pos c_3, if_neg hE.2]; try rfl⟩) hP hS (Nat.le_of_ble_eq_true rfl) (Nat.le_of_ble_eq_true rfl)) (fun H locs c_4 hP hS => ?_)
  refine lv_iload hx hb dX4_lease_27 (lv_at hl 5 rfl) ?_
  refine lv_iconst (v := nI 1) hx hb dX4_lease_29 (by decide) ?_
  refine lv_bipush (v := nI 100) hx hb dX4_lease_30 (by decide) ?_
  refine k_goXv hS (vx_runS (rest := []) ⟨hx, hb, hml, hown, hts⟩ (c_X4_requireWithin l hl0 D q A (wC q a S cap nl) h (nI 1) (nI 100)) (va_cwS 3 hts gX4_lease_X4_requireWithin rfl rfl rfl (by decide +kernel) ⟨Nat.le_of_ble_eq_true rfl, Nat.le_of_ble_eq_true rfl⟩) ⟨kBX_blind, fun U hU hW => ⟨rfl, by rw [hU]; exact hP, hK.warm hW, hX.at hS hU hW⟩⟩ rfl rfl hl.1 rfl (lv_room (Nat.le_of_ble_eq_true rfl)) dX4_lease_32 ⟨Nat.le_of_ble_eq_true rfl, Nat.le_of_ble_eq_true rfl⟩) (fun E ce q9 H locs hE hP hS h1 h2 h3 => k_outX hout hlocks h1 h2 h3 (⟨1, by rw [hE.1]; rfl, by unfold coLease; rw [if_pos c_1, if_pos c_2, if_pos c_3, if_pos c_4, if_neg hE.2]; try rfl⟩) hP hS (Nat.le_of_ble_eq_true rfl) (Nat.le_of_ble_eq_true rfl)) (fun H locs c_5 hP hS => ?_)
  obtain ⟨e_h, b_h⟩ := inP_nat1 c_5 (by decide)
  rw [e_h] at hl
  refine lv_aload_n hx hb dX4_lease_35 rfl (lv_at hl 0 rfl) ?_
  refine va_get (D := D) (ci := 5) (v := .ref (a 4)) (C := RX4) (T := TX4) (N := 6) hx hb hts in_X4_lease_X4 hown hK.1 hP.1 0 rfl rfl 3 (by decide) (hts _ fl_X4_lease_33) (fun _ h9 => h9) rfl dX4_lease_36 ?_
  refine k_callV (rest := []) (r := nI nl) ⟨hx, hb, hml, hown, hts⟩ (c_Jx4a65c_size_8abf5 l D q a S cap nl) (cwV 0 hts gX4_lease_Jx4a65c_size_8abf5 rfl rfl rfl (by decide +kernel) ⟨Nat.le_of_ble_eq_true rfl, Nat.le_of_ble_eq_true rfl⟩) hK hP.1 (va_recv hK.1 hP.1 (ci := 0) (q0 := 4) rfl rfl) rfl hl.1 rfl (Nat.le_of_ble_eq_true rfl) dX4_lease_39 ⟨Nat.le_of_ble_eq_true rfl, Nat.le_of_ble_eq_true rfl⟩ (fun _ h => h) ?_
  refine lv_bipush (v := nI 30) hx hb dX4_lease_42 (by decide) ?_
  refine k_icmp_ge (P := nl < 30) (tgt := 51) hx hb dX4_lease_44 (by decide) (nI_ltI (by omega) (by omega)) (fun c_6 => ?_) (fun c_6 => ?_)
  · skip
    refine lv_iconst (v := nI 0) hx hb dX4_lease_51 (by decide) ?_
    refine k_goXv hS (vx_runS (rest := []) ⟨hx, hb, hml, hown, hts⟩ (c_X4_requireState l hl0 D q A (wC q a S cap nl) (nI 0)) (va_cwS 1 hts gX4_lease_X4_requireState rfl rfl rfl (by decide +kernel) ⟨Nat.le_of_ble_eq_true rfl, Nat.le_of_ble_eq_true rfl⟩) ⟨kBX_blind, fun U hU hW => ⟨rfl, by rw [hU]; exact hP, hK.warm hW, hX.at hS hU hW⟩⟩ rfl rfl hl.1 rfl (lv_room (Nat.le_of_ble_eq_true rfl)) dX4_lease_52 ⟨Nat.le_of_ble_eq_true rfl, Nat.le_of_ble_eq_true rfl⟩) (fun E ce q9 H locs hE hP hS h1 h2 h3 => k_outX hout hlocks h1 h2 h3 (⟨2, by rw [hE.1]; rfl, by unfold coLease; rw [if_pos c_1, if_pos c_2, if_pos c_3, if_pos c_4, if_pos c_5, if_neg c_6]; try rfl⟩) hP hS (Nat.le_of_ble_eq_true rfl) (Nat.le_of_ble_eq_true rfl)) (fun H locs c_7 hP hS => ?_)
    exact absurd rfl c_7
  · skip
    refine lv_iconst (v := nI 1) hx hb dX4_lease_47 (by decide) ?_
    refine lv_goto (tgt := 52) hx hb dX4_lease_48 (by decide) ?_
    refine k_goXv hS (vx_runS (rest := []) ⟨hx, hb, hml, hown, hts⟩ (c_X4_requireState l hl0 D q A (wC q a S cap nl) (nI 1)) (va_cwS 1 hts gX4_lease_X4_requireState rfl rfl rfl (by decide +kernel) ⟨Nat.le_of_ble_eq_true rfl, Nat.le_of_ble_eq_true rfl⟩) ⟨kBX_blind, fun U hU hW => ⟨rfl, by rw [hU]; exact hP, hK.warm hW, hX.at hS hU hW⟩⟩ rfl rfl hl.1 rfl (lv_room (Nat.le_of_ble_eq_true rfl)) dX4_lease_52 ⟨Nat.le_of_ble_eq_true rfl, Nat.le_of_ble_eq_true rfl⟩) (fun E ce q9 H locs hE hP hS h1 h2 h3 => absurd hE.2 (by decide)) (fun H locs c_8 hP hS => ?_)
    refine va_new (ci := 3) (fs := [.int 0, .int 0, .int 0, .int 0, .int 0, .int 0, .int 0, .int 0, .int 0]) (C := RX2) (T := TX2) (N := 9) hx hb hts in_X4_lease_X2 tyX2 tyX2_ok hown (hts (.classLink RX4 101 RX2) (by decide +kernel)) (hts (.instantiable RX2 9) (by decide +kernel)) (hts (.initialized RX2) (by decide +kernel)) hK.1 hP.1 hP.2 hS hA rfl (fun j hj => by rcases (show j = 0 ∨ j = 1 ∨ j = 2 ∨ j = 3 ∨ j = 4 ∨ j = 5 ∨ j = 6 ∨ j = 7 ∨ j = 8 by omega) with rfl | rfl | rfl | rfl | rfl | rfl | rfl | rfl | rfl <;> rfl) (Nat.le_of_ble_eq_true rfl) (Nat.le_of_ble_eq_true rfl) dX4_lease_55 (fun z H hP9 hD9 hS => ?_)
    have hP : kW D A (wC q a S cap nl ++ [(z, .inr (3, [.int 0, .int 0, .int 0, .int 0, .int 0, .int 0, .int 0, .int 0, .int 0]))]) H := ⟨hP9, hD9⟩
    refine lv_dup hx hb dX4_lease_58 rfl ?_
    refine lv_iload_n hx hb dX4_lease_59 rfl (lv_at hl 1 rfl) ?_
    refine lv_iload_n hx hb dX4_lease_60 rfl (lv_at hl 2 rfl) ?_
    refine lv_iload_n hx hb dX4_lease_61 rfl (lv_at hl 3 rfl) ?_
    refine lv_iload hx hb dX4_lease_62 (lv_at hl 4 rfl) ?_
    refine lv_aload_n hx hb dX4_lease_64 rfl (lv_at hl 0 rfl) ?_
    refine va_get (D := D) (ci := 5) (v := .int (S 0 0)) (C := RX4) (T := TX4) (N := 6) hx hb hts in_X4_lease_X4 hown hK.1 hP.1 0 rfl rfl 5 (by decide) (hts (.fieldLink RX4 41 "LampCounts" "now" "I") (by decide +kernel)) (fun _ h9 => h9) rfl dX4_lease_65 ?_
    refine k_top (y := nI w0) hnow ?_
    refine lv_aload_n hx hb dX4_lease_68 rfl (lv_at hl 0 rfl) ?_
    refine va_get (D := D) (ci := 5) (v := .int (S 0 0)) (C := RX4) (T := TX4) (N := 6) hx hb hts in_X4_lease_X4 hown hK.1 hP.1 0 rfl rfl 5 (by decide) (hts (.fieldLink RX4 41 "LampCounts" "now" "I") (by decide +kernel)) (fun _ h9 => h9) rfl dX4_lease_69 ?_
    refine k_top (y := nI w0) hnow ?_
    refine lv_iload hx hb dX4_lease_72 (lv_at hl 5 rfl) ?_
    refine lv_iadd hx hb dX4_lease_74 ?_
    refine k_top (y := nI (w0 + h.toNatClampNeg)) (nI_add _ _) ?_
    refine k_goNv (H0 := u.heap) hP hA hS (va_runI (As := [.int (d), .int (t), .int (b), .int (r), .int (nI w0), .int (nI (w0 + h.toNatClampNeg))]) (rest := [.ref z]) ⟨hx, hb, hml, hown, hts⟩ (c_X2_init l D q (va_A [(z, .inr (3, [.int 0, .int 0, .int 0, .int 0, .int 0, .int 0, .int 0, .int 0, .int 0]))] H.size) z d t b r (nI w0) (nI (w0 + h.toNatClampNeg))) (cwI 6 hts gX4_lease_X2_init rfl rfl rfl (hts (.initialized RX2) (by decide +kernel)) (hts (.methodLink RX4 103 yX2_init) (by decide +kernel)) (hts (.instanceMethod yX2_init) (by decide +kernel)) rfl (by decide +kernel) ⟨Nat.le_of_ble_eq_true rfl, Nat.le_of_ble_eq_true rfl⟩) ⟨kBN_blind, fun U hU hW => ⟨rfl, ⟨by rw [hU]; exact kW_cut hP, hK.warm hW⟩, fun z9 h9 => Or.inr (by rw [← hU]; exact h9)⟩⟩ rfl rfl hl.1 rfl (lv_room (Nat.le_of_ble_eq_true rfl)) dX4_lease_75 ⟨Nat.le_of_ble_eq_true rfl, Nat.le_of_ble_eq_true rfl⟩) (fun f9 H locs hP hS => ?_)
    refine lv_astore (lv' := [(6, .ref (z)), (0, .ref (a 0)), (1, .int (d)), (2, .int (t)), (3, .int (b)), (4, .int (r)), (5, .int (nI h.toNatClampNeg))]) hx hb dX4_lease_78 hl (by decide) rfl (fun ls hl => ?_)
    have hZ : kW D A (wZ q (upA a (100 + nl) z) (lnew S nl d t b r (nI w0) (nI (w0 + h.toNatClampNeg))) cap nl) H := by unfold wZ; rw [wC_lnew, lnew_ls]; first | exact hP | (simp only [] at hP; exact hP)
    have x0 : a 0 = (upA a (100 + nl) z) 0 := (if_neg (by omega)).symm
    have x4 : a 4 = (upA a (100 + nl) z) 4 := (if_neg (by omega)).symm
    have x26 : (upA a (100 + nl) z) 26 = a 26 := if_neg (by omega)
    have xz : z = (upA a (100 + nl) z) (100 + nl) := (if_pos rfl).symm
    have xn : (lnew S nl d t b r (nI w0) (nI (w0 + h.toNatClampNeg))) 0 3 = S 0 3 := congrFun (lnew_n (by decide)) 3
    refine lv_aload_n hx hb dX4_lease_80 rfl (lv_at hl 1 rfl) ?_
    refine k_topR x0 ?_
    refine lv_aload hx hb dX4_lease_81 (lv_at hl 0 rfl) ?_
    refine k_topR xz ?_
    refine k_callV (rest := []) (r := (if dhC (lnew S nl d t b r (nI w0) (nI (w0 + h.toNatClampNeg))) nl nl = true then nI 1 else nI 0)) ⟨hx, hb, hml, hown, hts⟩ (c_X4_isDoorHeld l D q (upA a (100 + nl) z) (lnew S nl d t b r (nI w0) (nI (w0 + h.toNatClampNeg))) cap nl hnl) (cwV 1 hts gX4_lease_X4_isDoorHeld rfl rfl rfl (by decide +kernel) ⟨Nat.le_of_ble_eq_true rfl, Nat.le_of_ble_eq_true rfl⟩) hK hZ.1 (va_recv hK.1 hZ.1 (ci := 5) (q0 := 0) rfl rfl) rfl hl.1 rfl (Nat.le_of_ble_eq_true rfl) dX4_lease_83 ⟨Nat.le_of_ble_eq_true rfl, Nat.le_of_ble_eq_true rfl⟩ (fun _ h => h) ?_
    refine k_if_ne (P := ¬ dhC (lnew S nl d t b r (nI w0) (nI (w0 + h.toNatClampNeg))) nl nl = true) (tgt := 93) hx hb dX4_lease_86 (by decide) k_dh (fun hh => ?_) (fun hh => ?_)
    · skip
      refine lv_iconst (v := nI 0) hx hb dX4_lease_93 (by decide) ?_
      refine k_goXv hS (vx_runS (rest := []) ⟨hx, hb, hml, hown, hts⟩ (c_X4_requireState l hl0 D q A (wZ q (upA a (100 + nl) z) (lnew S nl d t b r (nI w0) (nI (w0 + h.toNatClampNeg))) cap nl) (nI 0)) (va_cwS 1 hts gX4_lease_X4_requireState rfl rfl rfl (by decide +kernel) ⟨Nat.le_of_ble_eq_true rfl, Nat.le_of_ble_eq_true rfl⟩) ⟨kBX_blind, fun U hU hW => ⟨rfl, by rw [hU]; exact hZ, hK.warm hW, hX.at hS hU hW⟩⟩ rfl rfl hl.1 rfl (lv_room (Nat.le_of_ble_eq_true rfl)) dX4_lease_94 ⟨Nat.le_of_ble_eq_true rfl, Nat.le_of_ble_eq_true rfl⟩) (fun E ce q9 H locs hE hZ hS h1 h2 h3 => k_outX hout hlocks h1 h2 h3 ⟨2, by rw [hE.1]; rfl, by unfold coLease; rw [if_pos c_1, if_pos c_2, if_pos c_3, if_pos c_4, if_pos c_5, if_pos c_6, if_pos (Classical.not_not.mp hh)]⟩ (kW_l (by have h8 := hZ; unfold wZ at h8; rw [wC_lnew] at h8; exact h8)) hS (Nat.le_of_ble_eq_true rfl) (Nat.le_of_ble_eq_true rfl)) (fun H locs hq hZ hS => ?_)
      exact absurd rfl hq
    · skip
      refine lv_iconst (v := nI 1) hx hb dX4_lease_89 (by decide) ?_
      refine lv_goto (tgt := 94) hx hb dX4_lease_90 (by decide) ?_
      refine k_goXv hS (vx_runS (rest := []) ⟨hx, hb, hml, hown, hts⟩ (c_X4_requireState l hl0 D q A (wZ q (upA a (100 + nl) z) (lnew S nl d t b r (nI w0) (nI (w0 + h.toNatClampNeg))) cap nl) (nI 1)) (va_cwS 1 hts gX4_lease_X4_requireState rfl rfl rfl (by decide +kernel) ⟨Nat.le_of_ble_eq_true rfl, Nat.le_of_ble_eq_true rfl⟩) ⟨kBX_blind, fun U hU hW => ⟨rfl, by rw [hU]; exact hZ, hK.warm hW, hX.at hS hU hW⟩⟩ rfl rfl hl.1 rfl (lv_room (Nat.le_of_ble_eq_true rfl)) dX4_lease_94 ⟨Nat.le_of_ble_eq_true rfl, Nat.le_of_ble_eq_true rfl⟩) (fun E ce q9 H locs hE hZ hS h1 h2 h3 => absurd hE.2 (by decide)) (fun H locs _ hZ hS => ?_)
      refine lv_aload_n hx hb dX4_lease_97 rfl (lv_at hl 1 rfl) ?_
      refine k_topR x0 ?_
      refine va_get (D := D) (ci := 5) (v := .ref ((upA a (100 + nl) z) 4)) (C := RX4) (T := TX4) (N := 6) hx hb hts in_X4_lease_X4 hown hK.1 hZ.1 0 rfl rfl 3 (by decide) (hts (.fieldLink RX4 33 "LampCounts" "made" "Ljava/util/ArrayList;") (by decide +kernel)) (fun _ h9 => h9) rfl dX4_lease_98 ?_
      refine lv_aload hx hb dX4_lease_101 (lv_at hl 0 rfl) ?_
      refine k_topR xz ?_
      have hQ := wZ_split hZ
      refine k_goTi (H0 := u.heap) (wo := wCg q (upA a (100 + nl) z) (lnew S nl d t b r (nI w0) (nI (w0 + h.toNatClampNeg)))) (w := (wA q (upA a (100 + nl) z) (lnew S nl d t b r (nI w0) (nI (w0 + h.toNatClampNeg))) cap nl ++ [wLs (upA a (100 + nl) z) (lnew S nl d t b r (nI w0) (nI (w0 + h.toNatClampNeg))) nl])) hQ hA hS (va_runV (rest := []) ⟨hx, hb, hml, hown, hts⟩ (c_Jx4a65c_add_9ea2d l D q (va_A (wA q (upA a (100 + nl) z) (lnew S nl d t b r (nI w0) (nI (w0 + h.toNatClampNeg))) cap nl ++ [wLs (upA a (100 + nl) z) (lnew S nl d t b r (nI w0) (nI (w0 + h.toNatClampNeg))) nl]) H.size) (upA a (100 + nl) z) (lnew S nl d t b r (nI w0) (nI (w0 + h.toNatClampNeg))) cap nl e0 (by rw [x26]; exact hg) hnl.1 (by assumption)) (cwV 1 hts gX4_lease_Jx4a65c_add_9ea2d rfl rfl rfl (by decide +kernel) ⟨Nat.le_of_ble_eq_true rfl, Nat.le_of_ble_eq_true rfl⟩) ⟨kBF_blind, (va_recv hK.1 (kW_cut hQ).1 (ci := 0) (q0 := 0) rfl rfl), fun U hU hW => ⟨rfl, ⟨⟨by rw [hU]; exact kW_cut hQ, hK.warm hW⟩, fun z9 h9 => Or.inr (by rw [← hU]; exact h9)⟩, (hEE.at hS hU hW).narrow (kW_sub hQ (fun z9 h9 => hA z9 (Nat.le_trans hS.1 h9)))⟩⟩ rfl rfl hl.1 rfl (lv_room (Nat.le_of_ble_eq_true rfl)) dX4_lease_103 ⟨Nat.le_of_ble_eq_true rfl, Nat.le_of_ble_eq_true rfl⟩) (fun r9 x9 H locs hp9 hP hS => ?_)
      rw [xn] at hP
      have hP : kW D A (wC q (upA (upA a (100 + nl) z) 26 x9.1) (up (lnew S nl d t b r (nI w0) (nI (w0 + h.toNatClampNeg))) 0 3 (S 0 3 + nI 1)) x9.2 (nl + 1)) H := wC_merge (by rw [wCg_m]; exact hP)
      refine lv_pop hx hb dX4_lease_106 rfl ?_
      refine lv_aload_n hx hb dX4_lease_107 rfl (lv_at hl 1 rfl) ?_
      refine k_topR (y := upA (upA a (100 + nl) z) 26 x9.1 0) x0 ?_
      refine va_get (D := D) (ci := 5) (v := .ref (upA (upA a (100 + nl) z) 26 x9.1 4)) (C := RX4) (T := TX4) (N := 6) hx hb hts in_X4_lease_X4 hown hK.1 hP.1 0 rfl rfl 3 (by decide) (hts (.fieldLink RX4 33 "LampCounts" "made" "Ljava/util/ArrayList;") (by decide +kernel)) (fun _ h9 => h9) rfl dX4_lease_108 ?_
      refine k_callV (rest := []) (r := nI (nl + 1)) ⟨hx, hb, hml, hown, hts⟩ (c_Jx4a65c_size_8abf5 l D q (upA (upA a (100 + nl) z) 26 x9.1) (up (lnew S nl d t b r (nI w0) (nI (w0 + h.toNatClampNeg))) 0 3 (S 0 3 + nI 1)) x9.2 (nl + 1)) (cwV 0 hts gX4_lease_Jx4a65c_size_8abf5 rfl rfl rfl (by decide +kernel) ⟨Nat.le_of_ble_eq_true rfl, Nat.le_of_ble_eq_true rfl⟩) hK hP.1 (va_recv hK.1 hP.1 (ci := 0) (q0 := 4) rfl rfl) rfl hl.1 rfl (Nat.le_of_ble_eq_true rfl) dX4_lease_111 ⟨Nat.le_of_ble_eq_true rfl, Nat.le_of_ble_eq_true rfl⟩ (fun _ h => h) ?_
      refine lv_iconst (v := nI 1) hx hb dX4_lease_114 (by decide) ?_
      refine lv_isub hx hb dX4_lease_115 ?_
      refine k_top (y := nI nl) (k_pred nl) ?_
      have eR : coLease S w0 nl d t b r h = (nI 0, nI nl, (up (lnew S nl d t b r (nI w0) (nI (w0 + h.toNatClampNeg))) 0 3 (S 0 3 + nI 1))) := by unfold coLease; rw [if_pos c_1, if_pos c_2, if_pos c_3, if_pos c_4, if_pos c_5, if_pos c_6, if_neg hh]
      refine vx_ret (W.widen (k := 9) (n := 97) (Nat.le_of_ble_eq_true rfl) (Nat.le_of_ble_eq_true rfl) (W.iret hx hb hr (fun t9 ht _ => ⟨⟨nI nl, (upA (upA a (100 + nl) z) 26 x9.1, x9.2), rfl, ⟨⟨by rw [eR], by rw [eR]⟩, fun j hj => (if_neg (by omega)).trans (if_neg (by omega)), hp9.2.1, hp9.2.2⟩, by show kW D A (wC q _ (coLease S w0 nl d t b r h).2.2 _ _) t9.heap; rw [eR, ht]; exact hP⟩, hS.F ht⟩) hS.2.2 dX4_lease_116 hlocks))
