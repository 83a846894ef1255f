set_option maxHeartbeats 4000000 in
set_option maxRecDepth 100000 in
theorem c_J8_newLength_cabcc (l : Launch) (D : va_G) (q : Nat → ClassId) (o g : Nat) (ho : 1 ≤ o ∧ o ≤ 40) (hg : 1 ≤ g ∧ g ≤ 40) : Met l yJ8_newLength_cabcc wsJ8_newLength_cabcc ({ frames := 1, cells := 0, slots := 0, locals := 64 } : Room) (va_Pc [.int (nI o), .int (nI 1), .int (nI g)] (kB D q (fun _ => True))) (kSi (nI (o + g))) 0 0 (fun _ => False) := by
  refine Met.ofW (cc := cJ8_newLength_cabcc) (maxL := 4) (ret := (some .int)) (by decide) rfl ?_
  intro p e u m args below meth c s₁ B hml0 hv
  obtain ⟨rfl, -, hK⟩ := hv
  have C0 : kAt p u m #[.int (nI o), .int (nI 1), .int (nI g)] meth c cJ8_newLength_cabcc 4 (some .int) RJ8 wsJ8_newLength_cabcc := kAt_of B hml0
  obtain ⟨hx, hb, hr, hml, hown, hts, hlocks⟩ := id C0
  have hl := lv_entry ([.int (nI o), .int (nI 1), .int (nI g)]) (n := 4) (Nat.le_of_ble_eq_true rfl)
  rw [lg_entry_eq]
  generalize (lg_sl ([.int (nI o), .int (nI 1), .int (nI g)]) ++ List.replicate (4 - (lg_sl ([.int (nI o), .int (nI 1), .int (nI g)])).length) Slot.unset).toArray = ls at hl ⊢
  have hl : lv_has ls 4 [(0, .int (nI o)), (1, .int (nI 1)), (2, .int (nI g))] := hl
  refine lv_iload_n hx hb dJ8_newLength_cabcc_0 rfl (lv_at hl 0 rfl) ?_
  refine lv_iload_n hx hb dJ8_newLength_cabcc_1 rfl (lv_at hl 1 rfl) ?_
  refine lv_iload_n hx hb dJ8_newLength_cabcc_2 rfl (lv_at hl 2 rfl) ?_
  refine va_mmax hx hb (hml.trans hl.1.symm) hown (hts (.methodLink RJ8 194 Lib.Math.max.name) (by decide +kernel)) (hts (.static Lib.Math.max.name) (by decide +kernel)) (hts (.initialized "java/lang/Math") (by decide +kernel)) (hts _ (List.mem_of_getElem? (i := 4) rfl)) (Nat.le_of_ble_eq_true rfl) (Nat.le_of_ble_eq_true rfl) (Nat.le_of_ble_eq_true rfl) (Nat.le_of_ble_eq_true rfl) dJ8_newLength_cabcc_3 ?_
  have e9 : (if nI 1 < nI g then nI g else nI 1) = nI g := by
    by_cases c9 : 1 < g
    · exact if_pos ((nI_ltI (by decide) (by omega)).mpr c9)
    · rw [if_neg (fun z => c9 ((nI_ltI (by decide) (by omega)).mp z)), show g = 1 from by omega]
  refine lv_iadd hx hb dJ8_newLength_cabcc_6 ?_
  refine k_top (y := nI (o + g)) (by rw [e9, nI_add]) ?_
  refine lv_istore_n (lv' := [(3, .int (nI (o + g))), (0, .int (nI o)), (1, .int (nI 1)), (2, .int (nI g))]) hx hb dJ8_newLength_cabcc_7 rfl hl (by decide) rfl (fun ls hl => ?_)
  refine lv_iconst (v := nI 0) hx hb dJ8_newLength_cabcc_8 (by decide) ?_
  refine lv_iload_n hx hb dJ8_newLength_cabcc_9 rfl (lv_at hl 0 rfl) ?_
  refine k_icmp_ge (P := True) (tgt := 21) hx hb dJ8_newLength_cabcc_10 (by decide) ⟨fun _ => trivial, fun _ => (nI_ltI (by decide) (by omega)).mpr (by omega)⟩ (fun h => absurd trivial h) (fun _ => ?_)
  refine lv_iload_n hx hb dJ8_newLength_cabcc_13 rfl (lv_at hl 0 rfl) ?_
  refine lv_ldc (v := nI 2147483639) hx hb hown (hts (.constant RJ8 200 (nI 2147483639)) (by decide +kernel)) dJ8_newLength_cabcc_14 ?_
  refine k_icmp_gt (P := True) (tgt := 21) hx hb dJ8_newLength_cabcc_16 (by decide) ⟨fun _ => trivial, fun _ => (nI_leI (by omega) (by decide)).mpr (by omega)⟩ (fun h => absurd trivial h) (fun _ => ?_)
  refine lv_iload_n hx hb dJ8_newLength_cabcc_19 rfl (lv_at hl 0 rfl) ?_
  exact k_iretS hx hb hr hlocks rfl rfl rfl dJ8_newLength_cabcc_20
theorem in_Jx4a65c_grow_92f84 : ∀ w ∈ u_ws RJx4a65c TJx4a65c 3, w ∈ wsJx4a65c_grow_92f84 := by decide +kernel
set_option maxHeartbeats 4000000 in
set_option maxRecDepth 100000 in
theorem c_Jx4a65c_grow_92f84 (l : Launch) (D : va_G) (q : Nat → ClassId) (A : Nat → Prop) (a : Nat → Nat) (S : Nat → Nat → Int32) (cap nl e0 : Nat) (hg : (cap = 0 ∧ nl = 0 ∧ a 26 = e0) ∨ (cap = nl ∧ 10 ≤ cap ∧ cap ≤ 22)) : Met l yJx4a65c_grow_92f84 wsJx4a65c_grow_92f84 ({ frames := 3, cells := 1, slots := 40, locals := 192 } : Room) (va_Pc [.ref (a 4), .int (nI (nl + 1))] (kBF D q A e0 (fun H => kW D A (wA q a S cap nl) H))) (kRr D A (fun z => wA q (upA a 26 z) S (ncap cap) nl)) 1 40 A := by
  refine Met.ofW (cc := cJx4a65c_grow_92f84) (maxL := 4) (ret := (some (.array (.object "java/lang/Object")))) (by decide) rfl ?_
  intro p e u m args below meth c s₁ B hml0 hv
  obtain ⟨rfl, ⟨⟨hP, hK⟩, hA⟩, hE⟩ := hv
  have C0 : kAt p u m #[.ref (a 4), .int (nI (nl + 1))] meth c cJx4a65c_grow_92f84 4 (some (.array (.object "java/lang/Object"))) RJx4a65c wsJx4a65c_grow_92f84 := kAt_of B hml0
  obtain ⟨hx, hb, hr, hml, hown, hts, hlocks⟩ := id C0
  have hS : va_S A u.heap u.heap [] := va_S.rf
  have hl := lv_entry ([.ref (a 4), .int (nI (nl + 1))]) (n := 4) (Nat.le_of_ble_eq_true rfl)
  rw [lg_entry_eq]
  generalize (lg_sl ([.ref (a 4), .int (nI (nl + 1))]) ++ List.replicate (4 - (lg_sl ([.ref (a 4), .int (nI (nl + 1))])).length) Slot.unset).toArray = ls at hl ⊢
  have hl : lv_has ls 4 [(0, .ref (a 4)), (1, .int (nI (nl + 1)))] := hl
  refine lv_aload_n hx hb dJx4a65c_grow_92f84_0 rfl (lv_at hl 0 rfl) ?_
  refine va_get (D := D) (ci := 0) (v := .ref (a 26)) (C := RJx4a65c) (T := TJx4a65c) (N := 3) hx hb hts in_Jx4a65c_grow_92f84 hown hK.1 hP.1 0 rfl rfl 1 (by decide) (hts (.fieldLink RJx4a65c 9 "java/util/ArrayList" "elementData" "[Ljava/lang/Object;") (by decide +kernel)) (fun _ h9 => h9) rfl dJx4a65c_grow_92f84_1 ?_
  rcases hg with ⟨hg1, hg2, hg3⟩ | ⟨hg1, hg2, hg3⟩
  · subst hg1
    subst hg2
    subst hg3
    refine va_tlen hx hb hE.2.1 hS (v := nI 0) rfl dJx4a65c_grow_92f84_4 ?_
    refine lv_istore_n (lv' := [(2, .int (nI 0)), (0, .ref (a 4)), (1, .int (nI (0 + 1)))]) hx hb dJx4a65c_grow_92f84_5 rfl hl (by decide) rfl (fun ls hl => ?_)
    refine lv_iload_n hx hb dJx4a65c_grow_92f84_6 rfl (lv_at hl 0 rfl) ?_
    refine k_if_gt (P := True) (tgt := 20) hx hb dJx4a65c_grow_92f84_7 (by decide) (by decide) (fun h => absurd trivial h) (fun _ => ?_)
    refine lv_aload_n hx hb dJx4a65c_grow_92f84_10 rfl (lv_at hl 1 rfl) ?_
    refine va_get (D := D) (ci := 0) (v := .ref (a 26)) (C := RJx4a65c) (T := TJx4a65c) (N := 3) hx hb hts in_Jx4a65c_grow_92f84 hown hK.1 hP.1 0 rfl rfl 1 (by decide) (hts (.fieldLink RJx4a65c 9 "java/util/ArrayList" "elementData" "[Ljava/lang/Object;") (by decide +kernel)) (fun _ h9 => h9) rfl dJx4a65c_grow_92f84_11 ?_
    refine va_gets hx hb hE.1 hS hown (hts (.fieldLink RJx4a65c 39 "java/util/ArrayList" "DEFAULTCAPACITY_EMPTY_ELEMENTDATA" "[Ljava/lang/Object;") (by decide +kernel)) (fun _ h9 => h9) dJx4a65c_grow_92f84_14 ?_
    refine lv_acmp_eq (rx := some (a 26)) (ry := some (a 26)) (tgt := 45) hx hb dJx4a65c_grow_92f84_17 (by decide) (fun _ => ?_) (fun h => absurd rfl h)
    refine lv_aload_n hx hb dJx4a65c_grow_92f84_45 rfl (lv_at hl 1 rfl) ?_
    refine lv_bipush (v := nI 10) hx hb dJx4a65c_grow_92f84_46 (by decide) ?_
    refine lv_iload_n hx hb dJx4a65c_grow_92f84_48 rfl (lv_at hl 2 rfl) ?_
    refine va_mmax hx hb (hml.trans hl.1.symm) hown (hts (.methodLink RJx4a65c 79 Lib.Math.max.name) (by decide +kernel)) (hts (.static Lib.Math.max.name) (by decide +kernel)) (hts (.initialized "java/lang/Math") (by decide +kernel)) (hts _ (List.mem_of_getElem? (i := 6) rfl)) (Nat.le_of_ble_eq_true rfl) (Nat.le_of_ble_eq_true rfl) (Nat.le_of_ble_eq_true rfl) (Nat.le_of_ble_eq_true rfl) dJx4a65c_grow_92f84_49 ?_
    rw [show (if nI 10 < nI (0 + 1) then nI (0 + 1) else nI 10) = nI 10 from by decide]
    refine k_newq hx hb hown (hts (.classLink RJx4a65c 7 "java/lang/Object") (by decide +kernel)) hE.2.2.2.2.1 hK hP hS hA (by decide) (Nat.le_of_ble_eq_true rfl) (Nat.le_of_ble_eq_true rfl) dJx4a65c_grow_92f84_52 (fun z H hP hS => ?_)
    refine lv_dup_x1 hx hb dJx4a65c_grow_92f84_55 rfl rfl ?_
    refine va_put (v := .ref z) (ty := .array (.object "java/lang/Object")) (C := RJx4a65c) (T := TJx4a65c) (N := 3) hx hb hts in_Jx4a65c_grow_92f84 tyJx4a65c tyJx4a65c_ok nmJx4a65c hown hK.1 hP.1 hP.2 hS 0 rfl rfl 1 (by decide) (hts (.fieldLink RJx4a65c 9 "java/util/ArrayList" "elementData" "[Ljava/lang/Object;") (by decide +kernel)) (fun _ h9 => h9) rfl (by decide +kernel) rfl rfl (Nat.le_of_ble_eq_true rfl) dJx4a65c_grow_92f84_56 (fun H locs hP9 hD9 hS => ?_)
    refine W.widen (k := 1) (n := 40) (Nat.le_of_ble_eq_true rfl) (Nat.le_of_ble_eq_true rfl) ?_
    exact k_aretN hx hb hr (Or.inr ⟨_, rfl⟩) hlocks (by rw [show ncap 0 = 10 from rfl, wA_up (by decide), wEl_0]; exact ⟨hP9, hD9⟩) hS dJx4a65c_grow_92f84_59
  · subst hg1
    have hc0 : cap ≠ 0 := by omega
    rw [wA_T hc0] at hP
    refine va_alen hx hb hK.1 hP.1 1 2 (x := (cap, .inr (.inr (.inr (.inr (wEl a cap)))))) rfl rfl (v := nI cap) rfl dJx4a65c_grow_92f84_4 ?_
    refine lv_istore_n (lv' := [(2, .int (nI cap)), (0, .ref (a 4)), (1, .int (nI (cap + 1)))]) hx hb dJx4a65c_grow_92f84_5 rfl hl (by decide) rfl (fun ls hl => ?_)
    refine lv_iload_n hx hb dJx4a65c_grow_92f84_6 rfl (lv_at hl 0 rfl) ?_
    refine k_if_gt (P := cap = 0) (tgt := 20) hx hb dJx4a65c_grow_92f84_7 (by decide) (k_nle0 (by omega)) (fun _ => ?_) (fun h => absurd h hc0)
    refine lv_iload_n hx hb dJx4a65c_grow_92f84_20 rfl (lv_at hl 0 rfl) ?_
    refine lv_iload_n hx hb dJx4a65c_grow_92f84_21 rfl (lv_at hl 2 rfl) ?_
    refine lv_iload_n hx hb dJx4a65c_grow_92f84_22 rfl (lv_at hl 0 rfl) ?_
    refine lv_isub hx hb dJx4a65c_grow_92f84_23 ?_
    refine k_top (y := nI 1) (nI_s1 cap) ?_
    refine lv_iload_n hx hb dJx4a65c_grow_92f84_24 rfl (lv_at hl 0 rfl) ?_
    refine lv_iconst (v := nI 1) hx hb dJx4a65c_grow_92f84_25 (by decide) ?_
    refine lv_ishr hx hb dJx4a65c_grow_92f84_26 ?_
    refine k_top (y := nI (cap / 2)) (k_shr1 cap (by omega)) ?_
    refine k_callS (rest := []) (r := nI (cap + cap / 2)) ⟨hx, hb, hml, hown, hts⟩ (c_J8_newLength_cabcc l D q cap (cap / 2) (by omega) (by omega)) (va_cwS 3 hts gJx4a65c_grow_92f84_J8_newLength_cabcc rfl rfl rfl (by decide +kernel) ⟨Nat.le_of_ble_eq_true rfl, Nat.le_of_ble_eq_true rfl⟩) hK trivial rfl hl.1 rfl (Nat.le_of_ble_eq_true rfl) dJx4a65c_grow_92f84_27 ⟨Nat.le_of_ble_eq_true rfl, Nat.le_of_ble_eq_true rfl⟩ (fun _ h => h) ?_
    refine lv_istore_n (lv' := [(3, .int (nI (cap + cap / 2))), (2, .int (nI cap)), (0, .ref (a 4)), (1, .int (nI (cap + 1)))]) hx hb dJx4a65c_grow_92f84_30 rfl hl (by decide) rfl (fun ls hl => ?_)
    refine lv_aload_n hx hb dJx4a65c_grow_92f84_31 rfl (lv_at hl 2 rfl) ?_
    refine lv_aload_n hx hb dJx4a65c_grow_92f84_32 rfl (lv_at hl 2 rfl) ?_
    refine va_get (D := D) (ci := 0) (v := .ref (a 26)) (C := RJx4a65c) (T := TJx4a65c) (N := 3) hx hb hts in_Jx4a65c_grow_92f84 hown hK.1 hP.1 0 rfl rfl 1 (by decide) (hts (.fieldLink RJx4a65c 9 "java/util/ArrayList" "elementData" "[Ljava/lang/Object;") (by decide +kernel)) (fun _ h9 => h9) rfl dJx4a65c_grow_92f84_33 ?_
    refine lv_iload_n hx hb dJx4a65c_grow_92f84_36 rfl (lv_at hl 0 rfl) ?_
    refine k_goRr (H0 := u.heap) hP hA hS (va_runS (rest := [.ref (a 4)]) ⟨hx, hb, hml, hown, hts⟩ (c_J7_copyOf_1904c l D q (va_A (wT q a S cap cap) u.heap.size) a S cap cap (cap + cap / 2) e0 hc0 (Nat.le_refl _) (by omega) (by omega)) (va_cwS 2 hts gJx4a65c_grow_92f84_J7_copyOf_1904c rfl rfl rfl (by decide +kernel) ⟨Nat.le_of_ble_eq_true rfl, Nat.le_of_ble_eq_true rfl⟩) ⟨kBF_blind, fun U hU hW => ⟨rfl, ⟨⟨by rw [hU]; exact kW_cut hP, hK.warm hW⟩, fun z9 h9 => Or.inr (by rw [← hU]; exact h9)⟩, (hE.at hS hU hW).narrow (kW_sub hP (hA))⟩⟩ rfl rfl hl.1 rfl (lv_room (Nat.le_of_ble_eq_true rfl)) dJx4a65c_grow_92f84_37 ⟨Nat.le_of_ble_eq_true rfl, Nat.le_of_ble_eq_true rfl⟩) (fun z H locs hP hS => ?_)
    refine lv_dup_x1 hx hb dJx4a65c_grow_92f84_40 rfl rfl ?_
    refine va_put (v := .ref z) (ty := .array (.object "java/lang/Object")) (C := RJx4a65c) (T := TJx4a65c) (N := 3) hx hb hts in_Jx4a65c_grow_92f84 tyJx4a65c tyJx4a65c_ok nmJx4a65c hown hK.1 hP.1 hP.2 hS 0 rfl rfl 1 (by decide) (hts (.fieldLink RJx4a65c 9 "java/util/ArrayList" "elementData" "[Ljava/lang/Object;") (by decide +kernel)) (fun _ h9 => h9) rfl (by decide +kernel) rfl rfl (Nat.le_of_ble_eq_true rfl) dJx4a65c_grow_92f84_41 (fun H locs hP9 hD9 hS => ?_)
    exact k_aretN hx hb hr (Or.inr ⟨_, rfl⟩) hlocks (by rw [show ncap cap = cap + cap / 2 from if_neg hc0, wA_up (by omega)]; rw [wT_upA] at hP9 hD9; exact ⟨hP9, hD9⟩) hS dJx4a65c_grow_92f84_44
theorem in_Jx4a65c_grow_d5877 : ∀ w ∈ u_ws RJx4a65c TJx4a65c 3, w ∈ wsJx4a65c_grow_d5877 := by decide +kernel
set_option maxHeartbeats 4000000 in
set_option maxRecDepth 100000 in
theorem c_Jx4a65c_grow_d5877 (l : Launch) (D : va_G) (q : Nat → ClassId) (A : Nat → Prop) (a : Nat → Nat) (S : Nat → Nat → Int32) (cap nl e0 : Nat) (hg : (cap = 0 ∧ nl = 0 ∧ a 26 = e0) ∨ (cap = nl ∧ 10 ≤ cap ∧ cap ≤ 22)) : Met l yJx4a65c_grow_d5877 wsJx4a65c_grow_d5877 ({ frames := 4, cells := 1, slots := 40, locals := 256 } : Room) (va_Pc [.ref (a 4)] (kBF D q A e0 (fun H => kW D A (wA q a S cap nl) H))) (kRr D A (fun z => wA q (upA a 26 z) S (ncap cap) nl)) 1 40 A := by
  refine Met.ofW (cc := cJx4a65c_grow_d5877) (maxL := 1) (ret := (some (.array (.object "java/lang/Object")))) (by decide) rfl ?_
  intro p e u m args below meth c s₁ B hml0 hv
  obtain ⟨rfl, ⟨⟨hP, hK⟩, hA⟩, hE⟩ := hv
  have C0 : kAt p u m #[.ref (a 4)] meth c cJx4a65c_grow_d5877 1 (some (.array (.object "java/lang/Object"))) RJx4a65c wsJx4a65c_grow_d5877 := kAt_of B hml0
  obtain ⟨hx, hb, hr, hml, hown, hts, hlocks⟩ := id C0
  have hS : va_S A u.heap u.heap [] := va_S.rf
  have hl := lv_entry ([.ref (a 4)]) (n := 1) (Nat.le_of_ble_eq_true rfl)
  rw [lg_entry_eq]
  generalize (lg_sl ([.ref (a 4)]) ++ List.replicate (1 - (lg_sl ([.ref (a 4)])).length) Slot.unset).toArray = ls at hl ⊢
  have hl : lv_has ls 1 [(0, .ref (a 4))] := hl
  refine lv_aload_n hx hb dJx4a65c_grow_d5877_0 rfl (lv_at hl 0 rfl) ?_
  refine lv_aload_n hx hb dJx4a65c_grow_d5877_1 rfl (lv_at hl 0 rfl) ?_
  refine va_get (D := D) (ci := 0) (v := .int (nI nl)) (C := RJx4a65c) (T := TJx4a65c) (N := 3) hx hb hts in_Jx4a65c_grow_d5877 hown hK.1 hP.1 0 rfl rfl 2 (by decide) (hts (.fieldLink RJx4a65c 48 "java/util/ArrayList" "size" "I") (by decide +kernel)) (fun _ h9 => h9) rfl dJx4a65c_grow_d5877_2 ?_
  refine lv_iconst (v := nI 1) hx hb dJx4a65c_grow_d5877_5 (by decide) ?_
  refine lv_iadd hx hb dJx4a65c_grow_d5877_6 ?_
  refine k_top (y := nI (nl + 1)) (nI_add _ _) ?_
  refine k_goRr (H0 := u.heap) (wo := []) (w := wA q a S cap nl) hP hA hS (va_runV (rest := []) ⟨hx, hb, hml, hown, hts⟩ (c_Jx4a65c_grow_92f84 l D q (va_A (wA q a S cap nl) u.heap.size) a S cap nl e0 hg) (cwV 1 hts gJx4a65c_grow_d5877_Jx4a65c_grow_92f84 rfl rfl rfl (by decide +kernel) ⟨Nat.le_of_ble_eq_true rfl, Nat.le_of_ble_eq_true rfl⟩) ⟨kBF_blind, (va_recv hK.1 hP.1 (ci := 0) (q0 := 0) rfl rfl), fun U hU hW => ⟨rfl, ⟨⟨by rw [hU]; exact kW_cut (wo := []) hP, hK.warm hW⟩, fun z9 h9 => Or.inr (by rw [← hU]; exact h9)⟩, (hE.at hS hU hW).narrow (kW_sub (wo := []) hP (hA))⟩⟩ rfl rfl hl.1 rfl (lv_room (Nat.le_of_ble_eq_true rfl)) dJx4a65c_grow_d5877_7 ⟨Nat.le_of_ble_eq_true rfl, Nat.le_of_ble_eq_true rfl⟩) (fun z H locs hP hS => ?_)
  exact k_aretN hx hb hr (Or.inr ⟨_, rfl⟩) hlocks hP hS dJx4a65c_grow_d5877_10
theorem in_Jx4a65c_add_72be8 : ∀ w ∈ u_ws RJx4a65c TJx4a65c 3, w ∈ wsJx4a65c_add_72be8 := by decide +kernel
set_option maxHeartbeats 4000000 in
set_option maxRecDepth 100000 in
theorem lp_Jx4a65c_add_72be8_11 {p : Program} {l : Launch} {e : Env} {u : State} {m : MethodId} {below : List Frame} {meth : Method} {c : Code} {D : va_G} {q : Nat → ClassId} {A : Nat → Prop} (a : Nat → Nat) (S : Nat → Nat → Int32) (nl e0 : Nat) (C0 : kAt p u m #[.ref (a 4), .ref (a (100 + nl)), .ref (a 26), .int (nI nl)] meth c cJx4a65c_add_72be8 4 none RJx4a65c wsJx4a65c_add_72be8) (hK : kK D q u) (hE : kE e0 A u) (z cp : Nat) (h1 : nl + 1 ≤ cp) (h2 : capP cp) {H : Heap} {locs : List Loc} (hP : kW D A ([wLs a S nl] ++ ([(a 4, .inr (0, [.int (S 0 3), .ref z, .int (nI nl)]))] ++ ([(z, .inl (q 2, cp, .inr (.inr (.inr (.inr (wEl a nl))))))] ++ (List.range nl).map (wLs a S)))) H) (hS : va_S A u.heap H locs) {ls : Array Slot} {cl sl : Nat} (hcl : cl ≤ 1) (hsl : sl ≤ 40) (hl : lv_has ls 4 [(2, .ref z), (0, .ref (a 4)), (1, .ref (a (100 + nl))), (3, .int (nI nl))]) : W p l e ({ frames := 5, cells := 1, slots := 40, locals := 320 } : Room) u m #[.ref (a 4), .ref (a (100 + nl)), .ref (a 26), .int (nI nl)] below meth c H locs cl sl (MQ below (kRa D q A a S nl) #[.ref (a 4), .ref (a (100 + nl)), .ref (a 26), .int (nI nl)] u 1 40 A) (F0 m 11 ls []) := by
  obtain ⟨hx, hb, hr, hml, hown, hts, hlocks⟩ := id C0
  have hcp : cp ≤ 33 := by rcases h2 with h | h | h | h <;> omega
  refine lv_aload_n hx hb dJx4a65c_add_72be8_11 rfl (lv_at hl 0 rfl) ?_
  refine lv_iload_n hx hb dJx4a65c_add_72be8_12 rfl (lv_at hl 3 rfl) ?_
  refine lv_aload_n hx hb dJx4a65c_add_72be8_13 rfl (lv_at hl 2 rfl) ?_
  refine va_astqO hx hb hK.1 hP.1 hP.2 hS 2 2 0 3 rfl rfl hE.2.2.2.2.2 rfl rfl (show ¬ (nI nl < 0 ∨ cp ≤ (nI nl).toNatClampNeg) from fun z9 => by rcases z9 with z9 | z9; exact nI_pos (by omega) z9; rw [nI_clamp (by omega)] at z9; omega) dJx4a65c_add_72be8_14 (fun H locs hP9 hD9 hS => ?_)
  rw [wEl_s (by omega)] at hP9 hD9
  replace hP : kW D A ([wLs a S nl] ++ ([(a 4, .inr (0, [.int (S 0 3), .ref z, .int (nI nl)]))] ++ ([(z, .inl (q 2, cp, .inr (.inr (.inr (.inr (wEl a (nl + 1)))))))] ++ (List.range nl).map (wLs a S)))) H := ⟨hP9, hD9⟩
  refine lv_aload_n hx hb dJx4a65c_add_72be8_15 rfl (lv_at hl 1 rfl) ?_
  refine lv_iload_n hx hb dJx4a65c_add_72be8_16 rfl (lv_at hl 3 rfl) ?_
  refine lv_iconst (v := nI 1) hx hb dJx4a65c_add_72be8_17 (by decide) ?_
  refine lv_iadd hx hb dJx4a65c_add_72be8_18 ?_
  refine k_top (y := nI (nl + 1)) (nI_add _ _) ?_
  refine va_put (v := .int (nI (nl + 1))) (ty := .int) (C := RJx4a65c) (T := TJx4a65c) (N := 3) hx hb hts in_Jx4a65c_add_72be8 tyJx4a65c tyJx4a65c_ok nmJx4a65c hown hK.1 hP.1 hP.2 hS 1 rfl rfl 2 (by decide) (hts (.fieldLink RJx4a65c 48 "java/util/ArrayList" "size" "I") (by decide +kernel)) (fun _ h9 => h9) rfl (by decide +kernel) rfl rfl (Nat.le_of_ble_eq_true rfl) dJx4a65c_add_72be8_19 (fun H locs hP9 hD9 hS => ?_)
  replace hP := kW_comm (w1 := [wLs a S nl]) (w2 := ([(a 4, .inr (0, [.int (S 0 3), .ref z, .int (nI (nl + 1))]))] ++ ([(z, .inl (q 2, cp, .inr (.inr (.inr (.inr (wEl a (nl + 1)))))))] ++ (List.range nl).map (wLs a S)))) ⟨hP9, hD9⟩
  rw [wA_next (by omega)] at hP
  refine W.widen (k := 1) (n := 40) hcl hsl ?_
  exact W.vret hx hb hr (fun t ht _ => ⟨⟨(z, cp), rfl, ⟨h1, h2⟩, by show kW D A _ t.heap; rw [ht]; exact hP⟩, hS.F ht⟩) hS.2.2 dJx4a65c_add_72be8_22 hlocks
set_option maxHeartbeats 4000000 in
set_option maxRecDepth 100000 in
theorem c_Jx4a65c_add_72be8 (l : Launch) (D : va_G) (q : Nat → ClassId) (A : Nat → Prop) (a : Nat → Nat) (S : Nat → Nat → Int32) (cap nl e0 : Nat) (hg : (cap = 0 ∧ a 26 = e0) ∨ capP cap) (hnl : nl ≤ cap) (hn30 : nl < 30) : Met l yJx4a65c_add_72be8 wsJx4a65c_add_72be8 ({ frames := 5, cells := 1, slots := 40, locals := 320 } : Room) (va_Pc [.ref (a 4), .ref (a (100 + nl)), .ref (a 26), .int (nI nl)] (kBF D q A e0 (fun H => kW D A (wA q a S cap nl ++ [wLs a S nl]) H))) (kRa D q A a S nl) 1 40 A := by
  refine Met.ofW (cc := cJx4a65c_add_72be8) (maxL := 4) (ret := none) (by decide) rfl ?_
  intro p e u m args below meth c s₁ B hml0 hv
  obtain ⟨rfl, ⟨⟨hP, hK⟩, hA⟩, hE⟩ := hv
  have C0 : kAt p u m #[.ref (a 4), .ref (a (100 + nl)), .ref (a 26), .int (nI nl)] meth c cJx4a65c_add_72be8 4 none RJx4a65c wsJx4a65c_add_72be8 := kAt_of B hml0
  obtain ⟨hx, hb, hr, hml, hown, hts, hlocks⟩ := id C0
  have hS : va_S A u.heap u.heap [] := va_S.rf
  have hl := lv_entry ([.ref (a 4), .ref (a (100 + nl)), .ref (a 26), .int (nI nl)]) (n := 4) (Nat.le_of_ble_eq_true rfl)
  rw [lg_entry_eq]
  generalize (lg_sl ([.ref (a 4), .ref (a (100 + nl)), .ref (a 26), .int (nI nl)]) ++ List.replicate (4 - (lg_sl ([.ref (a 4), .ref (a (100 + nl)), .ref (a 26), .int (nI nl)])).length) Slot.unset).toArray = ls at hl ⊢
  have hl : lv_has ls 4 [(0, .ref (a 4)), (1, .ref (a (100 + nl))), (2, .ref (a 26)), (3, .int (nI nl))] := hl
  replace hP := kW_comm hP
  have hlen : ∀ {ls : Array Slot} {rest : List Value} {Q : State → Prop}, W p l e ({ frames := 5, cells := 1, slots := 40, locals := 320 } : Room) u m #[.ref (a 4), .ref (a (100 + nl)), .ref (a 26), .int (nI nl)] below meth c u.heap [] 0 0 Q (F0 m 3 ls (.int (nI cap) :: rest)) → W p l e ({ frames := 5, cells := 1, slots := 40, locals := 320 } : Room) u m #[.ref (a 4), .ref (a (100 + nl)), .ref (a 26), .int (nI nl)] below meth c u.heap [] 0 0 Q (F0 m 2 ls (.ref (a 26) :: rest)) := by
    intro ls rest Q kk
    rcases hg with ⟨hg1, hg2⟩ | hg
    · subst hg1
      subst hg2
      exact va_tlen hx hb hE.2.1 hS (v := nI 0) rfl dJx4a65c_add_72be8_2 kk
    · have hc0 : cap ≠ 0 := by rcases hg with h | h | h | h <;> omega
      rw [wA_T hc0] at hP
      exact va_alen hx hb hK.1 hP.1 2 2 (x := (cap, .inr (.inr (.inr (.inr (wEl a nl)))))) rfl rfl (v := nI cap) rfl dJx4a65c_add_72be8_2 kk
  refine lv_iload_n hx hb dJx4a65c_add_72be8_0 rfl (lv_at hl 3 rfl) ?_
  refine lv_aload_n hx hb dJx4a65c_add_72be8_1 rfl (lv_at hl 2 rfl) ?_
  refine hlen ?_
  have hc40 : cap ≤ 33 := by rcases hg with h | h | h | h | h <;> omega
  refine k_icmp_ne (P := nl = cap) (tgt := 11) hx hb dJx4a65c_add_72be8_3 (by decide) (nI_eq (by omega) (by omega)) (fun hne => ?_) (fun heq => ?_)
  · have hc0 : cap ≠ 0 := by omega
    have hgc : capP cap := hg.resolve_left (fun z9 => hc0 z9.1)
    rw [wA_T hc0] at hP
    exact lp_Jx4a65c_add_72be8_11 a S nl e0 C0 hK hE (a 26) cap (by omega) hgc hP hS (Nat.zero_le _) (Nat.zero_le _) (lv_sub hl [2, 0, 1, 3] rfl)
  · have hgg : (cap = 0 ∧ nl = 0 ∧ a 26 = e0) ∨ (cap = nl ∧ 10 ≤ cap ∧ cap ≤ 22) := by
      rcases hg with h | h | h | h | h
      · exact Or.inl ⟨h.1, by omega, h.2⟩
      · exact Or.inr ⟨by omega, by omega, by omega⟩
      · exact Or.inr ⟨by omega, by omega, by omega⟩
      · exact Or.inr ⟨by omega, by omega, by omega⟩
      · exact Or.inr ⟨by omega, by omega, by omega⟩
    have hgn : nl + 1 ≤ ncap cap ∧ capP (ncap cap) ∧ ncap cap ≠ 0 := by
      rcases hg with h | h | h | h | h
      · rw [h.1] at heq ⊢; subst heq; exact ⟨by decide, Or.inl rfl, by decide⟩
      · rw [h] at heq ⊢; subst heq; exact ⟨by decide, Or.inr (Or.inl rfl), by decide⟩
      · rw [h] at heq ⊢; subst heq; exact ⟨by decide, Or.inr (Or.inr (Or.inl rfl)), by decide⟩
      · rw [h] at heq ⊢; subst heq; exact ⟨by decide, Or.inr (Or.inr (Or.inr rfl)), by decide⟩
      · omega
    refine lv_aload_n hx hb dJx4a65c_add_72be8_6 rfl (lv_at hl 0 rfl) ?_
    refine k_goRr (H0 := u.heap) hP hA hS (va_runV (rest := []) ⟨hx, hb, hml, hown, hts⟩ (c_Jx4a65c_grow_d5877 l D q (va_A (wA q a S cap nl) u.heap.size) a S cap nl e0 hgg) (cwV 0 hts gJx4a65c_add_72be8_Jx4a65c_grow_d5877 rfl rfl rfl (by decide +kernel) ⟨Nat.le_of_ble_eq_true rfl, Nat.le_of_ble_eq_true rfl⟩) ⟨kBF_blind, (va_recv hK.1 hP.1 (ci := 0) (q0 := 1) rfl rfl), fun U hU hW => ⟨rfl, ⟨⟨by rw [hU]; exact kW_cut hP, hK.warm hW⟩, fun z9 h9 => Or.inr (by rw [← hU]; exact h9)⟩, (hE.at hS hU hW).narrow (kW_sub hP (hA))⟩⟩ rfl rfl hl.1 rfl (lv_room (Nat.le_of_ble_eq_true rfl)) dJx4a65c_add_72be8_7 ⟨Nat.le_of_ble_eq_true rfl, Nat.le_of_ble_eq_true rfl⟩) (fun z H locs hP hS => ?_)
    rw [wA_up hgn.2.2] at hP
    refine lv_astore_n (lv' := [(2, .ref z), (0, .ref (a 4)), (1, .ref (a (100 + nl))), (3, .int (nI nl))]) hx hb dJx4a65c_add_72be8_10 rfl hl (by decide) rfl (fun ls hl => ?_)
    exact lp_Jx4a65c_add_72be8_11 a S nl e0 C0 hK hE z (ncap cap) hgn.1 hgn.2.1 hP hS (Nat.le_refl _) (Nat.le_refl _) hl
