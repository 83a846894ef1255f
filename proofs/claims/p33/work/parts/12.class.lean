theorem fl_X2_covers_33 : Cond.fieldLink RX2 33 "LampCounts$Lease" "start" "I" ∈ wsX2_covers := by decide +kernel
theorem fl_X2_covers_36 : Cond.fieldLink RX2 36 "LampCounts$Lease" "end" "I" ∈ wsX2_covers := by decide +kernel
theorem in_X2_covers_X2 : ∀ w ∈ u_ws RX2 TX2 9, w ∈ wsX2_covers := by decide +kernel
set_option maxHeartbeats 4000000 in
set_option maxRecDepth 100000 in
theorem c_X2_covers (l : Launch) (D : va_G) (q : Nat → ClassId) (a : Nat → Nat) (S : Nat → Nat → Int32) (cap nl : Nat) (i : Nat) (h : Int32) (hcap : cap ≠ 0) (hi : i < nl) : Met l yX2_covers wsX2_covers ({ frames := 0, cells := 0, slots := 0, locals := 0 } : Room) (va_Pc [.ref (a (100 + i)), .int (h)] (kB D q (fun H => va_P D vwCl (wC q a S cap nl) H))) (kSi (bI (covP S i h))) 0 0 (fun _ => False) := by
  refine Met.ofW (cc := cX2_covers) (maxL := 2) (ret := (some .boolean)) (by decide) rfl ?_
  intro p e u m args below meth c s₁ B hml0 hv
  obtain ⟨rfl, hP, hK⟩ := hv
  have C0 : kAt p u m #[.ref (a (100 + i)), .int (h)] meth c cX2_covers 2 (some .boolean) RX2 wsX2_covers := kAt_of B hml0
  obtain ⟨hx, hb, hr, hml, hown, hts, hlocks⟩ := id C0
  have hl := lv_entry ([.ref (a (100 + i)), .int (h)]) (n := 2) (Nat.le_of_ble_eq_true rfl)
  rw [lg_entry_eq]
  generalize (lg_sl ([.ref (a (100 + i)), .int (h)]) ++ List.replicate (2 - (lg_sl ([.ref (a (100 + i)), .int (h)])).length) Slot.unset).toArray = ls at hl ⊢
  have hl : lv_has ls 2 [(0, .ref (a (100 + i))), (1, .int (h))] := hl
  refine lv_iload_n hx hb dX2_covers_0 rfl (lv_at hl 1 rfl) ?_
  refine lv_aload_n hx hb dX2_covers_1 rfl (lv_at hl 0 rfl) ?_
  refine va_get (D := D) (ci := 3) (v := .int (S 35 i)) (C := RX2) (T := TX2) (N := 9) hx hb hts in_X2_covers_X2 hown hK.1 hP (27 + i) (wC_ls hcap hi) rfl 5 (by decide) (hts _ fl_X2_covers_33) (fun _ h9 => h9) rfl dX2_covers_2 ?_
  refine k_icmp_lt (P := h < S 35 i) (tgt := 20) hx hb dX2_covers_5 (by decide) Iff.rfl (fun c_1 => ?_) (fun c_1 => ?_)
  · skip
    refine lv_iconst (v := nI 0) hx hb dX2_covers_20 (by decide) ?_
    exact k_zretS hx hb hr hlocks rfl rfl rfl (by exact (bI_f (fun z => z.1 c_1)).symm) dX2_covers_21
  · skip
    refine lv_iload_n hx hb dX2_covers_8 rfl (lv_at hl 1 rfl) ?_
    refine lv_aload_n hx hb dX2_covers_9 rfl (lv_at hl 0 rfl) ?_
    refine va_get (D := D) (ci := 3) (v := .int (S 36 i)) (C := RX2) (T := TX2) (N := 9) hx hb hts in_X2_covers_X2 hown hK.1 hP (27 + i) (wC_ls hcap hi) rfl 6 (by decide) (hts _ fl_X2_covers_36) (fun _ h9 => h9) rfl dX2_covers_10 ?_
    refine k_icmp_ge (P := h < S 36 i) (tgt := 20) hx hb dX2_covers_13 (by decide) Iff.rfl (fun c_2 => ?_) (fun c_2 => ?_)
    · skip
      refine lv_iconst (v := nI 0) hx hb dX2_covers_20 (by decide) ?_
      exact k_zretS hx hb hr hlocks rfl rfl rfl (by exact (bI_f (fun z => c_2 z.2)).symm) dX2_covers_21
    · skip
      refine lv_iconst (v := nI 1) hx hb dX2_covers_16 (by decide) ?_
      refine lv_goto (tgt := 21) hx hb dX2_covers_17 (by decide) ?_
      exact k_zretS hx hb hr hlocks rfl rfl rfl (by exact (bI_t ⟨c_1, c_2⟩).symm) dX2_covers_21
theorem fl_X2_rentFor_27 : Cond.fieldLink RX2 27 "LampCounts$Lease" "base" "I" ∈ wsX2_rentFor := by decide +kernel
theorem fl_X2_rentFor_30 : Cond.fieldLink RX2 30 "LampCounts$Lease" "rate" "I" ∈ wsX2_rentFor := by decide +kernel
theorem in_X2_rentFor_X2 : ∀ w ∈ u_ws RX2 TX2 9, w ∈ wsX2_rentFor := by decide +kernel
set_option maxHeartbeats 4000000 in
set_option maxRecDepth 100000 in
theorem c_X2_rentFor (l : Launch) (D : va_G) (q : Nat → ClassId) (a : Nat → Nat) (S : Nat → Nat → Int32) (cap nl : Nat) (i : Nat) (c0 : Int32) (hcap : cap ≠ 0) (hi : i < nl) : Met l yX2_rentFor wsX2_rentFor ({ frames := 0, cells := 0, slots := 0, locals := 0 } : Room) (va_Pc [.ref (a (100 + i)), .int (c0)] (kB D q (fun H => va_P D vwCl (wC q a S cap nl) H))) (kSi (rentF S i c0)) 0 0 (fun _ => False) := by
  refine Met.ofW (cc := cX2_rentFor) (maxL := 2) (ret := (some .int)) (by decide) rfl ?_
  intro p e u m args below meth c s₁ B hml0 hv
  obtain ⟨rfl, hP, hK⟩ := hv
  have C0 : kAt p u m #[.ref (a (100 + i)), .int (c0)] meth c cX2_rentFor 2 (some .int) RX2 wsX2_rentFor := kAt_of B hml0
  obtain ⟨hx, hb, hr, hml, hown, hts, hlocks⟩ := id C0
  have hl := lv_entry ([.ref (a (100 + i)), .int (c0)]) (n := 2) (Nat.le_of_ble_eq_true rfl)
  rw [lg_entry_eq]
  generalize (lg_sl ([.ref (a (100 + i)), .int (c0)]) ++ List.replicate (2 - (lg_sl ([.ref (a (100 + i)), .int (c0)])).length) Slot.unset).toArray = ls at hl ⊢
  have hl : lv_has ls 2 [(0, .ref (a (100 + i))), (1, .int (c0))] := hl
  refine lv_aload_n hx hb dX2_rentFor_0 rfl (lv_at hl 0 rfl) ?_
  refine va_get (D := D) (ci := 3) (v := .int (S 33 i)) (C := RX2) (T := TX2) (N := 9) hx hb hts in_X2_rentFor_X2 hown hK.1 hP (27 + i) (wC_ls hcap hi) rfl 3 (by decide) (hts _ fl_X2_rentFor_27) (fun _ h9 => h9) rfl dX2_rentFor_1 ?_
  refine lv_aload_n hx hb dX2_rentFor_4 rfl (lv_at hl 0 rfl) ?_
  refine va_get (D := D) (ci := 3) (v := .int (S 34 i)) (C := RX2) (T := TX2) (N := 9) hx hb hts in_X2_rentFor_X2 hown hK.1 hP (27 + i) (wC_ls hcap hi) rfl 4 (by decide) (hts _ fl_X2_rentFor_30) (fun _ h9 => h9) rfl dX2_rentFor_5 ?_
  refine lv_iload_n hx hb dX2_rentFor_8 rfl (lv_at hl 1 rfl) ?_
  refine lv_imul hx hb dX2_rentFor_9 ?_
  refine lv_bipush (v := nI 100) hx hb dX2_rentFor_10 (by decide) ?_
  refine lv_idiv hx hb dX2_rentFor_12 (by decide) ?_
  refine lv_iadd hx hb dX2_rentFor_13 ?_
  exact k_iretS hx hb hr hlocks rfl rfl (by rfl) dX2_rentFor_14
theorem fl_Jx4a65c_size_8abf5_48 : Cond.fieldLink RJx4a65c 48 "java/util/ArrayList" "size" "I" ∈ wsJx4a65c_size_8abf5 := by decide +kernel
theorem in_Jx4a65c_size_8abf5_Jx4a65c : ∀ w ∈ u_ws RJx4a65c TJx4a65c 3, w ∈ wsJx4a65c_size_8abf5 := by decide +kernel
set_option maxHeartbeats 4000000 in
set_option maxRecDepth 100000 in
theorem c_Jx4a65c_size_8abf5 (l : Launch) (D : va_G) (q : Nat → ClassId) (a : Nat → Nat) (S : Nat → Nat → Int32) (cap nl : Nat)   : Met l yJx4a65c_size_8abf5 wsJx4a65c_size_8abf5 ({ frames := 0, cells := 0, slots := 0, locals := 0 } : Room) (va_Pc [.ref (a 4)] (kB D q (fun H => va_P D vwCl (wC q a S cap nl) H))) (kSi (nI nl)) 0 0 (fun _ => False) := by
  refine Met.ofW (cc := cJx4a65c_size_8abf5) (maxL := 1) (ret := (some .int)) (by decide) rfl ?_
  intro p e u m args below meth c s₁ B hml0 hv
  obtain ⟨rfl, hP, hK⟩ := hv
  have C0 : kAt p u m #[.ref (a 4)] meth c cJx4a65c_size_8abf5 1 (some .int) RJx4a65c wsJx4a65c_size_8abf5 := kAt_of B hml0
  obtain ⟨hx, hb, hr, hml, hown, hts, hlocks⟩ := id C0
  have hl := lv_entry ([.ref (a 4)]) (n := 1) (Nat.le_of_ble_eq_true rfl)
  rw [lg_entry_eq]
  generalize (lg_sl ([.ref (a 4)]) ++ List.replicate (1 - (lg_sl ([.ref (a 4)])).length) Slot.unset).toArray = ls at hl ⊢
  have hl : lv_has ls 1 [(0, .ref (a 4))] := hl
  refine lv_aload_n hx hb dJx4a65c_size_8abf5_0 rfl (lv_at hl 0 rfl) ?_
  refine va_get (D := D) (ci := 0) (v := .int (nI nl)) (C := RJx4a65c) (T := TJx4a65c) (N := 3) hx hb hts in_Jx4a65c_size_8abf5_Jx4a65c hown hK.1 hP 4 rfl rfl 2 (by decide) (hts _ fl_Jx4a65c_size_8abf5_48) (fun _ h9 => h9) rfl dJx4a65c_size_8abf5_1 ?_
  exact k_iretS hx hb hr hlocks rfl rfl (by rfl) dJx4a65c_size_8abf5_4
set_option maxHeartbeats 4000000 in
set_option maxRecDepth 100000 in
theorem c_J3_checkIndex_8e157 (l : Launch) (D : va_G) (q : Nat → ClassId) (i n : Nat) (hi : i < n) (hn : n < 2 ^ 31) : Met l yJ3_checkIndex_8e157 wsJ3_checkIndex_8e157 ({ frames := 0, cells := 0, slots := 0, locals := 0 } : Room) (va_Pc [.int (nI i), .int (nI n), .null] (kB D q (fun _ => True))) (kSi (nI i)) 0 0 (fun _ => False) := by
  refine Met.ofW (cc := cJ3_checkIndex_8e157) (maxL := 3) (ret := (some .int)) (by decide) rfl ?_
  intro p e u m args below meth c s₁ B hml0 hv
  obtain ⟨rfl, hP, hK⟩ := hv
  have C0 : kAt p u m #[.int (nI i), .int (nI n), .null] meth c cJ3_checkIndex_8e157 3 (some .int) RJ3 wsJ3_checkIndex_8e157 := kAt_of B hml0
  obtain ⟨hx, hb, hr, hml, hown, hts, hlocks⟩ := id C0
  have hl := lv_entry ([.int (nI i), .int (nI n), .null]) (n := 3) (Nat.le_of_ble_eq_true rfl)
  rw [lg_entry_eq]
  generalize (lg_sl ([.int (nI i), .int (nI n), .null]) ++ List.replicate (3 - (lg_sl ([.int (nI i), .int (nI n), .null])).length) Slot.unset).toArray = ls at hl ⊢
  have hl : lv_has ls 3 [(0, .int (nI i)), (1, .int (nI n)), (2, .null)] := hl
  refine lv_iload_n hx hb dJ3_checkIndex_8e157_0 rfl (lv_at hl 0 rfl) ?_
  refine k_if_lt (P := False) (tgt := 9) hx hb dJ3_checkIndex_8e157_1 (by decide) (k_nlt0 (by omega)) (fun c_1 => ?_) (fun c_1 => ?_)
  · skip
    exact c_1.elim
  · skip
    refine lv_iload_n hx hb dJ3_checkIndex_8e157_4 rfl (lv_at hl 0 rfl) ?_
    refine lv_iload_n hx hb dJ3_checkIndex_8e157_5 rfl (lv_at hl 1 rfl) ?_
    refine k_icmp_lt (P := i < n) (tgt := 16) hx hb dJ3_checkIndex_8e157_6 (by decide) (nI_ltI (by omega) (by omega)) (fun c_2 => ?_) (fun c_2 => ?_)
    · skip
      refine lv_iload_n hx hb dJ3_checkIndex_8e157_16 rfl (lv_at hl 0 rfl) ?_
      exact k_iretS hx hb hr hlocks rfl rfl (by first | (simp only [if_pos c_2]; done) | (simp only [if_pos c_2]; rfl) | (simp [if_pos c_2]; done) | rfl) dJ3_checkIndex_8e157_17
    · skip
      exact absurd hi c_2
set_option maxHeartbeats 4000000 in
set_option maxRecDepth 100000 in
theorem c_J15_checkIndex_7cf53 (l : Launch) (D : va_G) (q : Nat → ClassId) (i n : Nat) (hi : i < n) (hn : n < 2 ^ 31) : Met l yJ15_checkIndex_7cf53 wsJ15_checkIndex_7cf53 ({ frames := 1, cells := 0, slots := 0, locals := 22 } : Room) (va_Pc [.int (nI i), .int (nI n)] (kB D q (fun _ => True))) (kSi (nI i)) 0 0 (fun _ => False) := by
  refine Met.ofW (cc := cJ15_checkIndex_7cf53) (maxL := 2) (ret := (some .int)) (by decide) rfl ?_
  intro p e u m args below meth c s₁ B hml0 hv
  obtain ⟨rfl, hP, hK⟩ := hv
  have C0 : kAt p u m #[.int (nI i), .int (nI n)] meth c cJ15_checkIndex_7cf53 2 (some .int) RJ15 wsJ15_checkIndex_7cf53 := kAt_of B hml0
  obtain ⟨hx, hb, hr, hml, hown, hts, hlocks⟩ := id C0
  have hl := lv_entry ([.int (nI i), .int (nI n)]) (n := 2) (Nat.le_of_ble_eq_true rfl)
  rw [lg_entry_eq]
  generalize (lg_sl ([.int (nI i), .int (nI n)]) ++ List.replicate (2 - (lg_sl ([.int (nI i), .int (nI n)])).length) Slot.unset).toArray = ls at hl ⊢
  have hl : lv_has ls 2 [(0, .int (nI i)), (1, .int (nI n))] := hl
  refine lv_iload_n hx hb dJ15_checkIndex_7cf53_0 rfl (lv_at hl 0 rfl) ?_
  refine lv_iload_n hx hb dJ15_checkIndex_7cf53_1 rfl (lv_at hl 1 rfl) ?_
  refine lv_null hx hb dJ15_checkIndex_7cf53_2 ?_
  refine k_callS (rest := []) (r := nI i) ⟨hx, hb, hml, hown, hts⟩ (c_J3_checkIndex_8e157 l D q i n (by omega) (by omega)) (va_cwS 3 hts gJ15_checkIndex_7cf53_J3_checkIndex_8e157 rfl rfl rfl (by decide +kernel) ⟨Nat.le_of_ble_eq_true rfl, Nat.le_of_ble_eq_true rfl⟩) hK trivial rfl hl.1 rfl (Nat.le_of_ble_eq_true rfl) dJ15_checkIndex_7cf53_3 ⟨Nat.zero_le _, Nat.zero_le _⟩ (fun _ h => h) ?_
  exact k_iretS hx hb hr hlocks rfl rfl (by rfl) dJ15_checkIndex_7cf53_6
theorem fl_Jx4a65c_elementData_915e3_9 : Cond.fieldLink RJx4a65c 9 "java/util/ArrayList" "elementData" "[Ljava/lang/Object;" ∈ wsJx4a65c_elementData_915e3 := by decide +kernel
theorem in_Jx4a65c_elementData_915e3_Jx4a65c : ∀ w ∈ u_ws RJx4a65c TJx4a65c 3, w ∈ wsJx4a65c_elementData_915e3 := by decide +kernel
set_option maxHeartbeats 4000000 in
set_option maxRecDepth 100000 in
theorem c_Jx4a65c_elementData_915e3 (l : Launch) (D : va_G) (q : Nat → ClassId) (a : Nat → Nat) (S : Nat → Nat → Int32) (cap nl : Nat) (i : Nat) (hnl : nl ≤ cap ∧ cap ≤ 40 ∧ nl ≤ 30) (hi : i < nl) : Met l yJx4a65c_elementData_915e3 wsJx4a65c_elementData_915e3 ({ frames := 0, cells := 0, slots := 0, locals := 0 } : Room) (va_Pc [.ref (a 4), .int (nI i)] (kB D q (fun H => va_P D vwCl (wC q a S cap nl) H))) (kSr (a (100 + i))) 0 0 (fun _ => False) := by
  refine Met.ofW (cc := cJx4a65c_elementData_915e3) (maxL := 2) (ret := (some (.object "java/lang/Object"))) (by decide) rfl ?_
  intro p e u m args below meth c s₁ B hml0 hv
  obtain ⟨rfl, hP, hK⟩ := hv
  have C0 : kAt p u m #[.ref (a 4), .int (nI i)] meth c cJx4a65c_elementData_915e3 2 (some (.object "java/lang/Object")) RJx4a65c wsJx4a65c_elementData_915e3 := kAt_of B hml0
  obtain ⟨hx, hb, hr, hml, hown, hts, hlocks⟩ := id C0
  have hl := lv_entry ([.ref (a 4), .int (nI i)]) (n := 2) (Nat.le_of_ble_eq_true rfl)
  rw [lg_entry_eq]
  generalize (lg_sl ([.ref (a 4), .int (nI i)]) ++ List.replicate (2 - (lg_sl ([.ref (a 4), .int (nI i)])).length) Slot.unset).toArray = ls at hl ⊢
  have hl : lv_has ls 2 [(0, .ref (a 4)), (1, .int (nI i))] := hl
  refine lv_aload_n hx hb dJx4a65c_elementData_915e3_0 rfl (lv_at hl 0 rfl) ?_
  refine va_get (D := D) (ci := 0) (v := .ref (a 26)) (C := RJx4a65c) (T := TJx4a65c) (N := 3) hx hb hts in_Jx4a65c_elementData_915e3_Jx4a65c hown hK.1 hP 4 rfl rfl 1 (by decide) (hts _ fl_Jx4a65c_elementData_915e3_9) (fun _ h9 => h9) rfl dJx4a65c_elementData_915e3_1 ?_
  refine lv_iload_n hx hb dJx4a65c_elementData_915e3_4 rfl (lv_at hl 1 rfl) ?_
  refine k_aald hx hb hK hP (by omega) (by omega) (by omega) dJx4a65c_elementData_915e3_5 ?_
  exact k_aretS hx hb hr (Or.inl ⟨_, rfl⟩) hlocks rfl rfl (by rfl) dJx4a65c_elementData_915e3_6
theorem fl_Jx4a65c_get_915e3_48 : Cond.fieldLink RJx4a65c 48 "java/util/ArrayList" "size" "I" ∈ wsJx4a65c_get_915e3 := by decide +kernel
theorem in_Jx4a65c_get_915e3_Jx4a65c : ∀ w ∈ u_ws RJx4a65c TJx4a65c 3, w ∈ wsJx4a65c_get_915e3 := by decide +kernel
set_option maxHeartbeats 4000000 in
set_option maxRecDepth 100000 in
theorem c_Jx4a65c_get_915e3 (l : Launch) (D : va_G) (q : Nat → ClassId) (a : Nat → Nat) (S : Nat → Nat → Int32) (cap nl : Nat) (i : Nat) (hnl : nl ≤ cap ∧ cap ≤ 40 ∧ nl ≤ 30) (hi : i < nl) : Met l yJx4a65c_get_915e3 wsJx4a65c_get_915e3 ({ frames := 2, cells := 0, slots := 0, locals := 43 } : Room) (va_Pc [.ref (a 4), .int (nI i)] (kB D q (fun H => va_P D vwCl (wC q a S cap nl) H))) (kSr (a (100 + i))) 0 0 (fun _ => False) := by
  refine Met.ofW (cc := cJx4a65c_get_915e3) (maxL := 2) (ret := (some (.object "java/lang/Object"))) (by decide) rfl ?_
  intro p e u m args below meth c s₁ B hml0 hv
  obtain ⟨rfl, hP, hK⟩ := hv
  have C0 : kAt p u m #[.ref (a 4), .int (nI i)] meth c cJx4a65c_get_915e3 2 (some (.object "java/lang/Object")) RJx4a65c wsJx4a65c_get_915e3 := kAt_of B hml0
  obtain ⟨hx, hb, hr, hml, hown, hts, hlocks⟩ := id C0
  have hl := lv_entry ([.ref (a 4), .int (nI i)]) (n := 2) (Nat.le_of_ble_eq_true rfl)
  rw [lg_entry_eq]
  generalize (lg_sl ([.ref (a 4), .int (nI i)]) ++ List.replicate (2 - (lg_sl ([.ref (a 4), .int (nI i)])).length) Slot.unset).toArray = ls at hl ⊢
  have hl : lv_has ls 2 [(0, .ref (a 4)), (1, .int (nI i))] := hl
  refine lv_iload_n hx hb dJx4a65c_get_915e3_0 rfl (lv_at hl 1 rfl) ?_
  refine lv_aload_n hx hb dJx4a65c_get_915e3_1 rfl (lv_at hl 0 rfl) ?_
  refine va_get (D := D) (ci := 0) (v := .int (nI nl)) (C := RJx4a65c) (T := TJx4a65c) (N := 3) hx hb hts in_Jx4a65c_get_915e3_Jx4a65c hown hK.1 hP 4 rfl rfl 2 (by decide) (hts _ fl_Jx4a65c_get_915e3_48) (fun _ h9 => h9) rfl dJx4a65c_get_915e3_2 ?_
  refine k_callS (rest := []) (r := nI i) ⟨hx, hb, hml, hown, hts⟩ (c_J15_checkIndex_7cf53 l D q i nl (by omega) (by omega)) (va_cwS 2 hts gJx4a65c_get_915e3_J15_checkIndex_7cf53 rfl rfl rfl (by decide +kernel) ⟨Nat.le_of_ble_eq_true rfl, Nat.le_of_ble_eq_true rfl⟩) hK trivial rfl hl.1 rfl (Nat.le_of_ble_eq_true rfl) dJx4a65c_get_915e3_5 ⟨Nat.zero_le _, Nat.zero_le _⟩ (fun _ h => h) ?_
  refine lv_pop hx hb dJx4a65c_get_915e3_8 rfl ?_
  refine lv_aload_n hx hb dJx4a65c_get_915e3_9 rfl (lv_at hl 0 rfl) ?_
  refine lv_iload_n hx hb dJx4a65c_get_915e3_10 rfl (lv_at hl 1 rfl) ?_
  refine k_callVr (rest := []) (r := a (100 + i)) ⟨hx, hb, hml, hown, hts⟩ (c_Jx4a65c_elementData_915e3 l D q a S cap nl i hnl (by omega)) (cwV 1 hts gJx4a65c_get_915e3_Jx4a65c_elementData_915e3 rfl rfl rfl (by decide +kernel) ⟨Nat.le_of_ble_eq_true rfl, Nat.le_of_ble_eq_true rfl⟩) hK hP (va_recv hK.1 hP (ci := 0) (q0 := 4) rfl rfl) rfl hl.1 rfl (Nat.le_of_ble_eq_true rfl) dJx4a65c_get_915e3_11 ⟨Nat.zero_le _, Nat.zero_le _⟩ ?_
  exact k_aretS hx hb hr (Or.inl ⟨_, rfl⟩) hlocks rfl rfl (by rfl) dJx4a65c_get_915e3_14
theorem fl_X4_billHour_19 : Cond.fieldLink RX4 19 "LampCounts" "lamps" "LLampCounts$Lamps;" ∈ wsX4_billHour := by decide +kernel
theorem fl_X4_billHour_33 : Cond.fieldLink RX4 33 "LampCounts" "made" "Ljava/util/ArrayList;" ∈ wsX4_billHour := by decide +kernel
theorem fl_X4_billHour_41 : Cond.fieldLink RX4 41 "LampCounts" "now" "I" ∈ wsX4_billHour := by decide +kernel
theorem fl_X4_billHour_163 : Cond.fieldLink RX4 163 "LampCounts$Lamps" "kept" "[I" ∈ wsX4_billHour := by decide +kernel
theorem fl_X4_billHour_178 : Cond.fieldLink RX4 178 "LampCounts$Lease" "bill" "I" ∈ wsX4_billHour := by decide +kernel
theorem fl_X4_billHour_181 : Cond.fieldLink RX4 181 "LampCounts$Lease" "section" "I" ∈ wsX4_billHour := by decide +kernel
theorem in_X4_billHour_X1 : ∀ w ∈ u_ws RX1 TX1 8, w ∈ wsX4_billHour := by decide +kernel
theorem in_X4_billHour_X2 : ∀ w ∈ u_ws RX2 TX2 9, w ∈ wsX4_billHour := by decide +kernel
theorem in_X4_billHour_X4 : ∀ w ∈ u_ws RX4 TX4 6, w ∈ wsX4_billHour := by decide +kernel
theorem cl_X4_billHour_101 : Cond.classLink RX4 101 "LampCounts$Lease" ∈ wsX4_billHour := by decide +kernel
set_option maxHeartbeats 4000000 in
set_option maxRecDepth 100000 in
theorem lp_X4_billHour_2 {p : Program} {l : Launch} {e : Env} {u : State} {m : MethodId} {below : List Frame} {meth : Method} {c : Code} {D : va_G} {q : Nat → ClassId} {A : Nat → Prop} (a : Nat → Nat) (S : Nat → Nat → Int32) (cap nl : Nat) (h : Nat) (hnl : nl ≤ cap ∧ cap ≤ 40 ∧ nl ≤ 30) (hh : h < 200) (hnow : S 0 0 = nI h) (hok : okS S nl) (C0 : kAt p u m #[.ref (a 0)] meth c cX4_billHour 3 none RX4 wsX4_billHour) (hK : kK D q u) :
    ∀ (f : Nat) (i : Nat) (T : Nat → Nat → Int32) (x1 : Int32), nl - i < f → i ≤ nl → T = bhF S h i → x1 = nI i → ∀ (H : Heap) (locs : List Loc), kW D A (wC q a T cap nl) H → va_S A u.heap H locs → ∀ (ls : Array Slot), lv_has ls 3 [(0, .ref (a 0)), (1, .int x1)] → W p l e ({ frames := 3, cells := 0, slots := 0, locals := 64 } : Room) u m #[.ref (a 0)] below meth c H locs 0 0 (MQ below (kRv D A (wC q a (bhF S h nl) cap nl)) #[.ref (a 0)] u 0 0 A) (F0 m 2 ls []) := by
  obtain ⟨hx, hb, hr, hml, hown, hts, hlocks⟩ := id C0
  intro f
  induction f with
  | zero =>
    intro i T x1 hf
    exact absurd hf (Nat.not_lt_zero _)
  | succ f ih =>
    intro i T x1 hf hi eT e1 H locs hP hS ls hl
    replace eT := eT.symm
    subst eT
    replace e1 := e1.symm
    subst e1
    refine lv_iload_n hx hb dX4_billHour_2 rfl (lv_at hl 1 rfl) ?_
    refine lv_aload_n hx hb dX4_billHour_3 rfl (lv_at hl 0 rfl) ?_
    refine va_get (D := D) (ci := 5) (v := .ref (a 4)) (C := RX4) (T := TX4) (N := 6) hx hb hts in_X4_billHour_X4 hown hK.1 hP.1 0 rfl rfl 3 (by decide) (hts _ fl_X4_billHour_33) (fun _ h9 => h9) rfl dX4_billHour_4 ?_
    refine k_callV (rest := [.int (nI i)]) (r := nI nl) ⟨hx, hb, hml, hown, hts⟩ (c_Jx4a65c_size_8abf5 l D q a (bhF S h i) cap nl) (cwV 0 hts gX4_billHour_Jx4a65c_size_8abf5 rfl rfl rfl (by decide +kernel) ⟨Nat.le_of_ble_eq_true rfl, Nat.le_of_ble_eq_true rfl⟩) hK hP.1 (va_recv hK.1 hP.1 (ci := 0) (q0 := 4) rfl rfl) rfl hl.1 rfl (Nat.le_of_ble_eq_true rfl) dX4_billHour_7 ⟨Nat.zero_le _, Nat.zero_le _⟩ (fun _ h => h) ?_
    refine k_icmp_ge (P := i < nl) (tgt := 74) hx hb dX4_billHour_10 (by decide) (nI_ltI (by omega) (by omega)) (fun c_1 => ?_) (fun c_1 => ?_)
    · skip
      have eM : bhF S h i = bhF S h nl := by rw [show i = nl from by omega]
      rw [eM] at hP
      exact k_vretW hx hb hr hlocks hP hS dX4_billHour_74
    · skip
      refine lv_aload_n hx hb dX4_billHour_13 rfl (lv_at hl 0 rfl) ?_
      refine va_get (D := D) (ci := 5) (v := .ref (a 4)) (C := RX4) (T := TX4) (N := 6) hx hb hts in_X4_billHour_X4 hown hK.1 hP.1 0 rfl rfl 3 (by decide) (hts _ fl_X4_billHour_33) (fun _ h9 => h9) rfl dX4_billHour_14 ?_
      refine lv_iload_n hx hb dX4_billHour_17 rfl (lv_at hl 1 rfl) ?_
      refine k_callVr (rest := []) (r := a (100 + i)) ⟨hx, hb, hml, hown, hts⟩ (c_Jx4a65c_get_915e3 l D q a (bhF S h i) cap nl i hnl (by omega)) (cwV 1 hts gX4_billHour_Jx4a65c_get_915e3 rfl rfl rfl (by decide +kernel) ⟨Nat.le_of_ble_eq_true rfl, Nat.le_of_ble_eq_true rfl⟩) hK hP.1 (va_recv hK.1 hP.1 (ci := 0) (q0 := 4) rfl rfl) rfl hl.1 rfl (Nat.le_of_ble_eq_true rfl) dX4_billHour_18 ⟨Nat.zero_le _, Nat.zero_le _⟩ ?_
      refine va_castS (nm := "LampCounts$Lease") hx hb hown (hts _ cl_X4_billHour_101) (hK.1.1 3 _ rfl).2 (va_recv hK.1 hP.1 (ci := 3) (q0 := 27 + i) rfl (wC_ls (by omega) (by omega))) dX4_billHour_21 ?_
      refine lv_astore_n (lv' := [(2, .ref (a (100 + i))), (0, .ref (a 0)), (1, .int (nI i))]) hx hb dX4_billHour_24 rfl hl (by decide) rfl (fun ls hl => ?_)
      refine lv_aload_n hx hb dX4_billHour_25 rfl (lv_at hl 0 rfl) ?_
      refine lv_aload_n hx hb dX4_billHour_26 rfl (lv_at hl 1 rfl) ?_
      refine va_get (D := D) (ci := 5) (v := .int ((bhF S h i) 0 0)) (C := RX4) (T := TX4) (N := 6) hx hb hts in_X4_billHour_X4 hown hK.1 hP.1 0 rfl rfl 5 (by decide) (hts _ fl_X4_billHour_41) (fun _ h9 => h9) rfl dX4_billHour_27 ?_
      refine k_top (y := nI h) ((congrFun (bhF_n (by decide) _) 0).trans hnow) ?_
      refine k_callV (rest := []) (r := bI (covP (bhF S h i) i (nI h))) ⟨hx, hb, hml, hown, hts⟩ (c_X2_covers l D q a (bhF S h i) cap nl i (nI h) (by omega) (by omega)) (cwV 1 hts gX4_billHour_X2_covers rfl rfl rfl (by decide +kernel) ⟨Nat.le_of_ble_eq_true rfl, Nat.le_of_ble_eq_true rfl⟩) hK hP.1 (va_recv hK.1 hP.1 (ci := 3) (q0 := 27 + i) rfl (wC_ls (by omega) (by omega))) rfl hl.1 rfl (Nat.le_of_ble_eq_true rfl) dX4_billHour_30 ⟨Nat.zero_le _, Nat.zero_le _⟩ (fun _ h => h) ?_
      refine k_if_eq (P := ¬ (covP (bhF S h i) i (nI h))) (tgt := 68) hx hb dX4_billHour_33 (by decide) bI_0 (fun c_2 => ?_) (fun c_2 => ?_)
      · skip
        refine lv_iinc (v := nI (i + 1)) (lv' := [(1, .int (nI (i + 1))), (2, .ref (a (100 + i))), (0, .ref (a 0))]) hx hb dX4_billHour_68 hl (k := 2) rfl (k_iinc _) (by decide) rfl (fun ls hl => ?_)
        refine lv_goto (tgt := 2) hx hb dX4_billHour_71 (by decide) ?_
        exact ih (i + 1) (bhF S h i) (nI (i + 1)) (by omega) (by first | omega | assumption) (by rw [bhF_s, if_neg c_2]) rfl _ _ hP hS ls (lv_sub hl [2, 0] rfl)
      · skip
        have c_2 : covP (bhF S h i) i (nI h) := Classical.not_not.mp c_2
        refine lv_aload_n hx hb dX4_billHour_36 rfl (lv_at hl 0 rfl) ?_
        refine lv_dup hx hb dX4_billHour_37 rfl ?_
        refine va_get (D := D) (ci := 3) (v := .int ((bhF S h i) 37 i)) (C := RX2) (T := TX2) (N := 9) hx hb hts in_X4_billHour_X2 hown hK.1 hP.1 (27 + i) (wC_ls (by omega) (by omega)) rfl 7 (by decide) (hts _ fl_X4_billHour_178) (fun _ h9 => h9) rfl dX4_billHour_38 ?_
        refine lv_aload_n hx hb dX4_billHour_41 rfl (lv_at hl 0 rfl) ?_
        refine lv_aload_n hx hb dX4_billHour_42 rfl (lv_at hl 1 rfl) ?_
        refine va_get (D := D) (ci := 5) (v := .ref (a 2)) (C := RX4) (T := TX4) (N := 6) hx hb hts in_X4_billHour_X4 hown hK.1 hP.1 0 rfl rfl 1 (by decide) (hts _ fl_X4_billHour_19) (fun _ h9 => h9) rfl dX4_billHour_43 ?_
        refine va_get (D := D) (ci := 2) (v := .ref (a 14)) (C := RX1) (T := TX1) (N := 8) hx hb hts in_X4_billHour_X1 hown hK.1 hP.1 2 rfl rfl 3 (by decide) (hts _ fl_X4_billHour_163) (fun _ h9 => h9) rfl dX4_billHour_46 ?_
        refine lv_aload_n hx hb dX4_billHour_49 rfl (lv_at hl 0 rfl) ?_
        refine va_get (D := D) (ci := 3) (v := .int ((bhF S h i) 31 i)) (C := RX2) (T := TX2) (N := 9) hx hb hts in_X4_billHour_X2 hown hK.1 hP.1 (27 + i) (wC_ls (by omega) (by omega)) rfl 1 (by decide) (hts _ fl_X4_billHour_181) (fun _ h9 => h9) rfl dX4_billHour_50 ?_
        have hsi : bhF S h i 31 i = nI (secN (bhF S h i) i) ∧ secN (bhF S h i) i < 12 := okS_congr (bhF_n (by decide) i) hok i (by omega)
        refine k_top (y := nI (secN (bhF S h i) i)) hsi.1 ?_
        refine lv_aload_n hx hb dX4_billHour_53 rfl (lv_at hl 1 rfl) ?_
        refine va_get (D := D) (ci := 5) (v := .int ((bhF S h i) 0 0)) (C := RX4) (T := TX4) (N := 6) hx hb hts in_X4_billHour_X4 hown hK.1 hP.1 0 rfl rfl 5 (by decide) (hts _ fl_X4_billHour_41) (fun _ h9 => h9) rfl dX4_billHour_54 ?_
        refine k_top (y := nI h) ((congrFun (bhF_n (by decide) _) 0).trans hnow) ?_
        refine k_callS (rest := [.ref (a 14), .ref (a (100 + i)), .int ((bhF S h i) 37 i), .ref (a (100 + i))]) (r := nI (h * 12 + (secN (bhF S h i) i))) ⟨hx, hb, hml, hown, hts⟩ (c_X4_cell l D q (secN (bhF S h i) i) h) (va_cwS 2 hts gX4_billHour_X4_cell rfl rfl rfl (by decide +kernel) ⟨Nat.le_of_ble_eq_true rfl, Nat.le_of_ble_eq_true rfl⟩) hK trivial rfl hl.1 rfl (Nat.le_of_ble_eq_true rfl) dX4_billHour_57 ⟨Nat.zero_le _, Nat.zero_le _⟩ (fun _ h => h) ?_
        refine k_iald hx hb hK hP.1 14 rfl (h * 12 + (secN (bhF S h i) i)) rfl (by have := hsi.2; omega) (by decide) dX4_billHour_60 ?_
        refine k_callV (rest := [.int ((bhF S h i) 37 i), .ref (a (100 + i))]) (r := rentF (bhF S h i) i ((bhF S h i) 14 (h * 12 + (secN (bhF S h i) i)))) ⟨hx, hb, hml, hown, hts⟩ (c_X2_rentFor l D q a (bhF S h i) cap nl i ((bhF S h i) 14 (h * 12 + (secN (bhF S h i) i))) (by omega) (by omega)) (cwV 1 hts gX4_billHour_X2_rentFor rfl rfl rfl (by decide +kernel) ⟨Nat.le_of_ble_eq_true rfl, Nat.le_of_ble_eq_true rfl⟩) hK hP.1 (va_recv hK.1 hP.1 (ci := 3) (q0 := 27 + i) rfl (wC_ls (by omega) (by omega))) rfl hl.1 rfl (Nat.le_of_ble_eq_true rfl) dX4_billHour_61 ⟨Nat.zero_le _, Nat.zero_le _⟩ (fun _ h => h) ?_
        refine lv_iadd hx hb dX4_billHour_64 ?_
        refine k_puti (wC q a ((up (bhF S h i) 37 i (((bhF S h i) 37 i) + (rentF (bhF S h i) i ((bhF S h i) 14 (h * 12 + (secN (bhF S h i) i))))))) cap nl) hx hb hts in_X4_billHour_X2 tyX2 tyX2_ok nmX2 hown hK hP hS (27 + i) (wC_ls (by omega) (by omega)) rfl 7 (by decide) (hts _ fl_X4_billHour_178) (fun _ h9 => h9) rfl (by decide +kernel) (Nat.le_of_ble_eq_true rfl) (wC_lset7 (by omega) (by omega)) dX4_billHour_65 (fun H locs hP hS => ?_)
        refine lv_iinc (v := nI (i + 1)) (lv' := [(1, .int (nI (i + 1))), (2, .ref (a (100 + i))), (0, .ref (a 0))]) hx hb dX4_billHour_68 hl (k := 2) rfl (k_iinc _) (by decide) rfl (fun ls hl => ?_)
        refine lv_goto (tgt := 2) hx hb dX4_billHour_71 (by decide) ?_
        exact ih (i + 1) ((up (bhF S h i) 37 i (((bhF S h i) 37 i) + (rentF (bhF S h i) i ((bhF S h i) 14 (h * 12 + (secN (bhF S h i) i))))))) (nI (i + 1)) (by omega) (by first | omega | assumption) (by rw [bhF_s, if_pos c_2]) rfl _ _ hP hS ls (lv_sub hl [2, 0] rfl)
set_option maxHeartbeats 4000000 in
set_option maxRecDepth 100000 in
theorem c_X4_billHour (l : Launch) (D : va_G) (q : Nat → ClassId) (A : Nat → Prop) (a : Nat → Nat) (S : Nat → Nat → Int32) (cap nl : Nat) (h : Nat) (hnl : nl ≤ cap ∧ cap ≤ 40 ∧ nl ≤ 30) (hh : h < 200) (hnow : S 0 0 = nI h) (hok : okS S nl) : Met l yX4_billHour wsX4_billHour ({ frames := 3, cells := 0, slots := 0, locals := 64 } : Room) (va_Pc [.ref (a 0)] (kB D q (fun H => kW D A (wC q a S cap nl) H))) (kRv D A (wC q a (bhF S h nl) cap nl)) 0 0 A := by
  refine Met.ofW (cc := cX4_billHour) (maxL := 3) (ret := none) (by decide) rfl ?_
  intro p e u m args below meth c s₁ B hml0 hv
  obtain ⟨rfl, hP, hK⟩ := hv
  have C0 : kAt p u m #[.ref (a 0)] meth c cX4_billHour 3 none RX4 wsX4_billHour := kAt_of B hml0
  obtain ⟨hx, hb, hr, hml, hown, hts, hlocks⟩ := id C0
  have hS : va_S A u.heap u.heap [] := va_S.rf
  have hl := lv_entry ([.ref (a 0)]) (n := 3) (Nat.le_of_ble_eq_true rfl)
  rw [lg_entry_eq]
  generalize (lg_sl ([.ref (a 0)]) ++ List.replicate (3 - (lg_sl ([.ref (a 0)])).length) Slot.unset).toArray = ls at hl ⊢
  have hl : lv_has ls 3 [(0, .ref (a 0))] := hl
  refine lv_iconst (v := nI 0) hx hb dX4_billHour_0 (by decide) ?_
  refine lv_istore_n (lv' := [(1, .int (nI 0)), (0, .ref (a 0))]) hx hb dX4_billHour_1 rfl hl (by decide) rfl (fun ls hl => ?_)
  exact lp_X4_billHour_2 a S cap nl h hnl hh hnow hok C0 hK ((nl - 0) + 1) 0 S (nI 0) (by omega) (by first | omega | assumption) (by rfl) rfl _ _ hP hS ls (lv_sub hl [1, 0] rfl)
theorem tpF_n0 {S : Nat → Nat → Int32} {h j : Nat} (hj : j ≠ 2) : ∀ x, tpF S h x 0 j = S 0 j
  | 0 => rfl
  | x + 1 => by
    have e2 : ∀ T : Nat → Nat → Int32, chM (chT T x) 0 j = T 0 j := fun T => by
      have k := congrFun (tdF_n (S := T) (x := x) (k := 0) (fw := fhF T x 6) (by decide) 6) j
      unfold chM chT
      by_cases c : (tdF T x (fhF T x 6) 6).1 = 0
      · rw [if_pos c]; exact k
      · rw [if_neg c]
        by_cases d : (tdF T x (fhF T x 6) 6).1 = 1
        · rw [if_pos d]; exact k
        · rw [if_neg d]
          unfold ltM
          by_cases f : ltN (tdF T x (fhF T x 6) 6).2 = 0
          · rw [if_pos f]; exact k
          · rw [if_neg f, rw1_n (by decide), up_sn hj]; exact k
    rw [tpF_s]
    unfold tpS
    by_cases c : chV (chT (tpF S h x) x) < 0
    · rw [if_pos c]; exact (congrFun (up_n (by decide)) j).trans ((e2 _).trans (tpF_n0 hj x))
    · rw [if_neg c]
      by_cases d : chV (chT (tpF S h x) x) < nI 6
      · rw [if_pos d]; exact (congrFun ((up_n (by decide)).trans ((up_n (by decide)).trans (up_n (by decide)))) j).trans ((e2 _).trans (tpF_n0 hj x))
      · rw [if_neg d]; exact (congrFun (up_n (by decide)) j).trans ((e2 _).trans (tpF_n0 hj x))
theorem eaI_n {S : Nat → Nat → Int32} {b k : Nat} (hk : k ≠ 21) : ∀ x, eaI S b x k = S k
  | 0 => rfl
  | x + 1 => (up_n hk).trans (eaI_n hk x)
theorem eaF_n {S : Nat → Nat → Int32} {k : Nat} (h1 : k ≠ 21) (h2 : k ≠ 22) : ∀ b, eaF S b k = S k
  | 0 => rfl
  | b + 1 => (eaI_n h1 12).trans ((up_n h2).trans (eaF_n h1 h2 b))
theorem ptM_n {S : Nat → Nat → Int32} {k : Nat} {x b : Int32} (hk : k ≠ 20) : ptM S x b k = S k := by
  unfold ptM
  by_cases c : b < 0
  · rw [if_pos c]
  · rw [if_neg c]
    by_cases d : b < nI 6
    · rw [if_pos d]; exact up_n hk
    · rw [if_neg d]
theorem wkF_n {S : Nat → Nat → Int32} {h k : Nat} (h8 : k ≠ 8) (h9 : k ≠ 9) (h20 : k ≠ 20) : ∀ x, (wkF S h x).2.2 k = S k
  | 0 => rfl
  | x + 1 => by
    rw [wkF_s]
    exact (up_n h8).trans ((up_n h9).trans ((ptM_n h20).trans (wkF_n h8 h9 h20 x)))
theorem walkM_n {S : Nat → Nat → Int32} {h k : Nat} (h8 : k ≠ 8) (h9 : k ≠ 9) (h20 : k ≠ 20) (h10 : k ≠ 10) : walkM S h k = S k := (up_n h10).trans (wkF_n h8 h9 h20 12)
theorem readF_n {S : Nat → Nat → Int32} {n h k : Nat} (h3 : k ≠ 13) (h4 : k ≠ 14) : readF S n h k = S k := (gpF_n h4 12).trans ((kpF_n h4 12).trans (rdF_n h3 12))
/-- rows that the buskers' places don't touch -/
theorem tpF_n {S : Nat → Nat → Int32} {h k : Nat} (h0 : k ≠ 0) (h19 : k ≠ 19) (h22 : k ≠ 22) (h23 : k ≠ 23) (h24 : k ≠ 24) (h25 : k ≠ 25) : ∀ x, tpF S h x k = S k
  | 0 => rfl
  | x + 1 => by
    have e2 : ∀ T : Nat → Nat → Int32, chM (chT T x) k = T k := fun T => by
      have e := tdF_n (S := T) (x := x) (k := k) (fw := fhF T x 6) h23 6
      unfold chM chT
      by_cases c : (tdF T x (fhF T x 6) 6).1 = 0
      · rw [if_pos c]; exact e
      · rw [if_neg c]
        by_cases d : (tdF T x (fhF T x 6) 6).1 = 1
        · rw [if_pos d]; exact e
        · rw [if_neg d]
          unfold ltM
          by_cases f : ltN (tdF T x (fhF T x 6) 6).2 = 0
          · rw [if_pos f]; exact e
          · rw [if_neg f, rw1_n h25, up_n h0]; exact e
    rw [tpF_s]
    unfold tpS
    by_cases c : chV (chT (tpF S h x) x) < 0
    · rw [if_pos c]; exact (up_n h24).trans ((e2 _).trans (tpF_n h0 h19 h22 h23 h24 h25 x))
    · rw [if_neg c]
      by_cases d : chV (chT (tpF S h x) x) < nI 6
      · rw [if_pos d]; exact (up_n h19).trans ((up_n h22).trans ((up_n h24).trans ((e2 _).trans (tpF_n h0 h19 h22 h23 h24 h25 x))))
      · rw [if_neg d]; exact (up_n h24).trans ((e2 _).trans (tpF_n h0 h19 h22 h23 h24 h25 x))
theorem fl_X4_endHour_12 : Cond.fieldLink RX4 12 "LampCounts" "street" "LLampCounts$Street;" ∈ wsX4_endHour := by decide +kernel
theorem fl_X4_endHour_19 : Cond.fieldLink RX4 19 "LampCounts" "lamps" "LLampCounts$Lamps;" ∈ wsX4_endHour := by decide +kernel
theorem fl_X4_endHour_26 : Cond.fieldLink RX4 26 "LampCounts" "buskers" "LLampCounts$Buskers;" ∈ wsX4_endHour := by decide +kernel
theorem fl_X4_endHour_41 : Cond.fieldLink RX4 41 "LampCounts" "now" "I" ∈ wsX4_endHour := by decide +kernel
theorem in_X4_endHour_X4 : ∀ w ∈ u_ws RX4 TX4 6, w ∈ wsX4_endHour := by decide +kernel
set_option maxHeartbeats 4000000 in
set_option maxRecDepth 100000 in
theorem c_X4_endHour (l : Launch) (D : va_G) (q : Nat → ClassId) (A : Nat → Prop) (a : Nat → Nat) (S : Nat → Nat → Int32) (cap nl : Nat) (n h : Nat) (hn : S 0 1 = nI n) (hn60 : n ≤ 60) (hnl : nl ≤ cap ∧ cap ≤ 40 ∧ nl ≤ 30) (hh : h < 200) (hnow : S 0 0 = nI h) (hok : okS S nl) (hlt : okL S) : Met l yX4_endHour wsX4_endHour ({ frames := 5, cells := 0, slots := 0, locals := 134 } : Room) (va_Pc [.ref (a 0)] (kB D q (fun H => kW D A (wC q a S cap nl) H))) (kRi D A (ehV S h) (wC q a (ehM S n nl h) cap nl)) 0 0 A := by
  refine Met.ofW (cc := cX4_endHour) (maxL := 2) (ret := (some .int)) (by decide) rfl ?_
  intro p e u m args below meth c s₁ B hml0 hv
  obtain ⟨rfl, hP, hK⟩ := hv
  have C0 : kAt p u m #[.ref (a 0)] meth c cX4_endHour 2 (some .int) RX4 wsX4_endHour := kAt_of B hml0
  obtain ⟨hx, hb, hr, hml, hown, hts, hlocks⟩ := id C0
  have hS : va_S A u.heap u.heap [] := va_S.rf
  have hl := lv_entry ([.ref (a 0)]) (n := 2) (Nat.le_of_ble_eq_true rfl)
  rw [lg_entry_eq]
  generalize (lg_sl ([.ref (a 0)]) ++ List.replicate (2 - (lg_sl ([.ref (a 0)])).length) Slot.unset).toArray = ls at hl ⊢
  have hl : lv_has ls 2 [(0, .ref (a 0))] := hl
  have g1 : ∀ j, j ≠ 2 → (eaF (tpF S h 12) 6) 0 j = S 0 j := fun j hj => (congrFun (eaF_n (by decide) (by decide) 6) j).trans (tpF_n0 hj 12)
  have g2 : ∀ j, j ≠ 2 → (walkM (eaF (tpF S h 12) 6) h) 0 j = S 0 j := fun j hj => (congrFun (walkM_n (by decide) (by decide) (by decide) (by decide)) j).trans (g1 j hj)
  have g3 : ∀ j, j ≠ 2 → (readF (walkM (eaF (tpF S h 12) 6) h) n h) 0 j = S 0 j := fun j hj => (congrFun (readF_n (by decide) (by decide)) j).trans (g2 j hj)
  have g4 : bhF (readF (walkM (eaF (tpF S h 12) 6) h) n h) h nl 0 0 = S 0 0 := (congrFun (bhF_n (by decide) nl) 0).trans (g3 0 (by decide))
  have go : (readF (walkM (eaF (tpF S h 12) 6) h) n h) 31 = S 31 := (readF_n (by decide) (by decide)).trans ((walkM_n (by decide) (by decide) (by decide) (by decide)).trans ((eaF_n (by decide) (by decide) 6).trans (tpF_n (by decide) (by decide) (by decide) (by decide) (by decide) (by decide) 12)))
  refine lv_aload_n hx hb dX4_endHour_0 rfl (lv_at hl 0 rfl) ?_
  refine va_get (D := D) (ci := 5) (v := .ref (a 3)) (C := RX4) (T := TX4) (N := 6) hx hb hts in_X4_endHour_X4 hown hK.1 hP.1 0 rfl rfl 2 (by decide) (hts _ fl_X4_endHour_26) (fun _ h9 => h9) rfl dX4_endHour_1 ?_
  refine lv_aload_n hx hb dX4_endHour_4 rfl (lv_at hl 0 rfl) ?_
  refine va_get (D := D) (ci := 5) (v := .int (S 0 0)) (C := RX4) (T := TX4) (N := 6) hx hb hts in_X4_endHour_X4 hown hK.1 hP.1 0 rfl rfl 5 (by decide) (hts _ fl_X4_endHour_41) (fun _ h9 => h9) rfl dX4_endHour_5 ?_
  refine k_top (y := nI h) hnow ?_
  refine k_goRv hS (va_runV (rest := []) ⟨hx, hb, hml, hown, hts⟩ (c_X0_takePlaces l D q A a S cap nl h (by omega) hlt) (cwV 1 hts gX4_endHour_X0_takePlaces rfl rfl rfl (by decide +kernel) ⟨Nat.le_of_ble_eq_true rfl, Nat.le_of_ble_eq_true rfl⟩) ⟨kB_blind, (va_recv hK.1 hP.1 (ci := 1) (q0 := 3) rfl rfl), fun U hU hW => ⟨rfl, by rw [hU]; exact hP, hK.warm hW⟩⟩ rfl rfl hl.1 rfl (lv_room (Nat.le_of_ble_eq_true rfl)) dX4_endHour_8 ⟨Nat.zero_le _, Nat.zero_le _⟩) (fun H locs hP hS => ?_)
  refine lv_aload_n hx hb dX4_endHour_11 rfl (lv_at hl 0 rfl) ?_
  refine va_get (D := D) (ci := 5) (v := .ref (a 1)) (C := RX4) (T := TX4) (N := 6) hx hb hts in_X4_endHour_X4 hown hK.1 hP.1 0 rfl rfl 0 (by decide) (hts _ fl_X4_endHour_12) (fun _ h9 => h9) rfl dX4_endHour_12 ?_
  refine lv_aload_n hx hb dX4_endHour_15 rfl (lv_at hl 0 rfl) ?_
  refine va_get (D := D) (ci := 5) (v := .int ((eaF (tpF S h 12) 6) 0 0)) (C := RX4) (T := TX4) (N := 6) hx hb hts in_X4_endHour_X4 hown hK.1 hP.1 0 rfl rfl 5 (by decide) (hts _ fl_X4_endHour_41) (fun _ h9 => h9) rfl dX4_endHour_16 ?_
  refine k_top (y := nI h) ((g1 0 (by decide)).trans hnow) ?_
  refine lv_aload_n hx hb dX4_endHour_19 rfl (lv_at hl 0 rfl) ?_
  refine va_get (D := D) (ci := 5) (v := .ref (a 3)) (C := RX4) (T := TX4) (N := 6) hx hb hts in_X4_endHour_X4 hown hK.1 hP.1 0 rfl rfl 2 (by decide) (hts _ fl_X4_endHour_26) (fun _ h9 => h9) rfl dX4_endHour_20 ?_
  refine k_goRi hS (va_runV (rest := []) ⟨hx, hb, hml, hown, hts⟩ (c_X3_walk l D q A a (eaF (tpF S h 12) 6) cap nl h (by omega)) (cwV 2 hts gX4_endHour_X3_walk rfl rfl rfl (by decide +kernel) ⟨Nat.le_of_ble_eq_true rfl, Nat.le_of_ble_eq_true rfl⟩) ⟨kB_blind, (va_recv hK.1 hP.1 (ci := 4) (q0 := 1) rfl rfl), fun U hU hW => ⟨rfl, by rw [hU]; exact hP, hK.warm hW⟩⟩ rfl rfl hl.1 rfl (lv_room (Nat.le_of_ble_eq_true rfl)) dX4_endHour_23 ⟨Nat.zero_le _, Nat.zero_le _⟩) (fun H locs hP hS => ?_)
  refine lv_istore_n (lv' := [(1, .int ((wkF (eaF (tpF S h 12) 6) h 12).1)), (0, .ref (a 0))]) hx hb dX4_endHour_26 rfl hl (by decide) rfl (fun ls hl => ?_)
  refine lv_aload_n hx hb dX4_endHour_27 rfl (lv_at hl 1 rfl) ?_
  refine va_get (D := D) (ci := 5) (v := .ref (a 2)) (C := RX4) (T := TX4) (N := 6) hx hb hts in_X4_endHour_X4 hown hK.1 hP.1 0 rfl rfl 1 (by decide) (hts _ fl_X4_endHour_19) (fun _ h9 => h9) rfl dX4_endHour_28 ?_
  refine lv_aload_n hx hb dX4_endHour_31 rfl (lv_at hl 1 rfl) ?_
  refine va_get (D := D) (ci := 5) (v := .int ((walkM (eaF (tpF S h 12) 6) h) 0 0)) (C := RX4) (T := TX4) (N := 6) hx hb hts in_X4_endHour_X4 hown hK.1 hP.1 0 rfl rfl 5 (by decide) (hts _ fl_X4_endHour_41) (fun _ h9 => h9) rfl dX4_endHour_32 ?_
  refine k_top (y := nI h) ((g2 0 (by decide)).trans hnow) ?_
  refine lv_aload_n hx hb dX4_endHour_35 rfl (lv_at hl 1 rfl) ?_
  refine va_get (D := D) (ci := 5) (v := .ref (a 1)) (C := RX4) (T := TX4) (N := 6) hx hb hts in_X4_endHour_X4 hown hK.1 hP.1 0 rfl rfl 0 (by decide) (hts _ fl_X4_endHour_12) (fun _ h9 => h9) rfl dX4_endHour_36 ?_
  refine k_goRv hS (va_runV (rest := []) ⟨hx, hb, hml, hown, hts⟩ (c_X1_read l D q A a (walkM (eaF (tpF S h 12) 6) h) cap nl h n (by omega) ((g2 1 (by decide)).trans hn) hn60) (cwV 2 hts gX4_endHour_X1_read rfl rfl rfl (by decide +kernel) ⟨Nat.le_of_ble_eq_true rfl, Nat.le_of_ble_eq_true rfl⟩) ⟨kB_blind, (va_recv hK.1 hP.1 (ci := 2) (q0 := 2) rfl rfl), fun U hU hW => ⟨rfl, by rw [hU]; exact hP, hK.warm hW⟩⟩ rfl rfl hl.1 rfl (lv_room (Nat.le_of_ble_eq_true rfl)) dX4_endHour_39 ⟨Nat.zero_le _, Nat.zero_le _⟩) (fun H locs hP hS => ?_)
  refine lv_aload_n hx hb dX4_endHour_42 rfl (lv_at hl 1 rfl) ?_
  refine k_goRv hS (va_runV (rest := []) ⟨hx, hb, hml, hown, hts⟩ (c_X4_billHour l D q A a (readF (walkM (eaF (tpF S h 12) 6) h) n h) cap nl h hnl hh ((g3 0 (by decide)).trans hnow) (okS_congr go hok)) (cwV 0 hts gX4_endHour_X4_billHour rfl rfl rfl (by decide +kernel) ⟨Nat.le_of_ble_eq_true rfl, Nat.le_of_ble_eq_true rfl⟩) ⟨kB_blind, (va_recv hK.1 hP.1 (ci := 5) (q0 := 0) rfl rfl), fun U hU hW => ⟨rfl, by rw [hU]; exact hP, hK.warm hW⟩⟩ rfl rfl hl.1 rfl (lv_room (Nat.le_of_ble_eq_true rfl)) dX4_endHour_43 ⟨Nat.zero_le _, Nat.zero_le _⟩) (fun H locs hP hS => ?_)
  refine lv_aload_n hx hb dX4_endHour_46 rfl (lv_at hl 1 rfl) ?_
  refine lv_dup hx hb dX4_endHour_47 rfl ?_
  refine va_get (D := D) (ci := 5) (v := .int ((bhF (readF (walkM (eaF (tpF S h 12) 6) h) n h) h nl) 0 0)) (C := RX4) (T := TX4) (N := 6) hx hb hts in_X4_endHour_X4 hown hK.1 hP.1 0 rfl rfl 5 (by decide) (hts _ fl_X4_endHour_41) (fun _ h9 => h9) rfl dX4_endHour_48 ?_
  refine k_top (y := nI h) (g4.trans hnow) ?_
  refine lv_iconst (v := nI 1) hx hb dX4_endHour_51 (by decide) ?_
  refine lv_iadd hx hb dX4_endHour_52 ?_
  refine k_top (y := nI (h + 1)) (nI_add _ _) ?_
  refine k_puti (wC q a ((up (bhF (readF (walkM (eaF (tpF S h 12) 6) h) n h) h nl) 0 0 (nI (h + 1)))) cap nl) hx hb hts in_X4_endHour_X4 tyX4 tyX4_ok nmX4 hown hK hP hS 0 rfl rfl 5 (by decide) (hts _ fl_X4_endHour_41) (fun _ h9 => h9) rfl (by decide +kernel) (Nat.le_of_ble_eq_true rfl) wC_f0_5 dX4_endHour_53 (fun H locs hP hS => ?_)
  refine lv_iload_n hx hb dX4_endHour_56 rfl (lv_at hl 0 rfl) ?_
  have eM : (up (bhF (readF (walkM (eaF (tpF S h 12) 6) h) n h) h nl) 0 0 (nI (h + 1))) = ehM S n nl h := by rfl
  rw [eM] at hP
  exact k_iretW hx hb hr hlocks hP hS (by rfl) dX4_endHour_57
theorem fl_X4_correctRents_33 : Cond.fieldLink RX4 33 "LampCounts" "made" "Ljava/util/ArrayList;" ∈ wsX4_correctRents := by decide +kernel
theorem fl_X4_correctRents_178 : Cond.fieldLink RX4 178 "LampCounts$Lease" "bill" "I" ∈ wsX4_correctRents := by decide +kernel
theorem fl_X4_correctRents_181 : Cond.fieldLink RX4 181 "LampCounts$Lease" "section" "I" ∈ wsX4_correctRents := by decide +kernel
theorem fl_X4_correctRents_187 : Cond.fieldLink RX4 187 "LampCounts$Lease" "corrections" "I" ∈ wsX4_correctRents := by decide +kernel
theorem in_X4_correctRents_X2 : ∀ w ∈ u_ws RX2 TX2 9, w ∈ wsX4_correctRents := by decide +kernel
theorem in_X4_correctRents_X4 : ∀ w ∈ u_ws RX4 TX4 6, w ∈ wsX4_correctRents := by decide +kernel
theorem cl_X4_correctRents_101 : Cond.classLink RX4 101 "LampCounts$Lease" ∈ wsX4_correctRents := by decide +kernel
set_option maxHeartbeats 4000000 in
set_option maxRecDepth 100000 in
theorem lp_X4_correctRents_6 {p : Program} {l : Launch} {e : Env} {u : State} {m : MethodId} {below : List Frame} {meth : Method} {c : Code} {D : va_G} {q : Nat → ClassId} {A : Nat → Prop} (a : Nat → Nat) (S : Nat → Nat → Int32) (cap nl : Nat) (x h : Nat) (bf af : Int32) (hnl : nl ≤ cap ∧ cap ≤ 40 ∧ nl ≤ 30) (C0 : kAt p u m #[.ref (a 0), .int (nI x), .int (nI h), .int (bf), .int (af)] meth c cX4_correctRents 9 (some .int) RX4 wsX4_correctRents) (hK : kK D q u) :
    ∀ (f : Nat) (i : Nat) (T : Nat → Nat → Int32) (x5 : Int32) (x6 : Int32), nl - i < f → i ≤ nl → T = (crF S x h bf af i).2 → x5 = (crF S x h bf af i).1 → x6 = nI i → ∀ (H : Heap) (locs : List Loc), kW D A (wC q a T cap nl) H → va_S A u.heap H locs → ∀ (ls : Array Slot), lv_has ls 9 [(0, .ref (a 0)), (1, .int (nI x)), (2, .int (nI h)), (3, .int (bf)), (4, .int (af)), (5, .int x5), (6, .int x6)] → W p l e ({ frames := 3, cells := 0, slots := 0, locals := 64 } : Room) u m #[.ref (a 0), .int (nI x), .int (nI h), .int (bf), .int (af)] below meth c H locs 0 0 (MQ below (kRi D A ((crF S x h bf af nl).1) (wC q a ((crF S x h bf af nl).2) cap nl)) #[.ref (a 0), .int (nI x), .int (nI h), .int (bf), .int (af)] u 0 0 A) (F0 m 6 ls []) := by
  obtain ⟨hx, hb, hr, hml, hown, hts, hlocks⟩ := id C0
  intro f
  induction f with
  | zero =>
    intro i T x5 x6 hf
    exact absurd hf (Nat.not_lt_zero _)
  | succ f ih =>
    intro i T x5 x6 hf hi eT e5 e6 H locs hP hS ls hl
    replace eT := eT.symm
    subst eT
    replace e5 := e5.symm
    subst e5
    replace e6 := e6.symm
    subst e6
    refine lv_iload hx hb dX4_correctRents_6 (lv_at hl 6 rfl) ?_
    refine lv_aload_n hx hb dX4_correctRents_8 rfl (lv_at hl 0 rfl) ?_
    refine va_get (D := D) (ci := 5) (v := .ref (a 4)) (C := RX4) (T := TX4) (N := 6) hx hb hts in_X4_correctRents_X4 hown hK.1 hP.1 0 rfl rfl 3 (by decide) (hts _ fl_X4_correctRents_33) (fun _ h9 => h9) rfl dX4_correctRents_9 ?_
    refine k_callV (rest := [.int (nI i)]) (r := nI nl) ⟨hx, hb, hml, hown, hts⟩ (c_Jx4a65c_size_8abf5 l D q a ((crF S x h bf af i).2) cap nl) (cwV 0 hts gX4_correctRents_Jx4a65c_size_8abf5 rfl rfl rfl (by decide +kernel) ⟨Nat.le_of_ble_eq_true rfl, Nat.le_of_ble_eq_true rfl⟩) hK hP.1 (va_recv hK.1 hP.1 (ci := 0) (q0 := 4) rfl rfl) rfl hl.1 rfl (Nat.le_of_ble_eq_true rfl) dX4_correctRents_12 ⟨Nat.zero_le _, Nat.zero_le _⟩ (fun _ h => h) ?_
    refine k_icmp_ge (P := i < nl) (tgt := 103) hx hb dX4_correctRents_15 (by decide) (nI_ltI (by omega) (by omega)) (fun c_1 => ?_) (fun c_1 => ?_)
    · skip
      refine lv_iload hx hb dX4_correctRents_103 (lv_at hl 5 rfl) ?_
      have eM : (crF S x h bf af i).2 = (crF S x h bf af nl).2 := by rw [show i = nl from by omega]
      rw [eM] at hP
      exact k_iretW hx hb hr hlocks hP hS (by rw [show i = nl from by omega]) dX4_correctRents_105
    · skip
      refine lv_aload_n hx hb dX4_correctRents_18 rfl (lv_at hl 0 rfl) ?_
      refine va_get (D := D) (ci := 5) (v := .ref (a 4)) (C := RX4) (T := TX4) (N := 6) hx hb hts in_X4_correctRents_X4 hown hK.1 hP.1 0 rfl rfl 3 (by decide) (hts _ fl_X4_correctRents_33) (fun _ h9 => h9) rfl dX4_correctRents_19 ?_
      refine lv_iload hx hb dX4_correctRents_22 (lv_at hl 6 rfl) ?_
      refine k_callVr (rest := []) (r := a (100 + i)) ⟨hx, hb, hml, hown, hts⟩ (c_Jx4a65c_get_915e3 l D q a ((crF S x h bf af i).2) cap nl i hnl (by omega)) (cwV 1 hts gX4_correctRents_Jx4a65c_get_915e3 rfl rfl rfl (by decide +kernel) ⟨Nat.le_of_ble_eq_true rfl, Nat.le_of_ble_eq_true rfl⟩) hK hP.1 (va_recv hK.1 hP.1 (ci := 0) (q0 := 4) rfl rfl) rfl hl.1 rfl (Nat.le_of_ble_eq_true rfl) dX4_correctRents_24 ⟨Nat.zero_le _, Nat.zero_le _⟩ ?_
      refine va_castS (nm := "LampCounts$Lease") hx hb hown (hts _ cl_X4_correctRents_101) (hK.1.1 3 _ rfl).2 (va_recv hK.1 hP.1 (ci := 3) (q0 := 27 + i) rfl (wC_ls (by omega) (by omega))) dX4_correctRents_27 ?_
      refine lv_astore (lv' := [(7, .ref (a (100 + i))), (0, .ref (a 0)), (1, .int (nI x)), (2, .int (nI h)), (3, .int (bf)), (4, .int (af)), (5, .int ((crF S x h bf af i).1)), (6, .int (nI i))]) hx hb dX4_correctRents_30 hl (by decide) rfl (fun ls hl => ?_)
      refine lv_aload hx hb dX4_correctRents_32 (lv_at hl 0 rfl) ?_
      refine va_get (D := D) (ci := 3) (v := .int (((crF S x h bf af i).2) 31 i)) (C := RX2) (T := TX2) (N := 9) hx hb hts in_X4_correctRents_X2 hown hK.1 hP.1 (27 + i) (wC_ls (by omega) (by omega)) rfl 1 (by decide) (hts _ fl_X4_correctRents_181) (fun _ h9 => h9) rfl dX4_correctRents_34 ?_
      refine lv_iload_n hx hb dX4_correctRents_37 rfl (lv_at hl 2 rfl) ?_
      refine k_icmp_ne (P := ((crF S x h bf af i).2) 31 i = nI x) (tgt := 97) hx hb dX4_correctRents_38 (by decide) Iff.rfl (fun c_2 => ?_) (fun c_2 => ?_)
      · skip
        refine lv_iinc (v := nI (i + 1)) (lv' := [(6, .int (nI (i + 1))), (7, .ref (a (100 + i))), (0, .ref (a 0)), (1, .int (nI x)), (2, .int (nI h)), (3, .int (bf)), (4, .int (af)), (5, .int ((crF S x h bf af i).1))]) hx hb dX4_correctRents_97 hl (k := 7) rfl (k_iinc _) (by decide) rfl (fun ls hl => ?_)
        refine lv_goto (tgt := 6) hx hb dX4_correctRents_100 (by decide) ?_
        exact ih (i + 1) ((crF S x h bf af i).2) ((crF S x h bf af i).1) (nI (i + 1)) (by omega) (by first | omega | assumption) (by rw [crF_s, if_neg c_2]) (by rw [crF_s, if_neg c_2]) rfl _ _ hP hS ls (lv_sub hl [2, 3, 4, 5, 6, 7, 0] rfl)
      · skip
        refine lv_aload hx hb dX4_correctRents_41 (lv_at hl 0 rfl) ?_
        refine lv_iload_n hx hb dX4_correctRents_43 rfl (lv_at hl 3 rfl) ?_
        refine k_callV (rest := []) (r := bI (covP ((crF S x h bf af i).2) i (nI h))) ⟨hx, hb, hml, hown, hts⟩ (c_X2_covers l D q a ((crF S x h bf af i).2) cap nl i (nI h) (by omega) (by omega)) (cwV 1 hts gX4_correctRents_X2_covers rfl rfl rfl (by decide +kernel) ⟨Nat.le_of_ble_eq_true rfl, Nat.le_of_ble_eq_true rfl⟩) hK hP.1 (va_recv hK.1 hP.1 (ci := 3) (q0 := 27 + i) rfl (wC_ls (by omega) (by omega))) rfl hl.1 rfl (Nat.le_of_ble_eq_true rfl) dX4_correctRents_44 ⟨Nat.zero_le _, Nat.zero_le _⟩ (fun _ h => h) ?_
        refine k_if_eq (P := ¬ (covP ((crF S x h bf af i).2) i (nI h))) (tgt := 97) hx hb dX4_correctRents_47 (by decide) bI_0 (fun c_3 => ?_) (fun c_3 => ?_)
        · skip
          refine lv_iinc (v := nI (i + 1)) (lv' := [(6, .int (nI (i + 1))), (7, .ref (a (100 + i))), (0, .ref (a 0)), (1, .int (nI x)), (2, .int (nI h)), (3, .int (bf)), (4, .int (af)), (5, .int ((crF S x h bf af i).1))]) hx hb dX4_correctRents_97 hl (k := 7) rfl (k_iinc _) (by decide) rfl (fun ls hl => ?_)
          refine lv_goto (tgt := 6) hx hb dX4_correctRents_100 (by decide) ?_
          exact ih (i + 1) ((crF S x h bf af i).2) ((crF S x h bf af i).1) (nI (i + 1)) (by omega) (by first | omega | assumption) (by rw [crF_s, if_pos c_2, if_neg c_3]) (by rw [crF_s, if_pos c_2, if_neg c_3]) rfl _ _ hP hS ls (lv_sub hl [2, 3, 4, 5, 6, 7, 0] rfl)
        · skip
          have c_3 : covP ((crF S x h bf af i).2) i (nI h) := Classical.not_not.mp c_3
          refine lv_aload hx hb dX4_correctRents_50 (lv_at hl 0 rfl) ?_
          refine lv_iload hx hb dX4_correctRents_52 (lv_at hl 5 rfl) ?_
          refine k_callV (rest := []) (r := rentF ((crF S x h bf af i).2) i af) ⟨hx, hb, hml, hown, hts⟩ (c_X2_rentFor l D q a ((crF S x h bf af i).2) cap nl i af (by omega) (by omega)) (cwV 1 hts gX4_correctRents_X2_rentFor rfl rfl rfl (by decide +kernel) ⟨Nat.le_of_ble_eq_true rfl, Nat.le_of_ble_eq_true rfl⟩) hK hP.1 (va_recv hK.1 hP.1 (ci := 3) (q0 := 27 + i) rfl (wC_ls (by omega) (by omega))) rfl hl.1 rfl (Nat.le_of_ble_eq_true rfl) dX4_correctRents_54 ⟨Nat.zero_le _, Nat.zero_le _⟩ (fun _ h => h) ?_
          refine lv_aload hx hb dX4_correctRents_57 (lv_at hl 0 rfl) ?_
          refine lv_iload_n hx hb dX4_correctRents_59 rfl (lv_at hl 4 rfl) ?_
          refine k_callV (rest := [.int (rentF ((crF S x h bf af i).2) i af)]) (r := rentF ((crF S x h bf af i).2) i bf) ⟨hx, hb, hml, hown, hts⟩ (c_X2_rentFor l D q a ((crF S x h bf af i).2) cap nl i bf (by omega) (by omega)) (cwV 1 hts gX4_correctRents_X2_rentFor rfl rfl rfl (by decide +kernel) ⟨Nat.le_of_ble_eq_true rfl, Nat.le_of_ble_eq_true rfl⟩) hK hP.1 (va_recv hK.1 hP.1 (ci := 3) (q0 := 27 + i) rfl (wC_ls (by omega) (by omega))) rfl hl.1 rfl (Nat.le_of_ble_eq_true rfl) dX4_correctRents_60 ⟨Nat.zero_le _, Nat.zero_le _⟩ (fun _ h => h) ?_
          refine lv_isub hx hb dX4_correctRents_63 ?_
          refine lv_istore (lv' := [(8, .int ((rentF ((crF S x h bf af i).2) i af) - (rentF ((crF S x h bf af i).2) i bf))), (7, .ref (a (100 + i))), (0, .ref (a 0)), (1, .int (nI x)), (2, .int (nI h)), (3, .int (bf)), (4, .int (af)), (5, .int ((crF S x h bf af i).1)), (6, .int (nI i))]) hx hb dX4_correctRents_64 hl (by decide) rfl (fun ls hl => ?_)
          refine lv_aload hx hb dX4_correctRents_66 (lv_at hl 1 rfl) ?_
          refine lv_dup hx hb dX4_correctRents_68 rfl ?_
          refine va_get (D := D) (ci := 3) (v := .int (((crF S x h bf af i).2) 37 i)) (C := RX2) (T := TX2) (N := 9) hx hb hts in_X4_correctRents_X2 hown hK.1 hP.1 (27 + i) (wC_ls (by omega) (by omega)) rfl 7 (by decide) (hts _ fl_X4_correctRents_178) (fun _ h9 => h9) rfl dX4_correctRents_69 ?_
          refine lv_iload hx hb dX4_correctRents_72 (lv_at hl 0 rfl) ?_
          refine lv_iadd hx hb dX4_correctRents_74 ?_
          refine k_puti (wC q a ((up ((crF S x h bf af i).2) 37 i ((((crF S x h bf af i).2) 37 i) + ((rentF ((crF S x h bf af i).2) i af) - (rentF ((crF S x h bf af i).2) i bf))))) cap nl) hx hb hts in_X4_correctRents_X2 tyX2 tyX2_ok nmX2 hown hK hP hS (27 + i) (wC_ls (by omega) (by omega)) rfl 7 (by decide) (hts _ fl_X4_correctRents_178) (fun _ h9 => h9) rfl (by decide +kernel) (Nat.le_of_ble_eq_true rfl) (wC_lset7 (by omega) (by omega)) dX4_correctRents_75 (fun H locs hP hS => ?_)
          refine lv_aload hx hb dX4_correctRents_78 (lv_at hl 1 rfl) ?_
          refine lv_dup hx hb dX4_correctRents_80 rfl ?_
          refine va_get (D := D) (ci := 3) (v := .int (((up ((crF S x h bf af i).2) 37 i ((((crF S x h bf af i).2) 37 i) + ((rentF ((crF S x h bf af i).2) i af) - (rentF ((crF S x h bf af i).2) i bf))))) 38 i)) (C := RX2) (T := TX2) (N := 9) hx hb hts in_X4_correctRents_X2 hown hK.1 hP.1 (27 + i) (wC_ls (by omega) (by omega)) rfl 8 (by decide) (hts _ fl_X4_correctRents_187) (fun _ h9 => h9) rfl dX4_correctRents_81 ?_
          refine k_top (y := ((crF S x h bf af i).2) 38 i) (congrFun (up_n (by decide)) _) ?_
          refine lv_iload hx hb dX4_correctRents_84 (lv_at hl 0 rfl) ?_
          refine lv_iadd hx hb dX4_correctRents_86 ?_
          refine k_puti (wC q a ((up (up ((crF S x h bf af i).2) 37 i ((((crF S x h bf af i).2) 37 i) + ((rentF ((crF S x h bf af i).2) i af) - (rentF ((crF S x h bf af i).2) i bf)))) 38 i ((((crF S x h bf af i).2) 38 i) + ((rentF ((crF S x h bf af i).2) i af) - (rentF ((crF S x h bf af i).2) i bf))))) cap nl) hx hb hts in_X4_correctRents_X2 tyX2 tyX2_ok nmX2 hown hK hP hS (27 + i) (wC_ls (by omega) (by omega)) rfl 8 (by decide) (hts _ fl_X4_correctRents_187) (fun _ h9 => h9) rfl (by decide +kernel) (Nat.le_of_ble_eq_true rfl) (wC_lset8 (by omega) (by omega)) dX4_correctRents_87 (fun H locs hP hS => ?_)
          refine lv_iload hx hb dX4_correctRents_90 (lv_at hl 7 rfl) ?_
          refine lv_iload hx hb dX4_correctRents_92 (lv_at hl 0 rfl) ?_
          refine lv_iadd hx hb dX4_correctRents_94 ?_
          refine lv_istore (lv' := [(5, .int (((crF S x h bf af i).1) + ((rentF ((crF S x h bf af i).2) i af) - (rentF ((crF S x h bf af i).2) i bf)))), (8, .int ((rentF ((crF S x h bf af i).2) i af) - (rentF ((crF S x h bf af i).2) i bf))), (7, .ref (a (100 + i))), (0, .ref (a 0)), (1, .int (nI x)), (2, .int (nI h)), (3, .int (bf)), (4, .int (af)), (6, .int (nI i))]) hx hb dX4_correctRents_95 hl (by decide) rfl (fun ls hl => ?_)
          refine lv_iinc (v := nI (i + 1)) (lv' := [(6, .int (nI (i + 1))), (5, .int (((crF S x h bf af i).1) + ((rentF ((crF S x h bf af i).2) i af) - (rentF ((crF S x h bf af i).2) i bf)))), (8, .int ((rentF ((crF S x h bf af i).2) i af) - (rentF ((crF S x h bf af i).2) i bf))), (7, .ref (a (100 + i))), (0, .ref (a 0)), (1, .int (nI x)), (2, .int (nI h)), (3, .int (bf)), (4, .int (af))]) hx hb dX4_correctRents_97 hl (k := 8) rfl (k_iinc _) (by decide) rfl (fun ls hl => ?_)
          refine lv_goto (tgt := 6) hx hb dX4_correctRents_100 (by decide) ?_
          exact ih (i + 1) ((up (up ((crF S x h bf af i).2) 37 i ((((crF S x h bf af i).2) 37 i) + ((rentF ((crF S x h bf af i).2) i af) - (rentF ((crF S x h bf af i).2) i bf)))) 38 i ((((crF S x h bf af i).2) 38 i) + ((rentF ((crF S x h bf af i).2) i af) - (rentF ((crF S x h bf af i).2) i bf))))) (((crF S x h bf af i).1) + ((rentF ((crF S x h bf af i).2) i af) - (rentF ((crF S x h bf af i).2) i bf))) (nI (i + 1)) (by omega) (by first | omega | assumption) (by rw [crF_s, if_pos c_2, if_pos c_3]; rfl) (by rw [crF_s, if_pos c_2, if_pos c_3]; rfl) rfl _ _ hP hS ls (lv_sub hl [4, 5, 6, 7, 8, 1, 0] rfl)
set_option maxHeartbeats 4000000 in
set_option maxRecDepth 100000 in
theorem c_X4_correctRents (l : Launch) (D : va_G) (q : Nat → ClassId) (A : Nat → Prop) (a : Nat → Nat) (S : Nat → Nat → Int32) (cap nl : Nat) (x h : Nat) (bf af : Int32) (hnl : nl ≤ cap ∧ cap ≤ 40 ∧ nl ≤ 30) : Met l yX4_correctRents wsX4_correctRents ({ frames := 3, cells := 0, slots := 0, locals := 64 } : Room) (va_Pc [.ref (a 0), .int (nI x), .int (nI h), .int (bf), .int (af)] (kB D q (fun H => kW D A (wC q a S cap nl) H))) (kRi D A ((crF S x h bf af nl).1) (wC q a ((crF S x h bf af nl).2) cap nl)) 0 0 A := by
  refine Met.ofW (cc := cX4_correctRents) (maxL := 9) (ret := (some .int)) (by decide) rfl ?_
  intro p e u m args below meth c s₁ B hml0 hv
  obtain ⟨rfl, hP, hK⟩ := hv
  have C0 : kAt p u m #[.ref (a 0), .int (nI x), .int (nI h), .int (bf), .int (af)] meth c cX4_correctRents 9 (some .int) RX4 wsX4_correctRents := kAt_of B hml0
  obtain ⟨hx, hb, hr, hml, hown, hts, hlocks⟩ := id C0
  have hS : va_S A u.heap u.heap [] := va_S.rf
  have hl := lv_entry ([.ref (a 0), .int (nI x), .int (nI h), .int (bf), .int (af)]) (n := 9) (Nat.le_of_ble_eq_true rfl)
  rw [lg_entry_eq]
  generalize (lg_sl ([.ref (a 0), .int (nI x), .int (nI h), .int (bf), .int (af)]) ++ List.replicate (9 - (lg_sl ([.ref (a 0), .int (nI x), .int (nI h), .int (bf), .int (af)])).length) Slot.unset).toArray = ls at hl ⊢
  have hl : lv_has ls 9 [(0, .ref (a 0)), (1, .int (nI x)), (2, .int (nI h)), (3, .int (bf)), (4, .int (af))] := hl
  refine lv_iconst (v := nI 0) hx hb dX4_correctRents_0 (by decide) ?_
  refine lv_istore (lv' := [(5, .int (nI 0)), (0, .ref (a 0)), (1, .int (nI x)), (2, .int (nI h)), (3, .int (bf)), (4, .int (af))]) hx hb dX4_correctRents_1 hl (by decide) rfl (fun ls hl => ?_)
  refine lv_iconst (v := nI 0) hx hb dX4_correctRents_3 (by decide) ?_
  refine lv_istore (lv' := [(6, .int (nI 0)), (5, .int (nI 0)), (0, .ref (a 0)), (1, .int (nI x)), (2, .int (nI h)), (3, .int (bf)), (4, .int (af))]) hx hb dX4_correctRents_4 hl (by decide) rfl (fun ls hl => ?_)
  exact lp_X4_correctRents_6 a S cap nl x h bf af hnl C0 hK ((nl - 0) + 1) 0 S (nI 0) (nI 0) (by omega) (by first | omega | assumption) (by rfl) (by rfl) rfl _ _ hP hS ls (lv_sub hl [2, 3, 4, 5, 6, 1, 0] rfl)
theorem fl_X4_keepCount_19 : Cond.fieldLink RX4 19 "LampCounts" "lamps" "LLampCounts$Lamps;" ∈ wsX4_keepCount := by decide +kernel
theorem fl_X4_keepCount_163 : Cond.fieldLink RX4 163 "LampCounts$Lamps" "kept" "[I" ∈ wsX4_keepCount := by decide +kernel
theorem in_X4_keepCount_X1 : ∀ w ∈ u_ws RX1 TX1 8, w ∈ wsX4_keepCount := by decide +kernel
theorem in_X4_keepCount_X4 : ∀ w ∈ u_ws RX4 TX4 6, w ∈ wsX4_keepCount := by decide +kernel
set_option maxHeartbeats 4000000 in
set_option maxRecDepth 100000 in
theorem c_X4_keepCount (l : Launch) (D : va_G) (q : Nat → ClassId) (A : Nat → Prop) (a : Nat → Nat) (S : Nat → Nat → Int32) (cap nl : Nat) (x h : Nat) (k0 : Int32) (hx12 : x < 12) (hh : h < 200) (hnl : nl ≤ cap ∧ cap ≤ 40 ∧ nl ≤ 30) : Met l yX4_keepCount wsX4_keepCount ({ frames := 4, cells := 0, slots := 0, locals := 92 } : Room) (va_Pc [.ref (a 0), .int (nI x), .int (nI h), .int (k0)] (kB D q (fun H => kW D A (wC q a S cap nl) H))) (kRi D A (kcV S nl x h k0) (wC q a (kcM S nl x h k0) cap nl)) 0 0 A := by
  refine Met.ofW (cc := cX4_keepCount) (maxL := 6) (ret := (some .int)) (by decide) rfl ?_
  intro p e u m args below meth c s₁ B hml0 hv
  obtain ⟨rfl, hP, hK⟩ := hv
  have C0 : kAt p u m #[.ref (a 0), .int (nI x), .int (nI h), .int (k0)] meth c cX4_keepCount 6 (some .int) RX4 wsX4_keepCount := kAt_of B hml0
  obtain ⟨hx, hb, hr, hml, hown, hts, hlocks⟩ := id C0
  have hS : va_S A u.heap u.heap [] := va_S.rf
  have hl := lv_entry ([.ref (a 0), .int (nI x), .int (nI h), .int (k0)]) (n := 6) (Nat.le_of_ble_eq_true rfl)
  rw [lg_entry_eq]
  generalize (lg_sl ([.ref (a 0), .int (nI x), .int (nI h), .int (k0)]) ++ List.replicate (6 - (lg_sl ([.ref (a 0), .int (nI x), .int (nI h), .int (k0)])).length) Slot.unset).toArray = ls at hl ⊢
  have hl : lv_has ls 6 [(0, .ref (a 0)), (1, .int (nI x)), (2, .int (nI h)), (3, .int (k0))] := hl
  refine lv_iload_n hx hb dX4_keepCount_0 rfl (lv_at hl 1 rfl) ?_
  refine lv_iload_n hx hb dX4_keepCount_1 rfl (lv_at hl 2 rfl) ?_
  refine k_callS (rest := []) (r := nI (h * 12 + x)) ⟨hx, hb, hml, hown, hts⟩ (c_X4_cell l D q x h) (va_cwS 2 hts gX4_keepCount_X4_cell rfl rfl rfl (by decide +kernel) ⟨Nat.le_of_ble_eq_true rfl, Nat.le_of_ble_eq_true rfl⟩) hK trivial rfl hl.1 rfl (Nat.le_of_ble_eq_true rfl) dX4_keepCount_2 ⟨Nat.zero_le _, Nat.zero_le _⟩ (fun _ h => h) ?_
  refine lv_istore (lv' := [(4, .int (nI (h * 12 + x))), (0, .ref (a 0)), (1, .int (nI x)), (2, .int (nI h)), (3, .int (k0))]) hx hb dX4_keepCount_5 hl (by decide) rfl (fun ls hl => ?_)
  refine lv_aload_n hx hb dX4_keepCount_7 rfl (lv_at hl 1 rfl) ?_
  refine va_get (D := D) (ci := 5) (v := .ref (a 2)) (C := RX4) (T := TX4) (N := 6) hx hb hts in_X4_keepCount_X4 hown hK.1 hP.1 0 rfl rfl 1 (by decide) (hts _ fl_X4_keepCount_19) (fun _ h9 => h9) rfl dX4_keepCount_8 ?_
  refine va_get (D := D) (ci := 2) (v := .ref (a 14)) (C := RX1) (T := TX1) (N := 8) hx hb hts in_X4_keepCount_X1 hown hK.1 hP.1 2 rfl rfl 3 (by decide) (hts _ fl_X4_keepCount_163) (fun _ h9 => h9) rfl dX4_keepCount_11 ?_
  refine lv_iload hx hb dX4_keepCount_14 (lv_at hl 0 rfl) ?_
  refine k_iald hx hb hK hP.1 14 rfl (h * 12 + x) rfl (by omega) (by decide) dX4_keepCount_16 ?_
  refine lv_istore (lv' := [(5, .int (S 14 (h * 12 + x))), (4, .int (nI (h * 12 + x))), (0, .ref (a 0)), (1, .int (nI x)), (2, .int (nI h)), (3, .int (k0))]) hx hb dX4_keepCount_17 hl (by decide) rfl (fun ls hl => ?_)
  refine lv_aload_n hx hb dX4_keepCount_19 rfl (lv_at hl 2 rfl) ?_
  refine va_get (D := D) (ci := 5) (v := .ref (a 2)) (C := RX4) (T := TX4) (N := 6) hx hb hts in_X4_keepCount_X4 hown hK.1 hP.1 0 rfl rfl 1 (by decide) (hts _ fl_X4_keepCount_19) (fun _ h9 => h9) rfl dX4_keepCount_20 ?_
  refine va_get (D := D) (ci := 2) (v := .ref (a 14)) (C := RX1) (T := TX1) (N := 8) hx hb hts in_X4_keepCount_X1 hown hK.1 hP.1 2 rfl rfl 3 (by decide) (hts _ fl_X4_keepCount_163) (fun _ h9 => h9) rfl dX4_keepCount_23 ?_
  refine lv_iload hx hb dX4_keepCount_26 (lv_at hl 1 rfl) ?_
  refine lv_iload_n hx hb dX4_keepCount_28 rfl (lv_at hl 5 rfl) ?_
  refine k_iast (wC q a ((up S 14 (h * 12 + x) k0)) cap nl) hx hb hK hP hS 14 rfl (h * 12 + x) rfl (by omega) (by decide) wC_s14 dX4_keepCount_29 (fun H locs hP hS => ?_)
  refine lv_iload_n hx hb dX4_keepCount_30 rfl (lv_at hl 5 rfl) ?_
  refine lv_iload hx hb dX4_keepCount_31 (lv_at hl 0 rfl) ?_
  refine k_icmp_ne (P := k0 = S 14 (h * 12 + x)) (tgt := 40) hx hb dX4_keepCount_33 (by decide) Iff.rfl (fun c_1 => ?_) (fun c_1 => ?_)
  · skip
    refine lv_aload_n hx hb dX4_keepCount_40 rfl (lv_at hl 2 rfl) ?_
    refine lv_iload_n hx hb dX4_keepCount_41 rfl (lv_at hl 3 rfl) ?_
    refine lv_iload_n hx hb dX4_keepCount_42 rfl (lv_at hl 4 rfl) ?_
    refine lv_iload hx hb dX4_keepCount_43 (lv_at hl 0 rfl) ?_
    refine lv_iload_n hx hb dX4_keepCount_45 rfl (lv_at hl 5 rfl) ?_
    refine k_goRi hS (va_runV (rest := []) ⟨hx, hb, hml, hown, hts⟩ (c_X4_correctRents l D q A a ((up S 14 (h * 12 + x) k0)) cap nl x h (S 14 (h * 12 + x)) k0 hnl) (cwV 4 hts gX4_keepCount_X4_correctRents rfl rfl rfl (by decide +kernel) ⟨Nat.le_of_ble_eq_true rfl, Nat.le_of_ble_eq_true rfl⟩) ⟨kB_blind, (va_recv hK.1 hP.1 (ci := 5) (q0 := 0) rfl rfl), fun U hU hW => ⟨rfl, by rw [hU]; exact hP, hK.warm hW⟩⟩ rfl rfl hl.1 rfl (lv_room (Nat.le_of_ble_eq_true rfl)) dX4_keepCount_46 ⟨Nat.zero_le _, Nat.zero_le _⟩) (fun H locs hP hS => ?_)
    have eM : (crF ((up S 14 (h * 12 + x) k0)) x h (S 14 (h * 12 + x)) k0 nl).2 = kcM S nl x h k0 := by unfold kcM; rw [if_neg c_1]
    rw [eM] at hP
    exact k_iretW hx hb hr hlocks hP hS (by unfold kcV; rw [if_neg c_1]) dX4_keepCount_49
  · skip
    refine lv_iconst (v := nI 0) hx hb dX4_keepCount_36 (by decide) ?_
    refine lv_goto (tgt := 49) hx hb dX4_keepCount_37 (by decide) ?_
    have eM : (up S 14 (h * 12 + x) k0) = kcM S nl x h k0 := by unfold kcM; rw [if_pos c_1]
    rw [eM] at hP
    exact k_iretW hx hb hr hlocks hP hS (by unfold kcV; rw [if_pos c_1]) dX4_keepCount_49
theorem fl_X4_recount_19 : Cond.fieldLink RX4 19 "LampCounts" "lamps" "LLampCounts$Lamps;" ∈ wsX4_recount := by decide +kernel
theorem in_X4_recount_X4 : ∀ w ∈ u_ws RX4 TX4 6, w ∈ wsX4_recount := by decide +kernel
set_option maxHeartbeats 4000000 in
set_option maxRecDepth 100000 in
theorem lp_X4_recount_84 {p : Program} {l : Launch} {e : Env} {u : State} {m : MethodId} {below : List Frame} {meth : Method} {c : Code} {D : va_G} {q : Nat → ClassId} {A : Nat → Prop} (a : Nat → Nat) (S : Nat → Nat → Int32) (cap nl : Nat) (n x h : Nat) (hx12 : x < 12) (hh : h < 200) (hn : S 0 1 = nI n) (hn60 : n ≤ 60) (hnl : nl ≤ cap ∧ cap ≤ 40 ∧ nl ≤ 30) (C0 : kAt p u m #[.ref (a 0), .int (nI x), .int (nI h)] meth c cX4_recount 5 (some .int) RX4 wsX4_recount) (hK : kK D q u) :
    ∀ (f : Nat) (j : Nat) (T : Nat → Nat → Int32) (x3 : Int32) (x4 : Int32), 12 - j < f → x + 1 + j ≤ 12 → rcB nl h (11 - x - j) (x + 1 + j) (rcQ nl h x (rcA nl h x (rc0 S n nl x h)) j) = rcB nl h (11 - x) (x + 1) (rcA nl h x (rc0 S n nl x h)) → ¬ S 13 (h * 12 + x) = -1 → T = (rcQ nl h x (rcA nl h x (rc0 S n nl x h)) j).2 → x3 = (rcQ nl h x (rcA nl h x (rc0 S n nl x h)) j).1 → x4 = nI (x + 1 + j) → ∀ (H : Heap) (locs : List Loc), kW D A (wC q a T cap nl) H → va_S A u.heap H locs → ∀ (ls : Array Slot), lv_has ls 5 [(0, .ref (a 0)), (1, .int (nI x)), (2, .int (nI h)), (3, .int x3), (4, .int x4)] → W p l e ({ frames := 5, cells := 0, slots := 0, locals := 117 } : Room) u m #[.ref (a 0), .int (nI x), .int (nI h)] below meth c H locs 0 0 (MQ below (kRi D A ((rcF S n nl x h).1) (wC q a ((rcF S n nl x h).2) cap nl)) #[.ref (a 0), .int (nI x), .int (nI h)] u 0 0 A) (F0 m 84 ls []) := by
  obtain ⟨hx, hb, hr, hml, hown, hts, hlocks⟩ := id C0
  intro f
  induction f with
  | zero =>
    intro j T x3 x4 hf
    exact absurd hf (Nat.not_lt_zero _)
  | succ f ih =>
    intro j T x3 x4 hf hj hg hc eT e3 e4 H locs hP hS ls hl
    replace eT := eT.symm
    subst eT
    replace e3 := e3.symm
    subst e3
    replace e4 := e4.symm
    subst e4
    refine lv_iload hx hb dX4_recount_84 (lv_at hl 4 rfl) ?_
    refine lv_bipush (v := nI 12) hx hb dX4_recount_86 (by decide) ?_
    refine k_icmp_ge (P := x + 1 + j < 12) (tgt := 130) hx hb dX4_recount_88 (by decide) (nI_ltI (by omega) (by omega)) (fun c_1 => ?_) (fun c_1 => ?_)
    · skip
      refine lv_iload_n hx hb dX4_recount_130 rfl (lv_at hl 3 rfl) ?_
      have eM : (rcQ nl h x (rcA nl h x (rc0 S n nl x h)) j).2 = (rcF S n nl x h).2 := by unfold rcF; rw [if_neg hc, ← hg, show 11 - x - j = 0 from by omega]; rfl
      rw [eM] at hP
      exact k_iretW hx hb hr hlocks hP hS (by unfold rcF; rw [if_neg hc, ← hg, show 11 - x - j = 0 from by omega]; rfl) dX4_recount_131
    · skip
      refine lv_aload_n hx hb dX4_recount_91 rfl (lv_at hl 0 rfl) ?_
      refine va_get (D := D) (ci := 5) (v := .ref (a 2)) (C := RX4) (T := TX4) (N := 6) hx hb hts in_X4_recount_X4 hown hK.1 hP.1 0 rfl rfl 1 (by decide) (hts _ fl_X4_recount_19) (fun _ h9 => h9) rfl dX4_recount_92 ?_
      refine lv_iload hx hb dX4_recount_95 (lv_at hl 4 rfl) ?_
      refine lv_iload_n hx hb dX4_recount_97 rfl (lv_at hl 2 rfl) ?_
      refine k_callV (rest := []) (r := bI (((rcQ nl h x (rcA nl h x (rc0 S n nl x h)) j).2) 13 (h * 12 + (x + 1 + j)) = -1)) ⟨hx, hb, hml, hown, hts⟩ (c_X1_isLost l D q a ((rcQ nl h x (rcA nl h x (rc0 S n nl x h)) j).2) cap nl (x + 1 + j) h (by omega) (by omega)) (cwV 2 hts gX4_recount_X1_isLost rfl rfl rfl (by decide +kernel) ⟨Nat.le_of_ble_eq_true rfl, Nat.le_of_ble_eq_true rfl⟩) hK hP.1 (va_recv hK.1 hP.1 (ci := 2) (q0 := 2) rfl rfl) rfl hl.1 rfl (Nat.le_of_ble_eq_true rfl) dX4_recount_98 ⟨Nat.zero_le _, Nat.zero_le _⟩ (fun _ h => h) ?_
      refine k_if_eq (P := ¬ (((rcQ nl h x (rcA nl h x (rc0 S n nl x h)) j).2) 13 (h * 12 + (x + 1 + j)) = -1)) (tgt := 130) hx hb dX4_recount_101 (by decide) bI_0 (fun c_2 => ?_) (fun c_2 => ?_)
      · skip
        refine lv_iload_n hx hb dX4_recount_130 rfl (lv_at hl 3 rfl) ?_
        have eM : (rcQ nl h x (rcA nl h x (rc0 S n nl x h)) j).2 = (rcF S n nl x h).2 := by unfold rcF; rw [if_neg hc, ← hg, show 11 - x - j = (11 - x - (j + 1)) + 1 from by omega, rcB_f c_2]
        rw [eM] at hP
        exact k_iretW hx hb hr hlocks hP hS (by unfold rcF; rw [if_neg hc, ← hg, show 11 - x - j = (11 - x - (j + 1)) + 1 from by omega, rcB_f c_2]) dX4_recount_131
      · skip
        have c_2 : ((rcQ nl h x (rcA nl h x (rc0 S n nl x h)) j).2) 13 (h * 12 + (x + 1 + j)) = -1 := Classical.not_not.mp c_2
        refine lv_iload_n hx hb dX4_recount_104 rfl (lv_at hl 3 rfl) ?_
        refine lv_aload_n hx hb dX4_recount_105 rfl (lv_at hl 0 rfl) ?_
        refine lv_iload hx hb dX4_recount_106 (lv_at hl 4 rfl) ?_
        refine lv_iload_n hx hb dX4_recount_108 rfl (lv_at hl 2 rfl) ?_
        refine lv_aload_n hx hb dX4_recount_109 rfl (lv_at hl 0 rfl) ?_
        refine va_get (D := D) (ci := 5) (v := .ref (a 2)) (C := RX4) (T := TX4) (N := 6) hx hb hts in_X4_recount_X4 hown hK.1 hP.1 0 rfl rfl 1 (by decide) (hts _ fl_X4_recount_19) (fun _ h9 => h9) rfl dX4_recount_110 ?_
        refine lv_iload hx hb dX4_recount_113 (lv_at hl 4 rfl) ?_
        refine lv_iload_n hx hb dX4_recount_115 rfl (lv_at hl 2 rfl) ?_
        refine k_callV (rest := [.int (nI h), .int (nI (x + 1 + j)), .ref (a 0), .int ((rcQ nl h x (rcA nl h x (rc0 S n nl x h)) j).1)]) (r := gapF ((rcQ nl h x (rcA nl h x (rc0 S n nl x h)) j).2) (rowF (((rcQ nl h x (rcA nl h x (rc0 S n nl x h)) j).2) 14) h) h (x + 1 + j)) ⟨hx, hb, hml, hown, hts⟩ (c_X1_filledFromKept l D q a ((rcQ nl h x (rcA nl h x (rc0 S n nl x h)) j).2) cap nl (x + 1 + j) h (by omega) (by omega)) (cwV 2 hts gX4_recount_X1_filledFromKept rfl rfl rfl (by decide +kernel) ⟨Nat.le_of_ble_eq_true rfl, Nat.le_of_ble_eq_true rfl⟩) hK hP.1 (va_recv hK.1 hP.1 (ci := 2) (q0 := 2) rfl rfl) rfl hl.1 rfl (Nat.le_of_ble_eq_true rfl) dX4_recount_116 ⟨Nat.zero_le _, Nat.zero_le _⟩ (fun _ h => h) ?_
        refine k_goRi hS (va_runV (rest := [.int ((rcQ nl h x (rcA nl h x (rc0 S n nl x h)) j).1)]) ⟨hx, hb, hml, hown, hts⟩ (c_X4_keepCount l D q A a ((rcQ nl h x (rcA nl h x (rc0 S n nl x h)) j).2) cap nl (x + 1 + j) h (gapF ((rcQ nl h x (rcA nl h x (rc0 S n nl x h)) j).2) (rowF (((rcQ nl h x (rcA nl h x (rc0 S n nl x h)) j).2) 14) h) h (x + 1 + j)) (by omega) (by omega) hnl) (cwV 3 hts gX4_recount_X4_keepCount rfl rfl rfl (by decide +kernel) ⟨Nat.le_of_ble_eq_true rfl, Nat.le_of_ble_eq_true rfl⟩) ⟨kB_blind, (va_recv hK.1 hP.1 (ci := 5) (q0 := 0) rfl rfl), fun U hU hW => ⟨rfl, by rw [hU]; exact hP, hK.warm hW⟩⟩ rfl rfl hl.1 rfl (lv_room (Nat.le_of_ble_eq_true rfl)) dX4_recount_119 ⟨Nat.zero_le _, Nat.zero_le _⟩) (fun H locs hP hS => ?_)
        refine lv_iadd hx hb dX4_recount_122 ?_
        refine lv_istore_n (lv' := [(3, .int (((rcQ nl h x (rcA nl h x (rc0 S n nl x h)) j).1) + (kcV ((rcQ nl h x (rcA nl h x (rc0 S n nl x h)) j).2) nl (x + 1 + j) h (gapF ((rcQ nl h x (rcA nl h x (rc0 S n nl x h)) j).2) (rowF (((rcQ nl h x (rcA nl h x (rc0 S n nl x h)) j).2) 14) h) h (x + 1 + j))))), (0, .ref (a 0)), (1, .int (nI x)), (2, .int (nI h)), (4, .int (nI (x + 1 + j)))]) hx hb dX4_recount_123 rfl hl (by decide) rfl (fun ls hl => ?_)
        refine lv_iinc (v := nI (x + 1 + j + 1)) (lv' := [(4, .int (nI (x + 1 + j + 1))), (3, .int (((rcQ nl h x (rcA nl h x (rc0 S n nl x h)) j).1) + (kcV ((rcQ nl h x (rcA nl h x (rc0 S n nl x h)) j).2) nl (x + 1 + j) h (gapF ((rcQ nl h x (rcA nl h x (rc0 S n nl x h)) j).2) (rowF (((rcQ nl h x (rcA nl h x (rc0 S n nl x h)) j).2) 14) h) h (x + 1 + j))))), (0, .ref (a 0)), (1, .int (nI x)), (2, .int (nI h))]) hx hb dX4_recount_124 hl (k := 4) rfl (k_iinc _) (by decide) rfl (fun ls hl => ?_)
        refine lv_goto (tgt := 84) hx hb dX4_recount_127 (by decide) ?_
        exact ih (j + 1) ((kcM ((rcQ nl h x (rcA nl h x (rc0 S n nl x h)) j).2) nl (x + 1 + j) h (gapF ((rcQ nl h x (rcA nl h x (rc0 S n nl x h)) j).2) (rowF (((rcQ nl h x (rcA nl h x (rc0 S n nl x h)) j).2) 14) h) h (x + 1 + j)))) (((rcQ nl h x (rcA nl h x (rc0 S n nl x h)) j).1) + (kcV ((rcQ nl h x (rcA nl h x (rc0 S n nl x h)) j).2) nl (x + 1 + j) h (gapF ((rcQ nl h x (rcA nl h x (rc0 S n nl x h)) j).2) (rowF (((rcQ nl h x (rcA nl h x (rc0 S n nl x h)) j).2) 14) h) h (x + 1 + j)))) (nI (x + 1 + j + 1)) (by omega) (by first | omega | assumption) (by rw [← hg, show 11 - x - j = (11 - x - (j + 1)) + 1 from by omega, rcB_t c_2]; rfl) (by assumption) (by rfl) (by rfl) (by rfl) _ _ hP hS ls (lv_sub hl [2, 3, 4, 1, 0] rfl)

set_option maxHeartbeats 4000000 in
set_option maxRecDepth 100000 in
theorem lp_X4_recount_35 {p : Program} {l : Launch} {e : Env} {u : State} {m : MethodId} {below : List Frame} {meth : Method} {c : Code} {D : va_G} {q : Nat → ClassId} {A : Nat → Prop} (a : Nat → Nat) (S : Nat → Nat → Int32) (cap nl : Nat) (n x h : Nat) (hx12 : x < 12) (hh : h < 200) (hn : S 0 1 = nI n) (hn60 : n ≤ 60) (hnl : nl ≤ cap ∧ cap ≤ 40 ∧ nl ≤ 30) (C0 : kAt p u m #[.ref (a 0), .int (nI x), .int (nI h)] meth c cX4_recount 5 (some .int) RX4 wsX4_recount) (hK : kK D q u) :
    ∀ (f : Nat) (j : Nat) (T : Nat → Nat → Int32) (x3 : Int32) (x4 : Int32), x - j < f → j ≤ x → rcA nl h (x - j) (rcP nl h x (rc0 S n nl x h) j) = rcA nl h x (rc0 S n nl x h) → ¬ S 13 (h * 12 + x) = -1 → T = (rcP nl h x (rc0 S n nl x h) j).2 → x3 = (rcP nl h x (rc0 S n nl x h) j).1 → x4 = nI (x - j) - nI 1 → ∀ (H : Heap) (locs : List Loc), kW D A (wC q a T cap nl) H → va_S A u.heap H locs → ∀ (ls : Array Slot), lv_has ls 5 [(0, .ref (a 0)), (1, .int (nI x)), (2, .int (nI h)), (3, .int x3), (4, .int x4)] → W p l e ({ frames := 5, cells := 0, slots := 0, locals := 117 } : Room) u m #[.ref (a 0), .int (nI x), .int (nI h)] below meth c H locs 0 0 (MQ below (kRi D A ((rcF S n nl x h).1) (wC q a ((rcF S n nl x h).2) cap nl)) #[.ref (a 0), .int (nI x), .int (nI h)] u 0 0 A) (F0 m 35 ls []) := by
  obtain ⟨hx, hb, hr, hml, hown, hts, hlocks⟩ := id C0
  intro f
  induction f with
  | zero =>
    intro j T x3 x4 hf
    exact absurd hf (Nat.not_lt_zero _)
  | succ f ih =>
    intro j T x3 x4 hf hj hg hc eT e3 e4 H locs hP hS ls hl
    replace eT := eT.symm
    subst eT
    replace e3 := e3.symm
    subst e3
    replace e4 := e4.symm
    subst e4
    refine lv_iload hx hb dX4_recount_35 (lv_at hl 4 rfl) ?_
    refine k_if_lt (P := x - j = 0) (tgt := 79) hx hb dX4_recount_37 (by decide) (k_prneg (by omega)) (fun c_3 => ?_) (fun c_3 => ?_)
    · skip
      have eT : (rcP nl h x (rc0 S n nl x h) j) = (rcA nl h x (rc0 S n nl x h)) := by rw [← hg, c_3]; rfl
      rw [eT] at hP hl
      refine lv_iload_n hx hb dX4_recount_79 rfl (lv_at hl 1 rfl) ?_
      refine lv_iconst (v := nI 1) hx hb dX4_recount_80 (by decide) ?_
      refine lv_iadd hx hb dX4_recount_81 ?_
      refine k_top (y := nI (x + 1)) (nI_add _ _) ?_
      refine lv_istore (lv' := [(4, .int (nI (x + 1))), (0, .ref (a 0)), (1, .int (nI x)), (2, .int (nI h)), (3, .int ((rcA nl h x (rc0 S n nl x h)).1))]) hx hb dX4_recount_82 hl (by decide) rfl (fun ls hl => ?_)
      exact lp_X4_recount_84 a S cap nl n x h hx12 hh hn hn60 hnl C0 hK ((12 - 0) + 1) 0 ((rcA nl h x (rc0 S n nl x h)).2) ((rcA nl h x (rc0 S n nl x h)).1) (nI (x + 1)) (by omega) (by first | omega | assumption) (by rfl) (by assumption) (by rfl) (by rfl) (by rfl) _ _ hP hS ls (lv_sub hl [1, 2, 3, 4, 0] rfl)
    · skip
      obtain ⟨k, hk⟩ : ∃ k, x - j = k + 1 := ⟨x - j - 1, by omega⟩
      rw [hk, k_pred] at hl
      refine lv_aload_n hx hb dX4_recount_40 rfl (lv_at hl 0 rfl) ?_
      refine va_get (D := D) (ci := 5) (v := .ref (a 2)) (C := RX4) (T := TX4) (N := 6) hx hb hts in_X4_recount_X4 hown hK.1 hP.1 0 rfl rfl 1 (by decide) (hts _ fl_X4_recount_19) (fun _ h9 => h9) rfl dX4_recount_41 ?_
      refine lv_iload hx hb dX4_recount_44 (lv_at hl 4 rfl) ?_
      refine lv_iload_n hx hb dX4_recount_46 rfl (lv_at hl 2 rfl) ?_
      refine k_callV (rest := []) (r := bI (((rcP nl h x (rc0 S n nl x h) j).2) 13 (h * 12 + k) = -1)) ⟨hx, hb, hml, hown, hts⟩ (c_X1_isLost l D q a ((rcP nl h x (rc0 S n nl x h) j).2) cap nl k h (by omega) (by omega)) (cwV 2 hts gX4_recount_X1_isLost rfl rfl rfl (by decide +kernel) ⟨Nat.le_of_ble_eq_true rfl, Nat.le_of_ble_eq_true rfl⟩) hK hP.1 (va_recv hK.1 hP.1 (ci := 2) (q0 := 2) rfl rfl) rfl hl.1 rfl (Nat.le_of_ble_eq_true rfl) dX4_recount_47 ⟨Nat.zero_le _, Nat.zero_le _⟩ (fun _ h => h) ?_
      refine k_if_eq (P := ¬ (((rcP nl h x (rc0 S n nl x h) j).2) 13 (h * 12 + k) = -1)) (tgt := 79) hx hb dX4_recount_50 (by decide) bI_0 (fun c_4 => ?_) (fun c_4 => ?_)
      · skip
        have eT : (rcP nl h x (rc0 S n nl x h) j) = (rcA nl h x (rc0 S n nl x h)) := by rw [← hg, hk, rcA_f c_4]
        rw [eT] at hP hl
        refine lv_iload_n hx hb dX4_recount_79 rfl (lv_at hl 1 rfl) ?_
        refine lv_iconst (v := nI 1) hx hb dX4_recount_80 (by decide) ?_
        refine lv_iadd hx hb dX4_recount_81 ?_
        refine k_top (y := nI (x + 1)) (nI_add _ _) ?_
        refine lv_istore (lv' := [(4, .int (nI (x + 1))), (0, .ref (a 0)), (1, .int (nI x)), (2, .int (nI h)), (3, .int ((rcA nl h x (rc0 S n nl x h)).1))]) hx hb dX4_recount_82 hl (by decide) rfl (fun ls hl => ?_)
        exact lp_X4_recount_84 a S cap nl n x h hx12 hh hn hn60 hnl C0 hK ((12 - 0) + 1) 0 ((rcA nl h x (rc0 S n nl x h)).2) ((rcA nl h x (rc0 S n nl x h)).1) (nI (x + 1)) (by omega) (by first | omega | assumption) (by rfl) (by assumption) (by rfl) (by rfl) (by rfl) _ _ hP hS ls (lv_sub hl [1, 2, 3, 4, 0] rfl)
      · skip
        have c_4 : ((rcP nl h x (rc0 S n nl x h) j).2) 13 (h * 12 + k) = -1 := Classical.not_not.mp c_4
        refine lv_iload_n hx hb dX4_recount_53 rfl (lv_at hl 3 rfl) ?_
        refine lv_aload_n hx hb dX4_recount_54 rfl (lv_at hl 0 rfl) ?_
        refine lv_iload hx hb dX4_recount_55 (lv_at hl 4 rfl) ?_
        refine lv_iload_n hx hb dX4_recount_57 rfl (lv_at hl 2 rfl) ?_
        refine lv_aload_n hx hb dX4_recount_58 rfl (lv_at hl 0 rfl) ?_
        refine va_get (D := D) (ci := 5) (v := .ref (a 2)) (C := RX4) (T := TX4) (N := 6) hx hb hts in_X4_recount_X4 hown hK.1 hP.1 0 rfl rfl 1 (by decide) (hts _ fl_X4_recount_19) (fun _ h9 => h9) rfl dX4_recount_59 ?_
        refine lv_iload hx hb dX4_recount_62 (lv_at hl 4 rfl) ?_
        refine lv_iload_n hx hb dX4_recount_64 rfl (lv_at hl 2 rfl) ?_
        refine k_callV (rest := [.int (nI h), .int (nI k), .ref (a 0), .int ((rcP nl h x (rc0 S n nl x h) j).1)]) (r := gapF ((rcP nl h x (rc0 S n nl x h) j).2) (rowF (((rcP nl h x (rc0 S n nl x h) j).2) 14) h) h k) ⟨hx, hb, hml, hown, hts⟩ (c_X1_filledFromKept l D q a ((rcP nl h x (rc0 S n nl x h) j).2) cap nl k h (by omega) (by omega)) (cwV 2 hts gX4_recount_X1_filledFromKept rfl rfl rfl (by decide +kernel) ⟨Nat.le_of_ble_eq_true rfl, Nat.le_of_ble_eq_true rfl⟩) hK hP.1 (va_recv hK.1 hP.1 (ci := 2) (q0 := 2) rfl rfl) rfl hl.1 rfl (Nat.le_of_ble_eq_true rfl) dX4_recount_65 ⟨Nat.zero_le _, Nat.zero_le _⟩ (fun _ h => h) ?_
        refine k_goRi hS (va_runV (rest := [.int ((rcP nl h x (rc0 S n nl x h) j).1)]) ⟨hx, hb, hml, hown, hts⟩ (c_X4_keepCount l D q A a ((rcP nl h x (rc0 S n nl x h) j).2) cap nl k h (gapF ((rcP nl h x (rc0 S n nl x h) j).2) (rowF (((rcP nl h x (rc0 S n nl x h) j).2) 14) h) h k) (by omega) (by omega) hnl) (cwV 3 hts gX4_recount_X4_keepCount rfl rfl rfl (by decide +kernel) ⟨Nat.le_of_ble_eq_true rfl, Nat.le_of_ble_eq_true rfl⟩) ⟨kB_blind, (va_recv hK.1 hP.1 (ci := 5) (q0 := 0) rfl rfl), fun U hU hW => ⟨rfl, by rw [hU]; exact hP, hK.warm hW⟩⟩ rfl rfl hl.1 rfl (lv_room (Nat.le_of_ble_eq_true rfl)) dX4_recount_68 ⟨Nat.zero_le _, Nat.zero_le _⟩) (fun H locs hP hS => ?_)
        refine lv_iadd hx hb dX4_recount_71 ?_
        refine lv_istore_n (lv' := [(3, .int (((rcP nl h x (rc0 S n nl x h) j).1) + (kcV ((rcP nl h x (rc0 S n nl x h) j).2) nl k h (gapF ((rcP nl h x (rc0 S n nl x h) j).2) (rowF (((rcP nl h x (rc0 S n nl x h) j).2) 14) h) h k)))), (0, .ref (a 0)), (1, .int (nI x)), (2, .int (nI h)), (4, .int (nI k))]) hx hb dX4_recount_72 rfl hl (by decide) rfl (fun ls hl => ?_)
        refine lv_iinc (v := (nI k) + Int32.ofInt (-1)) (lv' := [(4, .int ((nI k) + Int32.ofInt (-1))), (3, .int (((rcP nl h x (rc0 S n nl x h) j).1) + (kcV ((rcP nl h x (rc0 S n nl x h) j).2) nl k h (gapF ((rcP nl h x (rc0 S n nl x h) j).2) (rowF (((rcP nl h x (rc0 S n nl x h) j).2) 14) h) h k)))), (0, .ref (a 0)), (1, .int (nI x)), (2, .int (nI h))]) hx hb dX4_recount_73 hl (k := 4) rfl rfl (by decide) rfl (fun ls hl => ?_)
        refine lv_goto (tgt := 35) hx hb dX4_recount_76 (by decide) ?_
        exact ih (j + 1) ((kcM ((rcP nl h x (rc0 S n nl x h) j).2) nl k h (gapF ((rcP nl h x (rc0 S n nl x h) j).2) (rowF (((rcP nl h x (rc0 S n nl x h) j).2) 14) h) h k))) (((rcP nl h x (rc0 S n nl x h) j).1) + (kcV ((rcP nl h x (rc0 S n nl x h) j).2) nl k h (gapF ((rcP nl h x (rc0 S n nl x h) j).2) (rowF (((rcP nl h x (rc0 S n nl x h) j).2) 14) h) h k))) ((nI k) + Int32.ofInt (-1)) (by omega) (by first | omega | assumption) (by rw [← hg, hk, rcA_t c_4]; show rcA nl h (x - (j + 1)) (rcS nl h (x - j - 1) (rcP nl h x (rc0 S n nl x h) j)) = _; rw [show x - (j + 1) = k from by omega, show x - j - 1 = k from by omega]) (by assumption) (by show _ = (rcS nl h (x - j - 1) (rcP nl h x (rc0 S n nl x h) j)).2; rw [show x - j - 1 = k from by omega]; rfl) (by show _ = (rcS nl h (x - j - 1) (rcP nl h x (rc0 S n nl x h) j)).1; rw [show x - j - 1 = k from by omega]; rfl) (by rw [show x - (j + 1) = k from by omega]; exact k_dec _) _ _ hP hS ls (lv_sub hl [2, 3, 4, 1, 0] rfl)
set_option maxHeartbeats 4000000 in
set_option maxRecDepth 100000 in
theorem c_X4_recount (l : Launch) (D : va_G) (q : Nat → ClassId) (A : Nat → Prop) (a : Nat → Nat) (S : Nat → Nat → Int32) (cap nl : Nat) (n x h : Nat) (hx12 : x < 12) (hh : h < 200) (hn : S 0 1 = nI n) (hn60 : n ≤ 60) (hnl : nl ≤ cap ∧ cap ≤ 40 ∧ nl ≤ 30) : Met l yX4_recount wsX4_recount ({ frames := 5, cells := 0, slots := 0, locals := 117 } : Room) (va_Pc [.ref (a 0), .int (nI x), .int (nI h)] (kB D q (fun H => kW D A (wC q a S cap nl) H))) (kRi D A ((rcF S n nl x h).1) (wC q a ((rcF S n nl x h).2) cap nl)) 0 0 A := by
  refine Met.ofW (cc := cX4_recount) (maxL := 5) (ret := (some .int)) (by decide) rfl ?_
  intro p e u m args below meth c s₁ B hml0 hv
  obtain ⟨rfl, hP, hK⟩ := hv
  have C0 : kAt p u m #[.ref (a 0), .int (nI x), .int (nI h)] meth c cX4_recount 5 (some .int) RX4 wsX4_recount := kAt_of B hml0
  obtain ⟨hx, hb, hr, hml, hown, hts, hlocks⟩ := id C0
  have hS : va_S A u.heap u.heap [] := va_S.rf
  have hl := lv_entry ([.ref (a 0), .int (nI x), .int (nI h)]) (n := 5) (Nat.le_of_ble_eq_true rfl)
  rw [lg_entry_eq]
  generalize (lg_sl ([.ref (a 0), .int (nI x), .int (nI h)]) ++ List.replicate (5 - (lg_sl ([.ref (a 0), .int (nI x), .int (nI h)])).length) Slot.unset).toArray = ls at hl ⊢
  have hl : lv_has ls 5 [(0, .ref (a 0)), (1, .int (nI x)), (2, .int (nI h))] := hl
  refine lv_aload_n hx hb dX4_recount_0 rfl (lv_at hl 0 rfl) ?_
  refine va_get (D := D) (ci := 5) (v := .ref (a 2)) (C := RX4) (T := TX4) (N := 6) hx hb hts in_X4_recount_X4 hown hK.1 hP.1 0 rfl rfl 1 (by decide) (hts _ fl_X4_recount_19) (fun _ h9 => h9) rfl dX4_recount_1 ?_
  refine lv_iload_n hx hb dX4_recount_4 rfl (lv_at hl 1 rfl) ?_
  refine lv_iload_n hx hb dX4_recount_5 rfl (lv_at hl 2 rfl) ?_
  refine k_callV (rest := []) (r := bI (S 13 (h * 12 + x) = -1)) ⟨hx, hb, hml, hown, hts⟩ (c_X1_isLost l D q a S cap nl x h (by omega) (by omega)) (cwV 2 hts gX4_recount_X1_isLost rfl rfl rfl (by decide +kernel) ⟨Nat.le_of_ble_eq_true rfl, Nat.le_of_ble_eq_true rfl⟩) hK hP.1 (va_recv hK.1 hP.1 (ci := 2) (q0 := 2) rfl rfl) rfl hl.1 rfl (Nat.le_of_ble_eq_true rfl) dX4_recount_6 ⟨Nat.zero_le _, Nat.zero_le _⟩ (fun _ h => h) ?_
  refine k_if_eq (P := ¬ (S 13 (h * 12 + x) = -1)) (tgt := 14) hx hb dX4_recount_9 (by decide) bI_0 (fun c_5 => ?_) (fun c_5 => ?_)
  · skip
    have hc : ¬ S 13 (h * 12 + x) = -1 := c_5
    refine lv_aload_n hx hb dX4_recount_14 rfl (lv_at hl 0 rfl) ?_
    refine lv_iload_n hx hb dX4_recount_15 rfl (lv_at hl 1 rfl) ?_
    refine lv_iload_n hx hb dX4_recount_16 rfl (lv_at hl 2 rfl) ?_
    refine lv_aload_n hx hb dX4_recount_17 rfl (lv_at hl 0 rfl) ?_
    refine va_get (D := D) (ci := 5) (v := .ref (a 2)) (C := RX4) (T := TX4) (N := 6) hx hb hts in_X4_recount_X4 hown hK.1 hP.1 0 rfl rfl 1 (by decide) (hts _ fl_X4_recount_19) (fun _ h9 => h9) rfl dX4_recount_18 ?_
    refine lv_iload_n hx hb dX4_recount_21 rfl (lv_at hl 1 rfl) ?_
    refine lv_iload_n hx hb dX4_recount_22 rfl (lv_at hl 2 rfl) ?_
    refine k_callV (rest := [.int (nI h), .int (nI x), .ref (a 0)]) (r := cntR S n h x) ⟨hx, hb, hml, hown, hts⟩ (c_X1_countOfReading l D q a S cap nl x h n (by omega) (by omega) hn hn60) (cwV 2 hts gX4_recount_X1_countOfReading rfl rfl rfl (by decide +kernel) ⟨Nat.le_of_ble_eq_true rfl, Nat.le_of_ble_eq_true rfl⟩) hK hP.1 (va_recv hK.1 hP.1 (ci := 2) (q0 := 2) rfl rfl) rfl hl.1 rfl (Nat.le_of_ble_eq_true rfl) dX4_recount_23 ⟨Nat.zero_le _, Nat.zero_le _⟩ (fun _ h => h) ?_
    refine k_goRi hS (va_runV (rest := []) ⟨hx, hb, hml, hown, hts⟩ (c_X4_keepCount l D q A a S cap nl x h (cntR S n h x) (by omega) (by omega) hnl) (cwV 3 hts gX4_recount_X4_keepCount rfl rfl rfl (by decide +kernel) ⟨Nat.le_of_ble_eq_true rfl, Nat.le_of_ble_eq_true rfl⟩) ⟨kB_blind, (va_recv hK.1 hP.1 (ci := 5) (q0 := 0) rfl rfl), fun U hU hW => ⟨rfl, by rw [hU]; exact hP, hK.warm hW⟩⟩ rfl rfl hl.1 rfl (lv_room (Nat.le_of_ble_eq_true rfl)) dX4_recount_26 ⟨Nat.zero_le _, Nat.zero_le _⟩) (fun H locs hP hS => ?_)
    refine lv_istore_n (lv' := [(3, .int (kcV S nl x h (cntR S n h x))), (0, .ref (a 0)), (1, .int (nI x)), (2, .int (nI h))]) hx hb dX4_recount_29 rfl hl (by decide) rfl (fun ls hl => ?_)
    refine lv_iload_n hx hb dX4_recount_30 rfl (lv_at hl 2 rfl) ?_
    refine lv_iconst (v := nI 1) hx hb dX4_recount_31 (by decide) ?_
    refine lv_isub hx hb dX4_recount_32 ?_
    refine lv_istore (lv' := [(4, .int ((nI x) - (nI 1))), (3, .int (kcV S nl x h (cntR S n h x))), (0, .ref (a 0)), (1, .int (nI x)), (2, .int (nI h))]) hx hb dX4_recount_33 hl (by decide) rfl (fun ls hl => ?_)
    exact lp_X4_recount_35 a S cap nl n x h hx12 hh hn hn60 hnl C0 hK ((x - 0) + 1) 0 ((kcM S nl x h (cntR S n h x))) (kcV S nl x h (cntR S n h x)) ((nI x) - (nI 1)) (by omega) (by first | omega | assumption) (by rfl) (by assumption) (by rfl) (by rfl) (by rfl) _ _ hP hS ls (lv_sub hl [2, 3, 4, 1, 0] rfl)
  · skip
    have c_5 : S 13 (h * 12 + x) = -1 := Classical.not_not.mp c_5
    refine lv_iconst (v := nI 0) hx hb dX4_recount_12 (by decide) ?_
    have eM : S = (rcF S n nl x h).2 := by unfold rcF; rw [if_pos c_5]
    rw [eM] at hP
    exact k_iretW hx hb hr hlocks hP hS (by unfold rcF; rw [if_pos c_5]) dX4_recount_13
theorem fl_X4_debt_33 : Cond.fieldLink RX4 33 "LampCounts" "made" "Ljava/util/ArrayList;" ∈ wsX4_debt := by decide +kernel
theorem fl_X4_debt_37 : Cond.fieldLink RX4 37 "LampCounts" "paid" "[I" ∈ wsX4_debt := by decide +kernel
theorem fl_X4_debt_178 : Cond.fieldLink RX4 178 "LampCounts$Lease" "bill" "I" ∈ wsX4_debt := by decide +kernel
theorem fl_X4_debt_247 : Cond.fieldLink RX4 247 "LampCounts$Lease" "tenant" "I" ∈ wsX4_debt := by decide +kernel
theorem in_X4_debt_X2 : ∀ w ∈ u_ws RX2 TX2 9, w ∈ wsX4_debt := by decide +kernel
theorem in_X4_debt_X4 : ∀ w ∈ u_ws RX4 TX4 6, w ∈ wsX4_debt := by decide +kernel
theorem cl_X4_debt_101 : Cond.classLink RX4 101 "LampCounts$Lease" ∈ wsX4_debt := by decide +kernel
set_option maxHeartbeats 4000000 in
set_option maxRecDepth 100000 in
theorem lp_X4_debt_10 {p : Program} {l : Launch} {e : Env} {u : State} {m : MethodId} {below : List Frame} {meth : Method} {c : Code} {D : va_G} {q : Nat → ClassId} (a : Nat → Nat) (S : Nat → Nat → Int32) (cap nl : Nat) (x : Nat) (hx6 : x < 6) (hnl : nl ≤ cap ∧ cap ≤ 40 ∧ nl ≤ 30) (C0 : kAt p u m #[.ref (a 0), .int (nI x)] meth c cX4_debt 5 (some .int) RX4 wsX4_debt) (hK : kK D q u) (hP : va_P D vwCl (wC q a S cap nl) u.heap) :
    ∀ (f : Nat) (i : Nat) (x2 : Int32) (x3 : Int32), nl - i < f → i ≤ nl → x2 = dbF S x i → x3 = nI i → ∀ (ls : Array Slot), lv_has ls 5 [(0, .ref (a 0)), (1, .int (nI x)), (2, .int x2), (3, .int x3)] → W p l e ({ frames := 3, cells := 0, slots := 0, locals := 64 } : Room) u m #[.ref (a 0), .int (nI x)] below meth c u.heap [] 0 0 (MQ below (kSi (dbF S x nl)) #[.ref (a 0), .int (nI x)] u 0 0 (fun _ => False)) (F0 m 10 ls []) := by
  obtain ⟨hx, hb, hr, hml, hown, hts, hlocks⟩ := id C0
  intro f
  induction f with
  | zero =>
    intro i x2 x3 hf
    exact absurd hf (Nat.not_lt_zero _)
  | succ f ih =>
    intro i x2 x3 hf hi e2 e3 ls hl
    replace e2 := e2.symm
    subst e2
    replace e3 := e3.symm
    subst e3
    refine lv_iload_n hx hb dX4_debt_10 rfl (lv_at hl 3 rfl) ?_
    refine lv_aload_n hx hb dX4_debt_11 rfl (lv_at hl 0 rfl) ?_
    refine va_get (D := D) (ci := 5) (v := .ref (a 4)) (C := RX4) (T := TX4) (N := 6) hx hb hts in_X4_debt_X4 hown hK.1 hP 0 rfl rfl 3 (by decide) (hts _ fl_X4_debt_33) (fun _ h9 => h9) rfl dX4_debt_12 ?_
    refine k_callV (rest := [.int (nI i)]) (r := nI nl) ⟨hx, hb, hml, hown, hts⟩ (c_Jx4a65c_size_8abf5 l D q a S cap nl) (cwV 0 hts gX4_debt_Jx4a65c_size_8abf5 rfl rfl rfl (by decide +kernel) ⟨Nat.le_of_ble_eq_true rfl, Nat.le_of_ble_eq_true rfl⟩) hK hP (va_recv hK.1 hP (ci := 0) (q0 := 4) rfl rfl) rfl hl.1 rfl (Nat.le_of_ble_eq_true rfl) dX4_debt_15 ⟨Nat.zero_le _, Nat.zero_le _⟩ (fun _ h => h) ?_
    refine k_icmp_ge (P := i < nl) (tgt := 57) hx hb dX4_debt_18 (by decide) (nI_ltI (by omega) (by omega)) (fun c_1 => ?_) (fun c_1 => ?_)
    · skip
      refine lv_iload_n hx hb dX4_debt_57 rfl (lv_at hl 2 rfl) ?_
      exact k_iretS hx hb hr hlocks rfl rfl (by rw [show i = nl from by omega]) dX4_debt_58
    · skip
      refine lv_aload_n hx hb dX4_debt_21 rfl (lv_at hl 0 rfl) ?_
      refine va_get (D := D) (ci := 5) (v := .ref (a 4)) (C := RX4) (T := TX4) (N := 6) hx hb hts in_X4_debt_X4 hown hK.1 hP 0 rfl rfl 3 (by decide) (hts _ fl_X4_debt_33) (fun _ h9 => h9) rfl dX4_debt_22 ?_
      refine lv_iload_n hx hb dX4_debt_25 rfl (lv_at hl 3 rfl) ?_
      refine k_callVr (rest := []) (r := a (100 + i)) ⟨hx, hb, hml, hown, hts⟩ (c_Jx4a65c_get_915e3 l D q a S cap nl i hnl (by omega)) (cwV 1 hts gX4_debt_Jx4a65c_get_915e3 rfl rfl rfl (by decide +kernel) ⟨Nat.le_of_ble_eq_true rfl, Nat.le_of_ble_eq_true rfl⟩) hK hP (va_recv hK.1 hP (ci := 0) (q0 := 4) rfl rfl) rfl hl.1 rfl (Nat.le_of_ble_eq_true rfl) dX4_debt_26 ⟨Nat.zero_le _, Nat.zero_le _⟩ ?_
      refine va_castS (nm := "LampCounts$Lease") hx hb hown (hts _ cl_X4_debt_101) (hK.1.1 3 _ rfl).2 (va_recv hK.1 hP (ci := 3) (q0 := 27 + i) rfl (wC_ls (by omega) (by omega))) dX4_debt_29 ?_
      refine lv_astore (lv' := [(4, .ref (a (100 + i))), (0, .ref (a 0)), (1, .int (nI x)), (2, .int (dbF S x i)), (3, .int (nI i))]) hx hb dX4_debt_32 hl (by decide) rfl (fun ls hl => ?_)
      refine lv_aload hx hb dX4_debt_34 (lv_at hl 0 rfl) ?_
      refine va_get (D := D) (ci := 3) (v := .int (S 32 i)) (C := RX2) (T := TX2) (N := 9) hx hb hts in_X4_debt_X2 hown hK.1 hP (27 + i) (wC_ls (by omega) (by omega)) rfl 2 (by decide) (hts _ fl_X4_debt_247) (fun _ h9 => h9) rfl dX4_debt_36 ?_
      refine lv_iload_n hx hb dX4_debt_39 rfl (lv_at hl 2 rfl) ?_
      refine k_icmp_ne (P := S 32 i = nI x) (tgt := 51) hx hb dX4_debt_40 (by decide) Iff.rfl (fun c_2 => ?_) (fun c_2 => ?_)
      · skip
        refine lv_iinc (v := nI (i + 1)) (lv' := [(3, .int (nI (i + 1))), (4, .ref (a (100 + i))), (0, .ref (a 0)), (1, .int (nI x)), (2, .int (dbF S x i))]) hx hb dX4_debt_51 hl (k := 4) rfl (k_iinc _) (by decide) rfl (fun ls hl => ?_)
        refine lv_goto (tgt := 10) hx hb dX4_debt_54 (by decide) ?_
        exact ih (i + 1) (dbF S x i) (nI (i + 1)) (by omega) (by first | omega | assumption)  (by simp only [dbF, if_neg c_2]) rfl ls (lv_sub hl [2, 3, 4, 0] rfl)
      · skip
        refine lv_iload_n hx hb dX4_debt_43 rfl (lv_at hl 3 rfl) ?_
        refine lv_aload hx hb dX4_debt_44 (lv_at hl 0 rfl) ?_
        refine va_get (D := D) (ci := 3) (v := .int (S 37 i)) (C := RX2) (T := TX2) (N := 9) hx hb hts in_X4_debt_X2 hown hK.1 hP (27 + i) (wC_ls (by omega) (by omega)) rfl 7 (by decide) (hts _ fl_X4_debt_178) (fun _ h9 => h9) rfl dX4_debt_46 ?_
        refine lv_iadd hx hb dX4_debt_49 ?_
        refine lv_istore_n (lv' := [(2, .int ((dbF S x i) + (S 37 i))), (4, .ref (a (100 + i))), (0, .ref (a 0)), (1, .int (nI x)), (3, .int (nI i))]) hx hb dX4_debt_50 rfl hl (by decide) rfl (fun ls hl => ?_)
        refine lv_iinc (v := nI (i + 1)) (lv' := [(3, .int (nI (i + 1))), (2, .int ((dbF S x i) + (S 37 i))), (4, .ref (a (100 + i))), (0, .ref (a 0)), (1, .int (nI x))]) hx hb dX4_debt_51 hl (k := 4) rfl (k_iinc _) (by decide) rfl (fun ls hl => ?_)
        refine lv_goto (tgt := 10) hx hb dX4_debt_54 (by decide) ?_
        exact ih (i + 1) ((dbF S x i) + (S 37 i)) (nI (i + 1)) (by omega) (by first | omega | assumption)  (by simp only [dbF, if_pos c_2]) rfl ls (lv_sub hl [3, 4, 1, 0] rfl)
set_option maxHeartbeats 4000000 in
set_option maxRecDepth 100000 in
theorem c_X4_debt (l : Launch) (D : va_G) (q : Nat → ClassId) (a : Nat → Nat) (S : Nat → Nat → Int32) (cap nl : Nat) (x : Nat) (hx6 : x < 6) (hnl : nl ≤ cap ∧ cap ≤ 40 ∧ nl ≤ 30) : Met l yX4_debt wsX4_debt ({ frames := 3, cells := 0, slots := 0, locals := 64 } : Room) (va_Pc [.ref (a 0), .int (nI x)] (kB D q (fun H => va_P D vwCl (wC q a S cap nl) H))) (kSi (dbF S x nl)) 0 0 (fun _ => False) := by
  refine Met.ofW (cc := cX4_debt) (maxL := 5) (ret := (some .int)) (by decide) rfl ?_
  intro p e u m args below meth c s₁ B hml0 hv
  obtain ⟨rfl, hP, hK⟩ := hv
  have C0 : kAt p u m #[.ref (a 0), .int (nI x)] meth c cX4_debt 5 (some .int) RX4 wsX4_debt := kAt_of B hml0
  obtain ⟨hx, hb, hr, hml, hown, hts, hlocks⟩ := id C0
  have hl := lv_entry ([.ref (a 0), .int (nI x)]) (n := 5) (Nat.le_of_ble_eq_true rfl)
  rw [lg_entry_eq]
  generalize (lg_sl ([.ref (a 0), .int (nI x)]) ++ List.replicate (5 - (lg_sl ([.ref (a 0), .int (nI x)])).length) Slot.unset).toArray = ls at hl ⊢
  have hl : lv_has ls 5 [(0, .ref (a 0)), (1, .int (nI x))] := hl
  refine lv_aload_n hx hb dX4_debt_0 rfl (lv_at hl 0 rfl) ?_
  refine va_get (D := D) (ci := 5) (v := .ref (a 5)) (C := RX4) (T := TX4) (N := 6) hx hb hts in_X4_debt_X4 hown hK.1 hP 0 rfl rfl 4 (by decide) (hts _ fl_X4_debt_37) (fun _ h9 => h9) rfl dX4_debt_1 ?_
  refine lv_iload_n hx hb dX4_debt_4 rfl (lv_at hl 1 rfl) ?_
  refine k_iald hx hb hK hP 5 rfl x rfl (by omega) (by decide) dX4_debt_5 ?_
  refine lv_ineg hx hb dX4_debt_6 ?_
  refine lv_istore_n (lv' := [(2, .int (-(S 5 x))), (0, .ref (a 0)), (1, .int (nI x))]) hx hb dX4_debt_7 rfl hl (by decide) rfl (fun ls hl => ?_)
  refine lv_iconst (v := nI 0) hx hb dX4_debt_8 (by decide) ?_
  refine lv_istore_n (lv' := [(3, .int (nI 0)), (2, .int (-(S 5 x))), (0, .ref (a 0)), (1, .int (nI x))]) hx hb dX4_debt_9 rfl hl (by decide) rfl (fun ls hl => ?_)
  exact lp_X4_debt_10 a S cap nl x hx6 hnl C0 hK hP ((nl - 0) + 1) 0 (-(S 5 x)) (nI 0) (by omega) (by first | omega | assumption)  (by rfl) rfl ls (lv_sub hl [2, 3, 1, 0] rfl)
