theorem k_m1s {a : Nat} (h : a < 2 ^ 31) : -1 = nI a ↔ False := ⟨fun z => (k_m1 h).mp z.symm, False.elim⟩
set_option maxHeartbeats 4000000 in
set_option maxRecDepth 100000 in
theorem c_X5_in (l : Launch) (D : va_G) (q : Nat → ClassId) (v lo hi : Int32)  : Met l yX5_in wsX5_in ({ frames := 0, cells := 0, slots := 0, locals := 0 } : Room) (va_Pc [.int (v), .int (lo), .int (hi)] (kB D q (fun _ => True))) (kSi (bI (inP v lo hi))) 0 0 (fun _ => False) := by
  refine Met.ofW (cc := cX5_in) (maxL := 3) (ret := (some .boolean)) (by decide) rfl ?_
  intro p e u m args below meth c s₁ B hml0 hv
  obtain ⟨rfl, hP, hK⟩ := hv
  have C0 : kAt p u m #[.int (v), .int (lo), .int (hi)] meth c cX5_in 3 (some .boolean) RX5 wsX5_in := kAt_of B hml0
  obtain ⟨hx, hb, hr, hml, hown, hts, hlocks⟩ := id C0
  have hl := lv_entry ([.int (v), .int (lo), .int (hi)]) (n := 3) (Nat.le_of_ble_eq_true rfl)
  rw [lg_entry_eq]
  generalize (lg_sl ([.int (v), .int (lo), .int (hi)]) ++ List.replicate (3 - (lg_sl ([.int (v), .int (lo), .int (hi)])).length) Slot.unset).toArray = ls at hl ⊢
  have hl : lv_has ls 3 [(0, .int (v)), (1, .int (lo)), (2, .int (hi))] := hl
  refine lv_iload_n hx hb dX5_in_0 rfl (lv_at hl 0 rfl) ?_
  refine lv_iload_n hx hb dX5_in_1 rfl (lv_at hl 1 rfl) ?_
  refine k_icmp_lt (P := v < lo) (tgt := 14) hx hb dX5_in_2 (by decide) Iff.rfl (fun c_1 => ?_) (fun c_1 => ?_)
  · skip
    refine lv_iconst (v := nI 0) hx hb dX5_in_14 (by decide) ?_
    exact k_zretS hx hb hr hlocks rfl rfl rfl (by exact (bI_f (fun z => z.1 c_1)).symm) dX5_in_15
  · skip
    refine lv_iload_n hx hb dX5_in_5 rfl (lv_at hl 0 rfl) ?_
    refine lv_iload_n hx hb dX5_in_6 rfl (lv_at hl 2 rfl) ?_
    refine k_icmp_gt (P := v ≤ hi) (tgt := 14) hx hb dX5_in_7 (by decide) Iff.rfl (fun c_2 => ?_) (fun c_2 => ?_)
    · skip
      refine lv_iconst (v := nI 0) hx hb dX5_in_14 (by decide) ?_
      exact k_zretS hx hb hr hlocks rfl rfl rfl (by exact (bI_f (fun z => c_2 z.2)).symm) dX5_in_15
    · skip
      refine lv_iconst (v := nI 1) hx hb dX5_in_10 (by decide) ?_
      refine lv_goto (tgt := 15) hx hb dX5_in_11 (by decide) ?_
      exact k_zretS hx hb hr hlocks rfl rfl rfl (by exact (bI_t ⟨c_1, c_2⟩).symm) dX5_in_15
set_option maxHeartbeats 4000000 in
set_option maxRecDepth 100000 in
theorem c_X5_isSection (l : Launch) (D : va_G) (q : Nat → ClassId) (v : Int32)  : Met l yX5_isSection wsX5_isSection ({ frames := 1, cells := 0, slots := 0, locals := 22 } : Room) (va_Pc [.int (v)] (kB D q (fun _ => True))) (kSi (bI (inP v (nI 0) (nI 11)))) 0 0 (fun _ => False) := by
  refine Met.ofW (cc := cX5_isSection) (maxL := 1) (ret := (some .boolean)) (by decide) rfl ?_
  intro p e u m args below meth c s₁ B hml0 hv
  obtain ⟨rfl, hP, hK⟩ := hv
  have C0 : kAt p u m #[.int (v)] meth c cX5_isSection 1 (some .boolean) RX5 wsX5_isSection := kAt_of B hml0
  obtain ⟨hx, hb, hr, hml, hown, hts, hlocks⟩ := id C0
  have hl := lv_entry ([.int (v)]) (n := 1) (Nat.le_of_ble_eq_true rfl)
  rw [lg_entry_eq]
  generalize (lg_sl ([.int (v)]) ++ List.replicate (1 - (lg_sl ([.int (v)])).length) Slot.unset).toArray = ls at hl ⊢
  have hl : lv_has ls 1 [(0, .int (v))] := hl
  refine lv_iload_n hx hb dX5_isSection_0 rfl (lv_at hl 0 rfl) ?_
  refine lv_iconst (v := nI 0) hx hb dX5_isSection_1 (by decide) ?_
  refine lv_bipush (v := nI 11) hx hb dX5_isSection_2 (by decide) ?_
  refine k_callS (rest := []) (r := bI (inP v (nI 0) (nI 11))) ⟨hx, hb, hml, hown, hts⟩ (c_X5_in l D q v (nI 0) (nI 11)) (va_cwS 3 hts gX5_isSection_X5_in rfl rfl rfl (by decide +kernel) ⟨Nat.le_of_ble_eq_true rfl, Nat.le_of_ble_eq_true rfl⟩) hK trivial rfl hl.1 rfl (Nat.le_of_ble_eq_true rfl) dX5_isSection_4 ⟨Nat.zero_le _, Nat.zero_le _⟩ (fun _ h => h) ?_
  exact k_zretS hx hb hr hlocks bI_nar rfl rfl (by rfl) dX5_isSection_7
set_option maxHeartbeats 4000000 in
set_option maxRecDepth 100000 in
theorem c_X5_isBusker (l : Launch) (D : va_G) (q : Nat → ClassId) (v : Int32)  : Met l yX5_isBusker wsX5_isBusker ({ frames := 1, cells := 0, slots := 0, locals := 22 } : Room) (va_Pc [.int (v)] (kB D q (fun _ => True))) (kSi (bI (inP v (nI 0) (nI 5)))) 0 0 (fun _ => False) := by
  refine Met.ofW (cc := cX5_isBusker) (maxL := 1) (ret := (some .boolean)) (by decide) rfl ?_
  intro p e u m args below meth c s₁ B hml0 hv
  obtain ⟨rfl, hP, hK⟩ := hv
  have C0 : kAt p u m #[.int (v)] meth c cX5_isBusker 1 (some .boolean) RX5 wsX5_isBusker := kAt_of B hml0
  obtain ⟨hx, hb, hr, hml, hown, hts, hlocks⟩ := id C0
  have hl := lv_entry ([.int (v)]) (n := 1) (Nat.le_of_ble_eq_true rfl)
  rw [lg_entry_eq]
  generalize (lg_sl ([.int (v)]) ++ List.replicate (1 - (lg_sl ([.int (v)])).length) Slot.unset).toArray = ls at hl ⊢
  have hl : lv_has ls 1 [(0, .int (v))] := hl
  refine lv_iload_n hx hb dX5_isBusker_0 rfl (lv_at hl 0 rfl) ?_
  refine lv_iconst (v := nI 0) hx hb dX5_isBusker_1 (by decide) ?_
  refine lv_iconst (v := nI 5) hx hb dX5_isBusker_2 (by decide) ?_
  refine k_callS (rest := []) (r := bI (inP v (nI 0) (nI 5))) ⟨hx, hb, hml, hown, hts⟩ (c_X5_in l D q v (nI 0) (nI 5)) (va_cwS 3 hts gX5_isBusker_X5_in rfl rfl rfl (by decide +kernel) ⟨Nat.le_of_ble_eq_true rfl, Nat.le_of_ble_eq_true rfl⟩) hK trivial rfl hl.1 rfl (Nat.le_of_ble_eq_true rfl) dX5_isBusker_3 ⟨Nat.zero_le _, Nat.zero_le _⟩ (fun _ h => h) ?_
  exact k_zretS hx hb hr hlocks bI_nar rfl rfl (by rfl) dX5_isBusker_6
set_option maxHeartbeats 4000000 in
set_option maxRecDepth 100000 in
theorem c_X5_cell (l : Launch) (D : va_G) (q : Nat → ClassId) (x h : Nat)  : Met l yX5_cell wsX5_cell ({ frames := 0, cells := 0, slots := 0, locals := 0 } : Room) (va_Pc [.int (nI x), .int (nI h)] (kB D q (fun _ => True))) (kSi (nI (h * 12 + x))) 0 0 (fun _ => False) := by
  refine Met.ofW (cc := cX5_cell) (maxL := 2) (ret := (some .int)) (by decide) rfl ?_
  intro p e u m args below meth c s₁ B hml0 hv
  obtain ⟨rfl, hP, hK⟩ := hv
  have C0 : kAt p u m #[.int (nI x), .int (nI h)] meth c cX5_cell 2 (some .int) RX5 wsX5_cell := kAt_of B hml0
  obtain ⟨hx, hb, hr, hml, hown, hts, hlocks⟩ := id C0
  have hl := lv_entry ([.int (nI x), .int (nI h)]) (n := 2) (Nat.le_of_ble_eq_true rfl)
  rw [lg_entry_eq]
  generalize (lg_sl ([.int (nI x), .int (nI h)]) ++ List.replicate (2 - (lg_sl ([.int (nI x), .int (nI h)])).length) Slot.unset).toArray = ls at hl ⊢
  have hl : lv_has ls 2 [(0, .int (nI x)), (1, .int (nI h))] := hl
  refine lv_bipush (v := nI 12) hx hb dX5_cell_0 (by decide) ?_
  refine lv_iload_n hx hb dX5_cell_2 rfl (lv_at hl 1 rfl) ?_
  refine lv_imul hx hb dX5_cell_3 ?_
  refine k_top (y := nI (12 * h)) (pk_mul _ _) ?_
  refine lv_iload_n hx hb dX5_cell_4 rfl (lv_at hl 0 rfl) ?_
  refine lv_iadd hx hb dX5_cell_5 ?_
  refine k_top (y := nI (12 * h + x)) (nI_add _ _) ?_
  exact k_iretS hx hb hr hlocks rfl rfl (by rw [Nat.mul_comm]) dX5_cell_6
set_option maxHeartbeats 4000000 in
set_option maxRecDepth 100000 in
theorem c_X5_reads (l : Launch) (D : va_G) (q : Nat → ClassId) (y z : Int32)  : Met l yX5_reads wsX5_reads ({ frames := 0, cells := 0, slots := 0, locals := 0 } : Room) (va_Pc [.int (y), .int (z)] (kB D q (fun _ => True))) (kSi (rsM y z)) 0 0 (fun _ => False) := by
  refine Met.ofW (cc := cX5_reads) (maxL := 2) (ret := (some .int)) (by decide) rfl ?_
  intro p e u m args below meth c s₁ B hml0 hv
  obtain ⟨rfl, hP, hK⟩ := hv
  have C0 : kAt p u m #[.int (y), .int (z)] meth c cX5_reads 2 (some .int) RX5 wsX5_reads := kAt_of B hml0
  obtain ⟨hx, hb, hr, hml, hown, hts, hlocks⟩ := id C0
  have hl := lv_entry ([.int (y), .int (z)]) (n := 2) (Nat.le_of_ble_eq_true rfl)
  rw [lg_entry_eq]
  generalize (lg_sl ([.int (y), .int (z)]) ++ List.replicate (2 - (lg_sl ([.int (y), .int (z)])).length) Slot.unset).toArray = ls at hl ⊢
  have hl : lv_has ls 2 [(0, .int (y)), (1, .int (z))] := hl
  refine lv_iload_n hx hb dX5_reads_0 rfl (lv_at hl 0 rfl) ?_
  refine lv_iload_n hx hb dX5_reads_1 rfl (lv_at hl 0 rfl) ?_
  refine lv_iload_n hx hb dX5_reads_2 rfl (lv_at hl 1 rfl) ?_
  refine lv_imul hx hb dX5_reads_3 ?_
  refine lv_bipush (v := nI 100) hx hb dX5_reads_4 (by decide) ?_
  refine lv_idiv hx hb dX5_reads_6 (by decide) ?_
  refine lv_isub hx hb dX5_reads_7 ?_
  exact k_iretS hx hb hr hlocks rfl rfl (by rfl) dX5_reads_8
theorem fl_X5_isOver_103 : Cond.fieldLink RX5 103 "LampCountsModel" "now" "I" ∈ wsX5_isOver := by decide +kernel
theorem in_X5_isOver_X5 : ∀ w ∈ u_ws RX5 TX5 33, w ∈ wsX5_isOver := by decide +kernel
set_option maxHeartbeats 4000000 in
set_option maxRecDepth 100000 in
theorem c_X5_isOver (l : Launch) (D : va_G) (q : Nat → ClassId) (a : Nat → Nat) (S : Nat → Nat → Int32) (v : Int32)  : Met l yX5_isOver wsX5_isOver ({ frames := 1, cells := 0, slots := 0, locals := 22 } : Room) (va_Pc [.ref (a 0), .int (v)] (kB D q (fun H => va_P D vwCl (wM q a S) H))) (kSi (bI (inP v (nI 0) (S 0 1 - nI 1)))) 0 0 (fun _ => False) := by
  refine Met.ofW (cc := cX5_isOver) (maxL := 2) (ret := (some .boolean)) (by decide) rfl ?_
  intro p e u m args below meth c s₁ B hml0 hv
  obtain ⟨rfl, hP, hK⟩ := hv
  have C0 : kAt p u m #[.ref (a 0), .int (v)] meth c cX5_isOver 2 (some .boolean) RX5 wsX5_isOver := kAt_of B hml0
  obtain ⟨hx, hb, hr, hml, hown, hts, hlocks⟩ := id C0
  have hl := lv_entry ([.ref (a 0), .int (v)]) (n := 2) (Nat.le_of_ble_eq_true rfl)
  rw [lg_entry_eq]
  generalize (lg_sl ([.ref (a 0), .int (v)]) ++ List.replicate (2 - (lg_sl ([.ref (a 0), .int (v)])).length) Slot.unset).toArray = ls at hl ⊢
  have hl : lv_has ls 2 [(0, .ref (a 0)), (1, .int (v))] := hl
  refine lv_iload_n hx hb dX5_isOver_0 rfl (lv_at hl 1 rfl) ?_
  refine lv_iconst (v := nI 0) hx hb dX5_isOver_1 (by decide) ?_
  refine lv_aload_n hx hb dX5_isOver_2 rfl (lv_at hl 0 rfl) ?_
  refine va_get (D := D) (ci := 6) (v := .int (S 0 1)) (C := RX5) (T := TX5) (N := 33) hx hb hts in_X5_isOver_X5 hown hK.1 hP 0 rfl rfl 1 (by decide) (hts _ fl_X5_isOver_103) (fun _ h9 => h9) rfl dX5_isOver_3 ?_
  refine lv_iconst (v := nI 1) hx hb dX5_isOver_6 (by decide) ?_
  refine lv_isub hx hb dX5_isOver_7 ?_
  refine k_callS (rest := []) (r := bI (inP v (nI 0) ((S 0 1) - (nI 1)))) ⟨hx, hb, hml, hown, hts⟩ (c_X5_in l D q v (nI 0) ((S 0 1) - (nI 1))) (va_cwS 3 hts gX5_isOver_X5_in rfl rfl rfl (by decide +kernel) ⟨Nat.le_of_ble_eq_true rfl, Nat.le_of_ble_eq_true rfl⟩) hK trivial rfl hl.1 rfl (Nat.le_of_ble_eq_true rfl) dX5_isOver_8 ⟨Nat.zero_le _, Nat.zero_le _⟩ (fun _ h => h) ?_
  exact k_zretS hx hb hr hlocks bI_nar rfl rfl (by rfl) dX5_isOver_11
theorem fl_X5_isLease_106 : Cond.fieldLink RX5 106 "LampCountsModel" "leases" "I" ∈ wsX5_isLease := by decide +kernel
theorem in_X5_isLease_X5 : ∀ w ∈ u_ws RX5 TX5 33, w ∈ wsX5_isLease := by decide +kernel
set_option maxHeartbeats 4000000 in
set_option maxRecDepth 100000 in
theorem c_X5_isLease (l : Launch) (D : va_G) (q : Nat → ClassId) (a : Nat → Nat) (S : Nat → Nat → Int32) (v : Int32)  : Met l yX5_isLease wsX5_isLease ({ frames := 1, cells := 0, slots := 0, locals := 22 } : Room) (va_Pc [.ref (a 0), .int (v)] (kB D q (fun H => va_P D vwCl (wM q a S) H))) (kSi (bI (inP v (nI 0) (S 0 15 - nI 1)))) 0 0 (fun _ => False) := by
  refine Met.ofW (cc := cX5_isLease) (maxL := 2) (ret := (some .boolean)) (by decide) rfl ?_
  intro p e u m args below meth c s₁ B hml0 hv
  obtain ⟨rfl, hP, hK⟩ := hv
  have C0 : kAt p u m #[.ref (a 0), .int (v)] meth c cX5_isLease 2 (some .boolean) RX5 wsX5_isLease := kAt_of B hml0
  obtain ⟨hx, hb, hr, hml, hown, hts, hlocks⟩ := id C0
  have hl := lv_entry ([.ref (a 0), .int (v)]) (n := 2) (Nat.le_of_ble_eq_true rfl)
  rw [lg_entry_eq]
  generalize (lg_sl ([.ref (a 0), .int (v)]) ++ List.replicate (2 - (lg_sl ([.ref (a 0), .int (v)])).length) Slot.unset).toArray = ls at hl ⊢
  have hl : lv_has ls 2 [(0, .ref (a 0)), (1, .int (v))] := hl
  refine lv_iload_n hx hb dX5_isLease_0 rfl (lv_at hl 1 rfl) ?_
  refine lv_iconst (v := nI 0) hx hb dX5_isLease_1 (by decide) ?_
  refine lv_aload_n hx hb dX5_isLease_2 rfl (lv_at hl 0 rfl) ?_
  refine va_get (D := D) (ci := 6) (v := .int (S 0 15)) (C := RX5) (T := TX5) (N := 33) hx hb hts in_X5_isLease_X5 hown hK.1 hP 0 rfl rfl 15 (by decide) (hts _ fl_X5_isLease_106) (fun _ h9 => h9) rfl dX5_isLease_3 ?_
  refine lv_iconst (v := nI 1) hx hb dX5_isLease_6 (by decide) ?_
  refine lv_isub hx hb dX5_isLease_7 ?_
  refine k_callS (rest := []) (r := bI (inP v (nI 0) ((S 0 15) - (nI 1)))) ⟨hx, hb, hml, hown, hts⟩ (c_X5_in l D q v (nI 0) ((S 0 15) - (nI 1))) (va_cwS 3 hts gX5_isLease_X5_in rfl rfl rfl (by decide +kernel) ⟨Nat.le_of_ble_eq_true rfl, Nat.le_of_ble_eq_true rfl⟩) hK trivial rfl hl.1 rfl (Nat.le_of_ble_eq_true rfl) dX5_isLease_8 ⟨Nat.zero_le _, Nat.zero_le _⟩ (fun _ h => h) ?_
  exact k_zretS hx hb hr hlocks bI_nar rfl rfl (by rfl) dX5_isLease_11
theorem fl_X5_fails_95 : Cond.fieldLink RX5 95 "LampCountsModel" "thrown" "I" ∈ wsX5_fails := by decide +kernel
theorem in_X5_fails_X5 : ∀ w ∈ u_ws RX5 TX5 33, w ∈ wsX5_fails := by decide +kernel
set_option maxHeartbeats 4000000 in
set_option maxRecDepth 100000 in
theorem c_X5_fails (l : Launch) (D : va_G) (q : Nat → ClassId) (A : Nat → Prop) (a : Nat → Nat) (S : Nat → Nat → Int32) (k0 : Int32)  : Met l yX5_fails wsX5_fails ({ frames := 0, cells := 0, slots := 0, locals := 0 } : Room) (va_Pc [.ref (a 0), .int (k0)] (kB D q (fun H => kW D A (wM q a S) H))) (kRi D A (nI 0) (wM q a (up S 0 0 k0))) 0 0 A := by
  refine Met.ofW (cc := cX5_fails) (maxL := 2) (ret := (some .int)) (by decide) rfl ?_
  intro p e u m args below meth c s₁ B hml0 hv
  obtain ⟨rfl, hP, hK⟩ := hv
  have C0 : kAt p u m #[.ref (a 0), .int (k0)] meth c cX5_fails 2 (some .int) RX5 wsX5_fails := kAt_of B hml0
  obtain ⟨hx, hb, hr, hml, hown, hts, hlocks⟩ := id C0
  have hS : va_S A u.heap u.heap [] := va_S.rf
  have hl := lv_entry ([.ref (a 0), .int (k0)]) (n := 2) (Nat.le_of_ble_eq_true rfl)
  rw [lg_entry_eq]
  generalize (lg_sl ([.ref (a 0), .int (k0)]) ++ List.replicate (2 - (lg_sl ([.ref (a 0), .int (k0)])).length) Slot.unset).toArray = ls at hl ⊢
  have hl : lv_has ls 2 [(0, .ref (a 0)), (1, .int (k0))] := hl
  refine lv_aload_n hx hb dX5_fails_0 rfl (lv_at hl 0 rfl) ?_
  refine lv_iload_n hx hb dX5_fails_1 rfl (lv_at hl 1 rfl) ?_
  refine k_puti (wM q a ((up S 0 0 k0))) hx hb hts in_X5_fails_X5 tyX5 tyX5_ok nmX5 hown hK hP hS 0 rfl rfl 0 (by decide) (hts _ fl_X5_fails_95) (fun _ h9 => h9) rfl (by decide +kernel) (Nat.le_of_ble_eq_true rfl) wM_f0_0 dX5_fails_2 (fun H locs hP hS => ?_)
  refine lv_iconst (v := nI 0) hx hb dX5_fails_5 (by decide) ?_
  have eM : (up S 0 0 k0) = up S 0 0 k0 := by rfl
  rw [eM] at hP
  exact k_iretW hx hb hr hlocks hP hS (by rfl) dX5_fails_6
theorem fl_X5_takenFor_38 : Cond.fieldLink RX5 38 "LampCountsModel" "where" "[I" ∈ wsX5_takenFor := by decide +kernel
theorem fl_X5_takenFor_41 : Cond.fieldLink RX5 41 "LampCountsModel" "since" "[I" ∈ wsX5_takenFor := by decide +kernel
theorem fl_X5_takenFor_44 : Cond.fieldLink RX5 44 "LampCountsModel" "found" "[I" ∈ wsX5_takenFor := by decide +kernel
theorem fl_X5_takenFor_143 : Cond.fieldLink RX5 143 "LampCountsModel" "finds" "I" ∈ wsX5_takenFor := by decide +kernel
theorem in_X5_takenFor_X5 : ∀ w ∈ u_ws RX5 TX5 33, w ∈ wsX5_takenFor := by decide +kernel
set_option maxHeartbeats 4000000 in
set_option maxRecDepth 100000 in
theorem lp_X5_takenFor_5 {p : Program} {l : Launch} {e : Env} {u : State} {m : MethodId} {below : List Frame} {meth : Method} {c : Code} {D : va_G} {q : Nat → ClassId} (a : Nat → Nat) (S : Nat → Nat → Int32) (x h n : Nat) (hn : S 0 11 = nI n) (hn60 : n ≤ 60) (C0 : kAt p u m #[.ref (a 0), .int (nI x), .int (nI h)] meth c cX5_takenFor 5 (some .int) RX5 wsX5_takenFor) (hK : kK D q u) (hP : va_P D vwCl (wM q a S) u.heap) :
    ∀ (f : Nat) (i : Nat) (x3 : Int32) (x4 : Int32), n - i < f → i ≤ n → x3 = takenF (S 12) (S 13) (S 14) (nI x) (nI h) i → x4 = nI i → ∀ (ls : Array Slot), lv_has ls 5 [(0, .ref (a 0)), (1, .int (nI x)), (2, .int (nI h)), (3, .int x3), (4, .int x4)] → W p l e ({ frames := 0, cells := 0, slots := 0, locals := 0 } : Room) u m #[.ref (a 0), .int (nI x), .int (nI h)] below meth c u.heap [] 0 0 (MQ below (kSi (takenF (S 12) (S 13) (S 14) (nI x) (nI h) n)) #[.ref (a 0), .int (nI x), .int (nI h)] u 0 0 (fun _ => False)) (F0 m 5 ls []) := by
  obtain ⟨hx, hb, hr, hml, hown, hts, hlocks⟩ := id C0
  intro f
  induction f with
  | zero =>
    intro i x3 x4 hf
    exact absurd hf (Nat.not_lt_zero _)
  | succ f ih =>
    intro i x3 x4 hf hi e3 e4 ls hl
    replace e3 := e3.symm
    subst e3
    replace e4 := e4.symm
    subst e4
    refine lv_iload hx hb dX5_takenFor_5 (lv_at hl 4 rfl) ?_
    refine lv_aload_n hx hb dX5_takenFor_7 rfl (lv_at hl 0 rfl) ?_
    refine va_get (D := D) (ci := 6) (v := .int (S 0 11)) (C := RX5) (T := TX5) (N := 33) hx hb hts in_X5_takenFor_X5 hown hK.1 hP 0 rfl rfl 11 (by decide) (hts _ fl_X5_takenFor_143) (fun _ h9 => h9) rfl dX5_takenFor_8 ?_
    refine k_top (y := nI n) hn ?_
    refine k_icmp_ge (P := i < n) (tgt := 54) hx hb dX5_takenFor_11 (by decide) (nI_ltI (by omega) (by omega)) (fun c_1 => ?_) (fun c_1 => ?_)
    · skip
      refine lv_iload_n hx hb dX5_takenFor_54 rfl (lv_at hl 3 rfl) ?_
      exact k_iretS hx hb hr hlocks rfl rfl (by rw [show i = n from by omega]) dX5_takenFor_55
    · skip
      refine lv_aload_n hx hb dX5_takenFor_14 rfl (lv_at hl 0 rfl) ?_
      refine va_get (D := D) (ci := 6) (v := .ref (a 12)) (C := RX5) (T := TX5) (N := 33) hx hb hts in_X5_takenFor_X5 hown hK.1 hP 0 rfl rfl 12 (by decide) (hts _ fl_X5_takenFor_38) (fun _ h9 => h9) rfl dX5_takenFor_15 ?_
      refine lv_iload hx hb dX5_takenFor_18 (lv_at hl 4 rfl) ?_
      refine k_iald hx hb hK hP 10 rfl i rfl (by omega) (by decide) dX5_takenFor_20 ?_
      refine lv_iload_n hx hb dX5_takenFor_21 rfl (lv_at hl 1 rfl) ?_
      refine k_icmp_ne (P := S 12 i = nI x) (tgt := 46) hx hb dX5_takenFor_22 (by decide) Iff.rfl (fun c_2 => ?_) (fun c_2 => ?_)
      · skip
        refine lv_iload_n hx hb dX5_takenFor_46 rfl (lv_at hl 3 rfl) ?_
        refine lv_istore_n (lv' := [(3, .int (takenF (S 12) (S 13) (S 14) (nI x) (nI h) i)), (0, .ref (a 0)), (1, .int (nI x)), (2, .int (nI h)), (4, .int (nI i))]) hx hb dX5_takenFor_47 rfl hl (by decide) rfl (fun ls hl => ?_)
        refine lv_iinc (v := nI (i + 1)) (lv' := [(4, .int (nI (i + 1))), (3, .int (takenF (S 12) (S 13) (S 14) (nI x) (nI h) i)), (0, .ref (a 0)), (1, .int (nI x)), (2, .int (nI h))]) hx hb dX5_takenFor_48 hl (k := 4) rfl (k_iinc _) (by decide) rfl (fun ls hl => ?_)
        refine lv_goto (tgt := 5) hx hb dX5_takenFor_51 (by decide) ?_
        exact ih (i + 1) (takenF (S 12) (S 13) (S 14) (nI x) (nI h) i) (nI (i + 1)) (by omega) (by first | omega | assumption)  (by first | (simp only [takenF, if_neg c_2]; done) | (simp only [takenF, if_neg c_2]; rfl) | (simp [takenF, if_neg c_2]; done) | rfl) rfl ls (lv_sub hl [2, 3, 4, 1, 0] rfl)
      · skip
        refine lv_aload_n hx hb dX5_takenFor_25 rfl (lv_at hl 0 rfl) ?_
        refine va_get (D := D) (ci := 6) (v := .ref (a 13)) (C := RX5) (T := TX5) (N := 33) hx hb hts in_X5_takenFor_X5 hown hK.1 hP 0 rfl rfl 13 (by decide) (hts _ fl_X5_takenFor_41) (fun _ h9 => h9) rfl dX5_takenFor_26 ?_
        refine lv_iload hx hb dX5_takenFor_29 (lv_at hl 4 rfl) ?_
        refine k_iald hx hb hK hP 11 rfl i rfl (by omega) (by decide) dX5_takenFor_31 ?_
        refine lv_iload_n hx hb dX5_takenFor_32 rfl (lv_at hl 2 rfl) ?_
        refine k_icmp_gt (P := S 13 i ≤ nI h) (tgt := 46) hx hb dX5_takenFor_33 (by decide) Iff.rfl (fun c_3 => ?_) (fun c_3 => ?_)
        · skip
          refine lv_iload_n hx hb dX5_takenFor_46 rfl (lv_at hl 3 rfl) ?_
          refine lv_istore_n (lv' := [(3, .int (takenF (S 12) (S 13) (S 14) (nI x) (nI h) i)), (0, .ref (a 0)), (1, .int (nI x)), (2, .int (nI h)), (4, .int (nI i))]) hx hb dX5_takenFor_47 rfl hl (by decide) rfl (fun ls hl => ?_)
          refine lv_iinc (v := nI (i + 1)) (lv' := [(4, .int (nI (i + 1))), (3, .int (takenF (S 12) (S 13) (S 14) (nI x) (nI h) i)), (0, .ref (a 0)), (1, .int (nI x)), (2, .int (nI h))]) hx hb dX5_takenFor_48 hl (k := 4) rfl (k_iinc _) (by decide) rfl (fun ls hl => ?_)
          refine lv_goto (tgt := 5) hx hb dX5_takenFor_51 (by decide) ?_
          exact ih (i + 1) (takenF (S 12) (S 13) (S 14) (nI x) (nI h) i) (nI (i + 1)) (by omega) (by first | omega | assumption)  (by first | (simp only [takenF, if_pos c_2, if_neg c_3]; done) | (simp only [takenF, if_pos c_2, if_neg c_3]; rfl) | (simp [takenF, if_pos c_2, if_neg c_3]; done) | rfl) rfl ls (lv_sub hl [2, 3, 4, 1, 0] rfl)
        · skip
          refine lv_aload_n hx hb dX5_takenFor_36 rfl (lv_at hl 0 rfl) ?_
          refine va_get (D := D) (ci := 6) (v := .ref (a 14)) (C := RX5) (T := TX5) (N := 33) hx hb hts in_X5_takenFor_X5 hown hK.1 hP 0 rfl rfl 14 (by decide) (hts _ fl_X5_takenFor_44) (fun _ h9 => h9) rfl dX5_takenFor_37 ?_
          refine lv_iload hx hb dX5_takenFor_40 (lv_at hl 4 rfl) ?_
          refine k_iald hx hb hK hP 12 rfl i rfl (by omega) (by decide) dX5_takenFor_42 ?_
          refine lv_goto (tgt := 47) hx hb dX5_takenFor_43 (by decide) ?_
          refine lv_istore_n (lv' := [(3, .int (S 14 i)), (0, .ref (a 0)), (1, .int (nI x)), (2, .int (nI h)), (4, .int (nI i))]) hx hb dX5_takenFor_47 rfl hl (by decide) rfl (fun ls hl => ?_)
          refine lv_iinc (v := nI (i + 1)) (lv' := [(4, .int (nI (i + 1))), (3, .int (S 14 i)), (0, .ref (a 0)), (1, .int (nI x)), (2, .int (nI h))]) hx hb dX5_takenFor_48 hl (k := 4) rfl (k_iinc _) (by decide) rfl (fun ls hl => ?_)
          refine lv_goto (tgt := 5) hx hb dX5_takenFor_51 (by decide) ?_
          exact ih (i + 1) (S 14 i) (nI (i + 1)) (by omega) (by first | omega | assumption)  (by first | (simp only [takenF, if_pos c_2, if_pos c_3]; done) | (simp only [takenF, if_pos c_2, if_pos c_3]; rfl) | (simp [takenF, if_pos c_2, if_pos c_3]; done) | rfl) rfl ls (lv_sub hl [2, 3, 4, 1, 0] rfl)
set_option maxHeartbeats 4000000 in
set_option maxRecDepth 100000 in
theorem c_X5_takenFor (l : Launch) (D : va_G) (q : Nat → ClassId) (a : Nat → Nat) (S : Nat → Nat → Int32) (x h n : Nat) (hn : S 0 11 = nI n) (hn60 : n ≤ 60) : Met l yX5_takenFor wsX5_takenFor ({ frames := 0, cells := 0, slots := 0, locals := 0 } : Room) (va_Pc [.ref (a 0), .int (nI x), .int (nI h)] (kB D q (fun H => va_P D vwCl (wM q a S) H))) (kSi (takenF (S 12) (S 13) (S 14) (nI x) (nI h) n)) 0 0 (fun _ => False) := by
  refine Met.ofW (cc := cX5_takenFor) (maxL := 5) (ret := (some .int)) (by decide) rfl ?_
  intro p e u m args below meth c s₁ B hml0 hv
  obtain ⟨rfl, hP, hK⟩ := hv
  have C0 : kAt p u m #[.ref (a 0), .int (nI x), .int (nI h)] meth c cX5_takenFor 5 (some .int) RX5 wsX5_takenFor := kAt_of B hml0
  obtain ⟨hx, hb, hr, hml, hown, hts, hlocks⟩ := id C0
  have hl := lv_entry ([.ref (a 0), .int (nI x), .int (nI h)]) (n := 5) (Nat.le_of_ble_eq_true rfl)
  rw [lg_entry_eq]
  generalize (lg_sl ([.ref (a 0), .int (nI x), .int (nI h)]) ++ List.replicate (5 - (lg_sl ([.ref (a 0), .int (nI x), .int (nI h)])).length) Slot.unset).toArray = ls at hl ⊢
  have hl : lv_has ls 5 [(0, .ref (a 0)), (1, .int (nI x)), (2, .int (nI h))] := hl
  refine lv_iconst (v := nI 0) hx hb dX5_takenFor_0 (by decide) ?_
  refine lv_istore_n (lv' := [(3, .int (nI 0)), (0, .ref (a 0)), (1, .int (nI x)), (2, .int (nI h))]) hx hb dX5_takenFor_1 rfl hl (by decide) rfl (fun ls hl => ?_)
  refine lv_iconst (v := nI 0) hx hb dX5_takenFor_2 (by decide) ?_
  refine lv_istore (lv' := [(4, .int (nI 0)), (3, .int (nI 0)), (0, .ref (a 0)), (1, .int (nI x)), (2, .int (nI h))]) hx hb dX5_takenFor_3 hl (by decide) rfl (fun ls hl => ?_)
  exact lp_X5_takenFor_5 a S x h n hn hn60 C0 hK hP ((n - 0) + 1) 0 (nI 0) (nI 0) (by omega) (by first | omega | assumption)  (by first | (simp only [takenF]; done) | (simp only [takenF]; rfl) | (simp [takenF]; done) | rfl) rfl ls (lv_sub hl [2, 3, 4, 1, 0] rfl)
theorem fl_X5_counts_29 : Cond.fieldLink RX5 29 "LampCountsModel" "reading" "[I" ∈ wsX5_counts := by decide +kernel
theorem in_X5_counts_X5 : ∀ w ∈ u_ws RX5 TX5 33, w ∈ wsX5_counts := by decide +kernel
set_option maxHeartbeats 4000000 in
set_option maxRecDepth 100000 in
theorem c_X5_counts (l : Launch) (D : va_G) (q : Nat → ClassId) (a : Nat → Nat) (S : Nat → Nat → Int32) (x h n : Nat) (hx12 : x < 12) (hh : h < 200) (hn : S 0 11 = nI n) (hn60 : n ≤ 60) (hot : okT S n) : Met l yX5_counts wsX5_counts ({ frames := 1, cells := 0, slots := 0, locals := 24 } : Room) (va_Pc [.ref (a 0), .int (nI x), .int (nI h)] (kB D q (fun H => va_P D vwCl (wM q a S) H))) (kSi (cntM S n h x)) 0 0 (fun _ => False) := by
  refine Met.ofW (cc := cX5_counts) (maxL := 3) (ret := (some .int)) (by decide) rfl ?_
  intro p e u m args below meth c s₁ B hml0 hv
  obtain ⟨rfl, hP, hK⟩ := hv
  have C0 : kAt p u m #[.ref (a 0), .int (nI x), .int (nI h)] meth c cX5_counts 3 (some .int) RX5 wsX5_counts := kAt_of B hml0
  obtain ⟨hx, hb, hr, hml, hown, hts, hlocks⟩ := id C0
  have hl := lv_entry ([.ref (a 0), .int (nI x), .int (nI h)]) (n := 3) (Nat.le_of_ble_eq_true rfl)
  rw [lg_entry_eq]
  generalize (lg_sl ([.ref (a 0), .int (nI x), .int (nI h)]) ++ List.replicate (3 - (lg_sl ([.ref (a 0), .int (nI x), .int (nI h)])).length) Slot.unset).toArray = ls at hl ⊢
  have hl : lv_has ls 3 [(0, .ref (a 0)), (1, .int (nI x)), (2, .int (nI h))] := hl
  refine lv_bipush (v := nI 100) hx hb dX5_counts_0 (by decide) ?_
  refine lv_aload_n hx hb dX5_counts_2 rfl (lv_at hl 0 rfl) ?_
  refine va_get (D := D) (ci := 6) (v := .ref (a 8)) (C := RX5) (T := TX5) (N := 33) hx hb hts in_X5_counts_X5 hown hK.1 hP 0 rfl rfl 8 (by decide) (hts _ fl_X5_counts_29) (fun _ h9 => h9) rfl dX5_counts_3 ?_
  refine lv_iload_n hx hb dX5_counts_6 rfl (lv_at hl 1 rfl) ?_
  refine lv_iload_n hx hb dX5_counts_7 rfl (lv_at hl 2 rfl) ?_
  refine k_callS (rest := [.ref (a 8), .int (nI 100)]) (r := nI (h * 12 + x)) ⟨hx, hb, hml, hown, hts⟩ (c_X5_cell l D q x h) (va_cwS 2 hts gX5_counts_X5_cell rfl rfl rfl (by decide +kernel) ⟨Nat.le_of_ble_eq_true rfl, Nat.le_of_ble_eq_true rfl⟩) hK trivial rfl hl.1 rfl (Nat.le_of_ble_eq_true rfl) dX5_counts_8 ⟨Nat.zero_le _, Nat.zero_le _⟩ (fun _ h => h) ?_
  refine k_iald hx hb hK hP 7 rfl (h * 12 + x) rfl (by omega) (by decide) dX5_counts_11 ?_
  refine lv_imul hx hb dX5_counts_12 ?_
  refine lv_bipush (v := nI 100) hx hb dX5_counts_13 (by decide) ?_
  refine lv_aload_n hx hb dX5_counts_15 rfl (lv_at hl 0 rfl) ?_
  refine lv_iload_n hx hb dX5_counts_16 rfl (lv_at hl 1 rfl) ?_
  refine lv_iload_n hx hb dX5_counts_17 rfl (lv_at hl 2 rfl) ?_
  refine k_callV (rest := [.int (nI 100), .int ((nI 100) * (S 8 (h * 12 + x)))]) (r := takenF (S 12) (S 13) (S 14) (nI x) (nI h) n) ⟨hx, hb, hml, hown, hts⟩ (c_X5_takenFor l D q a S x h n hn hn60) (cwV 2 hts gX5_counts_X5_takenFor rfl rfl rfl (by decide +kernel) ⟨Nat.le_of_ble_eq_true rfl, Nat.le_of_ble_eq_true rfl⟩) hK hP (va_recv hK.1 hP (ci := 6) (q0 := 0) rfl rfl) rfl hl.1 rfl (Nat.le_of_ble_eq_true rfl) dX5_counts_18 ⟨Nat.zero_le _, Nat.zero_le _⟩ (fun _ h => h) ?_
  refine lv_isub hx hb dX5_counts_21 ?_
  refine lv_idiv hx hb dX5_counts_22 (taken_nz hot) ?_
  exact k_iretS hx hb hr hlocks rfl rfl (by rfl) dX5_counts_23
theorem inP_pred {k : Nat} (hk : k ≤ 12) : inP (nI k - nI 1) (nI 0) (nI 11) ↔ ¬ k = 0 := by
  cases k with
  | zero => exact ⟨fun z => absurd (show nI 0 - nI 1 < nI 0 by decide) z.1, fun z => absurd rfl z⟩
  | succ j =>
    rw [k_pred]
    exact ⟨fun _ z => by omega, fun _ => ⟨fun z => absurd z (by rw [nI_0]; exact nI_pos (by omega)), (nI_leI (by omega) (by decide)).mpr (by omega)⟩⟩
theorem inP_n {k m : Nat} (hk : k < 2 ^ 31) (hm : m < 2 ^ 31) : inP (nI k) (nI 0) (nI m) ↔ k ≤ m := ⟨fun z => (nI_leI hk hm).mp z.2, fun z => ⟨fun y => absurd y (by rw [nI_0]; exact nI_pos hk), (nI_leI hk hm).mpr z⟩⟩
theorem fl_X5_nearest_29 : Cond.fieldLink RX5 29 "LampCountsModel" "reading" "[I" ∈ wsX5_nearest := by decide +kernel
theorem in_X5_nearest_X5 : ∀ w ∈ u_ws RX5 TX5 33, w ∈ wsX5_nearest := by decide +kernel
set_option maxHeartbeats 4000000 in
set_option maxRecDepth 100000 in
theorem lp_X5_nearest_lo_3 {p : Program} {l : Launch} {e : Env} {u : State} {m : MethodId} {below : List Frame} {meth : Method} {c : Code} {D : va_G} {q : Nat → ClassId} (a : Nat → Nat) (S : Nat → Nat → Int32) (x h : Nat) (hx12 : x < 12) (hh : h < 200) (C0 : kAt p u m #[.ref (a 0), .int (nI x), .int (nI h), .int ((-1))] meth c cX5_nearest 5 (some .int) RX5 wsX5_nearest) (hK : kK D q u) (hP : va_P D vwCl (wM q a S) u.heap) :
    ∀ (f : Nat) (k : Nat) (x4 : Int32), k < f → k ≤ x + 1 → naO (rowF (S 8) h) k = naO (rowF (S 8) h) (x + 1) → x4 = nI k - nI 1 → ∀ (ls : Array Slot), lv_has ls 5 [(0, .ref (a 0)), (1, .int (nI x)), (2, .int (nI h)), (3, .int ((-1))), (4, .int x4)] → W p l e ({ frames := 2, cells := 0, slots := 0, locals := 42 } : Room) u m #[.ref (a 0), .int (nI x), .int (nI h), .int ((-1))] below meth c u.heap [] 0 0 (MQ below (kSi (oI (naO (rowF (S 8) h) (x + 1)))) #[.ref (a 0), .int (nI x), .int (nI h), .int ((-1))] u 0 0 (fun _ => False)) (F0 m 3 ls []) := by
  obtain ⟨hx, hb, hr, hml, hown, hts, hlocks⟩ := id C0
  intro f
  induction f with
  | zero =>
    intro k x4 hf
    exact absurd hf (Nat.not_lt_zero _)
  | succ f ih =>
    intro k x4 hf hk hg e4 ls hl
    replace e4 := e4.symm
    subst e4
    refine lv_iload hx hb dX5_nearest_3 (lv_at hl 4 rfl) ?_
    refine k_callS (rest := []) (r := bI (inP (nI k - nI 1) (nI 0) (nI 11))) ⟨hx, hb, hml, hown, hts⟩ (c_X5_isSection l D q (nI k - nI 1)) (va_cwS 1 hts gX5_nearest_X5_isSection rfl rfl rfl (by decide +kernel) ⟨Nat.le_of_ble_eq_true rfl, Nat.le_of_ble_eq_true rfl⟩) hK trivial rfl hl.1 rfl (Nat.le_of_ble_eq_true rfl) dX5_nearest_5 ⟨Nat.zero_le _, Nat.zero_le _⟩ (fun _ h => h) ?_
    refine k_if_eq (P := ¬ (inP (nI k - nI 1) (nI 0) (nI 11))) (tgt := 35) hx hb dX5_nearest_8 (by decide) bI_0 (fun c_1 => ?_) (fun c_1 => ?_)
    · skip
      obtain rfl : k = 0 := Classical.not_not.mp (fun z => c_1 ((inP_pred (by omega)).mpr z))
      refine lv_iload hx hb dX5_nearest_35 (lv_at hl 4 rfl) ?_
      refine k_callS (rest := []) (r := bI (inP (nI 0 - nI 1) (nI 0) (nI 11))) ⟨hx, hb, hml, hown, hts⟩ (c_X5_isSection l D q (nI 0 - nI 1)) (va_cwS 1 hts gX5_nearest_X5_isSection rfl rfl rfl (by decide +kernel) ⟨Nat.le_of_ble_eq_true rfl, Nat.le_of_ble_eq_true rfl⟩) hK trivial rfl hl.1 rfl (Nat.le_of_ble_eq_true rfl) dX5_nearest_37 ⟨Nat.zero_le _, Nat.zero_le _⟩ (fun _ h => h) ?_
      refine k_if_eq (P := True) (tgt := 48) hx hb dX5_nearest_40 (by decide) (bI_0.trans ⟨fun _ => trivial, fun _ z => (inP_pred (k := 0) (by omega)).mp z rfl⟩) (fun c_2 => ?_) (fun c_2 => ?_)
      · skip
        refine lv_iconst (v := (-1)) hx hb dX5_nearest_48 (by decide) ?_
        exact k_iretS hx hb hr hlocks rfl rfl (by rw [← hg]; rfl) dX5_nearest_49
      · skip
        exact (c_2 trivial).elim
    · skip
      have c_1 : inP (nI k - nI 1) (nI 0) (nI 11) := Classical.not_not.mp c_1
      obtain ⟨j, rfl⟩ : ∃ j, k = j + 1 := ⟨k - 1, by have := (inP_pred (by omega)).mp c_1; omega⟩
      rw [k_pred] at hl
      refine lv_aload_n hx hb dX5_nearest_11 rfl (lv_at hl 0 rfl) ?_
      refine va_get (D := D) (ci := 6) (v := .ref (a 8)) (C := RX5) (T := TX5) (N := 33) hx hb hts in_X5_nearest_X5 hown hK.1 hP 0 rfl rfl 8 (by decide) (hts _ fl_X5_nearest_29) (fun _ h9 => h9) rfl dX5_nearest_12 ?_
      refine lv_iload hx hb dX5_nearest_15 (lv_at hl 4 rfl) ?_
      refine lv_iload_n hx hb dX5_nearest_17 rfl (lv_at hl 2 rfl) ?_
      refine k_callS (rest := [.ref (a 8)]) (r := nI (h * 12 + j)) ⟨hx, hb, hml, hown, hts⟩ (c_X5_cell l D q j h) (va_cwS 2 hts gX5_nearest_X5_cell rfl rfl rfl (by decide +kernel) ⟨Nat.le_of_ble_eq_true rfl, Nat.le_of_ble_eq_true rfl⟩) hK trivial rfl hl.1 rfl (Nat.le_of_ble_eq_true rfl) dX5_nearest_18 ⟨Nat.zero_le _, Nat.zero_le _⟩ (fun _ h => h) ?_
      refine k_iald hx hb hK hP 7 rfl (h * 12 + j) rfl (by omega) (by decide) dX5_nearest_21 ?_
      refine lv_iconst (v := (-1)) hx hb dX5_nearest_22 (by decide) ?_
      refine k_icmp_ne (P := S 8 (h * 12 + j) = (-1)) (tgt := 35) hx hb dX5_nearest_23 (by decide) Iff.rfl (fun c_3 => ?_) (fun c_3 => ?_)
      · skip
        have hnl := c_3
        refine lv_iload hx hb dX5_nearest_35 (lv_at hl 4 rfl) ?_
        refine k_callS (rest := []) (r := bI (inP (nI j) (nI 0) (nI 11))) ⟨hx, hb, hml, hown, hts⟩ (c_X5_isSection l D q (nI j)) (va_cwS 1 hts gX5_nearest_X5_isSection rfl rfl rfl (by decide +kernel) ⟨Nat.le_of_ble_eq_true rfl, Nat.le_of_ble_eq_true rfl⟩) hK trivial rfl hl.1 rfl (Nat.le_of_ble_eq_true rfl) dX5_nearest_37 ⟨Nat.zero_le _, Nat.zero_le _⟩ (fun _ h => h) ?_
        refine k_if_eq (P := False) (tgt := 48) hx hb dX5_nearest_40 (by decide) ((bI_0).trans ⟨fun z => z ((inP_n (by omega) (by decide)).mpr (by omega)), False.elim⟩) (fun c_4 => ?_) (fun c_4 => ?_)
        · skip
          exact c_4.elim
        · skip
          refine lv_iload hx hb dX5_nearest_43 (lv_at hl 4 rfl) ?_
          refine lv_goto (tgt := 49) hx hb dX5_nearest_45 (by decide) ?_
          exact k_iretS hx hb hr hlocks rfl rfl (by rw [← hg, naO_f (g := rowF (S 8) h) hnl]; rfl) dX5_nearest_49
      · skip
        refine lv_iload hx hb dX5_nearest_26 (lv_at hl 4 rfl) ?_
        refine lv_iload_n hx hb dX5_nearest_28 rfl (lv_at hl 3 rfl) ?_
        refine lv_iadd hx hb dX5_nearest_29 ?_
        refine lv_istore (lv' := [(4, .int ((nI j) + ((-1)))), (0, .ref (a 0)), (1, .int (nI x)), (2, .int (nI h)), (3, .int ((-1)))]) hx hb dX5_nearest_30 hl (by decide) rfl (fun ls hl => ?_)
        refine lv_goto (tgt := 3) hx hb dX5_nearest_32 (by decide) ?_
        exact ih j ((nI j) + ((-1))) (by omega) (by first | omega | assumption) (by rw [← hg]; exact (naO_t (g := rowF (S 8) h) c_3).symm)  (by rw [Int32.sub_eq_add_neg]; rfl) ls (lv_sub hl [1, 2, 3, 4, 0] rfl)
set_option maxHeartbeats 4000000 in
set_option maxRecDepth 100000 in
theorem c_X5_nearest_lo (l : Launch) (D : va_G) (q : Nat → ClassId) (a : Nat → Nat) (S : Nat → Nat → Int32) (x h : Nat) (hx12 : x < 12) (hh : h < 200) : Met l yX5_nearest wsX5_nearest ({ frames := 2, cells := 0, slots := 0, locals := 42 } : Room) (va_Pc [.ref (a 0), .int (nI x), .int (nI h), .int ((-1))] (kB D q (fun H => va_P D vwCl (wM q a S) H))) (kSi (oI (naO (rowF (S 8) h) (x + 1)))) 0 0 (fun _ => False) := by
  refine Met.ofW (cc := cX5_nearest) (maxL := 5) (ret := (some .int)) (by decide) rfl ?_
  intro p e u m args below meth c s₁ B hml0 hv
  obtain ⟨rfl, hP, hK⟩ := hv
  have C0 : kAt p u m #[.ref (a 0), .int (nI x), .int (nI h), .int ((-1))] meth c cX5_nearest 5 (some .int) RX5 wsX5_nearest := kAt_of B hml0
  obtain ⟨hx, hb, hr, hml, hown, hts, hlocks⟩ := id C0
  have hl := lv_entry ([.ref (a 0), .int (nI x), .int (nI h), .int ((-1))]) (n := 5) (Nat.le_of_ble_eq_true rfl)
  rw [lg_entry_eq]
  generalize (lg_sl ([.ref (a 0), .int (nI x), .int (nI h), .int ((-1))]) ++ List.replicate (5 - (lg_sl ([.ref (a 0), .int (nI x), .int (nI h), .int ((-1))])).length) Slot.unset).toArray = ls at hl ⊢
  have hl : lv_has ls 5 [(0, .ref (a 0)), (1, .int (nI x)), (2, .int (nI h)), (3, .int ((-1)))] := hl
  refine lv_iload_n hx hb dX5_nearest_0 rfl (lv_at hl 1 rfl) ?_
  refine lv_istore (lv' := [(4, .int (nI x)), (0, .ref (a 0)), (1, .int (nI x)), (2, .int (nI h)), (3, .int ((-1)))]) hx hb dX5_nearest_1 hl (by decide) rfl (fun ls hl => ?_)
  exact lp_X5_nearest_lo_3 a S x h hx12 hh C0 hK hP (((x + 1)) + 1) (x + 1) (nI x) (by omega) (by first | omega | assumption) (by rfl)  (by exact (k_pred x).symm) ls (lv_sub hl [1, 2, 3, 4, 0] rfl)
set_option maxHeartbeats 4000000 in
set_option maxRecDepth 100000 in
theorem lp_X5_nearest_hi_3 {p : Program} {l : Launch} {e : Env} {u : State} {m : MethodId} {below : List Frame} {meth : Method} {c : Code} {D : va_G} {q : Nat → ClassId} (a : Nat → Nat) (S : Nat → Nat → Int32) (x h : Nat) (hx12 : x < 12) (hh : h < 200) (C0 : kAt p u m #[.ref (a 0), .int (nI x), .int (nI h), .int (nI 1)] meth c cX5_nearest 5 (some .int) RX5 wsX5_nearest) (hK : kK D q u) (hP : va_P D vwCl (wM q a S) u.heap) :
    ∀ (f : Nat) (i : Nat) (x4 : Int32), 12 - i < f → i ≤ 12 → x ≤ i → nbO (rowF (S 8) h) (12 - i) i = nbO (rowF (S 8) h) (12 - x) x → x4 = nI i → ∀ (ls : Array Slot), lv_has ls 5 [(0, .ref (a 0)), (1, .int (nI x)), (2, .int (nI h)), (3, .int (nI 1)), (4, .int x4)] → W p l e ({ frames := 2, cells := 0, slots := 0, locals := 42 } : Room) u m #[.ref (a 0), .int (nI x), .int (nI h), .int (nI 1)] below meth c u.heap [] 0 0 (MQ below (kSi (oI (nbO (rowF (S 8) h) (12 - x) x))) #[.ref (a 0), .int (nI x), .int (nI h), .int (nI 1)] u 0 0 (fun _ => False)) (F0 m 3 ls []) := by
  obtain ⟨hx, hb, hr, hml, hown, hts, hlocks⟩ := id C0
  intro f
  induction f with
  | zero =>
    intro i x4 hf
    exact absurd hf (Nat.not_lt_zero _)
  | succ f ih =>
    intro i x4 hf hi hxi hg e4 ls hl
    replace e4 := e4.symm
    subst e4
    refine lv_iload hx hb dX5_nearest_3 (lv_at hl 4 rfl) ?_
    refine k_callS (rest := []) (r := bI (inP (nI i) (nI 0) (nI 11))) ⟨hx, hb, hml, hown, hts⟩ (c_X5_isSection l D q (nI i)) (va_cwS 1 hts gX5_nearest_X5_isSection rfl rfl rfl (by decide +kernel) ⟨Nat.le_of_ble_eq_true rfl, Nat.le_of_ble_eq_true rfl⟩) hK trivial rfl hl.1 rfl (Nat.le_of_ble_eq_true rfl) dX5_nearest_5 ⟨Nat.zero_le _, Nat.zero_le _⟩ (fun _ h => h) ?_
    refine k_if_eq (P := ¬ (inP (nI i) (nI 0) (nI 11))) (tgt := 35) hx hb dX5_nearest_8 (by decide) bI_0 (fun c_1 => ?_) (fun c_1 => ?_)
    · skip
      obtain rfl : i = 12 := (Nat.lt_or_ge 11 i).elim (fun z => by omega) (fun z => absurd ((inP_n (k := i) (m := 11) (by omega) (by decide)).mpr z) c_1)
      refine lv_iload hx hb dX5_nearest_35 (lv_at hl 4 rfl) ?_
      refine k_callS (rest := []) (r := bI (inP (nI 12) (nI 0) (nI 11))) ⟨hx, hb, hml, hown, hts⟩ (c_X5_isSection l D q (nI 12)) (va_cwS 1 hts gX5_nearest_X5_isSection rfl rfl rfl (by decide +kernel) ⟨Nat.le_of_ble_eq_true rfl, Nat.le_of_ble_eq_true rfl⟩) hK trivial rfl hl.1 rfl (Nat.le_of_ble_eq_true rfl) dX5_nearest_37 ⟨Nat.zero_le _, Nat.zero_le _⟩ (fun _ h => h) ?_
      refine k_if_eq (P := True) (tgt := 48) hx hb dX5_nearest_40 (by decide) (bI_0.trans ⟨fun _ => trivial, fun _ z => absurd ((inP_n (k := 12) (m := 11) (by decide) (by decide)).mp z) (by decide)⟩) (fun c_2 => ?_) (fun c_2 => ?_)
      · skip
        refine lv_iconst (v := (-1)) hx hb dX5_nearest_48 (by decide) ?_
        exact k_iretS hx hb hr hlocks rfl rfl (by rw [← hg]; rfl) dX5_nearest_49
      · skip
        exact (c_2 trivial).elim
    · skip
      have c_1 : inP (nI i) (nI 0) (nI 11) := Classical.not_not.mp c_1
      have hi11 := (inP_n (k := i) (m := 11) (by omega) (by decide)).mp c_1
      refine lv_aload_n hx hb dX5_nearest_11 rfl (lv_at hl 0 rfl) ?_
      refine va_get (D := D) (ci := 6) (v := .ref (a 8)) (C := RX5) (T := TX5) (N := 33) hx hb hts in_X5_nearest_X5 hown hK.1 hP 0 rfl rfl 8 (by decide) (hts _ fl_X5_nearest_29) (fun _ h9 => h9) rfl dX5_nearest_12 ?_
      refine lv_iload hx hb dX5_nearest_15 (lv_at hl 4 rfl) ?_
      refine lv_iload_n hx hb dX5_nearest_17 rfl (lv_at hl 2 rfl) ?_
      refine k_callS (rest := [.ref (a 8)]) (r := nI (h * 12 + i)) ⟨hx, hb, hml, hown, hts⟩ (c_X5_cell l D q i h) (va_cwS 2 hts gX5_nearest_X5_cell rfl rfl rfl (by decide +kernel) ⟨Nat.le_of_ble_eq_true rfl, Nat.le_of_ble_eq_true rfl⟩) hK trivial rfl hl.1 rfl (Nat.le_of_ble_eq_true rfl) dX5_nearest_18 ⟨Nat.zero_le _, Nat.zero_le _⟩ (fun _ h => h) ?_
      refine k_iald hx hb hK hP 7 rfl (h * 12 + i) rfl (by omega) (by decide) dX5_nearest_21 ?_
      refine lv_iconst (v := (-1)) hx hb dX5_nearest_22 (by decide) ?_
      refine k_icmp_ne (P := S 8 (h * 12 + i) = (-1)) (tgt := 35) hx hb dX5_nearest_23 (by decide) Iff.rfl (fun c_3 => ?_) (fun c_3 => ?_)
      · skip
        have hnl := c_3
        refine lv_iload hx hb dX5_nearest_35 (lv_at hl 4 rfl) ?_
        refine k_callS (rest := []) (r := bI (inP (nI i) (nI 0) (nI 11))) ⟨hx, hb, hml, hown, hts⟩ (c_X5_isSection l D q (nI i)) (va_cwS 1 hts gX5_nearest_X5_isSection rfl rfl rfl (by decide +kernel) ⟨Nat.le_of_ble_eq_true rfl, Nat.le_of_ble_eq_true rfl⟩) hK trivial rfl hl.1 rfl (Nat.le_of_ble_eq_true rfl) dX5_nearest_37 ⟨Nat.zero_le _, Nat.zero_le _⟩ (fun _ h => h) ?_
        refine k_if_eq (P := False) (tgt := 48) hx hb dX5_nearest_40 (by decide) ((bI_0).trans ⟨fun z => z ((inP_n (by omega) (by decide)).mpr hi11), False.elim⟩) (fun c_4 => ?_) (fun c_4 => ?_)
        · skip
          exact c_4.elim
        · skip
          refine lv_iload hx hb dX5_nearest_43 (lv_at hl 4 rfl) ?_
          refine lv_goto (tgt := 49) hx hb dX5_nearest_45 (by decide) ?_
          exact k_iretS hx hb hr hlocks rfl rfl (by rw [← hg, nbO_q (g := rowF (S 8) h) (by omega) hnl]; rfl) dX5_nearest_49
      · skip
        refine lv_iload hx hb dX5_nearest_26 (lv_at hl 4 rfl) ?_
        refine lv_iload_n hx hb dX5_nearest_28 rfl (lv_at hl 3 rfl) ?_
        refine lv_iadd hx hb dX5_nearest_29 ?_
        refine k_top (y := nI (i + 1)) (nI_add _ _) ?_
        refine lv_istore (lv' := [(4, .int (nI (i + 1))), (0, .ref (a 0)), (1, .int (nI x)), (2, .int (nI h)), (3, .int (nI 1))]) hx hb dX5_nearest_30 hl (by decide) rfl (fun ls hl => ?_)
        refine lv_goto (tgt := 3) hx hb dX5_nearest_32 (by decide) ?_
        exact ih (i + 1) (nI (i + 1)) (by omega) (by first | omega | assumption) (by first | omega | assumption) (by rw [← hg]; exact (nbO_p (g := rowF (S 8) h) (by omega) c_3).symm)  rfl ls (lv_sub hl [1, 2, 3, 4, 0] rfl)
set_option maxHeartbeats 4000000 in
set_option maxRecDepth 100000 in
theorem c_X5_nearest_hi (l : Launch) (D : va_G) (q : Nat → ClassId) (a : Nat → Nat) (S : Nat → Nat → Int32) (x h : Nat) (hx12 : x < 12) (hh : h < 200) : Met l yX5_nearest wsX5_nearest ({ frames := 2, cells := 0, slots := 0, locals := 42 } : Room) (va_Pc [.ref (a 0), .int (nI x), .int (nI h), .int (nI 1)] (kB D q (fun H => va_P D vwCl (wM q a S) H))) (kSi (oI (nbO (rowF (S 8) h) (12 - x) x))) 0 0 (fun _ => False) := by
  refine Met.ofW (cc := cX5_nearest) (maxL := 5) (ret := (some .int)) (by decide) rfl ?_
  intro p e u m args below meth c s₁ B hml0 hv
  obtain ⟨rfl, hP, hK⟩ := hv
  have C0 : kAt p u m #[.ref (a 0), .int (nI x), .int (nI h), .int (nI 1)] meth c cX5_nearest 5 (some .int) RX5 wsX5_nearest := kAt_of B hml0
  obtain ⟨hx, hb, hr, hml, hown, hts, hlocks⟩ := id C0
  have hl := lv_entry ([.ref (a 0), .int (nI x), .int (nI h), .int (nI 1)]) (n := 5) (Nat.le_of_ble_eq_true rfl)
  rw [lg_entry_eq]
  generalize (lg_sl ([.ref (a 0), .int (nI x), .int (nI h), .int (nI 1)]) ++ List.replicate (5 - (lg_sl ([.ref (a 0), .int (nI x), .int (nI h), .int (nI 1)])).length) Slot.unset).toArray = ls at hl ⊢
  have hl : lv_has ls 5 [(0, .ref (a 0)), (1, .int (nI x)), (2, .int (nI h)), (3, .int (nI 1))] := hl
  refine lv_iload_n hx hb dX5_nearest_0 rfl (lv_at hl 1 rfl) ?_
  refine lv_istore (lv' := [(4, .int (nI x)), (0, .ref (a 0)), (1, .int (nI x)), (2, .int (nI h)), (3, .int (nI 1))]) hx hb dX5_nearest_1 hl (by decide) rfl (fun ls hl => ?_)
  exact lp_X5_nearest_hi_3 a S x h hx12 hh C0 hK hP ((12 - x) + 1) x (nI x) (by omega) (by first | omega | assumption) (by first | omega | assumption) (by rfl)  rfl ls (lv_sub hl [1, 2, 3, 4, 0] rfl)
set_option maxHeartbeats 4000000 in
set_option maxRecDepth 100000 in
theorem c_X5_countOf (l : Launch) (D : va_G) (q : Nat → ClassId) (a : Nat → Nat) (S : Nat → Nat → Int32) (x h n : Nat) (hx12 : x < 12) (hh : h < 200) (hn : S 0 11 = nI n) (hn60 : n ≤ 60) (hot : okT S n) : Met l yX5_countOf wsX5_countOf ({ frames := 3, cells := 0, slots := 0, locals := 66 } : Room) (va_Pc [.ref (a 0), .int (nI x), .int (nI h)] (kB D q (fun H => va_P D vwCl (wM q a S) H))) (kSi (coM S n h x)) 0 0 (fun _ => False) := by
  refine Met.ofW (cc := cX5_countOf) (maxL := 5) (ret := (some .int)) (by decide) rfl ?_
  intro p e u m args below meth c s₁ B hml0 hv
  obtain ⟨rfl, hP, hK⟩ := hv
  have C0 : kAt p u m #[.ref (a 0), .int (nI x), .int (nI h)] meth c cX5_countOf 5 (some .int) RX5 wsX5_countOf := kAt_of B hml0
  obtain ⟨hx, hb, hr, hml, hown, hts, hlocks⟩ := id C0
  have hl := lv_entry ([.ref (a 0), .int (nI x), .int (nI h)]) (n := 5) (Nat.le_of_ble_eq_true rfl)
  rw [lg_entry_eq]
  generalize (lg_sl ([.ref (a 0), .int (nI x), .int (nI h)]) ++ List.replicate (5 - (lg_sl ([.ref (a 0), .int (nI x), .int (nI h)])).length) Slot.unset).toArray = ls at hl ⊢
  have hl : lv_has ls 5 [(0, .ref (a 0)), (1, .int (nI x)), (2, .int (nI h))] := hl
  refine lv_aload_n hx hb dX5_countOf_0 rfl (lv_at hl 0 rfl) ?_
  refine lv_iload_n hx hb dX5_countOf_1 rfl (lv_at hl 1 rfl) ?_
  refine lv_iload_n hx hb dX5_countOf_2 rfl (lv_at hl 2 rfl) ?_
  refine lv_iconst (v := (-1)) hx hb dX5_countOf_3 (by decide) ?_
  refine k_callV (rest := []) (r := oI (naO (rowF (S 8) h) (x + 1))) ⟨hx, hb, hml, hown, hts⟩ (c_X5_nearest_lo l D q a S x h (by omega) (by omega)) (cwV 3 hts gX5_countOf_X5_nearest rfl rfl rfl (by decide +kernel) ⟨Nat.le_of_ble_eq_true rfl, Nat.le_of_ble_eq_true rfl⟩) hK hP (va_recv hK.1 hP (ci := 6) (q0 := 0) rfl rfl) rfl hl.1 rfl (Nat.le_of_ble_eq_true rfl) dX5_countOf_4 ⟨Nat.zero_le _, Nat.zero_le _⟩ (fun _ h => h) ?_
  refine lv_istore_n (lv' := [(3, .int (oI (naO (rowF (S 8) h) (x + 1)))), (0, .ref (a 0)), (1, .int (nI x)), (2, .int (nI h))]) hx hb dX5_countOf_7 rfl hl (by decide) rfl (fun ls hl => ?_)
  refine lv_aload_n hx hb dX5_countOf_8 rfl (lv_at hl 1 rfl) ?_
  refine lv_iload_n hx hb dX5_countOf_9 rfl (lv_at hl 2 rfl) ?_
  refine lv_iload_n hx hb dX5_countOf_10 rfl (lv_at hl 3 rfl) ?_
  refine lv_iconst (v := nI 1) hx hb dX5_countOf_11 (by decide) ?_
  refine k_callV (rest := []) (r := oI (nbO (rowF (S 8) h) (12 - x) x)) ⟨hx, hb, hml, hown, hts⟩ (c_X5_nearest_hi l D q a S x h (by omega) (by omega)) (cwV 3 hts gX5_countOf_X5_nearest rfl rfl rfl (by decide +kernel) ⟨Nat.le_of_ble_eq_true rfl, Nat.le_of_ble_eq_true rfl⟩) hK hP (va_recv hK.1 hP (ci := 6) (q0 := 0) rfl rfl) rfl hl.1 rfl (Nat.le_of_ble_eq_true rfl) dX5_countOf_12 ⟨Nat.zero_le _, Nat.zero_le _⟩ (fun _ h => h) ?_
  refine lv_istore (lv' := [(4, .int (oI (nbO (rowF (S 8) h) (12 - x) x))), (3, .int (oI (naO (rowF (S 8) h) (x + 1)))), (0, .ref (a 0)), (1, .int (nI x)), (2, .int (nI h))]) hx hb dX5_countOf_15 hl (by decide) rfl (fun ls hl => ?_)
  rcases ea : naO (rowF (S 8) h) (x + 1) with _ | ka
  · skip
    rw [ea, oI_n] at hl
    rcases eb : nbO (rowF (S 8) h) (12 - x) x with _ | kb
    · skip
      rw [eb, oI_n] at hl
      refine lv_iload_n hx hb dX5_countOf_17 rfl (lv_at hl 1 rfl) ?_
      refine lv_iconst (v := (-1)) hx hb dX5_countOf_18 (by decide) ?_
      refine k_icmp_eq (P := True) (tgt := 28) hx hb dX5_countOf_19 (by decide) ⟨fun _ => trivial, fun _ => rfl⟩ (fun c_1 => ?_) (fun c_1 => ?_)
      · skip
        refine lv_iload_n hx hb dX5_countOf_28 rfl (lv_at hl 1 rfl) ?_
        refine lv_iload hx hb dX5_countOf_29 (lv_at hl 0 rfl) ?_
        refine k_icmp_ne (P := True) (tgt := 38) hx hb dX5_countOf_31 (by decide) ⟨fun _ => trivial, fun _ => rfl⟩ (fun c_2 => ?_) (fun c_2 => ?_)
        · skip
          exact (c_2 trivial).elim
        · skip
          refine lv_iconst (v := nI 0) hx hb dX5_countOf_34 (by decide) ?_
          refine lv_goto (tgt := 54) hx hb dX5_countOf_35 (by decide) ?_
          exact k_iretS hx hb hr hlocks rfl rfl (by unfold coM; rw [ea, eb]; rfl) dX5_countOf_54
      · skip
        exact (c_1 trivial).elim
    · skip
      rw [eb, oI_s] at hl
      have hkb := nbO_lt eb
      refine lv_iload_n hx hb dX5_countOf_17 rfl (lv_at hl 1 rfl) ?_
      refine lv_iconst (v := (-1)) hx hb dX5_countOf_18 (by decide) ?_
      refine k_icmp_eq (P := True) (tgt := 28) hx hb dX5_countOf_19 (by decide) ⟨fun _ => trivial, fun _ => rfl⟩ (fun c_3 => ?_) (fun c_3 => ?_)
      · skip
        refine lv_iload_n hx hb dX5_countOf_28 rfl (lv_at hl 1 rfl) ?_
        refine lv_iload hx hb dX5_countOf_29 (lv_at hl 0 rfl) ?_
        refine k_icmp_ne (P := False) (tgt := 38) hx hb dX5_countOf_31 (by decide) (k_m1s (by omega)) (fun c_4 => ?_) (fun c_4 => ?_)
        · skip
          refine lv_aload_n hx hb dX5_countOf_38 rfl (lv_at hl 2 rfl) ?_
          refine lv_iload_n hx hb dX5_countOf_39 rfl (lv_at hl 1 rfl) ?_
          refine lv_iconst (v := (-1)) hx hb dX5_countOf_40 (by decide) ?_
          refine k_icmp_ne (P := True) (tgt := 49) hx hb dX5_countOf_41 (by decide) ⟨fun _ => trivial, fun _ => rfl⟩ (fun c_5 => ?_) (fun c_5 => ?_)
          · skip
            exact (c_5 trivial).elim
          · skip
            refine lv_iload hx hb dX5_countOf_44 (lv_at hl 0 rfl) ?_
            refine lv_goto (tgt := 50) hx hb dX5_countOf_46 (by decide) ?_
            refine lv_iload_n hx hb dX5_countOf_50 rfl (lv_at hl 4 rfl) ?_
            refine k_callV (rest := []) (r := cntM S n h kb) ⟨hx, hb, hml, hown, hts⟩ (c_X5_counts l D q a S kb h n (by omega) (by omega) hn hn60 hot) (cwV 2 hts gX5_countOf_X5_counts rfl rfl rfl (by decide +kernel) ⟨Nat.le_of_ble_eq_true rfl, Nat.le_of_ble_eq_true rfl⟩) hK hP (va_recv hK.1 hP (ci := 6) (q0 := 0) rfl rfl) rfl hl.1 rfl (Nat.le_of_ble_eq_true rfl) dX5_countOf_51 ⟨Nat.zero_le _, Nat.zero_le _⟩ (fun _ h => h) ?_
            exact k_iretS hx hb hr hlocks rfl rfl (by unfold coM; rw [ea, eb]; rfl) dX5_countOf_54
        · skip
          exact c_4.elim
      · skip
        exact (c_3 trivial).elim
  · skip
    rw [ea, oI_s] at hl
    have hka := naO_lt ea
    rcases eb : nbO (rowF (S 8) h) (12 - x) x with _ | kb
    · skip
      rw [eb, oI_n] at hl
      refine lv_iload_n hx hb dX5_countOf_17 rfl (lv_at hl 1 rfl) ?_
      refine lv_iconst (v := (-1)) hx hb dX5_countOf_18 (by decide) ?_
      refine k_icmp_eq (P := False) (tgt := 28) hx hb dX5_countOf_19 (by decide) (k_m1 (by omega)) (fun c_6 => ?_) (fun c_6 => ?_)
      · skip
        exact c_6.elim
      · skip
        refine lv_iload hx hb dX5_countOf_22 (lv_at hl 0 rfl) ?_
        refine lv_iconst (v := (-1)) hx hb dX5_countOf_24 (by decide) ?_
        refine k_icmp_ne (P := True) (tgt := 55) hx hb dX5_countOf_25 (by decide) ⟨fun _ => trivial, fun _ => rfl⟩ (fun c_7 => ?_) (fun c_7 => ?_)
        · skip
          exact (c_7 trivial).elim
        · skip
          refine lv_iload_n hx hb dX5_countOf_28 rfl (lv_at hl 1 rfl) ?_
          refine lv_iload hx hb dX5_countOf_29 (lv_at hl 0 rfl) ?_
          refine k_icmp_ne (P := False) (tgt := 38) hx hb dX5_countOf_31 (by decide) (k_m1 (by omega)) (fun c_8 => ?_) (fun c_8 => ?_)
          · skip
            refine lv_aload_n hx hb dX5_countOf_38 rfl (lv_at hl 2 rfl) ?_
            refine lv_iload_n hx hb dX5_countOf_39 rfl (lv_at hl 1 rfl) ?_
            refine lv_iconst (v := (-1)) hx hb dX5_countOf_40 (by decide) ?_
            refine k_icmp_ne (P := False) (tgt := 49) hx hb dX5_countOf_41 (by decide) (k_m1 (by omega)) (fun c_9 => ?_) (fun c_9 => ?_)
            · skip
              refine lv_iload_n hx hb dX5_countOf_49 rfl (lv_at hl 1 rfl) ?_
              refine lv_iload_n hx hb dX5_countOf_50 rfl (lv_at hl 4 rfl) ?_
              refine k_callV (rest := []) (r := cntM S n h ka) ⟨hx, hb, hml, hown, hts⟩ (c_X5_counts l D q a S ka h n (by omega) (by omega) hn hn60 hot) (cwV 2 hts gX5_countOf_X5_counts rfl rfl rfl (by decide +kernel) ⟨Nat.le_of_ble_eq_true rfl, Nat.le_of_ble_eq_true rfl⟩) hK hP (va_recv hK.1 hP (ci := 6) (q0 := 0) rfl rfl) rfl hl.1 rfl (Nat.le_of_ble_eq_true rfl) dX5_countOf_51 ⟨Nat.zero_le _, Nat.zero_le _⟩ (fun _ h => h) ?_
              exact k_iretS hx hb hr hlocks rfl rfl (by unfold coM; rw [ea, eb]; rfl) dX5_countOf_54
            · skip
              exact c_9.elim
          · skip
            exact c_8.elim
    · skip
      rw [eb, oI_s] at hl
      have hkb := nbO_lt eb
      refine lv_iload_n hx hb dX5_countOf_17 rfl (lv_at hl 1 rfl) ?_
      refine lv_iconst (v := (-1)) hx hb dX5_countOf_18 (by decide) ?_
      refine k_icmp_eq (P := False) (tgt := 28) hx hb dX5_countOf_19 (by decide) (k_m1 (by omega)) (fun c_10 => ?_) (fun c_10 => ?_)
      · skip
        exact c_10.elim
      · skip
        refine lv_iload hx hb dX5_countOf_22 (lv_at hl 0 rfl) ?_
        refine lv_iconst (v := (-1)) hx hb dX5_countOf_24 (by decide) ?_
        refine k_icmp_ne (P := False) (tgt := 55) hx hb dX5_countOf_25 (by decide) (k_m1 (by omega)) (fun c_11 => ?_) (fun c_11 => ?_)
        · skip
          refine lv_iload_n hx hb dX5_countOf_55 rfl (lv_at hl 1 rfl) ?_
          refine lv_iload hx hb dX5_countOf_56 (lv_at hl 0 rfl) ?_
          refine k_icmp_ne (P := nI ka = nI kb) (tgt := 70) hx hb dX5_countOf_58 (by decide) Iff.rfl (fun c_12 => ?_) (fun c_12 => ?_)
          · skip
            refine lv_aload_n hx hb dX5_countOf_70 rfl (lv_at hl 2 rfl) ?_
            refine lv_iload_n hx hb dX5_countOf_71 rfl (lv_at hl 1 rfl) ?_
            refine lv_iload_n hx hb dX5_countOf_72 rfl (lv_at hl 4 rfl) ?_
            refine k_callV (rest := []) (r := cntM S n h ka) ⟨hx, hb, hml, hown, hts⟩ (c_X5_counts l D q a S ka h n (by omega) (by omega) hn hn60 hot) (cwV 2 hts gX5_countOf_X5_counts rfl rfl rfl (by decide +kernel) ⟨Nat.le_of_ble_eq_true rfl, Nat.le_of_ble_eq_true rfl⟩) hK hP (va_recv hK.1 hP (ci := 6) (q0 := 0) rfl rfl) rfl hl.1 rfl (Nat.le_of_ble_eq_true rfl) dX5_countOf_73 ⟨Nat.zero_le _, Nat.zero_le _⟩ (fun _ h => h) ?_
            refine lv_aload_n hx hb dX5_countOf_76 rfl (lv_at hl 2 rfl) ?_
            refine lv_iload hx hb dX5_countOf_77 (lv_at hl 0 rfl) ?_
            refine lv_iload_n hx hb dX5_countOf_79 rfl (lv_at hl 4 rfl) ?_
            refine k_callV (rest := [.int (cntM S n h ka)]) (r := cntM S n h kb) ⟨hx, hb, hml, hown, hts⟩ (c_X5_counts l D q a S kb h n (by omega) (by omega) hn hn60 hot) (cwV 2 hts gX5_countOf_X5_counts rfl rfl rfl (by decide +kernel) ⟨Nat.le_of_ble_eq_true rfl, Nat.le_of_ble_eq_true rfl⟩) hK hP (va_recv hK.1 hP (ci := 6) (q0 := 0) rfl rfl) rfl hl.1 rfl (Nat.le_of_ble_eq_true rfl) dX5_countOf_80 ⟨Nat.zero_le _, Nat.zero_le _⟩ (fun _ h => h) ?_
            refine lv_iadd hx hb dX5_countOf_83 ?_
            refine lv_iconst (v := nI 2) hx hb dX5_countOf_84 (by decide) ?_
            refine lv_idiv hx hb dX5_countOf_85 (by decide) ?_
            exact k_iretS hx hb hr hlocks rfl rfl (by unfold coM; rw [ea, eb]; show _ = (if nI ka = nI kb then _ else _); rw [if_neg c_12]) dX5_countOf_86
          · skip
            refine lv_aload_n hx hb dX5_countOf_61 rfl (lv_at hl 2 rfl) ?_
            refine lv_iload_n hx hb dX5_countOf_62 rfl (lv_at hl 3 rfl) ?_
            refine lv_iload_n hx hb dX5_countOf_63 rfl (lv_at hl 4 rfl) ?_
            refine k_callV (rest := []) (r := cntM S n h x) ⟨hx, hb, hml, hown, hts⟩ (c_X5_counts l D q a S x h n (by omega) (by omega) hn hn60 hot) (cwV 2 hts gX5_countOf_X5_counts rfl rfl rfl (by decide +kernel) ⟨Nat.le_of_ble_eq_true rfl, Nat.le_of_ble_eq_true rfl⟩) hK hP (va_recv hK.1 hP (ci := 6) (q0 := 0) rfl rfl) rfl hl.1 rfl (Nat.le_of_ble_eq_true rfl) dX5_countOf_64 ⟨Nat.zero_le _, Nat.zero_le _⟩ (fun _ h => h) ?_
            refine lv_goto (tgt := 86) hx hb dX5_countOf_67 (by decide) ?_
            exact k_iretS hx hb hr hlocks rfl rfl (by unfold coM; rw [ea, eb]; show _ = (if nI ka = nI kb then _ else _); rw [if_pos c_12]) dX5_countOf_86
        · skip
          exact c_11.elim
