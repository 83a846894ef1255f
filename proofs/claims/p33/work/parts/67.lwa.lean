theorem cs_L_low_9 : Cond.constant RL 9 (nI 2147483647) ∈ wsL_low := by decide +kernel
set_option maxHeartbeats 4000000 in
set_option maxRecDepth 100000 in
theorem c_L_low (l : Launch) (D : va_G) (q : Nat → ClassId) (v : Int32) (k9 : Nat) (h0 : 0 < k9) (hm : k9 < 2 ^ 31) : Met l yL_low wsL_low ({ frames := 0, cells := 0, slots := 0, locals := 0 } : Room) (va_Pc [.int (v), .int (nI k9)] (kB D q (fun _ => True))) (kSi (nI (lowN v k9))) 0 0 (fun _ => False) := by
  refine Met.ofW (cc := cL_low) (maxL := 2) (ret := (some .int)) (by decide) rfl ?_
  intro p e u m args below meth c s₁ B hml0 hv
  obtain ⟨rfl, hP, hK⟩ := hv
  have C0 : kAt p u m #[.int (v), .int (nI k9)] meth c cL_low 2 (some .int) RL wsL_low := kAt_of B hml0
  obtain ⟨hx, hb, hr, hml, hown, hts, hlocks⟩ := id C0
  have hl := lv_entry ([.int (v), .int (nI k9)]) (n := 2) (Nat.le_of_ble_eq_true rfl)
  rw [lg_entry_eq]
  generalize (lg_sl ([.int (v), .int (nI k9)]) ++ List.replicate (2 - (lg_sl ([.int (v), .int (nI k9)])).length) Slot.unset).toArray = ls at hl ⊢
  have hl : lv_has ls 2 [(0, .int (v)), (1, .int (nI k9))] := hl
  refine lv_iload_n hx hb dL_low_0 rfl (lv_at hl 0 rfl) ?_
  refine lv_ldc (v := nI 2147483647) hx hb hown (hts _ cs_L_low_9) dL_low_1 ?_
  refine lv_iand hx hb dL_low_3 ?_
  refine lv_iload_n hx hb dL_low_4 rfl (lv_at hl 1 rfl) ?_
  refine lv_irem hx hb dL_low_5 (fun z => absurd ((k_n0 (by omega)).mp z) (by omega)) ?_
  refine k_top (y := nI (lowN v k9)) (low_e v h0 hm) ?_
  exact k_iretS hx hb hr hlocks rfl rfl (by rfl) dL_low_6
theorem cl2_L_get_37 : Cond.constantLong RL 37 65535 ∈ wsL_get := by decide +kernel
set_option maxHeartbeats 4000000 in
set_option maxRecDepth 100000 in
theorem c_L_get (l : Launch) (D : va_G) (q : Nat → ClassId) (o : Nat) (v : Nat → Int32) (x h : Nat) (hx12 : x < 12) (hh : h < 20) (hbv : bd v 32767) : Met l yL_get wsL_get ({ frames := 0, cells := 0, slots := 0, locals := 0 } : Room) (va_Pc [.ref (o), .int (nI x), .int (nI h)] (kB D q (fun H => va_P D vwCl (wG q o v) H))) (kSi (v (h * 12 + x))) 0 0 (fun _ => False) := by
  refine Met.ofW (cc := cL_get) (maxL := 3) (ret := (some .int)) (by decide) rfl ?_
  intro p e u m args below meth c s₁ B hml0 hv
  obtain ⟨rfl, hP, hK⟩ := hv
  have C0 : kAt p u m #[.ref (o), .int (nI x), .int (nI h)] meth c cL_get 3 (some .int) RL wsL_get := kAt_of B hml0
  obtain ⟨hx, hb, hr, hml, hown, hts, hlocks⟩ := id C0
  have hl := lv_entry ([.ref (o), .int (nI x), .int (nI h)]) (n := 3) (Nat.le_of_ble_eq_true rfl)
  rw [lg_entry_eq]
  generalize (lg_sl ([.ref (o), .int (nI x), .int (nI h)]) ++ List.replicate (3 - (lg_sl ([.ref (o), .int (nI x), .int (nI h)])).length) Slot.unset).toArray = ls at hl ⊢
  have hl : lv_has ls 3 [(0, .ref (o)), (1, .int (nI x)), (2, .int (nI h))] := hl
  refine lv_aload_n hx hb dL_get_0 rfl (lv_at hl 0 rfl) ?_
  refine lv_iconst (v := nI 3) hx hb dL_get_1 (by decide) ?_
  refine lv_iload_n hx hb dL_get_2 rfl (lv_at hl 2 rfl) ?_
  refine lv_imul hx hb dL_get_3 ?_
  refine k_top (y := nI (3 * h)) (pk_mul _ _) ?_
  refine lv_iload_n hx hb dL_get_4 rfl (lv_at hl 1 rfl) ?_
  refine lv_iconst (v := nI 4) hx hb dL_get_5 (by decide) ?_
  refine lv_idiv hx hb dL_get_6 (by decide) ?_
  refine k_top (y := nI (x / 4)) (pk_div (by omega) (by omega) (by omega)) ?_
  refine lv_iadd hx hb dL_get_7 ?_
  refine k_top (y := nI (3 * h + (x / 4))) (nI_add _ _) ?_
  refine k_lald hx hb hK hP 0 rfl (3 * h + x / 4) rfl (by omega) (by decide) dL_get_8 ?_
  refine lv_bipush (v := nI 16) hx hb dL_get_9 (by decide) ?_
  refine lv_iload_n hx hb dL_get_11 rfl (lv_at hl 1 rfl) ?_
  refine lv_iconst (v := nI 4) hx hb dL_get_12 (by decide) ?_
  refine lv_irem hx hb dL_get_13 (by decide) ?_
  refine k_top (y := nI (x % 4)) (pk_rem (by omega) (by omega) (by omega)) ?_
  refine lv_imul hx hb dL_get_14 ?_
  refine k_top (y := nI (16 * (x % 4))) (pk_mul _ _) ?_
  refine lv_lshr (v := pk16 v (3 * h + x / 4) >>> ((nI (16 * (x % 4))).toInt64 &&& 63)) hx hb dL_get_15 rfl ?_
  refine lv_ldc2 (v := 65535) hx hb hown (hts _ cl2_L_get_37) dL_get_16 ?_
  refine lv_land hx hb dL_get_19 ?_
  refine lv_l2i (v := v (h * 12 + x)) hx hb dL_get_20 (by have e := get16 hbv (i := 3 * h + x / 4) (j := x % 4) (by omega); rw [show 4 * (3 * h + x / 4) + x % 4 = h * 12 + x from by omega] at e; exact e) ?_
  exact k_iretS hx hb hr hlocks rfl rfl (by rfl) dL_get_21
set_option maxHeartbeats 4000000 in
set_option maxRecDepth 100000 in
theorem c_L_put_2 (l : Launch) (D : va_G) (q : Nat → ClassId) (A : Nat → Prop) (a : Nat → Nat) (S : Nat → Nat → Int32) (w : va_W) (x h z : Nat) (hx12 : x < 12) (hh : h < 20) (hz : z ≤ 32767) (hz0 : S 2 (h * 12 + x) = nI 0) : Met l yL_put wsL_put ({ frames := 0, cells := 0, slots := 0, locals := 0 } : Room) (va_Pc [.ref (a 2), .int (nI x), .int (nI h), .int (nI z)] (kB D q (fun H => kW D A (wL q a S w) H))) (kRv D A (wL q a ((up S 2 (h * 12 + x) (nI z))) w)) 0 0 A := by
  refine Met.ofW (cc := cL_put) (maxL := 4) (ret := none) (by decide) rfl ?_
  intro p e u m args below meth c s₁ B hml0 hv
  obtain ⟨rfl, hP, hK⟩ := hv
  have C0 : kAt p u m #[.ref (a 2), .int (nI x), .int (nI h), .int (nI z)] meth c cL_put 4 none RL wsL_put := kAt_of B hml0
  obtain ⟨hx, hb, hr, hml, hown, hts, hlocks⟩ := id C0
  have hS : va_S A u.heap u.heap [] := va_S.rf
  have hl := lv_entry ([.ref (a 2), .int (nI x), .int (nI h), .int (nI z)]) (n := 4) (Nat.le_of_ble_eq_true rfl)
  rw [lg_entry_eq]
  generalize (lg_sl ([.ref (a 2), .int (nI x), .int (nI h), .int (nI z)]) ++ List.replicate (4 - (lg_sl ([.ref (a 2), .int (nI x), .int (nI h), .int (nI z)])).length) Slot.unset).toArray = ls at hl ⊢
  have hl : lv_has ls 4 [(0, .ref (a 2)), (1, .int (nI x)), (2, .int (nI h)), (3, .int (nI z))] := hl
  refine lv_aload_n hx hb dL_put_0 rfl (lv_at hl 0 rfl) ?_
  refine lv_iconst (v := nI 3) hx hb dL_put_1 (by decide) ?_
  refine lv_iload_n hx hb dL_put_2 rfl (lv_at hl 2 rfl) ?_
  refine lv_imul hx hb dL_put_3 ?_
  refine k_top (y := nI (3 * h)) (pk_mul _ _) ?_
  refine lv_iload_n hx hb dL_put_4 rfl (lv_at hl 1 rfl) ?_
  refine lv_iconst (v := nI 4) hx hb dL_put_5 (by decide) ?_
  refine lv_idiv hx hb dL_put_6 (by decide) ?_
  refine k_top (y := nI (x / 4)) (pk_div (by omega) (by omega) (by omega)) ?_
  refine lv_iadd hx hb dL_put_7 ?_
  refine k_top (y := nI (3 * h + (x / 4))) (nI_add _ _) ?_
  refine lv_dup2_11 hx hb dL_put_8 rfl rfl ?_
  refine k_lald hx hb hK hP.1 2 rfl (3 * h + x / 4) rfl (by omega) (by decide) dL_put_9 ?_
  refine lv_iload_n hx hb dL_put_10 rfl (lv_at hl 3 rfl) ?_
  refine lv_i2l (v := (nI z).toInt64) hx hb dL_put_11 rfl ?_
  refine lv_bipush (v := nI 16) hx hb dL_put_12 (by decide) ?_
  refine lv_iload_n hx hb dL_put_14 rfl (lv_at hl 1 rfl) ?_
  refine lv_iconst (v := nI 4) hx hb dL_put_15 (by decide) ?_
  refine lv_irem hx hb dL_put_16 (by decide) ?_
  refine k_top (y := nI (x % 4)) (pk_rem (by omega) (by omega) (by omega)) ?_
  refine lv_imul hx hb dL_put_17 ?_
  refine k_top (y := nI (16 * (x % 4))) (pk_mul _ _) ?_
  refine lv_lshl (v := (nI z).toInt64 <<< ((nI (16 * (x % 4))).toInt64 &&& 63)) hx hb dL_put_18 rfl ?_
  refine lv_ladd hx hb dL_put_19 ?_
  have ez : S 2 (4 * (3 * h + x / 4) + x % 4) = nI 0 := by rw [show 4 * (3 * h + x / 4) + x % 4 = h * 12 + x from by omega]; exact hz0
  have ew := put16 (v := S 2) (i := 3 * h + x / 4) (j := x % 4) (z := z) (by omega) (by omega) ez
  rw [show 4 * (3 * h + x / 4) + x % 4 = h * 12 + x from by omega] at ew
  refine k_last (wL q a (up S 2 (h * 12 + x) (nI z)) w) hx hb hK hP hS 2 rfl (3 * h + x / 4) rfl (by omega) (by decide) (by rw [ew]; exact wL_l2) dL_put_20 (fun H locs hP hS => ?_)
  exact k_vretW hx hb hr hlocks hP hS dL_put_21
set_option maxHeartbeats 4000000 in
set_option maxRecDepth 100000 in
theorem c_L_put_3 (l : Launch) (D : va_G) (q : Nat → ClassId) (A : Nat → Prop) (a : Nat → Nat) (S : Nat → Nat → Int32) (w : va_W) (x h z : Nat) (hx12 : x < 12) (hh : h < 20) (hz : z ≤ 32767) (hz0 : S 3 (h * 12 + x) = nI 0) : Met l yL_put wsL_put ({ frames := 0, cells := 0, slots := 0, locals := 0 } : Room) (va_Pc [.ref (a 3), .int (nI x), .int (nI h), .int (nI z)] (kB D q (fun H => kW D A (wL q a S w) H))) (kRv D A (wL q a ((up S 3 (h * 12 + x) (nI z))) w)) 0 0 A := by
  refine Met.ofW (cc := cL_put) (maxL := 4) (ret := none) (by decide) rfl ?_
  intro p e u m args below meth c s₁ B hml0 hv
  obtain ⟨rfl, hP, hK⟩ := hv
  have C0 : kAt p u m #[.ref (a 3), .int (nI x), .int (nI h), .int (nI z)] meth c cL_put 4 none RL wsL_put := kAt_of B hml0
  obtain ⟨hx, hb, hr, hml, hown, hts, hlocks⟩ := id C0
  have hS : va_S A u.heap u.heap [] := va_S.rf
  have hl := lv_entry ([.ref (a 3), .int (nI x), .int (nI h), .int (nI z)]) (n := 4) (Nat.le_of_ble_eq_true rfl)
  rw [lg_entry_eq]
  generalize (lg_sl ([.ref (a 3), .int (nI x), .int (nI h), .int (nI z)]) ++ List.replicate (4 - (lg_sl ([.ref (a 3), .int (nI x), .int (nI h), .int (nI z)])).length) Slot.unset).toArray = ls at hl ⊢
  have hl : lv_has ls 4 [(0, .ref (a 3)), (1, .int (nI x)), (2, .int (nI h)), (3, .int (nI z))] := hl
  refine lv_aload_n hx hb dL_put_0 rfl (lv_at hl 0 rfl) ?_
  refine lv_iconst (v := nI 3) hx hb dL_put_1 (by decide) ?_
  refine lv_iload_n hx hb dL_put_2 rfl (lv_at hl 2 rfl) ?_
  refine lv_imul hx hb dL_put_3 ?_
  refine k_top (y := nI (3 * h)) (pk_mul _ _) ?_
  refine lv_iload_n hx hb dL_put_4 rfl (lv_at hl 1 rfl) ?_
  refine lv_iconst (v := nI 4) hx hb dL_put_5 (by decide) ?_
  refine lv_idiv hx hb dL_put_6 (by decide) ?_
  refine k_top (y := nI (x / 4)) (pk_div (by omega) (by omega) (by omega)) ?_
  refine lv_iadd hx hb dL_put_7 ?_
  refine k_top (y := nI (3 * h + (x / 4))) (nI_add _ _) ?_
  refine lv_dup2_11 hx hb dL_put_8 rfl rfl ?_
  refine k_lald hx hb hK hP.1 3 rfl (3 * h + x / 4) rfl (by omega) (by decide) dL_put_9 ?_
  refine lv_iload_n hx hb dL_put_10 rfl (lv_at hl 3 rfl) ?_
  refine lv_i2l (v := (nI z).toInt64) hx hb dL_put_11 rfl ?_
  refine lv_bipush (v := nI 16) hx hb dL_put_12 (by decide) ?_
  refine lv_iload_n hx hb dL_put_14 rfl (lv_at hl 1 rfl) ?_
  refine lv_iconst (v := nI 4) hx hb dL_put_15 (by decide) ?_
  refine lv_irem hx hb dL_put_16 (by decide) ?_
  refine k_top (y := nI (x % 4)) (pk_rem (by omega) (by omega) (by omega)) ?_
  refine lv_imul hx hb dL_put_17 ?_
  refine k_top (y := nI (16 * (x % 4))) (pk_mul _ _) ?_
  refine lv_lshl (v := (nI z).toInt64 <<< ((nI (16 * (x % 4))).toInt64 &&& 63)) hx hb dL_put_18 rfl ?_
  refine lv_ladd hx hb dL_put_19 ?_
  have ez : S 3 (4 * (3 * h + x / 4) + x % 4) = nI 0 := by rw [show 4 * (3 * h + x / 4) + x % 4 = h * 12 + x from by omega]; exact hz0
  have ew := put16 (v := S 3) (i := 3 * h + x / 4) (j := x % 4) (z := z) (by omega) (by omega) ez
  rw [show 4 * (3 * h + x / 4) + x % 4 = h * 12 + x from by omega] at ew
  refine k_last (wL q a (up S 3 (h * 12 + x) (nI z)) w) hx hb hK hP hS 3 rfl (3 * h + x / 4) rfl (by omega) (by decide) (by rw [ew]; exact wL_l3) dL_put_20 (fun H locs hP hS => ?_)
  exact k_vretW hx hb hr hlocks hP hS dL_put_21
set_option maxHeartbeats 4000000 in
set_option maxRecDepth 100000 in
theorem c_L_put_4 (l : Launch) (D : va_G) (q : Nat → ClassId) (A : Nat → Prop) (a : Nat → Nat) (S : Nat → Nat → Int32) (w : va_W) (x h z : Nat) (hx12 : x < 12) (hh : h < 20) (hz : z ≤ 32767) (hz0 : S 4 (h * 12 + x) = nI 0) : Met l yL_put wsL_put ({ frames := 0, cells := 0, slots := 0, locals := 0 } : Room) (va_Pc [.ref (a 4), .int (nI x), .int (nI h), .int (nI z)] (kB D q (fun H => kW D A (wL q a S w) H))) (kRv D A (wL q a ((up S 4 (h * 12 + x) (nI z))) w)) 0 0 A := by
  refine Met.ofW (cc := cL_put) (maxL := 4) (ret := none) (by decide) rfl ?_
  intro p e u m args below meth c s₁ B hml0 hv
  obtain ⟨rfl, hP, hK⟩ := hv
  have C0 : kAt p u m #[.ref (a 4), .int (nI x), .int (nI h), .int (nI z)] meth c cL_put 4 none RL wsL_put := kAt_of B hml0
  obtain ⟨hx, hb, hr, hml, hown, hts, hlocks⟩ := id C0
  have hS : va_S A u.heap u.heap [] := va_S.rf
  have hl := lv_entry ([.ref (a 4), .int (nI x), .int (nI h), .int (nI z)]) (n := 4) (Nat.le_of_ble_eq_true rfl)
  rw [lg_entry_eq]
  generalize (lg_sl ([.ref (a 4), .int (nI x), .int (nI h), .int (nI z)]) ++ List.replicate (4 - (lg_sl ([.ref (a 4), .int (nI x), .int (nI h), .int (nI z)])).length) Slot.unset).toArray = ls at hl ⊢
  have hl : lv_has ls 4 [(0, .ref (a 4)), (1, .int (nI x)), (2, .int (nI h)), (3, .int (nI z))] := hl
  refine lv_aload_n hx hb dL_put_0 rfl (lv_at hl 0 rfl) ?_
  refine lv_iconst (v := nI 3) hx hb dL_put_1 (by decide) ?_
  refine lv_iload_n hx hb dL_put_2 rfl (lv_at hl 2 rfl) ?_
  refine lv_imul hx hb dL_put_3 ?_
  refine k_top (y := nI (3 * h)) (pk_mul _ _) ?_
  refine lv_iload_n hx hb dL_put_4 rfl (lv_at hl 1 rfl) ?_
  refine lv_iconst (v := nI 4) hx hb dL_put_5 (by decide) ?_
  refine lv_idiv hx hb dL_put_6 (by decide) ?_
  refine k_top (y := nI (x / 4)) (pk_div (by omega) (by omega) (by omega)) ?_
  refine lv_iadd hx hb dL_put_7 ?_
  refine k_top (y := nI (3 * h + (x / 4))) (nI_add _ _) ?_
  refine lv_dup2_11 hx hb dL_put_8 rfl rfl ?_
  refine k_lald hx hb hK hP.1 4 rfl (3 * h + x / 4) rfl (by omega) (by decide) dL_put_9 ?_
  refine lv_iload_n hx hb dL_put_10 rfl (lv_at hl 3 rfl) ?_
  refine lv_i2l (v := (nI z).toInt64) hx hb dL_put_11 rfl ?_
  refine lv_bipush (v := nI 16) hx hb dL_put_12 (by decide) ?_
  refine lv_iload_n hx hb dL_put_14 rfl (lv_at hl 1 rfl) ?_
  refine lv_iconst (v := nI 4) hx hb dL_put_15 (by decide) ?_
  refine lv_irem hx hb dL_put_16 (by decide) ?_
  refine k_top (y := nI (x % 4)) (pk_rem (by omega) (by omega) (by omega)) ?_
  refine lv_imul hx hb dL_put_17 ?_
  refine k_top (y := nI (16 * (x % 4))) (pk_mul _ _) ?_
  refine lv_lshl (v := (nI z).toInt64 <<< ((nI (16 * (x % 4))).toInt64 &&& 63)) hx hb dL_put_18 rfl ?_
  refine lv_ladd hx hb dL_put_19 ?_
  have ez : S 4 (4 * (3 * h + x / 4) + x % 4) = nI 0 := by rw [show 4 * (3 * h + x / 4) + x % 4 = h * 12 + x from by omega]; exact hz0
  have ew := put16 (v := S 4) (i := 3 * h + x / 4) (j := x % 4) (z := z) (by omega) (by omega) ez
  rw [show 4 * (3 * h + x / 4) + x % 4 = h * 12 + x from by omega] at ew
  refine k_last (wL q a (up S 4 (h * 12 + x) (nI z)) w) hx hb hK hP hS 4 rfl (3 * h + x / 4) rfl (by omega) (by decide) (by rw [ew]; exact wL_l4) dL_put_20 (fun H locs hP hS => ?_)
  exact k_vretW hx hb hr hlocks hP hS dL_put_21
set_option maxHeartbeats 4000000 in
set_option maxRecDepth 100000 in
theorem lp_L_spot_7 {p : Program} {l : Launch} {e : Env} {u : State} {m : MethodId} {below : List Frame} {meth : Method} {c : Code} {D : va_G} {q : Nat → ClassId} (a : Nat → Nat) (S : Nat → Nat → Int32) (w : va_W) (x h n : Nat) (hn : S 0 1 = nI n) (hn12 : n ≤ 12) (C0 : kAt p u m #[.int (nI x), .int (nI h), .ref (a 7), .ref (a 0)] meth c cL_spot 5 (some .int) RL wsL_spot) (hK : kK D q u) (hP : va_P D vwCl (wL q a S w) u.heap) :
    ∀ (f : Nat) (k : Nat) (x4 : Int32), k < f → k ≤ n → ySp S k (nI x) (nI h) = ySp S n (nI x) (nI h) → x4 = nI k - nI 1 → ∀ (ls : Array Slot), lv_has ls 5 [(0, .int (nI x)), (1, .int (nI h)), (2, .ref (a 7)), (3, .ref (a 0)), (4, .int x4)] → W p l e ({ frames := 0, cells := 0, slots := 0, locals := 0 } : Room) u m #[.int (nI x), .int (nI h), .ref (a 7), .ref (a 0)] below meth c u.heap [] 0 0 (MQ below (kSi (ySp S n (nI x) (nI h))) #[.int (nI x), .int (nI h), .ref (a 7), .ref (a 0)] u 0 0 (fun _ => False)) (F0 m 7 ls []) := by
  obtain ⟨hx, hb, hr, hml, hown, hts, hlocks⟩ := id C0
  intro f
  induction f with
  | zero =>
    intro k x4 hf
    exact absurd hf (Nat.not_lt_zero _)
  | succ f ih =>
    intro k x4 hf hk hg e4 ls hl
    replace e4 := e4.symm
    subst e4
    refine lv_iload hx hb dL_spot_7 (lv_at hl 4 rfl) ?_
    refine k_if_lt (P := k = 0) (tgt := 49) hx hb dL_spot_9 (by decide) (k_prneg (by omega)) (fun c_1 => ?_) (fun c_1 => ?_)
    · skip
      refine lv_iconst (v := nI 0) hx hb dL_spot_49 (by decide) ?_
      exact k_iretS hx hb hr hlocks rfl rfl (by rw [← hg, c_1]; rfl) dL_spot_50
    · skip
      obtain ⟨j, rfl⟩ : ∃ j, k = j + 1 := ⟨k - 1, by omega⟩
      rw [k_pred] at hl
      refine lv_aload_n hx hb dL_spot_12 rfl (lv_at hl 2 rfl) ?_
      refine lv_iconst (v := nI 3) hx hb dL_spot_13 (by decide) ?_
      refine lv_iload hx hb dL_spot_14 (lv_at hl 4 rfl) ?_
      refine lv_imul hx hb dL_spot_16 ?_
      refine k_top (y := nI (3 * j)) (pk_mul _ _) ?_
      refine k_iald hx hb hK hP 7 rfl (3 * j) rfl (by omega) (by decide) dL_spot_17 ?_
      refine lv_iload_n hx hb dL_spot_18 rfl (lv_at hl 0 rfl) ?_
      refine k_icmp_ne (P := S 7 (3 * j) = nI x) (tgt := 43) hx hb dL_spot_19 (by decide) Iff.rfl (fun c_2 => ?_) (fun c_2 => ?_)
      · skip
        refine lv_iinc (v := (nI j) + Int32.ofInt (-1)) (lv' := [(4, .int ((nI j) + Int32.ofInt (-1))), (0, .int (nI x)), (1, .int (nI h)), (2, .ref (a 7)), (3, .ref (a 0))]) hx hb dL_spot_43 hl (k := 4) rfl rfl (by decide) rfl (fun ls hl => ?_)
        refine lv_goto (tgt := 7) hx hb dL_spot_46 (by decide) ?_
        exact ih j ((nI j) + Int32.ofInt (-1)) (by omega) (by first | omega | assumption) (by rw [← hg]; exact (ySp_f c_2).symm)  (by exact k_dec _) ls (lv_sub hl [1, 2, 3, 4, 0] rfl)
      · skip
        refine lv_aload_n hx hb dL_spot_22 rfl (lv_at hl 2 rfl) ?_
        refine lv_iconst (v := nI 3) hx hb dL_spot_23 (by decide) ?_
        refine lv_iload hx hb dL_spot_24 (lv_at hl 4 rfl) ?_
        refine lv_imul hx hb dL_spot_26 ?_
        refine k_top (y := nI (3 * j)) (pk_mul _ _) ?_
        refine lv_iconst (v := nI 1) hx hb dL_spot_27 (by decide) ?_
        refine lv_iadd hx hb dL_spot_28 ?_
        refine k_top (y := nI (3 * j + 1)) (nI_add _ _) ?_
        refine k_iald hx hb hK hP 7 rfl (3 * j + 1) rfl (by omega) (by decide) dL_spot_29 ?_
        refine lv_iload_n hx hb dL_spot_30 rfl (lv_at hl 1 rfl) ?_
        refine k_icmp_gt (P := S 7 (3 * j + 1) ≤ nI h) (tgt := 43) hx hb dL_spot_31 (by decide) Iff.rfl (fun c_3 => ?_) (fun c_3 => ?_)
        · skip
          refine lv_iinc (v := (nI j) + Int32.ofInt (-1)) (lv' := [(4, .int ((nI j) + Int32.ofInt (-1))), (0, .int (nI x)), (1, .int (nI h)), (2, .ref (a 7)), (3, .ref (a 0))]) hx hb dL_spot_43 hl (k := 4) rfl rfl (by decide) rfl (fun ls hl => ?_)
          refine lv_goto (tgt := 7) hx hb dL_spot_46 (by decide) ?_
          exact ih j ((nI j) + Int32.ofInt (-1)) (by omega) (by first | omega | assumption) (by rw [← hg]; exact (ySp_h c_2 c_3).symm)  (by exact k_dec _) ls (lv_sub hl [1, 2, 3, 4, 0] rfl)
        · skip
          refine lv_aload_n hx hb dL_spot_34 rfl (lv_at hl 2 rfl) ?_
          refine lv_iconst (v := nI 3) hx hb dL_spot_35 (by decide) ?_
          refine lv_iload hx hb dL_spot_36 (lv_at hl 4 rfl) ?_
          refine lv_imul hx hb dL_spot_38 ?_
          refine k_top (y := nI (3 * j)) (pk_mul _ _) ?_
          refine lv_iconst (v := nI 2) hx hb dL_spot_39 (by decide) ?_
          refine lv_iadd hx hb dL_spot_40 ?_
          refine k_top (y := nI (3 * j + 2)) (nI_add _ _) ?_
          refine k_iald hx hb hK hP 7 rfl (3 * j + 2) rfl (by omega) (by decide) dL_spot_41 ?_
          exact k_iretS hx hb hr hlocks rfl rfl (by rw [← hg]; exact (ySp_t c_2 c_3).symm) dL_spot_42
set_option maxHeartbeats 4000000 in
set_option maxRecDepth 100000 in
theorem c_L_spot (l : Launch) (D : va_G) (q : Nat → ClassId) (a : Nat → Nat) (S : Nat → Nat → Int32) (w : va_W) (x h n : Nat) (hn : S 0 1 = nI n) (hn12 : n ≤ 12) : Met l yL_spot wsL_spot ({ frames := 0, cells := 0, slots := 0, locals := 0 } : Room) (va_Pc [.int (nI x), .int (nI h), .ref (a 7), .ref (a 0)] (kB D q (fun H => va_P D vwCl (wL q a S w) H))) (kSi (ySp S n (nI x) (nI h))) 0 0 (fun _ => False) := by
  refine Met.ofW (cc := cL_spot) (maxL := 5) (ret := (some .int)) (by decide) rfl ?_
  intro p e u m args below meth c s₁ B hml0 hv
  obtain ⟨rfl, hP, hK⟩ := hv
  have C0 : kAt p u m #[.int (nI x), .int (nI h), .ref (a 7), .ref (a 0)] meth c cL_spot 5 (some .int) RL wsL_spot := kAt_of B hml0
  obtain ⟨hx, hb, hr, hml, hown, hts, hlocks⟩ := id C0
  have hl := lv_entry ([.int (nI x), .int (nI h), .ref (a 7), .ref (a 0)]) (n := 5) (Nat.le_of_ble_eq_true rfl)
  rw [lg_entry_eq]
  generalize (lg_sl ([.int (nI x), .int (nI h), .ref (a 7), .ref (a 0)]) ++ List.replicate (5 - (lg_sl ([.int (nI x), .int (nI h), .ref (a 7), .ref (a 0)])).length) Slot.unset).toArray = ls at hl ⊢
  have hl : lv_has ls 5 [(0, .int (nI x)), (1, .int (nI h)), (2, .ref (a 7)), (3, .ref (a 0))] := hl
  refine lv_aload_n hx hb dL_spot_0 rfl (lv_at hl 3 rfl) ?_
  refine lv_iconst (v := nI 1) hx hb dL_spot_1 (by decide) ?_
  refine k_iald hx hb hK hP 0 rfl 1 rfl (by omega) (by decide) dL_spot_2 ?_
  refine k_top (y := nI n) hn ?_
  refine lv_iconst (v := nI 1) hx hb dL_spot_3 (by decide) ?_
  refine lv_isub hx hb dL_spot_4 ?_
  refine lv_istore (lv' := [(4, .int ((nI n) - (nI 1))), (0, .int (nI x)), (1, .int (nI h)), (2, .ref (a 7)), (3, .ref (a 0))]) hx hb dL_spot_5 hl (by decide) rfl (fun ls hl => ?_)
  exact lp_L_spot_7 a S w x h n hn hn12 C0 hK hP (n + 1) n ((nI n) - (nI 1)) (by omega) (by first | omega | assumption) (by rfl)  (by rfl) ls (lv_sub hl [1, 2, 3, 4, 0] rfl)
set_option maxHeartbeats 4000000 in
set_option maxRecDepth 100000 in
theorem c_L_read (l : Launch) (D : va_G) (q : Nat → ClassId) (a : Nat → Nat) (S : Nat → Nat → Int32) (w : va_W) (x : Int32) (h n : Nat) (hh : h < 20) (hb4 : bd (S 4) 32767) (ht : yT S n) (hn : S 0 1 = nI n) (hn12 : n ≤ 12) : Met l yL_read wsL_read ({ frames := 1, cells := 0, slots := 0, locals := 24 } : Room) (va_Pc [.int (x), .int (nI h), .ref (a 4), .ref (a 7), .ref (a 0)] (kB D q (fun H => va_P D vwCl (wL q a S w) H))) (kSi (yRx S n h x)) 0 0 (fun _ => False) := by
  refine Met.ofW (cc := cL_read) (maxL := 6) (ret := (some .int)) (by decide) rfl ?_
  intro p e u m args below meth c s₁ B hml0 hv
  obtain ⟨rfl, hP, hK⟩ := hv
  have C0 : kAt p u m #[.int (x), .int (nI h), .ref (a 4), .ref (a 7), .ref (a 0)] meth c cL_read 6 (some .int) RL wsL_read := kAt_of B hml0
  obtain ⟨hx, hb, hr, hml, hown, hts, hlocks⟩ := id C0
  have hl := lv_entry ([.int (x), .int (nI h), .ref (a 4), .ref (a 7), .ref (a 0)]) (n := 6) (Nat.le_of_ble_eq_true rfl)
  rw [lg_entry_eq]
  generalize (lg_sl ([.int (x), .int (nI h), .ref (a 4), .ref (a 7), .ref (a 0)]) ++ List.replicate (6 - (lg_sl ([.int (x), .int (nI h), .ref (a 4), .ref (a 7), .ref (a 0)])).length) Slot.unset).toArray = ls at hl ⊢
  have hl : lv_has ls 6 [(0, .int (x)), (1, .int (nI h)), (2, .ref (a 4)), (3, .ref (a 7)), (4, .ref (a 0))] := hl
  refine lv_iload_n hx hb dL_read_0 rfl (lv_at hl 0 rfl) ?_
  refine k_if_lt (P := x < 0) (tgt := 10) hx hb dL_read_1 (by decide) Iff.rfl (fun c_1 => ?_) (fun c_1 => ?_)
  · skip
    refine lv_iconst (v := nI 0) hx hb dL_read_10 (by decide) ?_
    refine lv_goto (tgt := 20) hx hb dL_read_11 (by decide) ?_
    refine lv_istore (lv' := [(5, .int (nI 0)), (0, .int (x)), (1, .int (nI h)), (2, .ref (a 4)), (3, .ref (a 7)), (4, .ref (a 0))]) hx hb dL_read_20 hl (by decide) rfl (fun ls hl => ?_)
    refine lv_iload hx hb dL_read_22 (lv_at hl 0 rfl) ?_
    refine k_if_ne (P := True) (tgt := 31) hx hb dL_read_24 (by decide) ⟨fun _ => trivial, fun _ => rfl⟩ (fun c_2 => ?_) (fun c_2 => ?_)
    · skip
      exact (c_2 trivial).elim
    · skip
      refine lv_iconst (v := (-1)) hx hb dL_read_27 (by decide) ?_
      refine lv_goto (tgt := 50) hx hb dL_read_28 (by decide) ?_
      exact k_iretS hx hb hr hlocks rfl rfl (by first | (simp only [yRx, yRd, if_pos c_1]; done) | (simp only [yRx, yRd, if_pos c_1]; rfl) | (simp [yRx, yRd, if_pos c_1]; done) | rfl) dL_read_50
  · skip
    refine lv_iload_n hx hb dL_read_4 rfl (lv_at hl 0 rfl) ?_
    refine lv_bipush (v := nI 11) hx hb dL_read_5 (by decide) ?_
    refine k_icmp_le (P := x ≤ nI 11) (tgt := 14) hx hb dL_read_7 (by decide) Iff.rfl (fun c_3 => ?_) (fun c_3 => ?_)
    · skip
      obtain ⟨e_x, b_x⟩ := z_ix c_1 c_3
      rw [e_x] at hl
      refine lv_aload_n hx hb dL_read_14 rfl (lv_at hl 2 rfl) ?_
      refine lv_iload_n hx hb dL_read_15 rfl (lv_at hl 0 rfl) ?_
      refine lv_iload_n hx hb dL_read_16 rfl (lv_at hl 1 rfl) ?_
      refine k_callS (rest := []) (r := S 4 (h * 12 + x.toNatClampNeg)) ⟨hx, hb, hml, hown, hts⟩ (c_L_get l D q (a 4) (S 4) x.toNatClampNeg h (by omega) (by omega) hb4) (va_cwS 3 hts gL_read_L_get rfl rfl rfl (by decide +kernel) ⟨Nat.le_of_ble_eq_true rfl, Nat.le_of_ble_eq_true rfl⟩) hK (hP.sub [4] rfl) rfl hl.1 rfl (Nat.le_of_ble_eq_true rfl) dL_read_17 ⟨Nat.zero_le _, Nat.zero_le _⟩ (fun _ h => h) ?_
      refine lv_istore (lv' := [(5, .int (S 4 (h * 12 + x.toNatClampNeg))), (0, .int (nI x.toNatClampNeg)), (1, .int (nI h)), (2, .ref (a 4)), (3, .ref (a 7)), (4, .ref (a 0))]) hx hb dL_read_20 hl (by decide) rfl (fun ls hl => ?_)
      refine lv_iload hx hb dL_read_22 (lv_at hl 0 rfl) ?_
      refine k_if_ne (P := S 4 (h * 12 + x.toNatClampNeg) = 0) (tgt := 31) hx hb dL_read_24 (by decide) Iff.rfl (fun c_4 => ?_) (fun c_4 => ?_)
      · skip
        refine lv_iload hx hb dL_read_31 (lv_at hl 0 rfl) ?_
        refine lv_iconst (v := nI 1) hx hb dL_read_33 (by decide) ?_
        refine lv_isub hx hb dL_read_34 ?_
        refine lv_bipush (v := nI 100) hx hb dL_read_35 (by decide) ?_
        refine lv_imul hx hb dL_read_37 ?_
        refine lv_bipush (v := nI 100) hx hb dL_read_38 (by decide) ?_
        refine lv_iload_n hx hb dL_read_40 rfl (lv_at hl 1 rfl) ?_
        refine lv_iload_n hx hb dL_read_41 rfl (lv_at hl 2 rfl) ?_
        refine lv_aload_n hx hb dL_read_42 rfl (lv_at hl 4 rfl) ?_
        refine lv_aload hx hb dL_read_43 (lv_at hl 5 rfl) ?_
        refine k_callS (rest := [.int (nI 100), .int (((S 4 (h * 12 + x.toNatClampNeg)) - (nI 1)) * (nI 100))]) (r := ySp S n (nI x.toNatClampNeg) (nI h)) ⟨hx, hb, hml, hown, hts⟩ (c_L_spot l D q a S w x.toNatClampNeg h n hn hn12) (va_cwS 4 hts gL_read_L_spot rfl rfl rfl (by decide +kernel) ⟨Nat.le_of_ble_eq_true rfl, Nat.le_of_ble_eq_true rfl⟩) hK hP rfl hl.1 rfl (Nat.le_of_ble_eq_true rfl) dL_read_45 ⟨Nat.zero_le _, Nat.zero_le _⟩ (fun _ h => h) ?_
        refine lv_isub hx hb dL_read_48 ?_
        refine lv_idiv hx hb dL_read_49 (ySp_nz ht) ?_
        exact k_iretS hx hb hr hlocks rfl rfl (by first | (simp only [yRx, yRd, if_neg c_1, if_pos c_3, if_neg c_4]; done) | (simp only [yRx, yRd, if_neg c_1, if_pos c_3, if_neg c_4]; rfl) | (simp [yRx, yRd, if_neg c_1, if_pos c_3, if_neg c_4]; done) | rfl) dL_read_50
      · skip
        refine lv_iconst (v := (-1)) hx hb dL_read_27 (by decide) ?_
        refine lv_goto (tgt := 50) hx hb dL_read_28 (by decide) ?_
        exact k_iretS hx hb hr hlocks rfl rfl (by first | (simp only [yRx, yRd, if_neg c_1, if_pos c_3, if_pos c_4]; done) | (simp only [yRx, yRd, if_neg c_1, if_pos c_3, if_pos c_4]; rfl) | (simp [yRx, yRd, if_neg c_1, if_pos c_3, if_pos c_4]; done) | rfl) dL_read_50
    · skip
      refine lv_iconst (v := nI 0) hx hb dL_read_10 (by decide) ?_
      refine lv_goto (tgt := 20) hx hb dL_read_11 (by decide) ?_
      refine lv_istore (lv' := [(5, .int (nI 0)), (0, .int (x)), (1, .int (nI h)), (2, .ref (a 4)), (3, .ref (a 7)), (4, .ref (a 0))]) hx hb dL_read_20 hl (by decide) rfl (fun ls hl => ?_)
      refine lv_iload hx hb dL_read_22 (lv_at hl 0 rfl) ?_
      refine k_if_ne (P := True) (tgt := 31) hx hb dL_read_24 (by decide) ⟨fun _ => trivial, fun _ => rfl⟩ (fun c_5 => ?_) (fun c_5 => ?_)
      · skip
        exact (c_5 trivial).elim
      · skip
        refine lv_iconst (v := (-1)) hx hb dL_read_27 (by decide) ?_
        refine lv_goto (tgt := 50) hx hb dL_read_28 (by decide) ?_
        exact k_iretS hx hb hr hlocks rfl rfl (by first | (simp only [yRx, yRd, if_neg c_1, if_neg c_3]; done) | (simp only [yRx, yRd, if_neg c_1, if_neg c_3]; rfl) | (simp [yRx, yRd, if_neg c_1, if_neg c_3]; done) | rfl) dL_read_50
set_option maxHeartbeats 4000000 in
set_option maxRecDepth 100000 in
theorem lp_L_count_10 {p : Program} {l : Launch} {e : Env} {u : State} {m : MethodId} {below : List Frame} {meth : Method} {c : Code} {D : va_G} {q : Nat → ClassId} (a : Nat → Nat) (S : Nat → Nat → Int32) (w : va_W) (x h n : Nat) (hx12 : x < 12) (hh : h < 20) (hb4 : bd (S 4) 32767) (ht : yT S n) (hn : S 0 1 = nI n) (hn12 : n ≤ 12) (C0 : kAt p u m #[.int (nI x), .int (nI h), .ref (a 4), .ref (a 7), .ref (a 0)] meth c cL_count 10 (some .int) RL wsL_count) (hK : kK D q u) (hP : va_P D vwCl (wL q a S w) u.heap) :
    ∀ (f : Nat) (m9 : Nat) (x5 : Int32) (x6 : Int32) (x7 : Int32), 11 - m9 < f → m9 ≤ 11 → x5 = yLf S n h x m9 → x6 = yRt S n h x m9 → x7 = nI (11 - m9) → ∀ (ls : Array Slot), lv_has ls 10 [(0, .int (nI x)), (1, .int (nI h)), (2, .ref (a 4)), (3, .ref (a 7)), (4, .ref (a 0)), (5, .int x5), (6, .int x6), (7, .int x7)] → W p l e ({ frames := 2, cells := 0, slots := 0, locals := 49 } : Room) u m #[.int (nI x), .int (nI h), .ref (a 4), .ref (a 7), .ref (a 0)] below meth c u.heap [] 0 0 (MQ below (kSi (yCn S n h x)) #[.int (nI x), .int (nI h), .ref (a 4), .ref (a 7), .ref (a 0)] u 0 0 (fun _ => False)) (F0 m 10 ls []) := by
  obtain ⟨hx, hb, hr, hml, hown, hts, hlocks⟩ := id C0
  intro f
  induction f with
  | zero =>
    intro m9 x5 x6 x7 hf
    exact absurd hf (Nat.not_lt_zero _)
  | succ f ih =>
    intro m9 x5 x6 x7 hf hm9 e5 e6 e7 ls hl
    replace e5 := e5.symm
    subst e5
    replace e6 := e6.symm
    subst e6
    replace e7 := e7.symm
    subst e7
    refine lv_iload hx hb dL_count_10 (lv_at hl 7 rfl) ?_
    refine k_if_le (P := 11 - m9 = 0) (tgt := 77) hx hb dL_count_12 (by decide) (k_nle0 (by omega)) (fun c_1 => ?_) (fun c_1 => ?_)
    · skip
      obtain rfl : m9 = 11 := by omega
      refine lv_iload_n hx hb dL_count_77 rfl (lv_at hl 0 rfl) ?_
      refine lv_iload_n hx hb dL_count_78 rfl (lv_at hl 1 rfl) ?_
      refine lv_aload_n hx hb dL_count_79 rfl (lv_at hl 2 rfl) ?_
      refine lv_aload_n hx hb dL_count_80 rfl (lv_at hl 3 rfl) ?_
      refine lv_aload hx hb dL_count_81 (lv_at hl 4 rfl) ?_
      refine k_callS (rest := []) (r := yRx S n h (nI x)) ⟨hx, hb, hml, hown, hts⟩ (c_L_read l D q a S w (nI x) h n (by omega) hb4 ht hn hn12) (va_cwS 5 hts gL_count_L_read rfl rfl rfl (by decide +kernel) ⟨Nat.le_of_ble_eq_true rfl, Nat.le_of_ble_eq_true rfl⟩) hK hP rfl hl.1 rfl (Nat.le_of_ble_eq_true rfl) dL_count_83 ⟨Nat.zero_le _, Nat.zero_le _⟩ (fun _ h => h) ?_
      refine lv_istore (lv' := [(7, .int (yRx S n h (nI x))), (0, .int (nI x)), (1, .int (nI h)), (2, .ref (a 4)), (3, .ref (a 7)), (4, .ref (a 0)), (5, .int (yLf S n h x 11)), (6, .int (yRt S n h x 11))]) hx hb dL_count_86 hl (by decide) rfl (fun ls hl => ?_)
      refine lv_iload hx hb dL_count_88 (lv_at hl 0 rfl) ?_
      refine k_if_lt (P := yRx S n h (nI x) < 0) (tgt := 98) hx hb dL_count_90 (by decide) Iff.rfl (fun c_2 => ?_) (fun c_2 => ?_)
      · skip
        refine lv_iload hx hb dL_count_98 (lv_at hl 6 rfl) ?_
        refine k_if_ge (P := yLf S n h x 11 < 0) (tgt := 112) hx hb dL_count_100 (by decide) Iff.rfl (fun c_3 => ?_) (fun c_3 => ?_)
        · skip
          refine lv_iload hx hb dL_count_112 (lv_at hl 6 rfl) ?_
          refine k_if_ge (P := yLf S n h x 11 < 0) (tgt := 122) hx hb dL_count_114 (by decide) Iff.rfl (fun c_4 => ?_) (fun c_4 => ?_)
          · skip
            refine lv_iload hx hb dL_count_122 (lv_at hl 7 rfl) ?_
            refine k_if_ge (P := yRt S n h x 11 < 0) (tgt := 132) hx hb dL_count_124 (by decide) Iff.rfl (fun c_5 => ?_) (fun c_5 => ?_)
            · skip
              refine lv_iload hx hb dL_count_132 (lv_at hl 6 rfl) ?_
              refine lv_iload hx hb dL_count_134 (lv_at hl 7 rfl) ?_
              refine lv_iadd hx hb dL_count_136 ?_
              refine lv_iconst (v := nI 2) hx hb dL_count_137 (by decide) ?_
              refine lv_idiv hx hb dL_count_138 (by decide) ?_
              exact k_iretS hx hb hr hlocks rfl rfl (by first | (simp only [yCn, if_pos c_2, if_neg c_3, if_neg c_5]; done) | (simp only [yCn, if_pos c_2, if_neg c_3, if_neg c_5]; rfl) | (simp [yCn, if_pos c_2, if_neg c_3, if_neg c_5]; done) | rfl) dL_count_139
            · skip
              refine lv_iload hx hb dL_count_127 (lv_at hl 6 rfl) ?_
              refine lv_goto (tgt := 139) hx hb dL_count_129 (by decide) ?_
              exact k_iretS hx hb hr hlocks rfl rfl (by first | (simp only [yCn, if_pos c_2, if_neg c_3, if_pos c_5]; done) | (simp only [yCn, if_pos c_2, if_neg c_3, if_pos c_5]; rfl) | (simp [yCn, if_pos c_2, if_neg c_3, if_pos c_5]; done) | rfl) dL_count_139
          · skip
            exact absurd c_4 c_3
        · skip
          refine lv_iload hx hb dL_count_103 (lv_at hl 7 rfl) ?_
          refine k_if_ge (P := yRt S n h x 11 < 0) (tgt := 112) hx hb dL_count_105 (by decide) Iff.rfl (fun c_6 => ?_) (fun c_6 => ?_)
          · skip
            refine lv_iload hx hb dL_count_112 (lv_at hl 6 rfl) ?_
            refine k_if_ge (P := yLf S n h x 11 < 0) (tgt := 122) hx hb dL_count_114 (by decide) Iff.rfl (fun c_7 => ?_) (fun c_7 => ?_)
            · skip
              exact absurd c_3 c_7
            · skip
              refine lv_iload hx hb dL_count_117 (lv_at hl 7 rfl) ?_
              refine lv_goto (tgt := 139) hx hb dL_count_119 (by decide) ?_
              exact k_iretS hx hb hr hlocks rfl rfl (by first | (simp only [yCn, if_pos c_2, if_pos c_3, if_neg c_6]; done) | (simp only [yCn, if_pos c_2, if_pos c_3, if_neg c_6]; rfl) | (simp [yCn, if_pos c_2, if_pos c_3, if_neg c_6]; done) | rfl) dL_count_139
          · skip
            refine lv_iconst (v := nI 0) hx hb dL_count_108 (by decide) ?_
            refine lv_goto (tgt := 139) hx hb dL_count_109 (by decide) ?_
            exact k_iretS hx hb hr hlocks rfl rfl (by first | (simp only [yCn, if_pos c_2, if_pos c_3, if_pos c_6]; done) | (simp only [yCn, if_pos c_2, if_pos c_3, if_pos c_6]; rfl) | (simp [yCn, if_pos c_2, if_pos c_3, if_pos c_6]; done) | rfl) dL_count_139
      · skip
        refine lv_iload hx hb dL_count_93 (lv_at hl 0 rfl) ?_
        refine lv_goto (tgt := 139) hx hb dL_count_95 (by decide) ?_
        exact k_iretS hx hb hr hlocks rfl rfl (by first | (simp only [yCn, if_neg c_2]; done) | (simp only [yCn, if_neg c_2]; rfl) | (simp [yCn, if_neg c_2]; done) | rfl) dL_count_139
    · skip
      refine lv_iload_n hx hb dL_count_15 rfl (lv_at hl 0 rfl) ?_
      refine lv_iload hx hb dL_count_16 (lv_at hl 7 rfl) ?_
      refine lv_isub hx hb dL_count_18 ?_
      refine lv_iload_n hx hb dL_count_19 rfl (lv_at hl 1 rfl) ?_
      refine lv_aload_n hx hb dL_count_20 rfl (lv_at hl 2 rfl) ?_
      refine lv_aload_n hx hb dL_count_21 rfl (lv_at hl 3 rfl) ?_
      refine lv_aload hx hb dL_count_22 (lv_at hl 4 rfl) ?_
      refine k_callS (rest := []) (r := yRx S n h ((nI x) - (nI (11 - m9)))) ⟨hx, hb, hml, hown, hts⟩ (c_L_read l D q a S w ((nI x) - (nI (11 - m9))) h n (by omega) hb4 ht hn hn12) (va_cwS 5 hts gL_count_L_read rfl rfl rfl (by decide +kernel) ⟨Nat.le_of_ble_eq_true rfl, Nat.le_of_ble_eq_true rfl⟩) hK hP rfl hl.1 rfl (Nat.le_of_ble_eq_true rfl) dL_count_24 ⟨Nat.zero_le _, Nat.zero_le _⟩ (fun _ h => h) ?_
      refine lv_istore (lv' := [(8, .int (yRx S n h ((nI x) - (nI (11 - m9))))), (0, .int (nI x)), (1, .int (nI h)), (2, .ref (a 4)), (3, .ref (a 7)), (4, .ref (a 0)), (5, .int (yLf S n h x m9)), (6, .int (yRt S n h x m9)), (7, .int (nI (11 - m9)))]) hx hb dL_count_27 hl (by decide) rfl (fun ls hl => ?_)
      refine lv_iload_n hx hb dL_count_29 rfl (lv_at hl 1 rfl) ?_
      refine lv_iload hx hb dL_count_30 (lv_at hl 8 rfl) ?_
      refine lv_iadd hx hb dL_count_32 ?_
      refine k_top (y := nI (x + (11 - m9))) (nI_add _ _) ?_
      refine lv_iload_n hx hb dL_count_33 rfl (lv_at hl 2 rfl) ?_
      refine lv_aload_n hx hb dL_count_34 rfl (lv_at hl 3 rfl) ?_
      refine lv_aload_n hx hb dL_count_35 rfl (lv_at hl 4 rfl) ?_
      refine lv_aload hx hb dL_count_36 (lv_at hl 5 rfl) ?_
      refine k_callS (rest := []) (r := yRx S n h (nI (x + (11 - m9)))) ⟨hx, hb, hml, hown, hts⟩ (c_L_read l D q a S w (nI (x + (11 - m9))) h n (by omega) hb4 ht hn hn12) (va_cwS 5 hts gL_count_L_read rfl rfl rfl (by decide +kernel) ⟨Nat.le_of_ble_eq_true rfl, Nat.le_of_ble_eq_true rfl⟩) hK hP rfl hl.1 rfl (Nat.le_of_ble_eq_true rfl) dL_count_38 ⟨Nat.zero_le _, Nat.zero_le _⟩ (fun _ h => h) ?_
      refine lv_istore (lv' := [(9, .int (yRx S n h (nI (x + (11 - m9))))), (8, .int (yRx S n h ((nI x) - (nI (11 - m9))))), (0, .int (nI x)), (1, .int (nI h)), (2, .ref (a 4)), (3, .ref (a 7)), (4, .ref (a 0)), (5, .int (yLf S n h x m9)), (6, .int (yRt S n h x m9)), (7, .int (nI (11 - m9)))]) hx hb dL_count_41 hl (by decide) rfl (fun ls hl => ?_)
      refine lv_iload hx hb dL_count_43 (lv_at hl 1 rfl) ?_
      refine k_if_ge (P := yRx S n h ((nI x) - (nI (11 - m9))) < 0) (tgt := 53) hx hb dL_count_45 (by decide) Iff.rfl (fun c_8 => ?_) (fun c_8 => ?_)
      · skip
        refine lv_iload hx hb dL_count_53 (lv_at hl 1 rfl) ?_
        refine lv_istore (lv' := [(5, .int (yRx S n h ((nI x) - (nI (11 - m9))))), (9, .int (yRx S n h (nI (x + (11 - m9))))), (8, .int (yRx S n h ((nI x) - (nI (11 - m9))))), (0, .int (nI x)), (1, .int (nI h)), (2, .ref (a 4)), (3, .ref (a 7)), (4, .ref (a 0)), (6, .int (yRt S n h x m9)), (7, .int (nI (11 - m9)))]) hx hb dL_count_55 hl (by decide) rfl (fun ls hl => ?_)
        refine lv_iload hx hb dL_count_57 (lv_at hl 1 rfl) ?_
        refine k_if_ge (P := yRx S n h (nI (x + (11 - m9))) < 0) (tgt := 67) hx hb dL_count_59 (by decide) Iff.rfl (fun c_9 => ?_) (fun c_9 => ?_)
        · skip
          refine lv_iload hx hb dL_count_67 (lv_at hl 1 rfl) ?_
          refine lv_istore (lv' := [(6, .int (yRx S n h (nI (x + (11 - m9))))), (5, .int (yRx S n h ((nI x) - (nI (11 - m9))))), (9, .int (yRx S n h (nI (x + (11 - m9))))), (8, .int (yRx S n h ((nI x) - (nI (11 - m9))))), (0, .int (nI x)), (1, .int (nI h)), (2, .ref (a 4)), (3, .ref (a 7)), (4, .ref (a 0)), (7, .int (nI (11 - m9)))]) hx hb dL_count_69 hl (by decide) rfl (fun ls hl => ?_)
          refine lv_iinc (v := (nI (11 - m9)) + Int32.ofInt (-1)) (lv' := [(7, .int ((nI (11 - m9)) + Int32.ofInt (-1))), (6, .int (yRx S n h (nI (x + (11 - m9))))), (5, .int (yRx S n h ((nI x) - (nI (11 - m9))))), (9, .int (yRx S n h (nI (x + (11 - m9))))), (8, .int (yRx S n h ((nI x) - (nI (11 - m9))))), (0, .int (nI x)), (1, .int (nI h)), (2, .ref (a 4)), (3, .ref (a 7)), (4, .ref (a 0))]) hx hb dL_count_71 hl (k := 9) rfl rfl (by decide) rfl (fun ls hl => ?_)
          refine lv_goto (tgt := 10) hx hb dL_count_74 (by decide) ?_
          exact ih (m9 + 1) (yRx S n h ((nI x) - (nI (11 - m9)))) (yRx S n h (nI (x + (11 - m9)))) ((nI (11 - m9)) + Int32.ofInt (-1)) (by omega) (by first | omega | assumption)  (by simp only [yLf_s, if_neg c_8, if_neg c_9]) (by simp only [yRt_s, if_neg c_8, if_neg c_9]) (by rw [show 11 - m9 = (11 - (m9 + 1)) + 1 from by omega]; exact pk_m1 _) ls (lv_sub hl [5, 6, 7, 8, 9, 2, 1, 0] rfl)
        · skip
          refine lv_iload hx hb dL_count_62 (lv_at hl 8 rfl) ?_
          refine lv_goto (tgt := 69) hx hb dL_count_64 (by decide) ?_
          refine lv_istore (lv' := [(6, .int (yRt S n h x m9)), (5, .int (yRx S n h ((nI x) - (nI (11 - m9))))), (9, .int (yRx S n h (nI (x + (11 - m9))))), (8, .int (yRx S n h ((nI x) - (nI (11 - m9))))), (0, .int (nI x)), (1, .int (nI h)), (2, .ref (a 4)), (3, .ref (a 7)), (4, .ref (a 0)), (7, .int (nI (11 - m9)))]) hx hb dL_count_69 hl (by decide) rfl (fun ls hl => ?_)
          refine lv_iinc (v := (nI (11 - m9)) + Int32.ofInt (-1)) (lv' := [(7, .int ((nI (11 - m9)) + Int32.ofInt (-1))), (6, .int (yRt S n h x m9)), (5, .int (yRx S n h ((nI x) - (nI (11 - m9))))), (9, .int (yRx S n h (nI (x + (11 - m9))))), (8, .int (yRx S n h ((nI x) - (nI (11 - m9))))), (0, .int (nI x)), (1, .int (nI h)), (2, .ref (a 4)), (3, .ref (a 7)), (4, .ref (a 0))]) hx hb dL_count_71 hl (k := 9) rfl rfl (by decide) rfl (fun ls hl => ?_)
          refine lv_goto (tgt := 10) hx hb dL_count_74 (by decide) ?_
          exact ih (m9 + 1) (yRx S n h ((nI x) - (nI (11 - m9)))) (yRt S n h x m9) ((nI (11 - m9)) + Int32.ofInt (-1)) (by omega) (by first | omega | assumption)  (by simp only [yLf_s, if_neg c_8, if_pos c_9]) (by simp only [yRt_s, if_neg c_8, if_pos c_9]) (by rw [show 11 - m9 = (11 - (m9 + 1)) + 1 from by omega]; exact pk_m1 _) ls (lv_sub hl [5, 6, 7, 8, 9, 2, 1, 0] rfl)
      · skip
        refine lv_iload hx hb dL_count_48 (lv_at hl 7 rfl) ?_
        refine lv_goto (tgt := 55) hx hb dL_count_50 (by decide) ?_
        refine lv_istore (lv' := [(5, .int (yLf S n h x m9)), (9, .int (yRx S n h (nI (x + (11 - m9))))), (8, .int (yRx S n h ((nI x) - (nI (11 - m9))))), (0, .int (nI x)), (1, .int (nI h)), (2, .ref (a 4)), (3, .ref (a 7)), (4, .ref (a 0)), (6, .int (yRt S n h x m9)), (7, .int (nI (11 - m9)))]) hx hb dL_count_55 hl (by decide) rfl (fun ls hl => ?_)
        refine lv_iload hx hb dL_count_57 (lv_at hl 1 rfl) ?_
        refine k_if_ge (P := yRx S n h (nI (x + (11 - m9))) < 0) (tgt := 67) hx hb dL_count_59 (by decide) Iff.rfl (fun c_10 => ?_) (fun c_10 => ?_)
        · skip
          refine lv_iload hx hb dL_count_67 (lv_at hl 1 rfl) ?_
          refine lv_istore (lv' := [(6, .int (yRx S n h (nI (x + (11 - m9))))), (5, .int (yLf S n h x m9)), (9, .int (yRx S n h (nI (x + (11 - m9))))), (8, .int (yRx S n h ((nI x) - (nI (11 - m9))))), (0, .int (nI x)), (1, .int (nI h)), (2, .ref (a 4)), (3, .ref (a 7)), (4, .ref (a 0)), (7, .int (nI (11 - m9)))]) hx hb dL_count_69 hl (by decide) rfl (fun ls hl => ?_)
          refine lv_iinc (v := (nI (11 - m9)) + Int32.ofInt (-1)) (lv' := [(7, .int ((nI (11 - m9)) + Int32.ofInt (-1))), (6, .int (yRx S n h (nI (x + (11 - m9))))), (5, .int (yLf S n h x m9)), (9, .int (yRx S n h (nI (x + (11 - m9))))), (8, .int (yRx S n h ((nI x) - (nI (11 - m9))))), (0, .int (nI x)), (1, .int (nI h)), (2, .ref (a 4)), (3, .ref (a 7)), (4, .ref (a 0))]) hx hb dL_count_71 hl (k := 9) rfl rfl (by decide) rfl (fun ls hl => ?_)
          refine lv_goto (tgt := 10) hx hb dL_count_74 (by decide) ?_
          exact ih (m9 + 1) (yLf S n h x m9) (yRx S n h (nI (x + (11 - m9)))) ((nI (11 - m9)) + Int32.ofInt (-1)) (by omega) (by first | omega | assumption)  (by simp only [yLf_s, if_pos c_8, if_neg c_10]) (by simp only [yRt_s, if_pos c_8, if_neg c_10]) (by rw [show 11 - m9 = (11 - (m9 + 1)) + 1 from by omega]; exact pk_m1 _) ls (lv_sub hl [5, 6, 7, 8, 9, 2, 1, 0] rfl)
        · skip
          refine lv_iload hx hb dL_count_62 (lv_at hl 8 rfl) ?_
          refine lv_goto (tgt := 69) hx hb dL_count_64 (by decide) ?_
          refine lv_istore (lv' := [(6, .int (yRt S n h x m9)), (5, .int (yLf S n h x m9)), (9, .int (yRx S n h (nI (x + (11 - m9))))), (8, .int (yRx S n h ((nI x) - (nI (11 - m9))))), (0, .int (nI x)), (1, .int (nI h)), (2, .ref (a 4)), (3, .ref (a 7)), (4, .ref (a 0)), (7, .int (nI (11 - m9)))]) hx hb dL_count_69 hl (by decide) rfl (fun ls hl => ?_)
          refine lv_iinc (v := (nI (11 - m9)) + Int32.ofInt (-1)) (lv' := [(7, .int ((nI (11 - m9)) + Int32.ofInt (-1))), (6, .int (yRt S n h x m9)), (5, .int (yLf S n h x m9)), (9, .int (yRx S n h (nI (x + (11 - m9))))), (8, .int (yRx S n h ((nI x) - (nI (11 - m9))))), (0, .int (nI x)), (1, .int (nI h)), (2, .ref (a 4)), (3, .ref (a 7)), (4, .ref (a 0))]) hx hb dL_count_71 hl (k := 9) rfl rfl (by decide) rfl (fun ls hl => ?_)
          refine lv_goto (tgt := 10) hx hb dL_count_74 (by decide) ?_
          exact ih (m9 + 1) (yLf S n h x m9) (yRt S n h x m9) ((nI (11 - m9)) + Int32.ofInt (-1)) (by omega) (by first | omega | assumption)  (by simp only [yLf_s, if_pos c_8, if_pos c_10]) (by simp only [yRt_s, if_pos c_8, if_pos c_10]) (by rw [show 11 - m9 = (11 - (m9 + 1)) + 1 from by omega]; exact pk_m1 _) ls (lv_sub hl [5, 6, 7, 8, 9, 2, 1, 0] rfl)
set_option maxHeartbeats 4000000 in
set_option maxRecDepth 100000 in
theorem c_L_count (l : Launch) (D : va_G) (q : Nat → ClassId) (a : Nat → Nat) (S : Nat → Nat → Int32) (w : va_W) (x h n : Nat) (hx12 : x < 12) (hh : h < 20) (hb4 : bd (S 4) 32767) (ht : yT S n) (hn : S 0 1 = nI n) (hn12 : n ≤ 12) : Met l yL_count wsL_count ({ frames := 2, cells := 0, slots := 0, locals := 49 } : Room) (va_Pc [.int (nI x), .int (nI h), .ref (a 4), .ref (a 7), .ref (a 0)] (kB D q (fun H => va_P D vwCl (wL q a S w) H))) (kSi (yCn S n h x)) 0 0 (fun _ => False) := by
  refine Met.ofW (cc := cL_count) (maxL := 10) (ret := (some .int)) (by decide) rfl ?_
  intro p e u m args below meth c s₁ B hml0 hv
  obtain ⟨rfl, hP, hK⟩ := hv
  have C0 : kAt p u m #[.int (nI x), .int (nI h), .ref (a 4), .ref (a 7), .ref (a 0)] meth c cL_count 10 (some .int) RL wsL_count := kAt_of B hml0
  obtain ⟨hx, hb, hr, hml, hown, hts, hlocks⟩ := id C0
  have hl := lv_entry ([.int (nI x), .int (nI h), .ref (a 4), .ref (a 7), .ref (a 0)]) (n := 10) (Nat.le_of_ble_eq_true rfl)
  rw [lg_entry_eq]
  generalize (lg_sl ([.int (nI x), .int (nI h), .ref (a 4), .ref (a 7), .ref (a 0)]) ++ List.replicate (10 - (lg_sl ([.int (nI x), .int (nI h), .ref (a 4), .ref (a 7), .ref (a 0)])).length) Slot.unset).toArray = ls at hl ⊢
  have hl : lv_has ls 10 [(0, .int (nI x)), (1, .int (nI h)), (2, .ref (a 4)), (3, .ref (a 7)), (4, .ref (a 0))] := hl
  refine lv_iconst (v := (-1)) hx hb dL_count_0 (by decide) ?_
  refine lv_istore (lv' := [(5, .int ((-1))), (0, .int (nI x)), (1, .int (nI h)), (2, .ref (a 4)), (3, .ref (a 7)), (4, .ref (a 0))]) hx hb dL_count_1 hl (by decide) rfl (fun ls hl => ?_)
  refine lv_iconst (v := (-1)) hx hb dL_count_3 (by decide) ?_
  refine lv_istore (lv' := [(6, .int ((-1))), (5, .int ((-1))), (0, .int (nI x)), (1, .int (nI h)), (2, .ref (a 4)), (3, .ref (a 7)), (4, .ref (a 0))]) hx hb dL_count_4 hl (by decide) rfl (fun ls hl => ?_)
  refine lv_bipush (v := nI 11) hx hb dL_count_6 (by decide) ?_
  refine lv_istore (lv' := [(7, .int (nI 11)), (6, .int ((-1))), (5, .int ((-1))), (0, .int (nI x)), (1, .int (nI h)), (2, .ref (a 4)), (3, .ref (a 7)), (4, .ref (a 0))]) hx hb dL_count_8 hl (by decide) rfl (fun ls hl => ?_)
  exact lp_L_count_10 a S w x h n hx12 hh hb4 ht hn hn12 C0 hK hP ((11 - 0) + 1) 0 ((-1)) ((-1)) (nI 11) (by omega) (by first | omega | assumption)  (by rfl) (by rfl) (by rfl) ls (lv_sub hl [3, 4, 5, 6, 7, 2, 1, 0] rfl)
set_option maxHeartbeats 4000000 in
set_option maxRecDepth 100000 in
theorem lp_L_bill_11 {p : Program} {l : Launch} {e : Env} {u : State} {m : MethodId} {below : List Frame} {meth : Method} {c : Code} {D : va_G} {q : Nat → ClassId} (a : Nat → Nat) (S : Nat → Nat → Int32) (w : va_W) (k n w0 nl : Nat) (hkl : k < nl) (hnl : nl ≤ 10) (hb4 : bd (S 4) 32767) (ht : yT S n) (hn : S 0 1 = nI n) (hn12 : n ≤ 12) (hw : S 0 0 = nI w0) (hw20 : w0 ≤ 20) (hO : yO S nl) (C0 : kAt p u m #[.int (nI k), .ref (a 4), .ref (a 7), .ref (a 8), .ref (a 0)] meth c cL_bill 8 (some .int) RL wsL_bill) (hK : kK D q u) (hP : va_P D vwCl (wL q a S w) u.heap) :
    ∀ (f : Nat) (m9 : Nat) (x5 : Int32) (x6 : Int32), w0 - m9 < f → m9 ≤ w0 - ix S 8 (6 * k + 3) → (S 8 (6 * k) = nI (ix S 8 (6 * k)) ∧ ix S 8 (6 * k) < 216) ∧ (S 8 (6 * k + 3) = nI (ix S 8 (6 * k + 3)) ∧ ix S 8 (6 * k + 3) ≤ 20) ∧ (S 8 (6 * k + 4) = nI (ix S 8 (6 * k + 4)) ∧ ix S 8 (6 * k + 4) ≤ 200) → x5 = yBl S n w0 k m9 → x6 = nI (w0 - m9) - nI 1 → ∀ (ls : Array Slot), lv_has ls 8 [(0, .int (nI k)), (1, .ref (a 4)), (2, .ref (a 7)), (3, .ref (a 8)), (4, .ref (a 0)), (5, .int x5), (6, .int x6)] → W p l e ({ frames := 3, cells := 0, slots := 0, locals := 78 } : Room) u m #[.int (nI k), .ref (a 4), .ref (a 7), .ref (a 8), .ref (a 0)] below meth c u.heap [] 0 0 (MQ below (kSi (yB S n w0 k)) #[.int (nI k), .ref (a 4), .ref (a 7), .ref (a 8), .ref (a 0)] u 0 0 (fun _ => False)) (F0 m 11 ls []) := by
  obtain ⟨hx, hb, hr, hml, hown, hts, hlocks⟩ := id C0
  intro f
  induction f with
  | zero =>
    intro m9 x5 x6 hf
    exact absurd hf (Nat.not_lt_zero _)
  | succ f ih =>
    intro m9 x5 x6 hf hm9 h8 e5 e6 ls hl
    replace e5 := e5.symm
    subst e5
    replace e6 := e6.symm
    subst e6
    refine lv_iload hx hb dL_bill_11 (lv_at hl 6 rfl) ?_
    refine lv_aload_n hx hb dL_bill_13 rfl (lv_at hl 3 rfl) ?_
    refine lv_bipush (v := nI 6) hx hb dL_bill_14 (by decide) ?_
    refine lv_iload_n hx hb dL_bill_16 rfl (lv_at hl 0 rfl) ?_
    refine lv_imul hx hb dL_bill_17 ?_
    refine k_top (y := nI (6 * k)) (pk_mul _ _) ?_
    refine lv_iconst (v := nI 3) hx hb dL_bill_18 (by decide) ?_
    refine lv_iadd hx hb dL_bill_19 ?_
    refine k_top (y := nI (6 * k + 3)) (nI_add _ _) ?_
    refine k_iald hx hb hK hP 8 rfl (6 * k + 3) rfl (by omega) (by decide) dL_bill_20 ?_
    refine k_top (y := nI (ix S 8 (6 * k + 3))) h8.2.1.1 ?_
    refine k_icmp_lt (P := w0 - m9 ≤ ix S 8 (6 * k + 3)) (tgt := 114) hx hb dL_bill_21 (by decide) (k_prlt (by omega) (by omega)) (fun c_1 => ?_) (fun c_1 => ?_)
    · skip
      refine lv_iload hx hb dL_bill_114 (lv_at hl 5 rfl) ?_
      exact k_iretS hx hb hr hlocks rfl rfl (by unfold yB; rw [show w0 - ix S 8 (6 * k + 3) = m9 from by omega]) dL_bill_116
    · skip
      have hj1 : m9 < w0 := by omega
      have ej : nI (w0 - m9) - nI 1 = nI (w0 - 1 - m9) := by rw [show w0 - m9 = (w0 - 1 - m9) + 1 from by omega]; exact k_pred _
      rw [ej] at hl
      refine lv_iload hx hb dL_bill_24 (lv_at hl 6 rfl) ?_
      refine lv_aload_n hx hb dL_bill_26 rfl (lv_at hl 3 rfl) ?_
      refine lv_bipush (v := nI 6) hx hb dL_bill_27 (by decide) ?_
      refine lv_iload_n hx hb dL_bill_29 rfl (lv_at hl 0 rfl) ?_
      refine lv_imul hx hb dL_bill_30 ?_
      refine k_top (y := nI (6 * k)) (pk_mul _ _) ?_
      refine lv_iconst (v := nI 4) hx hb dL_bill_31 (by decide) ?_
      refine lv_iadd hx hb dL_bill_32 ?_
      refine k_top (y := nI (6 * k + 4)) (nI_add _ _) ?_
      refine k_iald hx hb hK hP 8 rfl (6 * k + 4) rfl (by omega) (by decide) dL_bill_33 ?_
      refine k_top (y := nI (ix S 8 (6 * k + 4))) h8.2.2.1 ?_
      refine k_icmp_ge (P := w0 - 1 - m9 < ix S 8 (6 * k + 4)) (tgt := 60) hx hb dL_bill_34 (by decide) (nI_ltI (by omega) (by omega)) (fun c_2 => ?_) (fun c_2 => ?_)
      · skip
        refine lv_iconst (v := nI 0) hx hb dL_bill_60 (by decide) ?_
        refine lv_istore (lv' := [(7, .int (nI 0)), (0, .int (nI k)), (1, .ref (a 4)), (2, .ref (a 7)), (3, .ref (a 8)), (4, .ref (a 0)), (5, .int (yBl S n w0 k m9)), (6, .int (nI (w0 - 1 - m9)))]) hx hb dL_bill_61 hl (by decide) rfl (fun ls hl => ?_)
        refine lv_iload hx hb dL_bill_63 (lv_at hl 6 rfl) ?_
        refine lv_iload hx hb dL_bill_65 (lv_at hl 7 rfl) ?_
        refine lv_aload_n hx hb dL_bill_67 rfl (lv_at hl 4 rfl) ?_
        refine lv_bipush (v := nI 6) hx hb dL_bill_68 (by decide) ?_
        refine lv_iload_n hx hb dL_bill_70 rfl (lv_at hl 1 rfl) ?_
        refine lv_imul hx hb dL_bill_71 ?_
        refine k_top (y := nI (6 * k)) (pk_mul _ _) ?_
        refine lv_iconst (v := nI 4) hx hb dL_bill_72 (by decide) ?_
        refine lv_iadd hx hb dL_bill_73 ?_
        refine k_top (y := nI (6 * k + 4)) (nI_add _ _) ?_
        refine k_iald hx hb hK hP 8 rfl (6 * k + 4) rfl (by omega) (by decide) dL_bill_74 ?_
        refine k_top (y := nI (ix S 8 (6 * k + 4))) h8.2.2.1 ?_
        refine k_icmp_ge (P := w0 - 1 - m9 < ix S 8 (6 * k + 4)) (tgt := 104) hx hb dL_bill_75 (by decide) (nI_ltI (by omega) (by omega)) (fun c_3 => ?_) (fun c_3 => ?_)
        · skip
          refine lv_iconst (v := nI 0) hx hb dL_bill_104 (by decide) ?_
          refine lv_iadd hx hb dL_bill_105 ?_
          refine lv_istore (lv' := [(5, .int ((yBl S n w0 k m9) + (nI 0))), (7, .int (nI 0)), (0, .int (nI k)), (1, .ref (a 4)), (2, .ref (a 7)), (3, .ref (a 8)), (4, .ref (a 0)), (6, .int (nI (w0 - 1 - m9)))]) hx hb dL_bill_106 hl (by decide) rfl (fun ls hl => ?_)
          refine lv_iinc (v := (nI (w0 - 1 - m9)) + Int32.ofInt (-1)) (lv' := [(6, .int ((nI (w0 - 1 - m9)) + Int32.ofInt (-1))), (5, .int ((yBl S n w0 k m9) + (nI 0))), (7, .int (nI 0)), (0, .int (nI k)), (1, .ref (a 4)), (2, .ref (a 7)), (3, .ref (a 8)), (4, .ref (a 0))]) hx hb dL_bill_108 hl (k := 7) rfl rfl (by decide) rfl (fun ls hl => ?_)
          refine lv_goto (tgt := 11) hx hb dL_bill_111 (by decide) ?_
          exact ih (m9 + 1) ((yBl S n w0 k m9) + (nI 0)) ((nI (w0 - 1 - m9)) + Int32.ofInt (-1)) (by omega) (by first | omega | assumption) (by first | omega | assumption)  (by show _ = yBl S n w0 k m9 + yRn S n k (w0 - 1 - m9); unfold yRn; rw [if_neg c_2]) (by rw [show w0 - (m9 + 1) = w0 - 1 - m9 from by omega]; exact k_dec _) ls (lv_sub hl [3, 4, 5, 6, 7, 1, 0] rfl)
        · skip
          exact absurd c_3 c_2
      · skip
        refine lv_aload_n hx hb dL_bill_37 rfl (lv_at hl 3 rfl) ?_
        refine lv_bipush (v := nI 6) hx hb dL_bill_38 (by decide) ?_
        refine lv_iload_n hx hb dL_bill_40 rfl (lv_at hl 0 rfl) ?_
        refine lv_imul hx hb dL_bill_41 ?_
        refine k_top (y := nI (6 * k)) (pk_mul _ _) ?_
        refine k_iald hx hb hK hP 8 rfl (6 * k) rfl (by omega) (by decide) dL_bill_42 ?_
        refine k_top (y := nI (ix S 8 (6 * k))) h8.1.1 ?_
        refine lv_bipush (v := nI 36) hx hb dL_bill_43 (by decide) ?_
        refine lv_irem hx hb dL_bill_45 (by decide) ?_
        refine k_top (y := nI ((ix S 8 (6 * k)) % 36)) (pk_rem (by omega) (by omega) (by omega)) ?_
        refine lv_iconst (v := nI 3) hx hb dL_bill_46 (by decide) ?_
        refine lv_idiv hx hb dL_bill_47 (by decide) ?_
        refine k_top (y := nI (((ix S 8 (6 * k)) % 36) / 3)) (pk_div (by omega) (by omega) (by omega)) ?_
        refine lv_iload hx hb dL_bill_48 (lv_at hl 6 rfl) ?_
        refine lv_aload_n hx hb dL_bill_50 rfl (lv_at hl 1 rfl) ?_
        refine lv_aload_n hx hb dL_bill_51 rfl (lv_at hl 2 rfl) ?_
        refine lv_aload hx hb dL_bill_52 (lv_at hl 4 rfl) ?_
        refine k_callS (rest := []) (r := yCn S n (w0 - 1 - m9) (((ix S 8 (6 * k)) % 36) / 3)) ⟨hx, hb, hml, hown, hts⟩ (c_L_count l D q a S w (((ix S 8 (6 * k)) % 36) / 3) (w0 - 1 - m9) n (by omega) (by omega) hb4 ht hn hn12) (va_cwS 5 hts gL_bill_L_count rfl rfl rfl (by decide +kernel) ⟨Nat.le_of_ble_eq_true rfl, Nat.le_of_ble_eq_true rfl⟩) hK hP rfl hl.1 rfl (Nat.le_of_ble_eq_true rfl) dL_bill_54 ⟨Nat.zero_le _, Nat.zero_le _⟩ (fun _ h => h) ?_
        refine lv_goto (tgt := 61) hx hb dL_bill_57 (by decide) ?_
        refine lv_istore (lv' := [(7, .int (yCn S n (w0 - 1 - m9) (((ix S 8 (6 * k)) % 36) / 3))), (0, .int (nI k)), (1, .ref (a 4)), (2, .ref (a 7)), (3, .ref (a 8)), (4, .ref (a 0)), (5, .int (yBl S n w0 k m9)), (6, .int (nI (w0 - 1 - m9)))]) hx hb dL_bill_61 hl (by decide) rfl (fun ls hl => ?_)
        refine lv_iload hx hb dL_bill_63 (lv_at hl 6 rfl) ?_
        refine lv_iload hx hb dL_bill_65 (lv_at hl 7 rfl) ?_
        refine lv_aload_n hx hb dL_bill_67 rfl (lv_at hl 4 rfl) ?_
        refine lv_bipush (v := nI 6) hx hb dL_bill_68 (by decide) ?_
        refine lv_iload_n hx hb dL_bill_70 rfl (lv_at hl 1 rfl) ?_
        refine lv_imul hx hb dL_bill_71 ?_
        refine k_top (y := nI (6 * k)) (pk_mul _ _) ?_
        refine lv_iconst (v := nI 4) hx hb dL_bill_72 (by decide) ?_
        refine lv_iadd hx hb dL_bill_73 ?_
        refine k_top (y := nI (6 * k + 4)) (nI_add _ _) ?_
        refine k_iald hx hb hK hP 8 rfl (6 * k + 4) rfl (by omega) (by decide) dL_bill_74 ?_
        refine k_top (y := nI (ix S 8 (6 * k + 4))) h8.2.2.1 ?_
        refine k_icmp_ge (P := w0 - 1 - m9 < ix S 8 (6 * k + 4)) (tgt := 104) hx hb dL_bill_75 (by decide) (nI_ltI (by omega) (by omega)) (fun c_4 => ?_) (fun c_4 => ?_)
        · skip
          exact absurd c_2 c_4
        · skip
          refine lv_aload_n hx hb dL_bill_78 rfl (lv_at hl 4 rfl) ?_
          refine lv_bipush (v := nI 6) hx hb dL_bill_79 (by decide) ?_
          refine lv_iload_n hx hb dL_bill_81 rfl (lv_at hl 1 rfl) ?_
          refine lv_imul hx hb dL_bill_82 ?_
          refine k_top (y := nI (6 * k)) (pk_mul _ _) ?_
          refine lv_iconst (v := nI 1) hx hb dL_bill_83 (by decide) ?_
          refine lv_iadd hx hb dL_bill_84 ?_
          refine k_top (y := nI (6 * k + 1)) (nI_add _ _) ?_
          refine k_iald hx hb hK hP 8 rfl (6 * k + 1) rfl (by omega) (by decide) dL_bill_85 ?_
          refine lv_aload_n hx hb dL_bill_86 rfl (lv_at hl 4 rfl) ?_
          refine lv_bipush (v := nI 6) hx hb dL_bill_87 (by decide) ?_
          refine lv_iload_n hx hb dL_bill_89 rfl (lv_at hl 1 rfl) ?_
          refine lv_imul hx hb dL_bill_90 ?_
          refine k_top (y := nI (6 * k)) (pk_mul _ _) ?_
          refine lv_iconst (v := nI 2) hx hb dL_bill_91 (by decide) ?_
          refine lv_iadd hx hb dL_bill_92 ?_
          refine k_top (y := nI (6 * k + 2)) (nI_add _ _) ?_
          refine k_iald hx hb hK hP 8 rfl (6 * k + 2) rfl (by omega) (by decide) dL_bill_93 ?_
          refine lv_iload hx hb dL_bill_94 (lv_at hl 0 rfl) ?_
          refine lv_imul hx hb dL_bill_96 ?_
          refine lv_bipush (v := nI 100) hx hb dL_bill_97 (by decide) ?_
          refine lv_idiv hx hb dL_bill_99 (by decide) ?_
          refine lv_iadd hx hb dL_bill_100 ?_
          refine lv_goto (tgt := 105) hx hb dL_bill_101 (by decide) ?_
          refine lv_iadd hx hb dL_bill_105 ?_
          refine lv_istore (lv' := [(5, .int ((yBl S n w0 k m9) + ((S 8 (6 * k + 1)) + (((S 8 (6 * k + 2)) * (yCn S n (w0 - 1 - m9) (((ix S 8 (6 * k)) % 36) / 3))) / (nI 100))))), (7, .int (yCn S n (w0 - 1 - m9) (((ix S 8 (6 * k)) % 36) / 3))), (0, .int (nI k)), (1, .ref (a 4)), (2, .ref (a 7)), (3, .ref (a 8)), (4, .ref (a 0)), (6, .int (nI (w0 - 1 - m9)))]) hx hb dL_bill_106 hl (by decide) rfl (fun ls hl => ?_)
          refine lv_iinc (v := (nI (w0 - 1 - m9)) + Int32.ofInt (-1)) (lv' := [(6, .int ((nI (w0 - 1 - m9)) + Int32.ofInt (-1))), (5, .int ((yBl S n w0 k m9) + ((S 8 (6 * k + 1)) + (((S 8 (6 * k + 2)) * (yCn S n (w0 - 1 - m9) (((ix S 8 (6 * k)) % 36) / 3))) / (nI 100))))), (7, .int (yCn S n (w0 - 1 - m9) (((ix S 8 (6 * k)) % 36) / 3))), (0, .int (nI k)), (1, .ref (a 4)), (2, .ref (a 7)), (3, .ref (a 8)), (4, .ref (a 0))]) hx hb dL_bill_108 hl (k := 7) rfl rfl (by decide) rfl (fun ls hl => ?_)
          refine lv_goto (tgt := 11) hx hb dL_bill_111 (by decide) ?_
          exact ih (m9 + 1) ((yBl S n w0 k m9) + ((S 8 (6 * k + 1)) + (((S 8 (6 * k + 2)) * (yCn S n (w0 - 1 - m9) (((ix S 8 (6 * k)) % 36) / 3))) / (nI 100)))) ((nI (w0 - 1 - m9)) + Int32.ofInt (-1)) (by omega) (by first | omega | assumption) (by first | omega | assumption)  (by show _ = yBl S n w0 k m9 + yRn S n k (w0 - 1 - m9); unfold yRn; rw [if_pos c_2]) (by rw [show w0 - (m9 + 1) = w0 - 1 - m9 from by omega]; exact k_dec _) ls (lv_sub hl [3, 4, 5, 6, 7, 1, 0] rfl)
set_option maxHeartbeats 4000000 in
set_option maxRecDepth 100000 in
theorem c_L_bill (l : Launch) (D : va_G) (q : Nat → ClassId) (a : Nat → Nat) (S : Nat → Nat → Int32) (w : va_W) (k n w0 nl : Nat) (hkl : k < nl) (hnl : nl ≤ 10) (hb4 : bd (S 4) 32767) (ht : yT S n) (hn : S 0 1 = nI n) (hn12 : n ≤ 12) (hw : S 0 0 = nI w0) (hw20 : w0 ≤ 20) (hO : yO S nl) : Met l yL_bill wsL_bill ({ frames := 3, cells := 0, slots := 0, locals := 78 } : Room) (va_Pc [.int (nI k), .ref (a 4), .ref (a 7), .ref (a 8), .ref (a 0)] (kB D q (fun H => va_P D vwCl (wL q a S w) H))) (kSi (yB S n w0 k)) 0 0 (fun _ => False) := by
  refine Met.ofW (cc := cL_bill) (maxL := 8) (ret := (some .int)) (by decide) rfl ?_
  intro p e u m args below meth c s₁ B hml0 hv
  obtain ⟨rfl, hP, hK⟩ := hv
  have C0 : kAt p u m #[.int (nI k), .ref (a 4), .ref (a 7), .ref (a 8), .ref (a 0)] meth c cL_bill 8 (some .int) RL wsL_bill := kAt_of B hml0
  obtain ⟨hx, hb, hr, hml, hown, hts, hlocks⟩ := id C0
  have hl := lv_entry ([.int (nI k), .ref (a 4), .ref (a 7), .ref (a 8), .ref (a 0)]) (n := 8) (Nat.le_of_ble_eq_true rfl)
  rw [lg_entry_eq]
  generalize (lg_sl ([.int (nI k), .ref (a 4), .ref (a 7), .ref (a 8), .ref (a 0)]) ++ List.replicate (8 - (lg_sl ([.int (nI k), .ref (a 4), .ref (a 7), .ref (a 8), .ref (a 0)])).length) Slot.unset).toArray = ls at hl ⊢
  have hl : lv_has ls 8 [(0, .int (nI k)), (1, .ref (a 4)), (2, .ref (a 7)), (3, .ref (a 8)), (4, .ref (a 0))] := hl
  have h8 := hO k hkl
  refine lv_iconst (v := nI 0) hx hb dL_bill_0 (by decide) ?_
  refine lv_istore (lv' := [(5, .int (nI 0)), (0, .int (nI k)), (1, .ref (a 4)), (2, .ref (a 7)), (3, .ref (a 8)), (4, .ref (a 0))]) hx hb dL_bill_1 hl (by decide) rfl (fun ls hl => ?_)
  refine lv_aload hx hb dL_bill_3 (lv_at hl 5 rfl) ?_
  refine lv_iconst (v := nI 0) hx hb dL_bill_5 (by decide) ?_
  refine k_iald hx hb hK hP 0 rfl 0 rfl (by omega) (by decide) dL_bill_6 ?_
  refine k_top (y := nI w0) hw ?_
  refine lv_iconst (v := nI 1) hx hb dL_bill_7 (by decide) ?_
  refine lv_isub hx hb dL_bill_8 ?_
  refine lv_istore (lv' := [(6, .int ((nI w0) - (nI 1))), (5, .int (nI 0)), (0, .int (nI k)), (1, .ref (a 4)), (2, .ref (a 7)), (3, .ref (a 8)), (4, .ref (a 0))]) hx hb dL_bill_9 hl (by decide) rfl (fun ls hl => ?_)
  exact lp_L_bill_11 a S w k n w0 nl hkl hnl hb4 ht hn hn12 hw hw20 hO C0 hK hP ((w0 - 0) + 1) 0 (nI 0) ((nI w0) - (nI 1)) (by omega) (by first | omega | assumption) (by first | omega | assumption)  (by rfl) (by rfl) ls (lv_sub hl [2, 3, 4, 5, 6, 1, 0] rfl)
set_option maxHeartbeats 4000000 in
set_option maxRecDepth 100000 in
theorem lp_L_bills_6 {p : Program} {l : Launch} {e : Env} {u : State} {m : MethodId} {below : List Frame} {meth : Method} {c : Code} {D : va_G} {q : Nat → ClassId} {A : Nat → Prop} (a : Nat → Nat) (S : Nat → Nat → Int32) (w : va_W) (sg : Int32) (n w0 nl : Nat) (hnl : nl ≤ 10) (hnlq : S 0 2 = nI nl) (hb4 : bd (S 4) 32767) (ht : yT S n) (hn : S 0 1 = nI n) (hn12 : n ≤ 12) (hw : S 0 0 = nI w0) (hw20 : w0 ≤ 20) (hO : yO S nl) (C0 : kAt p u m #[.int (sg), .ref (a 4), .ref (a 7), .ref (a 8), .ref (a 0)] meth c cL_bills 8 (some .int) RL wsL_bills) (hK : kK D q u) :
    ∀ (f : Nat) (k : Nat) (T : Nat → Nat → Int32) (x5 : Int32) (x6 : Int32), nl - k < f → k ≤ nl → T = (yBi S n w0 sg k).2 → x5 = (yBi S n w0 sg k).1 → x6 = nI k → ∀ (H : Heap) (locs : List Loc), kW D A (wL q a T w) H → va_S A u.heap H locs → ∀ (ls : Array Slot), lv_has ls 8 [(0, .int (sg)), (1, .ref (a 4)), (2, .ref (a 7)), (3, .ref (a 8)), (4, .ref (a 0)), (5, .int x5), (6, .int x6)] → W p l e ({ frames := 4, cells := 0, slots := 0, locals := 105 } : Room) u m #[.int (sg), .ref (a 4), .ref (a 7), .ref (a 8), .ref (a 0)] below meth c H locs 0 0 (MQ below (kRi D A ((yBi S n w0 sg nl).1) (wL q a ((yBi S n w0 sg nl).2) w)) #[.int (sg), .ref (a 4), .ref (a 7), .ref (a 8), .ref (a 0)] u 0 0 A) (F0 m 6 ls []) := by
  obtain ⟨hx, hb, hr, hml, hown, hts, hlocks⟩ := id C0
  intro f
  induction f with
  | zero =>
    intro k T x5 x6 hf
    exact absurd hf (Nat.not_lt_zero _)
  | succ f ih =>
    intro k T x5 x6 hf hk eT e5 e6 H locs hP hS ls hl
    replace eT := eT.symm
    subst eT
    replace e5 := e5.symm
    subst e5
    replace e6 := e6.symm
    subst e6
    refine lv_iload hx hb dL_bills_6 (lv_at hl 6 rfl) ?_
    refine lv_aload hx hb dL_bills_8 (lv_at hl 4 rfl) ?_
    refine lv_iconst (v := nI 2) hx hb dL_bills_10 (by decide) ?_
    refine k_iald hx hb hK hP.1 0 rfl 2 rfl (by omega) (by decide) dL_bills_11 ?_
    refine k_top (y := nI nl) ((congrFun (yBi_n (r := 0) (by decide) k) 2).trans hnlq) ?_
    refine k_icmp_ge (P := k < nl) (tgt := 56) hx hb dL_bills_12 (by decide) (nI_ltI (by omega) (by omega)) (fun c_1 => ?_) (fun c_1 => ?_)
    · skip
      refine lv_iload hx hb dL_bills_56 (lv_at hl 5 rfl) ?_
      have eM : (yBi S n w0 sg k).2 = (yBi S n w0 sg nl).2 := by rw [show k = nl from by omega]
      rw [eM] at hP
      exact k_iretW hx hb hr hlocks hP hS (by rw [show k = nl from by omega]) dL_bills_58
    · skip
      refine lv_iload_n hx hb dL_bills_15 rfl (lv_at hl 0 rfl) ?_
      refine lv_iload hx hb dL_bills_16 (lv_at hl 6 rfl) ?_
      refine lv_aload_n hx hb dL_bills_18 rfl (lv_at hl 1 rfl) ?_
      refine lv_aload_n hx hb dL_bills_19 rfl (lv_at hl 2 rfl) ?_
      refine lv_aload_n hx hb dL_bills_20 rfl (lv_at hl 3 rfl) ?_
      refine lv_aload hx hb dL_bills_21 (lv_at hl 4 rfl) ?_
      refine k_callS (rest := [.int (sg)]) (r := yB ((yBi S n w0 sg k).2) n w0 k) ⟨hx, hb, hml, hown, hts⟩ (c_L_bill l D q a ((yBi S n w0 sg k).2) w k n w0 nl (by omega) hnl (by rw [(yBi_n (r := 4) (by decide) k)]; exact hb4) (yT_congr (yBi_n (r := 7) (by decide) k) ht) ((congrFun (yBi_n (r := 0) (by decide) k) 1).trans hn) hn12 ((congrFun (yBi_n (r := 0) (by decide) k) 0).trans hw) hw20 (yO_congr (fun i hi => yBi_8 hi k) hO)) (va_cwS 5 hts gL_bills_L_bill rfl rfl rfl (by decide +kernel) ⟨Nat.le_of_ble_eq_true rfl, Nat.le_of_ble_eq_true rfl⟩) hK hP.1 rfl hl.1 rfl (Nat.le_of_ble_eq_true rfl) dL_bills_23 ⟨Nat.zero_le _, Nat.zero_le _⟩ (fun _ h => h) ?_
      refine lv_imul hx hb dL_bills_26 ?_
      refine lv_istore (lv' := [(7, .int (sg * (yB ((yBi S n w0 sg k).2) n w0 k))), (0, .int (sg)), (1, .ref (a 4)), (2, .ref (a 7)), (3, .ref (a 8)), (4, .ref (a 0)), (5, .int ((yBi S n w0 sg k).1)), (6, .int (nI k))]) hx hb dL_bills_27 hl (by decide) rfl (fun ls hl => ?_)
      refine lv_aload_n hx hb dL_bills_29 rfl (lv_at hl 4 rfl) ?_
      refine lv_bipush (v := nI 6) hx hb dL_bills_30 (by decide) ?_
      refine lv_iload hx hb dL_bills_32 (lv_at hl 7 rfl) ?_
      refine lv_imul hx hb dL_bills_34 ?_
      refine k_top (y := nI (6 * k)) (pk_mul _ _) ?_
      refine lv_iconst (v := nI 5) hx hb dL_bills_35 (by decide) ?_
      refine lv_iadd hx hb dL_bills_36 ?_
      refine k_top (y := nI (6 * k + 5)) (nI_add _ _) ?_
      refine lv_dup2_11 hx hb dL_bills_37 rfl rfl ?_
      refine k_iald hx hb hK hP.1 8 rfl (6 * k + 5) rfl (by omega) (by decide) dL_bills_38 ?_
      refine lv_iload hx hb dL_bills_39 (lv_at hl 0 rfl) ?_
      refine lv_iadd hx hb dL_bills_41 ?_
      refine k_iast (wL q a ((up ((yBi S n w0 sg k).2) 8 (6 * k + 5) ((((yBi S n w0 sg k).2) 8 (6 * k + 5)) + (sg * (yB ((yBi S n w0 sg k).2) n w0 k))))) w) hx hb hK hP hS 8 rfl (6 * k + 5) rfl (by omega) (by decide) wL_s8 dL_bills_42 (fun H locs hP hS => ?_)
      refine lv_iload hx hb dL_bills_43 (lv_at hl 6 rfl) ?_
      refine lv_iload hx hb dL_bills_45 (lv_at hl 0 rfl) ?_
      refine lv_iadd hx hb dL_bills_47 ?_
      refine lv_istore (lv' := [(5, .int (((yBi S n w0 sg k).1) + (sg * (yB ((yBi S n w0 sg k).2) n w0 k)))), (7, .int (sg * (yB ((yBi S n w0 sg k).2) n w0 k))), (0, .int (sg)), (1, .ref (a 4)), (2, .ref (a 7)), (3, .ref (a 8)), (4, .ref (a 0)), (6, .int (nI k))]) hx hb dL_bills_48 hl (by decide) rfl (fun ls hl => ?_)
      refine lv_iinc (v := nI (k + 1)) (lv' := [(6, .int (nI (k + 1))), (5, .int (((yBi S n w0 sg k).1) + (sg * (yB ((yBi S n w0 sg k).2) n w0 k)))), (7, .int (sg * (yB ((yBi S n w0 sg k).2) n w0 k))), (0, .int (sg)), (1, .ref (a 4)), (2, .ref (a 7)), (3, .ref (a 8)), (4, .ref (a 0))]) hx hb dL_bills_50 hl (k := 7) rfl (k_iinc _) (by decide) rfl (fun ls hl => ?_)
      refine lv_goto (tgt := 6) hx hb dL_bills_53 (by decide) ?_
      exact ih (k + 1) ((up ((yBi S n w0 sg k).2) 8 (6 * k + 5) ((((yBi S n w0 sg k).2) 8 (6 * k + 5)) + (sg * (yB ((yBi S n w0 sg k).2) n w0 k))))) (((yBi S n w0 sg k).1) + (sg * (yB ((yBi S n w0 sg k).2) n w0 k))) (nI (k + 1)) (by omega) (by first | omega | assumption) (by rfl) (by rfl) rfl _ _ hP hS ls (lv_sub hl [3, 4, 5, 6, 7, 1, 0] rfl)
set_option maxHeartbeats 4000000 in
set_option maxRecDepth 100000 in
theorem c_L_bills (l : Launch) (D : va_G) (q : Nat → ClassId) (A : Nat → Prop) (a : Nat → Nat) (S : Nat → Nat → Int32) (w : va_W) (sg : Int32) (n w0 nl : Nat) (hnl : nl ≤ 10) (hnlq : S 0 2 = nI nl) (hb4 : bd (S 4) 32767) (ht : yT S n) (hn : S 0 1 = nI n) (hn12 : n ≤ 12) (hw : S 0 0 = nI w0) (hw20 : w0 ≤ 20) (hO : yO S nl) : Met l yL_bills wsL_bills ({ frames := 4, cells := 0, slots := 0, locals := 105 } : Room) (va_Pc [.int (sg), .ref (a 4), .ref (a 7), .ref (a 8), .ref (a 0)] (kB D q (fun H => kW D A (wL q a S w) H))) (kRi D A ((yBi S n w0 sg nl).1) (wL q a ((yBi S n w0 sg nl).2) w)) 0 0 A := by
  refine Met.ofW (cc := cL_bills) (maxL := 8) (ret := (some .int)) (by decide) rfl ?_
  intro p e u m args below meth c s₁ B hml0 hv
  obtain ⟨rfl, hP, hK⟩ := hv
  have C0 : kAt p u m #[.int (sg), .ref (a 4), .ref (a 7), .ref (a 8), .ref (a 0)] meth c cL_bills 8 (some .int) RL wsL_bills := kAt_of B hml0
  obtain ⟨hx, hb, hr, hml, hown, hts, hlocks⟩ := id C0
  have hS : va_S A u.heap u.heap [] := va_S.rf
  have hl := lv_entry ([.int (sg), .ref (a 4), .ref (a 7), .ref (a 8), .ref (a 0)]) (n := 8) (Nat.le_of_ble_eq_true rfl)
  rw [lg_entry_eq]
  generalize (lg_sl ([.int (sg), .ref (a 4), .ref (a 7), .ref (a 8), .ref (a 0)]) ++ List.replicate (8 - (lg_sl ([.int (sg), .ref (a 4), .ref (a 7), .ref (a 8), .ref (a 0)])).length) Slot.unset).toArray = ls at hl ⊢
  have hl : lv_has ls 8 [(0, .int (sg)), (1, .ref (a 4)), (2, .ref (a 7)), (3, .ref (a 8)), (4, .ref (a 0))] := hl
  refine lv_iconst (v := nI 0) hx hb dL_bills_0 (by decide) ?_
  refine lv_istore (lv' := [(5, .int (nI 0)), (0, .int (sg)), (1, .ref (a 4)), (2, .ref (a 7)), (3, .ref (a 8)), (4, .ref (a 0))]) hx hb dL_bills_1 hl (by decide) rfl (fun ls hl => ?_)
  refine lv_iconst (v := nI 0) hx hb dL_bills_3 (by decide) ?_
  refine lv_istore (lv' := [(6, .int (nI 0)), (5, .int (nI 0)), (0, .int (sg)), (1, .ref (a 4)), (2, .ref (a 7)), (3, .ref (a 8)), (4, .ref (a 0))]) hx hb dL_bills_4 hl (by decide) rfl (fun ls hl => ?_)
  exact lp_L_bills_6 a S w sg n w0 nl hnl hnlq hb4 ht hn hn12 hw hw20 hO C0 hK ((nl - 0) + 1) 0 S (nI 0) (nI 0) (by omega) (by first | omega | assumption) (by rfl) (by rfl) rfl _ _ hP hS ls (lv_sub hl [2, 3, 4, 5, 6, 1, 0] rfl)
