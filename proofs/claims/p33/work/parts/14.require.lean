theorem xk_X4_requireIndex : Cond.classLink RX4 199 "java/lang/IndexOutOfBoundsException" ∈ wsX4_requireIndex := by decide +kernel
theorem xi_X4_requireIndex : Cond.initialized "java/lang/IndexOutOfBoundsException" ∈ wsX4_requireIndex := by decide +kernel
theorem xg_X4_requireIndex : ∀ w ∈ (vx_atS RX4 203 "java/lang/IndexOutOfBoundsException" kUp).filter goodWord, w ∈ wsX4_requireIndex := by decide +kernel
set_option maxHeartbeats 4000000 in
set_option maxRecDepth 100000 in
theorem c_X4_requireIndex (l : Launch) (hl0 : l.stackTraces = false) (D : va_G) (q : Nat → ClassId) (A : Nat → Prop) (ws : va_W) (i n : Int32)  : vx_Met l yX4_requireIndex wsX4_requireIndex ({ frames := 6, cells := 1, slots := 6, locals := 200 } : Room) (va_Pc [.int (i), .int (n)] (kBX D q A (fun H => kW D A (ws) H))) (kXv D A (ixP i n) (ws)) (kXC D A ws (fun E => E = eI ∧ ¬ ixP i n)) 1 6 A := by
  refine vx_ofW (cc := cX4_requireIndex) (maxL := 2) (ret := none) (by decide) rfl ?_
  intro p e u m args below meth c s₁ B hml0 hout hv
  obtain ⟨rfl, hP, hK, hX⟩ := hv
  have C0 : kAt p u m #[.int (i), .int (n)] meth c cX4_requireIndex 2 none RX4 wsX4_requireIndex := kAt_of B hml0
  obtain ⟨hx, hb, hr, hml, hown, hts, hlocks⟩ := id C0
  have hS : va_S A u.heap u.heap [] := va_S.rf
  have hl := lv_entry ([.int (i), .int (n)]) (n := 2) (Nat.le_of_ble_eq_true rfl)
  rw [lg_entry_eq]
  generalize (lg_sl ([.int (i), .int (n)]) ++ List.replicate (2 - (lg_sl ([.int (i), .int (n)])).length) Slot.unset).toArray = ls at hl ⊢
  have hl : lv_has ls 2 [(0, .int (i)), (1, .int (n))] := hl
  refine lv_iload_n hx hb dX4_requireIndex_0 rfl (lv_at hl 0 rfl) ?_
  refine k_if_lt (P := i < 0) (tgt := 9) hx hb dX4_requireIndex_1 (by decide) Iff.rfl (fun c_1 => ?_) (fun c_1 => ?_)
  · skip
    obtain ⟨z, hz⟩ := hX.2.2.1
    exact vx_throwS (names := kUp) hx hb hl0 hown (by decide +kernel) (by decide +kernel) (hts _ xk_X4_requireIndex) (hts _ xi_X4_requireIndex) hz (kX_hat hX hX.2.2.2.2.2.2.1.1 (fun w hw => hts w (xg_X4_requireIndex w hw)) (by decide +kernel)) (by decide +kernel) hX.1 hX.2.1 hS (hl.1.trans hml.symm) dX4_requireIndex_9 dX4_requireIndex_12 dX4_requireIndex_13 dX4_requireIndex_15 dX4_requireIndex_18 (fun x hx9 => (hout x hx9).elim) (Nat.le_of_ble_eq_true rfl) (Nat.le_of_ble_eq_true rfl) (Nat.le_of_ble_eq_true rfl) (Nat.le_of_ble_eq_true rfl) hlocks (fun t hvm hsz hk9 => ⟨(), trivial, ⟨⟨rfl, fun z => z.1 c_1⟩, hP.1.kept (fun k z hk => hk9 z.1 (hP.1 k z hk).lt), hP.2⟩, (Nat.le_trans hS.1 hsz), fun q hq hA9 => (hk9 q (Nat.lt_of_lt_of_le hq hS.1)).trans (hS.2.1 q hq hA9)⟩) hS.2.2 (Nat.le_of_ble_eq_true rfl) (Nat.le_of_ble_eq_true rfl)
  · skip
    refine lv_iload_n hx hb dX4_requireIndex_4 rfl (lv_at hl 0 rfl) ?_
    refine lv_iload_n hx hb dX4_requireIndex_5 rfl (lv_at hl 1 rfl) ?_
    refine k_icmp_lt (P := i < n) (tgt := 19) hx hb dX4_requireIndex_6 (by decide) Iff.rfl (fun c_2 => ?_) (fun c_2 => ?_)
    · skip
      exact k_vretX hx hb hr hlocks hP hS (⟨c_1, c_2⟩) (Nat.le_of_ble_eq_true rfl) (Nat.le_of_ble_eq_true rfl) dX4_requireIndex_19
    · skip
      obtain ⟨z, hz⟩ := hX.2.2.1
      exact vx_throwS (names := kUp) hx hb hl0 hown (by decide +kernel) (by decide +kernel) (hts _ xk_X4_requireIndex) (hts _ xi_X4_requireIndex) hz (kX_hat hX hX.2.2.2.2.2.2.1.1 (fun w hw => hts w (xg_X4_requireIndex w hw)) (by decide +kernel)) (by decide +kernel) hX.1 hX.2.1 hS (hl.1.trans hml.symm) dX4_requireIndex_9 dX4_requireIndex_12 dX4_requireIndex_13 dX4_requireIndex_15 dX4_requireIndex_18 (fun x hx9 => (hout x hx9).elim) (Nat.le_of_ble_eq_true rfl) (Nat.le_of_ble_eq_true rfl) (Nat.le_of_ble_eq_true rfl) (Nat.le_of_ble_eq_true rfl) hlocks (fun t hvm hsz hk9 => ⟨(), trivial, ⟨⟨rfl, fun z => c_2 z.2⟩, hP.1.kept (fun k z hk => hk9 z.1 (hP.1 k z hk).lt), hP.2⟩, (Nat.le_trans hS.1 hsz), fun q hq hA9 => (hk9 q (Nat.lt_of_lt_of_le hq hS.1)).trans (hS.2.1 q hq hA9)⟩) hS.2.2 (Nat.le_of_ble_eq_true rfl) (Nat.le_of_ble_eq_true rfl)
theorem xk_X4_requireWithin : Cond.classLink RX4 206 "java/lang/IllegalArgumentException" ∈ wsX4_requireWithin := by decide +kernel
theorem xi_X4_requireWithin : Cond.initialized "java/lang/IllegalArgumentException" ∈ wsX4_requireWithin := by decide +kernel
theorem xg_X4_requireWithin : ∀ w ∈ (vx_atS RX4 210 "java/lang/IllegalArgumentException" kUp).filter goodWord, w ∈ wsX4_requireWithin := by decide +kernel
set_option maxHeartbeats 4000000 in
set_option maxRecDepth 100000 in
theorem c_X4_requireWithin (l : Launch) (hl0 : l.stackTraces = false) (D : va_G) (q : Nat → ClassId) (A : Nat → Prop) (ws : va_W) (v lo hi : Int32)  : vx_Met l yX4_requireWithin wsX4_requireWithin ({ frames := 6, cells := 1, slots := 6, locals := 200 } : Room) (va_Pc [.int (v), .int (lo), .int (hi)] (kBX D q A (fun H => kW D A (ws) H))) (kXv D A (inP v lo hi) (ws)) (kXC D A ws (fun E => E = eA ∧ ¬ inP v lo hi)) 1 6 A := by
  refine vx_ofW (cc := cX4_requireWithin) (maxL := 3) (ret := none) (by decide) rfl ?_
  intro p e u m args below meth c s₁ B hml0 hout hv
  obtain ⟨rfl, hP, hK, hX⟩ := hv
  have C0 : kAt p u m #[.int (v), .int (lo), .int (hi)] meth c cX4_requireWithin 3 none RX4 wsX4_requireWithin := kAt_of B hml0
  obtain ⟨hx, hb, hr, hml, hown, hts, hlocks⟩ := id C0
  have hS : va_S A u.heap u.heap [] := va_S.rf
  have hl := lv_entry ([.int (v), .int (lo), .int (hi)]) (n := 3) (Nat.le_of_ble_eq_true rfl)
  rw [lg_entry_eq]
  generalize (lg_sl ([.int (v), .int (lo), .int (hi)]) ++ List.replicate (3 - (lg_sl ([.int (v), .int (lo), .int (hi)])).length) Slot.unset).toArray = ls at hl ⊢
  have hl : lv_has ls 3 [(0, .int (v)), (1, .int (lo)), (2, .int (hi))] := hl
  refine lv_iload_n hx hb dX4_requireWithin_0 rfl (lv_at hl 0 rfl) ?_
  refine lv_iload_n hx hb dX4_requireWithin_1 rfl (lv_at hl 1 rfl) ?_
  refine k_icmp_lt (P := v < lo) (tgt := 10) hx hb dX4_requireWithin_2 (by decide) Iff.rfl (fun c_1 => ?_) (fun c_1 => ?_)
  · skip
    obtain ⟨z, hz⟩ := hX.2.2.2.1
    exact vx_throwS (names := kUp) hx hb hl0 hown (by decide +kernel) (by decide +kernel) (hts _ xk_X4_requireWithin) (hts _ xi_X4_requireWithin) hz (kX_hat hX hX.2.2.2.2.2.2.1.2.1 (fun w hw => hts w (xg_X4_requireWithin w hw)) (by decide +kernel)) (by decide +kernel) hX.1 hX.2.1 hS (hl.1.trans hml.symm) dX4_requireWithin_10 dX4_requireWithin_13 dX4_requireWithin_14 dX4_requireWithin_16 dX4_requireWithin_19 (fun x hx9 => (hout x hx9).elim) (Nat.le_of_ble_eq_true rfl) (Nat.le_of_ble_eq_true rfl) (Nat.le_of_ble_eq_true rfl) (Nat.le_of_ble_eq_true rfl) hlocks (fun t hvm hsz hk9 => ⟨(), trivial, ⟨⟨rfl, fun z => z.1 c_1⟩, hP.1.kept (fun k z hk => hk9 z.1 (hP.1 k z hk).lt), hP.2⟩, (Nat.le_trans hS.1 hsz), fun q hq hA9 => (hk9 q (Nat.lt_of_lt_of_le hq hS.1)).trans (hS.2.1 q hq hA9)⟩) hS.2.2 (Nat.le_of_ble_eq_true rfl) (Nat.le_of_ble_eq_true rfl)
  · skip
    refine lv_iload_n hx hb dX4_requireWithin_5 rfl (lv_at hl 0 rfl) ?_
    refine lv_iload_n hx hb dX4_requireWithin_6 rfl (lv_at hl 2 rfl) ?_
    refine k_icmp_le (P := v ≤ hi) (tgt := 20) hx hb dX4_requireWithin_7 (by decide) Iff.rfl (fun c_2 => ?_) (fun c_2 => ?_)
    · skip
      exact k_vretX hx hb hr hlocks hP hS (⟨c_1, c_2⟩) (Nat.le_of_ble_eq_true rfl) (Nat.le_of_ble_eq_true rfl) dX4_requireWithin_20
    · skip
      obtain ⟨z, hz⟩ := hX.2.2.2.1
      exact vx_throwS (names := kUp) hx hb hl0 hown (by decide +kernel) (by decide +kernel) (hts _ xk_X4_requireWithin) (hts _ xi_X4_requireWithin) hz (kX_hat hX hX.2.2.2.2.2.2.1.2.1 (fun w hw => hts w (xg_X4_requireWithin w hw)) (by decide +kernel)) (by decide +kernel) hX.1 hX.2.1 hS (hl.1.trans hml.symm) dX4_requireWithin_10 dX4_requireWithin_13 dX4_requireWithin_14 dX4_requireWithin_16 dX4_requireWithin_19 (fun x hx9 => (hout x hx9).elim) (Nat.le_of_ble_eq_true rfl) (Nat.le_of_ble_eq_true rfl) (Nat.le_of_ble_eq_true rfl) (Nat.le_of_ble_eq_true rfl) hlocks (fun t hvm hsz hk9 => ⟨(), trivial, ⟨⟨rfl, fun z => c_2 z.2⟩, hP.1.kept (fun k z hk => hk9 z.1 (hP.1 k z hk).lt), hP.2⟩, (Nat.le_trans hS.1 hsz), fun q hq hA9 => (hk9 q (Nat.lt_of_lt_of_le hq hS.1)).trans (hS.2.1 q hq hA9)⟩) hS.2.2 (Nat.le_of_ble_eq_true rfl) (Nat.le_of_ble_eq_true rfl)
theorem xk_X4_requireState : Cond.classLink RX4 211 "java/lang/IllegalStateException" ∈ wsX4_requireState := by decide +kernel
theorem xi_X4_requireState : Cond.initialized "java/lang/IllegalStateException" ∈ wsX4_requireState := by decide +kernel
theorem xg_X4_requireState : ∀ w ∈ (vx_atS RX4 215 "java/lang/IllegalStateException" kUp).filter goodWord, w ∈ wsX4_requireState := by decide +kernel
set_option maxHeartbeats 4000000 in
set_option maxRecDepth 100000 in
theorem c_X4_requireState (l : Launch) (hl0 : l.stackTraces = false) (D : va_G) (q : Nat → ClassId) (A : Nat → Prop) (ws : va_W) (b : Int32)  : vx_Met l yX4_requireState wsX4_requireState ({ frames := 6, cells := 1, slots := 6, locals := 200 } : Room) (va_Pc [.int (b)] (kBX D q A (fun H => kW D A (ws) H))) (kXv D A (¬ b = 0) (ws)) (kXC D A ws (fun E => E = eS ∧ b = 0)) 1 6 A := by
  refine vx_ofW (cc := cX4_requireState) (maxL := 1) (ret := none) (by decide) rfl ?_
  intro p e u m args below meth c s₁ B hml0 hout hv
  obtain ⟨rfl, hP, hK, hX⟩ := hv
  have C0 : kAt p u m #[.int (b)] meth c cX4_requireState 1 none RX4 wsX4_requireState := kAt_of B hml0
  obtain ⟨hx, hb, hr, hml, hown, hts, hlocks⟩ := id C0
  have hS : va_S A u.heap u.heap [] := va_S.rf
  have hl := lv_entry ([.int (b)]) (n := 1) (Nat.le_of_ble_eq_true rfl)
  rw [lg_entry_eq]
  generalize (lg_sl ([.int (b)]) ++ List.replicate (1 - (lg_sl ([.int (b)])).length) Slot.unset).toArray = ls at hl ⊢
  have hl : lv_has ls 1 [(0, .int (b))] := hl
  refine lv_iload_n hx hb dX4_requireState_0 rfl (lv_at hl 0 rfl) ?_
  refine k_if_ne (P := b = 0) (tgt := 14) hx hb dX4_requireState_1 (by decide) Iff.rfl (fun c_1 => ?_) (fun c_1 => ?_)
  · skip
    exact k_vretX hx hb hr hlocks hP hS (c_1) (Nat.le_of_ble_eq_true rfl) (Nat.le_of_ble_eq_true rfl) dX4_requireState_14
  · skip
    obtain ⟨z, hz⟩ := hX.2.2.2.2.1
    exact vx_throwS (names := kUp) hx hb hl0 hown (by decide +kernel) (by decide +kernel) (hts _ xk_X4_requireState) (hts _ xi_X4_requireState) hz (kX_hat hX hX.2.2.2.2.2.2.1.2.2 (fun w hw => hts w (xg_X4_requireState w hw)) (by decide +kernel)) (by decide +kernel) hX.1 hX.2.1 hS (hl.1.trans hml.symm) dX4_requireState_4 dX4_requireState_7 dX4_requireState_8 dX4_requireState_10 dX4_requireState_13 (fun x hx9 => (hout x hx9).elim) (Nat.le_of_ble_eq_true rfl) (Nat.le_of_ble_eq_true rfl) (Nat.le_of_ble_eq_true rfl) (Nat.le_of_ble_eq_true rfl) hlocks (fun t hvm hsz hk9 => ⟨(), trivial, ⟨⟨rfl, c_1⟩, hP.1.kept (fun k z hk => hk9 z.1 (hP.1 k z hk).lt), hP.2⟩, (Nat.le_trans hS.1 hsz), fun q hq hA9 => (hk9 q (Nat.lt_of_lt_of_le hq hS.1)).trans (hS.2.1 q hq hA9)⟩) hS.2.2 (Nat.le_of_ble_eq_true rfl) (Nat.le_of_ble_eq_true rfl)
theorem fl_X4_requireEnded_41 : Cond.fieldLink RX4 41 "LampCounts" "now" "I" ∈ wsX4_requireEnded := by decide +kernel
theorem in_X4_requireEnded_X4 : ∀ w ∈ u_ws RX4 TX4 6, w ∈ wsX4_requireEnded := by decide +kernel
set_option maxHeartbeats 4000000 in
set_option maxRecDepth 100000 in
theorem c_X4_requireEnded (l : Launch) (hl0 : l.stackTraces = false) (D : va_G) (q : Nat → ClassId) (A : Nat → Prop) (a : Nat → Nat) (S : Nat → Nat → Int32) (cap nl : Nat) (h : Int32)  : vx_Met l yX4_requireEnded wsX4_requireEnded ({ frames := 7, cells := 1, slots := 6, locals := 222 } : Room) (va_Pc [.ref (a 0), .int (h)] (kBX D q A (fun H => kW D A (wC q a S cap nl) H))) (kXv D A (inP h (nI 0) (S 0 0 - nI 1)) (wC q a S cap nl)) (kXC D A (wC q a S cap nl) (fun E => E = eA ∧ ¬ inP h (nI 0) (S 0 0 - nI 1))) 1 6 A := by
  refine vx_ofW (cc := cX4_requireEnded) (maxL := 2) (ret := none) (by decide) rfl ?_
  intro p e u m args below meth c s₁ B hml0 hout hv
  obtain ⟨rfl, hP, hK, hX⟩ := hv
  have C0 : kAt p u m #[.ref (a 0), .int (h)] meth c cX4_requireEnded 2 none RX4 wsX4_requireEnded := kAt_of B hml0
  obtain ⟨hx, hb, hr, hml, hown, hts, hlocks⟩ := id C0
  have hS : va_S A u.heap u.heap [] := va_S.rf
  have hl := lv_entry ([.ref (a 0), .int (h)]) (n := 2) (Nat.le_of_ble_eq_true rfl)
  rw [lg_entry_eq]
  generalize (lg_sl ([.ref (a 0), .int (h)]) ++ List.replicate (2 - (lg_sl ([.ref (a 0), .int (h)])).length) Slot.unset).toArray = ls at hl ⊢
  have hl : lv_has ls 2 [(0, .ref (a 0)), (1, .int (h))] := hl
  refine lv_iload_n hx hb dX4_requireEnded_0 rfl (lv_at hl 1 rfl) ?_
  refine lv_iconst (v := nI 0) hx hb dX4_requireEnded_1 (by decide) ?_
  refine lv_aload_n hx hb dX4_requireEnded_2 rfl (lv_at hl 0 rfl) ?_
  refine va_get (D := D) (ci := 5) (v := .int (S 0 0)) (C := RX4) (T := TX4) (N := 6) hx hb hts in_X4_requireEnded_X4 hown hK.1 hP.1 0 rfl rfl 5 (by decide) (hts _ fl_X4_requireEnded_41) (fun _ h9 => h9) rfl dX4_requireEnded_3 ?_
  refine lv_iconst (v := nI 1) hx hb dX4_requireEnded_6 (by decide) ?_
  refine lv_isub hx hb dX4_requireEnded_7 ?_
  refine k_goXv hS (vx_runS (rest := []) ⟨hx, hb, hml, hown, hts⟩ (c_X4_requireWithin l hl0 D q A (wC q a S cap nl) h (nI 0) ((S 0 0) - (nI 1))) (va_cwS 3 hts gX4_requireEnded_X4_requireWithin rfl rfl rfl (by decide +kernel) ⟨Nat.le_of_ble_eq_true rfl, Nat.le_of_ble_eq_true rfl⟩) ⟨kBX_blind, fun U hU hW => ⟨rfl, by rw [hU]; exact hP, hK.warm hW, hX.at hS hU hW⟩⟩ rfl rfl hl.1 rfl (lv_room (Nat.le_of_ble_eq_true rfl)) dX4_requireEnded_8 ⟨Nat.le_of_ble_eq_true rfl, Nat.le_of_ble_eq_true rfl⟩) (fun E ce q9 H locs hE hP hS h1 h2 h3 => k_outX hout hlocks h1 h2 h3 (hE) hP hS (Nat.le_of_ble_eq_true rfl) (Nat.le_of_ble_eq_true rfl)) (fun H locs c_1 hP hS => ?_)
  exact k_vretX hx hb hr hlocks hP hS (c_1) (Nat.le_of_ble_eq_true rfl) (Nat.le_of_ble_eq_true rfl) dX4_requireEnded_11
set_option maxHeartbeats 4000000 in
set_option maxRecDepth 100000 in
theorem c_X4_endedCell (l : Launch) (hl0 : l.stackTraces = false) (D : va_G) (q : Nat → ClassId) (A : Nat → Prop) (a : Nat → Nat) (S : Nat → Nat → Int32) (cap nl : Nat) (s h : Int32) (w0 : Nat) (hnow : S 0 0 = nI w0) (hw200 : w0 ≤ 200) : vx_Met l yX4_endedCell wsX4_endedCell ({ frames := 8, cells := 2, slots := 12, locals := 243 } : Room) (va_Pc [.ref (a 0), .int (s), .int (h)] (kBX D q A (fun H => kW D A (wC q a S cap nl) H))) (kXi D A (fun r => ixP s (nI 12) ∧ inP h (nI 0) (S 0 0 - nI 1) ∧ r = nI (h.toNatClampNeg * 12 + s.toNatClampNeg)) (wC q a S cap nl)) (kXC D A (wC q a S cap nl) (fun E => (E = eI ∧ ¬ ixP s (nI 12)) ∨ (E = eA ∧ ixP s (nI 12) ∧ ¬ inP h (nI 0) (S 0 0 - nI 1)))) 2 12 A := by
  refine vx_ofW (cc := cX4_endedCell) (maxL := 3) (ret := (some .int)) (by decide) rfl ?_
  intro p e u m args below meth c s₁ B hml0 hout hv
  obtain ⟨rfl, hP, hK, hX⟩ := hv
  have C0 : kAt p u m #[.ref (a 0), .int (s), .int (h)] meth c cX4_endedCell 3 (some .int) RX4 wsX4_endedCell := kAt_of B hml0
  obtain ⟨hx, hb, hr, hml, hown, hts, hlocks⟩ := id C0
  have hS : va_S A u.heap u.heap [] := va_S.rf
  have hl := lv_entry ([.ref (a 0), .int (s), .int (h)]) (n := 3) (Nat.le_of_ble_eq_true rfl)
  rw [lg_entry_eq]
  generalize (lg_sl ([.ref (a 0), .int (s), .int (h)]) ++ List.replicate (3 - (lg_sl ([.ref (a 0), .int (s), .int (h)])).length) Slot.unset).toArray = ls at hl ⊢
  have hl : lv_has ls 3 [(0, .ref (a 0)), (1, .int (s)), (2, .int (h))] := hl
  refine lv_iload_n hx hb dX4_endedCell_0 rfl (lv_at hl 1 rfl) ?_
  refine lv_bipush (v := nI 12) hx hb dX4_endedCell_1 (by decide) ?_
  refine k_goXv hS (vx_runS (rest := []) ⟨hx, hb, hml, hown, hts⟩ (c_X4_requireIndex l hl0 D q A (wC q a S cap nl) s (nI 12)) (va_cwS 2 hts gX4_endedCell_X4_requireIndex rfl rfl rfl (by decide +kernel) ⟨Nat.le_of_ble_eq_true rfl, Nat.le_of_ble_eq_true rfl⟩) ⟨kBX_blind, fun U hU hW => ⟨rfl, by rw [hU]; exact hP, hK.warm hW, hX.at hS hU hW⟩⟩ rfl rfl hl.1 rfl (lv_room (Nat.le_of_ble_eq_true rfl)) dX4_endedCell_3 ⟨Nat.le_of_ble_eq_true rfl, Nat.le_of_ble_eq_true rfl⟩) (fun E ce q9 H locs hE hP hS h1 h2 h3 => k_outX hout hlocks h1 h2 h3 (Or.inl hE) hP hS (Nat.le_of_ble_eq_true rfl) (Nat.le_of_ble_eq_true rfl)) (fun H locs c_1 hP hS => ?_)
  obtain ⟨e_s, b_s⟩ := ixP_nat c_1 (by omega)
  rw [e_s] at hl
  refine lv_aload_n hx hb dX4_endedCell_6 rfl (lv_at hl 0 rfl) ?_
  refine lv_iload_n hx hb dX4_endedCell_7 rfl (lv_at hl 2 rfl) ?_
  refine k_goXv hS (vx_runV (rest := []) ⟨hx, hb, hml, hown, hts⟩ (c_X4_requireEnded l hl0 D q A a S cap nl h) (cwV 1 hts gX4_endedCell_X4_requireEnded rfl rfl rfl (by decide +kernel) ⟨Nat.le_of_ble_eq_true rfl, Nat.le_of_ble_eq_true rfl⟩) ⟨kBX_blind, (va_recv hK.1 hP.1 (ci := 5) (q0 := 0) rfl rfl), fun U hU hW => ⟨rfl, by rw [hU]; exact hP, hK.warm hW, hX.at hS hU hW⟩⟩ rfl rfl hl.1 rfl (lv_room (Nat.le_of_ble_eq_true rfl)) dX4_endedCell_8 ⟨Nat.le_of_ble_eq_true rfl, Nat.le_of_ble_eq_true rfl⟩) (fun E ce q9 H locs hE hP hS h1 h2 h3 => k_outX hout hlocks h1 h2 h3 (Or.inr ⟨hE.1, c_1, hE.2⟩) hP hS (Nat.le_of_ble_eq_true rfl) (Nat.le_of_ble_eq_true rfl)) (fun H locs c_2 hP hS => ?_)
  obtain ⟨e_h, b_h⟩ := inP_lt hnow c_2 (by omega)
  rw [e_h] at hl
  refine lv_iload_n hx hb dX4_endedCell_11 rfl (lv_at hl 1 rfl) ?_
  refine lv_iload_n hx hb dX4_endedCell_12 rfl (lv_at hl 2 rfl) ?_
  refine k_callS (rest := []) (r := nI (h.toNatClampNeg * 12 + s.toNatClampNeg)) ⟨hx, hb, hml, hown, hts⟩ (c_X4_cell l D q s.toNatClampNeg h.toNatClampNeg) (va_cwS 2 hts gX4_endedCell_X4_cell rfl rfl rfl (by decide +kernel) ⟨Nat.le_of_ble_eq_true rfl, Nat.le_of_ble_eq_true rfl⟩) hK trivial rfl hl.1 rfl (Nat.le_of_ble_eq_true rfl) dX4_endedCell_13 ⟨Nat.le_of_ble_eq_true rfl, Nat.le_of_ble_eq_true rfl⟩ (fun _ h => h) ?_
  exact k_iretX hx hb hr hlocks hP hS ⟨c_1, c_2, rfl⟩ (Nat.le_of_ble_eq_true rfl) (Nat.le_of_ble_eq_true rfl) dX4_endedCell_16
