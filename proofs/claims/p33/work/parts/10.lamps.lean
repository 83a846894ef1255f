set_option maxHeartbeats 4000000 in
set_option maxRecDepth 100000 in
theorem c_X4_cell (l : Launch) (D : va_G) (q : Nat → ClassId) (x h : Nat)  : Met l yX4_cell wsX4_cell ({ frames := 0, cells := 0, slots := 0, locals := 0 } : Room) (va_Pc [.int (nI x), .int (nI h)] (kB D q (fun _ => True))) (kSi (nI (h * 12 + x))) 0 0 (fun _ => False) := by
  refine Met.ofW (cc := cX4_cell) (maxL := 2) (ret := (some .int)) (by decide) rfl ?_
  intro p e u m args below meth c s₁ B hml0 hv
  obtain ⟨rfl, hP, hK⟩ := hv
  have C0 : kAt p u m #[.int (nI x), .int (nI h)] meth c cX4_cell 2 (some .int) RX4 wsX4_cell := kAt_of B hml0
  obtain ⟨hx, hb, hr, hml, hown, hts, hlocks⟩ := id C0
  have hl := lv_entry ([.int (nI x), .int (nI h)]) (n := 2) (Nat.le_of_ble_eq_true rfl)
  rw [lg_entry_eq]
  generalize (lg_sl ([.int (nI x), .int (nI h)]) ++ List.replicate (2 - (lg_sl ([.int (nI x), .int (nI h)])).length) Slot.unset).toArray = ls at hl ⊢
  have hl : lv_has ls 2 [(0, .int (nI x)), (1, .int (nI h))] := hl
  refine lv_iload_n hx hb dX4_cell_0 rfl (lv_at hl 1 rfl) ?_
  refine lv_bipush (v := nI 12) hx hb dX4_cell_1 (by decide) ?_
  refine lv_imul hx hb dX4_cell_3 ?_
  refine k_top (y := nI (h * 12)) (pk_mul _ _) ?_
  refine lv_iload_n hx hb dX4_cell_4 rfl (lv_at hl 0 rfl) ?_
  refine lv_iadd hx hb dX4_cell_5 ?_
  refine k_top (y := nI (h * 12 + x)) (nI_add _ _) ?_
  exact k_iretS hx hb hr hlocks rfl rfl (by rfl) dX4_cell_6
theorem fl_X1_isLost_19 : Cond.fieldLink RX1 19 "LampCounts$Lamps" "readings" "[I" ∈ wsX1_isLost := by decide +kernel
theorem in_X1_isLost_X1 : ∀ w ∈ u_ws RX1 TX1 8, w ∈ wsX1_isLost := by decide +kernel
theorem ni_X1_isLost_38 : Cond.initialized yX4_cell.cls ∈ wsX1_isLost := by decide +kernel
theorem ns_X1_isLost_38 : Cond.static yX4_cell ∈ wsX1_isLost := by decide +kernel
set_option maxHeartbeats 4000000 in
set_option maxRecDepth 100000 in
theorem c_X1_isLost (l : Launch) (D : va_G) (q : Nat → ClassId) (a : Nat → Nat) (S : Nat → Nat → Int32) (cap nl : Nat) (x h : Nat) (hx12 : x < 12) (hh : h < 200) : Met l yX1_isLost wsX1_isLost ({ frames := 1, cells := 0, slots := 0, locals := 21 } : Room) (va_Pc [.ref (a 2), .int (nI x), .int (nI h)] (kB D q (fun H => va_P D vwCl (wC q a S cap nl) H))) (kSi (bI (S 13 (h * 12 + x) = -1))) 0 0 (fun _ => False) := by
  refine Met.ofW (cc := cX1_isLost) (maxL := 3) (ret := (some .boolean)) (by decide) rfl ?_
  intro p e u m args below meth c s₁ B hml0 hv
  obtain ⟨rfl, hP, hK⟩ := hv
  have C0 : kAt p u m #[.ref (a 2), .int (nI x), .int (nI h)] meth c cX1_isLost 3 (some .boolean) RX1 wsX1_isLost := kAt_of B hml0
  obtain ⟨hx, hb, hr, hml, hown, hts, hlocks⟩ := id C0
  have hl := lv_entry ([.ref (a 2), .int (nI x), .int (nI h)]) (n := 3) (Nat.le_of_ble_eq_true rfl)
  rw [lg_entry_eq]
  generalize (lg_sl ([.ref (a 2), .int (nI x), .int (nI h)]) ++ List.replicate (3 - (lg_sl ([.ref (a 2), .int (nI x), .int (nI h)])).length) Slot.unset).toArray = ls at hl ⊢
  have hl : lv_has ls 3 [(0, .ref (a 2)), (1, .int (nI x)), (2, .int (nI h))] := hl
  refine lv_aload_n hx hb dX1_isLost_0 rfl (lv_at hl 0 rfl) ?_
  refine va_get (D := D) (ci := 2) (v := .ref (a 13)) (C := RX1) (T := TX1) (N := 8) hx hb hts in_X1_isLost_X1 hown hK.1 hP 2 rfl rfl 2 (by decide) (hts _ fl_X1_isLost_19) (fun _ h9 => h9) rfl dX1_isLost_1 ?_
  refine lv_iload_n hx hb dX1_isLost_4 rfl (lv_at hl 1 rfl) ?_
  refine lv_iload_n hx hb dX1_isLost_5 rfl (lv_at hl 2 rfl) ?_
  refine k_callSN (rest := [.ref (a 13)]) (r := nI (h * 12 + x)) ⟨hx, hb, hml, hown, hts⟩ (c_X4_cell l D q x h) ⟨va_cnB 2 hts gX1_isLost_X4_cell_n38 rfl rfl rfl hK.2.2.2.1 (hts _ ni_X1_isLost_38) (by decide +kernel) ⟨Nat.le_of_ble_eq_true rfl, Nat.le_of_ble_eq_true rfl⟩, hts _ ns_X1_isLost_38, trivial⟩ hK trivial rfl hl.1 rfl (Nat.le_of_ble_eq_true rfl) dX1_isLost_6 ⟨Nat.zero_le _, Nat.zero_le _⟩ (fun _ h => h) ?_
  refine k_iald hx hb hK hP 13 rfl (h * 12 + x) rfl (by omega) (by decide) dX1_isLost_9 ?_
  refine lv_iconst (v := (-1)) hx hb dX1_isLost_10 (by decide) ?_
  refine k_icmp_ne (P := S 13 (h * 12 + x) = (-1)) (tgt := 18) hx hb dX1_isLost_11 (by decide) Iff.rfl (fun c_1 => ?_) (fun c_1 => ?_)
  · skip
    refine lv_iconst (v := nI 0) hx hb dX1_isLost_18 (by decide) ?_
    exact k_zretS hx hb hr hlocks rfl rfl rfl (by first | (simp only [bI, if_neg c_1]; done) | (simp only [bI, if_neg c_1]; rfl) | (simp [bI, if_neg c_1]; done) | rfl) dX1_isLost_19
  · skip
    refine lv_iconst (v := nI 1) hx hb dX1_isLost_14 (by decide) ?_
    refine lv_goto (tgt := 19) hx hb dX1_isLost_15 (by decide) ?_
    exact k_zretS hx hb hr hlocks rfl rfl rfl (by first | (simp only [bI, if_pos c_1]; done) | (simp only [bI, if_pos c_1]; rfl) | (simp [bI, if_pos c_1]; done) | rfl) dX1_isLost_19
theorem fl_X1_foundLast_25 : Cond.fieldLink RX1 25 "LampCounts$Lamps" "foundSection" "[I" ∈ wsX1_foundLast := by decide +kernel
theorem fl_X1_foundLast_28 : Cond.fieldLink RX1 28 "LampCounts$Lamps" "foundHour" "[I" ∈ wsX1_foundLast := by decide +kernel
theorem fl_X1_foundLast_31 : Cond.fieldLink RX1 31 "LampCounts$Lamps" "foundBlind" "[I" ∈ wsX1_foundLast := by decide +kernel
theorem fl_X1_foundLast_34 : Cond.fieldLink RX1 34 "LampCounts$Lamps" "findings" "I" ∈ wsX1_foundLast := by decide +kernel
theorem in_X1_foundLast_X1 : ∀ w ∈ u_ws RX1 TX1 8, w ∈ wsX1_foundLast := by decide +kernel
set_option maxHeartbeats 4000000 in
set_option maxRecDepth 100000 in
theorem lp_X1_foundLast_5 {p : Program} {l : Launch} {e : Env} {u : State} {m : MethodId} {below : List Frame} {meth : Method} {c : Code} {D : va_G} {q : Nat → ClassId} (a : Nat → Nat) (S : Nat → Nat → Int32) (cap nl : Nat) (x h n : Nat) (hn : S 0 1 = nI n) (hn60 : n ≤ 60) (C0 : kAt p u m #[.ref (a 2), .int (nI x), .int (nI h)] meth c cX1_foundLast 5 (some .int) RX1 wsX1_foundLast) (hK : kK D q u) (hP : va_P D vwCl (wC q a S cap nl) u.heap) :
    ∀ (f : Nat) (i : Nat) (x3 : Int32) (x4 : Int32), n - i < f → i ≤ n → x3 = takenF (S 15) (S 16) (S 17) (nI x) (nI h) i → x4 = nI i → ∀ (ls : Array Slot), lv_has ls 5 [(0, .ref (a 2)), (1, .int (nI x)), (2, .int (nI h)), (3, .int x3), (4, .int x4)] → W p l e ({ frames := 0, cells := 0, slots := 0, locals := 0 } : Room) u m #[.ref (a 2), .int (nI x), .int (nI h)] below meth c u.heap [] 0 0 (MQ below (kSi (takenF (S 15) (S 16) (S 17) (nI x) (nI h) n)) #[.ref (a 2), .int (nI x), .int (nI h)] u 0 0 (fun _ => False)) (F0 m 5 ls []) := by
  obtain ⟨hx, hb, hr, hml, hown, hts, hlocks⟩ := id C0
  intro f
  induction f with
  | zero =>
    intro i x3 x4 hf
    exact absurd hf (Nat.not_lt_zero _)
  | succ f ih =>
    intro i x3 x4 hf hi e3 e4 ls hl
    replace e3 := e3.symm
    subst e3
    replace e4 := e4.symm
    subst e4
    refine lv_iload hx hb dX1_foundLast_5 (lv_at hl 4 rfl) ?_
    refine lv_aload_n hx hb dX1_foundLast_7 rfl (lv_at hl 0 rfl) ?_
    refine va_get (D := D) (ci := 2) (v := .int (S 0 1)) (C := RX1) (T := TX1) (N := 8) hx hb hts in_X1_foundLast_X1 hown hK.1 hP 2 rfl rfl 7 (by decide) (hts _ fl_X1_foundLast_34) (fun _ h9 => h9) rfl dX1_foundLast_8 ?_
    refine k_top (y := nI n) hn ?_
    refine k_icmp_ge (P := i < n) (tgt := 50) hx hb dX1_foundLast_11 (by decide) (nI_ltI (by omega) (by omega)) (fun c_1 => ?_) (fun c_1 => ?_)
    · skip
      refine lv_iload_n hx hb dX1_foundLast_50 rfl (lv_at hl 3 rfl) ?_
      exact k_iretS hx hb hr hlocks rfl rfl (by 
        have : i = n := by omega
        subst this
        rfl) dX1_foundLast_51
    · skip
      refine lv_aload_n hx hb dX1_foundLast_14 rfl (lv_at hl 0 rfl) ?_
      refine va_get (D := D) (ci := 2) (v := .ref (a 15)) (C := RX1) (T := TX1) (N := 8) hx hb hts in_X1_foundLast_X1 hown hK.1 hP 2 rfl rfl 4 (by decide) (hts _ fl_X1_foundLast_25) (fun _ h9 => h9) rfl dX1_foundLast_15 ?_
      refine lv_iload hx hb dX1_foundLast_18 (lv_at hl 4 rfl) ?_
      refine k_iald hx hb hK hP 15 rfl i rfl (by omega) (by decide) dX1_foundLast_20 ?_
      refine lv_iload_n hx hb dX1_foundLast_21 rfl (lv_at hl 1 rfl) ?_
      refine k_icmp_ne (P := S 15 i = nI x) (tgt := 44) hx hb dX1_foundLast_22 (by decide) Iff.rfl (fun c_2 => ?_) (fun c_2 => ?_)
      · skip
        refine lv_iinc (v := nI (i + 1)) (lv' := [(4, .int (nI (i + 1))), (0, .ref (a 2)), (1, .int (nI x)), (2, .int (nI h)), (3, .int (takenF (S 15) (S 16) (S 17) (nI x) (nI h) i))]) hx hb dX1_foundLast_44 hl (k := 4) rfl (k_iinc _) (by decide) rfl (fun ls hl => ?_)
        refine lv_goto (tgt := 5) hx hb dX1_foundLast_47 (by decide) ?_
        exact ih (i + 1) (takenF (S 15) (S 16) (S 17) (nI x) (nI h) i) (nI (i + 1)) (by omega) (by first | omega | assumption)  (by first | (simp only [takenF, if_neg c_2]; done) | (simp only [takenF, if_neg c_2]; rfl) | (simp [takenF, if_neg c_2]; done) | rfl) rfl ls (lv_sub hl [1, 2, 3, 4, 0] rfl)
      · skip
        refine lv_aload_n hx hb dX1_foundLast_25 rfl (lv_at hl 0 rfl) ?_
        refine va_get (D := D) (ci := 2) (v := .ref (a 16)) (C := RX1) (T := TX1) (N := 8) hx hb hts in_X1_foundLast_X1 hown hK.1 hP 2 rfl rfl 5 (by decide) (hts _ fl_X1_foundLast_28) (fun _ h9 => h9) rfl dX1_foundLast_26 ?_
        refine lv_iload hx hb dX1_foundLast_29 (lv_at hl 4 rfl) ?_
        refine k_iald hx hb hK hP 16 rfl i rfl (by omega) (by decide) dX1_foundLast_31 ?_
        refine lv_iload_n hx hb dX1_foundLast_32 rfl (lv_at hl 2 rfl) ?_
        refine k_icmp_gt (P := S 16 i ≤ nI h) (tgt := 44) hx hb dX1_foundLast_33 (by decide) Iff.rfl (fun c_3 => ?_) (fun c_3 => ?_)
        · skip
          refine lv_iinc (v := nI (i + 1)) (lv' := [(4, .int (nI (i + 1))), (0, .ref (a 2)), (1, .int (nI x)), (2, .int (nI h)), (3, .int (takenF (S 15) (S 16) (S 17) (nI x) (nI h) i))]) hx hb dX1_foundLast_44 hl (k := 4) rfl (k_iinc _) (by decide) rfl (fun ls hl => ?_)
          refine lv_goto (tgt := 5) hx hb dX1_foundLast_47 (by decide) ?_
          exact ih (i + 1) (takenF (S 15) (S 16) (S 17) (nI x) (nI h) i) (nI (i + 1)) (by omega) (by first | omega | assumption)  (by first | (simp only [takenF, if_pos c_2, if_neg c_3]; done) | (simp only [takenF, if_pos c_2, if_neg c_3]; rfl) | (simp [takenF, if_pos c_2, if_neg c_3]; done) | rfl) rfl ls (lv_sub hl [1, 2, 3, 4, 0] rfl)
        · skip
          refine lv_aload_n hx hb dX1_foundLast_36 rfl (lv_at hl 0 rfl) ?_
          refine va_get (D := D) (ci := 2) (v := .ref (a 17)) (C := RX1) (T := TX1) (N := 8) hx hb hts in_X1_foundLast_X1 hown hK.1 hP 2 rfl rfl 6 (by decide) (hts _ fl_X1_foundLast_31) (fun _ h9 => h9) rfl dX1_foundLast_37 ?_
          refine lv_iload hx hb dX1_foundLast_40 (lv_at hl 4 rfl) ?_
          refine k_iald hx hb hK hP 17 rfl i rfl (by omega) (by decide) dX1_foundLast_42 ?_
          refine lv_istore_n (lv' := [(3, .int (S 17 i)), (0, .ref (a 2)), (1, .int (nI x)), (2, .int (nI h)), (4, .int (nI i))]) hx hb dX1_foundLast_43 rfl hl (by decide) rfl (fun ls hl => ?_)
          refine lv_iinc (v := nI (i + 1)) (lv' := [(4, .int (nI (i + 1))), (3, .int (S 17 i)), (0, .ref (a 2)), (1, .int (nI x)), (2, .int (nI h))]) hx hb dX1_foundLast_44 hl (k := 4) rfl (k_iinc _) (by decide) rfl (fun ls hl => ?_)
          refine lv_goto (tgt := 5) hx hb dX1_foundLast_47 (by decide) ?_
          exact ih (i + 1) (S 17 i) (nI (i + 1)) (by omega) (by first | omega | assumption)  (by first | (simp only [takenF, if_pos c_2, if_pos c_3]; done) | (simp only [takenF, if_pos c_2, if_pos c_3]; rfl) | (simp [takenF, if_pos c_2, if_pos c_3]; done) | rfl) rfl ls (lv_sub hl [2, 3, 4, 1, 0] rfl)
set_option maxHeartbeats 4000000 in
set_option maxRecDepth 100000 in
theorem c_X1_foundLast (l : Launch) (D : va_G) (q : Nat → ClassId) (a : Nat → Nat) (S : Nat → Nat → Int32) (cap nl : Nat) (x h n : Nat) (hn : S 0 1 = nI n) (hn60 : n ≤ 60) : Met l yX1_foundLast wsX1_foundLast ({ frames := 0, cells := 0, slots := 0, locals := 0 } : Room) (va_Pc [.ref (a 2), .int (nI x), .int (nI h)] (kB D q (fun H => va_P D vwCl (wC q a S cap nl) H))) (kSi (takenF (S 15) (S 16) (S 17) (nI x) (nI h) n)) 0 0 (fun _ => False) := by
  refine Met.ofW (cc := cX1_foundLast) (maxL := 5) (ret := (some .int)) (by decide) rfl ?_
  intro p e u m args below meth c s₁ B hml0 hv
  obtain ⟨rfl, hP, hK⟩ := hv
  have C0 : kAt p u m #[.ref (a 2), .int (nI x), .int (nI h)] meth c cX1_foundLast 5 (some .int) RX1 wsX1_foundLast := kAt_of B hml0
  obtain ⟨hx, hb, hr, hml, hown, hts, hlocks⟩ := id C0
  have hl := lv_entry ([.ref (a 2), .int (nI x), .int (nI h)]) (n := 5) (Nat.le_of_ble_eq_true rfl)
  rw [lg_entry_eq]
  generalize (lg_sl ([.ref (a 2), .int (nI x), .int (nI h)]) ++ List.replicate (5 - (lg_sl ([.ref (a 2), .int (nI x), .int (nI h)])).length) Slot.unset).toArray = ls at hl ⊢
  have hl : lv_has ls 5 [(0, .ref (a 2)), (1, .int (nI x)), (2, .int (nI h))] := hl
  refine lv_iconst (v := nI 0) hx hb dX1_foundLast_0 (by decide) ?_
  refine lv_istore_n (lv' := [(3, .int (nI 0)), (0, .ref (a 2)), (1, .int (nI x)), (2, .int (nI h))]) hx hb dX1_foundLast_1 rfl hl (by decide) rfl (fun ls hl => ?_)
  refine lv_iconst (v := nI 0) hx hb dX1_foundLast_2 (by decide) ?_
  refine lv_istore (lv' := [(4, .int (nI 0)), (3, .int (nI 0)), (0, .ref (a 2)), (1, .int (nI x)), (2, .int (nI h))]) hx hb dX1_foundLast_3 hl (by decide) rfl (fun ls hl => ?_)
  exact lp_X1_foundLast_5 a S cap nl x h n hn hn60 C0 hK hP ((n - 0) + 1) 0 (nI 0) (nI 0) (by omega) (by first | omega | assumption)  (by first | (simp only [takenF]; done) | (simp only [takenF]; rfl) | (simp [takenF]; done) | rfl) rfl ls (lv_sub hl [2, 3, 4, 1, 0] rfl)
theorem fl_X1_countOfReading_19 : Cond.fieldLink RX1 19 "LampCounts$Lamps" "readings" "[I" ∈ wsX1_countOfReading := by decide +kernel
theorem in_X1_countOfReading_X1 : ∀ w ∈ u_ws RX1 TX1 8, w ∈ wsX1_countOfReading := by decide +kernel
theorem ni_X1_countOfReading_38 : Cond.initialized yX4_cell.cls ∈ wsX1_countOfReading := by decide +kernel
theorem ns_X1_countOfReading_38 : Cond.static yX4_cell ∈ wsX1_countOfReading := by decide +kernel
set_option maxHeartbeats 4000000 in
set_option maxRecDepth 100000 in
theorem c_X1_countOfReading (l : Launch) (D : va_G) (q : Nat → ClassId) (a : Nat → Nat) (S : Nat → Nat → Int32) (cap nl : Nat) (x h n : Nat) (hx12 : x < 12) (hh : h < 200) (hn : S 0 1 = nI n) (hn60 : n ≤ 60) : Met l yX1_countOfReading wsX1_countOfReading ({ frames := 1, cells := 0, slots := 0, locals := 24 } : Room) (va_Pc [.ref (a 2), .int (nI x), .int (nI h)] (kB D q (fun H => va_P D vwCl (wC q a S cap nl) H))) (kSi (cntR S n h x)) 0 0 (fun _ => False) := by
  refine Met.ofW (cc := cX1_countOfReading) (maxL := 4) (ret := (some .int)) (by decide) rfl ?_
  intro p e u m args below meth c s₁ B hml0 hv
  obtain ⟨rfl, hP, hK⟩ := hv
  have C0 : kAt p u m #[.ref (a 2), .int (nI x), .int (nI h)] meth c cX1_countOfReading 4 (some .int) RX1 wsX1_countOfReading := kAt_of B hml0
  obtain ⟨hx, hb, hr, hml, hown, hts, hlocks⟩ := id C0
  have hl := lv_entry ([.ref (a 2), .int (nI x), .int (nI h)]) (n := 4) (Nat.le_of_ble_eq_true rfl)
  rw [lg_entry_eq]
  generalize (lg_sl ([.ref (a 2), .int (nI x), .int (nI h)]) ++ List.replicate (4 - (lg_sl ([.ref (a 2), .int (nI x), .int (nI h)])).length) Slot.unset).toArray = ls at hl ⊢
  have hl : lv_has ls 4 [(0, .ref (a 2)), (1, .int (nI x)), (2, .int (nI h))] := hl
  refine lv_bipush (v := nI 100) hx hb dX1_countOfReading_0 (by decide) ?_
  refine lv_aload_n hx hb dX1_countOfReading_2 rfl (lv_at hl 0 rfl) ?_
  refine lv_iload_n hx hb dX1_countOfReading_3 rfl (lv_at hl 1 rfl) ?_
  refine lv_iload_n hx hb dX1_countOfReading_4 rfl (lv_at hl 2 rfl) ?_
  refine k_callV (rest := [.int (nI 100)]) (r := takenF (S 15) (S 16) (S 17) (nI x) (nI h) n) ⟨hx, hb, hml, hown, hts⟩ (c_X1_foundLast l D q a S cap nl x h n hn hn60) (cwV 2 hts gX1_countOfReading_X1_foundLast rfl rfl rfl (by decide +kernel) ⟨Nat.le_of_ble_eq_true rfl, Nat.le_of_ble_eq_true rfl⟩) hK hP (va_recv hK.1 hP (ci := 2) (q0 := 2) rfl rfl) rfl hl.1 rfl (Nat.le_of_ble_eq_true rfl) dX1_countOfReading_5 ⟨Nat.zero_le _, Nat.zero_le _⟩ (fun _ h => h) ?_
  refine lv_isub hx hb dX1_countOfReading_8 ?_
  refine lv_istore_n (lv' := [(3, .int ((nI 100) - (takenF (S 15) (S 16) (S 17) (nI x) (nI h) n))), (0, .ref (a 2)), (1, .int (nI x)), (2, .int (nI h))]) hx hb dX1_countOfReading_9 rfl hl (by decide) rfl (fun ls hl => ?_)
  refine lv_iload_n hx hb dX1_countOfReading_10 rfl (lv_at hl 0 rfl) ?_
  refine k_if_le (P := (nI 100) - (takenF (S 15) (S 16) (S 17) (nI x) (nI h) n) ≤ 0) (tgt := 32) hx hb dX1_countOfReading_11 (by decide) Iff.rfl (fun c_1 => ?_) (fun c_1 => ?_)
  · skip
    refine lv_iconst (v := nI 0) hx hb dX1_countOfReading_32 (by decide) ?_
    exact k_iretS hx hb hr hlocks rfl rfl (by first | (simp only [cntR, cntC, if_pos c_1]; done) | (simp only [cntR, cntC, if_pos c_1]; rfl) | (simp [cntR, cntC, if_pos c_1]; done) | rfl) dX1_countOfReading_33
  · skip
    refine lv_bipush (v := nI 100) hx hb dX1_countOfReading_14 (by decide) ?_
    refine lv_aload_n hx hb dX1_countOfReading_16 rfl (lv_at hl 1 rfl) ?_
    refine va_get (D := D) (ci := 2) (v := .ref (a 13)) (C := RX1) (T := TX1) (N := 8) hx hb hts in_X1_countOfReading_X1 hown hK.1 hP 2 rfl rfl 2 (by decide) (hts _ fl_X1_countOfReading_19) (fun _ h9 => h9) rfl dX1_countOfReading_17 ?_
    refine lv_iload_n hx hb dX1_countOfReading_20 rfl (lv_at hl 2 rfl) ?_
    refine lv_iload_n hx hb dX1_countOfReading_21 rfl (lv_at hl 3 rfl) ?_
    refine k_callSN (rest := [.ref (a 13), .int (nI 100)]) (r := nI (h * 12 + x)) ⟨hx, hb, hml, hown, hts⟩ (c_X4_cell l D q x h) ⟨va_cnB 2 hts gX1_countOfReading_X4_cell_n38 rfl rfl rfl hK.2.2.2.1 (hts _ ni_X1_countOfReading_38) (by decide +kernel) ⟨Nat.le_of_ble_eq_true rfl, Nat.le_of_ble_eq_true rfl⟩, hts _ ns_X1_countOfReading_38, trivial⟩ hK trivial rfl hl.1 rfl (Nat.le_of_ble_eq_true rfl) dX1_countOfReading_22 ⟨Nat.zero_le _, Nat.zero_le _⟩ (fun _ h => h) ?_
    refine k_iald hx hb hK hP 13 rfl (h * 12 + x) rfl (by omega) (by decide) dX1_countOfReading_25 ?_
    refine lv_imul hx hb dX1_countOfReading_26 ?_
    refine lv_iload_n hx hb dX1_countOfReading_27 rfl (lv_at hl 0 rfl) ?_
    refine lv_idiv hx hb dX1_countOfReading_28 (fun z => c_1 (by rw [z]; decide)) ?_
    refine lv_goto (tgt := 33) hx hb dX1_countOfReading_29 (by decide) ?_
    exact k_iretS hx hb hr hlocks rfl rfl (by first | (simp only [cntR, cntC, if_neg c_1]; done) | (simp only [cntR, cntC, if_neg c_1]; rfl) | (simp [cntR, cntC, if_neg c_1]; done) | rfl) dX1_countOfReading_33
set_option maxHeartbeats 4000000 in
set_option maxRecDepth 100000 in
theorem lp_X1_nearestAhead_4 {p : Program} {l : Launch} {e : Env} {u : State} {m : MethodId} {below : List Frame} {meth : Method} {c : Code} {D : va_G} {q : Nat → ClassId} (a : Nat → Nat) (S : Nat → Nat → Int32) (cap nl : Nat) (x h : Nat) (hx12 : x < 12) (hh : h < 200) (C0 : kAt p u m #[.ref (a 2), .int (nI x), .int (nI h)] meth c cX1_nearestAhead 4 (some .int) RX1 wsX1_nearestAhead) (hK : kK D q u) (hP : va_P D vwCl (wC q a S cap nl) u.heap) :
    ∀ (f : Nat) (k : Nat) (x3 : Int32), k < f → k ≤ x → naO (rowF (S 13) h) k = naO (rowF (S 13) h) x → x3 = nI k - nI 1 → ∀ (ls : Array Slot), lv_has ls 4 [(0, .ref (a 2)), (1, .int (nI x)), (2, .int (nI h)), (3, .int x3)] → W p l e ({ frames := 2, cells := 0, slots := 0, locals := 43 } : Room) u m #[.ref (a 2), .int (nI x), .int (nI h)] below meth c u.heap [] 0 0 (MQ below (kSi (oI (naO (rowF (S 13) h) x))) #[.ref (a 2), .int (nI x), .int (nI h)] u 0 0 (fun _ => False)) (F0 m 4 ls []) := by
  obtain ⟨hx, hb, hr, hml, hown, hts, hlocks⟩ := id C0
  intro f
  induction f with
  | zero =>
    intro k x3 hf
    exact absurd hf (Nat.not_lt_zero _)
  | succ f ih =>
    intro k x3 hf hk hg e3 ls hl
    replace e3 := e3.symm
    subst e3
    refine lv_iload_n hx hb dX1_nearestAhead_4 rfl (lv_at hl 3 rfl) ?_
    refine k_if_lt (P := k = 0) (tgt := 25) hx hb dX1_nearestAhead_5 (by decide) (k_prneg (by omega)) (fun c_1 => ?_) (fun c_1 => ?_)
    · skip
      refine lv_iconst (v := (-1)) hx hb dX1_nearestAhead_25 (by decide) ?_
      exact k_iretS hx hb hr hlocks rfl rfl (by rw [← hg, c_1]; rfl) dX1_nearestAhead_26
    · skip
      obtain ⟨j, rfl⟩ : ∃ j, k = j + 1 := ⟨k - 1, by omega⟩
      rw [k_pred] at hl
      refine lv_aload_n hx hb dX1_nearestAhead_8 rfl (lv_at hl 0 rfl) ?_
      refine lv_iload_n hx hb dX1_nearestAhead_9 rfl (lv_at hl 3 rfl) ?_
      refine lv_iload_n hx hb dX1_nearestAhead_10 rfl (lv_at hl 2 rfl) ?_
      refine k_callV (rest := []) (r := bI (S 13 (h * 12 + j) = -1)) ⟨hx, hb, hml, hown, hts⟩ (c_X1_isLost l D q a S cap nl j h (by omega) (by omega)) (cwV 2 hts gX1_nearestAhead_X1_isLost rfl rfl rfl (by decide +kernel) ⟨Nat.le_of_ble_eq_true rfl, Nat.le_of_ble_eq_true rfl⟩) hK hP (va_recv hK.1 hP (ci := 2) (q0 := 2) rfl rfl) rfl hl.1 rfl (Nat.le_of_ble_eq_true rfl) dX1_nearestAhead_11 ⟨Nat.zero_le _, Nat.zero_le _⟩ (fun _ h => h) ?_
      refine k_if_ne (P := ¬ (S 13 (h * 12 + j) = -1)) (tgt := 19) hx hb dX1_nearestAhead_14 (by decide) bI_0 (fun c_2 => ?_) (fun c_2 => ?_)
      · skip
        have c_2 : S 13 (h * 12 + j) = -1 := Classical.not_not.mp c_2
        refine lv_iinc (v := (nI j) + Int32.ofInt (-1)) (lv' := [(3, .int ((nI j) + Int32.ofInt (-1))), (0, .ref (a 2)), (1, .int (nI x)), (2, .int (nI h))]) hx hb dX1_nearestAhead_19 hl (k := 3) rfl rfl (by decide) rfl (fun ls hl => ?_)
        refine lv_goto (tgt := 4) hx hb dX1_nearestAhead_22 (by decide) ?_
        exact ih j ((nI j) + Int32.ofInt (-1)) (by omega) (by first | omega | assumption) (by rw [← hg]; exact (naO_t (g := rowF (S 13) h) c_2).symm)  (by exact k_dec _) ls (lv_sub hl [1, 2, 3, 0] rfl)
      · skip
        refine lv_iload_n hx hb dX1_nearestAhead_17 rfl (lv_at hl 3 rfl) ?_
        exact k_iretS hx hb hr hlocks rfl rfl (by rw [← hg, naO_f (g := rowF (S 13) h) c_2]; rfl) dX1_nearestAhead_18
set_option maxHeartbeats 4000000 in
set_option maxRecDepth 100000 in
theorem c_X1_nearestAhead (l : Launch) (D : va_G) (q : Nat → ClassId) (a : Nat → Nat) (S : Nat → Nat → Int32) (cap nl : Nat) (x h : Nat) (hx12 : x < 12) (hh : h < 200) : Met l yX1_nearestAhead wsX1_nearestAhead ({ frames := 2, cells := 0, slots := 0, locals := 43 } : Room) (va_Pc [.ref (a 2), .int (nI x), .int (nI h)] (kB D q (fun H => va_P D vwCl (wC q a S cap nl) H))) (kSi (oI (naO (rowF (S 13) h) x))) 0 0 (fun _ => False) := by
  refine Met.ofW (cc := cX1_nearestAhead) (maxL := 4) (ret := (some .int)) (by decide) rfl ?_
  intro p e u m args below meth c s₁ B hml0 hv
  obtain ⟨rfl, hP, hK⟩ := hv
  have C0 : kAt p u m #[.ref (a 2), .int (nI x), .int (nI h)] meth c cX1_nearestAhead 4 (some .int) RX1 wsX1_nearestAhead := kAt_of B hml0
  obtain ⟨hx, hb, hr, hml, hown, hts, hlocks⟩ := id C0
  have hl := lv_entry ([.ref (a 2), .int (nI x), .int (nI h)]) (n := 4) (Nat.le_of_ble_eq_true rfl)
  rw [lg_entry_eq]
  generalize (lg_sl ([.ref (a 2), .int (nI x), .int (nI h)]) ++ List.replicate (4 - (lg_sl ([.ref (a 2), .int (nI x), .int (nI h)])).length) Slot.unset).toArray = ls at hl ⊢
  have hl : lv_has ls 4 [(0, .ref (a 2)), (1, .int (nI x)), (2, .int (nI h))] := hl
  refine lv_iload_n hx hb dX1_nearestAhead_0 rfl (lv_at hl 1 rfl) ?_
  refine lv_iconst (v := nI 1) hx hb dX1_nearestAhead_1 (by decide) ?_
  refine lv_isub hx hb dX1_nearestAhead_2 ?_
  refine lv_istore_n (lv' := [(3, .int ((nI x) - (nI 1))), (0, .ref (a 2)), (1, .int (nI x)), (2, .int (nI h))]) hx hb dX1_nearestAhead_3 rfl hl (by decide) rfl (fun ls hl => ?_)
  exact lp_X1_nearestAhead_4 a S cap nl x h hx12 hh C0 hK hP (x + 1) x ((nI x) - (nI 1)) (by omega) (by first | omega | assumption) (by rfl)  (by rfl) ls (lv_sub hl [1, 2, 3, 0] rfl)
set_option maxHeartbeats 4000000 in
set_option maxRecDepth 100000 in
theorem lp_X1_nearestBehind_4 {p : Program} {l : Launch} {e : Env} {u : State} {m : MethodId} {below : List Frame} {meth : Method} {c : Code} {D : va_G} {q : Nat → ClassId} (a : Nat → Nat) (S : Nat → Nat → Int32) (cap nl : Nat) (x h : Nat) (hx12 : x < 12) (hh : h < 200) (C0 : kAt p u m #[.ref (a 2), .int (nI x), .int (nI h)] meth c cX1_nearestBehind 4 (some .int) RX1 wsX1_nearestBehind) (hK : kK D q u) (hP : va_P D vwCl (wC q a S cap nl) u.heap) :
    ∀ (f : Nat) (i : Nat) (x3 : Int32), 12 - i < f → i ≤ 12 → x < i → nbO (rowF (S 13) h) (12 - i) i = nbO (rowF (S 13) h) (11 - x) (x + 1) → x3 = nI i → ∀ (ls : Array Slot), lv_has ls 4 [(0, .ref (a 2)), (1, .int (nI x)), (2, .int (nI h)), (3, .int x3)] → W p l e ({ frames := 2, cells := 0, slots := 0, locals := 43 } : Room) u m #[.ref (a 2), .int (nI x), .int (nI h)] below meth c u.heap [] 0 0 (MQ below (kSi (oI (nbO (rowF (S 13) h) (11 - x) (x + 1)))) #[.ref (a 2), .int (nI x), .int (nI h)] u 0 0 (fun _ => False)) (F0 m 4 ls []) := by
  obtain ⟨hx, hb, hr, hml, hown, hts, hlocks⟩ := id C0
  intro f
  induction f with
  | zero =>
    intro i x3 hf
    exact absurd hf (Nat.not_lt_zero _)
  | succ f ih =>
    intro i x3 hf hi hxi hg e3 ls hl
    replace e3 := e3.symm
    subst e3
    refine lv_iload_n hx hb dX1_nearestBehind_4 rfl (lv_at hl 3 rfl) ?_
    refine lv_bipush (v := nI 12) hx hb dX1_nearestBehind_5 (by decide) ?_
    refine k_icmp_ge (P := i < 12) (tgt := 27) hx hb dX1_nearestBehind_7 (by decide) (nI_ltI (by omega) (by omega)) (fun c_1 => ?_) (fun c_1 => ?_)
    · skip
      refine lv_iconst (v := (-1)) hx hb dX1_nearestBehind_27 (by decide) ?_
      exact k_iretS hx hb hr hlocks rfl rfl (by rw [← hg, show 12 - i = 0 from by omega]; rfl) dX1_nearestBehind_28
    · skip
      refine lv_aload_n hx hb dX1_nearestBehind_10 rfl (lv_at hl 0 rfl) ?_
      refine lv_iload_n hx hb dX1_nearestBehind_11 rfl (lv_at hl 3 rfl) ?_
      refine lv_iload_n hx hb dX1_nearestBehind_12 rfl (lv_at hl 2 rfl) ?_
      refine k_callV (rest := []) (r := bI (S 13 (h * 12 + i) = -1)) ⟨hx, hb, hml, hown, hts⟩ (c_X1_isLost l D q a S cap nl i h (by omega) (by omega)) (cwV 2 hts gX1_nearestBehind_X1_isLost rfl rfl rfl (by decide +kernel) ⟨Nat.le_of_ble_eq_true rfl, Nat.le_of_ble_eq_true rfl⟩) hK hP (va_recv hK.1 hP (ci := 2) (q0 := 2) rfl rfl) rfl hl.1 rfl (Nat.le_of_ble_eq_true rfl) dX1_nearestBehind_13 ⟨Nat.zero_le _, Nat.zero_le _⟩ (fun _ h => h) ?_
      refine k_if_ne (P := ¬ (S 13 (h * 12 + i) = -1)) (tgt := 21) hx hb dX1_nearestBehind_16 (by decide) bI_0 (fun c_2 => ?_) (fun c_2 => ?_)
      · skip
        have c_2 : S 13 (h * 12 + i) = -1 := Classical.not_not.mp c_2
        refine lv_iinc (v := nI (i + 1)) (lv' := [(3, .int (nI (i + 1))), (0, .ref (a 2)), (1, .int (nI x)), (2, .int (nI h))]) hx hb dX1_nearestBehind_21 hl (k := 3) rfl (k_iinc _) (by decide) rfl (fun ls hl => ?_)
        refine lv_goto (tgt := 4) hx hb dX1_nearestBehind_24 (by decide) ?_
        exact ih (i + 1) (nI (i + 1)) (by omega) (by first | omega | assumption) (by first | omega | assumption) (by rw [← hg]; exact (nbO_p (g := rowF (S 13) h) (by omega) c_2).symm)  rfl ls (lv_sub hl [1, 2, 3, 0] rfl)
      · skip
        refine lv_iload_n hx hb dX1_nearestBehind_19 rfl (lv_at hl 3 rfl) ?_
        exact k_iretS hx hb hr hlocks rfl rfl (by rw [← hg, nbO_q (g := rowF (S 13) h) (by omega) c_2]; rfl) dX1_nearestBehind_20
set_option maxHeartbeats 4000000 in
set_option maxRecDepth 100000 in
theorem c_X1_nearestBehind (l : Launch) (D : va_G) (q : Nat → ClassId) (a : Nat → Nat) (S : Nat → Nat → Int32) (cap nl : Nat) (x h : Nat) (hx12 : x < 12) (hh : h < 200) : Met l yX1_nearestBehind wsX1_nearestBehind ({ frames := 2, cells := 0, slots := 0, locals := 43 } : Room) (va_Pc [.ref (a 2), .int (nI x), .int (nI h)] (kB D q (fun H => va_P D vwCl (wC q a S cap nl) H))) (kSi (oI (nbO (rowF (S 13) h) (11 - x) (x + 1)))) 0 0 (fun _ => False) := by
  refine Met.ofW (cc := cX1_nearestBehind) (maxL := 4) (ret := (some .int)) (by decide) rfl ?_
  intro p e u m args below meth c s₁ B hml0 hv
  obtain ⟨rfl, hP, hK⟩ := hv
  have C0 : kAt p u m #[.ref (a 2), .int (nI x), .int (nI h)] meth c cX1_nearestBehind 4 (some .int) RX1 wsX1_nearestBehind := kAt_of B hml0
  obtain ⟨hx, hb, hr, hml, hown, hts, hlocks⟩ := id C0
  have hl := lv_entry ([.ref (a 2), .int (nI x), .int (nI h)]) (n := 4) (Nat.le_of_ble_eq_true rfl)
  rw [lg_entry_eq]
  generalize (lg_sl ([.ref (a 2), .int (nI x), .int (nI h)]) ++ List.replicate (4 - (lg_sl ([.ref (a 2), .int (nI x), .int (nI h)])).length) Slot.unset).toArray = ls at hl ⊢
  have hl : lv_has ls 4 [(0, .ref (a 2)), (1, .int (nI x)), (2, .int (nI h))] := hl
  refine lv_iload_n hx hb dX1_nearestBehind_0 rfl (lv_at hl 1 rfl) ?_
  refine lv_iconst (v := nI 1) hx hb dX1_nearestBehind_1 (by decide) ?_
  refine lv_iadd hx hb dX1_nearestBehind_2 ?_
  refine k_top (y := nI (x + 1)) (nI_add _ _) ?_
  refine lv_istore_n (lv' := [(3, .int (nI (x + 1))), (0, .ref (a 2)), (1, .int (nI x)), (2, .int (nI h))]) hx hb dX1_nearestBehind_3 rfl hl (by decide) rfl (fun ls hl => ?_)
  exact lp_X1_nearestBehind_4 a S cap nl x h hx12 hh C0 hK hP ((12 - (x + 1)) + 1) (x + 1) (nI (x + 1)) (by omega) (by first | omega | assumption) (by first | omega | assumption) (by rw [show 12 - (x + 1) = 11 - x from by omega])  rfl ls (lv_sub hl [1, 2, 3, 0] rfl)
set_option maxHeartbeats 4000000 in
set_option maxRecDepth 100000 in
theorem c_X1_filled (l : Launch) (D : va_G) (q : Nat → ClassId) (x y : Int32)  : Met l yX1_filled wsX1_filled ({ frames := 0, cells := 0, slots := 0, locals := 0 } : Room) (va_Pc [.int (x), .int (y)] (kB D q (fun _ => True))) (kSi (filF x y)) 0 0 (fun _ => False) := by
  refine Met.ofW (cc := cX1_filled) (maxL := 2) (ret := (some .int)) (by decide) rfl ?_
  intro p e u m args below meth c s₁ B hml0 hv
  obtain ⟨rfl, hP, hK⟩ := hv
  have C0 : kAt p u m #[.int (x), .int (y)] meth c cX1_filled 2 (some .int) RX1 wsX1_filled := kAt_of B hml0
  obtain ⟨hx, hb, hr, hml, hown, hts, hlocks⟩ := id C0
  have hl := lv_entry ([.int (x), .int (y)]) (n := 2) (Nat.le_of_ble_eq_true rfl)
  rw [lg_entry_eq]
  generalize (lg_sl ([.int (x), .int (y)]) ++ List.replicate (2 - (lg_sl ([.int (x), .int (y)])).length) Slot.unset).toArray = ls at hl ⊢
  have hl : lv_has ls 2 [(0, .int (x)), (1, .int (y))] := hl
  refine lv_iload_n hx hb dX1_filled_0 rfl (lv_at hl 0 rfl) ?_
  refine lv_iconst (v := (-1)) hx hb dX1_filled_1 (by decide) ?_
  refine k_icmp_ne (P := x = (-1)) (tgt := 12) hx hb dX1_filled_2 (by decide) Iff.rfl (fun c_1 => ?_) (fun c_1 => ?_)
  · skip
    refine lv_iload_n hx hb dX1_filled_12 rfl (lv_at hl 0 rfl) ?_
    refine lv_iconst (v := (-1)) hx hb dX1_filled_13 (by decide) ?_
    refine k_icmp_ne (P := x = (-1)) (tgt := 19) hx hb dX1_filled_14 (by decide) Iff.rfl (fun c_2 => ?_) (fun c_2 => ?_)
    · skip
      refine lv_iload_n hx hb dX1_filled_19 rfl (lv_at hl 1 rfl) ?_
      refine lv_iconst (v := (-1)) hx hb dX1_filled_20 (by decide) ?_
      refine k_icmp_ne (P := y = (-1)) (tgt := 28) hx hb dX1_filled_21 (by decide) Iff.rfl (fun c_3 => ?_) (fun c_3 => ?_)
      · skip
        refine lv_iload_n hx hb dX1_filled_28 rfl (lv_at hl 0 rfl) ?_
        refine lv_iload_n hx hb dX1_filled_29 rfl (lv_at hl 1 rfl) ?_
        refine lv_iadd hx hb dX1_filled_30 ?_
        refine lv_iconst (v := nI 2) hx hb dX1_filled_31 (by decide) ?_
        refine lv_idiv hx hb dX1_filled_32 (by decide) ?_
        exact k_iretS hx hb hr hlocks rfl rfl (by first | (simp only [filF, if_neg c_1, if_neg c_3]; done) | (simp only [filF, if_neg c_1, if_neg c_3]; rfl) | (simp [filF, if_neg c_1, if_neg c_3]; done) | rfl) dX1_filled_33
      · skip
        refine lv_iload_n hx hb dX1_filled_24 rfl (lv_at hl 0 rfl) ?_
        refine lv_goto (tgt := 33) hx hb dX1_filled_25 (by decide) ?_
        exact k_iretS hx hb hr hlocks rfl rfl (by first | (simp only [filF, if_neg c_1, if_pos c_3]; done) | (simp only [filF, if_neg c_1, if_pos c_3]; rfl) | (simp [filF, if_neg c_1, if_pos c_3]; done) | rfl) dX1_filled_33
    · skip
      exact absurd c_2 c_1
  · skip
    refine lv_iload_n hx hb dX1_filled_5 rfl (lv_at hl 1 rfl) ?_
    refine lv_iconst (v := (-1)) hx hb dX1_filled_6 (by decide) ?_
    refine k_icmp_ne (P := y = (-1)) (tgt := 12) hx hb dX1_filled_7 (by decide) Iff.rfl (fun c_4 => ?_) (fun c_4 => ?_)
    · skip
      refine lv_iload_n hx hb dX1_filled_12 rfl (lv_at hl 0 rfl) ?_
      refine lv_iconst (v := (-1)) hx hb dX1_filled_13 (by decide) ?_
      refine k_icmp_ne (P := x = (-1)) (tgt := 19) hx hb dX1_filled_14 (by decide) Iff.rfl (fun c_5 => ?_) (fun c_5 => ?_)
      · skip
        exact absurd c_1 c_5
      · skip
        refine lv_iload_n hx hb dX1_filled_17 rfl (lv_at hl 1 rfl) ?_
        exact k_iretS hx hb hr hlocks rfl rfl (by first | (simp only [filF, if_pos c_1, if_neg c_4]; done) | (simp only [filF, if_pos c_1, if_neg c_4]; rfl) | (simp [filF, if_pos c_1, if_neg c_4]; done) | rfl) dX1_filled_18
    · skip
      refine lv_iconst (v := nI 0) hx hb dX1_filled_10 (by decide) ?_
      exact k_iretS hx hb hr hlocks rfl rfl (by first | (simp only [filF, if_pos c_1, if_pos c_4]; done) | (simp only [filF, if_pos c_1, if_pos c_4]; rfl) | (simp [filF, if_pos c_1, if_pos c_4]; done) | rfl) dX1_filled_11
theorem fl_X1_filledFromKept_22 : Cond.fieldLink RX1 22 "LampCounts$Lamps" "kept" "[I" ∈ wsX1_filledFromKept := by decide +kernel
theorem in_X1_filledFromKept_X1 : ∀ w ∈ u_ws RX1 TX1 8, w ∈ wsX1_filledFromKept := by decide +kernel
theorem ni_X1_filledFromKept_38 : Cond.initialized yX4_cell.cls ∈ wsX1_filledFromKept := by decide +kernel
theorem ns_X1_filledFromKept_38 : Cond.static yX4_cell ∈ wsX1_filledFromKept := by decide +kernel
set_option maxHeartbeats 4000000 in
set_option maxRecDepth 100000 in
theorem c_X1_filledFromKept (l : Launch) (D : va_G) (q : Nat → ClassId) (a : Nat → Nat) (S : Nat → Nat → Int32) (cap nl : Nat) (x h : Nat) (hx12 : x < 12) (hh : h < 200) : Met l yX1_filledFromKept wsX1_filledFromKept ({ frames := 3, cells := 0, slots := 0, locals := 66 } : Room) (va_Pc [.ref (a 2), .int (nI x), .int (nI h)] (kB D q (fun H => va_P D vwCl (wC q a S cap nl) H))) (kSi (gapF S (rowF (S 14) h) h x)) 0 0 (fun _ => False) := by
  refine Met.ofW (cc := cX1_filledFromKept) (maxL := 5) (ret := (some .int)) (by decide) rfl ?_
  intro p e u m args below meth c s₁ B hml0 hv
  obtain ⟨rfl, hP, hK⟩ := hv
  have C0 : kAt p u m #[.ref (a 2), .int (nI x), .int (nI h)] meth c cX1_filledFromKept 5 (some .int) RX1 wsX1_filledFromKept := kAt_of B hml0
  obtain ⟨hx, hb, hr, hml, hown, hts, hlocks⟩ := id C0
  have hl := lv_entry ([.ref (a 2), .int (nI x), .int (nI h)]) (n := 5) (Nat.le_of_ble_eq_true rfl)
  rw [lg_entry_eq]
  generalize (lg_sl ([.ref (a 2), .int (nI x), .int (nI h)]) ++ List.replicate (5 - (lg_sl ([.ref (a 2), .int (nI x), .int (nI h)])).length) Slot.unset).toArray = ls at hl ⊢
  have hl : lv_has ls 5 [(0, .ref (a 2)), (1, .int (nI x)), (2, .int (nI h))] := hl
  refine lv_aload_n hx hb dX1_filledFromKept_0 rfl (lv_at hl 0 rfl) ?_
  refine lv_iload_n hx hb dX1_filledFromKept_1 rfl (lv_at hl 1 rfl) ?_
  refine lv_iload_n hx hb dX1_filledFromKept_2 rfl (lv_at hl 2 rfl) ?_
  refine k_callV (rest := []) (r := oI (naO (rowF (S 13) h) x)) ⟨hx, hb, hml, hown, hts⟩ (c_X1_nearestAhead l D q a S cap nl x h (by omega) (by omega)) (cwV 2 hts gX1_filledFromKept_X1_nearestAhead rfl rfl rfl (by decide +kernel) ⟨Nat.le_of_ble_eq_true rfl, Nat.le_of_ble_eq_true rfl⟩) hK hP (va_recv hK.1 hP (ci := 2) (q0 := 2) rfl rfl) rfl hl.1 rfl (Nat.le_of_ble_eq_true rfl) dX1_filledFromKept_3 ⟨Nat.zero_le _, Nat.zero_le _⟩ (fun _ h => h) ?_
  refine lv_istore_n (lv' := [(3, .int (oI (naO (rowF (S 13) h) x))), (0, .ref (a 2)), (1, .int (nI x)), (2, .int (nI h))]) hx hb dX1_filledFromKept_6 rfl hl (by decide) rfl (fun ls hl => ?_)
  refine lv_aload_n hx hb dX1_filledFromKept_7 rfl (lv_at hl 1 rfl) ?_
  refine lv_iload_n hx hb dX1_filledFromKept_8 rfl (lv_at hl 2 rfl) ?_
  refine lv_iload_n hx hb dX1_filledFromKept_9 rfl (lv_at hl 3 rfl) ?_
  refine k_callV (rest := []) (r := oI (nbO (rowF (S 13) h) (11 - x) (x + 1))) ⟨hx, hb, hml, hown, hts⟩ (c_X1_nearestBehind l D q a S cap nl x h (by omega) (by omega)) (cwV 2 hts gX1_filledFromKept_X1_nearestBehind rfl rfl rfl (by decide +kernel) ⟨Nat.le_of_ble_eq_true rfl, Nat.le_of_ble_eq_true rfl⟩) hK hP (va_recv hK.1 hP (ci := 2) (q0 := 2) rfl rfl) rfl hl.1 rfl (Nat.le_of_ble_eq_true rfl) dX1_filledFromKept_10 ⟨Nat.zero_le _, Nat.zero_le _⟩ (fun _ h => h) ?_
  refine lv_istore (lv' := [(4, .int (oI (nbO (rowF (S 13) h) (11 - x) (x + 1)))), (3, .int (oI (naO (rowF (S 13) h) x))), (0, .ref (a 2)), (1, .int (nI x)), (2, .int (nI h))]) hx hb dX1_filledFromKept_13 hl (by decide) rfl (fun ls hl => ?_)
  rcases ea : naO (rowF (S 13) h) x with _ | ka
  · skip
    rw [ea, oI_n] at hl
    rcases eb : nbO (rowF (S 13) h) (11 - x) (x + 1) with _ | kb
    · skip
      rw [eb, oI_n] at hl
      refine lv_iload_n hx hb dX1_filledFromKept_15 rfl (lv_at hl 1 rfl) ?_
      refine lv_iconst (v := (-1)) hx hb dX1_filledFromKept_16 (by decide) ?_
      refine k_icmp_ne (P := True) (tgt := 24) hx hb dX1_filledFromKept_17 (by decide) ⟨fun _ => trivial, fun _ => rfl⟩ (fun c_1 => ?_) (fun c_1 => ?_)
      · skip
        exact (c_1 trivial).elim
      · skip
        refine lv_iconst (v := (-1)) hx hb dX1_filledFromKept_20 (by decide) ?_
        refine lv_goto (tgt := 34) hx hb dX1_filledFromKept_21 (by decide) ?_
        refine lv_iload hx hb dX1_filledFromKept_34 (lv_at hl 0 rfl) ?_
        refine lv_iconst (v := (-1)) hx hb dX1_filledFromKept_36 (by decide) ?_
        refine k_icmp_ne (P := True) (tgt := 44) hx hb dX1_filledFromKept_37 (by decide) ⟨fun _ => trivial, fun _ => rfl⟩ (fun c_2 => ?_) (fun c_2 => ?_)
        · skip
          exact (c_2 trivial).elim
        · skip
          refine lv_iconst (v := (-1)) hx hb dX1_filledFromKept_40 (by decide) ?_
          refine lv_goto (tgt := 55) hx hb dX1_filledFromKept_41 (by decide) ?_
          refine k_callS (rest := []) (r := filF ((-1)) ((-1))) ⟨hx, hb, hml, hown, hts⟩ (c_X1_filled l D q ((-1)) ((-1))) (va_cwS 2 hts gX1_filledFromKept_X1_filled rfl rfl rfl (by decide +kernel) ⟨Nat.le_of_ble_eq_true rfl, Nat.le_of_ble_eq_true rfl⟩) hK trivial rfl hl.1 rfl (Nat.le_of_ble_eq_true rfl) dX1_filledFromKept_55 ⟨Nat.zero_le _, Nat.zero_le _⟩ (fun _ h => h) ?_
          exact k_iretS hx hb hr hlocks rfl rfl (by unfold gapF; rw [ea, eb]; rfl) dX1_filledFromKept_58
    · skip
      rw [eb, oI_s] at hl
      have hkb := nbO_lt eb
      refine lv_iload_n hx hb dX1_filledFromKept_15 rfl (lv_at hl 1 rfl) ?_
      refine lv_iconst (v := (-1)) hx hb dX1_filledFromKept_16 (by decide) ?_
      refine k_icmp_ne (P := True) (tgt := 24) hx hb dX1_filledFromKept_17 (by decide) ⟨fun _ => trivial, fun _ => rfl⟩ (fun c_3 => ?_) (fun c_3 => ?_)
      · skip
        exact (c_3 trivial).elim
      · skip
        refine lv_iconst (v := (-1)) hx hb dX1_filledFromKept_20 (by decide) ?_
        refine lv_goto (tgt := 34) hx hb dX1_filledFromKept_21 (by decide) ?_
        refine lv_iload hx hb dX1_filledFromKept_34 (lv_at hl 0 rfl) ?_
        refine lv_iconst (v := (-1)) hx hb dX1_filledFromKept_36 (by decide) ?_
        refine k_icmp_ne (P := False) (tgt := 44) hx hb dX1_filledFromKept_37 (by decide) (k_m1 (by omega)) (fun c_4 => ?_) (fun c_4 => ?_)
        · skip
          refine lv_aload_n hx hb dX1_filledFromKept_44 rfl (lv_at hl 2 rfl) ?_
          refine va_get (D := D) (ci := 2) (v := .ref (a 14)) (C := RX1) (T := TX1) (N := 8) hx hb hts in_X1_filledFromKept_X1 hown hK.1 hP 2 rfl rfl 3 (by decide) (hts _ fl_X1_filledFromKept_22) (fun _ h9 => h9) rfl dX1_filledFromKept_45 ?_
          refine lv_iload hx hb dX1_filledFromKept_48 (lv_at hl 0 rfl) ?_
          refine lv_iload_n hx hb dX1_filledFromKept_50 rfl (lv_at hl 4 rfl) ?_
          refine k_callSN (rest := [.ref (a 14), .int ((-1))]) (r := nI (h * 12 + kb)) ⟨hx, hb, hml, hown, hts⟩ (c_X4_cell l D q kb h) ⟨va_cnB 2 hts gX1_filledFromKept_X4_cell_n38 rfl rfl rfl hK.2.2.2.1 (hts _ ni_X1_filledFromKept_38) (by decide +kernel) ⟨Nat.le_of_ble_eq_true rfl, Nat.le_of_ble_eq_true rfl⟩, hts _ ns_X1_filledFromKept_38, trivial⟩ hK trivial rfl hl.1 rfl (Nat.le_of_ble_eq_true rfl) dX1_filledFromKept_51 ⟨Nat.zero_le _, Nat.zero_le _⟩ (fun _ h => h) ?_
          refine k_iald hx hb hK hP 14 rfl (h * 12 + kb) rfl (by omega) (by decide) dX1_filledFromKept_54 ?_
          refine k_callS (rest := []) (r := filF ((-1)) (S 14 (h * 12 + kb))) ⟨hx, hb, hml, hown, hts⟩ (c_X1_filled l D q ((-1)) (S 14 (h * 12 + kb))) (va_cwS 2 hts gX1_filledFromKept_X1_filled rfl rfl rfl (by decide +kernel) ⟨Nat.le_of_ble_eq_true rfl, Nat.le_of_ble_eq_true rfl⟩) hK trivial rfl hl.1 rfl (Nat.le_of_ble_eq_true rfl) dX1_filledFromKept_55 ⟨Nat.zero_le _, Nat.zero_le _⟩ (fun _ h => h) ?_
          exact k_iretS hx hb hr hlocks rfl rfl (by unfold gapF; rw [ea, eb]; rfl) dX1_filledFromKept_58
        · skip
          exact c_4.elim
  · skip
    rw [ea, oI_s] at hl
    have hka := naO_lt ea
    rcases eb : nbO (rowF (S 13) h) (11 - x) (x + 1) with _ | kb
    · skip
      rw [eb, oI_n] at hl
      refine lv_iload_n hx hb dX1_filledFromKept_15 rfl (lv_at hl 1 rfl) ?_
      refine lv_iconst (v := (-1)) hx hb dX1_filledFromKept_16 (by decide) ?_
      refine k_icmp_ne (P := False) (tgt := 24) hx hb dX1_filledFromKept_17 (by decide) (k_m1 (by omega)) (fun c_5 => ?_) (fun c_5 => ?_)
      · skip
        refine lv_aload_n hx hb dX1_filledFromKept_24 rfl (lv_at hl 2 rfl) ?_
        refine va_get (D := D) (ci := 2) (v := .ref (a 14)) (C := RX1) (T := TX1) (N := 8) hx hb hts in_X1_filledFromKept_X1 hown hK.1 hP 2 rfl rfl 3 (by decide) (hts _ fl_X1_filledFromKept_22) (fun _ h9 => h9) rfl dX1_filledFromKept_25 ?_
        refine lv_iload_n hx hb dX1_filledFromKept_28 rfl (lv_at hl 1 rfl) ?_
        refine lv_iload_n hx hb dX1_filledFromKept_29 rfl (lv_at hl 4 rfl) ?_
        refine k_callSN (rest := [.ref (a 14)]) (r := nI (h * 12 + ka)) ⟨hx, hb, hml, hown, hts⟩ (c_X4_cell l D q ka h) ⟨va_cnB 2 hts gX1_filledFromKept_X4_cell_n38 rfl rfl rfl hK.2.2.2.1 (hts _ ni_X1_filledFromKept_38) (by decide +kernel) ⟨Nat.le_of_ble_eq_true rfl, Nat.le_of_ble_eq_true rfl⟩, hts _ ns_X1_filledFromKept_38, trivial⟩ hK trivial rfl hl.1 rfl (Nat.le_of_ble_eq_true rfl) dX1_filledFromKept_30 ⟨Nat.zero_le _, Nat.zero_le _⟩ (fun _ h => h) ?_
        refine k_iald hx hb hK hP 14 rfl (h * 12 + ka) rfl (by omega) (by decide) dX1_filledFromKept_33 ?_
        refine lv_iload hx hb dX1_filledFromKept_34 (lv_at hl 0 rfl) ?_
        refine lv_iconst (v := (-1)) hx hb dX1_filledFromKept_36 (by decide) ?_
        refine k_icmp_ne (P := True) (tgt := 44) hx hb dX1_filledFromKept_37 (by decide) ⟨fun _ => trivial, fun _ => rfl⟩ (fun c_6 => ?_) (fun c_6 => ?_)
        · skip
          exact (c_6 trivial).elim
        · skip
          refine lv_iconst (v := (-1)) hx hb dX1_filledFromKept_40 (by decide) ?_
          refine lv_goto (tgt := 55) hx hb dX1_filledFromKept_41 (by decide) ?_
          refine k_callS (rest := []) (r := filF (S 14 (h * 12 + ka)) ((-1))) ⟨hx, hb, hml, hown, hts⟩ (c_X1_filled l D q (S 14 (h * 12 + ka)) ((-1))) (va_cwS 2 hts gX1_filledFromKept_X1_filled rfl rfl rfl (by decide +kernel) ⟨Nat.le_of_ble_eq_true rfl, Nat.le_of_ble_eq_true rfl⟩) hK trivial rfl hl.1 rfl (Nat.le_of_ble_eq_true rfl) dX1_filledFromKept_55 ⟨Nat.zero_le _, Nat.zero_le _⟩ (fun _ h => h) ?_
          exact k_iretS hx hb hr hlocks rfl rfl (by unfold gapF; rw [ea, eb]; rfl) dX1_filledFromKept_58
      · skip
        exact c_5.elim
    · skip
      rw [eb, oI_s] at hl
      have hkb := nbO_lt eb
      refine lv_iload_n hx hb dX1_filledFromKept_15 rfl (lv_at hl 1 rfl) ?_
      refine lv_iconst (v := (-1)) hx hb dX1_filledFromKept_16 (by decide) ?_
      refine k_icmp_ne (P := False) (tgt := 24) hx hb dX1_filledFromKept_17 (by decide) (k_m1 (by omega)) (fun c_7 => ?_) (fun c_7 => ?_)
      · skip
        refine lv_aload_n hx hb dX1_filledFromKept_24 rfl (lv_at hl 2 rfl) ?_
        refine va_get (D := D) (ci := 2) (v := .ref (a 14)) (C := RX1) (T := TX1) (N := 8) hx hb hts in_X1_filledFromKept_X1 hown hK.1 hP 2 rfl rfl 3 (by decide) (hts _ fl_X1_filledFromKept_22) (fun _ h9 => h9) rfl dX1_filledFromKept_25 ?_
        refine lv_iload_n hx hb dX1_filledFromKept_28 rfl (lv_at hl 1 rfl) ?_
        refine lv_iload_n hx hb dX1_filledFromKept_29 rfl (lv_at hl 4 rfl) ?_
        refine k_callSN (rest := [.ref (a 14)]) (r := nI (h * 12 + ka)) ⟨hx, hb, hml, hown, hts⟩ (c_X4_cell l D q ka h) ⟨va_cnB 2 hts gX1_filledFromKept_X4_cell_n38 rfl rfl rfl hK.2.2.2.1 (hts _ ni_X1_filledFromKept_38) (by decide +kernel) ⟨Nat.le_of_ble_eq_true rfl, Nat.le_of_ble_eq_true rfl⟩, hts _ ns_X1_filledFromKept_38, trivial⟩ hK trivial rfl hl.1 rfl (Nat.le_of_ble_eq_true rfl) dX1_filledFromKept_30 ⟨Nat.zero_le _, Nat.zero_le _⟩ (fun _ h => h) ?_
        refine k_iald hx hb hK hP 14 rfl (h * 12 + ka) rfl (by omega) (by decide) dX1_filledFromKept_33 ?_
        refine lv_iload hx hb dX1_filledFromKept_34 (lv_at hl 0 rfl) ?_
        refine lv_iconst (v := (-1)) hx hb dX1_filledFromKept_36 (by decide) ?_
        refine k_icmp_ne (P := False) (tgt := 44) hx hb dX1_filledFromKept_37 (by decide) (k_m1 (by omega)) (fun c_8 => ?_) (fun c_8 => ?_)
        · skip
          refine lv_aload_n hx hb dX1_filledFromKept_44 rfl (lv_at hl 2 rfl) ?_
          refine va_get (D := D) (ci := 2) (v := .ref (a 14)) (C := RX1) (T := TX1) (N := 8) hx hb hts in_X1_filledFromKept_X1 hown hK.1 hP 2 rfl rfl 3 (by decide) (hts _ fl_X1_filledFromKept_22) (fun _ h9 => h9) rfl dX1_filledFromKept_45 ?_
          refine lv_iload hx hb dX1_filledFromKept_48 (lv_at hl 0 rfl) ?_
          refine lv_iload_n hx hb dX1_filledFromKept_50 rfl (lv_at hl 4 rfl) ?_
          refine k_callSN (rest := [.ref (a 14), .int (S 14 (h * 12 + ka))]) (r := nI (h * 12 + kb)) ⟨hx, hb, hml, hown, hts⟩ (c_X4_cell l D q kb h) ⟨va_cnB 2 hts gX1_filledFromKept_X4_cell_n38 rfl rfl rfl hK.2.2.2.1 (hts _ ni_X1_filledFromKept_38) (by decide +kernel) ⟨Nat.le_of_ble_eq_true rfl, Nat.le_of_ble_eq_true rfl⟩, hts _ ns_X1_filledFromKept_38, trivial⟩ hK trivial rfl hl.1 rfl (Nat.le_of_ble_eq_true rfl) dX1_filledFromKept_51 ⟨Nat.zero_le _, Nat.zero_le _⟩ (fun _ h => h) ?_
          refine k_iald hx hb hK hP 14 rfl (h * 12 + kb) rfl (by omega) (by decide) dX1_filledFromKept_54 ?_
          refine k_callS (rest := []) (r := filF (S 14 (h * 12 + ka)) (S 14 (h * 12 + kb))) ⟨hx, hb, hml, hown, hts⟩ (c_X1_filled l D q (S 14 (h * 12 + ka)) (S 14 (h * 12 + kb))) (va_cwS 2 hts gX1_filledFromKept_X1_filled rfl rfl rfl (by decide +kernel) ⟨Nat.le_of_ble_eq_true rfl, Nat.le_of_ble_eq_true rfl⟩) hK trivial rfl hl.1 rfl (Nat.le_of_ble_eq_true rfl) dX1_filledFromKept_55 ⟨Nat.zero_le _, Nat.zero_le _⟩ (fun _ h => h) ?_
          exact k_iretS hx hb hr hlocks rfl rfl (by unfold gapF; rw [ea, eb]; rfl) dX1_filledFromKept_58
        · skip
          exact c_8.elim
      · skip
        exact c_7.elim
set_option maxHeartbeats 4000000 in
set_option maxRecDepth 100000 in
theorem c_X1_foundAnew (l : Launch) (D : va_G) (q : Nat → ClassId) (a : Nat → Nat) (S : Nat → Nat → Int32) (cap nl : Nat) (x h n : Nat) (hx12 : x < 12) (hh : h < 200) (hn : S 0 1 = nI n) (hn60 : n ≤ 60) : Met l yX1_foundAnew wsX1_foundAnew ({ frames := 3, cells := 0, slots := 0, locals := 66 } : Room) (va_Pc [.ref (a 2), .int (nI x), .int (nI h)] (kB D q (fun H => va_P D vwCl (wC q a S cap nl) H))) (kSi (anewF S n h x)) 0 0 (fun _ => False) := by
  refine Met.ofW (cc := cX1_foundAnew) (maxL := 5) (ret := (some .int)) (by decide) rfl ?_
  intro p e u m args below meth c s₁ B hml0 hv
  obtain ⟨rfl, hP, hK⟩ := hv
  have C0 : kAt p u m #[.ref (a 2), .int (nI x), .int (nI h)] meth c cX1_foundAnew 5 (some .int) RX1 wsX1_foundAnew := kAt_of B hml0
  obtain ⟨hx, hb, hr, hml, hown, hts, hlocks⟩ := id C0
  have hl := lv_entry ([.ref (a 2), .int (nI x), .int (nI h)]) (n := 5) (Nat.le_of_ble_eq_true rfl)
  rw [lg_entry_eq]
  generalize (lg_sl ([.ref (a 2), .int (nI x), .int (nI h)]) ++ List.replicate (5 - (lg_sl ([.ref (a 2), .int (nI x), .int (nI h)])).length) Slot.unset).toArray = ls at hl ⊢
  have hl : lv_has ls 5 [(0, .ref (a 2)), (1, .int (nI x)), (2, .int (nI h))] := hl
  refine lv_aload_n hx hb dX1_foundAnew_0 rfl (lv_at hl 0 rfl) ?_
  refine lv_iload_n hx hb dX1_foundAnew_1 rfl (lv_at hl 1 rfl) ?_
  refine lv_iload_n hx hb dX1_foundAnew_2 rfl (lv_at hl 2 rfl) ?_
  refine k_callV (rest := []) (r := bI (S 13 (h * 12 + x) = -1)) ⟨hx, hb, hml, hown, hts⟩ (c_X1_isLost l D q a S cap nl x h (by omega) (by omega)) (cwV 2 hts gX1_foundAnew_X1_isLost rfl rfl rfl (by decide +kernel) ⟨Nat.le_of_ble_eq_true rfl, Nat.le_of_ble_eq_true rfl⟩) hK hP (va_recv hK.1 hP (ci := 2) (q0 := 2) rfl rfl) rfl hl.1 rfl (Nat.le_of_ble_eq_true rfl) dX1_foundAnew_3 ⟨Nat.zero_le _, Nat.zero_le _⟩ (fun _ h => h) ?_
  refine k_if_ne (P := ¬ (S 13 (h * 12 + x) = -1)) (tgt := 16) hx hb dX1_foundAnew_6 (by decide) bI_0 (fun c_1 => ?_) (fun c_1 => ?_)
  · skip
    have c_1 : S 13 (h * 12 + x) = -1 := Classical.not_not.mp c_1
    refine lv_aload_n hx hb dX1_foundAnew_16 rfl (lv_at hl 0 rfl) ?_
    refine lv_iload_n hx hb dX1_foundAnew_17 rfl (lv_at hl 1 rfl) ?_
    refine lv_iload_n hx hb dX1_foundAnew_18 rfl (lv_at hl 2 rfl) ?_
    refine k_callV (rest := []) (r := oI (naO (rowF (S 13) h) x)) ⟨hx, hb, hml, hown, hts⟩ (c_X1_nearestAhead l D q a S cap nl x h (by omega) (by omega)) (cwV 2 hts gX1_foundAnew_X1_nearestAhead rfl rfl rfl (by decide +kernel) ⟨Nat.le_of_ble_eq_true rfl, Nat.le_of_ble_eq_true rfl⟩) hK hP (va_recv hK.1 hP (ci := 2) (q0 := 2) rfl rfl) rfl hl.1 rfl (Nat.le_of_ble_eq_true rfl) dX1_foundAnew_19 ⟨Nat.zero_le _, Nat.zero_le _⟩ (fun _ h => h) ?_
    refine lv_istore_n (lv' := [(3, .int (oI (naO (rowF (S 13) h) x))), (0, .ref (a 2)), (1, .int (nI x)), (2, .int (nI h))]) hx hb dX1_foundAnew_22 rfl hl (by decide) rfl (fun ls hl => ?_)
    refine lv_aload_n hx hb dX1_foundAnew_23 rfl (lv_at hl 1 rfl) ?_
    refine lv_iload_n hx hb dX1_foundAnew_24 rfl (lv_at hl 2 rfl) ?_
    refine lv_iload_n hx hb dX1_foundAnew_25 rfl (lv_at hl 3 rfl) ?_
    refine k_callV (rest := []) (r := oI (nbO (rowF (S 13) h) (11 - x) (x + 1))) ⟨hx, hb, hml, hown, hts⟩ (c_X1_nearestBehind l D q a S cap nl x h (by omega) (by omega)) (cwV 2 hts gX1_foundAnew_X1_nearestBehind rfl rfl rfl (by decide +kernel) ⟨Nat.le_of_ble_eq_true rfl, Nat.le_of_ble_eq_true rfl⟩) hK hP (va_recv hK.1 hP (ci := 2) (q0 := 2) rfl rfl) rfl hl.1 rfl (Nat.le_of_ble_eq_true rfl) dX1_foundAnew_26 ⟨Nat.zero_le _, Nat.zero_le _⟩ (fun _ h => h) ?_
    refine lv_istore (lv' := [(4, .int (oI (nbO (rowF (S 13) h) (11 - x) (x + 1)))), (3, .int (oI (naO (rowF (S 13) h) x))), (0, .ref (a 2)), (1, .int (nI x)), (2, .int (nI h))]) hx hb dX1_foundAnew_29 hl (by decide) rfl (fun ls hl => ?_)
    rcases ea : naO (rowF (S 13) h) x with _ | ka
    · skip
      rw [ea, oI_n] at hl
      rcases eb : nbO (rowF (S 13) h) (11 - x) (x + 1) with _ | kb
      · skip
        rw [eb, oI_n] at hl
        refine lv_iload_n hx hb dX1_foundAnew_31 rfl (lv_at hl 1 rfl) ?_
        refine lv_iconst (v := (-1)) hx hb dX1_foundAnew_32 (by decide) ?_
        refine k_icmp_ne (P := True) (tgt := 40) hx hb dX1_foundAnew_33 (by decide) ⟨fun _ => trivial, fun _ => rfl⟩ (fun c_2 => ?_) (fun c_2 => ?_)
        · skip
          exact (c_2 trivial).elim
        · skip
          refine lv_iconst (v := (-1)) hx hb dX1_foundAnew_36 (by decide) ?_
          refine lv_goto (tgt := 46) hx hb dX1_foundAnew_37 (by decide) ?_
          refine lv_iload hx hb dX1_foundAnew_46 (lv_at hl 0 rfl) ?_
          refine lv_iconst (v := (-1)) hx hb dX1_foundAnew_48 (by decide) ?_
          refine k_icmp_ne (P := True) (tgt := 56) hx hb dX1_foundAnew_49 (by decide) ⟨fun _ => trivial, fun _ => rfl⟩ (fun c_3 => ?_) (fun c_3 => ?_)
          · skip
            exact (c_3 trivial).elim
          · skip
            refine lv_iconst (v := (-1)) hx hb dX1_foundAnew_52 (by decide) ?_
            refine lv_goto (tgt := 63) hx hb dX1_foundAnew_53 (by decide) ?_
            refine k_callS (rest := []) (r := filF ((-1)) ((-1))) ⟨hx, hb, hml, hown, hts⟩ (c_X1_filled l D q ((-1)) ((-1))) (va_cwS 2 hts gX1_foundAnew_X1_filled rfl rfl rfl (by decide +kernel) ⟨Nat.le_of_ble_eq_true rfl, Nat.le_of_ble_eq_true rfl⟩) hK trivial rfl hl.1 rfl (Nat.le_of_ble_eq_true rfl) dX1_foundAnew_63 ⟨Nat.zero_le _, Nat.zero_le _⟩ (fun _ h => h) ?_
            exact k_iretS hx hb hr hlocks rfl rfl (by unfold anewF gapF; rw [if_pos c_1, ea, eb]; rfl) dX1_foundAnew_66
      · skip
        rw [eb, oI_s] at hl
        have hkb := nbO_lt eb
        refine lv_iload_n hx hb dX1_foundAnew_31 rfl (lv_at hl 1 rfl) ?_
        refine lv_iconst (v := (-1)) hx hb dX1_foundAnew_32 (by decide) ?_
        refine k_icmp_ne (P := True) (tgt := 40) hx hb dX1_foundAnew_33 (by decide) ⟨fun _ => trivial, fun _ => rfl⟩ (fun c_4 => ?_) (fun c_4 => ?_)
        · skip
          exact (c_4 trivial).elim
        · skip
          refine lv_iconst (v := (-1)) hx hb dX1_foundAnew_36 (by decide) ?_
          refine lv_goto (tgt := 46) hx hb dX1_foundAnew_37 (by decide) ?_
          refine lv_iload hx hb dX1_foundAnew_46 (lv_at hl 0 rfl) ?_
          refine lv_iconst (v := (-1)) hx hb dX1_foundAnew_48 (by decide) ?_
          refine k_icmp_ne (P := False) (tgt := 56) hx hb dX1_foundAnew_49 (by decide) (k_m1 (by omega)) (fun c_5 => ?_) (fun c_5 => ?_)
          · skip
            refine lv_aload_n hx hb dX1_foundAnew_56 rfl (lv_at hl 2 rfl) ?_
            refine lv_iload hx hb dX1_foundAnew_57 (lv_at hl 0 rfl) ?_
            refine lv_iload_n hx hb dX1_foundAnew_59 rfl (lv_at hl 4 rfl) ?_
            refine k_callV (rest := [.int ((-1))]) (r := cntR S n h kb) ⟨hx, hb, hml, hown, hts⟩ (c_X1_countOfReading l D q a S cap nl kb h n (by omega) (by omega) hn hn60) (cwV 2 hts gX1_foundAnew_X1_countOfReading rfl rfl rfl (by decide +kernel) ⟨Nat.le_of_ble_eq_true rfl, Nat.le_of_ble_eq_true rfl⟩) hK hP (va_recv hK.1 hP (ci := 2) (q0 := 2) rfl rfl) rfl hl.1 rfl (Nat.le_of_ble_eq_true rfl) dX1_foundAnew_60 ⟨Nat.zero_le _, Nat.zero_le _⟩ (fun _ h => h) ?_
            refine k_callS (rest := []) (r := filF ((-1)) (cntR S n h kb)) ⟨hx, hb, hml, hown, hts⟩ (c_X1_filled l D q ((-1)) (cntR S n h kb)) (va_cwS 2 hts gX1_foundAnew_X1_filled rfl rfl rfl (by decide +kernel) ⟨Nat.le_of_ble_eq_true rfl, Nat.le_of_ble_eq_true rfl⟩) hK trivial rfl hl.1 rfl (Nat.le_of_ble_eq_true rfl) dX1_foundAnew_63 ⟨Nat.zero_le _, Nat.zero_le _⟩ (fun _ h => h) ?_
            exact k_iretS hx hb hr hlocks rfl rfl (by unfold anewF gapF; rw [if_pos c_1, ea, eb]; rfl) dX1_foundAnew_66
          · skip
            exact c_5.elim
    · skip
      rw [ea, oI_s] at hl
      have hka := naO_lt ea
      rcases eb : nbO (rowF (S 13) h) (11 - x) (x + 1) with _ | kb
      · skip
        rw [eb, oI_n] at hl
        refine lv_iload_n hx hb dX1_foundAnew_31 rfl (lv_at hl 1 rfl) ?_
        refine lv_iconst (v := (-1)) hx hb dX1_foundAnew_32 (by decide) ?_
        refine k_icmp_ne (P := False) (tgt := 40) hx hb dX1_foundAnew_33 (by decide) (k_m1 (by omega)) (fun c_6 => ?_) (fun c_6 => ?_)
        · skip
          refine lv_aload_n hx hb dX1_foundAnew_40 rfl (lv_at hl 2 rfl) ?_
          refine lv_iload_n hx hb dX1_foundAnew_41 rfl (lv_at hl 1 rfl) ?_
          refine lv_iload_n hx hb dX1_foundAnew_42 rfl (lv_at hl 4 rfl) ?_
          refine k_callV (rest := []) (r := cntR S n h ka) ⟨hx, hb, hml, hown, hts⟩ (c_X1_countOfReading l D q a S cap nl ka h n (by omega) (by omega) hn hn60) (cwV 2 hts gX1_foundAnew_X1_countOfReading rfl rfl rfl (by decide +kernel) ⟨Nat.le_of_ble_eq_true rfl, Nat.le_of_ble_eq_true rfl⟩) hK hP (va_recv hK.1 hP (ci := 2) (q0 := 2) rfl rfl) rfl hl.1 rfl (Nat.le_of_ble_eq_true rfl) dX1_foundAnew_43 ⟨Nat.zero_le _, Nat.zero_le _⟩ (fun _ h => h) ?_
          refine lv_iload hx hb dX1_foundAnew_46 (lv_at hl 0 rfl) ?_
          refine lv_iconst (v := (-1)) hx hb dX1_foundAnew_48 (by decide) ?_
          refine k_icmp_ne (P := True) (tgt := 56) hx hb dX1_foundAnew_49 (by decide) ⟨fun _ => trivial, fun _ => rfl⟩ (fun c_7 => ?_) (fun c_7 => ?_)
          · skip
            exact (c_7 trivial).elim
          · skip
            refine lv_iconst (v := (-1)) hx hb dX1_foundAnew_52 (by decide) ?_
            refine lv_goto (tgt := 63) hx hb dX1_foundAnew_53 (by decide) ?_
            refine k_callS (rest := []) (r := filF (cntR S n h ka) ((-1))) ⟨hx, hb, hml, hown, hts⟩ (c_X1_filled l D q (cntR S n h ka) ((-1))) (va_cwS 2 hts gX1_foundAnew_X1_filled rfl rfl rfl (by decide +kernel) ⟨Nat.le_of_ble_eq_true rfl, Nat.le_of_ble_eq_true rfl⟩) hK trivial rfl hl.1 rfl (Nat.le_of_ble_eq_true rfl) dX1_foundAnew_63 ⟨Nat.zero_le _, Nat.zero_le _⟩ (fun _ h => h) ?_
            exact k_iretS hx hb hr hlocks rfl rfl (by unfold anewF gapF; rw [if_pos c_1, ea, eb]; rfl) dX1_foundAnew_66
        · skip
          exact c_6.elim
      · skip
        rw [eb, oI_s] at hl
        have hkb := nbO_lt eb
        refine lv_iload_n hx hb dX1_foundAnew_31 rfl (lv_at hl 1 rfl) ?_
        refine lv_iconst (v := (-1)) hx hb dX1_foundAnew_32 (by decide) ?_
        refine k_icmp_ne (P := False) (tgt := 40) hx hb dX1_foundAnew_33 (by decide) (k_m1 (by omega)) (fun c_8 => ?_) (fun c_8 => ?_)
        · skip
          refine lv_aload_n hx hb dX1_foundAnew_40 rfl (lv_at hl 2 rfl) ?_
          refine lv_iload_n hx hb dX1_foundAnew_41 rfl (lv_at hl 1 rfl) ?_
          refine lv_iload_n hx hb dX1_foundAnew_42 rfl (lv_at hl 4 rfl) ?_
          refine k_callV (rest := []) (r := cntR S n h ka) ⟨hx, hb, hml, hown, hts⟩ (c_X1_countOfReading l D q a S cap nl ka h n (by omega) (by omega) hn hn60) (cwV 2 hts gX1_foundAnew_X1_countOfReading rfl rfl rfl (by decide +kernel) ⟨Nat.le_of_ble_eq_true rfl, Nat.le_of_ble_eq_true rfl⟩) hK hP (va_recv hK.1 hP (ci := 2) (q0 := 2) rfl rfl) rfl hl.1 rfl (Nat.le_of_ble_eq_true rfl) dX1_foundAnew_43 ⟨Nat.zero_le _, Nat.zero_le _⟩ (fun _ h => h) ?_
          refine lv_iload hx hb dX1_foundAnew_46 (lv_at hl 0 rfl) ?_
          refine lv_iconst (v := (-1)) hx hb dX1_foundAnew_48 (by decide) ?_
          refine k_icmp_ne (P := False) (tgt := 56) hx hb dX1_foundAnew_49 (by decide) (k_m1 (by omega)) (fun c_9 => ?_) (fun c_9 => ?_)
          · skip
            refine lv_aload_n hx hb dX1_foundAnew_56 rfl (lv_at hl 2 rfl) ?_
            refine lv_iload hx hb dX1_foundAnew_57 (lv_at hl 0 rfl) ?_
            refine lv_iload_n hx hb dX1_foundAnew_59 rfl (lv_at hl 4 rfl) ?_
            refine k_callV (rest := [.int (cntR S n h ka)]) (r := cntR S n h kb) ⟨hx, hb, hml, hown, hts⟩ (c_X1_countOfReading l D q a S cap nl kb h n (by omega) (by omega) hn hn60) (cwV 2 hts gX1_foundAnew_X1_countOfReading rfl rfl rfl (by decide +kernel) ⟨Nat.le_of_ble_eq_true rfl, Nat.le_of_ble_eq_true rfl⟩) hK hP (va_recv hK.1 hP (ci := 2) (q0 := 2) rfl rfl) rfl hl.1 rfl (Nat.le_of_ble_eq_true rfl) dX1_foundAnew_60 ⟨Nat.zero_le _, Nat.zero_le _⟩ (fun _ h => h) ?_
            refine k_callS (rest := []) (r := filF (cntR S n h ka) (cntR S n h kb)) ⟨hx, hb, hml, hown, hts⟩ (c_X1_filled l D q (cntR S n h ka) (cntR S n h kb)) (va_cwS 2 hts gX1_foundAnew_X1_filled rfl rfl rfl (by decide +kernel) ⟨Nat.le_of_ble_eq_true rfl, Nat.le_of_ble_eq_true rfl⟩) hK trivial rfl hl.1 rfl (Nat.le_of_ble_eq_true rfl) dX1_foundAnew_63 ⟨Nat.zero_le _, Nat.zero_le _⟩ (fun _ h => h) ?_
            exact k_iretS hx hb hr hlocks rfl rfl (by unfold anewF gapF; rw [if_pos c_1, ea, eb]; rfl) dX1_foundAnew_66
          · skip
            exact c_9.elim
        · skip
          exact c_8.elim
  · skip
    refine lv_aload_n hx hb dX1_foundAnew_9 rfl (lv_at hl 0 rfl) ?_
    refine lv_iload_n hx hb dX1_foundAnew_10 rfl (lv_at hl 1 rfl) ?_
    refine lv_iload_n hx hb dX1_foundAnew_11 rfl (lv_at hl 2 rfl) ?_
    refine k_callV (rest := []) (r := cntR S n h x) ⟨hx, hb, hml, hown, hts⟩ (c_X1_countOfReading l D q a S cap nl x h n (by omega) (by omega) hn hn60) (cwV 2 hts gX1_foundAnew_X1_countOfReading rfl rfl rfl (by decide +kernel) ⟨Nat.le_of_ble_eq_true rfl, Nat.le_of_ble_eq_true rfl⟩) hK hP (va_recv hK.1 hP (ci := 2) (q0 := 2) rfl rfl) rfl hl.1 rfl (Nat.le_of_ble_eq_true rfl) dX1_foundAnew_12 ⟨Nat.zero_le _, Nat.zero_le _⟩ (fun _ h => h) ?_
    exact k_iretS hx hb hr hlocks rfl rfl (by unfold anewF; rw [if_neg c_1]) dX1_foundAnew_15
theorem fl_X1_noteFinding_25 : Cond.fieldLink RX1 25 "LampCounts$Lamps" "foundSection" "[I" ∈ wsX1_noteFinding := by decide +kernel
theorem fl_X1_noteFinding_28 : Cond.fieldLink RX1 28 "LampCounts$Lamps" "foundHour" "[I" ∈ wsX1_noteFinding := by decide +kernel
theorem fl_X1_noteFinding_31 : Cond.fieldLink RX1 31 "LampCounts$Lamps" "foundBlind" "[I" ∈ wsX1_noteFinding := by decide +kernel
theorem fl_X1_noteFinding_34 : Cond.fieldLink RX1 34 "LampCounts$Lamps" "findings" "I" ∈ wsX1_noteFinding := by decide +kernel
theorem in_X1_noteFinding_X1 : ∀ w ∈ u_ws RX1 TX1 8, w ∈ wsX1_noteFinding := by decide +kernel
set_option maxHeartbeats 4000000 in
set_option maxRecDepth 100000 in
theorem c_X1_noteFinding (l : Launch) (D : va_G) (q : Nat → ClassId) (A : Nat → Prop) (a : Nat → Nat) (S : Nat → Nat → Int32) (cap nl : Nat) (n : Nat) (x h b : Int32) (hn : S 0 1 = nI n) (hn60 : n < 60) : Met l yX1_noteFinding wsX1_noteFinding ({ frames := 0, cells := 0, slots := 0, locals := 0 } : Room) (va_Pc [.ref (a 2), .int (x), .int (h), .int (b)] (kB D q (fun H => kW D A (wC q a S cap nl) H))) (kRv D A (wC q a (noteF S n x h b) cap nl)) 0 0 A := by
  refine Met.ofW (cc := cX1_noteFinding) (maxL := 4) (ret := none) (by decide) rfl ?_
  intro p e u m args below meth c s₁ B hml0 hv
  obtain ⟨rfl, hP, hK⟩ := hv
  have C0 : kAt p u m #[.ref (a 2), .int (x), .int (h), .int (b)] meth c cX1_noteFinding 4 none RX1 wsX1_noteFinding := kAt_of B hml0
  obtain ⟨hx, hb, hr, hml, hown, hts, hlocks⟩ := id C0
  have hS : va_S A u.heap u.heap [] := va_S.rf
  have hl := lv_entry ([.ref (a 2), .int (x), .int (h), .int (b)]) (n := 4) (Nat.le_of_ble_eq_true rfl)
  rw [lg_entry_eq]
  generalize (lg_sl ([.ref (a 2), .int (x), .int (h), .int (b)]) ++ List.replicate (4 - (lg_sl ([.ref (a 2), .int (x), .int (h), .int (b)])).length) Slot.unset).toArray = ls at hl ⊢
  have hl : lv_has ls 4 [(0, .ref (a 2)), (1, .int (x)), (2, .int (h)), (3, .int (b))] := hl
  refine lv_aload_n hx hb dX1_noteFinding_0 rfl (lv_at hl 0 rfl) ?_
  refine va_get (D := D) (ci := 2) (v := .ref (a 15)) (C := RX1) (T := TX1) (N := 8) hx hb hts in_X1_noteFinding_X1 hown hK.1 hP.1 2 rfl rfl 4 (by decide) (hts _ fl_X1_noteFinding_25) (fun _ h9 => h9) rfl dX1_noteFinding_1 ?_
  refine lv_aload_n hx hb dX1_noteFinding_4 rfl (lv_at hl 0 rfl) ?_
  refine va_get (D := D) (ci := 2) (v := .int (S 0 1)) (C := RX1) (T := TX1) (N := 8) hx hb hts in_X1_noteFinding_X1 hown hK.1 hP.1 2 rfl rfl 7 (by decide) (hts _ fl_X1_noteFinding_34) (fun _ h9 => h9) rfl dX1_noteFinding_5 ?_
  refine k_top (y := nI n) hn ?_
  refine lv_iload_n hx hb dX1_noteFinding_8 rfl (lv_at hl 1 rfl) ?_
  refine k_iast (wC q a ((up S 15 n x)) cap nl) hx hb hK hP hS 15 rfl n rfl (by omega) (by decide) wC_s15 dX1_noteFinding_9 (fun H locs hP hS => ?_)
  refine lv_aload_n hx hb dX1_noteFinding_10 rfl (lv_at hl 0 rfl) ?_
  refine va_get (D := D) (ci := 2) (v := .ref (a 16)) (C := RX1) (T := TX1) (N := 8) hx hb hts in_X1_noteFinding_X1 hown hK.1 hP.1 2 rfl rfl 5 (by decide) (hts _ fl_X1_noteFinding_28) (fun _ h9 => h9) rfl dX1_noteFinding_11 ?_
  refine lv_aload_n hx hb dX1_noteFinding_14 rfl (lv_at hl 0 rfl) ?_
  refine va_get (D := D) (ci := 2) (v := .int (((up S 15 n x)) 0 1)) (C := RX1) (T := TX1) (N := 8) hx hb hts in_X1_noteFinding_X1 hown hK.1 hP.1 2 rfl rfl 7 (by decide) (hts _ fl_X1_noteFinding_34) (fun _ h9 => h9) rfl dX1_noteFinding_15 ?_
  refine k_top (y := S 0 1) (congrFun (up_n (by decide)) _) ?_
  refine k_top (y := nI n) hn ?_
  refine lv_iload_n hx hb dX1_noteFinding_18 rfl (lv_at hl 2 rfl) ?_
  refine k_iast (wC q a ((up (up S 15 n x) 16 n h)) cap nl) hx hb hK hP hS 16 rfl n rfl (by omega) (by decide) wC_s16 dX1_noteFinding_19 (fun H locs hP hS => ?_)
  refine lv_aload_n hx hb dX1_noteFinding_20 rfl (lv_at hl 0 rfl) ?_
  refine va_get (D := D) (ci := 2) (v := .ref (a 17)) (C := RX1) (T := TX1) (N := 8) hx hb hts in_X1_noteFinding_X1 hown hK.1 hP.1 2 rfl rfl 6 (by decide) (hts _ fl_X1_noteFinding_31) (fun _ h9 => h9) rfl dX1_noteFinding_21 ?_
  refine lv_aload_n hx hb dX1_noteFinding_24 rfl (lv_at hl 0 rfl) ?_
  refine va_get (D := D) (ci := 2) (v := .int (((up (up S 15 n x) 16 n h)) 0 1)) (C := RX1) (T := TX1) (N := 8) hx hb hts in_X1_noteFinding_X1 hown hK.1 hP.1 2 rfl rfl 7 (by decide) (hts _ fl_X1_noteFinding_34) (fun _ h9 => h9) rfl dX1_noteFinding_25 ?_
  refine k_top (y := S 0 1) ((congrFun (up_n (by decide)) _).trans (congrFun (up_n (by decide)) _)) ?_
  refine k_top (y := nI n) hn ?_
  refine lv_iload_n hx hb dX1_noteFinding_28 rfl (lv_at hl 3 rfl) ?_
  refine k_iast (wC q a ((up (up (up S 15 n x) 16 n h) 17 n b)) cap nl) hx hb hK hP hS 17 rfl n rfl (by omega) (by decide) wC_s17 dX1_noteFinding_29 (fun H locs hP hS => ?_)
  refine lv_aload_n hx hb dX1_noteFinding_30 rfl (lv_at hl 0 rfl) ?_
  refine lv_dup hx hb dX1_noteFinding_31 rfl ?_
  refine va_get (D := D) (ci := 2) (v := .int (((up (up (up S 15 n x) 16 n h) 17 n b)) 0 1)) (C := RX1) (T := TX1) (N := 8) hx hb hts in_X1_noteFinding_X1 hown hK.1 hP.1 2 rfl rfl 7 (by decide) (hts _ fl_X1_noteFinding_34) (fun _ h9 => h9) rfl dX1_noteFinding_32 ?_
  refine k_top (y := S 0 1) ((congrFun (up_n (by decide)) _).trans ((congrFun (up_n (by decide)) _).trans (congrFun (up_n (by decide)) _))) ?_
  refine k_top (y := nI n) hn ?_
  refine lv_iconst (v := nI 1) hx hb dX1_noteFinding_35 (by decide) ?_
  refine lv_iadd hx hb dX1_noteFinding_36 ?_
  refine k_top (y := nI (n + 1)) (nI_add _ _) ?_
  refine k_puti (wC q a ((up (up (up (up S 15 n x) 16 n h) 17 n b) 0 1 (nI (n + 1)))) cap nl) hx hb hts in_X1_noteFinding_X1 tyX1 tyX1_ok nmX1 hown hK hP hS 2 rfl rfl 7 (by decide) (hts _ fl_X1_noteFinding_34) (fun _ h9 => h9) rfl (by decide +kernel) (Nat.le_of_ble_eq_true rfl) wC_f2_7 dX1_noteFinding_37 (fun H locs hP hS => ?_)
  have eM : (up (up (up (up S 15 n x) 16 n h) 17 n b) 0 1 (nI (n + 1))) = noteF S n x h b := by first | (simp only [noteF]; done) | (simp only [noteF]; rfl) | (simp [noteF]; done) | rfl
  rw [eM] at hP
  exact k_vretW hx hb hr hlocks hP hS dX1_noteFinding_40
theorem fl_X1_read_9 : Cond.fieldLink RX1 9 "LampCounts$Lamps" "broken" "[Z" ∈ wsX1_read := by decide +kernel
theorem fl_X1_read_15 : Cond.fieldLink RX1 15 "LampCounts$Lamps" "blindSpots" "[I" ∈ wsX1_read := by decide +kernel
theorem fl_X1_read_19 : Cond.fieldLink RX1 19 "LampCounts$Lamps" "readings" "[I" ∈ wsX1_read := by decide +kernel
theorem fl_X1_read_22 : Cond.fieldLink RX1 22 "LampCounts$Lamps" "kept" "[I" ∈ wsX1_read := by decide +kernel
theorem fl_X1_read_42 : Cond.fieldLink RX1 42 "LampCounts$Street" "walked" "[I" ∈ wsX1_read := by decide +kernel
theorem in_X1_read_X1 : ∀ w ∈ u_ws RX1 TX1 8, w ∈ wsX1_read := by decide +kernel
theorem in_X1_read_X3 : ∀ w ∈ u_ws RX3 TX3 5, w ∈ wsX1_read := by decide +kernel
theorem ni_X1_read_38 : Cond.initialized yX4_cell.cls ∈ wsX1_read := by decide +kernel
theorem ns_X1_read_38 : Cond.static yX4_cell ∈ wsX1_read := by decide +kernel
set_option maxHeartbeats 4000000 in
set_option maxRecDepth 100000 in
theorem lp_X1_read_106 {p : Program} {l : Launch} {e : Env} {u : State} {m : MethodId} {below : List Frame} {meth : Method} {c : Code} {D : va_G} {q : Nat → ClassId} {A : Nat → Prop} (a : Nat → Nat) (S : Nat → Nat → Int32) (cap nl : Nat) (h n : Nat) (hh : h < 200) (hn : S 0 1 = nI n) (hn60 : n ≤ 60) (C0 : kAt p u m #[.ref (a 2), .int (nI h), .ref (a 1)] meth c cX1_read 6 none RX1 wsX1_read) (hK : kK D q u) :
    ∀ (f : Nat) (i : Nat) (T : Nat → Nat → Int32) (x3 : Int32), 12 - i < f → i ≤ 12 → T = gpF (kpF (rdF S h 12) n h 12) h i → x3 = nI i → ∀ (H : Heap) (locs : List Loc), kW D A (wC q a T cap nl) H → va_S A u.heap H locs → ∀ (ls : Array Slot), lv_has ls 6 [(0, .ref (a 2)), (1, .int (nI h)), (2, .ref (a 1)), (3, .int x3)] → W p l e ({ frames := 4, cells := 0, slots := 0, locals := 90 } : Room) u m #[.ref (a 2), .int (nI h), .ref (a 1)] below meth c H locs 0 0 (MQ below (kRv D A (wC q a (readF S n h) cap nl)) #[.ref (a 2), .int (nI h), .ref (a 1)] u 0 0 A) (F0 m 106 ls []) := by
  obtain ⟨hx, hb, hr, hml, hown, hts, hlocks⟩ := id C0
  intro f
  induction f with
  | zero =>
    intro i T x3 hf
    exact absurd hf (Nat.not_lt_zero _)
  | succ f ih =>
    intro i T x3 hf hi eT e3 H locs hP hS ls hl
    replace eT := eT.symm
    subst eT
    replace e3 := e3.symm
    subst e3
    refine lv_iload_n hx hb dX1_read_106 rfl (lv_at hl 3 rfl) ?_
    refine lv_bipush (v := nI 12) hx hb dX1_read_107 (by decide) ?_
    refine k_icmp_ge (P := i < 12) (tgt := 143) hx hb dX1_read_109 (by decide) (nI_ltI (by omega) (by omega)) (fun c_1 => ?_) (fun c_1 => ?_)
    · skip
      have eM : gpF (kpF (rdF S h 12) n h 12) h i = readF S n h := by rw [show i = 12 from by omega]; rfl
      rw [eM] at hP
      exact k_vretW hx hb hr hlocks hP hS dX1_read_143
    · skip
      refine lv_aload_n hx hb dX1_read_112 rfl (lv_at hl 0 rfl) ?_
      refine lv_iload_n hx hb dX1_read_113 rfl (lv_at hl 3 rfl) ?_
      refine lv_iload_n hx hb dX1_read_114 rfl (lv_at hl 1 rfl) ?_
      refine k_callV (rest := []) (r := bI ((gpF (kpF (rdF S h 12) n h 12) h i) 13 (h * 12 + i) = -1)) ⟨hx, hb, hml, hown, hts⟩ (c_X1_isLost l D q a (gpF (kpF (rdF S h 12) n h 12) h i) cap nl i h (by omega) (by omega)) (cwV 2 hts gX1_read_X1_isLost rfl rfl rfl (by decide +kernel) ⟨Nat.le_of_ble_eq_true rfl, Nat.le_of_ble_eq_true rfl⟩) hK hP.1 (va_recv hK.1 hP.1 (ci := 2) (q0 := 2) rfl rfl) rfl hl.1 rfl (Nat.le_of_ble_eq_true rfl) dX1_read_115 ⟨Nat.zero_le _, Nat.zero_le _⟩ (fun _ h => h) ?_
      refine k_if_eq (P := ¬ ((gpF (kpF (rdF S h 12) n h 12) h i) 13 (h * 12 + i) = -1)) (tgt := 137) hx hb dX1_read_118 (by decide) bI_0 (fun c_2 => ?_) (fun c_2 => ?_)
      · skip
        refine lv_iinc (v := nI (i + 1)) (lv' := [(3, .int (nI (i + 1))), (0, .ref (a 2)), (1, .int (nI h)), (2, .ref (a 1))]) hx hb dX1_read_137 hl (k := 3) rfl (k_iinc _) (by decide) rfl (fun ls hl => ?_)
        refine lv_goto (tgt := 106) hx hb dX1_read_140 (by decide) ?_
        exact ih (i + 1) (gpF (kpF (rdF S h 12) n h 12) h i) (nI (i + 1)) (by omega) (by first | omega | assumption) (by rw [gpF_s, if_neg c_2]) rfl _ _ hP hS ls (lv_sub hl [1, 2, 3, 0] rfl)
      · skip
        have c_2 : (gpF (kpF (rdF S h 12) n h 12) h i) 13 (h * 12 + i) = -1 := Classical.not_not.mp c_2
        refine lv_aload_n hx hb dX1_read_121 rfl (lv_at hl 0 rfl) ?_
        refine va_get (D := D) (ci := 2) (v := .ref (a 14)) (C := RX1) (T := TX1) (N := 8) hx hb hts in_X1_read_X1 hown hK.1 hP.1 2 rfl rfl 3 (by decide) (hts _ fl_X1_read_22) (fun _ h9 => h9) rfl dX1_read_122 ?_
        refine lv_iload_n hx hb dX1_read_125 rfl (lv_at hl 3 rfl) ?_
        refine lv_iload_n hx hb dX1_read_126 rfl (lv_at hl 1 rfl) ?_
        refine k_callSN (rest := [.ref (a 14)]) (r := nI (h * 12 + i)) ⟨hx, hb, hml, hown, hts⟩ (c_X4_cell l D q i h) ⟨va_cnB 2 hts gX1_read_X4_cell_n38 rfl rfl rfl hK.2.2.2.1 (hts _ ni_X1_read_38) (by decide +kernel) ⟨Nat.le_of_ble_eq_true rfl, Nat.le_of_ble_eq_true rfl⟩, hts _ ns_X1_read_38, trivial⟩ hK trivial rfl hl.1 rfl (Nat.le_of_ble_eq_true rfl) dX1_read_127 ⟨Nat.zero_le _, Nat.zero_le _⟩ (fun _ h => h) ?_
        refine lv_aload_n hx hb dX1_read_130 rfl (lv_at hl 0 rfl) ?_
        refine lv_iload_n hx hb dX1_read_131 rfl (lv_at hl 3 rfl) ?_
        refine lv_iload_n hx hb dX1_read_132 rfl (lv_at hl 1 rfl) ?_
        refine k_callV (rest := [.int (nI (h * 12 + i)), .ref (a 14)]) (r := gapF (gpF (kpF (rdF S h 12) n h 12) h i) (rowF ((gpF (kpF (rdF S h 12) n h 12) h i) 14) h) h i) ⟨hx, hb, hml, hown, hts⟩ (c_X1_filledFromKept l D q a (gpF (kpF (rdF S h 12) n h 12) h i) cap nl i h (by omega) (by omega)) (cwV 2 hts gX1_read_X1_filledFromKept rfl rfl rfl (by decide +kernel) ⟨Nat.le_of_ble_eq_true rfl, Nat.le_of_ble_eq_true rfl⟩) hK hP.1 (va_recv hK.1 hP.1 (ci := 2) (q0 := 2) rfl rfl) rfl hl.1 rfl (Nat.le_of_ble_eq_true rfl) dX1_read_133 ⟨Nat.zero_le _, Nat.zero_le _⟩ (fun _ h => h) ?_
        refine k_iast (wC q a ((up (gpF (kpF (rdF S h 12) n h 12) h i) 14 (h * 12 + i) (gapF (gpF (kpF (rdF S h 12) n h 12) h i) (rowF ((gpF (kpF (rdF S h 12) n h 12) h i) 14) h) h i))) cap nl) hx hb hK hP hS 14 rfl (h * 12 + i) rfl (by omega) (by decide) wC_s14 dX1_read_136 (fun H locs hP hS => ?_)
        refine lv_iinc (v := nI (i + 1)) (lv' := [(3, .int (nI (i + 1))), (0, .ref (a 2)), (1, .int (nI h)), (2, .ref (a 1))]) hx hb dX1_read_137 hl (k := 3) rfl (k_iinc _) (by decide) rfl (fun ls hl => ?_)
        refine lv_goto (tgt := 106) hx hb dX1_read_140 (by decide) ?_
        exact ih (i + 1) ((up (gpF (kpF (rdF S h 12) n h 12) h i) 14 (h * 12 + i) (gapF (gpF (kpF (rdF S h 12) n h 12) h i) (rowF ((gpF (kpF (rdF S h 12) n h 12) h i) 14) h) h i))) (nI (i + 1)) (by omega) (by first | omega | assumption) (by rw [gpF_s, if_pos c_2]) rfl _ _ hP hS ls (lv_sub hl [1, 2, 3, 0] rfl)

set_option maxHeartbeats 4000000 in
set_option maxRecDepth 100000 in
theorem lp_X1_read_67 {p : Program} {l : Launch} {e : Env} {u : State} {m : MethodId} {below : List Frame} {meth : Method} {c : Code} {D : va_G} {q : Nat → ClassId} {A : Nat → Prop} (a : Nat → Nat) (S : Nat → Nat → Int32) (cap nl : Nat) (h n : Nat) (hh : h < 200) (hn : S 0 1 = nI n) (hn60 : n ≤ 60) (C0 : kAt p u m #[.ref (a 2), .int (nI h), .ref (a 1)] meth c cX1_read 6 none RX1 wsX1_read) (hK : kK D q u) :
    ∀ (f : Nat) (i : Nat) (T : Nat → Nat → Int32) (x3 : Int32), 12 - i < f → i ≤ 12 → T = kpF (rdF S h 12) n h i → x3 = nI i → ∀ (H : Heap) (locs : List Loc), kW D A (wC q a T cap nl) H → va_S A u.heap H locs → ∀ (ls : Array Slot), lv_has ls 6 [(0, .ref (a 2)), (1, .int (nI h)), (2, .ref (a 1)), (3, .int x3)] → W p l e ({ frames := 4, cells := 0, slots := 0, locals := 90 } : Room) u m #[.ref (a 2), .int (nI h), .ref (a 1)] below meth c H locs 0 0 (MQ below (kRv D A (wC q a (readF S n h) cap nl)) #[.ref (a 2), .int (nI h), .ref (a 1)] u 0 0 A) (F0 m 67 ls []) := by
  obtain ⟨hx, hb, hr, hml, hown, hts, hlocks⟩ := id C0
  intro f
  induction f with
  | zero =>
    intro i T x3 hf
    exact absurd hf (Nat.not_lt_zero _)
  | succ f ih =>
    intro i T x3 hf hi eT e3 H locs hP hS ls hl
    replace eT := eT.symm
    subst eT
    replace e3 := e3.symm
    subst e3
    refine lv_iload_n hx hb dX1_read_67 rfl (lv_at hl 3 rfl) ?_
    refine lv_bipush (v := nI 12) hx hb dX1_read_68 (by decide) ?_
    refine k_icmp_ge (P := i < 12) (tgt := 104) hx hb dX1_read_70 (by decide) (nI_ltI (by omega) (by omega)) (fun c_3 => ?_) (fun c_3 => ?_)
    · skip
      refine lv_iconst (v := nI 0) hx hb dX1_read_104 (by decide) ?_
      refine lv_istore_n (lv' := [(3, .int (nI 0)), (0, .ref (a 2)), (1, .int (nI h)), (2, .ref (a 1))]) hx hb dX1_read_105 rfl hl (by decide) rfl (fun ls hl => ?_)
      exact lp_X1_read_106 a S cap nl h n hh hn hn60 C0 hK ((12 - 0) + 1) 0 (kpF (rdF S h 12) n h i) (nI 0) (by omega) (by first | omega | assumption) (by rw [show i = 12 from by omega]; rfl) rfl _ _ hP hS ls (lv_sub hl [1, 2, 3, 0] rfl)
    · skip
      refine lv_aload_n hx hb dX1_read_73 rfl (lv_at hl 0 rfl) ?_
      refine lv_iload_n hx hb dX1_read_74 rfl (lv_at hl 3 rfl) ?_
      refine lv_iload_n hx hb dX1_read_75 rfl (lv_at hl 1 rfl) ?_
      refine k_callV (rest := []) (r := bI ((kpF (rdF S h 12) n h i) 13 (h * 12 + i) = -1)) ⟨hx, hb, hml, hown, hts⟩ (c_X1_isLost l D q a (kpF (rdF S h 12) n h i) cap nl i h (by omega) (by omega)) (cwV 2 hts gX1_read_X1_isLost rfl rfl rfl (by decide +kernel) ⟨Nat.le_of_ble_eq_true rfl, Nat.le_of_ble_eq_true rfl⟩) hK hP.1 (va_recv hK.1 hP.1 (ci := 2) (q0 := 2) rfl rfl) rfl hl.1 rfl (Nat.le_of_ble_eq_true rfl) dX1_read_76 ⟨Nat.zero_le _, Nat.zero_le _⟩ (fun _ h => h) ?_
      refine k_if_ne (P := ¬ ((kpF (rdF S h 12) n h i) 13 (h * 12 + i) = -1)) (tgt := 98) hx hb dX1_read_79 (by decide) bI_0 (fun c_4 => ?_) (fun c_4 => ?_)
      · skip
        have c_4 : (kpF (rdF S h 12) n h i) 13 (h * 12 + i) = -1 := Classical.not_not.mp c_4
        refine lv_iinc (v := nI (i + 1)) (lv' := [(3, .int (nI (i + 1))), (0, .ref (a 2)), (1, .int (nI h)), (2, .ref (a 1))]) hx hb dX1_read_98 hl (k := 3) rfl (k_iinc _) (by decide) rfl (fun ls hl => ?_)
        refine lv_goto (tgt := 67) hx hb dX1_read_101 (by decide) ?_
        exact ih (i + 1) (kpF (rdF S h 12) n h i) (nI (i + 1)) (by omega) (by first | omega | assumption) (by rw [kpF_s, if_pos c_4]) rfl _ _ hP hS ls (lv_sub hl [1, 2, 3, 0] rfl)
      · skip
        refine lv_aload_n hx hb dX1_read_82 rfl (lv_at hl 0 rfl) ?_
        refine va_get (D := D) (ci := 2) (v := .ref (a 14)) (C := RX1) (T := TX1) (N := 8) hx hb hts in_X1_read_X1 hown hK.1 hP.1 2 rfl rfl 3 (by decide) (hts _ fl_X1_read_22) (fun _ h9 => h9) rfl dX1_read_83 ?_
        refine lv_iload_n hx hb dX1_read_86 rfl (lv_at hl 3 rfl) ?_
        refine lv_iload_n hx hb dX1_read_87 rfl (lv_at hl 1 rfl) ?_
        refine k_callSN (rest := [.ref (a 14)]) (r := nI (h * 12 + i)) ⟨hx, hb, hml, hown, hts⟩ (c_X4_cell l D q i h) ⟨va_cnB 2 hts gX1_read_X4_cell_n38 rfl rfl rfl hK.2.2.2.1 (hts _ ni_X1_read_38) (by decide +kernel) ⟨Nat.le_of_ble_eq_true rfl, Nat.le_of_ble_eq_true rfl⟩, hts _ ns_X1_read_38, trivial⟩ hK trivial rfl hl.1 rfl (Nat.le_of_ble_eq_true rfl) dX1_read_88 ⟨Nat.zero_le _, Nat.zero_le _⟩ (fun _ h => h) ?_
        refine lv_aload_n hx hb dX1_read_91 rfl (lv_at hl 0 rfl) ?_
        refine lv_iload_n hx hb dX1_read_92 rfl (lv_at hl 3 rfl) ?_
        refine lv_iload_n hx hb dX1_read_93 rfl (lv_at hl 1 rfl) ?_
        refine k_callV (rest := [.int (nI (h * 12 + i)), .ref (a 14)]) (r := cntR (kpF (rdF S h 12) n h i) n h i) ⟨hx, hb, hml, hown, hts⟩ (c_X1_countOfReading l D q a (kpF (rdF S h 12) n h i) cap nl i h n (by omega) (by omega) ((congrFun (kpF_n (by decide) _) 1).trans ((congrFun (rdF_n (by decide) 12) 1).trans hn)) hn60) (cwV 2 hts gX1_read_X1_countOfReading rfl rfl rfl (by decide +kernel) ⟨Nat.le_of_ble_eq_true rfl, Nat.le_of_ble_eq_true rfl⟩) hK hP.1 (va_recv hK.1 hP.1 (ci := 2) (q0 := 2) rfl rfl) rfl hl.1 rfl (Nat.le_of_ble_eq_true rfl) dX1_read_94 ⟨Nat.zero_le _, Nat.zero_le _⟩ (fun _ h => h) ?_
        refine k_iast (wC q a ((up (kpF (rdF S h 12) n h i) 14 (h * 12 + i) (cntR (kpF (rdF S h 12) n h i) n h i))) cap nl) hx hb hK hP hS 14 rfl (h * 12 + i) rfl (by omega) (by decide) wC_s14 dX1_read_97 (fun H locs hP hS => ?_)
        refine lv_iinc (v := nI (i + 1)) (lv' := [(3, .int (nI (i + 1))), (0, .ref (a 2)), (1, .int (nI h)), (2, .ref (a 1))]) hx hb dX1_read_98 hl (k := 3) rfl (k_iinc _) (by decide) rfl (fun ls hl => ?_)
        refine lv_goto (tgt := 67) hx hb dX1_read_101 (by decide) ?_
        exact ih (i + 1) ((up (kpF (rdF S h 12) n h i) 14 (h * 12 + i) (cntR (kpF (rdF S h 12) n h i) n h i))) (nI (i + 1)) (by omega) (by first | omega | assumption) (by rw [kpF_s, if_neg c_4]) rfl _ _ hP hS ls (lv_sub hl [1, 2, 3, 0] rfl)

set_option maxHeartbeats 4000000 in
set_option maxRecDepth 100000 in
theorem lp_X1_read_2 {p : Program} {l : Launch} {e : Env} {u : State} {m : MethodId} {below : List Frame} {meth : Method} {c : Code} {D : va_G} {q : Nat → ClassId} {A : Nat → Prop} (a : Nat → Nat) (S : Nat → Nat → Int32) (cap nl : Nat) (h n : Nat) (hh : h < 200) (hn : S 0 1 = nI n) (hn60 : n ≤ 60) (C0 : kAt p u m #[.ref (a 2), .int (nI h), .ref (a 1)] meth c cX1_read 6 none RX1 wsX1_read) (hK : kK D q u) :
    ∀ (f : Nat) (i : Nat) (T : Nat → Nat → Int32) (x3 : Int32), 12 - i < f → i ≤ 12 → T = rdF S h i → x3 = nI i → ∀ (H : Heap) (locs : List Loc), kW D A (wC q a T cap nl) H → va_S A u.heap H locs → ∀ (ls : Array Slot), lv_has ls 6 [(0, .ref (a 2)), (1, .int (nI h)), (2, .ref (a 1)), (3, .int x3)] → W p l e ({ frames := 4, cells := 0, slots := 0, locals := 90 } : Room) u m #[.ref (a 2), .int (nI h), .ref (a 1)] below meth c H locs 0 0 (MQ below (kRv D A (wC q a (readF S n h) cap nl)) #[.ref (a 2), .int (nI h), .ref (a 1)] u 0 0 A) (F0 m 2 ls []) := by
  obtain ⟨hx, hb, hr, hml, hown, hts, hlocks⟩ := id C0
  intro f
  induction f with
  | zero =>
    intro i T x3 hf
    exact absurd hf (Nat.not_lt_zero _)
  | succ f ih =>
    intro i T x3 hf hi eT e3 H locs hP hS ls hl
    replace eT := eT.symm
    subst eT
    replace e3 := e3.symm
    subst e3
    refine lv_iload_n hx hb dX1_read_2 rfl (lv_at hl 3 rfl) ?_
    refine lv_bipush (v := nI 12) hx hb dX1_read_3 (by decide) ?_
    refine k_icmp_ge (P := i < 12) (tgt := 65) hx hb dX1_read_5 (by decide) (nI_ltI (by omega) (by omega)) (fun c_5 => ?_) (fun c_5 => ?_)
    · skip
      refine lv_iconst (v := nI 0) hx hb dX1_read_65 (by decide) ?_
      refine lv_istore_n (lv' := [(3, .int (nI 0)), (0, .ref (a 2)), (1, .int (nI h)), (2, .ref (a 1))]) hx hb dX1_read_66 rfl hl (by decide) rfl (fun ls hl => ?_)
      exact lp_X1_read_67 a S cap nl h n hh hn hn60 C0 hK ((12 - 0) + 1) 0 (rdF S h i) (nI 0) (by omega) (by first | omega | assumption) (by rw [show i = 12 from by omega]; rfl) rfl _ _ hP hS ls (lv_sub hl [1, 2, 3, 0] rfl)
    · skip
      refine lv_iload_n hx hb dX1_read_8 rfl (lv_at hl 3 rfl) ?_
      refine lv_iload_n hx hb dX1_read_9 rfl (lv_at hl 1 rfl) ?_
      refine k_callSN (rest := []) (r := nI (h * 12 + i)) ⟨hx, hb, hml, hown, hts⟩ (c_X4_cell l D q i h) ⟨va_cnB 2 hts gX1_read_X4_cell_n38 rfl rfl rfl hK.2.2.2.1 (hts _ ni_X1_read_38) (by decide +kernel) ⟨Nat.le_of_ble_eq_true rfl, Nat.le_of_ble_eq_true rfl⟩, hts _ ns_X1_read_38, trivial⟩ hK trivial rfl hl.1 rfl (Nat.le_of_ble_eq_true rfl) dX1_read_10 ⟨Nat.zero_le _, Nat.zero_le _⟩ (fun _ h => h) ?_
      refine lv_istore (lv' := [(4, .int (nI (h * 12 + i))), (0, .ref (a 2)), (1, .int (nI h)), (2, .ref (a 1)), (3, .int (nI i))]) hx hb dX1_read_13 hl (by decide) rfl (fun ls hl => ?_)
      refine lv_aload_n hx hb dX1_read_15 rfl (lv_at hl 3 rfl) ?_
      refine va_get (D := D) (ci := 4) (v := .ref (a 8)) (C := RX3) (T := TX3) (N := 5) hx hb hts in_X1_read_X3 hown hK.1 hP.1 1 rfl rfl 2 (by decide) (hts _ fl_X1_read_42) (fun _ h9 => h9) rfl dX1_read_16 ?_
      refine lv_iload hx hb dX1_read_19 (lv_at hl 0 rfl) ?_
      refine k_iald hx hb hK hP.1 8 rfl (h * 12 + i) rfl (by omega) (by decide) dX1_read_21 ?_
      refine lv_istore (lv' := [(5, .int ((rdF S h i) 8 (h * 12 + i))), (4, .int (nI (h * 12 + i))), (0, .ref (a 2)), (1, .int (nI h)), (2, .ref (a 1)), (3, .int (nI i))]) hx hb dX1_read_22 hl (by decide) rfl (fun ls hl => ?_)
      refine lv_aload_n hx hb dX1_read_24 rfl (lv_at hl 2 rfl) ?_
      refine va_get (D := D) (ci := 2) (v := .ref (a 13)) (C := RX1) (T := TX1) (N := 8) hx hb hts in_X1_read_X1 hown hK.1 hP.1 2 rfl rfl 2 (by decide) (hts _ fl_X1_read_19) (fun _ h9 => h9) rfl dX1_read_25 ?_
      refine lv_iload hx hb dX1_read_28 (lv_at hl 1 rfl) ?_
      refine lv_aload_n hx hb dX1_read_30 rfl (lv_at hl 2 rfl) ?_
      refine va_get (D := D) (ci := 2) (v := .ref (a 11)) (C := RX1) (T := TX1) (N := 8) hx hb hts in_X1_read_X1 hown hK.1 hP.1 2 rfl rfl 0 (by decide) (hts _ fl_X1_read_9) (fun _ h9 => h9) rfl dX1_read_31 ?_
      refine lv_iload_n hx hb dX1_read_34 rfl (lv_at hl 5 rfl) ?_
      refine k_zald hx hb hK hP.1 11 rfl i rfl (by omega) (by decide) dX1_read_35 ?_
      refine k_if_eq (P := (rdF S h i) 11 i = 0) (tgt := 43) hx hb dX1_read_36 (by decide) Iff.rfl (fun c_6 => ?_) (fun c_6 => ?_)
      · skip
        refine lv_iload hx hb dX1_read_43 (lv_at hl 0 rfl) ?_
        refine lv_iload hx hb dX1_read_45 (lv_at hl 0 rfl) ?_
        refine lv_aload_n hx hb dX1_read_47 rfl (lv_at hl 2 rfl) ?_
        refine va_get (D := D) (ci := 2) (v := .ref (a 12)) (C := RX1) (T := TX1) (N := 8) hx hb hts in_X1_read_X1 hown hK.1 hP.1 2 rfl rfl 1 (by decide) (hts _ fl_X1_read_15) (fun _ h9 => h9) rfl dX1_read_48 ?_
        refine lv_iload_n hx hb dX1_read_51 rfl (lv_at hl 5 rfl) ?_
        refine k_iald hx hb hK hP.1 12 rfl i rfl (by omega) (by decide) dX1_read_52 ?_
        refine lv_imul hx hb dX1_read_53 ?_
        refine lv_bipush (v := nI 100) hx hb dX1_read_54 (by decide) ?_
        refine lv_idiv hx hb dX1_read_56 (by decide) ?_
        refine lv_isub hx hb dX1_read_57 ?_
        refine k_iast (wC q a ((up (rdF S h i) 13 (h * 12 + i) (((rdF S h i) 8 (h * 12 + i)) - ((((rdF S h i) 8 (h * 12 + i)) * ((rdF S h i) 12 i)) / (nI 100))))) cap nl) hx hb hK hP hS 13 rfl (h * 12 + i) rfl (by omega) (by decide) wC_s13 dX1_read_58 (fun H locs hP hS => ?_)
        refine lv_iinc (v := nI (i + 1)) (lv' := [(3, .int (nI (i + 1))), (5, .int ((rdF S h i) 8 (h * 12 + i))), (4, .int (nI (h * 12 + i))), (0, .ref (a 2)), (1, .int (nI h)), (2, .ref (a 1))]) hx hb dX1_read_59 hl (k := 5) rfl (k_iinc _) (by decide) rfl (fun ls hl => ?_)
        refine lv_goto (tgt := 2) hx hb dX1_read_62 (by decide) ?_
        exact ih (i + 1) ((up (rdF S h i) 13 (h * 12 + i) (((rdF S h i) 8 (h * 12 + i)) - ((((rdF S h i) 8 (h * 12 + i)) * ((rdF S h i) 12 i)) / (nI 100))))) (nI (i + 1)) (by omega) (by first | omega | assumption) (by first | (simp only [rdF, rdV, kpF, gpF, Nat.add_eq, if_pos c_6]; done) | (simp only [rdF, rdV, kpF, gpF, Nat.add_eq, if_pos c_6]; rfl) | (simp [rdF, rdV, kpF, gpF, Nat.add_eq, if_pos c_6]; done) | rfl) rfl _ _ hP hS ls (lv_sub hl [3, 4, 5, 0] rfl)
      · skip
        refine lv_iconst (v := (-1)) hx hb dX1_read_39 (by decide) ?_
        refine lv_goto (tgt := 58) hx hb dX1_read_40 (by decide) ?_
        refine k_iast (wC q a ((up (rdF S h i) 13 (h * 12 + i) ((-1)))) cap nl) hx hb hK hP hS 13 rfl (h * 12 + i) rfl (by omega) (by decide) wC_s13 dX1_read_58 (fun H locs hP hS => ?_)
        refine lv_iinc (v := nI (i + 1)) (lv' := [(3, .int (nI (i + 1))), (5, .int ((rdF S h i) 8 (h * 12 + i))), (4, .int (nI (h * 12 + i))), (0, .ref (a 2)), (1, .int (nI h)), (2, .ref (a 1))]) hx hb dX1_read_59 hl (k := 5) rfl (k_iinc _) (by decide) rfl (fun ls hl => ?_)
        refine lv_goto (tgt := 2) hx hb dX1_read_62 (by decide) ?_
        exact ih (i + 1) ((up (rdF S h i) 13 (h * 12 + i) ((-1)))) (nI (i + 1)) (by omega) (by first | omega | assumption) (by first | (simp only [rdF, rdV, kpF, gpF, Nat.add_eq, if_neg c_6]; done) | (simp only [rdF, rdV, kpF, gpF, Nat.add_eq, if_neg c_6]; rfl) | (simp [rdF, rdV, kpF, gpF, Nat.add_eq, if_neg c_6]; done) | rfl) rfl _ _ hP hS ls (lv_sub hl [3, 4, 5, 0] rfl)
set_option maxHeartbeats 4000000 in
set_option maxRecDepth 100000 in
theorem c_X1_read (l : Launch) (D : va_G) (q : Nat → ClassId) (A : Nat → Prop) (a : Nat → Nat) (S : Nat → Nat → Int32) (cap nl : Nat) (h n : Nat) (hh : h < 200) (hn : S 0 1 = nI n) (hn60 : n ≤ 60) : Met l yX1_read wsX1_read ({ frames := 4, cells := 0, slots := 0, locals := 90 } : Room) (va_Pc [.ref (a 2), .int (nI h), .ref (a 1)] (kB D q (fun H => kW D A (wC q a S cap nl) H))) (kRv D A (wC q a (readF S n h) cap nl)) 0 0 A := by
  refine Met.ofW (cc := cX1_read) (maxL := 6) (ret := none) (by decide) rfl ?_
  intro p e u m args below meth c s₁ B hml0 hv
  obtain ⟨rfl, hP, hK⟩ := hv
  have C0 : kAt p u m #[.ref (a 2), .int (nI h), .ref (a 1)] meth c cX1_read 6 none RX1 wsX1_read := kAt_of B hml0
  obtain ⟨hx, hb, hr, hml, hown, hts, hlocks⟩ := id C0
  have hS : va_S A u.heap u.heap [] := va_S.rf
  have hl := lv_entry ([.ref (a 2), .int (nI h), .ref (a 1)]) (n := 6) (Nat.le_of_ble_eq_true rfl)
  rw [lg_entry_eq]
  generalize (lg_sl ([.ref (a 2), .int (nI h), .ref (a 1)]) ++ List.replicate (6 - (lg_sl ([.ref (a 2), .int (nI h), .ref (a 1)])).length) Slot.unset).toArray = ls at hl ⊢
  have hl : lv_has ls 6 [(0, .ref (a 2)), (1, .int (nI h)), (2, .ref (a 1))] := hl
  refine lv_iconst (v := nI 0) hx hb dX1_read_0 (by decide) ?_
  refine lv_istore_n (lv' := [(3, .int (nI 0)), (0, .ref (a 2)), (1, .int (nI h)), (2, .ref (a 1))]) hx hb dX1_read_1 rfl hl (by decide) rfl (fun ls hl => ?_)
  exact lp_X1_read_2 a S cap nl h n hh hn hn60 C0 hK ((12 - 0) + 1) 0 S (nI 0) (by omega) (by first | omega | assumption) (by first | (simp only [rdF, rdV, kpF, gpF, Nat.add_eq]; done) | (simp only [rdF, rdV, kpF, gpF, Nat.add_eq]; rfl) | (simp [rdF, rdV, kpF, gpF, Nat.add_eq]; done) | rfl) rfl _ _ hP hS ls (lv_sub hl [1, 2, 3, 0] rfl)
