theorem fl_X5_thrown_95 : Cond.fieldLink RX5 95 "LampCountsModel" "thrown" "I" ∈ wsX5_thrown := by decide +kernel
theorem in_X5_thrown_X5 : ∀ w ∈ u_ws RX5 TX5 33, w ∈ wsX5_thrown := by decide +kernel
set_option maxHeartbeats 4000000 in
set_option maxRecDepth 100000 in
theorem c_X5_thrown (l : Launch) (D : va_G) (q : Nat → ClassId) (a : Nat → Nat) (S : Nat → Nat → Int32)   : Met l yX5_thrown wsX5_thrown ({ frames := 0, cells := 0, slots := 0, locals := 0 } : Room) (va_Pc [.ref (a 0)] (kB D q (fun H => va_P D vwCl (wM q a S) H))) (kSi (S 0 0)) 0 0 (fun _ => False) := by
  refine Met.ofW (cc := cX5_thrown) (maxL := 1) (ret := (some .int)) (by decide) rfl ?_
  intro p e u m args below meth c s₁ B hml0 hv
  obtain ⟨rfl, hP, hK⟩ := hv
  have C0 : kAt p u m #[.ref (a 0)] meth c cX5_thrown 1 (some .int) RX5 wsX5_thrown := kAt_of B hml0
  obtain ⟨hx, hb, hr, hml, hown, hts, hlocks⟩ := id C0
  have hl := lv_entry ([.ref (a 0)]) (n := 1) (Nat.le_of_ble_eq_true rfl)
  rw [lg_entry_eq]
  generalize (lg_sl ([.ref (a 0)]) ++ List.replicate (1 - (lg_sl ([.ref (a 0)])).length) Slot.unset).toArray = ls at hl ⊢
  have hl : lv_has ls 1 [(0, .ref (a 0))] := hl
  refine lv_aload_n hx hb dX5_thrown_0 rfl (lv_at hl 0 rfl) ?_
  refine va_get (D := D) (ci := 6) (v := .int (S 0 0)) (C := RX5) (T := TX5) (N := 33) hx hb hts in_X5_thrown_X5 hown hK.1 hP 0 rfl rfl 0 (by decide) (hts _ fl_X5_thrown_95) (fun _ h9 => h9) rfl dX5_thrown_1 ?_
  exact k_iretS hx hb hr hlocks rfl rfl (by rfl) dX5_thrown_4
theorem fl_X5_setPeople_7 : Cond.fieldLink RX5 7 "LampCountsModel" "comes" "[I" ∈ wsX5_setPeople := by decide +kernel
theorem fl_X5_setPeople_13 : Cond.fieldLink RX5 13 "LampCountsModel" "share" "[I" ∈ wsX5_setPeople := by decide +kernel
theorem fl_X5_setPeople_95 : Cond.fieldLink RX5 95 "LampCountsModel" "thrown" "I" ∈ wsX5_setPeople := by decide +kernel
theorem in_X5_setPeople_X5 : ∀ w ∈ u_ws RX5 TX5 33, w ∈ wsX5_setPeople := by decide +kernel
set_option maxHeartbeats 4000000 in
set_option maxRecDepth 100000 in
theorem c_X5_setPeople (l : Launch) (D : va_G) (q : Nat → ClassId) (A : Nat → Prop) (a : Nat → Nat) (S : Nat → Nat → Int32) (s p0 sh : Int32)  : Met l yX5_setPeople wsX5_setPeople ({ frames := 2, cells := 0, slots := 0, locals := 42 } : Room) (va_Pc [.ref (a 0), .int (s), .int (p0), .int (sh)] (kB D q (fun H => kW D A (wM q a S) H))) (kRi D A ((moSetPeople S s p0 sh).1) (wM q a ((moSetPeople S s p0 sh).2))) 0 0 A := by
  refine Met.ofW (cc := cX5_setPeople) (maxL := 5) (ret := (some .int)) (by decide) rfl ?_
  intro p e u m args below meth c s₁ B hml0 hv
  obtain ⟨rfl, hP, hK⟩ := hv
  have C0 : kAt p u m #[.ref (a 0), .int (s), .int (p0), .int (sh)] meth c cX5_setPeople 5 (some .int) RX5 wsX5_setPeople := kAt_of B hml0
  obtain ⟨hx, hb, hr, hml, hown, hts, hlocks⟩ := id C0
  have hS : va_S A u.heap u.heap [] := va_S.rf
  have hl := lv_entry ([.ref (a 0), .int (s), .int (p0), .int (sh)]) (n := 5) (Nat.le_of_ble_eq_true rfl)
  rw [lg_entry_eq]
  generalize (lg_sl ([.ref (a 0), .int (s), .int (p0), .int (sh)]) ++ List.replicate (5 - (lg_sl ([.ref (a 0), .int (s), .int (p0), .int (sh)])).length) Slot.unset).toArray = ls at hl ⊢
  have hl : lv_has ls 5 [(0, .ref (a 0)), (1, .int (s)), (2, .int (p0)), (3, .int (sh))] := hl
  refine lv_aload_n hx hb dX5_setPeople_0 rfl (lv_at hl 0 rfl) ?_
  refine lv_iconst (v := nI 0) hx hb dX5_setPeople_1 (by decide) ?_
  refine k_puti (wM q a ((up S 0 0 (nI 0)))) hx hb hts in_X5_setPeople_X5 tyX5 tyX5_ok nmX5 hown hK hP hS 0 rfl rfl 0 (by decide) (hts _ fl_X5_setPeople_95) (fun _ h9 => h9) rfl (by decide +kernel) (Nat.le_of_ble_eq_true rfl) wM_f0_0 dX5_setPeople_2 (fun H locs hP hS => ?_)
  refine lv_iload_n hx hb dX5_setPeople_5 rfl (lv_at hl 1 rfl) ?_
  refine k_callS (rest := []) (r := bI (inP s (nI 0) (nI 11))) ⟨hx, hb, hml, hown, hts⟩ (c_X5_isSection l D q s) (va_cwS 1 hts gX5_setPeople_X5_isSection rfl rfl rfl (by decide +kernel) ⟨Nat.le_of_ble_eq_true rfl, Nat.le_of_ble_eq_true rfl⟩) hK trivial rfl hl.1 rfl (Nat.le_of_ble_eq_true rfl) dX5_setPeople_6 ⟨Nat.zero_le _, Nat.zero_le _⟩ (fun _ h => h) ?_
  refine k_if_ne (P := ¬ (inP s (nI 0) (nI 11))) (tgt := 18) hx hb dX5_setPeople_9 (by decide) bI_0 (fun c_1 => ?_) (fun c_1 => ?_)
  · skip
    have c_1 : inP s (nI 0) (nI 11) := Classical.not_not.mp c_1
    obtain ⟨e_s, b_s⟩ := inP_nat c_1 (by omega)
    rw [e_s] at hl
    refine lv_iload_n hx hb dX5_setPeople_18 rfl (lv_at hl 2 rfl) ?_
    refine lv_iconst (v := nI 0) hx hb dX5_setPeople_19 (by decide) ?_
    refine lv_sipush (v := nI 1000) hx hb dX5_setPeople_20 (by decide) ?_
    refine k_callS (rest := []) (r := bI (inP p0 (nI 0) (nI 1000))) ⟨hx, hb, hml, hown, hts⟩ (c_X5_in l D q p0 (nI 0) (nI 1000)) (va_cwS 3 hts gX5_setPeople_X5_in rfl rfl rfl (by decide +kernel) ⟨Nat.le_of_ble_eq_true rfl, Nat.le_of_ble_eq_true rfl⟩) hK trivial rfl hl.1 rfl (Nat.le_of_ble_eq_true rfl) dX5_setPeople_23 ⟨Nat.zero_le _, Nat.zero_le _⟩ (fun _ h => h) ?_
    refine k_if_eq (P := ¬ (inP p0 (nI 0) (nI 1000))) (tgt := 39) hx hb dX5_setPeople_26 (by decide) bI_0 (fun c_2 => ?_) (fun c_2 => ?_)
    · skip
      refine lv_aload_n hx hb dX5_setPeople_39 rfl (lv_at hl 0 rfl) ?_
      refine lv_iconst (v := nI 2) hx hb dX5_setPeople_40 (by decide) ?_
      refine k_goRi hS (va_runV (rest := []) ⟨hx, hb, hml, hown, hts⟩ (c_X5_fails l D q A a ((up S 0 0 (nI 0))) (nI 2)) (cwV 1 hts gX5_setPeople_X5_fails rfl rfl rfl (by decide +kernel) ⟨Nat.le_of_ble_eq_true rfl, Nat.le_of_ble_eq_true rfl⟩) ⟨kB_blind, (va_recv hK.1 hP.1 (ci := 6) (q0 := 0) rfl rfl), fun U hU hW => ⟨rfl, by rw [hU]; exact hP, hK.warm hW⟩⟩ rfl rfl hl.1 rfl (lv_room (Nat.le_of_ble_eq_true rfl)) dX5_setPeople_41 ⟨Nat.zero_le _, Nat.zero_le _⟩) (fun H locs hP hS => ?_)
      have eM : (up (up S 0 0 (nI 0)) 0 0 (nI 2)) = (moSetPeople S s p0 sh).2 := by unfold moSetPeople; rw [if_pos c_1, if_neg c_2]; try rfl
      rw [eM] at hP
      exact k_iretW hx hb hr hlocks hP hS (by unfold moSetPeople; rw [if_pos c_1, if_neg c_2]; try rfl) dX5_setPeople_44
    · skip
      have c_2 : inP p0 (nI 0) (nI 1000) := Classical.not_not.mp c_2
      refine lv_iload_n hx hb dX5_setPeople_29 rfl (lv_at hl 3 rfl) ?_
      refine lv_iconst (v := nI 0) hx hb dX5_setPeople_30 (by decide) ?_
      refine lv_bipush (v := nI 100) hx hb dX5_setPeople_31 (by decide) ?_
      refine k_callS (rest := []) (r := bI (inP sh (nI 0) (nI 100))) ⟨hx, hb, hml, hown, hts⟩ (c_X5_in l D q sh (nI 0) (nI 100)) (va_cwS 3 hts gX5_setPeople_X5_in rfl rfl rfl (by decide +kernel) ⟨Nat.le_of_ble_eq_true rfl, Nat.le_of_ble_eq_true rfl⟩) hK trivial rfl hl.1 rfl (Nat.le_of_ble_eq_true rfl) dX5_setPeople_33 ⟨Nat.zero_le _, Nat.zero_le _⟩ (fun _ h => h) ?_
      refine k_if_ne (P := ¬ (inP sh (nI 0) (nI 100))) (tgt := 45) hx hb dX5_setPeople_36 (by decide) bI_0 (fun c_3 => ?_) (fun c_3 => ?_)
      · skip
        have c_3 : inP sh (nI 0) (nI 100) := Classical.not_not.mp c_3
        refine lv_aload_n hx hb dX5_setPeople_45 rfl (lv_at hl 0 rfl) ?_
        refine va_get (D := D) (ci := 6) (v := .ref (a 2)) (C := RX5) (T := TX5) (N := 33) hx hb hts in_X5_setPeople_X5 hown hK.1 hP.1 0 rfl rfl 2 (by decide) (hts _ fl_X5_setPeople_7) (fun _ h9 => h9) rfl dX5_setPeople_46 ?_
        refine lv_iload_n hx hb dX5_setPeople_49 rfl (lv_at hl 1 rfl) ?_
        refine k_iald hx hb hK hP.1 1 rfl s.toNatClampNeg rfl (by omega) (by decide) dX5_setPeople_50 ?_
        refine k_top (y := S 2 s.toNatClampNeg) (congrFun (up_n (by decide)) _) ?_
        refine lv_istore (lv' := [(4, .int (S 2 s.toNatClampNeg)), (0, .ref (a 0)), (1, .int (nI s.toNatClampNeg)), (2, .int (p0)), (3, .int (sh))]) hx hb dX5_setPeople_51 hl (by decide) rfl (fun ls hl => ?_)
        refine lv_aload_n hx hb dX5_setPeople_53 rfl (lv_at hl 1 rfl) ?_
        refine va_get (D := D) (ci := 6) (v := .ref (a 2)) (C := RX5) (T := TX5) (N := 33) hx hb hts in_X5_setPeople_X5 hown hK.1 hP.1 0 rfl rfl 2 (by decide) (hts _ fl_X5_setPeople_7) (fun _ h9 => h9) rfl dX5_setPeople_54 ?_
        refine lv_iload_n hx hb dX5_setPeople_57 rfl (lv_at hl 2 rfl) ?_
        refine lv_iload_n hx hb dX5_setPeople_58 rfl (lv_at hl 3 rfl) ?_
        refine k_iast (wM q a ((up (up S 0 0 (nI 0)) 2 s.toNatClampNeg p0))) hx hb hK hP hS 1 rfl s.toNatClampNeg rfl (by omega) (by decide) wM_s1 dX5_setPeople_59 (fun H locs hP hS => ?_)
        refine lv_aload_n hx hb dX5_setPeople_60 rfl (lv_at hl 1 rfl) ?_
        refine va_get (D := D) (ci := 6) (v := .ref (a 3)) (C := RX5) (T := TX5) (N := 33) hx hb hts in_X5_setPeople_X5 hown hK.1 hP.1 0 rfl rfl 3 (by decide) (hts _ fl_X5_setPeople_13) (fun _ h9 => h9) rfl dX5_setPeople_61 ?_
        refine lv_iload_n hx hb dX5_setPeople_64 rfl (lv_at hl 2 rfl) ?_
        refine lv_iload_n hx hb dX5_setPeople_65 rfl (lv_at hl 4 rfl) ?_
        refine k_iast (wM q a ((up (up (up S 0 0 (nI 0)) 2 s.toNatClampNeg p0) 3 s.toNatClampNeg sh))) hx hb hK hP hS 2 rfl s.toNatClampNeg rfl (by omega) (by decide) wM_s2 dX5_setPeople_66 (fun H locs hP hS => ?_)
        refine lv_iload hx hb dX5_setPeople_67 (lv_at hl 0 rfl) ?_
        have eM : (up (up (up S 0 0 (nI 0)) 2 s.toNatClampNeg p0) 3 s.toNatClampNeg sh) = (moSetPeople S s p0 sh).2 := by unfold moSetPeople; rw [if_pos c_1, if_pos c_2, if_pos c_3]; try rfl
        rw [eM] at hP
        exact k_iretW hx hb hr hlocks hP hS (by unfold moSetPeople; rw [if_pos c_1, if_pos c_2, if_pos c_3]; try rfl) dX5_setPeople_69
      · skip
        refine lv_aload_n hx hb dX5_setPeople_39 rfl (lv_at hl 0 rfl) ?_
        refine lv_iconst (v := nI 2) hx hb dX5_setPeople_40 (by decide) ?_
        refine k_goRi hS (va_runV (rest := []) ⟨hx, hb, hml, hown, hts⟩ (c_X5_fails l D q A a ((up S 0 0 (nI 0))) (nI 2)) (cwV 1 hts gX5_setPeople_X5_fails rfl rfl rfl (by decide +kernel) ⟨Nat.le_of_ble_eq_true rfl, Nat.le_of_ble_eq_true rfl⟩) ⟨kB_blind, (va_recv hK.1 hP.1 (ci := 6) (q0 := 0) rfl rfl), fun U hU hW => ⟨rfl, by rw [hU]; exact hP, hK.warm hW⟩⟩ rfl rfl hl.1 rfl (lv_room (Nat.le_of_ble_eq_true rfl)) dX5_setPeople_41 ⟨Nat.zero_le _, Nat.zero_le _⟩) (fun H locs hP hS => ?_)
        have eM : (up (up S 0 0 (nI 0)) 0 0 (nI 2)) = (moSetPeople S s p0 sh).2 := by unfold moSetPeople; rw [if_pos c_1, if_pos c_2, if_neg c_3]; try rfl
        rw [eM] at hP
        exact k_iretW hx hb hr hlocks hP hS (by unfold moSetPeople; rw [if_pos c_1, if_pos c_2, if_neg c_3]; try rfl) dX5_setPeople_44
  · skip
    refine lv_aload_n hx hb dX5_setPeople_12 rfl (lv_at hl 0 rfl) ?_
    refine lv_iconst (v := nI 1) hx hb dX5_setPeople_13 (by decide) ?_
    refine k_goRi hS (va_runV (rest := []) ⟨hx, hb, hml, hown, hts⟩ (c_X5_fails l D q A a ((up S 0 0 (nI 0))) (nI 1)) (cwV 1 hts gX5_setPeople_X5_fails rfl rfl rfl (by decide +kernel) ⟨Nat.le_of_ble_eq_true rfl, Nat.le_of_ble_eq_true rfl⟩) ⟨kB_blind, (va_recv hK.1 hP.1 (ci := 6) (q0 := 0) rfl rfl), fun U hU hW => ⟨rfl, by rw [hU]; exact hP, hK.warm hW⟩⟩ rfl rfl hl.1 rfl (lv_room (Nat.le_of_ble_eq_true rfl)) dX5_setPeople_14 ⟨Nat.zero_le _, Nat.zero_le _⟩) (fun H locs hP hS => ?_)
    have eM : (up (up S 0 0 (nI 0)) 0 0 (nI 1)) = (moSetPeople S s p0 sh).2 := by unfold moSetPeople; rw [if_neg c_1]; try rfl
    rw [eM] at hP
    exact k_iretW hx hb hr hlocks hP hS (by unfold moSetPeople; rw [if_neg c_1]; try rfl) dX5_setPeople_17
theorem fl_X5_setLamp_16 : Cond.fieldLink RX5 16 "LampCountsModel" "broken" "[Z" ∈ wsX5_setLamp := by decide +kernel
theorem fl_X5_setLamp_20 : Cond.fieldLink RX5 20 "LampCountsModel" "blind" "[I" ∈ wsX5_setLamp := by decide +kernel
theorem fl_X5_setLamp_95 : Cond.fieldLink RX5 95 "LampCountsModel" "thrown" "I" ∈ wsX5_setLamp := by decide +kernel
theorem in_X5_setLamp_X5 : ∀ w ∈ u_ws RX5 TX5 33, w ∈ wsX5_setLamp := by decide +kernel
set_option maxHeartbeats 4000000 in
set_option maxRecDepth 100000 in
theorem c_X5_setLamp (l : Launch) (D : va_G) (q : Nat → ClassId) (A : Nat → Prop) (a : Nat → Nat) (S : Nat → Nat → Int32) (s wk b : Int32)  : Met l yX5_setLamp wsX5_setLamp ({ frames := 2, cells := 0, slots := 0, locals := 42 } : Room) (va_Pc [.ref (a 0), .int (s), .int (wk), .int (b)] (kB D q (fun H => kW D A (wM q a S) H))) (kRi D A ((moSetLamp S s wk b).1) (wM q a ((moSetLamp S s wk b).2))) 0 0 A := by
  refine Met.ofW (cc := cX5_setLamp) (maxL := 5) (ret := (some .int)) (by decide) rfl ?_
  intro p e u m args below meth c s₁ B hml0 hv
  obtain ⟨rfl, hP, hK⟩ := hv
  have C0 : kAt p u m #[.ref (a 0), .int (s), .int (wk), .int (b)] meth c cX5_setLamp 5 (some .int) RX5 wsX5_setLamp := kAt_of B hml0
  obtain ⟨hx, hb, hr, hml, hown, hts, hlocks⟩ := id C0
  have hS : va_S A u.heap u.heap [] := va_S.rf
  have hl := lv_entry ([.ref (a 0), .int (s), .int (wk), .int (b)]) (n := 5) (Nat.le_of_ble_eq_true rfl)
  rw [lg_entry_eq]
  generalize (lg_sl ([.ref (a 0), .int (s), .int (wk), .int (b)]) ++ List.replicate (5 - (lg_sl ([.ref (a 0), .int (s), .int (wk), .int (b)])).length) Slot.unset).toArray = ls at hl ⊢
  have hl : lv_has ls 5 [(0, .ref (a 0)), (1, .int (s)), (2, .int (wk)), (3, .int (b))] := hl
  refine lv_aload_n hx hb dX5_setLamp_0 rfl (lv_at hl 0 rfl) ?_
  refine lv_iconst (v := nI 0) hx hb dX5_setLamp_1 (by decide) ?_
  refine k_puti (wM q a ((up S 0 0 (nI 0)))) hx hb hts in_X5_setLamp_X5 tyX5 tyX5_ok nmX5 hown hK hP hS 0 rfl rfl 0 (by decide) (hts _ fl_X5_setLamp_95) (fun _ h9 => h9) rfl (by decide +kernel) (Nat.le_of_ble_eq_true rfl) wM_f0_0 dX5_setLamp_2 (fun H locs hP hS => ?_)
  refine lv_iload_n hx hb dX5_setLamp_5 rfl (lv_at hl 1 rfl) ?_
  refine k_callS (rest := []) (r := bI (inP s (nI 0) (nI 11))) ⟨hx, hb, hml, hown, hts⟩ (c_X5_isSection l D q s) (va_cwS 1 hts gX5_setLamp_X5_isSection rfl rfl rfl (by decide +kernel) ⟨Nat.le_of_ble_eq_true rfl, Nat.le_of_ble_eq_true rfl⟩) hK trivial rfl hl.1 rfl (Nat.le_of_ble_eq_true rfl) dX5_setLamp_6 ⟨Nat.zero_le _, Nat.zero_le _⟩ (fun _ h => h) ?_
  refine k_if_ne (P := ¬ (inP s (nI 0) (nI 11))) (tgt := 18) hx hb dX5_setLamp_9 (by decide) bI_0 (fun c_1 => ?_) (fun c_1 => ?_)
  · skip
    have c_1 : inP s (nI 0) (nI 11) := Classical.not_not.mp c_1
    obtain ⟨e_s, b_s⟩ := inP_nat c_1 (by omega)
    rw [e_s] at hl
    refine lv_iload_n hx hb dX5_setLamp_18 rfl (lv_at hl 3 rfl) ?_
    refine lv_iconst (v := nI 0) hx hb dX5_setLamp_19 (by decide) ?_
    refine lv_bipush (v := nI 60) hx hb dX5_setLamp_20 (by decide) ?_
    refine k_callS (rest := []) (r := bI (inP b (nI 0) (nI 60))) ⟨hx, hb, hml, hown, hts⟩ (c_X5_in l D q b (nI 0) (nI 60)) (va_cwS 3 hts gX5_setLamp_X5_in rfl rfl rfl (by decide +kernel) ⟨Nat.le_of_ble_eq_true rfl, Nat.le_of_ble_eq_true rfl⟩) hK trivial rfl hl.1 rfl (Nat.le_of_ble_eq_true rfl) dX5_setLamp_22 ⟨Nat.zero_le _, Nat.zero_le _⟩ (fun _ h => h) ?_
    refine k_if_ne (P := ¬ (inP b (nI 0) (nI 60))) (tgt := 34) hx hb dX5_setLamp_25 (by decide) bI_0 (fun c_2 => ?_) (fun c_2 => ?_)
    · skip
      have c_2 : inP b (nI 0) (nI 60) := Classical.not_not.mp c_2
      refine lv_aload_n hx hb dX5_setLamp_34 rfl (lv_at hl 0 rfl) ?_
      refine va_get (D := D) (ci := 6) (v := .ref (a 5)) (C := RX5) (T := TX5) (N := 33) hx hb hts in_X5_setLamp_X5 hown hK.1 hP.1 0 rfl rfl 5 (by decide) (hts _ fl_X5_setLamp_20) (fun _ h9 => h9) rfl dX5_setLamp_35 ?_
      refine lv_iload_n hx hb dX5_setLamp_38 rfl (lv_at hl 1 rfl) ?_
      refine k_iald hx hb hK hP.1 4 rfl s.toNatClampNeg rfl (by omega) (by decide) dX5_setLamp_39 ?_
      refine k_top (y := S 5 s.toNatClampNeg) (congrFun (up_n (by decide)) _) ?_
      refine lv_istore (lv' := [(4, .int (S 5 s.toNatClampNeg)), (0, .ref (a 0)), (1, .int (nI s.toNatClampNeg)), (2, .int (wk)), (3, .int (b))]) hx hb dX5_setLamp_40 hl (by decide) rfl (fun ls hl => ?_)
      refine lv_aload_n hx hb dX5_setLamp_42 rfl (lv_at hl 1 rfl) ?_
      refine va_get (D := D) (ci := 6) (v := .ref (a 4)) (C := RX5) (T := TX5) (N := 33) hx hb hts in_X5_setLamp_X5 hown hK.1 hP.1 0 rfl rfl 4 (by decide) (hts _ fl_X5_setLamp_16) (fun _ h9 => h9) rfl dX5_setLamp_43 ?_
      refine lv_iload_n hx hb dX5_setLamp_46 rfl (lv_at hl 2 rfl) ?_
      refine lv_iload_n hx hb dX5_setLamp_47 rfl (lv_at hl 3 rfl) ?_
      refine k_if_ne (P := wk = 0) (tgt := 55) hx hb dX5_setLamp_48 (by decide) Iff.rfl (fun c_3 => ?_) (fun c_3 => ?_)
      · skip
        refine lv_iconst (v := nI 0) hx hb dX5_setLamp_55 (by decide) ?_
        refine k_zast (wM q a ((up (up S 0 0 (nI 0)) 4 s.toNatClampNeg (nI 0)))) hx hb hK hP hS 3 rfl s.toNatClampNeg rfl (by omega) (by decide) rfl wM_s3 dX5_setLamp_56 (fun H locs hP hS => ?_)
        refine lv_aload_n hx hb dX5_setLamp_57 rfl (lv_at hl 1 rfl) ?_
        refine va_get (D := D) (ci := 6) (v := .ref (a 5)) (C := RX5) (T := TX5) (N := 33) hx hb hts in_X5_setLamp_X5 hown hK.1 hP.1 0 rfl rfl 5 (by decide) (hts _ fl_X5_setLamp_20) (fun _ h9 => h9) rfl dX5_setLamp_58 ?_
        refine lv_iload_n hx hb dX5_setLamp_61 rfl (lv_at hl 2 rfl) ?_
        refine lv_iload_n hx hb dX5_setLamp_62 rfl (lv_at hl 4 rfl) ?_
        refine k_iast (wM q a ((up (up (up S 0 0 (nI 0)) 4 s.toNatClampNeg (nI 0)) 5 s.toNatClampNeg b))) hx hb hK hP hS 4 rfl s.toNatClampNeg rfl (by omega) (by decide) wM_s4 dX5_setLamp_63 (fun H locs hP hS => ?_)
        refine lv_iload hx hb dX5_setLamp_64 (lv_at hl 0 rfl) ?_
        have eM : (up (up (up S 0 0 (nI 0)) 4 s.toNatClampNeg (nI 0)) 5 s.toNatClampNeg b) = (moSetLamp S s wk b).2 := by unfold moSetLamp; rw [if_pos c_1, if_pos c_2, if_neg c_3]; try rfl
        rw [eM] at hP
        exact k_iretW hx hb hr hlocks hP hS (by unfold moSetLamp; rw [if_pos c_1, if_pos c_2, if_neg c_3]; try rfl) dX5_setLamp_66
      · skip
        refine lv_iconst (v := nI 1) hx hb dX5_setLamp_51 (by decide) ?_
        refine lv_goto (tgt := 56) hx hb dX5_setLamp_52 (by decide) ?_
        refine k_zast (wM q a ((up (up S 0 0 (nI 0)) 4 s.toNatClampNeg (nI 1)))) hx hb hK hP hS 3 rfl s.toNatClampNeg rfl (by omega) (by decide) rfl wM_s3 dX5_setLamp_56 (fun H locs hP hS => ?_)
        refine lv_aload_n hx hb dX5_setLamp_57 rfl (lv_at hl 1 rfl) ?_
        refine va_get (D := D) (ci := 6) (v := .ref (a 5)) (C := RX5) (T := TX5) (N := 33) hx hb hts in_X5_setLamp_X5 hown hK.1 hP.1 0 rfl rfl 5 (by decide) (hts _ fl_X5_setLamp_20) (fun _ h9 => h9) rfl dX5_setLamp_58 ?_
        refine lv_iload_n hx hb dX5_setLamp_61 rfl (lv_at hl 2 rfl) ?_
        refine lv_iload_n hx hb dX5_setLamp_62 rfl (lv_at hl 4 rfl) ?_
        refine k_iast (wM q a ((up (up (up S 0 0 (nI 0)) 4 s.toNatClampNeg (nI 1)) 5 s.toNatClampNeg b))) hx hb hK hP hS 4 rfl s.toNatClampNeg rfl (by omega) (by decide) wM_s4 dX5_setLamp_63 (fun H locs hP hS => ?_)
        refine lv_iload hx hb dX5_setLamp_64 (lv_at hl 0 rfl) ?_
        have eM : (up (up (up S 0 0 (nI 0)) 4 s.toNatClampNeg (nI 1)) 5 s.toNatClampNeg b) = (moSetLamp S s wk b).2 := by unfold moSetLamp; rw [if_pos c_1, if_pos c_2, if_pos c_3]; try rfl
        rw [eM] at hP
        exact k_iretW hx hb hr hlocks hP hS (by unfold moSetLamp; rw [if_pos c_1, if_pos c_2, if_pos c_3]; try rfl) dX5_setLamp_66
    · skip
      refine lv_aload_n hx hb dX5_setLamp_28 rfl (lv_at hl 0 rfl) ?_
      refine lv_iconst (v := nI 2) hx hb dX5_setLamp_29 (by decide) ?_
      refine k_goRi hS (va_runV (rest := []) ⟨hx, hb, hml, hown, hts⟩ (c_X5_fails l D q A a ((up S 0 0 (nI 0))) (nI 2)) (cwV 1 hts gX5_setLamp_X5_fails rfl rfl rfl (by decide +kernel) ⟨Nat.le_of_ble_eq_true rfl, Nat.le_of_ble_eq_true rfl⟩) ⟨kB_blind, (va_recv hK.1 hP.1 (ci := 6) (q0 := 0) rfl rfl), fun U hU hW => ⟨rfl, by rw [hU]; exact hP, hK.warm hW⟩⟩ rfl rfl hl.1 rfl (lv_room (Nat.le_of_ble_eq_true rfl)) dX5_setLamp_30 ⟨Nat.zero_le _, Nat.zero_le _⟩) (fun H locs hP hS => ?_)
      have eM : (up (up S 0 0 (nI 0)) 0 0 (nI 2)) = (moSetLamp S s wk b).2 := by unfold moSetLamp; rw [if_pos c_1, if_neg c_2]; try rfl
      rw [eM] at hP
      exact k_iretW hx hb hr hlocks hP hS (by unfold moSetLamp; rw [if_pos c_1, if_neg c_2]; try rfl) dX5_setLamp_33
  · skip
    refine lv_aload_n hx hb dX5_setLamp_12 rfl (lv_at hl 0 rfl) ?_
    refine lv_iconst (v := nI 1) hx hb dX5_setLamp_13 (by decide) ?_
    refine k_goRi hS (va_runV (rest := []) ⟨hx, hb, hml, hown, hts⟩ (c_X5_fails l D q A a ((up S 0 0 (nI 0))) (nI 1)) (cwV 1 hts gX5_setLamp_X5_fails rfl rfl rfl (by decide +kernel) ⟨Nat.le_of_ble_eq_true rfl, Nat.le_of_ble_eq_true rfl⟩) ⟨kB_blind, (va_recv hK.1 hP.1 (ci := 6) (q0 := 0) rfl rfl), fun U hU hW => ⟨rfl, by rw [hU]; exact hP, hK.warm hW⟩⟩ rfl rfl hl.1 rfl (lv_room (Nat.le_of_ble_eq_true rfl)) dX5_setLamp_14 ⟨Nat.zero_le _, Nat.zero_le _⟩) (fun H locs hP hS => ?_)
    have eM : (up (up S 0 0 (nI 0)) 0 0 (nI 1)) = (moSetLamp S s wk b).2 := by unfold moSetLamp; rw [if_neg c_1]; try rfl
    rw [eM] at hP
    exact k_iretW hx hb hr hlocks hP hS (by unfold moSetLamp; rw [if_neg c_1]; try rfl) dX5_setLamp_17
theorem fl_X5_pass_95 : Cond.fieldLink RX5 95 "LampCountsModel" "thrown" "I" ∈ wsX5_pass := by decide +kernel
theorem fl_X5_pass_103 : Cond.fieldLink RX5 103 "LampCountsModel" "now" "I" ∈ wsX5_pass := by decide +kernel
theorem in_X5_pass_X5 : ∀ w ∈ u_ws RX5 TX5 33, w ∈ wsX5_pass := by decide +kernel
set_option maxHeartbeats 4000000 in
set_option maxRecDepth 100000 in
theorem lp_X5_pass_43 {p : Program} {l : Launch} {e : Env} {u : State} {m : MethodId} {below : List Frame} {meth : Method} {c : Code} {D : va_G} {q : Nat → ClassId} {A : Nat → Prop} (a : Nat → Nat) (S : Nat → Nat → Int32) (h : Int32) (w0 : Nat) (hw : S 0 1 = nI w0) (hw200 : w0 ≤ 200) (hok : okML S) (b_h : 1 ≤ h.toNatClampNeg ∧ h.toNatClampNeg ≤ 50) (b_w : w0 + h.toNatClampNeg ≤ 200) (hin : inP h (nI 1) (nI 50)) (C0 : kAt p u m #[.ref (a 0), .int (h)] meth c cX5_pass 4 (some .int) RX5 wsX5_pass) (hK : kK D q u) :
    ∀ (f : Nat) (k : Nat) (T : Nat → Nat → Int32) (x1 : Int32) (x2 : Int32) (x3 : Int32), h.toNatClampNeg - k < f → k ≤ h.toNatClampNeg → T = (psM S w0 k).2 → x1 = nI h.toNatClampNeg → x2 = (psM S w0 k).1 → x3 = nI k → ∀ (H : Heap) (locs : List Loc), kW D A (wM q a T) H → va_S A u.heap H locs → ∀ (ls : Array Slot), lv_has ls 4 [(0, .ref (a 0)), (1, .int x1), (2, .int x2), (3, .int x3)] → W p l e ({ frames := 4, cells := 0, slots := 0, locals := 99 } : Room) u m #[.ref (a 0), .int (h)] below meth c H locs 0 0 (MQ below (kRi D A ((moPass S w0 h).1) (wM q a ((moPass S w0 h).2))) #[.ref (a 0), .int (h)] u 0 0 A) (F0 m 43 ls []) := by
  obtain ⟨hx, hb, hr, hml, hown, hts, hlocks⟩ := id C0
  intro f
  induction f with
  | zero =>
    intro k T x1 x2 x3 hf
    exact absurd hf (Nat.not_lt_zero _)
  | succ f ih =>
    intro k T x1 x2 x3 hf hk eT e1 e2 e3 H locs hP hS ls hl
    replace eT := eT.symm
    subst eT
    replace e1 := e1.symm
    subst e1
    replace e2 := e2.symm
    subst e2
    replace e3 := e3.symm
    subst e3
    refine lv_iload_n hx hb dX5_pass_43 rfl (lv_at hl 3 rfl) ?_
    refine lv_iload_n hx hb dX5_pass_44 rfl (lv_at hl 1 rfl) ?_
    refine k_icmp_ge (P := k < h.toNatClampNeg) (tgt := 61) hx hb dX5_pass_45 (by decide) (nI_ltI (by omega) (by omega)) (fun c_1 => ?_) (fun c_1 => ?_)
    · skip
      refine lv_iload_n hx hb dX5_pass_61 rfl (lv_at hl 2 rfl) ?_
      have eM : (psM S w0 k).2 = (moPass S w0 h).2 := by unfold moPass; rw [if_pos hin, if_pos b_w, show h.toNatClampNeg = k from by omega]
      rw [eM] at hP
      exact k_iretW hx hb hr hlocks hP hS (by unfold moPass; rw [if_pos hin, if_pos b_w, show h.toNatClampNeg = k from by omega]) dX5_pass_62
    · skip
      refine lv_iload_n hx hb dX5_pass_48 rfl (lv_at hl 2 rfl) ?_
      refine lv_aload_n hx hb dX5_pass_49 rfl (lv_at hl 0 rfl) ?_
      refine k_goRi hS (va_runV (rest := [.int ((psM S w0 k).1)]) ⟨hx, hb, hml, hown, hts⟩ (c_X5_ends l D q A a ((psM S w0 k).2) (w0 + k) (psM_ok hw hok k).1 (by omega) (psM_ok hw hok k).2) (cwV 0 hts gX5_pass_X5_ends rfl rfl rfl (by decide +kernel) ⟨Nat.le_of_ble_eq_true rfl, Nat.le_of_ble_eq_true rfl⟩) ⟨kB_blind, (va_recv hK.1 hP.1 (ci := 6) (q0 := 0) rfl rfl), fun U hU hW => ⟨rfl, by rw [hU]; exact hP, hK.warm hW⟩⟩ rfl rfl hl.1 rfl (lv_room (Nat.le_of_ble_eq_true rfl)) dX5_pass_50 ⟨Nat.zero_le _, Nat.zero_le _⟩) (fun H locs hP hS => ?_)
      refine lv_iadd hx hb dX5_pass_53 ?_
      refine lv_istore_n (lv' := [(2, .int (((psM S w0 k).1) + (endsV ((psM S w0 k).2) (w0 + k)))), (0, .ref (a 0)), (1, .int (nI h.toNatClampNeg)), (3, .int (nI k))]) hx hb dX5_pass_54 rfl hl (by decide) rfl (fun ls hl => ?_)
      refine lv_iinc (v := nI (k + 1)) (lv' := [(3, .int (nI (k + 1))), (2, .int (((psM S w0 k).1) + (endsV ((psM S w0 k).2) (w0 + k)))), (0, .ref (a 0)), (1, .int (nI h.toNatClampNeg))]) hx hb dX5_pass_55 hl (k := 3) rfl (k_iinc _) (by decide) rfl (fun ls hl => ?_)
      refine lv_goto (tgt := 43) hx hb dX5_pass_58 (by decide) ?_
      exact ih (k + 1) ((endsM ((psM S w0 k).2) (w0 + k))) (nI h.toNatClampNeg) (((psM S w0 k).1) + (endsV ((psM S w0 k).2) (w0 + k))) (nI (k + 1)) (by omega) (by first | omega | assumption) (by rfl) rfl (by rfl) rfl _ _ hP hS ls (lv_sub hl [2, 3, 1, 0] rfl)
set_option maxHeartbeats 4000000 in
set_option maxRecDepth 100000 in
theorem c_X5_pass (l : Launch) (D : va_G) (q : Nat → ClassId) (A : Nat → Prop) (a : Nat → Nat) (S : Nat → Nat → Int32) (h : Int32) (w0 : Nat) (hw : S 0 1 = nI w0) (hw200 : w0 ≤ 200) (hok : okML S) : Met l yX5_pass wsX5_pass ({ frames := 4, cells := 0, slots := 0, locals := 99 } : Room) (va_Pc [.ref (a 0), .int (h)] (kB D q (fun H => kW D A (wM q a S) H))) (kRi D A ((moPass S w0 h).1) (wM q a ((moPass S w0 h).2))) 0 0 A := by
  refine Met.ofW (cc := cX5_pass) (maxL := 4) (ret := (some .int)) (by decide) rfl ?_
  intro p e u m args below meth c s₁ B hml0 hv
  obtain ⟨rfl, hP, hK⟩ := hv
  have C0 : kAt p u m #[.ref (a 0), .int (h)] meth c cX5_pass 4 (some .int) RX5 wsX5_pass := kAt_of B hml0
  obtain ⟨hx, hb, hr, hml, hown, hts, hlocks⟩ := id C0
  have hS : va_S A u.heap u.heap [] := va_S.rf
  have hl := lv_entry ([.ref (a 0), .int (h)]) (n := 4) (Nat.le_of_ble_eq_true rfl)
  rw [lg_entry_eq]
  generalize (lg_sl ([.ref (a 0), .int (h)]) ++ List.replicate (4 - (lg_sl ([.ref (a 0), .int (h)])).length) Slot.unset).toArray = ls at hl ⊢
  have hl : lv_has ls 4 [(0, .ref (a 0)), (1, .int (h))] := hl
  refine lv_aload_n hx hb dX5_pass_0 rfl (lv_at hl 0 rfl) ?_
  refine lv_iconst (v := nI 0) hx hb dX5_pass_1 (by decide) ?_
  refine k_puti (wM q a ((up S 0 0 (nI 0)))) hx hb hts in_X5_pass_X5 tyX5 tyX5_ok nmX5 hown hK hP hS 0 rfl rfl 0 (by decide) (hts _ fl_X5_pass_95) (fun _ h9 => h9) rfl (by decide +kernel) (Nat.le_of_ble_eq_true rfl) wM_f0_0 dX5_pass_2 (fun H locs hP hS => ?_)
  refine lv_iload_n hx hb dX5_pass_5 rfl (lv_at hl 1 rfl) ?_
  refine lv_iconst (v := nI 1) hx hb dX5_pass_6 (by decide) ?_
  refine lv_bipush (v := nI 50) hx hb dX5_pass_7 (by decide) ?_
  refine k_callS (rest := []) (r := bI (inP h (nI 1) (nI 50))) ⟨hx, hb, hml, hown, hts⟩ (c_X5_in l D q h (nI 1) (nI 50)) (va_cwS 3 hts gX5_pass_X5_in rfl rfl rfl (by decide +kernel) ⟨Nat.le_of_ble_eq_true rfl, Nat.le_of_ble_eq_true rfl⟩) hK trivial rfl hl.1 rfl (Nat.le_of_ble_eq_true rfl) dX5_pass_9 ⟨Nat.zero_le _, Nat.zero_le _⟩ (fun _ h => h) ?_
  refine k_if_ne (P := ¬ (inP h (nI 1) (nI 50))) (tgt := 21) hx hb dX5_pass_12 (by decide) bI_0 (fun c_2 => ?_) (fun c_2 => ?_)
  · skip
    have c_2 : inP h (nI 1) (nI 50) := Classical.not_not.mp c_2
    obtain ⟨e_h, b_h⟩ := inP_nat1 c_2 (by decide)
    rw [e_h] at hl
    refine lv_aload_n hx hb dX5_pass_21 rfl (lv_at hl 0 rfl) ?_
    refine va_get (D := D) (ci := 6) (v := .int (((up S 0 0 (nI 0))) 0 1)) (C := RX5) (T := TX5) (N := 33) hx hb hts in_X5_pass_X5 hown hK.1 hP.1 0 rfl rfl 1 (by decide) (hts _ fl_X5_pass_103) (fun _ h9 => h9) rfl dX5_pass_22 ?_
    refine k_top (y := S 0 1) (up_sn (by decide)) ?_
    refine k_top (y := nI w0) hw ?_
    refine lv_iload_n hx hb dX5_pass_25 rfl (lv_at hl 1 rfl) ?_
    refine lv_iadd hx hb dX5_pass_26 ?_
    refine k_top (y := nI (w0 + h.toNatClampNeg)) (nI_add _ _) ?_
    refine lv_sipush (v := nI 200) hx hb dX5_pass_27 (by decide) ?_
    refine k_icmp_le (P := w0 + h.toNatClampNeg ≤ 200) (tgt := 39) hx hb dX5_pass_30 (by decide) (nI_leI (by omega) (by omega)) (fun c_3 => ?_) (fun c_3 => ?_)
    · skip
      refine lv_iconst (v := nI 0) hx hb dX5_pass_39 (by decide) ?_
      refine lv_istore_n (lv' := [(2, .int (nI 0)), (0, .ref (a 0)), (1, .int (nI h.toNatClampNeg))]) hx hb dX5_pass_40 rfl hl (by decide) rfl (fun ls hl => ?_)
      refine lv_iconst (v := nI 0) hx hb dX5_pass_41 (by decide) ?_
      refine lv_istore_n (lv' := [(3, .int (nI 0)), (2, .int (nI 0)), (0, .ref (a 0)), (1, .int (nI h.toNatClampNeg))]) hx hb dX5_pass_42 rfl hl (by decide) rfl (fun ls hl => ?_)
      exact lp_X5_pass_43 a S h w0 hw hw200 hok b_h c_3 c_2 C0 hK ((h.toNatClampNeg - 0) + 1) 0 ((up S 0 0 (nI 0))) (nI h.toNatClampNeg) (nI 0) (nI 0) (by omega) (by first | omega | assumption) (by rfl) rfl (by rfl) rfl _ _ hP hS ls (lv_sub hl [2, 3, 1, 0] rfl)
    · skip
      refine lv_aload_n hx hb dX5_pass_33 rfl (lv_at hl 0 rfl) ?_
      refine lv_iconst (v := nI 2) hx hb dX5_pass_34 (by decide) ?_
      refine k_goRi hS (va_runV (rest := []) ⟨hx, hb, hml, hown, hts⟩ (c_X5_fails l D q A a ((up S 0 0 (nI 0))) (nI 2)) (cwV 1 hts gX5_pass_X5_fails rfl rfl rfl (by decide +kernel) ⟨Nat.le_of_ble_eq_true rfl, Nat.le_of_ble_eq_true rfl⟩) ⟨kB_blind, (va_recv hK.1 hP.1 (ci := 6) (q0 := 0) rfl rfl), fun U hU hW => ⟨rfl, by rw [hU]; exact hP, hK.warm hW⟩⟩ rfl rfl hl.1 rfl (lv_room (Nat.le_of_ble_eq_true rfl)) dX5_pass_35 ⟨Nat.zero_le _, Nat.zero_le _⟩) (fun H locs hP hS => ?_)
      have eM : (up (up S 0 0 (nI 0)) 0 0 (nI 2)) = (moPass S w0 h).2 := by unfold moPass; rw [if_pos c_2, if_neg c_3]
      rw [eM] at hP
      exact k_iretW hx hb hr hlocks hP hS (by unfold moPass; rw [if_pos c_2, if_neg c_3]) dX5_pass_38
  · skip
    refine lv_aload_n hx hb dX5_pass_15 rfl (lv_at hl 0 rfl) ?_
    refine lv_iconst (v := nI 1) hx hb dX5_pass_16 (by decide) ?_
    refine k_goRi hS (va_runV (rest := []) ⟨hx, hb, hml, hown, hts⟩ (c_X5_fails l D q A a ((up S 0 0 (nI 0))) (nI 1)) (cwV 1 hts gX5_pass_X5_fails rfl rfl rfl (by decide +kernel) ⟨Nat.le_of_ble_eq_true rfl, Nat.le_of_ble_eq_true rfl⟩) ⟨kB_blind, (va_recv hK.1 hP.1 (ci := 6) (q0 := 0) rfl rfl), fun U hU hW => ⟨rfl, by rw [hU]; exact hP, hK.warm hW⟩⟩ rfl rfl hl.1 rfl (lv_room (Nat.le_of_ble_eq_true rfl)) dX5_pass_17 ⟨Nat.zero_le _, Nat.zero_le _⟩) (fun H locs hP hS => ?_)
    have eM : (up (up S 0 0 (nI 0)) 0 0 (nI 1)) = (moPass S w0 h).2 := by unfold moPass; rw [if_neg c_2]
    rw [eM] at hP
    exact k_iretW hx hb hr hlocks hP hS (by unfold moPass; rw [if_neg c_2]) dX5_pass_20
theorem fl_X5_find_38 : Cond.fieldLink RX5 38 "LampCountsModel" "where" "[I" ∈ wsX5_find := by decide +kernel
theorem fl_X5_find_41 : Cond.fieldLink RX5 41 "LampCountsModel" "since" "[I" ∈ wsX5_find := by decide +kernel
theorem fl_X5_find_44 : Cond.fieldLink RX5 44 "LampCountsModel" "found" "[I" ∈ wsX5_find := by decide +kernel
theorem fl_X5_find_95 : Cond.fieldLink RX5 95 "LampCountsModel" "thrown" "I" ∈ wsX5_find := by decide +kernel
theorem fl_X5_find_103 : Cond.fieldLink RX5 103 "LampCountsModel" "now" "I" ∈ wsX5_find := by decide +kernel
theorem fl_X5_find_143 : Cond.fieldLink RX5 143 "LampCountsModel" "finds" "I" ∈ wsX5_find := by decide +kernel
theorem in_X5_find_X5 : ∀ w ∈ u_ws RX5 TX5 33, w ∈ wsX5_find := by decide +kernel
set_option maxHeartbeats 4000000 in
set_option maxRecDepth 100000 in
theorem c_X5_find (l : Launch) (D : va_G) (q : Nat → ClassId) (A : Nat → Prop) (a : Nat → Nat) (S : Nat → Nat → Int32) (s h b : Int32) (n w0 nl : Nat) (hn : S 0 11 = nI n) (hn60 : n ≤ 60) (hot : okT S n) (hw : S 0 1 = nI w0) (hw200 : w0 ≤ 200) (hls : S 0 15 = nI nl) (hnl : nl ≤ 30) (hom : okM S nl) : Met l yX5_find wsX5_find ({ frames := 6, cells := 0, slots := 0, locals := 136 } : Room) (va_Pc [.ref (a 0), .int (s), .int (h), .int (b)] (kB D q (fun H => kW D A (wM q a S) H))) (kRi D A ((moFind S n w0 nl s h b).1) (wM q a ((moFind S n w0 nl s h b).2))) 0 0 A := by
  refine Met.ofW (cc := cX5_find) (maxL := 4) (ret := (some .int)) (by decide) rfl ?_
  intro p e u m args below meth c s₁ B hml0 hv
  obtain ⟨rfl, hP, hK⟩ := hv
  have C0 : kAt p u m #[.ref (a 0), .int (s), .int (h), .int (b)] meth c cX5_find 4 (some .int) RX5 wsX5_find := kAt_of B hml0
  obtain ⟨hx, hb, hr, hml, hown, hts, hlocks⟩ := id C0
  have hS : va_S A u.heap u.heap [] := va_S.rf
  have hl := lv_entry ([.ref (a 0), .int (s), .int (h), .int (b)]) (n := 4) (Nat.le_of_ble_eq_true rfl)
  rw [lg_entry_eq]
  generalize (lg_sl ([.ref (a 0), .int (s), .int (h), .int (b)]) ++ List.replicate (4 - (lg_sl ([.ref (a 0), .int (s), .int (h), .int (b)])).length) Slot.unset).toArray = ls at hl ⊢
  have hl : lv_has ls 4 [(0, .ref (a 0)), (1, .int (s)), (2, .int (h)), (3, .int (b))] := hl
  refine lv_aload_n hx hb dX5_find_0 rfl (lv_at hl 0 rfl) ?_
  refine lv_iconst (v := nI 0) hx hb dX5_find_1 (by decide) ?_
  refine k_puti (wM q a ((up S 0 0 (nI 0)))) hx hb hts in_X5_find_X5 tyX5 tyX5_ok nmX5 hown hK hP hS 0 rfl rfl 0 (by decide) (hts _ fl_X5_find_95) (fun _ h9 => h9) rfl (by decide +kernel) (Nat.le_of_ble_eq_true rfl) wM_f0_0 dX5_find_2 (fun H locs hP hS => ?_)
  refine lv_iload_n hx hb dX5_find_5 rfl (lv_at hl 1 rfl) ?_
  refine k_callS (rest := []) (r := bI (inP s (nI 0) (nI 11))) ⟨hx, hb, hml, hown, hts⟩ (c_X5_isSection l D q s) (va_cwS 1 hts gX5_find_X5_isSection rfl rfl rfl (by decide +kernel) ⟨Nat.le_of_ble_eq_true rfl, Nat.le_of_ble_eq_true rfl⟩) hK trivial rfl hl.1 rfl (Nat.le_of_ble_eq_true rfl) dX5_find_6 ⟨Nat.zero_le _, Nat.zero_le _⟩ (fun _ h => h) ?_
  refine k_if_ne (P := ¬ (inP s (nI 0) (nI 11))) (tgt := 18) hx hb dX5_find_9 (by decide) bI_0 (fun c_1 => ?_) (fun c_1 => ?_)
  · skip
    have c_1 : inP s (nI 0) (nI 11) := Classical.not_not.mp c_1
    refine lv_iload_n hx hb dX5_find_18 rfl (lv_at hl 2 rfl) ?_
    refine lv_iconst (v := nI 0) hx hb dX5_find_19 (by decide) ?_
    refine lv_aload_n hx hb dX5_find_20 rfl (lv_at hl 0 rfl) ?_
    refine va_get (D := D) (ci := 6) (v := .int (((up S 0 0 (nI 0))) 0 1)) (C := RX5) (T := TX5) (N := 33) hx hb hts in_X5_find_X5 hown hK.1 hP.1 0 rfl rfl 1 (by decide) (hts _ fl_X5_find_103) (fun _ h9 => h9) rfl dX5_find_21 ?_
    refine k_top (y := S 0 1) (up_sn (by decide)) ?_
    refine k_top (y := nI w0) hw ?_
    refine k_callS (rest := []) (r := bI (inP h (nI 0) (nI w0))) ⟨hx, hb, hml, hown, hts⟩ (c_X5_in l D q h (nI 0) (nI w0)) (va_cwS 3 hts gX5_find_X5_in rfl rfl rfl (by decide +kernel) ⟨Nat.le_of_ble_eq_true rfl, Nat.le_of_ble_eq_true rfl⟩) hK trivial rfl hl.1 rfl (Nat.le_of_ble_eq_true rfl) dX5_find_24 ⟨Nat.zero_le _, Nat.zero_le _⟩ (fun _ h => h) ?_
    refine k_if_eq (P := ¬ (inP h (nI 0) (nI w0))) (tgt := 40) hx hb dX5_find_27 (by decide) bI_0 (fun c_2 => ?_) (fun c_2 => ?_)
    · skip
      refine lv_aload_n hx hb dX5_find_40 rfl (lv_at hl 0 rfl) ?_
      refine lv_iconst (v := nI 2) hx hb dX5_find_41 (by decide) ?_
      refine k_goRi hS (va_runV (rest := []) ⟨hx, hb, hml, hown, hts⟩ (c_X5_fails l D q A a ((up S 0 0 (nI 0))) (nI 2)) (cwV 1 hts gX5_find_X5_fails rfl rfl rfl (by decide +kernel) ⟨Nat.le_of_ble_eq_true rfl, Nat.le_of_ble_eq_true rfl⟩) ⟨kB_blind, (va_recv hK.1 hP.1 (ci := 6) (q0 := 0) rfl rfl), fun U hU hW => ⟨rfl, by rw [hU]; exact hP, hK.warm hW⟩⟩ rfl rfl hl.1 rfl (lv_room (Nat.le_of_ble_eq_true rfl)) dX5_find_42 ⟨Nat.zero_le _, Nat.zero_le _⟩) (fun H locs hP hS => ?_)
      have eM : (up (up S 0 0 (nI 0)) 0 0 (nI 2)) = (moFind S n w0 nl s h b).2 := by unfold moFind; rw [if_pos c_1, if_neg c_2]
      rw [eM] at hP
      exact k_iretW hx hb hr hlocks hP hS (by unfold moFind; rw [if_pos c_1, if_neg c_2]) dX5_find_45
    · skip
      have c_2 : inP h (nI 0) (nI w0) := Classical.not_not.mp c_2
      refine lv_iload_n hx hb dX5_find_30 rfl (lv_at hl 3 rfl) ?_
      refine lv_iconst (v := nI 0) hx hb dX5_find_31 (by decide) ?_
      refine lv_bipush (v := nI 60) hx hb dX5_find_32 (by decide) ?_
      refine k_callS (rest := []) (r := bI (inP b (nI 0) (nI 60))) ⟨hx, hb, hml, hown, hts⟩ (c_X5_in l D q b (nI 0) (nI 60)) (va_cwS 3 hts gX5_find_X5_in rfl rfl rfl (by decide +kernel) ⟨Nat.le_of_ble_eq_true rfl, Nat.le_of_ble_eq_true rfl⟩) hK trivial rfl hl.1 rfl (Nat.le_of_ble_eq_true rfl) dX5_find_34 ⟨Nat.zero_le _, Nat.zero_le _⟩ (fun _ h => h) ?_
      refine k_if_ne (P := ¬ (inP b (nI 0) (nI 60))) (tgt := 46) hx hb dX5_find_37 (by decide) bI_0 (fun c_3 => ?_) (fun c_3 => ?_)
      · skip
        have c_3 : inP b (nI 0) (nI 60) := Classical.not_not.mp c_3
        refine lv_aload_n hx hb dX5_find_46 rfl (lv_at hl 0 rfl) ?_
        refine va_get (D := D) (ci := 6) (v := .int (((up S 0 0 (nI 0))) 0 11)) (C := RX5) (T := TX5) (N := 33) hx hb hts in_X5_find_X5 hown hK.1 hP.1 0 rfl rfl 11 (by decide) (hts _ fl_X5_find_143) (fun _ h9 => h9) rfl dX5_find_47 ?_
        refine k_top (y := S 0 11) (up_sn (by decide)) ?_
        refine k_top (y := nI n) hn ?_
        refine lv_bipush (v := nI 60) hx hb dX5_find_50 (by decide) ?_
        refine k_icmp_ne (P := n = 60) (tgt := 61) hx hb dX5_find_52 (by decide) (nI_eq (by omega) (by omega)) (fun c_4 => ?_) (fun c_4 => ?_)
        · skip
          refine lv_aload_n hx hb dX5_find_61 rfl (lv_at hl 0 rfl) ?_
          refine k_goRv hS (va_runV (rest := []) ⟨hx, hb, hml, hown, hts⟩ (c_X5_keeps l D q A a ((up S 0 0 (nI 0))) n w0 nl ((up_sn (by decide)).trans hn) hn60 (okT_congr (up_n (by decide)) hot) ((up_sn (by decide)).trans hw) hw200 ((up_sn (by decide)).trans hls) hnl (okM_congr (up_n (by decide)) (up_n (by decide)) (up_n (by decide)) hom)) (cwV 0 hts gX5_find_X5_keeps rfl rfl rfl (by decide +kernel) ⟨Nat.le_of_ble_eq_true rfl, Nat.le_of_ble_eq_true rfl⟩) ⟨kB_blind, (va_recv hK.1 hP.1 (ci := 6) (q0 := 0) rfl rfl), fun U hU hW => ⟨rfl, by rw [hU]; exact hP, hK.warm hW⟩⟩ rfl rfl hl.1 rfl (lv_room (Nat.le_of_ble_eq_true rfl)) dX5_find_62 ⟨Nat.zero_le _, Nat.zero_le _⟩) (fun H locs hP hS => ?_)
          refine lv_aload_n hx hb dX5_find_65 rfl (lv_at hl 0 rfl) ?_
          refine va_get (D := D) (ci := 6) (v := .ref (a 12)) (C := RX5) (T := TX5) (N := 33) hx hb hts in_X5_find_X5 hown hK.1 hP.1 0 rfl rfl 12 (by decide) (hts _ fl_X5_find_38) (fun _ h9 => h9) rfl dX5_find_66 ?_
          refine lv_aload_n hx hb dX5_find_69 rfl (lv_at hl 0 rfl) ?_
          refine va_get (D := D) (ci := 6) (v := .int (((kpM ((up S 0 0 (nI 0))) n w0 nl)) 0 11)) (C := RX5) (T := TX5) (N := 33) hx hb hts in_X5_find_X5 hown hK.1 hP.1 0 rfl rfl 11 (by decide) (hts _ fl_X5_find_143) (fun _ h9 => h9) rfl dX5_find_70 ?_
          refine k_top (y := nI n) (((congrFun (kpM_n (by decide) nl) _).trans (up_sn (by decide))).trans hn) ?_
          refine lv_iload_n hx hb dX5_find_73 rfl (lv_at hl 1 rfl) ?_
          refine k_iast (wM q a ((up ((kpM ((up S 0 0 (nI 0))) n w0 nl)) 12 n s))) hx hb hK hP hS 10 rfl n rfl (by omega) (by decide) wM_s10 dX5_find_74 (fun H locs hP hS => ?_)
          refine lv_aload_n hx hb dX5_find_75 rfl (lv_at hl 0 rfl) ?_
          refine va_get (D := D) (ci := 6) (v := .ref (a 13)) (C := RX5) (T := TX5) (N := 33) hx hb hts in_X5_find_X5 hown hK.1 hP.1 0 rfl rfl 13 (by decide) (hts _ fl_X5_find_41) (fun _ h9 => h9) rfl dX5_find_76 ?_
          refine lv_aload_n hx hb dX5_find_79 rfl (lv_at hl 0 rfl) ?_
          refine va_get (D := D) (ci := 6) (v := .int (((up ((kpM ((up S 0 0 (nI 0))) n w0 nl)) 12 n s)) 0 11)) (C := RX5) (T := TX5) (N := 33) hx hb hts in_X5_find_X5 hown hK.1 hP.1 0 rfl rfl 11 (by decide) (hts _ fl_X5_find_143) (fun _ h9 => h9) rfl dX5_find_80 ?_
          refine k_top (y := ((kpM ((up S 0 0 (nI 0))) n w0 nl)) 0 11) (congrFun (up_n (by decide)) _) ?_
          refine k_top (y := nI n) (((congrFun (kpM_n (by decide) nl) _).trans (up_sn (by decide))).trans hn) ?_
          refine lv_iload_n hx hb dX5_find_83 rfl (lv_at hl 2 rfl) ?_
          refine k_iast (wM q a ((up (up ((kpM ((up S 0 0 (nI 0))) n w0 nl)) 12 n s) 13 n h))) hx hb hK hP hS 11 rfl n rfl (by omega) (by decide) wM_s11 dX5_find_84 (fun H locs hP hS => ?_)
          refine lv_aload_n hx hb dX5_find_85 rfl (lv_at hl 0 rfl) ?_
          refine va_get (D := D) (ci := 6) (v := .ref (a 14)) (C := RX5) (T := TX5) (N := 33) hx hb hts in_X5_find_X5 hown hK.1 hP.1 0 rfl rfl 14 (by decide) (hts _ fl_X5_find_44) (fun _ h9 => h9) rfl dX5_find_86 ?_
          refine lv_aload_n hx hb dX5_find_89 rfl (lv_at hl 0 rfl) ?_
          refine va_get (D := D) (ci := 6) (v := .int (((up (up ((kpM ((up S 0 0 (nI 0))) n w0 nl)) 12 n s) 13 n h)) 0 11)) (C := RX5) (T := TX5) (N := 33) hx hb hts in_X5_find_X5 hown hK.1 hP.1 0 rfl rfl 11 (by decide) (hts _ fl_X5_find_143) (fun _ h9 => h9) rfl dX5_find_90 ?_
          refine k_top (y := ((kpM ((up S 0 0 (nI 0))) n w0 nl)) 0 11) ((congrFun (up_n (by decide)) _).trans (congrFun (up_n (by decide)) _)) ?_
          refine k_top (y := nI n) (((congrFun (kpM_n (by decide) nl) _).trans (up_sn (by decide))).trans hn) ?_
          refine lv_iload_n hx hb dX5_find_93 rfl (lv_at hl 3 rfl) ?_
          refine k_iast (wM q a ((up (up (up ((kpM ((up S 0 0 (nI 0))) n w0 nl)) 12 n s) 13 n h) 14 n b))) hx hb hK hP hS 12 rfl n rfl (by omega) (by decide) wM_s12 dX5_find_94 (fun H locs hP hS => ?_)
          refine lv_aload_n hx hb dX5_find_95 rfl (lv_at hl 0 rfl) ?_
          refine lv_dup hx hb dX5_find_96 rfl ?_
          refine va_get (D := D) (ci := 6) (v := .int (((up (up (up ((kpM ((up S 0 0 (nI 0))) n w0 nl)) 12 n s) 13 n h) 14 n b)) 0 11)) (C := RX5) (T := TX5) (N := 33) hx hb hts in_X5_find_X5 hown hK.1 hP.1 0 rfl rfl 11 (by decide) (hts _ fl_X5_find_143) (fun _ h9 => h9) rfl dX5_find_97 ?_
          refine k_top (y := ((kpM ((up S 0 0 (nI 0))) n w0 nl)) 0 11) ((congrFun (up_n (by decide)) _).trans ((congrFun (up_n (by decide)) _).trans (congrFun (up_n (by decide)) _))) ?_
          refine k_top (y := nI n) (((congrFun (kpM_n (by decide) nl) _).trans (up_sn (by decide))).trans hn) ?_
          refine lv_iconst (v := nI 1) hx hb dX5_find_100 (by decide) ?_
          refine lv_iadd hx hb dX5_find_101 ?_
          refine k_top (y := nI (n + 1)) (nI_add _ _) ?_
          refine k_puti (wM q a ((up (up (up (up ((kpM ((up S 0 0 (nI 0))) n w0 nl)) 12 n s) 13 n h) 14 n b) 0 11 (nI (n + 1))))) hx hb hts in_X5_find_X5 tyX5 tyX5_ok nmX5 hown hK hP hS 0 rfl rfl 11 (by decide) (hts _ fl_X5_find_143) (fun _ h9 => h9) rfl (by decide +kernel) (Nat.le_of_ble_eq_true rfl) wM_f0_11 dX5_find_102 (fun H locs hP hS => ?_)
          obtain ⟨e_b, b_b⟩ := inP_nat c_3 (by decide)
          have hot2 : okT ((up (up (up (up ((kpM ((up S 0 0 (nI 0))) n w0 nl)) 12 n s) 13 n h) 14 n b) 0 11 (nI (n + 1)))) (n + 1) := fun k hk => by
            rw [up_n (k := 0) (j := 14) (by decide)]
            by_cases ck : k = n
            · rw [ck, up_si]; exact ⟨b.toNatClampNeg, b_b, e_b⟩
            · rw [up_sn ck, up_n (by decide), up_n (by decide), kpM_n (by decide), up_n (by decide)]; exact hot k (by omega)
          refine lv_aload_n hx hb dX5_find_105 rfl (lv_at hl 0 rfl) ?_
          refine k_goRi hS (va_runV (rest := []) ⟨hx, hb, hml, hown, hts⟩ (c_X5_corrects l D q A a ((up (up (up (up ((kpM ((up S 0 0 (nI 0))) n w0 nl)) 12 n s) 13 n h) 14 n b) 0 11 (nI (n + 1)))) (n + 1) w0 nl (up_si _ _ _ _) (by omega) hot2 (((up_sn (by decide)).trans ((congrFun (up_n (by decide)) _).trans ((congrFun (up_n (by decide)) _).trans ((congrFun (up_n (by decide)) _).trans ((congrFun (kpM_n (by decide) nl) _).trans (up_sn (by decide))))))).trans hw) hw200 (((up_sn (by decide)).trans ((congrFun (up_n (by decide)) _).trans ((congrFun (up_n (by decide)) _).trans ((congrFun (up_n (by decide)) _).trans ((congrFun (kpM_n (by decide) nl) _).trans (up_sn (by decide))))))).trans hls) hnl (okM_congr ((up_n (by decide)).trans ((up_n (by decide)).trans ((up_n (by decide)).trans ((up_n (by decide)).trans ((kpM_n (by decide) nl).trans (up_n (by decide))))))) ((up_n (by decide)).trans ((up_n (by decide)).trans ((up_n (by decide)).trans ((up_n (by decide)).trans ((kpM_n (by decide) nl).trans (up_n (by decide))))))) ((up_n (by decide)).trans ((up_n (by decide)).trans ((up_n (by decide)).trans ((up_n (by decide)).trans ((kpM_n (by decide) nl).trans (up_n (by decide))))))) hom)) (cwV 0 hts gX5_find_X5_corrects rfl rfl rfl (by decide +kernel) ⟨Nat.le_of_ble_eq_true rfl, Nat.le_of_ble_eq_true rfl⟩) ⟨kB_blind, (va_recv hK.1 hP.1 (ci := 6) (q0 := 0) rfl rfl), fun U hU hW => ⟨rfl, by rw [hU]; exact hP, hK.warm hW⟩⟩ rfl rfl hl.1 rfl (lv_room (Nat.le_of_ble_eq_true rfl)) dX5_find_106 ⟨Nat.zero_le _, Nat.zero_le _⟩) (fun H locs hP hS => ?_)
          have eM : (coF ((up (up (up (up ((kpM ((up S 0 0 (nI 0))) n w0 nl)) 12 n s) 13 n h) 14 n b) 0 11 (nI (n + 1)))) (n + 1) w0 nl).2 = (moFind S n w0 nl s h b).2 := by unfold moFind; rw [if_pos c_1, if_pos c_2, if_pos c_3, if_neg c_4]; try rfl
          rw [eM] at hP
          exact k_iretW hx hb hr hlocks hP hS (by unfold moFind; rw [if_pos c_1, if_pos c_2, if_pos c_3, if_neg c_4]; try rfl) dX5_find_109
        · skip
          refine lv_aload_n hx hb dX5_find_55 rfl (lv_at hl 0 rfl) ?_
          refine lv_iconst (v := nI 3) hx hb dX5_find_56 (by decide) ?_
          refine k_goRi hS (va_runV (rest := []) ⟨hx, hb, hml, hown, hts⟩ (c_X5_fails l D q A a ((up S 0 0 (nI 0))) (nI 3)) (cwV 1 hts gX5_find_X5_fails rfl rfl rfl (by decide +kernel) ⟨Nat.le_of_ble_eq_true rfl, Nat.le_of_ble_eq_true rfl⟩) ⟨kB_blind, (va_recv hK.1 hP.1 (ci := 6) (q0 := 0) rfl rfl), fun U hU hW => ⟨rfl, by rw [hU]; exact hP, hK.warm hW⟩⟩ rfl rfl hl.1 rfl (lv_room (Nat.le_of_ble_eq_true rfl)) dX5_find_57 ⟨Nat.zero_le _, Nat.zero_le _⟩) (fun H locs hP hS => ?_)
          have eM : (up (up S 0 0 (nI 0)) 0 0 (nI 3)) = (moFind S n w0 nl s h b).2 := by unfold moFind; rw [if_pos c_1, if_pos c_2, if_pos c_3, if_pos c_4]
          rw [eM] at hP
          exact k_iretW hx hb hr hlocks hP hS (by unfold moFind; rw [if_pos c_1, if_pos c_2, if_pos c_3, if_pos c_4]) dX5_find_60
      · skip
        refine lv_aload_n hx hb dX5_find_40 rfl (lv_at hl 0 rfl) ?_
        refine lv_iconst (v := nI 2) hx hb dX5_find_41 (by decide) ?_
        refine k_goRi hS (va_runV (rest := []) ⟨hx, hb, hml, hown, hts⟩ (c_X5_fails l D q A a ((up S 0 0 (nI 0))) (nI 2)) (cwV 1 hts gX5_find_X5_fails rfl rfl rfl (by decide +kernel) ⟨Nat.le_of_ble_eq_true rfl, Nat.le_of_ble_eq_true rfl⟩) ⟨kB_blind, (va_recv hK.1 hP.1 (ci := 6) (q0 := 0) rfl rfl), fun U hU hW => ⟨rfl, by rw [hU]; exact hP, hK.warm hW⟩⟩ rfl rfl hl.1 rfl (lv_room (Nat.le_of_ble_eq_true rfl)) dX5_find_42 ⟨Nat.zero_le _, Nat.zero_le _⟩) (fun H locs hP hS => ?_)
        have eM : (up (up S 0 0 (nI 0)) 0 0 (nI 2)) = (moFind S n w0 nl s h b).2 := by unfold moFind; rw [if_pos c_1, if_pos c_2, if_neg c_3]
        rw [eM] at hP
        exact k_iretW hx hb hr hlocks hP hS (by unfold moFind; rw [if_pos c_1, if_pos c_2, if_neg c_3]) dX5_find_45
  · skip
    refine lv_aload_n hx hb dX5_find_12 rfl (lv_at hl 0 rfl) ?_
    refine lv_iconst (v := nI 1) hx hb dX5_find_13 (by decide) ?_
    refine k_goRi hS (va_runV (rest := []) ⟨hx, hb, hml, hown, hts⟩ (c_X5_fails l D q A a ((up S 0 0 (nI 0))) (nI 1)) (cwV 1 hts gX5_find_X5_fails rfl rfl rfl (by decide +kernel) ⟨Nat.le_of_ble_eq_true rfl, Nat.le_of_ble_eq_true rfl⟩) ⟨kB_blind, (va_recv hK.1 hP.1 (ci := 6) (q0 := 0) rfl rfl), fun U hU hW => ⟨rfl, by rw [hU]; exact hP, hK.warm hW⟩⟩ rfl rfl hl.1 rfl (lv_room (Nat.le_of_ble_eq_true rfl)) dX5_find_14 ⟨Nat.zero_le _, Nat.zero_le _⟩) (fun H locs hP hS => ?_)
    have eM : (up (up S 0 0 (nI 0)) 0 0 (nI 1)) = (moFind S n w0 nl s h b).2 := by unfold moFind; rw [if_neg c_1]
    rw [eM] at hP
    exact k_iretW hx hb hr hlocks hP hS (by unfold moFind; rw [if_neg c_1]) dX5_find_17
theorem fl_X5_turnUp_29 : Cond.fieldLink RX5 29 "LampCountsModel" "reading" "[I" ∈ wsX5_turnUp := by decide +kernel
theorem fl_X5_turnUp_95 : Cond.fieldLink RX5 95 "LampCountsModel" "thrown" "I" ∈ wsX5_turnUp := by decide +kernel
theorem in_X5_turnUp_X5 : ∀ w ∈ u_ws RX5 TX5 33, w ∈ wsX5_turnUp := by decide +kernel
set_option maxHeartbeats 4000000 in
set_option maxRecDepth 100000 in
theorem c_X5_turnUp (l : Launch) (D : va_G) (q : Nat → ClassId) (A : Nat → Prop) (a : Nat → Nat) (S : Nat → Nat → Int32) (s h r : Int32) (n w0 nl : Nat) (hn : S 0 11 = nI n) (hn60 : n ≤ 60) (hot : okT S n) (hw : S 0 1 = nI w0) (hw200 : w0 ≤ 200) (hls : S 0 15 = nI nl) (hnl : nl ≤ 30) (hom : okM S nl) : Met l yX5_turnUp wsX5_turnUp ({ frames := 6, cells := 0, slots := 0, locals := 136 } : Room) (va_Pc [.ref (a 0), .int (s), .int (h), .int (r)] (kB D q (fun H => kW D A (wM q a S) H))) (kRi D A ((moTurnUp S n w0 nl s h r).1) (wM q a ((moTurnUp S n w0 nl s h r).2))) 0 0 A := by
  refine Met.ofW (cc := cX5_turnUp) (maxL := 4) (ret := (some .int)) (by decide) rfl ?_
  intro p e u m args below meth c s₁ B hml0 hv
  obtain ⟨rfl, hP, hK⟩ := hv
  have C0 : kAt p u m #[.ref (a 0), .int (s), .int (h), .int (r)] meth c cX5_turnUp 4 (some .int) RX5 wsX5_turnUp := kAt_of B hml0
  obtain ⟨hx, hb, hr, hml, hown, hts, hlocks⟩ := id C0
  have hS : va_S A u.heap u.heap [] := va_S.rf
  have hl := lv_entry ([.ref (a 0), .int (s), .int (h), .int (r)]) (n := 4) (Nat.le_of_ble_eq_true rfl)
  rw [lg_entry_eq]
  generalize (lg_sl ([.ref (a 0), .int (s), .int (h), .int (r)]) ++ List.replicate (4 - (lg_sl ([.ref (a 0), .int (s), .int (h), .int (r)])).length) Slot.unset).toArray = ls at hl ⊢
  have hl : lv_has ls 4 [(0, .ref (a 0)), (1, .int (s)), (2, .int (h)), (3, .int (r))] := hl
  refine lv_aload_n hx hb dX5_turnUp_0 rfl (lv_at hl 0 rfl) ?_
  refine lv_iconst (v := nI 0) hx hb dX5_turnUp_1 (by decide) ?_
  refine k_puti (wM q a ((up S 0 0 (nI 0)))) hx hb hts in_X5_turnUp_X5 tyX5 tyX5_ok nmX5 hown hK hP hS 0 rfl rfl 0 (by decide) (hts _ fl_X5_turnUp_95) (fun _ h9 => h9) rfl (by decide +kernel) (Nat.le_of_ble_eq_true rfl) wM_f0_0 dX5_turnUp_2 (fun H locs hP hS => ?_)
  refine lv_iload_n hx hb dX5_turnUp_5 rfl (lv_at hl 1 rfl) ?_
  refine k_callS (rest := []) (r := bI (inP s (nI 0) (nI 11))) ⟨hx, hb, hml, hown, hts⟩ (c_X5_isSection l D q s) (va_cwS 1 hts gX5_turnUp_X5_isSection rfl rfl rfl (by decide +kernel) ⟨Nat.le_of_ble_eq_true rfl, Nat.le_of_ble_eq_true rfl⟩) hK trivial rfl hl.1 rfl (Nat.le_of_ble_eq_true rfl) dX5_turnUp_6 ⟨Nat.zero_le _, Nat.zero_le _⟩ (fun _ h => h) ?_
  refine k_if_ne (P := ¬ (inP s (nI 0) (nI 11))) (tgt := 18) hx hb dX5_turnUp_9 (by decide) bI_0 (fun c_1 => ?_) (fun c_1 => ?_)
  · skip
    have c_1 : inP s (nI 0) (nI 11) := Classical.not_not.mp c_1
    obtain ⟨e_s, b_s⟩ := inP_nat c_1 (by omega)
    rw [e_s] at hl
    refine lv_aload_n hx hb dX5_turnUp_18 rfl (lv_at hl 0 rfl) ?_
    refine lv_iload_n hx hb dX5_turnUp_19 rfl (lv_at hl 2 rfl) ?_
    refine k_callV (rest := []) (r := bI (inP h (nI 0) (((up S 0 0 (nI 0))) 0 1 - nI 1))) ⟨hx, hb, hml, hown, hts⟩ (c_X5_isOver l D q a ((up S 0 0 (nI 0))) h) (cwV 1 hts gX5_turnUp_X5_isOver rfl rfl rfl (by decide +kernel) ⟨Nat.le_of_ble_eq_true rfl, Nat.le_of_ble_eq_true rfl⟩) hK hP.1 (va_recv hK.1 hP.1 (ci := 6) (q0 := 0) rfl rfl) rfl hl.1 rfl (Nat.le_of_ble_eq_true rfl) dX5_turnUp_20 ⟨Nat.zero_le _, Nat.zero_le _⟩ (fun _ h => h) ?_
    refine k_if_eq (P := ¬ (inP h (nI 0) (((up S 0 0 (nI 0))) 0 1 - nI 1))) (tgt := 37) hx hb dX5_turnUp_23 (by decide) bI_0 (fun c_2 => ?_) (fun c_2 => ?_)
    · skip
      refine lv_aload_n hx hb dX5_turnUp_37 rfl (lv_at hl 0 rfl) ?_
      refine lv_iconst (v := nI 2) hx hb dX5_turnUp_38 (by decide) ?_
      refine k_goRi hS (va_runV (rest := []) ⟨hx, hb, hml, hown, hts⟩ (c_X5_fails l D q A a ((up S 0 0 (nI 0))) (nI 2)) (cwV 1 hts gX5_turnUp_X5_fails rfl rfl rfl (by decide +kernel) ⟨Nat.le_of_ble_eq_true rfl, Nat.le_of_ble_eq_true rfl⟩) ⟨kB_blind, (va_recv hK.1 hP.1 (ci := 6) (q0 := 0) rfl rfl), fun U hU hW => ⟨rfl, by rw [hU]; exact hP, hK.warm hW⟩⟩ rfl rfl hl.1 rfl (lv_room (Nat.le_of_ble_eq_true rfl)) dX5_turnUp_39 ⟨Nat.zero_le _, Nat.zero_le _⟩) (fun H locs hP hS => ?_)
      have eM : (up (up S 0 0 (nI 0)) 0 0 (nI 2)) = (moTurnUp S n w0 nl s h r).2 := by unfold moTurnUp; rw [if_pos c_1, if_neg c_2]
      rw [eM] at hP
      exact k_iretW hx hb hr hlocks hP hS (by unfold moTurnUp; rw [if_pos c_1, if_neg c_2]) dX5_turnUp_42
    · skip
      have c_2 : inP h (nI 0) (((up S 0 0 (nI 0))) 0 1 - nI 1) := Classical.not_not.mp c_2
      obtain ⟨e_h, b_h⟩ := inP_lt ((up_sn (by decide)).trans hw) c_2 (by omega)
      rw [e_h] at hl
      refine lv_iload_n hx hb dX5_turnUp_26 rfl (lv_at hl 3 rfl) ?_
      refine lv_iconst (v := nI 0) hx hb dX5_turnUp_27 (by decide) ?_
      refine lv_sipush (v := nI 30000) hx hb dX5_turnUp_28 (by decide) ?_
      refine k_callS (rest := []) (r := bI (inP r (nI 0) (nI 30000))) ⟨hx, hb, hml, hown, hts⟩ (c_X5_in l D q r (nI 0) (nI 30000)) (va_cwS 3 hts gX5_turnUp_X5_in rfl rfl rfl (by decide +kernel) ⟨Nat.le_of_ble_eq_true rfl, Nat.le_of_ble_eq_true rfl⟩) hK trivial rfl hl.1 rfl (Nat.le_of_ble_eq_true rfl) dX5_turnUp_31 ⟨Nat.zero_le _, Nat.zero_le _⟩ (fun _ h => h) ?_
      refine k_if_ne (P := ¬ (inP r (nI 0) (nI 30000))) (tgt := 43) hx hb dX5_turnUp_34 (by decide) bI_0 (fun c_3 => ?_) (fun c_3 => ?_)
      · skip
        have c_3 : inP r (nI 0) (nI 30000) := Classical.not_not.mp c_3
        refine lv_aload_n hx hb dX5_turnUp_43 rfl (lv_at hl 0 rfl) ?_
        refine va_get (D := D) (ci := 6) (v := .ref (a 8)) (C := RX5) (T := TX5) (N := 33) hx hb hts in_X5_turnUp_X5 hown hK.1 hP.1 0 rfl rfl 8 (by decide) (hts _ fl_X5_turnUp_29) (fun _ h9 => h9) rfl dX5_turnUp_44 ?_
        refine lv_iload_n hx hb dX5_turnUp_47 rfl (lv_at hl 1 rfl) ?_
        refine lv_iload_n hx hb dX5_turnUp_48 rfl (lv_at hl 2 rfl) ?_
        refine k_callS (rest := [.ref (a 8)]) (r := nI (h.toNatClampNeg * 12 + s.toNatClampNeg)) ⟨hx, hb, hml, hown, hts⟩ (c_X5_cell l D q s.toNatClampNeg h.toNatClampNeg) (va_cwS 2 hts gX5_turnUp_X5_cell rfl rfl rfl (by decide +kernel) ⟨Nat.le_of_ble_eq_true rfl, Nat.le_of_ble_eq_true rfl⟩) hK trivial rfl hl.1 rfl (Nat.le_of_ble_eq_true rfl) dX5_turnUp_49 ⟨Nat.zero_le _, Nat.zero_le _⟩ (fun _ h => h) ?_
        refine k_iald hx hb hK hP.1 7 rfl (h.toNatClampNeg * 12 + s.toNatClampNeg) rfl (by omega) (by decide) dX5_turnUp_52 ?_
        refine k_top (y := S 8 (h.toNatClampNeg * 12 + s.toNatClampNeg)) (congrFun (up_n (by decide)) _) ?_
        refine lv_iconst (v := (-1)) hx hb dX5_turnUp_53 (by decide) ?_
        refine k_icmp_eq (P := S 8 (h.toNatClampNeg * 12 + s.toNatClampNeg) = (-1)) (tgt := 63) hx hb dX5_turnUp_54 (by decide) Iff.rfl (fun c_4 => ?_) (fun c_4 => ?_)
        · skip
          refine lv_aload_n hx hb dX5_turnUp_63 rfl (lv_at hl 0 rfl) ?_
          refine k_goRv hS (va_runV (rest := []) ⟨hx, hb, hml, hown, hts⟩ (c_X5_keeps l D q A a ((up S 0 0 (nI 0))) n w0 nl ((up_sn (by decide)).trans hn) hn60 (okT_congr (up_n (by decide)) hot) ((up_sn (by decide)).trans hw) hw200 ((up_sn (by decide)).trans hls) hnl (okM_congr (up_n (by decide)) (up_n (by decide)) (up_n (by decide)) hom)) (cwV 0 hts gX5_turnUp_X5_keeps rfl rfl rfl (by decide +kernel) ⟨Nat.le_of_ble_eq_true rfl, Nat.le_of_ble_eq_true rfl⟩) ⟨kB_blind, (va_recv hK.1 hP.1 (ci := 6) (q0 := 0) rfl rfl), fun U hU hW => ⟨rfl, by rw [hU]; exact hP, hK.warm hW⟩⟩ rfl rfl hl.1 rfl (lv_room (Nat.le_of_ble_eq_true rfl)) dX5_turnUp_64 ⟨Nat.zero_le _, Nat.zero_le _⟩) (fun H locs hP hS => ?_)
          refine lv_aload_n hx hb dX5_turnUp_67 rfl (lv_at hl 0 rfl) ?_
          refine va_get (D := D) (ci := 6) (v := .ref (a 8)) (C := RX5) (T := TX5) (N := 33) hx hb hts in_X5_turnUp_X5 hown hK.1 hP.1 0 rfl rfl 8 (by decide) (hts _ fl_X5_turnUp_29) (fun _ h9 => h9) rfl dX5_turnUp_68 ?_
          refine lv_iload_n hx hb dX5_turnUp_71 rfl (lv_at hl 1 rfl) ?_
          refine lv_iload_n hx hb dX5_turnUp_72 rfl (lv_at hl 2 rfl) ?_
          refine k_callS (rest := [.ref (a 8)]) (r := nI (h.toNatClampNeg * 12 + s.toNatClampNeg)) ⟨hx, hb, hml, hown, hts⟩ (c_X5_cell l D q s.toNatClampNeg h.toNatClampNeg) (va_cwS 2 hts gX5_turnUp_X5_cell rfl rfl rfl (by decide +kernel) ⟨Nat.le_of_ble_eq_true rfl, Nat.le_of_ble_eq_true rfl⟩) hK trivial rfl hl.1 rfl (Nat.le_of_ble_eq_true rfl) dX5_turnUp_73 ⟨Nat.zero_le _, Nat.zero_le _⟩ (fun _ h => h) ?_
          refine lv_iload_n hx hb dX5_turnUp_76 rfl (lv_at hl 3 rfl) ?_
          refine k_iast (wM q a ((up ((kpM ((up S 0 0 (nI 0))) n w0 nl)) 8 (h.toNatClampNeg * 12 + s.toNatClampNeg) r))) hx hb hK hP hS 7 rfl (h.toNatClampNeg * 12 + s.toNatClampNeg) rfl (by omega) (by decide) wM_s7 dX5_turnUp_77 (fun H locs hP hS => ?_)
          refine lv_aload_n hx hb dX5_turnUp_78 rfl (lv_at hl 0 rfl) ?_
          refine k_goRi hS (va_runV (rest := []) ⟨hx, hb, hml, hown, hts⟩ (c_X5_corrects l D q A a ((up ((kpM ((up S 0 0 (nI 0))) n w0 nl)) 8 (h.toNatClampNeg * 12 + s.toNatClampNeg) r)) n w0 nl (((congrFun (up_n (by decide)) _).trans ((congrFun (kpM_n (by decide) nl) _).trans (up_sn (by decide)))).trans hn) hn60 (okT_congr ((up_n (by decide)).trans ((kpM_n (by decide) nl).trans (up_n (by decide)))) hot) (((congrFun (up_n (by decide)) _).trans ((congrFun (kpM_n (by decide) nl) _).trans (up_sn (by decide)))).trans hw) hw200 (((congrFun (up_n (by decide)) _).trans ((congrFun (kpM_n (by decide) nl) _).trans (up_sn (by decide)))).trans hls) hnl (okM_congr ((up_n (by decide)).trans ((kpM_n (by decide) nl).trans (up_n (by decide)))) ((up_n (by decide)).trans ((kpM_n (by decide) nl).trans (up_n (by decide)))) ((up_n (by decide)).trans ((kpM_n (by decide) nl).trans (up_n (by decide)))) hom)) (cwV 0 hts gX5_turnUp_X5_corrects rfl rfl rfl (by decide +kernel) ⟨Nat.le_of_ble_eq_true rfl, Nat.le_of_ble_eq_true rfl⟩) ⟨kB_blind, (va_recv hK.1 hP.1 (ci := 6) (q0 := 0) rfl rfl), fun U hU hW => ⟨rfl, by rw [hU]; exact hP, hK.warm hW⟩⟩ rfl rfl hl.1 rfl (lv_room (Nat.le_of_ble_eq_true rfl)) dX5_turnUp_79 ⟨Nat.zero_le _, Nat.zero_le _⟩) (fun H locs hP hS => ?_)
          have eM : (coF ((up ((kpM ((up S 0 0 (nI 0))) n w0 nl)) 8 (h.toNatClampNeg * 12 + s.toNatClampNeg) r)) n w0 nl).2 = (moTurnUp S n w0 nl s h r).2 := by unfold moTurnUp; rw [if_pos c_1, if_pos c_2, if_pos c_3, if_pos c_4]; try rfl
          rw [eM] at hP
          exact k_iretW hx hb hr hlocks hP hS (by unfold moTurnUp; rw [if_pos c_1, if_pos c_2, if_pos c_3, if_pos c_4]; try rfl) dX5_turnUp_82
        · skip
          refine lv_aload_n hx hb dX5_turnUp_57 rfl (lv_at hl 0 rfl) ?_
          refine lv_iconst (v := nI 3) hx hb dX5_turnUp_58 (by decide) ?_
          refine k_goRi hS (va_runV (rest := []) ⟨hx, hb, hml, hown, hts⟩ (c_X5_fails l D q A a ((up S 0 0 (nI 0))) (nI 3)) (cwV 1 hts gX5_turnUp_X5_fails rfl rfl rfl (by decide +kernel) ⟨Nat.le_of_ble_eq_true rfl, Nat.le_of_ble_eq_true rfl⟩) ⟨kB_blind, (va_recv hK.1 hP.1 (ci := 6) (q0 := 0) rfl rfl), fun U hU hW => ⟨rfl, by rw [hU]; exact hP, hK.warm hW⟩⟩ rfl rfl hl.1 rfl (lv_room (Nat.le_of_ble_eq_true rfl)) dX5_turnUp_59 ⟨Nat.zero_le _, Nat.zero_le _⟩) (fun H locs hP hS => ?_)
          have eM : (up (up S 0 0 (nI 0)) 0 0 (nI 3)) = (moTurnUp S n w0 nl s h r).2 := by unfold moTurnUp; rw [if_pos c_1, if_pos c_2, if_pos c_3, if_neg c_4]
          rw [eM] at hP
          exact k_iretW hx hb hr hlocks hP hS (by unfold moTurnUp; rw [if_pos c_1, if_pos c_2, if_pos c_3, if_neg c_4]) dX5_turnUp_62
      · skip
        refine lv_aload_n hx hb dX5_turnUp_37 rfl (lv_at hl 0 rfl) ?_
        refine lv_iconst (v := nI 2) hx hb dX5_turnUp_38 (by decide) ?_
        refine k_goRi hS (va_runV (rest := []) ⟨hx, hb, hml, hown, hts⟩ (c_X5_fails l D q A a ((up S 0 0 (nI 0))) (nI 2)) (cwV 1 hts gX5_turnUp_X5_fails rfl rfl rfl (by decide +kernel) ⟨Nat.le_of_ble_eq_true rfl, Nat.le_of_ble_eq_true rfl⟩) ⟨kB_blind, (va_recv hK.1 hP.1 (ci := 6) (q0 := 0) rfl rfl), fun U hU hW => ⟨rfl, by rw [hU]; exact hP, hK.warm hW⟩⟩ rfl rfl hl.1 rfl (lv_room (Nat.le_of_ble_eq_true rfl)) dX5_turnUp_39 ⟨Nat.zero_le _, Nat.zero_le _⟩) (fun H locs hP hS => ?_)
        have eM : (up (up S 0 0 (nI 0)) 0 0 (nI 2)) = (moTurnUp S n w0 nl s h r).2 := by unfold moTurnUp; rw [if_pos c_1, if_pos c_2, if_neg c_3]
        rw [eM] at hP
        exact k_iretW hx hb hr hlocks hP hS (by unfold moTurnUp; rw [if_pos c_1, if_pos c_2, if_neg c_3]) dX5_turnUp_42
  · skip
    refine lv_aload_n hx hb dX5_turnUp_12 rfl (lv_at hl 0 rfl) ?_
    refine lv_iconst (v := nI 1) hx hb dX5_turnUp_13 (by decide) ?_
    refine k_goRi hS (va_runV (rest := []) ⟨hx, hb, hml, hown, hts⟩ (c_X5_fails l D q A a ((up S 0 0 (nI 0))) (nI 1)) (cwV 1 hts gX5_turnUp_X5_fails rfl rfl rfl (by decide +kernel) ⟨Nat.le_of_ble_eq_true rfl, Nat.le_of_ble_eq_true rfl⟩) ⟨kB_blind, (va_recv hK.1 hP.1 (ci := 6) (q0 := 0) rfl rfl), fun U hU hW => ⟨rfl, by rw [hU]; exact hP, hK.warm hW⟩⟩ rfl rfl hl.1 rfl (lv_room (Nat.le_of_ble_eq_true rfl)) dX5_turnUp_14 ⟨Nat.zero_le _, Nat.zero_le _⟩) (fun H locs hP hS => ?_)
    have eM : (up (up S 0 0 (nI 0)) 0 0 (nI 1)) = (moTurnUp S n w0 nl s h r).2 := by unfold moTurnUp; rw [if_neg c_1]
    rw [eM] at hP
    exact k_iretW hx hb hr hlocks hP hS (by unfold moTurnUp; rw [if_neg c_1]) dX5_turnUp_17
theorem fl_X5_lease_47 : Cond.fieldLink RX5 47 "LampCountsModel" "door" "[I" ∈ wsX5_lease := by decide +kernel
theorem fl_X5_lease_50 : Cond.fieldLink RX5 50 "LampCountsModel" "tenant" "[I" ∈ wsX5_lease := by decide +kernel
theorem fl_X5_lease_53 : Cond.fieldLink RX5 53 "LampCountsModel" "base" "[I" ∈ wsX5_lease := by decide +kernel
theorem fl_X5_lease_56 : Cond.fieldLink RX5 56 "LampCountsModel" "rate" "[I" ∈ wsX5_lease := by decide +kernel
theorem fl_X5_lease_59 : Cond.fieldLink RX5 59 "LampCountsModel" "first" "[I" ∈ wsX5_lease := by decide +kernel
theorem fl_X5_lease_62 : Cond.fieldLink RX5 62 "LampCountsModel" "end" "[I" ∈ wsX5_lease := by decide +kernel
theorem fl_X5_lease_95 : Cond.fieldLink RX5 95 "LampCountsModel" "thrown" "I" ∈ wsX5_lease := by decide +kernel
theorem fl_X5_lease_103 : Cond.fieldLink RX5 103 "LampCountsModel" "now" "I" ∈ wsX5_lease := by decide +kernel
theorem fl_X5_lease_106 : Cond.fieldLink RX5 106 "LampCountsModel" "leases" "I" ∈ wsX5_lease := by decide +kernel
theorem in_X5_lease_X5 : ∀ w ∈ u_ws RX5 TX5 33, w ∈ wsX5_lease := by decide +kernel
set_option maxHeartbeats 4000000 in
set_option maxRecDepth 100000 in
theorem c_X5_lease (l : Launch) (D : va_G) (q : Nat → ClassId) (A : Nat → Prop) (a : Nat → Nat) (S : Nat → Nat → Int32) (d who ls0 by0 hrs : Int32) (w0 nl : Nat) (hw : S 0 1 = nI w0) (hw200 : w0 ≤ 200) (hls : S 0 15 = nI nl) (hnl : nl ≤ 30) : Met l yX5_lease wsX5_lease ({ frames := 1, cells := 0, slots := 0, locals := 25 } : Room) (va_Pc [.ref (a 0), .int (d), .int (who), .int (ls0), .int (by0), .int (hrs)] (kB D q (fun H => kW D A (wM q a S) H))) (kRi D A ((moLease S w0 nl d who ls0 by0 hrs).1) (wM q a ((moLease S w0 nl d who ls0 by0 hrs).2))) 0 0 A := by
  refine Met.ofW (cc := cX5_lease) (maxL := 6) (ret := (some .int)) (by decide) rfl ?_
  intro p e u m args below meth c s₁ B hml0 hv
  obtain ⟨rfl, hP, hK⟩ := hv
  have C0 : kAt p u m #[.ref (a 0), .int (d), .int (who), .int (ls0), .int (by0), .int (hrs)] meth c cX5_lease 6 (some .int) RX5 wsX5_lease := kAt_of B hml0
  obtain ⟨hx, hb, hr, hml, hown, hts, hlocks⟩ := id C0
  have hS : va_S A u.heap u.heap [] := va_S.rf
  have hl := lv_entry ([.ref (a 0), .int (d), .int (who), .int (ls0), .int (by0), .int (hrs)]) (n := 6) (Nat.le_of_ble_eq_true rfl)
  rw [lg_entry_eq]
  generalize (lg_sl ([.ref (a 0), .int (d), .int (who), .int (ls0), .int (by0), .int (hrs)]) ++ List.replicate (6 - (lg_sl ([.ref (a 0), .int (d), .int (who), .int (ls0), .int (by0), .int (hrs)])).length) Slot.unset).toArray = ls at hl ⊢
  have hl : lv_has ls 6 [(0, .ref (a 0)), (1, .int (d)), (2, .int (who)), (3, .int (ls0)), (4, .int (by0)), (5, .int (hrs))] := hl
  refine lv_aload_n hx hb dX5_lease_0 rfl (lv_at hl 0 rfl) ?_
  refine lv_iconst (v := nI 0) hx hb dX5_lease_1 (by decide) ?_
  refine k_puti (wM q a ((up S 0 0 (nI 0)))) hx hb hts in_X5_lease_X5 tyX5 tyX5_ok nmX5 hown hK hP hS 0 rfl rfl 0 (by decide) (hts _ fl_X5_lease_95) (fun _ h9 => h9) rfl (by decide +kernel) (Nat.le_of_ble_eq_true rfl) wM_f0_0 dX5_lease_2 (fun H locs hP hS => ?_)
  refine lv_iload_n hx hb dX5_lease_5 rfl (lv_at hl 1 rfl) ?_
  refine lv_iconst (v := nI 0) hx hb dX5_lease_6 (by decide) ?_
  refine lv_bipush (v := nI 35) hx hb dX5_lease_7 (by decide) ?_
  refine k_callS (rest := []) (r := bI (inP d (nI 0) (nI 35))) ⟨hx, hb, hml, hown, hts⟩ (c_X5_in l D q d (nI 0) (nI 35)) (va_cwS 3 hts gX5_lease_X5_in rfl rfl rfl (by decide +kernel) ⟨Nat.le_of_ble_eq_true rfl, Nat.le_of_ble_eq_true rfl⟩) hK trivial rfl hl.1 rfl (Nat.le_of_ble_eq_true rfl) dX5_lease_9 ⟨Nat.zero_le _, Nat.zero_le _⟩ (fun _ h => h) ?_
  refine k_if_eq (P := ¬ (inP d (nI 0) (nI 35))) (tgt := 24) hx hb dX5_lease_12 (by decide) bI_0 (fun c_1 => ?_) (fun c_1 => ?_)
  · skip
    refine lv_aload_n hx hb dX5_lease_24 rfl (lv_at hl 0 rfl) ?_
    refine lv_iconst (v := nI 1) hx hb dX5_lease_25 (by decide) ?_
    refine k_goRi hS (va_runV (rest := []) ⟨hx, hb, hml, hown, hts⟩ (c_X5_fails l D q A a ((up S 0 0 (nI 0))) (nI 1)) (cwV 1 hts gX5_lease_X5_fails rfl rfl rfl (by decide +kernel) ⟨Nat.le_of_ble_eq_true rfl, Nat.le_of_ble_eq_true rfl⟩) ⟨kB_blind, (va_recv hK.1 hP.1 (ci := 6) (q0 := 0) rfl rfl), fun U hU hW => ⟨rfl, by rw [hU]; exact hP, hK.warm hW⟩⟩ rfl rfl hl.1 rfl (lv_room (Nat.le_of_ble_eq_true rfl)) dX5_lease_26 ⟨Nat.zero_le _, Nat.zero_le _⟩) (fun H locs hP hS => ?_)
    have eM : (up (up S 0 0 (nI 0)) 0 0 (nI 1)) = (moLease S w0 nl d who ls0 by0 hrs).2 := by unfold moLease; rw [if_neg c_1]; try rfl
    rw [eM] at hP
    exact k_iretW hx hb hr hlocks hP hS (by unfold moLease; rw [if_neg c_1]; try rfl) dX5_lease_29
  · skip
    have c_1 : inP d (nI 0) (nI 35) := Classical.not_not.mp c_1
    refine lv_iload_n hx hb dX5_lease_15 rfl (lv_at hl 2 rfl) ?_
    refine lv_iconst (v := nI 0) hx hb dX5_lease_16 (by decide) ?_
    refine lv_iconst (v := nI 5) hx hb dX5_lease_17 (by decide) ?_
    refine k_callS (rest := []) (r := bI (inP who (nI 0) (nI 5))) ⟨hx, hb, hml, hown, hts⟩ (c_X5_in l D q who (nI 0) (nI 5)) (va_cwS 3 hts gX5_lease_X5_in rfl rfl rfl (by decide +kernel) ⟨Nat.le_of_ble_eq_true rfl, Nat.le_of_ble_eq_true rfl⟩) hK trivial rfl hl.1 rfl (Nat.le_of_ble_eq_true rfl) dX5_lease_18 ⟨Nat.zero_le _, Nat.zero_le _⟩ (fun _ h => h) ?_
    refine k_if_ne (P := ¬ (inP who (nI 0) (nI 5))) (tgt := 30) hx hb dX5_lease_21 (by decide) bI_0 (fun c_2 => ?_) (fun c_2 => ?_)
    · skip
      have c_2 : inP who (nI 0) (nI 5) := Classical.not_not.mp c_2
      refine lv_iload_n hx hb dX5_lease_30 rfl (lv_at hl 3 rfl) ?_
      refine lv_iconst (v := nI 0) hx hb dX5_lease_31 (by decide) ?_
      refine lv_bipush (v := nI 50) hx hb dX5_lease_32 (by decide) ?_
      refine k_callS (rest := []) (r := bI (inP ls0 (nI 0) (nI 50))) ⟨hx, hb, hml, hown, hts⟩ (c_X5_in l D q ls0 (nI 0) (nI 50)) (va_cwS 3 hts gX5_lease_X5_in rfl rfl rfl (by decide +kernel) ⟨Nat.le_of_ble_eq_true rfl, Nat.le_of_ble_eq_true rfl⟩) hK trivial rfl hl.1 rfl (Nat.le_of_ble_eq_true rfl) dX5_lease_34 ⟨Nat.zero_le _, Nat.zero_le _⟩ (fun _ h => h) ?_
      refine k_if_eq (P := ¬ (inP ls0 (nI 0) (nI 50))) (tgt := 62) hx hb dX5_lease_37 (by decide) bI_0 (fun c_3 => ?_) (fun c_3 => ?_)
      · skip
        refine lv_aload_n hx hb dX5_lease_62 rfl (lv_at hl 0 rfl) ?_
        refine lv_iconst (v := nI 2) hx hb dX5_lease_63 (by decide) ?_
        refine k_goRi hS (va_runV (rest := []) ⟨hx, hb, hml, hown, hts⟩ (c_X5_fails l D q A a ((up S 0 0 (nI 0))) (nI 2)) (cwV 1 hts gX5_lease_X5_fails rfl rfl rfl (by decide +kernel) ⟨Nat.le_of_ble_eq_true rfl, Nat.le_of_ble_eq_true rfl⟩) ⟨kB_blind, (va_recv hK.1 hP.1 (ci := 6) (q0 := 0) rfl rfl), fun U hU hW => ⟨rfl, by rw [hU]; exact hP, hK.warm hW⟩⟩ rfl rfl hl.1 rfl (lv_room (Nat.le_of_ble_eq_true rfl)) dX5_lease_64 ⟨Nat.zero_le _, Nat.zero_le _⟩) (fun H locs hP hS => ?_)
        have eM : (up (up S 0 0 (nI 0)) 0 0 (nI 2)) = (moLease S w0 nl d who ls0 by0 hrs).2 := by unfold moLease; rw [if_pos c_1, if_pos c_2, if_neg c_3]; try rfl
        rw [eM] at hP
        exact k_iretW hx hb hr hlocks hP hS (by unfold moLease; rw [if_pos c_1, if_pos c_2, if_neg c_3]; try rfl) dX5_lease_67
      · skip
        have c_3 : inP ls0 (nI 0) (nI 50) := Classical.not_not.mp c_3
        refine lv_iload hx hb dX5_lease_40 (lv_at hl 4 rfl) ?_
        refine lv_iconst (v := nI 0) hx hb dX5_lease_42 (by decide) ?_
        refine lv_bipush (v := nI 50) hx hb dX5_lease_43 (by decide) ?_
        refine k_callS (rest := []) (r := bI (inP by0 (nI 0) (nI 50))) ⟨hx, hb, hml, hown, hts⟩ (c_X5_in l D q by0 (nI 0) (nI 50)) (va_cwS 3 hts gX5_lease_X5_in rfl rfl rfl (by decide +kernel) ⟨Nat.le_of_ble_eq_true rfl, Nat.le_of_ble_eq_true rfl⟩) hK trivial rfl hl.1 rfl (Nat.le_of_ble_eq_true rfl) dX5_lease_45 ⟨Nat.zero_le _, Nat.zero_le _⟩ (fun _ h => h) ?_
        refine k_if_eq (P := ¬ (inP by0 (nI 0) (nI 50))) (tgt := 62) hx hb dX5_lease_48 (by decide) bI_0 (fun c_4 => ?_) (fun c_4 => ?_)
        · skip
          refine lv_aload_n hx hb dX5_lease_62 rfl (lv_at hl 0 rfl) ?_
          refine lv_iconst (v := nI 2) hx hb dX5_lease_63 (by decide) ?_
          refine k_goRi hS (va_runV (rest := []) ⟨hx, hb, hml, hown, hts⟩ (c_X5_fails l D q A a ((up S 0 0 (nI 0))) (nI 2)) (cwV 1 hts gX5_lease_X5_fails rfl rfl rfl (by decide +kernel) ⟨Nat.le_of_ble_eq_true rfl, Nat.le_of_ble_eq_true rfl⟩) ⟨kB_blind, (va_recv hK.1 hP.1 (ci := 6) (q0 := 0) rfl rfl), fun U hU hW => ⟨rfl, by rw [hU]; exact hP, hK.warm hW⟩⟩ rfl rfl hl.1 rfl (lv_room (Nat.le_of_ble_eq_true rfl)) dX5_lease_64 ⟨Nat.zero_le _, Nat.zero_le _⟩) (fun H locs hP hS => ?_)
          have eM : (up (up S 0 0 (nI 0)) 0 0 (nI 2)) = (moLease S w0 nl d who ls0 by0 hrs).2 := by unfold moLease; rw [if_pos c_1, if_pos c_2, if_pos c_3, if_neg c_4]; try rfl
          rw [eM] at hP
          exact k_iretW hx hb hr hlocks hP hS (by unfold moLease; rw [if_pos c_1, if_pos c_2, if_pos c_3, if_neg c_4]; try rfl) dX5_lease_67
        · skip
          have c_4 : inP by0 (nI 0) (nI 50) := Classical.not_not.mp c_4
          refine lv_iload hx hb dX5_lease_51 (lv_at hl 5 rfl) ?_
          refine lv_iconst (v := nI 1) hx hb dX5_lease_53 (by decide) ?_
          refine lv_bipush (v := nI 100) hx hb dX5_lease_54 (by decide) ?_
          refine k_callS (rest := []) (r := bI (inP hrs (nI 1) (nI 100))) ⟨hx, hb, hml, hown, hts⟩ (c_X5_in l D q hrs (nI 1) (nI 100)) (va_cwS 3 hts gX5_lease_X5_in rfl rfl rfl (by decide +kernel) ⟨Nat.le_of_ble_eq_true rfl, Nat.le_of_ble_eq_true rfl⟩) hK trivial rfl hl.1 rfl (Nat.le_of_ble_eq_true rfl) dX5_lease_56 ⟨Nat.zero_le _, Nat.zero_le _⟩ (fun _ h => h) ?_
          refine k_if_ne (P := ¬ (inP hrs (nI 1) (nI 100))) (tgt := 68) hx hb dX5_lease_59 (by decide) bI_0 (fun c_5 => ?_) (fun c_5 => ?_)
          · skip
            have c_5 : inP hrs (nI 1) (nI 100) := Classical.not_not.mp c_5
            obtain ⟨e_hrs, b_hrs⟩ := inP_nat1 c_5 (by decide)
            rw [e_hrs] at hl
            refine lv_aload_n hx hb dX5_lease_68 rfl (lv_at hl 0 rfl) ?_
            refine va_get (D := D) (ci := 6) (v := .int (((up S 0 0 (nI 0))) 0 15)) (C := RX5) (T := TX5) (N := 33) hx hb hts in_X5_lease_X5 hown hK.1 hP.1 0 rfl rfl 15 (by decide) (hts _ fl_X5_lease_106) (fun _ h9 => h9) rfl dX5_lease_69 ?_
            refine k_top (y := S 0 15) (up_sn (by decide)) ?_
            refine k_top (y := nI nl) hls ?_
            refine lv_bipush (v := nI 30) hx hb dX5_lease_72 (by decide) ?_
            refine k_icmp_eq (P := nl = 30) (tgt := 96) hx hb dX5_lease_74 (by decide) (nI_eq (by omega) (by omega)) (fun c_6 => ?_) (fun c_6 => ?_)
            · skip
              refine lv_aload_n hx hb dX5_lease_96 rfl (lv_at hl 0 rfl) ?_
              refine lv_iconst (v := nI 3) hx hb dX5_lease_97 (by decide) ?_
              refine k_goRi hS (va_runV (rest := []) ⟨hx, hb, hml, hown, hts⟩ (c_X5_fails l D q A a ((up S 0 0 (nI 0))) (nI 3)) (cwV 1 hts gX5_lease_X5_fails rfl rfl rfl (by decide +kernel) ⟨Nat.le_of_ble_eq_true rfl, Nat.le_of_ble_eq_true rfl⟩) ⟨kB_blind, (va_recv hK.1 hP.1 (ci := 6) (q0 := 0) rfl rfl), fun U hU hW => ⟨rfl, by rw [hU]; exact hP, hK.warm hW⟩⟩ rfl rfl hl.1 rfl (lv_room (Nat.le_of_ble_eq_true rfl)) dX5_lease_98 ⟨Nat.zero_le _, Nat.zero_le _⟩) (fun H locs hP hS => ?_)
              have eM : (up (up S 0 0 (nI 0)) 0 0 (nI 3)) = (moLease S w0 nl d who ls0 by0 hrs).2 := by unfold moLease; rw [if_pos c_1, if_pos c_2, if_pos c_3, if_pos c_4, if_pos c_5, if_pos c_6]; try rfl
              rw [eM] at hP
              exact k_iretW hx hb hr hlocks hP hS (by unfold moLease; rw [if_pos c_1, if_pos c_2, if_pos c_3, if_pos c_4, if_pos c_5, if_pos c_6]; try rfl) dX5_lease_101
            · skip
              refine lv_aload_n hx hb dX5_lease_77 rfl (lv_at hl 0 rfl) ?_
              refine lv_iload_n hx hb dX5_lease_78 rfl (lv_at hl 1 rfl) ?_
              refine lv_aload_n hx hb dX5_lease_79 rfl (lv_at hl 0 rfl) ?_
              refine va_get (D := D) (ci := 6) (v := .int (((up S 0 0 (nI 0))) 0 1)) (C := RX5) (T := TX5) (N := 33) hx hb hts in_X5_lease_X5 hown hK.1 hP.1 0 rfl rfl 1 (by decide) (hts _ fl_X5_lease_103) (fun _ h9 => h9) rfl dX5_lease_80 ?_
              refine k_top (y := S 0 1) (up_sn (by decide)) ?_
              refine k_top (y := nI w0) hw ?_
              refine lv_aload_n hx hb dX5_lease_83 rfl (lv_at hl 0 rfl) ?_
              refine va_get (D := D) (ci := 6) (v := .int (((up S 0 0 (nI 0))) 0 1)) (C := RX5) (T := TX5) (N := 33) hx hb hts in_X5_lease_X5 hown hK.1 hP.1 0 rfl rfl 1 (by decide) (hts _ fl_X5_lease_103) (fun _ h9 => h9) rfl dX5_lease_84 ?_
              refine k_top (y := S 0 1) (up_sn (by decide)) ?_
              refine k_top (y := nI w0) hw ?_
              refine lv_iload hx hb dX5_lease_87 (lv_at hl 5 rfl) ?_
              refine lv_iadd hx hb dX5_lease_89 ?_
              refine k_top (y := nI (w0 + hrs.toNatClampNeg)) (nI_add _ _) ?_
              refine k_callV (rest := []) (r := bI (frF ((up S 0 0 (nI 0))) d (nI w0) (nI (w0 + hrs.toNatClampNeg)) nl = true)) ⟨hx, hb, hml, hown, hts⟩ (c_X5_isFree l D q a ((up S 0 0 (nI 0))) d (nI w0) (nI (w0 + hrs.toNatClampNeg)) nl hls hnl) (cwV 3 hts gX5_lease_X5_isFree rfl rfl rfl (by decide +kernel) ⟨Nat.le_of_ble_eq_true rfl, Nat.le_of_ble_eq_true rfl⟩) hK hP.1 (va_recv hK.1 hP.1 (ci := 6) (q0 := 0) rfl rfl) rfl hl.1 rfl (Nat.le_of_ble_eq_true rfl) dX5_lease_90 ⟨Nat.zero_le _, Nat.zero_le _⟩ (fun _ h => h) ?_
              refine k_if_ne (P := ¬ (frF ((up S 0 0 (nI 0))) d (nI w0) (nI (w0 + hrs.toNatClampNeg)) nl = true)) (tgt := 102) hx hb dX5_lease_93 (by decide) bI_0 (fun c_7 => ?_) (fun c_7 => ?_)
              · skip
                have c_7 : frF ((up S 0 0 (nI 0))) d (nI w0) (nI (w0 + hrs.toNatClampNeg)) nl = true := Classical.not_not.mp c_7
                refine lv_aload_n hx hb dX5_lease_102 rfl (lv_at hl 0 rfl) ?_
                refine va_get (D := D) (ci := 6) (v := .ref (a 16)) (C := RX5) (T := TX5) (N := 33) hx hb hts in_X5_lease_X5 hown hK.1 hP.1 0 rfl rfl 16 (by decide) (hts _ fl_X5_lease_47) (fun _ h9 => h9) rfl dX5_lease_103 ?_
                refine lv_aload_n hx hb dX5_lease_106 rfl (lv_at hl 0 rfl) ?_
                refine va_get (D := D) (ci := 6) (v := .int (((up S 0 0 (nI 0))) 0 15)) (C := RX5) (T := TX5) (N := 33) hx hb hts in_X5_lease_X5 hown hK.1 hP.1 0 rfl rfl 15 (by decide) (hts _ fl_X5_lease_106) (fun _ h9 => h9) rfl dX5_lease_107 ?_
                refine k_top (y := S 0 15) (up_sn (by decide)) ?_
                refine k_top (y := nI nl) hls ?_
                refine lv_iload_n hx hb dX5_lease_110 rfl (lv_at hl 1 rfl) ?_
                refine k_iast (wM q a ((up (up S 0 0 (nI 0)) 16 nl d))) hx hb hK hP hS 13 rfl nl rfl (by omega) (by decide) wM_s13 dX5_lease_111 (fun H locs hP hS => ?_)
                refine lv_aload_n hx hb dX5_lease_112 rfl (lv_at hl 0 rfl) ?_
                refine va_get (D := D) (ci := 6) (v := .ref (a 17)) (C := RX5) (T := TX5) (N := 33) hx hb hts in_X5_lease_X5 hown hK.1 hP.1 0 rfl rfl 17 (by decide) (hts _ fl_X5_lease_50) (fun _ h9 => h9) rfl dX5_lease_113 ?_
                refine lv_aload_n hx hb dX5_lease_116 rfl (lv_at hl 0 rfl) ?_
                refine va_get (D := D) (ci := 6) (v := .int (((up (up S 0 0 (nI 0)) 16 nl d)) 0 15)) (C := RX5) (T := TX5) (N := 33) hx hb hts in_X5_lease_X5 hown hK.1 hP.1 0 rfl rfl 15 (by decide) (hts _ fl_X5_lease_106) (fun _ h9 => h9) rfl dX5_lease_117 ?_
                refine k_top (y := S 0 15) ((congrFun (up_n (by decide)) _).trans (up_sn (by decide))) ?_
                refine k_top (y := nI nl) hls ?_
                refine lv_iload_n hx hb dX5_lease_120 rfl (lv_at hl 2 rfl) ?_
                refine k_iast (wM q a ((up (up (up S 0 0 (nI 0)) 16 nl d) 17 nl who))) hx hb hK hP hS 14 rfl nl rfl (by omega) (by decide) wM_s14 dX5_lease_121 (fun H locs hP hS => ?_)
                refine lv_aload_n hx hb dX5_lease_122 rfl (lv_at hl 0 rfl) ?_
                refine va_get (D := D) (ci := 6) (v := .ref (a 18)) (C := RX5) (T := TX5) (N := 33) hx hb hts in_X5_lease_X5 hown hK.1 hP.1 0 rfl rfl 18 (by decide) (hts _ fl_X5_lease_53) (fun _ h9 => h9) rfl dX5_lease_123 ?_
                refine lv_aload_n hx hb dX5_lease_126 rfl (lv_at hl 0 rfl) ?_
                refine va_get (D := D) (ci := 6) (v := .int (((up (up (up S 0 0 (nI 0)) 16 nl d) 17 nl who)) 0 15)) (C := RX5) (T := TX5) (N := 33) hx hb hts in_X5_lease_X5 hown hK.1 hP.1 0 rfl rfl 15 (by decide) (hts _ fl_X5_lease_106) (fun _ h9 => h9) rfl dX5_lease_127 ?_
                refine k_top (y := S 0 15) ((congrFun (up_n (by decide)) _).trans ((congrFun (up_n (by decide)) _).trans (up_sn (by decide)))) ?_
                refine k_top (y := nI nl) hls ?_
                refine lv_iload_n hx hb dX5_lease_130 rfl (lv_at hl 3 rfl) ?_
                refine k_iast (wM q a ((up (up (up (up S 0 0 (nI 0)) 16 nl d) 17 nl who) 18 nl ls0))) hx hb hK hP hS 15 rfl nl rfl (by omega) (by decide) wM_s15 dX5_lease_131 (fun H locs hP hS => ?_)
                refine lv_aload_n hx hb dX5_lease_132 rfl (lv_at hl 0 rfl) ?_
                refine va_get (D := D) (ci := 6) (v := .ref (a 19)) (C := RX5) (T := TX5) (N := 33) hx hb hts in_X5_lease_X5 hown hK.1 hP.1 0 rfl rfl 19 (by decide) (hts _ fl_X5_lease_56) (fun _ h9 => h9) rfl dX5_lease_133 ?_
                refine lv_aload_n hx hb dX5_lease_136 rfl (lv_at hl 0 rfl) ?_
                refine va_get (D := D) (ci := 6) (v := .int (((up (up (up (up S 0 0 (nI 0)) 16 nl d) 17 nl who) 18 nl ls0)) 0 15)) (C := RX5) (T := TX5) (N := 33) hx hb hts in_X5_lease_X5 hown hK.1 hP.1 0 rfl rfl 15 (by decide) (hts _ fl_X5_lease_106) (fun _ h9 => h9) rfl dX5_lease_137 ?_
                refine k_top (y := S 0 15) ((congrFun (up_n (by decide)) _).trans ((congrFun (up_n (by decide)) _).trans ((congrFun (up_n (by decide)) _).trans (up_sn (by decide))))) ?_
                refine k_top (y := nI nl) hls ?_
                refine lv_iload hx hb dX5_lease_140 (lv_at hl 4 rfl) ?_
                refine k_iast (wM q a ((up (up (up (up (up S 0 0 (nI 0)) 16 nl d) 17 nl who) 18 nl ls0) 19 nl by0))) hx hb hK hP hS 16 rfl nl rfl (by omega) (by decide) wM_s16 dX5_lease_142 (fun H locs hP hS => ?_)
                refine lv_aload_n hx hb dX5_lease_143 rfl (lv_at hl 0 rfl) ?_
                refine va_get (D := D) (ci := 6) (v := .ref (a 20)) (C := RX5) (T := TX5) (N := 33) hx hb hts in_X5_lease_X5 hown hK.1 hP.1 0 rfl rfl 20 (by decide) (hts _ fl_X5_lease_59) (fun _ h9 => h9) rfl dX5_lease_144 ?_
                refine lv_aload_n hx hb dX5_lease_147 rfl (lv_at hl 0 rfl) ?_
                refine va_get (D := D) (ci := 6) (v := .int (((up (up (up (up (up S 0 0 (nI 0)) 16 nl d) 17 nl who) 18 nl ls0) 19 nl by0)) 0 15)) (C := RX5) (T := TX5) (N := 33) hx hb hts in_X5_lease_X5 hown hK.1 hP.1 0 rfl rfl 15 (by decide) (hts _ fl_X5_lease_106) (fun _ h9 => h9) rfl dX5_lease_148 ?_
                refine k_top (y := S 0 15) ((congrFun (up_n (by decide)) _).trans ((congrFun (up_n (by decide)) _).trans ((congrFun (up_n (by decide)) _).trans ((congrFun (up_n (by decide)) _).trans (up_sn (by decide)))))) ?_
                refine k_top (y := nI nl) hls ?_
                refine lv_aload_n hx hb dX5_lease_151 rfl (lv_at hl 0 rfl) ?_
                refine va_get (D := D) (ci := 6) (v := .int (((up (up (up (up (up S 0 0 (nI 0)) 16 nl d) 17 nl who) 18 nl ls0) 19 nl by0)) 0 1)) (C := RX5) (T := TX5) (N := 33) hx hb hts in_X5_lease_X5 hown hK.1 hP.1 0 rfl rfl 1 (by decide) (hts _ fl_X5_lease_103) (fun _ h9 => h9) rfl dX5_lease_152 ?_
                refine k_top (y := S 0 1) ((congrFun (up_n (by decide)) _).trans ((congrFun (up_n (by decide)) _).trans ((congrFun (up_n (by decide)) _).trans ((congrFun (up_n (by decide)) _).trans (up_sn (by decide)))))) ?_
                refine k_top (y := nI w0) hw ?_
                refine k_iast (wM q a ((up (up (up (up (up (up S 0 0 (nI 0)) 16 nl d) 17 nl who) 18 nl ls0) 19 nl by0) 20 nl (nI w0)))) hx hb hK hP hS 17 rfl nl rfl (by omega) (by decide) wM_s17 dX5_lease_155 (fun H locs hP hS => ?_)
                refine lv_aload_n hx hb dX5_lease_156 rfl (lv_at hl 0 rfl) ?_
                refine va_get (D := D) (ci := 6) (v := .ref (a 21)) (C := RX5) (T := TX5) (N := 33) hx hb hts in_X5_lease_X5 hown hK.1 hP.1 0 rfl rfl 21 (by decide) (hts _ fl_X5_lease_62) (fun _ h9 => h9) rfl dX5_lease_157 ?_
                refine lv_aload_n hx hb dX5_lease_160 rfl (lv_at hl 0 rfl) ?_
                refine va_get (D := D) (ci := 6) (v := .int (((up (up (up (up (up (up S 0 0 (nI 0)) 16 nl d) 17 nl who) 18 nl ls0) 19 nl by0) 20 nl (nI w0))) 0 15)) (C := RX5) (T := TX5) (N := 33) hx hb hts in_X5_lease_X5 hown hK.1 hP.1 0 rfl rfl 15 (by decide) (hts _ fl_X5_lease_106) (fun _ h9 => h9) rfl dX5_lease_161 ?_
                refine k_top (y := S 0 15) ((congrFun (up_n (by decide)) _).trans ((congrFun (up_n (by decide)) _).trans ((congrFun (up_n (by decide)) _).trans ((congrFun (up_n (by decide)) _).trans ((congrFun (up_n (by decide)) _).trans (up_sn (by decide))))))) ?_
                refine k_top (y := nI nl) hls ?_
                refine lv_aload_n hx hb dX5_lease_164 rfl (lv_at hl 0 rfl) ?_
                refine va_get (D := D) (ci := 6) (v := .int (((up (up (up (up (up (up S 0 0 (nI 0)) 16 nl d) 17 nl who) 18 nl ls0) 19 nl by0) 20 nl (nI w0))) 0 1)) (C := RX5) (T := TX5) (N := 33) hx hb hts in_X5_lease_X5 hown hK.1 hP.1 0 rfl rfl 1 (by decide) (hts _ fl_X5_lease_103) (fun _ h9 => h9) rfl dX5_lease_165 ?_
                refine k_top (y := S 0 1) ((congrFun (up_n (by decide)) _).trans ((congrFun (up_n (by decide)) _).trans ((congrFun (up_n (by decide)) _).trans ((congrFun (up_n (by decide)) _).trans ((congrFun (up_n (by decide)) _).trans (up_sn (by decide))))))) ?_
                refine k_top (y := nI w0) hw ?_
                refine lv_iload hx hb dX5_lease_168 (lv_at hl 5 rfl) ?_
                refine lv_iadd hx hb dX5_lease_170 ?_
                refine k_top (y := nI (w0 + hrs.toNatClampNeg)) (nI_add _ _) ?_
                refine k_iast (wM q a ((up (up (up (up (up (up (up S 0 0 (nI 0)) 16 nl d) 17 nl who) 18 nl ls0) 19 nl by0) 20 nl (nI w0)) 21 nl (nI (w0 + hrs.toNatClampNeg))))) hx hb hK hP hS 18 rfl nl rfl (by omega) (by decide) wM_s18 dX5_lease_171 (fun H locs hP hS => ?_)
                refine lv_aload_n hx hb dX5_lease_172 rfl (lv_at hl 0 rfl) ?_
                refine lv_dup hx hb dX5_lease_173 rfl ?_
                refine va_get (D := D) (ci := 6) (v := .int (((up (up (up (up (up (up (up S 0 0 (nI 0)) 16 nl d) 17 nl who) 18 nl ls0) 19 nl by0) 20 nl (nI w0)) 21 nl (nI (w0 + hrs.toNatClampNeg)))) 0 15)) (C := RX5) (T := TX5) (N := 33) hx hb hts in_X5_lease_X5 hown hK.1 hP.1 0 rfl rfl 15 (by decide) (hts _ fl_X5_lease_106) (fun _ h9 => h9) rfl dX5_lease_174 ?_
                refine k_top (y := S 0 15) ((congrFun (up_n (by decide)) _).trans ((congrFun (up_n (by decide)) _).trans ((congrFun (up_n (by decide)) _).trans ((congrFun (up_n (by decide)) _).trans ((congrFun (up_n (by decide)) _).trans ((congrFun (up_n (by decide)) _).trans (up_sn (by decide)))))))) ?_
                refine k_top (y := nI nl) hls ?_
                refine lv_iconst (v := nI 1) hx hb dX5_lease_177 (by decide) ?_
                refine lv_iadd hx hb dX5_lease_178 ?_
                refine k_top (y := nI (nl + 1)) (nI_add _ _) ?_
                refine k_puti (wM q a ((up (up (up (up (up (up (up (up S 0 0 (nI 0)) 16 nl d) 17 nl who) 18 nl ls0) 19 nl by0) 20 nl (nI w0)) 21 nl (nI (w0 + hrs.toNatClampNeg))) 0 15 (nI (nl + 1))))) hx hb hts in_X5_lease_X5 tyX5 tyX5_ok nmX5 hown hK hP hS 0 rfl rfl 15 (by decide) (hts _ fl_X5_lease_106) (fun _ h9 => h9) rfl (by decide +kernel) (Nat.le_of_ble_eq_true rfl) wM_f0_15 dX5_lease_179 (fun H locs hP hS => ?_)
                refine lv_aload_n hx hb dX5_lease_182 rfl (lv_at hl 0 rfl) ?_
                refine va_get (D := D) (ci := 6) (v := .int (((up (up (up (up (up (up (up (up S 0 0 (nI 0)) 16 nl d) 17 nl who) 18 nl ls0) 19 nl by0) 20 nl (nI w0)) 21 nl (nI (w0 + hrs.toNatClampNeg))) 0 15 (nI (nl + 1)))) 0 15)) (C := RX5) (T := TX5) (N := 33) hx hb hts in_X5_lease_X5 hown hK.1 hP.1 0 rfl rfl 15 (by decide) (hts _ fl_X5_lease_106) (fun _ h9 => h9) rfl dX5_lease_183 ?_
                refine k_top (y := nI (nl + 1)) (up_si _ _ _ _) ?_
                refine lv_iconst (v := nI 1) hx hb dX5_lease_186 (by decide) ?_
                refine lv_isub hx hb dX5_lease_187 ?_
                refine k_top (y := nI nl) (k_pred _) ?_
                have eM : (up (up (up (up (up (up (up (up S 0 0 (nI 0)) 16 nl d) 17 nl who) 18 nl ls0) 19 nl by0) 20 nl (nI w0)) 21 nl (nI (w0 + hrs.toNatClampNeg))) 0 15 (nI (nl + 1))) = (moLease S w0 nl d who ls0 by0 hrs).2 := by unfold moLease; rw [if_pos c_1, if_pos c_2, if_pos c_3, if_pos c_4, if_pos c_5, if_neg c_6, if_pos c_7]; try rfl
                rw [eM] at hP
                exact k_iretW hx hb hr hlocks hP hS (by unfold moLease; rw [if_pos c_1, if_pos c_2, if_pos c_3, if_pos c_4, if_pos c_5, if_neg c_6, if_pos c_7]; try rfl) dX5_lease_188
              · skip
                refine lv_aload_n hx hb dX5_lease_96 rfl (lv_at hl 0 rfl) ?_
                refine lv_iconst (v := nI 3) hx hb dX5_lease_97 (by decide) ?_
                refine k_goRi hS (va_runV (rest := []) ⟨hx, hb, hml, hown, hts⟩ (c_X5_fails l D q A a ((up S 0 0 (nI 0))) (nI 3)) (cwV 1 hts gX5_lease_X5_fails rfl rfl rfl (by decide +kernel) ⟨Nat.le_of_ble_eq_true rfl, Nat.le_of_ble_eq_true rfl⟩) ⟨kB_blind, (va_recv hK.1 hP.1 (ci := 6) (q0 := 0) rfl rfl), fun U hU hW => ⟨rfl, by rw [hU]; exact hP, hK.warm hW⟩⟩ rfl rfl hl.1 rfl (lv_room (Nat.le_of_ble_eq_true rfl)) dX5_lease_98 ⟨Nat.zero_le _, Nat.zero_le _⟩) (fun H locs hP hS => ?_)
                have eM : (up (up S 0 0 (nI 0)) 0 0 (nI 3)) = (moLease S w0 nl d who ls0 by0 hrs).2 := by unfold moLease; rw [if_pos c_1, if_pos c_2, if_pos c_3, if_pos c_4, if_pos c_5, if_neg c_6, if_neg c_7]; try rfl
                rw [eM] at hP
                exact k_iretW hx hb hr hlocks hP hS (by unfold moLease; rw [if_pos c_1, if_pos c_2, if_pos c_3, if_pos c_4, if_pos c_5, if_neg c_6, if_neg c_7]; try rfl) dX5_lease_101
          · skip
            refine lv_aload_n hx hb dX5_lease_62 rfl (lv_at hl 0 rfl) ?_
            refine lv_iconst (v := nI 2) hx hb dX5_lease_63 (by decide) ?_
            refine k_goRi hS (va_runV (rest := []) ⟨hx, hb, hml, hown, hts⟩ (c_X5_fails l D q A a ((up S 0 0 (nI 0))) (nI 2)) (cwV 1 hts gX5_lease_X5_fails rfl rfl rfl (by decide +kernel) ⟨Nat.le_of_ble_eq_true rfl, Nat.le_of_ble_eq_true rfl⟩) ⟨kB_blind, (va_recv hK.1 hP.1 (ci := 6) (q0 := 0) rfl rfl), fun U hU hW => ⟨rfl, by rw [hU]; exact hP, hK.warm hW⟩⟩ rfl rfl hl.1 rfl (lv_room (Nat.le_of_ble_eq_true rfl)) dX5_lease_64 ⟨Nat.zero_le _, Nat.zero_le _⟩) (fun H locs hP hS => ?_)
            have eM : (up (up S 0 0 (nI 0)) 0 0 (nI 2)) = (moLease S w0 nl d who ls0 by0 hrs).2 := by unfold moLease; rw [if_pos c_1, if_pos c_2, if_pos c_3, if_pos c_4, if_neg c_5]; try rfl
            rw [eM] at hP
            exact k_iretW hx hb hr hlocks hP hS (by unfold moLease; rw [if_pos c_1, if_pos c_2, if_pos c_3, if_pos c_4, if_neg c_5]; try rfl) dX5_lease_67
    · skip
      refine lv_aload_n hx hb dX5_lease_24 rfl (lv_at hl 0 rfl) ?_
      refine lv_iconst (v := nI 1) hx hb dX5_lease_25 (by decide) ?_
      refine k_goRi hS (va_runV (rest := []) ⟨hx, hb, hml, hown, hts⟩ (c_X5_fails l D q A a ((up S 0 0 (nI 0))) (nI 1)) (cwV 1 hts gX5_lease_X5_fails rfl rfl rfl (by decide +kernel) ⟨Nat.le_of_ble_eq_true rfl, Nat.le_of_ble_eq_true rfl⟩) ⟨kB_blind, (va_recv hK.1 hP.1 (ci := 6) (q0 := 0) rfl rfl), fun U hU hW => ⟨rfl, by rw [hU]; exact hP, hK.warm hW⟩⟩ rfl rfl hl.1 rfl (lv_room (Nat.le_of_ble_eq_true rfl)) dX5_lease_26 ⟨Nat.zero_le _, Nat.zero_le _⟩) (fun H locs hP hS => ?_)
      have eM : (up (up S 0 0 (nI 0)) 0 0 (nI 1)) = (moLease S w0 nl d who ls0 by0 hrs).2 := by unfold moLease; rw [if_pos c_1, if_neg c_2]; try rfl
      rw [eM] at hP
      exact k_iretW hx hb hr hlocks hP hS (by unfold moLease; rw [if_pos c_1, if_neg c_2]; try rfl) dX5_lease_29
theorem fl_X5_quit_59 : Cond.fieldLink RX5 59 "LampCountsModel" "first" "[I" ∈ wsX5_quit := by decide +kernel
theorem fl_X5_quit_62 : Cond.fieldLink RX5 62 "LampCountsModel" "end" "[I" ∈ wsX5_quit := by decide +kernel
theorem fl_X5_quit_65 : Cond.fieldLink RX5 65 "LampCountsModel" "quits" "[Z" ∈ wsX5_quit := by decide +kernel
theorem fl_X5_quit_95 : Cond.fieldLink RX5 95 "LampCountsModel" "thrown" "I" ∈ wsX5_quit := by decide +kernel
theorem fl_X5_quit_103 : Cond.fieldLink RX5 103 "LampCountsModel" "now" "I" ∈ wsX5_quit := by decide +kernel
theorem in_X5_quit_X5 : ∀ w ∈ u_ws RX5 TX5 33, w ∈ wsX5_quit := by decide +kernel
set_option maxHeartbeats 4000000 in
set_option maxRecDepth 100000 in
theorem c_X5_quit (l : Launch) (D : va_G) (q : Nat → ClassId) (A : Nat → Prop) (a : Nat → Nat) (S : Nat → Nat → Int32) (y : Int32) (w0 nl : Nat) (hw : S 0 1 = nI w0) (hw200 : w0 ≤ 200) (hls : S 0 15 = nI nl) (hnl : nl ≤ 30) : Met l yX5_quit wsX5_quit ({ frames := 2, cells := 0, slots := 0, locals := 43 } : Room) (va_Pc [.ref (a 0), .int (y)] (kB D q (fun H => kW D A (wM q a S) H))) (kRi D A ((moQuit S w0 y).1) (wM q a ((moQuit S w0 y).2))) 0 0 A := by
  refine Met.ofW (cc := cX5_quit) (maxL := 2) (ret := (some .int)) (by decide) rfl ?_
  intro p e u m args below meth c s₁ B hml0 hv
  obtain ⟨rfl, hP, hK⟩ := hv
  have C0 : kAt p u m #[.ref (a 0), .int (y)] meth c cX5_quit 2 (some .int) RX5 wsX5_quit := kAt_of B hml0
  obtain ⟨hx, hb, hr, hml, hown, hts, hlocks⟩ := id C0
  have hS : va_S A u.heap u.heap [] := va_S.rf
  have hl := lv_entry ([.ref (a 0), .int (y)]) (n := 2) (Nat.le_of_ble_eq_true rfl)
  rw [lg_entry_eq]
  generalize (lg_sl ([.ref (a 0), .int (y)]) ++ List.replicate (2 - (lg_sl ([.ref (a 0), .int (y)])).length) Slot.unset).toArray = ls at hl ⊢
  have hl : lv_has ls 2 [(0, .ref (a 0)), (1, .int (y))] := hl
  refine lv_aload_n hx hb dX5_quit_0 rfl (lv_at hl 0 rfl) ?_
  refine lv_iconst (v := nI 0) hx hb dX5_quit_1 (by decide) ?_
  refine k_puti (wM q a ((up S 0 0 (nI 0)))) hx hb hts in_X5_quit_X5 tyX5 tyX5_ok nmX5 hown hK hP hS 0 rfl rfl 0 (by decide) (hts _ fl_X5_quit_95) (fun _ h9 => h9) rfl (by decide +kernel) (Nat.le_of_ble_eq_true rfl) wM_f0_0 dX5_quit_2 (fun H locs hP hS => ?_)
  refine lv_aload_n hx hb dX5_quit_5 rfl (lv_at hl 0 rfl) ?_
  refine lv_iload_n hx hb dX5_quit_6 rfl (lv_at hl 1 rfl) ?_
  refine k_callV (rest := []) (r := bI (inP y (nI 0) (((up S 0 0 (nI 0))) 0 15 - nI 1))) ⟨hx, hb, hml, hown, hts⟩ (c_X5_isLease l D q a ((up S 0 0 (nI 0))) y) (cwV 1 hts gX5_quit_X5_isLease rfl rfl rfl (by decide +kernel) ⟨Nat.le_of_ble_eq_true rfl, Nat.le_of_ble_eq_true rfl⟩) hK hP.1 (va_recv hK.1 hP.1 (ci := 6) (q0 := 0) rfl rfl) rfl hl.1 rfl (Nat.le_of_ble_eq_true rfl) dX5_quit_7 ⟨Nat.zero_le _, Nat.zero_le _⟩ (fun _ h => h) ?_
  refine k_if_ne (P := ¬ (inP y (nI 0) (((up S 0 0 (nI 0))) 0 15 - nI 1))) (tgt := 19) hx hb dX5_quit_10 (by decide) bI_0 (fun c_1 => ?_) (fun c_1 => ?_)
  · skip
    have c_1 : inP y (nI 0) (((up S 0 0 (nI 0))) 0 15 - nI 1) := Classical.not_not.mp c_1
    obtain ⟨e_y, b_y⟩ := inP_lt ((up_sn (by decide)).trans hls) c_1 (by omega)
    rw [e_y] at hl
    refine lv_aload_n hx hb dX5_quit_19 rfl (lv_at hl 0 rfl) ?_
    refine va_get (D := D) (ci := 6) (v := .ref (a 22)) (C := RX5) (T := TX5) (N := 33) hx hb hts in_X5_quit_X5 hown hK.1 hP.1 0 rfl rfl 22 (by decide) (hts _ fl_X5_quit_65) (fun _ h9 => h9) rfl dX5_quit_20 ?_
    refine lv_iload_n hx hb dX5_quit_23 rfl (lv_at hl 1 rfl) ?_
    refine k_zald hx hb hK hP.1 19 rfl y.toNatClampNeg rfl (by omega) (by decide) dX5_quit_24 ?_
    refine k_top (y := S 22 y.toNatClampNeg) (congrFun (up_n (by decide)) _) ?_
    refine k_if_ne (P := S 22 y.toNatClampNeg = 0) (tgt := 41) hx hb dX5_quit_25 (by decide) Iff.rfl (fun c_2 => ?_) (fun c_2 => ?_)
    · skip
      refine lv_aload_n hx hb dX5_quit_41 rfl (lv_at hl 0 rfl) ?_
      refine lv_iconst (v := nI 2) hx hb dX5_quit_42 (by decide) ?_
      refine k_goRi hS (va_runV (rest := []) ⟨hx, hb, hml, hown, hts⟩ (c_X5_fails l D q A a ((up S 0 0 (nI 0))) (nI 2)) (cwV 1 hts gX5_quit_X5_fails rfl rfl rfl (by decide +kernel) ⟨Nat.le_of_ble_eq_true rfl, Nat.le_of_ble_eq_true rfl⟩) ⟨kB_blind, (va_recv hK.1 hP.1 (ci := 6) (q0 := 0) rfl rfl), fun U hU hW => ⟨rfl, by rw [hU]; exact hP, hK.warm hW⟩⟩ rfl rfl hl.1 rfl (lv_room (Nat.le_of_ble_eq_true rfl)) dX5_quit_43 ⟨Nat.zero_le _, Nat.zero_le _⟩) (fun H locs hP hS => ?_)
      have eM : (up (up S 0 0 (nI 0)) 0 0 (nI 2)) = (moQuit S w0 y).2 := by unfold moQuit; rw [if_pos c_1, if_neg c_2]; try rfl
      rw [eM] at hP
      exact k_iretW hx hb hr hlocks hP hS (by unfold moQuit; rw [if_pos c_1, if_neg c_2]; try rfl) dX5_quit_46
    · skip
      refine lv_aload_n hx hb dX5_quit_28 rfl (lv_at hl 0 rfl) ?_
      refine va_get (D := D) (ci := 6) (v := .ref (a 21)) (C := RX5) (T := TX5) (N := 33) hx hb hts in_X5_quit_X5 hown hK.1 hP.1 0 rfl rfl 21 (by decide) (hts _ fl_X5_quit_62) (fun _ h9 => h9) rfl dX5_quit_29 ?_
      refine lv_iload_n hx hb dX5_quit_32 rfl (lv_at hl 1 rfl) ?_
      refine k_iald hx hb hK hP.1 18 rfl y.toNatClampNeg rfl (by omega) (by decide) dX5_quit_33 ?_
      refine k_top (y := S 21 y.toNatClampNeg) (congrFun (up_n (by decide)) _) ?_
      refine lv_aload_n hx hb dX5_quit_34 rfl (lv_at hl 0 rfl) ?_
      refine va_get (D := D) (ci := 6) (v := .int (((up S 0 0 (nI 0))) 0 1)) (C := RX5) (T := TX5) (N := 33) hx hb hts in_X5_quit_X5 hown hK.1 hP.1 0 rfl rfl 1 (by decide) (hts _ fl_X5_quit_103) (fun _ h9 => h9) rfl dX5_quit_35 ?_
      refine k_top (y := S 0 1) (up_sn (by decide)) ?_
      refine k_top (y := nI w0) hw ?_
      refine k_icmp_gt (P := S 21 y.toNatClampNeg ≤ nI w0) (tgt := 47) hx hb dX5_quit_38 (by decide) Iff.rfl (fun c_3 => ?_) (fun c_3 => ?_)
      · skip
        refine lv_aload_n hx hb dX5_quit_47 rfl (lv_at hl 0 rfl) ?_
        refine va_get (D := D) (ci := 6) (v := .ref (a 22)) (C := RX5) (T := TX5) (N := 33) hx hb hts in_X5_quit_X5 hown hK.1 hP.1 0 rfl rfl 22 (by decide) (hts _ fl_X5_quit_65) (fun _ h9 => h9) rfl dX5_quit_48 ?_
        refine lv_iload_n hx hb dX5_quit_51 rfl (lv_at hl 1 rfl) ?_
        refine lv_iconst (v := nI 1) hx hb dX5_quit_52 (by decide) ?_
        refine k_zast (wM q a ((up (up S 0 0 (nI 0)) 22 y.toNatClampNeg (nI 1)))) hx hb hK hP hS 19 rfl y.toNatClampNeg rfl (by omega) (by decide) rfl wM_s19 dX5_quit_53 (fun H locs hP hS => ?_)
        refine lv_aload_n hx hb dX5_quit_54 rfl (lv_at hl 0 rfl) ?_
        refine va_get (D := D) (ci := 6) (v := .ref (a 21)) (C := RX5) (T := TX5) (N := 33) hx hb hts in_X5_quit_X5 hown hK.1 hP.1 0 rfl rfl 21 (by decide) (hts _ fl_X5_quit_62) (fun _ h9 => h9) rfl dX5_quit_55 ?_
        refine lv_iload_n hx hb dX5_quit_58 rfl (lv_at hl 1 rfl) ?_
        refine lv_aload_n hx hb dX5_quit_59 rfl (lv_at hl 0 rfl) ?_
        refine va_get (D := D) (ci := 6) (v := .int (((up (up S 0 0 (nI 0)) 22 y.toNatClampNeg (nI 1))) 0 1)) (C := RX5) (T := TX5) (N := 33) hx hb hts in_X5_quit_X5 hown hK.1 hP.1 0 rfl rfl 1 (by decide) (hts _ fl_X5_quit_103) (fun _ h9 => h9) rfl dX5_quit_60 ?_
        refine k_top (y := S 0 1) ((congrFun (up_n (by decide)) _).trans (up_sn (by decide))) ?_
        refine k_top (y := nI w0) hw ?_
        refine k_iast (wM q a ((up (up (up S 0 0 (nI 0)) 22 y.toNatClampNeg (nI 1)) 21 y.toNatClampNeg (nI w0)))) hx hb hK hP hS 18 rfl y.toNatClampNeg rfl (by omega) (by decide) wM_s18 dX5_quit_63 (fun H locs hP hS => ?_)
        refine lv_aload_n hx hb dX5_quit_64 rfl (lv_at hl 0 rfl) ?_
        refine va_get (D := D) (ci := 6) (v := .int (((up (up (up S 0 0 (nI 0)) 22 y.toNatClampNeg (nI 1)) 21 y.toNatClampNeg (nI w0))) 0 1)) (C := RX5) (T := TX5) (N := 33) hx hb hts in_X5_quit_X5 hown hK.1 hP.1 0 rfl rfl 1 (by decide) (hts _ fl_X5_quit_103) (fun _ h9 => h9) rfl dX5_quit_65 ?_
        refine k_top (y := S 0 1) ((congrFun (up_n (by decide)) _).trans ((congrFun (up_n (by decide)) _).trans (up_sn (by decide)))) ?_
        refine k_top (y := nI w0) hw ?_
        refine lv_aload_n hx hb dX5_quit_68 rfl (lv_at hl 0 rfl) ?_
        refine va_get (D := D) (ci := 6) (v := .ref (a 20)) (C := RX5) (T := TX5) (N := 33) hx hb hts in_X5_quit_X5 hown hK.1 hP.1 0 rfl rfl 20 (by decide) (hts _ fl_X5_quit_59) (fun _ h9 => h9) rfl dX5_quit_69 ?_
        refine lv_iload_n hx hb dX5_quit_72 rfl (lv_at hl 1 rfl) ?_
        refine k_iald hx hb hK hP.1 17 rfl y.toNatClampNeg rfl (by omega) (by decide) dX5_quit_73 ?_
        refine k_top (y := S 20 y.toNatClampNeg) ((congrFun (up_n (by decide)) _).trans ((congrFun (up_n (by decide)) _).trans (congrFun (up_n (by decide)) _))) ?_
        refine lv_isub hx hb dX5_quit_74 ?_
        have eM : (up (up (up S 0 0 (nI 0)) 22 y.toNatClampNeg (nI 1)) 21 y.toNatClampNeg (nI w0)) = (moQuit S w0 y).2 := by unfold moQuit; rw [if_pos c_1, if_pos c_2, if_neg c_3]; try rfl
        rw [eM] at hP
        exact k_iretW hx hb hr hlocks hP hS (by unfold moQuit; rw [if_pos c_1, if_pos c_2, if_neg c_3]; try rfl) dX5_quit_75
      · skip
        refine lv_aload_n hx hb dX5_quit_41 rfl (lv_at hl 0 rfl) ?_
        refine lv_iconst (v := nI 2) hx hb dX5_quit_42 (by decide) ?_
        refine k_goRi hS (va_runV (rest := []) ⟨hx, hb, hml, hown, hts⟩ (c_X5_fails l D q A a ((up S 0 0 (nI 0))) (nI 2)) (cwV 1 hts gX5_quit_X5_fails rfl rfl rfl (by decide +kernel) ⟨Nat.le_of_ble_eq_true rfl, Nat.le_of_ble_eq_true rfl⟩) ⟨kB_blind, (va_recv hK.1 hP.1 (ci := 6) (q0 := 0) rfl rfl), fun U hU hW => ⟨rfl, by rw [hU]; exact hP, hK.warm hW⟩⟩ rfl rfl hl.1 rfl (lv_room (Nat.le_of_ble_eq_true rfl)) dX5_quit_43 ⟨Nat.zero_le _, Nat.zero_le _⟩) (fun H locs hP hS => ?_)
        have eM : (up (up S 0 0 (nI 0)) 0 0 (nI 2)) = (moQuit S w0 y).2 := by unfold moQuit; rw [if_pos c_1, if_pos c_2, if_pos c_3]; try rfl
        rw [eM] at hP
        exact k_iretW hx hb hr hlocks hP hS (by unfold moQuit; rw [if_pos c_1, if_pos c_2, if_pos c_3]; try rfl) dX5_quit_46
  · skip
    refine lv_aload_n hx hb dX5_quit_13 rfl (lv_at hl 0 rfl) ?_
    refine lv_iconst (v := nI 1) hx hb dX5_quit_14 (by decide) ?_
    refine k_goRi hS (va_runV (rest := []) ⟨hx, hb, hml, hown, hts⟩ (c_X5_fails l D q A a ((up S 0 0 (nI 0))) (nI 1)) (cwV 1 hts gX5_quit_X5_fails rfl rfl rfl (by decide +kernel) ⟨Nat.le_of_ble_eq_true rfl, Nat.le_of_ble_eq_true rfl⟩) ⟨kB_blind, (va_recv hK.1 hP.1 (ci := 6) (q0 := 0) rfl rfl), fun U hU hW => ⟨rfl, by rw [hU]; exact hP, hK.warm hW⟩⟩ rfl rfl hl.1 rfl (lv_room (Nat.le_of_ble_eq_true rfl)) dX5_quit_15 ⟨Nat.zero_le _, Nat.zero_le _⟩) (fun H locs hP hS => ?_)
    have eM : (up (up S 0 0 (nI 0)) 0 0 (nI 1)) = (moQuit S w0 y).2 := by unfold moQuit; rw [if_neg c_1]; try rfl
    rw [eM] at hP
    exact k_iretW hx hb hr hlocks hP hS (by unfold moQuit; rw [if_neg c_1]; try rfl) dX5_quit_18
theorem fl_X5_pay_74 : Cond.fieldLink RX5 74 "LampCountsModel" "paid" "[I" ∈ wsX5_pay := by decide +kernel
theorem fl_X5_pay_95 : Cond.fieldLink RX5 95 "LampCountsModel" "thrown" "I" ∈ wsX5_pay := by decide +kernel
theorem cs_X5_pay_177 : Cond.constant RX5 177 (nI 100000) ∈ wsX5_pay := by decide +kernel
theorem cs_X5_pay_178 : Cond.constant RX5 178 (nI 1000000) ∈ wsX5_pay := by decide +kernel
theorem in_X5_pay_X5 : ∀ w ∈ u_ws RX5 TX5 33, w ∈ wsX5_pay := by decide +kernel
set_option maxHeartbeats 4000000 in
set_option maxRecDepth 100000 in
theorem c_X5_pay (l : Launch) (D : va_G) (q : Nat → ClassId) (A : Nat → Prop) (a : Nat → Nat) (S : Nat → Nat → Int32) (who mo : Int32) (n w0 nl : Nat) (hn : S 0 11 = nI n) (hn60 : n ≤ 60) (hot : okT S n) (hw : S 0 1 = nI w0) (hw200 : w0 ≤ 200) (hls : S 0 15 = nI nl) (hnl : nl ≤ 30) (hom : okM S nl) : Met l yX5_pay wsX5_pay ({ frames := 6, cells := 0, slots := 0, locals := 136 } : Room) (va_Pc [.ref (a 0), .int (who), .int (mo)] (kB D q (fun H => kW D A (wM q a S) H))) (kRi D A ((moPay S n w0 nl who mo).1) (wM q a ((moPay S n w0 nl who mo).2))) 0 0 A := by
  refine Met.ofW (cc := cX5_pay) (maxL := 3) (ret := (some .int)) (by decide) rfl ?_
  intro p e u m args below meth c s₁ B hml0 hv
  obtain ⟨rfl, hP, hK⟩ := hv
  have C0 : kAt p u m #[.ref (a 0), .int (who), .int (mo)] meth c cX5_pay 3 (some .int) RX5 wsX5_pay := kAt_of B hml0
  obtain ⟨hx, hb, hr, hml, hown, hts, hlocks⟩ := id C0
  have hS : va_S A u.heap u.heap [] := va_S.rf
  have hl := lv_entry ([.ref (a 0), .int (who), .int (mo)]) (n := 3) (Nat.le_of_ble_eq_true rfl)
  rw [lg_entry_eq]
  generalize (lg_sl ([.ref (a 0), .int (who), .int (mo)]) ++ List.replicate (3 - (lg_sl ([.ref (a 0), .int (who), .int (mo)])).length) Slot.unset).toArray = ls at hl ⊢
  have hl : lv_has ls 3 [(0, .ref (a 0)), (1, .int (who)), (2, .int (mo))] := hl
  refine lv_aload_n hx hb dX5_pay_0 rfl (lv_at hl 0 rfl) ?_
  refine lv_iconst (v := nI 0) hx hb dX5_pay_1 (by decide) ?_
  refine k_puti (wM q a ((up S 0 0 (nI 0)))) hx hb hts in_X5_pay_X5 tyX5 tyX5_ok nmX5 hown hK hP hS 0 rfl rfl 0 (by decide) (hts _ fl_X5_pay_95) (fun _ h9 => h9) rfl (by decide +kernel) (Nat.le_of_ble_eq_true rfl) wM_f0_0 dX5_pay_2 (fun H locs hP hS => ?_)
  refine lv_iload_n hx hb dX5_pay_5 rfl (lv_at hl 1 rfl) ?_
  refine lv_iconst (v := nI 0) hx hb dX5_pay_6 (by decide) ?_
  refine lv_iconst (v := nI 5) hx hb dX5_pay_7 (by decide) ?_
  refine k_callS (rest := []) (r := bI (inP who (nI 0) (nI 5))) ⟨hx, hb, hml, hown, hts⟩ (c_X5_in l D q who (nI 0) (nI 5)) (va_cwS 3 hts gX5_pay_X5_in rfl rfl rfl (by decide +kernel) ⟨Nat.le_of_ble_eq_true rfl, Nat.le_of_ble_eq_true rfl⟩) hK trivial rfl hl.1 rfl (Nat.le_of_ble_eq_true rfl) dX5_pay_8 ⟨Nat.zero_le _, Nat.zero_le _⟩ (fun _ h => h) ?_
  refine k_if_ne (P := ¬ (inP who (nI 0) (nI 5))) (tgt := 20) hx hb dX5_pay_11 (by decide) bI_0 (fun c_1 => ?_) (fun c_1 => ?_)
  · skip
    have c_1 : inP who (nI 0) (nI 5) := Classical.not_not.mp c_1
    obtain ⟨e_who, b_who⟩ := inP_nat c_1 (by omega)
    rw [e_who] at hl
    refine lv_iload_n hx hb dX5_pay_20 rfl (lv_at hl 2 rfl) ?_
    refine lv_iconst (v := nI 1) hx hb dX5_pay_21 (by decide) ?_
    refine lv_ldc (v := nI 100000) hx hb hown (hts _ cs_X5_pay_177) dX5_pay_22 ?_
    refine k_callS (rest := []) (r := bI (inP mo (nI 1) (nI 100000))) ⟨hx, hb, hml, hown, hts⟩ (c_X5_in l D q mo (nI 1) (nI 100000)) (va_cwS 3 hts gX5_pay_X5_in rfl rfl rfl (by decide +kernel) ⟨Nat.le_of_ble_eq_true rfl, Nat.le_of_ble_eq_true rfl⟩) hK trivial rfl hl.1 rfl (Nat.le_of_ble_eq_true rfl) dX5_pay_24 ⟨Nat.zero_le _, Nat.zero_le _⟩ (fun _ h => h) ?_
    refine k_if_ne (P := ¬ (inP mo (nI 1) (nI 100000))) (tgt := 36) hx hb dX5_pay_27 (by decide) bI_0 (fun c_2 => ?_) (fun c_2 => ?_)
    · skip
      have c_2 : inP mo (nI 1) (nI 100000) := Classical.not_not.mp c_2
      refine lv_aload_n hx hb dX5_pay_36 rfl (lv_at hl 0 rfl) ?_
      refine va_get (D := D) (ci := 6) (v := .ref (a 25)) (C := RX5) (T := TX5) (N := 33) hx hb hts in_X5_pay_X5 hown hK.1 hP.1 0 rfl rfl 25 (by decide) (hts _ fl_X5_pay_74) (fun _ h9 => h9) rfl dX5_pay_37 ?_
      refine lv_iload_n hx hb dX5_pay_40 rfl (lv_at hl 1 rfl) ?_
      refine k_iald hx hb hK hP.1 22 rfl who.toNatClampNeg rfl (by omega) (by decide) dX5_pay_41 ?_
      refine k_top (y := S 25 who.toNatClampNeg) (congrFun (up_n (by decide)) _) ?_
      refine lv_iload_n hx hb dX5_pay_42 rfl (lv_at hl 2 rfl) ?_
      refine lv_iadd hx hb dX5_pay_43 ?_
      refine lv_ldc (v := nI 1000000) hx hb hown (hts _ cs_X5_pay_178) dX5_pay_44 ?_
      refine k_icmp_le (P := (S 25 who.toNatClampNeg) + mo ≤ nI 1000000) (tgt := 55) hx hb dX5_pay_46 (by decide) Iff.rfl (fun c_3 => ?_) (fun c_3 => ?_)
      · skip
        refine lv_aload_n hx hb dX5_pay_55 rfl (lv_at hl 0 rfl) ?_
        refine va_get (D := D) (ci := 6) (v := .ref (a 25)) (C := RX5) (T := TX5) (N := 33) hx hb hts in_X5_pay_X5 hown hK.1 hP.1 0 rfl rfl 25 (by decide) (hts _ fl_X5_pay_74) (fun _ h9 => h9) rfl dX5_pay_56 ?_
        refine lv_iload_n hx hb dX5_pay_59 rfl (lv_at hl 1 rfl) ?_
        refine lv_dup2_11 hx hb dX5_pay_60 rfl rfl ?_
        refine k_iald hx hb hK hP.1 22 rfl who.toNatClampNeg rfl (by omega) (by decide) dX5_pay_61 ?_
        refine k_top (y := S 25 who.toNatClampNeg) (congrFun (up_n (by decide)) _) ?_
        refine lv_iload_n hx hb dX5_pay_62 rfl (lv_at hl 2 rfl) ?_
        refine lv_iadd hx hb dX5_pay_63 ?_
        refine k_iast (wM q a ((up (up S 0 0 (nI 0)) 25 who.toNatClampNeg ((S 25 who.toNatClampNeg) + mo)))) hx hb hK hP hS 22 rfl who.toNatClampNeg rfl (by omega) (by decide) wM_s22 dX5_pay_64 (fun H locs hP hS => ?_)
        refine lv_aload_n hx hb dX5_pay_65 rfl (lv_at hl 0 rfl) ?_
        refine lv_iload_n hx hb dX5_pay_66 rfl (lv_at hl 1 rfl) ?_
        refine k_callV (rest := []) (r := owF ((up (up S 0 0 (nI 0)) 25 who.toNatClampNeg ((S 25 who.toNatClampNeg) + mo))) n w0 (nI who.toNatClampNeg) nl - ((up (up S 0 0 (nI 0)) 25 who.toNatClampNeg ((S 25 who.toNatClampNeg) + mo))) 25 who.toNatClampNeg) ⟨hx, hb, hml, hown, hts⟩ (c_X5_owedBy l D q a ((up (up S 0 0 (nI 0)) 25 who.toNatClampNeg ((S 25 who.toNatClampNeg) + mo))) who.toNatClampNeg n w0 nl (by omega) (((congrFun (up_n (by decide)) _).trans (up_sn (by decide))).trans hn) hn60 (okT_congr ((up_n (by decide)).trans (up_n (by decide))) hot) (((congrFun (up_n (by decide)) _).trans (up_sn (by decide))).trans hw) hw200 (((congrFun (up_n (by decide)) _).trans (up_sn (by decide))).trans hls) hnl (okM_congr ((up_n (by decide)).trans (up_n (by decide))) ((up_n (by decide)).trans (up_n (by decide))) ((up_n (by decide)).trans (up_n (by decide))) hom)) (cwV 1 hts gX5_pay_X5_owedBy rfl rfl rfl (by decide +kernel) ⟨Nat.le_of_ble_eq_true rfl, Nat.le_of_ble_eq_true rfl⟩) hK hP.1 (va_recv hK.1 hP.1 (ci := 6) (q0 := 0) rfl rfl) rfl hl.1 rfl (Nat.le_of_ble_eq_true rfl) dX5_pay_67 ⟨Nat.zero_le _, Nat.zero_le _⟩ (fun _ h => h) ?_
        have eM : (up (up S 0 0 (nI 0)) 25 who.toNatClampNeg ((S 25 who.toNatClampNeg) + mo)) = (moPay S n w0 nl who mo).2 := by unfold moPay; rw [if_pos c_1, if_pos c_2, if_pos c_3]; try rfl
        rw [eM] at hP
        exact k_iretW hx hb hr hlocks hP hS (by unfold moPay; rw [if_pos c_1, if_pos c_2, if_pos c_3]; try rfl) dX5_pay_70
      · skip
        refine lv_aload_n hx hb dX5_pay_49 rfl (lv_at hl 0 rfl) ?_
        refine lv_iconst (v := nI 3) hx hb dX5_pay_50 (by decide) ?_
        refine k_goRi hS (va_runV (rest := []) ⟨hx, hb, hml, hown, hts⟩ (c_X5_fails l D q A a ((up S 0 0 (nI 0))) (nI 3)) (cwV 1 hts gX5_pay_X5_fails rfl rfl rfl (by decide +kernel) ⟨Nat.le_of_ble_eq_true rfl, Nat.le_of_ble_eq_true rfl⟩) ⟨kB_blind, (va_recv hK.1 hP.1 (ci := 6) (q0 := 0) rfl rfl), fun U hU hW => ⟨rfl, by rw [hU]; exact hP, hK.warm hW⟩⟩ rfl rfl hl.1 rfl (lv_room (Nat.le_of_ble_eq_true rfl)) dX5_pay_51 ⟨Nat.zero_le _, Nat.zero_le _⟩) (fun H locs hP hS => ?_)
        have eM : (up (up S 0 0 (nI 0)) 0 0 (nI 3)) = (moPay S n w0 nl who mo).2 := by unfold moPay; rw [if_pos c_1, if_pos c_2, if_neg c_3]
        rw [eM] at hP
        exact k_iretW hx hb hr hlocks hP hS (by unfold moPay; rw [if_pos c_1, if_pos c_2, if_neg c_3]) dX5_pay_54
    · skip
      refine lv_aload_n hx hb dX5_pay_30 rfl (lv_at hl 0 rfl) ?_
      refine lv_iconst (v := nI 2) hx hb dX5_pay_31 (by decide) ?_
      refine k_goRi hS (va_runV (rest := []) ⟨hx, hb, hml, hown, hts⟩ (c_X5_fails l D q A a ((up S 0 0 (nI 0))) (nI 2)) (cwV 1 hts gX5_pay_X5_fails rfl rfl rfl (by decide +kernel) ⟨Nat.le_of_ble_eq_true rfl, Nat.le_of_ble_eq_true rfl⟩) ⟨kB_blind, (va_recv hK.1 hP.1 (ci := 6) (q0 := 0) rfl rfl), fun U hU hW => ⟨rfl, by rw [hU]; exact hP, hK.warm hW⟩⟩ rfl rfl hl.1 rfl (lv_room (Nat.le_of_ble_eq_true rfl)) dX5_pay_32 ⟨Nat.zero_le _, Nat.zero_le _⟩) (fun H locs hP hS => ?_)
      have eM : (up (up S 0 0 (nI 0)) 0 0 (nI 2)) = (moPay S n w0 nl who mo).2 := by unfold moPay; rw [if_pos c_1, if_neg c_2]
      rw [eM] at hP
      exact k_iretW hx hb hr hlocks hP hS (by unfold moPay; rw [if_pos c_1, if_neg c_2]) dX5_pay_35
  · skip
    refine lv_aload_n hx hb dX5_pay_14 rfl (lv_at hl 0 rfl) ?_
    refine lv_iconst (v := nI 1) hx hb dX5_pay_15 (by decide) ?_
    refine k_goRi hS (va_runV (rest := []) ⟨hx, hb, hml, hown, hts⟩ (c_X5_fails l D q A a ((up S 0 0 (nI 0))) (nI 1)) (cwV 1 hts gX5_pay_X5_fails rfl rfl rfl (by decide +kernel) ⟨Nat.le_of_ble_eq_true rfl, Nat.le_of_ble_eq_true rfl⟩) ⟨kB_blind, (va_recv hK.1 hP.1 (ci := 6) (q0 := 0) rfl rfl), fun U hU hW => ⟨rfl, by rw [hU]; exact hP, hK.warm hW⟩⟩ rfl rfl hl.1 rfl (lv_room (Nat.le_of_ble_eq_true rfl)) dX5_pay_16 ⟨Nat.zero_le _, Nat.zero_le _⟩) (fun H locs hP hS => ?_)
    have eM : (up (up S 0 0 (nI 0)) 0 0 (nI 1)) = (moPay S n w0 nl who mo).2 := by unfold moPay; rw [if_neg c_1]
    rw [eM] at hP
    exact k_iretW hx hb hr hlocks hP hS (by unfold moPay; rw [if_neg c_1]) dX5_pay_19
theorem fl_X5_setSkill_77 : Cond.fieldLink RX5 77 "LampCountsModel" "skill" "[I" ∈ wsX5_setSkill := by decide +kernel
theorem fl_X5_setSkill_95 : Cond.fieldLink RX5 95 "LampCountsModel" "thrown" "I" ∈ wsX5_setSkill := by decide +kernel
theorem in_X5_setSkill_X5 : ∀ w ∈ u_ws RX5 TX5 33, w ∈ wsX5_setSkill := by decide +kernel
set_option maxHeartbeats 4000000 in
set_option maxRecDepth 100000 in
theorem c_X5_setSkill (l : Launch) (D : va_G) (q : Nat → ClassId) (A : Nat → Prop) (a : Nat → Nat) (S : Nat → Nat → Int32) (b to : Int32)  : Met l yX5_setSkill wsX5_setSkill ({ frames := 2, cells := 0, slots := 0, locals := 42 } : Room) (va_Pc [.ref (a 0), .int (b), .int (to)] (kB D q (fun H => kW D A (wM q a S) H))) (kRi D A ((moSetSkill S b to).1) (wM q a ((moSetSkill S b to).2))) 0 0 A := by
  refine Met.ofW (cc := cX5_setSkill) (maxL := 4) (ret := (some .int)) (by decide) rfl ?_
  intro p e u m args below meth c s₁ B hml0 hv
  obtain ⟨rfl, hP, hK⟩ := hv
  have C0 : kAt p u m #[.ref (a 0), .int (b), .int (to)] meth c cX5_setSkill 4 (some .int) RX5 wsX5_setSkill := kAt_of B hml0
  obtain ⟨hx, hb, hr, hml, hown, hts, hlocks⟩ := id C0
  have hS : va_S A u.heap u.heap [] := va_S.rf
  have hl := lv_entry ([.ref (a 0), .int (b), .int (to)]) (n := 4) (Nat.le_of_ble_eq_true rfl)
  rw [lg_entry_eq]
  generalize (lg_sl ([.ref (a 0), .int (b), .int (to)]) ++ List.replicate (4 - (lg_sl ([.ref (a 0), .int (b), .int (to)])).length) Slot.unset).toArray = ls at hl ⊢
  have hl : lv_has ls 4 [(0, .ref (a 0)), (1, .int (b)), (2, .int (to))] := hl
  refine lv_aload_n hx hb dX5_setSkill_0 rfl (lv_at hl 0 rfl) ?_
  refine lv_iconst (v := nI 0) hx hb dX5_setSkill_1 (by decide) ?_
  refine k_puti (wM q a ((up S 0 0 (nI 0)))) hx hb hts in_X5_setSkill_X5 tyX5 tyX5_ok nmX5 hown hK hP hS 0 rfl rfl 0 (by decide) (hts _ fl_X5_setSkill_95) (fun _ h9 => h9) rfl (by decide +kernel) (Nat.le_of_ble_eq_true rfl) wM_f0_0 dX5_setSkill_2 (fun H locs hP hS => ?_)
  refine lv_iload_n hx hb dX5_setSkill_5 rfl (lv_at hl 1 rfl) ?_
  refine k_callS (rest := []) (r := bI (inP b (nI 0) (nI 5))) ⟨hx, hb, hml, hown, hts⟩ (c_X5_isBusker l D q b) (va_cwS 1 hts gX5_setSkill_X5_isBusker rfl rfl rfl (by decide +kernel) ⟨Nat.le_of_ble_eq_true rfl, Nat.le_of_ble_eq_true rfl⟩) hK trivial rfl hl.1 rfl (Nat.le_of_ble_eq_true rfl) dX5_setSkill_6 ⟨Nat.zero_le _, Nat.zero_le _⟩ (fun _ h => h) ?_
  refine k_if_ne (P := ¬ (inP b (nI 0) (nI 5))) (tgt := 18) hx hb dX5_setSkill_9 (by decide) bI_0 (fun c_1 => ?_) (fun c_1 => ?_)
  · skip
    have c_1 : inP b (nI 0) (nI 5) := Classical.not_not.mp c_1
    obtain ⟨e_b, b_b⟩ := inP_nat c_1 (by omega)
    rw [e_b] at hl
    refine lv_iload_n hx hb dX5_setSkill_18 rfl (lv_at hl 2 rfl) ?_
    refine lv_iconst (v := nI 0) hx hb dX5_setSkill_19 (by decide) ?_
    refine lv_bipush (v := nI 50) hx hb dX5_setSkill_20 (by decide) ?_
    refine k_callS (rest := []) (r := bI (inP to (nI 0) (nI 50))) ⟨hx, hb, hml, hown, hts⟩ (c_X5_in l D q to (nI 0) (nI 50)) (va_cwS 3 hts gX5_setSkill_X5_in rfl rfl rfl (by decide +kernel) ⟨Nat.le_of_ble_eq_true rfl, Nat.le_of_ble_eq_true rfl⟩) hK trivial rfl hl.1 rfl (Nat.le_of_ble_eq_true rfl) dX5_setSkill_22 ⟨Nat.zero_le _, Nat.zero_le _⟩ (fun _ h => h) ?_
    refine k_if_ne (P := ¬ (inP to (nI 0) (nI 50))) (tgt := 34) hx hb dX5_setSkill_25 (by decide) bI_0 (fun c_2 => ?_) (fun c_2 => ?_)
    · skip
      have c_2 : inP to (nI 0) (nI 50) := Classical.not_not.mp c_2
      refine lv_aload_n hx hb dX5_setSkill_34 rfl (lv_at hl 0 rfl) ?_
      refine va_get (D := D) (ci := 6) (v := .ref (a 26)) (C := RX5) (T := TX5) (N := 33) hx hb hts in_X5_setSkill_X5 hown hK.1 hP.1 0 rfl rfl 26 (by decide) (hts _ fl_X5_setSkill_77) (fun _ h9 => h9) rfl dX5_setSkill_35 ?_
      refine lv_iload_n hx hb dX5_setSkill_38 rfl (lv_at hl 1 rfl) ?_
      refine k_iald hx hb hK hP.1 23 rfl b.toNatClampNeg rfl (by omega) (by decide) dX5_setSkill_39 ?_
      refine k_top (y := S 26 b.toNatClampNeg) (congrFun (up_n (by decide)) _) ?_
      refine lv_istore_n (lv' := [(3, .int (S 26 b.toNatClampNeg)), (0, .ref (a 0)), (1, .int (nI b.toNatClampNeg)), (2, .int (to))]) hx hb dX5_setSkill_40 rfl hl (by decide) rfl (fun ls hl => ?_)
      refine lv_aload_n hx hb dX5_setSkill_41 rfl (lv_at hl 1 rfl) ?_
      refine va_get (D := D) (ci := 6) (v := .ref (a 26)) (C := RX5) (T := TX5) (N := 33) hx hb hts in_X5_setSkill_X5 hown hK.1 hP.1 0 rfl rfl 26 (by decide) (hts _ fl_X5_setSkill_77) (fun _ h9 => h9) rfl dX5_setSkill_42 ?_
      refine lv_iload_n hx hb dX5_setSkill_45 rfl (lv_at hl 2 rfl) ?_
      refine lv_iload_n hx hb dX5_setSkill_46 rfl (lv_at hl 3 rfl) ?_
      refine k_iast (wM q a ((up (up S 0 0 (nI 0)) 26 b.toNatClampNeg to))) hx hb hK hP hS 23 rfl b.toNatClampNeg rfl (by omega) (by decide) wM_s23 dX5_setSkill_47 (fun H locs hP hS => ?_)
      refine lv_iload_n hx hb dX5_setSkill_48 rfl (lv_at hl 0 rfl) ?_
      have eM : (up (up S 0 0 (nI 0)) 26 b.toNatClampNeg to) = (moSetSkill S b to).2 := by unfold moSetSkill; rw [if_pos c_1, if_pos c_2]; try rfl
      rw [eM] at hP
      exact k_iretW hx hb hr hlocks hP hS (by unfold moSetSkill; rw [if_pos c_1, if_pos c_2]; try rfl) dX5_setSkill_49
    · skip
      refine lv_aload_n hx hb dX5_setSkill_28 rfl (lv_at hl 0 rfl) ?_
      refine lv_iconst (v := nI 2) hx hb dX5_setSkill_29 (by decide) ?_
      refine k_goRi hS (va_runV (rest := []) ⟨hx, hb, hml, hown, hts⟩ (c_X5_fails l D q A a ((up S 0 0 (nI 0))) (nI 2)) (cwV 1 hts gX5_setSkill_X5_fails rfl rfl rfl (by decide +kernel) ⟨Nat.le_of_ble_eq_true rfl, Nat.le_of_ble_eq_true rfl⟩) ⟨kB_blind, (va_recv hK.1 hP.1 (ci := 6) (q0 := 0) rfl rfl), fun U hU hW => ⟨rfl, by rw [hU]; exact hP, hK.warm hW⟩⟩ rfl rfl hl.1 rfl (lv_room (Nat.le_of_ble_eq_true rfl)) dX5_setSkill_30 ⟨Nat.zero_le _, Nat.zero_le _⟩) (fun H locs hP hS => ?_)
      have eM : (up (up S 0 0 (nI 0)) 0 0 (nI 2)) = (moSetSkill S b to).2 := by unfold moSetSkill; rw [if_pos c_1, if_neg c_2]; try rfl
      rw [eM] at hP
      exact k_iretW hx hb hr hlocks hP hS (by unfold moSetSkill; rw [if_pos c_1, if_neg c_2]; try rfl) dX5_setSkill_33
  · skip
    refine lv_aload_n hx hb dX5_setSkill_12 rfl (lv_at hl 0 rfl) ?_
    refine lv_iconst (v := nI 1) hx hb dX5_setSkill_13 (by decide) ?_
    refine k_goRi hS (va_runV (rest := []) ⟨hx, hb, hml, hown, hts⟩ (c_X5_fails l D q A a ((up S 0 0 (nI 0))) (nI 1)) (cwV 1 hts gX5_setSkill_X5_fails rfl rfl rfl (by decide +kernel) ⟨Nat.le_of_ble_eq_true rfl, Nat.le_of_ble_eq_true rfl⟩) ⟨kB_blind, (va_recv hK.1 hP.1 (ci := 6) (q0 := 0) rfl rfl), fun U hU hW => ⟨rfl, by rw [hU]; exact hP, hK.warm hW⟩⟩ rfl rfl hl.1 rfl (lv_room (Nat.le_of_ble_eq_true rfl)) dX5_setSkill_14 ⟨Nat.zero_le _, Nat.zero_le _⟩) (fun H locs hP hS => ?_)
    have eM : (up (up S 0 0 (nI 0)) 0 0 (nI 1)) = (moSetSkill S b to).2 := by unfold moSetSkill; rw [if_neg c_1]; try rfl
    rw [eM] at hP
    exact k_iretW hx hb hr hlocks hP hS (by unfold moSetSkill; rw [if_neg c_1]; try rfl) dX5_setSkill_17
theorem fl_X5_ask_86 : Cond.fieldLink RX5 86 "LampCountsModel" "asks" "[I" ∈ wsX5_ask := by decide +kernel
theorem fl_X5_ask_95 : Cond.fieldLink RX5 95 "LampCountsModel" "thrown" "I" ∈ wsX5_ask := by decide +kernel
theorem in_X5_ask_X5 : ∀ w ∈ u_ws RX5 TX5 33, w ∈ wsX5_ask := by decide +kernel
set_option maxHeartbeats 4000000 in
set_option maxRecDepth 100000 in
theorem lp_X5_ask_62 {p : Program} {l : Launch} {e : Env} {u : State} {m : MethodId} {below : List Frame} {meth : Method} {c : Code} {D : va_G} {q : Nat → ClassId} {A : Nat → Prop} (a : Nat → Nat) (S : Nat → Nat → Int32) (b s : Int32)  (b_b : b.toNatClampNeg ≤ 5) (hfin : moAsk S b s = (acF (akM S b s) b.toNatClampNeg 12, akM S b s)) (C0 : kAt p u m #[.ref (a 0), .int (b), .int (s)] meth c cX5_ask 5 (some .int) RX5 wsX5_ask) (hK : kK D q u) :
    ∀ (f : Nat) (k : Nat) (T : Nat → Nat → Int32) (x1 : Int32) (x3 : Int32) (x4 : Int32), 12 - k < f → k ≤ 12 → T = akM S b s → x1 = nI b.toNatClampNeg → x3 = acF (akM S b s) b.toNatClampNeg k → x4 = nI k → ∀ (H : Heap) (locs : List Loc), kW D A (wM q a T) H → va_S A u.heap H locs → ∀ (ls : Array Slot), lv_has ls 5 [(0, .ref (a 0)), (1, .int x1), (3, .int x3), (4, .int x4)] → W p l e ({ frames := 2, cells := 0, slots := 0, locals := 42 } : Room) u m #[.ref (a 0), .int (b), .int (s)] below meth c H locs 0 0 (MQ below (kRi D A ((moAsk S b s).1) (wM q a ((moAsk S b s).2))) #[.ref (a 0), .int (b), .int (s)] u 0 0 A) (F0 m 62 ls []) := by
  obtain ⟨hx, hb, hr, hml, hown, hts, hlocks⟩ := id C0
  intro f
  induction f with
  | zero =>
    intro k T x1 x3 x4 hf
    exact absurd hf (Nat.not_lt_zero _)
  | succ f ih =>
    intro k T x1 x3 x4 hf hk eT e1 e3 e4 H locs hP hS ls hl
    replace eT := eT.symm
    subst eT
    replace e1 := e1.symm
    subst e1
    replace e3 := e3.symm
    subst e3
    replace e4 := e4.symm
    subst e4
    refine lv_iload hx hb dX5_ask_62 (lv_at hl 3 rfl) ?_
    refine lv_bipush (v := nI 12) hx hb dX5_ask_64 (by decide) ?_
    refine k_icmp_ge (P := k < 12) (tgt := 89) hx hb dX5_ask_66 (by decide) (nI_ltI (by omega) (by omega)) (fun c_1 => ?_) (fun c_1 => ?_)
    · skip
      refine lv_iload_n hx hb dX5_ask_89 rfl (lv_at hl 2 rfl) ?_
      have eM : akM S b s = (moAsk S b s).2 := by rw [hfin]
      rw [eM] at hP
      exact k_iretW hx hb hr hlocks hP hS (by rw [hfin, show k = 12 from by omega]) dX5_ask_90
    · skip
      refine lv_iload_n hx hb dX5_ask_69 rfl (lv_at hl 2 rfl) ?_
      refine lv_aload_n hx hb dX5_ask_70 rfl (lv_at hl 0 rfl) ?_
      refine va_get (D := D) (ci := 6) (v := .ref (a 29)) (C := RX5) (T := TX5) (N := 33) hx hb hts in_X5_ask_X5 hown hK.1 hP.1 0 rfl rfl 29 (by decide) (hts _ fl_X5_ask_86) (fun _ h9 => h9) rfl dX5_ask_71 ?_
      refine lv_iload_n hx hb dX5_ask_74 rfl (lv_at hl 1 rfl) ?_
      refine k_iald hx hb hK hP.1 26 rfl b.toNatClampNeg rfl (by omega) (by decide) dX5_ask_75 ?_
      refine lv_iload hx hb dX5_ask_76 (lv_at hl 3 rfl) ?_
      refine lv_ishr hx hb dX5_ask_78 ?_
      refine lv_iconst (v := nI 1) hx hb dX5_ask_79 (by decide) ?_
      refine lv_iand hx hb dX5_ask_80 ?_
      refine lv_iadd hx hb dX5_ask_81 ?_
      refine lv_istore_n (lv' := [(3, .int ((acF (akM S b s) b.toNatClampNeg k) + ((((akM S b s) 29 b.toNatClampNeg) >>> ((nI k) &&& 31)) &&& (nI 1)))), (0, .ref (a 0)), (1, .int (nI b.toNatClampNeg)), (4, .int (nI k))]) hx hb dX5_ask_82 rfl hl (by decide) rfl (fun ls hl => ?_)
      refine lv_iinc (v := nI (k + 1)) (lv' := [(4, .int (nI (k + 1))), (3, .int ((acF (akM S b s) b.toNatClampNeg k) + ((((akM S b s) 29 b.toNatClampNeg) >>> ((nI k) &&& 31)) &&& (nI 1)))), (0, .ref (a 0)), (1, .int (nI b.toNatClampNeg))]) hx hb dX5_ask_83 hl (k := 3) rfl (k_iinc _) (by decide) rfl (fun ls hl => ?_)
      refine lv_goto (tgt := 62) hx hb dX5_ask_86 (by decide) ?_
      exact ih (k + 1) (akM S b s) (nI b.toNatClampNeg) ((acF (akM S b s) b.toNatClampNeg k) + ((((akM S b s) 29 b.toNatClampNeg) >>> ((nI k) &&& 31)) &&& (nI 1))) (nI (k + 1)) (by omega) (by first | omega | assumption) rfl rfl (by rfl) rfl _ _ hP hS ls (lv_sub hl [2, 3, 1, 0] rfl)
set_option maxHeartbeats 4000000 in
set_option maxRecDepth 100000 in
theorem c_X5_ask (l : Launch) (D : va_G) (q : Nat → ClassId) (A : Nat → Prop) (a : Nat → Nat) (S : Nat → Nat → Int32) (b s : Int32)  : Met l yX5_ask wsX5_ask ({ frames := 2, cells := 0, slots := 0, locals := 42 } : Room) (va_Pc [.ref (a 0), .int (b), .int (s)] (kB D q (fun H => kW D A (wM q a S) H))) (kRi D A ((moAsk S b s).1) (wM q a ((moAsk S b s).2))) 0 0 A := by
  refine Met.ofW (cc := cX5_ask) (maxL := 5) (ret := (some .int)) (by decide) rfl ?_
  intro p e u m args below meth c s₁ B hml0 hv
  obtain ⟨rfl, hP, hK⟩ := hv
  have C0 : kAt p u m #[.ref (a 0), .int (b), .int (s)] meth c cX5_ask 5 (some .int) RX5 wsX5_ask := kAt_of B hml0
  obtain ⟨hx, hb, hr, hml, hown, hts, hlocks⟩ := id C0
  have hS : va_S A u.heap u.heap [] := va_S.rf
  have hl := lv_entry ([.ref (a 0), .int (b), .int (s)]) (n := 5) (Nat.le_of_ble_eq_true rfl)
  rw [lg_entry_eq]
  generalize (lg_sl ([.ref (a 0), .int (b), .int (s)]) ++ List.replicate (5 - (lg_sl ([.ref (a 0), .int (b), .int (s)])).length) Slot.unset).toArray = ls at hl ⊢
  have hl : lv_has ls 5 [(0, .ref (a 0)), (1, .int (b)), (2, .int (s))] := hl
  refine lv_aload_n hx hb dX5_ask_0 rfl (lv_at hl 0 rfl) ?_
  refine lv_iconst (v := nI 0) hx hb dX5_ask_1 (by decide) ?_
  refine k_puti (wM q a ((up S 0 0 (nI 0)))) hx hb hts in_X5_ask_X5 tyX5 tyX5_ok nmX5 hown hK hP hS 0 rfl rfl 0 (by decide) (hts _ fl_X5_ask_95) (fun _ h9 => h9) rfl (by decide +kernel) (Nat.le_of_ble_eq_true rfl) wM_f0_0 dX5_ask_2 (fun H locs hP hS => ?_)
  refine lv_iload_n hx hb dX5_ask_5 rfl (lv_at hl 1 rfl) ?_
  refine k_callS (rest := []) (r := bI (inP b (nI 0) (nI 5))) ⟨hx, hb, hml, hown, hts⟩ (c_X5_isBusker l D q b) (va_cwS 1 hts gX5_ask_X5_isBusker rfl rfl rfl (by decide +kernel) ⟨Nat.le_of_ble_eq_true rfl, Nat.le_of_ble_eq_true rfl⟩) hK trivial rfl hl.1 rfl (Nat.le_of_ble_eq_true rfl) dX5_ask_6 ⟨Nat.zero_le _, Nat.zero_le _⟩ (fun _ h => h) ?_
  refine k_if_eq (P := ¬ (inP b (nI 0) (nI 5))) (tgt := 19) hx hb dX5_ask_9 (by decide) bI_0 (fun c_2 => ?_) (fun c_2 => ?_)
  · skip
    refine lv_aload_n hx hb dX5_ask_19 rfl (lv_at hl 0 rfl) ?_
    refine lv_iconst (v := nI 1) hx hb dX5_ask_20 (by decide) ?_
    refine k_goRi hS (va_runV (rest := []) ⟨hx, hb, hml, hown, hts⟩ (c_X5_fails l D q A a ((up S 0 0 (nI 0))) (nI 1)) (cwV 1 hts gX5_ask_X5_fails rfl rfl rfl (by decide +kernel) ⟨Nat.le_of_ble_eq_true rfl, Nat.le_of_ble_eq_true rfl⟩) ⟨kB_blind, (va_recv hK.1 hP.1 (ci := 6) (q0 := 0) rfl rfl), fun U hU hW => ⟨rfl, by rw [hU]; exact hP, hK.warm hW⟩⟩ rfl rfl hl.1 rfl (lv_room (Nat.le_of_ble_eq_true rfl)) dX5_ask_21 ⟨Nat.zero_le _, Nat.zero_le _⟩) (fun H locs hP hS => ?_)
    have eM : (up (up S 0 0 (nI 0)) 0 0 (nI 1)) = (moAsk S b s).2 := by unfold moAsk; rw [if_neg c_2]
    rw [eM] at hP
    exact k_iretW hx hb hr hlocks hP hS (by unfold moAsk; rw [if_neg c_2]) dX5_ask_24
  · skip
    have c_2 : inP b (nI 0) (nI 5) := Classical.not_not.mp c_2
    obtain ⟨e_b, b_b⟩ := inP_nat c_2 (by omega)
    rw [e_b] at hl
    refine lv_iload_n hx hb dX5_ask_12 rfl (lv_at hl 2 rfl) ?_
    refine k_callS (rest := []) (r := bI (inP s (nI 0) (nI 11))) ⟨hx, hb, hml, hown, hts⟩ (c_X5_isSection l D q s) (va_cwS 1 hts gX5_ask_X5_isSection rfl rfl rfl (by decide +kernel) ⟨Nat.le_of_ble_eq_true rfl, Nat.le_of_ble_eq_true rfl⟩) hK trivial rfl hl.1 rfl (Nat.le_of_ble_eq_true rfl) dX5_ask_13 ⟨Nat.zero_le _, Nat.zero_le _⟩ (fun _ h => h) ?_
    refine k_if_ne (P := ¬ (inP s (nI 0) (nI 11))) (tgt := 25) hx hb dX5_ask_16 (by decide) bI_0 (fun c_3 => ?_) (fun c_3 => ?_)
    · skip
      have c_3 : inP s (nI 0) (nI 11) := Classical.not_not.mp c_3
      obtain ⟨e_s, b_s⟩ := inP_nat c_3 (by omega)
      rw [e_s] at hl
      refine lv_aload_n hx hb dX5_ask_25 rfl (lv_at hl 0 rfl) ?_
      refine va_get (D := D) (ci := 6) (v := .ref (a 29)) (C := RX5) (T := TX5) (N := 33) hx hb hts in_X5_ask_X5 hown hK.1 hP.1 0 rfl rfl 29 (by decide) (hts _ fl_X5_ask_86) (fun _ h9 => h9) rfl dX5_ask_26 ?_
      refine lv_iload_n hx hb dX5_ask_29 rfl (lv_at hl 1 rfl) ?_
      refine k_iald hx hb hK hP.1 26 rfl b.toNatClampNeg rfl (by omega) (by decide) dX5_ask_30 ?_
      refine k_top (y := S 29 b.toNatClampNeg) (congrFun (up_n (by decide)) _) ?_
      refine lv_iload_n hx hb dX5_ask_31 rfl (lv_at hl 2 rfl) ?_
      refine lv_ishr hx hb dX5_ask_32 ?_
      refine lv_iconst (v := nI 1) hx hb dX5_ask_33 (by decide) ?_
      refine lv_iand hx hb dX5_ask_34 ?_
      refine lv_iconst (v := nI 1) hx hb dX5_ask_35 (by decide) ?_
      refine k_icmp_ne (P := ((S 29 b.toNatClampNeg) >>> ((nI s.toNatClampNeg) &&& 31)) &&& (nI 1) = nI 1) (tgt := 45) hx hb dX5_ask_36 (by decide) Iff.rfl (fun c_4 => ?_) (fun c_4 => ?_)
      · skip
        refine lv_aload_n hx hb dX5_ask_45 rfl (lv_at hl 0 rfl) ?_
        refine va_get (D := D) (ci := 6) (v := .ref (a 29)) (C := RX5) (T := TX5) (N := 33) hx hb hts in_X5_ask_X5 hown hK.1 hP.1 0 rfl rfl 29 (by decide) (hts _ fl_X5_ask_86) (fun _ h9 => h9) rfl dX5_ask_46 ?_
        refine lv_iload_n hx hb dX5_ask_49 rfl (lv_at hl 1 rfl) ?_
        refine lv_dup2_11 hx hb dX5_ask_50 rfl rfl ?_
        refine k_iald hx hb hK hP.1 26 rfl b.toNatClampNeg rfl (by omega) (by decide) dX5_ask_51 ?_
        refine k_top (y := S 29 b.toNatClampNeg) (congrFun (up_n (by decide)) _) ?_
        refine lv_iconst (v := nI 1) hx hb dX5_ask_52 (by decide) ?_
        refine lv_iload_n hx hb dX5_ask_53 rfl (lv_at hl 2 rfl) ?_
        refine lv_ishl hx hb dX5_ask_54 ?_
        refine lv_ior hx hb dX5_ask_55 ?_
        refine k_iast (wM q a ((up (up S 0 0 (nI 0)) 29 b.toNatClampNeg ((S 29 b.toNatClampNeg) ||| ((nI 1) <<< ((nI s.toNatClampNeg) &&& 31)))))) hx hb hK hP hS 26 rfl b.toNatClampNeg rfl (by omega) (by decide) wM_s26 dX5_ask_56 (fun H locs hP hS => ?_)
        refine lv_iconst (v := nI 0) hx hb dX5_ask_57 (by decide) ?_
        refine lv_istore_n (lv' := [(3, .int (nI 0)), (0, .ref (a 0)), (1, .int (nI b.toNatClampNeg)), (2, .int (nI s.toNatClampNeg))]) hx hb dX5_ask_58 rfl hl (by decide) rfl (fun ls hl => ?_)
        refine lv_iconst (v := nI 0) hx hb dX5_ask_59 (by decide) ?_
        refine lv_istore (lv' := [(4, .int (nI 0)), (3, .int (nI 0)), (0, .ref (a 0)), (1, .int (nI b.toNatClampNeg)), (2, .int (nI s.toNatClampNeg))]) hx hb dX5_ask_60 hl (by decide) rfl (fun ls hl => ?_)
        exact lp_X5_ask_62 a S b s b_b (by unfold moAsk; rw [if_pos c_2, if_pos c_3, if_neg c_4]) C0 hK ((12 - 0) + 1) 0 ((up (up S 0 0 (nI 0)) 29 b.toNatClampNeg ((S 29 b.toNatClampNeg) ||| ((nI 1) <<< ((nI s.toNatClampNeg) &&& 31))))) (nI b.toNatClampNeg) (nI 0) (nI 0) (by omega) (by first | omega | assumption) (by rfl) rfl (by rfl) rfl _ _ hP hS ls (lv_sub hl [2, 3, 1, 0] rfl)
      · skip
        refine lv_aload_n hx hb dX5_ask_39 rfl (lv_at hl 0 rfl) ?_
        refine lv_iconst (v := nI 2) hx hb dX5_ask_40 (by decide) ?_
        refine k_goRi hS (va_runV (rest := []) ⟨hx, hb, hml, hown, hts⟩ (c_X5_fails l D q A a ((up S 0 0 (nI 0))) (nI 2)) (cwV 1 hts gX5_ask_X5_fails rfl rfl rfl (by decide +kernel) ⟨Nat.le_of_ble_eq_true rfl, Nat.le_of_ble_eq_true rfl⟩) ⟨kB_blind, (va_recv hK.1 hP.1 (ci := 6) (q0 := 0) rfl rfl), fun U hU hW => ⟨rfl, by rw [hU]; exact hP, hK.warm hW⟩⟩ rfl rfl hl.1 rfl (lv_room (Nat.le_of_ble_eq_true rfl)) dX5_ask_41 ⟨Nat.zero_le _, Nat.zero_le _⟩) (fun H locs hP hS => ?_)
        have eM : (up (up S 0 0 (nI 0)) 0 0 (nI 2)) = (moAsk S b s).2 := by unfold moAsk; rw [if_pos c_2, if_pos c_3, if_pos c_4]
        rw [eM] at hP
        exact k_iretW hx hb hr hlocks hP hS (by unfold moAsk; rw [if_pos c_2, if_pos c_3, if_pos c_4]) dX5_ask_44
    · skip
      refine lv_aload_n hx hb dX5_ask_19 rfl (lv_at hl 0 rfl) ?_
      refine lv_iconst (v := nI 1) hx hb dX5_ask_20 (by decide) ?_
      refine k_goRi hS (va_runV (rest := []) ⟨hx, hb, hml, hown, hts⟩ (c_X5_fails l D q A a ((up S 0 0 (nI 0))) (nI 1)) (cwV 1 hts gX5_ask_X5_fails rfl rfl rfl (by decide +kernel) ⟨Nat.le_of_ble_eq_true rfl, Nat.le_of_ble_eq_true rfl⟩) ⟨kB_blind, (va_recv hK.1 hP.1 (ci := 6) (q0 := 0) rfl rfl), fun U hU hW => ⟨rfl, by rw [hU]; exact hP, hK.warm hW⟩⟩ rfl rfl hl.1 rfl (lv_room (Nat.le_of_ble_eq_true rfl)) dX5_ask_21 ⟨Nat.zero_le _, Nat.zero_le _⟩) (fun H locs hP hS => ?_)
      have eM : (up (up S 0 0 (nI 0)) 0 0 (nI 1)) = (moAsk S b s).2 := by unfold moAsk; rw [if_pos c_2, if_neg c_3]
      rw [eM] at hP
      exact k_iretW hx hb hr hlocks hP hS (by unfold moAsk; rw [if_pos c_2, if_neg c_3]) dX5_ask_24
theorem fl_X5_lot_92 : Cond.fieldLink RX5 92 "LampCountsModel" "lot" "[I" ∈ wsX5_lot := by decide +kernel
theorem fl_X5_lot_95 : Cond.fieldLink RX5 95 "LampCountsModel" "thrown" "I" ∈ wsX5_lot := by decide +kernel
theorem fl_X5_lot_109 : Cond.fieldLink RX5 109 "LampCountsModel" "lots" "I" ∈ wsX5_lot := by decide +kernel
theorem in_X5_lot_X5 : ∀ w ∈ u_ws RX5 TX5 33, w ∈ wsX5_lot := by decide +kernel
set_option maxHeartbeats 4000000 in
set_option maxRecDepth 100000 in
theorem c_X5_lot (l : Launch) (D : va_G) (q : Nat → ClassId) (A : Nat → Prop) (a : Nat → Nat) (S : Nat → Nat → Int32) (v : Int32) (L : Nat) (hL : S 0 31 = nI L) (hL50 : L ≤ 50) : Met l yX5_lot wsX5_lot ({ frames := 1, cells := 0, slots := 0, locals := 22 } : Room) (va_Pc [.ref (a 0), .int (v)] (kB D q (fun H => kW D A (wM q a S) H))) (kRi D A ((moLot S L v).1) (wM q a ((moLot S L v).2))) 0 0 A := by
  refine Met.ofW (cc := cX5_lot) (maxL := 2) (ret := (some .int)) (by decide) rfl ?_
  intro p e u m args below meth c s₁ B hml0 hv
  obtain ⟨rfl, hP, hK⟩ := hv
  have C0 : kAt p u m #[.ref (a 0), .int (v)] meth c cX5_lot 2 (some .int) RX5 wsX5_lot := kAt_of B hml0
  obtain ⟨hx, hb, hr, hml, hown, hts, hlocks⟩ := id C0
  have hS : va_S A u.heap u.heap [] := va_S.rf
  have hl := lv_entry ([.ref (a 0), .int (v)]) (n := 2) (Nat.le_of_ble_eq_true rfl)
  rw [lg_entry_eq]
  generalize (lg_sl ([.ref (a 0), .int (v)]) ++ List.replicate (2 - (lg_sl ([.ref (a 0), .int (v)])).length) Slot.unset).toArray = ls at hl ⊢
  have hl : lv_has ls 2 [(0, .ref (a 0)), (1, .int (v))] := hl
  refine lv_aload_n hx hb dX5_lot_0 rfl (lv_at hl 0 rfl) ?_
  refine lv_iconst (v := nI 0) hx hb dX5_lot_1 (by decide) ?_
  refine k_puti (wM q a ((up S 0 0 (nI 0)))) hx hb hts in_X5_lot_X5 tyX5 tyX5_ok nmX5 hown hK hP hS 0 rfl rfl 0 (by decide) (hts _ fl_X5_lot_95) (fun _ h9 => h9) rfl (by decide +kernel) (Nat.le_of_ble_eq_true rfl) wM_f0_0 dX5_lot_2 (fun H locs hP hS => ?_)
  refine lv_iload_n hx hb dX5_lot_5 rfl (lv_at hl 1 rfl) ?_
  refine lv_iconst (v := nI 0) hx hb dX5_lot_6 (by decide) ?_
  refine lv_sipush (v := nI 1000) hx hb dX5_lot_7 (by decide) ?_
  refine k_callS (rest := []) (r := bI (inP v (nI 0) (nI 1000))) ⟨hx, hb, hml, hown, hts⟩ (c_X5_in l D q v (nI 0) (nI 1000)) (va_cwS 3 hts gX5_lot_X5_in rfl rfl rfl (by decide +kernel) ⟨Nat.le_of_ble_eq_true rfl, Nat.le_of_ble_eq_true rfl⟩) hK trivial rfl hl.1 rfl (Nat.le_of_ble_eq_true rfl) dX5_lot_10 ⟨Nat.zero_le _, Nat.zero_le _⟩ (fun _ h => h) ?_
  refine k_if_ne (P := ¬ (inP v (nI 0) (nI 1000))) (tgt := 22) hx hb dX5_lot_13 (by decide) bI_0 (fun c_1 => ?_) (fun c_1 => ?_)
  · skip
    have c_1 : inP v (nI 0) (nI 1000) := Classical.not_not.mp c_1
    refine lv_aload_n hx hb dX5_lot_22 rfl (lv_at hl 0 rfl) ?_
    refine va_get (D := D) (ci := 6) (v := .int (((up S 0 0 (nI 0))) 0 31)) (C := RX5) (T := TX5) (N := 33) hx hb hts in_X5_lot_X5 hown hK.1 hP.1 0 rfl rfl 31 (by decide) (hts _ fl_X5_lot_109) (fun _ h9 => h9) rfl dX5_lot_23 ?_
    refine k_top (y := S 0 31) (up_sn (by decide)) ?_
    refine k_top (y := nI L) hL ?_
    refine lv_bipush (v := nI 50) hx hb dX5_lot_26 (by decide) ?_
    refine k_icmp_ne (P := L = 50) (tgt := 37) hx hb dX5_lot_28 (by decide) (nI_eq (by omega) (by omega)) (fun c_2 => ?_) (fun c_2 => ?_)
    · skip
      refine lv_aload_n hx hb dX5_lot_37 rfl (lv_at hl 0 rfl) ?_
      refine va_get (D := D) (ci := 6) (v := .ref (a 32)) (C := RX5) (T := TX5) (N := 33) hx hb hts in_X5_lot_X5 hown hK.1 hP.1 0 rfl rfl 32 (by decide) (hts _ fl_X5_lot_92) (fun _ h9 => h9) rfl dX5_lot_38 ?_
      refine lv_aload_n hx hb dX5_lot_41 rfl (lv_at hl 0 rfl) ?_
      refine va_get (D := D) (ci := 6) (v := .int (((up S 0 0 (nI 0))) 0 31)) (C := RX5) (T := TX5) (N := 33) hx hb hts in_X5_lot_X5 hown hK.1 hP.1 0 rfl rfl 31 (by decide) (hts _ fl_X5_lot_109) (fun _ h9 => h9) rfl dX5_lot_42 ?_
      refine k_top (y := S 0 31) (up_sn (by decide)) ?_
      refine k_top (y := nI L) hL ?_
      refine lv_iload_n hx hb dX5_lot_45 rfl (lv_at hl 1 rfl) ?_
      refine k_iast (wM q a ((up (up S 0 0 (nI 0)) 32 L v))) hx hb hK hP hS 28 rfl L rfl (by omega) (by decide) wM_s28 dX5_lot_46 (fun H locs hP hS => ?_)
      refine lv_aload_n hx hb dX5_lot_47 rfl (lv_at hl 0 rfl) ?_
      refine lv_dup hx hb dX5_lot_48 rfl ?_
      refine va_get (D := D) (ci := 6) (v := .int (((up (up S 0 0 (nI 0)) 32 L v)) 0 31)) (C := RX5) (T := TX5) (N := 33) hx hb hts in_X5_lot_X5 hown hK.1 hP.1 0 rfl rfl 31 (by decide) (hts _ fl_X5_lot_109) (fun _ h9 => h9) rfl dX5_lot_49 ?_
      refine k_top (y := S 0 31) ((congrFun (up_n (by decide)) _).trans (up_sn (by decide))) ?_
      refine k_top (y := nI L) hL ?_
      refine lv_iconst (v := nI 1) hx hb dX5_lot_52 (by decide) ?_
      refine lv_iadd hx hb dX5_lot_53 ?_
      refine k_top (y := nI (L + 1)) (nI_add _ _) ?_
      refine k_puti (wM q a ((up (up (up S 0 0 (nI 0)) 32 L v) 0 31 (nI (L + 1))))) hx hb hts in_X5_lot_X5 tyX5 tyX5_ok nmX5 hown hK hP hS 0 rfl rfl 31 (by decide) (hts _ fl_X5_lot_109) (fun _ h9 => h9) rfl (by decide +kernel) (Nat.le_of_ble_eq_true rfl) wM_f0_31 dX5_lot_54 (fun H locs hP hS => ?_)
      refine lv_aload_n hx hb dX5_lot_57 rfl (lv_at hl 0 rfl) ?_
      refine va_get (D := D) (ci := 6) (v := .int (((up (up (up S 0 0 (nI 0)) 32 L v) 0 31 (nI (L + 1)))) 0 31)) (C := RX5) (T := TX5) (N := 33) hx hb hts in_X5_lot_X5 hown hK.1 hP.1 0 rfl rfl 31 (by decide) (hts _ fl_X5_lot_109) (fun _ h9 => h9) rfl dX5_lot_58 ?_
      refine k_top (y := nI (L + 1)) (up_si _ _ _ _) ?_
      have eM : (up (up (up S 0 0 (nI 0)) 32 L v) 0 31 (nI (L + 1))) = (moLot S L v).2 := by unfold moLot; rw [if_pos c_1, if_neg c_2]; try rfl
      rw [eM] at hP
      exact k_iretW hx hb hr hlocks hP hS (by unfold moLot; rw [if_pos c_1, if_neg c_2]; try rfl) dX5_lot_61
    · skip
      refine lv_aload_n hx hb dX5_lot_31 rfl (lv_at hl 0 rfl) ?_
      refine lv_iconst (v := nI 2) hx hb dX5_lot_32 (by decide) ?_
      refine k_goRi hS (va_runV (rest := []) ⟨hx, hb, hml, hown, hts⟩ (c_X5_fails l D q A a ((up S 0 0 (nI 0))) (nI 2)) (cwV 1 hts gX5_lot_X5_fails rfl rfl rfl (by decide +kernel) ⟨Nat.le_of_ble_eq_true rfl, Nat.le_of_ble_eq_true rfl⟩) ⟨kB_blind, (va_recv hK.1 hP.1 (ci := 6) (q0 := 0) rfl rfl), fun U hU hW => ⟨rfl, by rw [hU]; exact hP, hK.warm hW⟩⟩ rfl rfl hl.1 rfl (lv_room (Nat.le_of_ble_eq_true rfl)) dX5_lot_33 ⟨Nat.zero_le _, Nat.zero_le _⟩) (fun H locs hP hS => ?_)
      have eM : (up (up S 0 0 (nI 0)) 0 0 (nI 2)) = (moLot S L v).2 := by unfold moLot; rw [if_pos c_1, if_pos c_2]; try rfl
      rw [eM] at hP
      exact k_iretW hx hb hr hlocks hP hS (by unfold moLot; rw [if_pos c_1, if_pos c_2]; try rfl) dX5_lot_36
  · skip
    refine lv_aload_n hx hb dX5_lot_16 rfl (lv_at hl 0 rfl) ?_
    refine lv_iconst (v := nI 1) hx hb dX5_lot_17 (by decide) ?_
    refine k_goRi hS (va_runV (rest := []) ⟨hx, hb, hml, hown, hts⟩ (c_X5_fails l D q A a ((up S 0 0 (nI 0))) (nI 1)) (cwV 1 hts gX5_lot_X5_fails rfl rfl rfl (by decide +kernel) ⟨Nat.le_of_ble_eq_true rfl, Nat.le_of_ble_eq_true rfl⟩) ⟨kB_blind, (va_recv hK.1 hP.1 (ci := 6) (q0 := 0) rfl rfl), fun U hU hW => ⟨rfl, by rw [hU]; exact hP, hK.warm hW⟩⟩ rfl rfl hl.1 rfl (lv_room (Nat.le_of_ble_eq_true rfl)) dX5_lot_18 ⟨Nat.zero_le _, Nat.zero_le _⟩) (fun H locs hP hS => ?_)
    have eM : (up (up S 0 0 (nI 0)) 0 0 (nI 1)) = (moLot S L v).2 := by unfold moLot; rw [if_neg c_1]; try rfl
    rw [eM] at hP
    exact k_iretW hx hb hr hlocks hP hS (by unfold moLot; rw [if_neg c_1]; try rfl) dX5_lot_21
theorem fl_X5_steps_23 : Cond.fieldLink RX5 23 "LampCountsModel" "steps" "[I" ∈ wsX5_steps := by decide +kernel
theorem in_X5_steps_X5 : ∀ w ∈ u_ws RX5 TX5 33, w ∈ wsX5_steps := by decide +kernel
set_option maxHeartbeats 4000000 in
set_option maxRecDepth 100000 in
theorem c_X5_steps (l : Launch) (D : va_G) (q : Nat → ClassId) (A : Nat → Prop) (a : Nat → Nat) (S : Nat → Nat → Int32) (s h : Int32) (w0 : Nat) (hw : S 0 1 = nI w0) (hw200 : w0 ≤ 200) : Met l yX5_steps wsX5_steps ({ frames := 3, cells := 0, slots := 0, locals := 65 } : Room) (va_Pc [.ref (a 0), .int (s), .int (h)] (kB D q (fun H => kW D A (wM q a S) H))) (kRi D A ((moRow S 6 s h).1) (wM q a ((moRow S 6 s h).2))) 0 0 A := by
  refine Met.ofW (cc := cX5_steps) (maxL := 3) (ret := (some .int)) (by decide) rfl ?_
  intro p e u m args below meth c s₁ B hml0 hv
  obtain ⟨rfl, hP, hK⟩ := hv
  have C0 : kAt p u m #[.ref (a 0), .int (s), .int (h)] meth c cX5_steps 3 (some .int) RX5 wsX5_steps := kAt_of B hml0
  obtain ⟨hx, hb, hr, hml, hown, hts, hlocks⟩ := id C0
  have hS : va_S A u.heap u.heap [] := va_S.rf
  have hl := lv_entry ([.ref (a 0), .int (s), .int (h)]) (n := 3) (Nat.le_of_ble_eq_true rfl)
  rw [lg_entry_eq]
  generalize (lg_sl ([.ref (a 0), .int (s), .int (h)]) ++ List.replicate (3 - (lg_sl ([.ref (a 0), .int (s), .int (h)])).length) Slot.unset).toArray = ls at hl ⊢
  have hl : lv_has ls 3 [(0, .ref (a 0)), (1, .int (s)), (2, .int (h))] := hl
  refine lv_aload_n hx hb dX5_steps_0 rfl (lv_at hl 0 rfl) ?_
  refine lv_iload_n hx hb dX5_steps_1 rfl (lv_at hl 1 rfl) ?_
  refine lv_iload_n hx hb dX5_steps_2 rfl (lv_at hl 2 rfl) ?_
  refine k_goRi hS (va_runV (rest := []) ⟨hx, hb, hml, hown, hts⟩ (c_X5_isAsked l D q A a S s h) (cwV 2 hts gX5_steps_X5_isAsked rfl rfl rfl (by decide +kernel) ⟨Nat.le_of_ble_eq_true rfl, Nat.le_of_ble_eq_true rfl⟩) ⟨kB_blind, (va_recv hK.1 hP.1 (ci := 6) (q0 := 0) rfl rfl), fun U hU hW => ⟨rfl, by rw [hU]; exact hP, hK.warm hW⟩⟩ rfl rfl hl.1 rfl (lv_room (Nat.le_of_ble_eq_true rfl)) dX5_steps_3 ⟨Nat.zero_le _, Nat.zero_le _⟩) (fun H locs hP hS => ?_)
  refine k_if_eq (P := ¬ (iaP S s h)) (tgt := 22) hx hb dX5_steps_6 (by decide) bI_0 (fun c_1 => ?_) (fun c_1 => ?_)
  · skip
    refine lv_iconst (v := nI 0) hx hb dX5_steps_22 (by decide) ?_
    have eM : (up S 0 0 (iaV S s h)) = (moRow S 6 s h).2 := by unfold moRow; rw [if_neg c_1]; try rfl
    rw [eM] at hP
    exact k_iretW hx hb hr hlocks hP hS (by unfold moRow; rw [if_neg c_1]; try rfl) dX5_steps_23
  · skip
    have c_1 : iaP S s h := Classical.not_not.mp c_1
    obtain ⟨e_s, b_s⟩ := inP_nat c_1.1 (by decide)
    obtain ⟨e_h, b_h⟩ := inP_lt hw c_1.2 (by omega)
    rw [e_s, e_h] at hl
    refine lv_aload_n hx hb dX5_steps_9 rfl (lv_at hl 0 rfl) ?_
    refine va_get (D := D) (ci := 6) (v := .ref (a 6)) (C := RX5) (T := TX5) (N := 33) hx hb hts in_X5_steps_X5 hown hK.1 hP.1 0 rfl rfl 6 (by decide) (hts _ fl_X5_steps_23) (fun _ h9 => h9) rfl dX5_steps_10 ?_
    refine lv_iload_n hx hb dX5_steps_13 rfl (lv_at hl 1 rfl) ?_
    refine lv_iload_n hx hb dX5_steps_14 rfl (lv_at hl 2 rfl) ?_
    refine k_callS (rest := [.ref (a 6)]) (r := nI (h.toNatClampNeg * 12 + s.toNatClampNeg)) ⟨hx, hb, hml, hown, hts⟩ (c_X5_cell l D q s.toNatClampNeg h.toNatClampNeg) (va_cwS 2 hts gX5_steps_X5_cell rfl rfl rfl (by decide +kernel) ⟨Nat.le_of_ble_eq_true rfl, Nat.le_of_ble_eq_true rfl⟩) hK trivial rfl hl.1 rfl (Nat.le_of_ble_eq_true rfl) dX5_steps_15 ⟨Nat.zero_le _, Nat.zero_le _⟩ (fun _ h => h) ?_
    refine k_iald hx hb hK hP.1 5 rfl (h.toNatClampNeg * 12 + s.toNatClampNeg) rfl (by omega) (by decide) dX5_steps_18 ?_
    refine k_top (y := S 6 (h.toNatClampNeg * 12 + s.toNatClampNeg)) (congrFun (up_n (by decide)) _) ?_
    refine lv_goto (tgt := 23) hx hb dX5_steps_19 (by decide) ?_
    have eM : (up S 0 0 (iaV S s h)) = (moRow S 6 s h).2 := by unfold moRow; rw [if_pos c_1]; try rfl
    rw [eM] at hP
    exact k_iretW hx hb hr hlocks hP hS (by unfold moRow; rw [if_pos c_1]; try rfl) dX5_steps_23
theorem fl_X5_crowd_26 : Cond.fieldLink RX5 26 "LampCountsModel" "crowd" "[I" ∈ wsX5_crowd := by decide +kernel
theorem in_X5_crowd_X5 : ∀ w ∈ u_ws RX5 TX5 33, w ∈ wsX5_crowd := by decide +kernel
set_option maxHeartbeats 4000000 in
set_option maxRecDepth 100000 in
theorem c_X5_crowd (l : Launch) (D : va_G) (q : Nat → ClassId) (A : Nat → Prop) (a : Nat → Nat) (S : Nat → Nat → Int32) (s h : Int32) (w0 : Nat) (hw : S 0 1 = nI w0) (hw200 : w0 ≤ 200) : Met l yX5_crowd wsX5_crowd ({ frames := 3, cells := 0, slots := 0, locals := 65 } : Room) (va_Pc [.ref (a 0), .int (s), .int (h)] (kB D q (fun H => kW D A (wM q a S) H))) (kRi D A ((moRow S 7 s h).1) (wM q a ((moRow S 7 s h).2))) 0 0 A := by
  refine Met.ofW (cc := cX5_crowd) (maxL := 3) (ret := (some .int)) (by decide) rfl ?_
  intro p e u m args below meth c s₁ B hml0 hv
  obtain ⟨rfl, hP, hK⟩ := hv
  have C0 : kAt p u m #[.ref (a 0), .int (s), .int (h)] meth c cX5_crowd 3 (some .int) RX5 wsX5_crowd := kAt_of B hml0
  obtain ⟨hx, hb, hr, hml, hown, hts, hlocks⟩ := id C0
  have hS : va_S A u.heap u.heap [] := va_S.rf
  have hl := lv_entry ([.ref (a 0), .int (s), .int (h)]) (n := 3) (Nat.le_of_ble_eq_true rfl)
  rw [lg_entry_eq]
  generalize (lg_sl ([.ref (a 0), .int (s), .int (h)]) ++ List.replicate (3 - (lg_sl ([.ref (a 0), .int (s), .int (h)])).length) Slot.unset).toArray = ls at hl ⊢
  have hl : lv_has ls 3 [(0, .ref (a 0)), (1, .int (s)), (2, .int (h))] := hl
  refine lv_aload_n hx hb dX5_crowd_0 rfl (lv_at hl 0 rfl) ?_
  refine lv_iload_n hx hb dX5_crowd_1 rfl (lv_at hl 1 rfl) ?_
  refine lv_iload_n hx hb dX5_crowd_2 rfl (lv_at hl 2 rfl) ?_
  refine k_goRi hS (va_runV (rest := []) ⟨hx, hb, hml, hown, hts⟩ (c_X5_isAsked l D q A a S s h) (cwV 2 hts gX5_crowd_X5_isAsked rfl rfl rfl (by decide +kernel) ⟨Nat.le_of_ble_eq_true rfl, Nat.le_of_ble_eq_true rfl⟩) ⟨kB_blind, (va_recv hK.1 hP.1 (ci := 6) (q0 := 0) rfl rfl), fun U hU hW => ⟨rfl, by rw [hU]; exact hP, hK.warm hW⟩⟩ rfl rfl hl.1 rfl (lv_room (Nat.le_of_ble_eq_true rfl)) dX5_crowd_3 ⟨Nat.zero_le _, Nat.zero_le _⟩) (fun H locs hP hS => ?_)
  refine k_if_eq (P := ¬ (iaP S s h)) (tgt := 22) hx hb dX5_crowd_6 (by decide) bI_0 (fun c_1 => ?_) (fun c_1 => ?_)
  · skip
    refine lv_iconst (v := nI 0) hx hb dX5_crowd_22 (by decide) ?_
    have eM : (up S 0 0 (iaV S s h)) = (moRow S 7 s h).2 := by unfold moRow; rw [if_neg c_1]; try rfl
    rw [eM] at hP
    exact k_iretW hx hb hr hlocks hP hS (by unfold moRow; rw [if_neg c_1]; try rfl) dX5_crowd_23
  · skip
    have c_1 : iaP S s h := Classical.not_not.mp c_1
    obtain ⟨e_s, b_s⟩ := inP_nat c_1.1 (by decide)
    obtain ⟨e_h, b_h⟩ := inP_lt hw c_1.2 (by omega)
    rw [e_s, e_h] at hl
    refine lv_aload_n hx hb dX5_crowd_9 rfl (lv_at hl 0 rfl) ?_
    refine va_get (D := D) (ci := 6) (v := .ref (a 7)) (C := RX5) (T := TX5) (N := 33) hx hb hts in_X5_crowd_X5 hown hK.1 hP.1 0 rfl rfl 7 (by decide) (hts _ fl_X5_crowd_26) (fun _ h9 => h9) rfl dX5_crowd_10 ?_
    refine lv_iload_n hx hb dX5_crowd_13 rfl (lv_at hl 1 rfl) ?_
    refine lv_iload_n hx hb dX5_crowd_14 rfl (lv_at hl 2 rfl) ?_
    refine k_callS (rest := [.ref (a 7)]) (r := nI (h.toNatClampNeg * 12 + s.toNatClampNeg)) ⟨hx, hb, hml, hown, hts⟩ (c_X5_cell l D q s.toNatClampNeg h.toNatClampNeg) (va_cwS 2 hts gX5_crowd_X5_cell rfl rfl rfl (by decide +kernel) ⟨Nat.le_of_ble_eq_true rfl, Nat.le_of_ble_eq_true rfl⟩) hK trivial rfl hl.1 rfl (Nat.le_of_ble_eq_true rfl) dX5_crowd_15 ⟨Nat.zero_le _, Nat.zero_le _⟩ (fun _ h => h) ?_
    refine k_iald hx hb hK hP.1 6 rfl (h.toNatClampNeg * 12 + s.toNatClampNeg) rfl (by omega) (by decide) dX5_crowd_18 ?_
    refine k_top (y := S 7 (h.toNatClampNeg * 12 + s.toNatClampNeg)) (congrFun (up_n (by decide)) _) ?_
    refine lv_goto (tgt := 23) hx hb dX5_crowd_19 (by decide) ?_
    have eM : (up S 0 0 (iaV S s h)) = (moRow S 7 s h).2 := by unfold moRow; rw [if_pos c_1]; try rfl
    rw [eM] at hP
    exact k_iretW hx hb hr hlocks hP hS (by unfold moRow; rw [if_pos c_1]; try rfl) dX5_crowd_23
theorem fl_X5_reading_29 : Cond.fieldLink RX5 29 "LampCountsModel" "reading" "[I" ∈ wsX5_reading := by decide +kernel
theorem in_X5_reading_X5 : ∀ w ∈ u_ws RX5 TX5 33, w ∈ wsX5_reading := by decide +kernel
set_option maxHeartbeats 4000000 in
set_option maxRecDepth 100000 in
theorem c_X5_reading (l : Launch) (D : va_G) (q : Nat → ClassId) (A : Nat → Prop) (a : Nat → Nat) (S : Nat → Nat → Int32) (s h : Int32) (w0 : Nat) (hw : S 0 1 = nI w0) (hw200 : w0 ≤ 200) : Met l yX5_reading wsX5_reading ({ frames := 3, cells := 0, slots := 0, locals := 65 } : Room) (va_Pc [.ref (a 0), .int (s), .int (h)] (kB D q (fun H => kW D A (wM q a S) H))) (kRi D A ((moRow S 8 s h).1) (wM q a ((moRow S 8 s h).2))) 0 0 A := by
  refine Met.ofW (cc := cX5_reading) (maxL := 3) (ret := (some .int)) (by decide) rfl ?_
  intro p e u m args below meth c s₁ B hml0 hv
  obtain ⟨rfl, hP, hK⟩ := hv
  have C0 : kAt p u m #[.ref (a 0), .int (s), .int (h)] meth c cX5_reading 3 (some .int) RX5 wsX5_reading := kAt_of B hml0
  obtain ⟨hx, hb, hr, hml, hown, hts, hlocks⟩ := id C0
  have hS : va_S A u.heap u.heap [] := va_S.rf
  have hl := lv_entry ([.ref (a 0), .int (s), .int (h)]) (n := 3) (Nat.le_of_ble_eq_true rfl)
  rw [lg_entry_eq]
  generalize (lg_sl ([.ref (a 0), .int (s), .int (h)]) ++ List.replicate (3 - (lg_sl ([.ref (a 0), .int (s), .int (h)])).length) Slot.unset).toArray = ls at hl ⊢
  have hl : lv_has ls 3 [(0, .ref (a 0)), (1, .int (s)), (2, .int (h))] := hl
  refine lv_aload_n hx hb dX5_reading_0 rfl (lv_at hl 0 rfl) ?_
  refine lv_iload_n hx hb dX5_reading_1 rfl (lv_at hl 1 rfl) ?_
  refine lv_iload_n hx hb dX5_reading_2 rfl (lv_at hl 2 rfl) ?_
  refine k_goRi hS (va_runV (rest := []) ⟨hx, hb, hml, hown, hts⟩ (c_X5_isAsked l D q A a S s h) (cwV 2 hts gX5_reading_X5_isAsked rfl rfl rfl (by decide +kernel) ⟨Nat.le_of_ble_eq_true rfl, Nat.le_of_ble_eq_true rfl⟩) ⟨kB_blind, (va_recv hK.1 hP.1 (ci := 6) (q0 := 0) rfl rfl), fun U hU hW => ⟨rfl, by rw [hU]; exact hP, hK.warm hW⟩⟩ rfl rfl hl.1 rfl (lv_room (Nat.le_of_ble_eq_true rfl)) dX5_reading_3 ⟨Nat.zero_le _, Nat.zero_le _⟩) (fun H locs hP hS => ?_)
  refine k_if_eq (P := ¬ (iaP S s h)) (tgt := 22) hx hb dX5_reading_6 (by decide) bI_0 (fun c_1 => ?_) (fun c_1 => ?_)
  · skip
    refine lv_iconst (v := nI 0) hx hb dX5_reading_22 (by decide) ?_
    have eM : (up S 0 0 (iaV S s h)) = (moRow S 8 s h).2 := by unfold moRow; rw [if_neg c_1]; try rfl
    rw [eM] at hP
    exact k_iretW hx hb hr hlocks hP hS (by unfold moRow; rw [if_neg c_1]; try rfl) dX5_reading_23
  · skip
    have c_1 : iaP S s h := Classical.not_not.mp c_1
    obtain ⟨e_s, b_s⟩ := inP_nat c_1.1 (by decide)
    obtain ⟨e_h, b_h⟩ := inP_lt hw c_1.2 (by omega)
    rw [e_s, e_h] at hl
    refine lv_aload_n hx hb dX5_reading_9 rfl (lv_at hl 0 rfl) ?_
    refine va_get (D := D) (ci := 6) (v := .ref (a 8)) (C := RX5) (T := TX5) (N := 33) hx hb hts in_X5_reading_X5 hown hK.1 hP.1 0 rfl rfl 8 (by decide) (hts _ fl_X5_reading_29) (fun _ h9 => h9) rfl dX5_reading_10 ?_
    refine lv_iload_n hx hb dX5_reading_13 rfl (lv_at hl 1 rfl) ?_
    refine lv_iload_n hx hb dX5_reading_14 rfl (lv_at hl 2 rfl) ?_
    refine k_callS (rest := [.ref (a 8)]) (r := nI (h.toNatClampNeg * 12 + s.toNatClampNeg)) ⟨hx, hb, hml, hown, hts⟩ (c_X5_cell l D q s.toNatClampNeg h.toNatClampNeg) (va_cwS 2 hts gX5_reading_X5_cell rfl rfl rfl (by decide +kernel) ⟨Nat.le_of_ble_eq_true rfl, Nat.le_of_ble_eq_true rfl⟩) hK trivial rfl hl.1 rfl (Nat.le_of_ble_eq_true rfl) dX5_reading_15 ⟨Nat.zero_le _, Nat.zero_le _⟩ (fun _ h => h) ?_
    refine k_iald hx hb hK hP.1 7 rfl (h.toNatClampNeg * 12 + s.toNatClampNeg) rfl (by omega) (by decide) dX5_reading_18 ?_
    refine k_top (y := S 8 (h.toNatClampNeg * 12 + s.toNatClampNeg)) (congrFun (up_n (by decide)) _) ?_
    refine lv_goto (tgt := 23) hx hb dX5_reading_19 (by decide) ?_
    have eM : (up S 0 0 (iaV S s h)) = (moRow S 8 s h).2 := by unfold moRow; rw [if_pos c_1]; try rfl
    rw [eM] at hP
    exact k_iretW hx hb hr hlocks hP hS (by unfold moRow; rw [if_pos c_1]; try rfl) dX5_reading_23
theorem fl_X5_player_32 : Cond.fieldLink RX5 32 "LampCountsModel" "player" "[I" ∈ wsX5_player := by decide +kernel
theorem in_X5_player_X5 : ∀ w ∈ u_ws RX5 TX5 33, w ∈ wsX5_player := by decide +kernel
set_option maxHeartbeats 4000000 in
set_option maxRecDepth 100000 in
theorem c_X5_player (l : Launch) (D : va_G) (q : Nat → ClassId) (A : Nat → Prop) (a : Nat → Nat) (S : Nat → Nat → Int32) (s h : Int32) (w0 : Nat) (hw : S 0 1 = nI w0) (hw200 : w0 ≤ 200) : Met l yX5_player wsX5_player ({ frames := 3, cells := 0, slots := 0, locals := 65 } : Room) (va_Pc [.ref (a 0), .int (s), .int (h)] (kB D q (fun H => kW D A (wM q a S) H))) (kRi D A ((moRow S 9 s h).1) (wM q a ((moRow S 9 s h).2))) 0 0 A := by
  refine Met.ofW (cc := cX5_player) (maxL := 3) (ret := (some .int)) (by decide) rfl ?_
  intro p e u m args below meth c s₁ B hml0 hv
  obtain ⟨rfl, hP, hK⟩ := hv
  have C0 : kAt p u m #[.ref (a 0), .int (s), .int (h)] meth c cX5_player 3 (some .int) RX5 wsX5_player := kAt_of B hml0
  obtain ⟨hx, hb, hr, hml, hown, hts, hlocks⟩ := id C0
  have hS : va_S A u.heap u.heap [] := va_S.rf
  have hl := lv_entry ([.ref (a 0), .int (s), .int (h)]) (n := 3) (Nat.le_of_ble_eq_true rfl)
  rw [lg_entry_eq]
  generalize (lg_sl ([.ref (a 0), .int (s), .int (h)]) ++ List.replicate (3 - (lg_sl ([.ref (a 0), .int (s), .int (h)])).length) Slot.unset).toArray = ls at hl ⊢
  have hl : lv_has ls 3 [(0, .ref (a 0)), (1, .int (s)), (2, .int (h))] := hl
  refine lv_aload_n hx hb dX5_player_0 rfl (lv_at hl 0 rfl) ?_
  refine lv_iload_n hx hb dX5_player_1 rfl (lv_at hl 1 rfl) ?_
  refine lv_iload_n hx hb dX5_player_2 rfl (lv_at hl 2 rfl) ?_
  refine k_goRi hS (va_runV (rest := []) ⟨hx, hb, hml, hown, hts⟩ (c_X5_isAsked l D q A a S s h) (cwV 2 hts gX5_player_X5_isAsked rfl rfl rfl (by decide +kernel) ⟨Nat.le_of_ble_eq_true rfl, Nat.le_of_ble_eq_true rfl⟩) ⟨kB_blind, (va_recv hK.1 hP.1 (ci := 6) (q0 := 0) rfl rfl), fun U hU hW => ⟨rfl, by rw [hU]; exact hP, hK.warm hW⟩⟩ rfl rfl hl.1 rfl (lv_room (Nat.le_of_ble_eq_true rfl)) dX5_player_3 ⟨Nat.zero_le _, Nat.zero_le _⟩) (fun H locs hP hS => ?_)
  refine k_if_eq (P := ¬ (iaP S s h)) (tgt := 22) hx hb dX5_player_6 (by decide) bI_0 (fun c_1 => ?_) (fun c_1 => ?_)
  · skip
    refine lv_iconst (v := nI 0) hx hb dX5_player_22 (by decide) ?_
    have eM : (up S 0 0 (iaV S s h)) = (moRow S 9 s h).2 := by unfold moRow; rw [if_neg c_1]; try rfl
    rw [eM] at hP
    exact k_iretW hx hb hr hlocks hP hS (by unfold moRow; rw [if_neg c_1]; try rfl) dX5_player_23
  · skip
    have c_1 : iaP S s h := Classical.not_not.mp c_1
    obtain ⟨e_s, b_s⟩ := inP_nat c_1.1 (by decide)
    obtain ⟨e_h, b_h⟩ := inP_lt hw c_1.2 (by omega)
    rw [e_s, e_h] at hl
    refine lv_aload_n hx hb dX5_player_9 rfl (lv_at hl 0 rfl) ?_
    refine va_get (D := D) (ci := 6) (v := .ref (a 9)) (C := RX5) (T := TX5) (N := 33) hx hb hts in_X5_player_X5 hown hK.1 hP.1 0 rfl rfl 9 (by decide) (hts _ fl_X5_player_32) (fun _ h9 => h9) rfl dX5_player_10 ?_
    refine lv_iload_n hx hb dX5_player_13 rfl (lv_at hl 1 rfl) ?_
    refine lv_iload_n hx hb dX5_player_14 rfl (lv_at hl 2 rfl) ?_
    refine k_callS (rest := [.ref (a 9)]) (r := nI (h.toNatClampNeg * 12 + s.toNatClampNeg)) ⟨hx, hb, hml, hown, hts⟩ (c_X5_cell l D q s.toNatClampNeg h.toNatClampNeg) (va_cwS 2 hts gX5_player_X5_cell rfl rfl rfl (by decide +kernel) ⟨Nat.le_of_ble_eq_true rfl, Nat.le_of_ble_eq_true rfl⟩) hK trivial rfl hl.1 rfl (Nat.le_of_ble_eq_true rfl) dX5_player_15 ⟨Nat.zero_le _, Nat.zero_le _⟩ (fun _ h => h) ?_
    refine k_iald hx hb hK hP.1 8 rfl (h.toNatClampNeg * 12 + s.toNatClampNeg) rfl (by omega) (by decide) dX5_player_18 ?_
    refine k_top (y := S 9 (h.toNatClampNeg * 12 + s.toNatClampNeg)) (congrFun (up_n (by decide)) _) ?_
    refine lv_goto (tgt := 23) hx hb dX5_player_19 (by decide) ?_
    have eM : (up S 0 0 (iaV S s h)) = (moRow S 9 s h).2 := by unfold moRow; rw [if_pos c_1]; try rfl
    rw [eM] at hP
    exact k_iretW hx hb hr hlocks hP hS (by unfold moRow; rw [if_pos c_1]; try rfl) dX5_player_23
set_option maxHeartbeats 4000000 in
set_option maxRecDepth 100000 in
theorem c_X5_count (l : Launch) (D : va_G) (q : Nat → ClassId) (A : Nat → Prop) (a : Nat → Nat) (S : Nat → Nat → Int32) (s h : Int32) (n w0 : Nat) (hn : S 0 11 = nI n) (hn60 : n ≤ 60) (hot : okT S n) (hw : S 0 1 = nI w0) (hw200 : w0 ≤ 200) : Met l yX5_count wsX5_count ({ frames := 4, cells := 0, slots := 0, locals := 90 } : Room) (va_Pc [.ref (a 0), .int (s), .int (h)] (kB D q (fun H => kW D A (wM q a S) H))) (kRi D A ((moCount S n s h).1) (wM q a ((moCount S n s h).2))) 0 0 A := by
  refine Met.ofW (cc := cX5_count) (maxL := 3) (ret := (some .int)) (by decide) rfl ?_
  intro p e u m args below meth c s₁ B hml0 hv
  obtain ⟨rfl, hP, hK⟩ := hv
  have C0 : kAt p u m #[.ref (a 0), .int (s), .int (h)] meth c cX5_count 3 (some .int) RX5 wsX5_count := kAt_of B hml0
  obtain ⟨hx, hb, hr, hml, hown, hts, hlocks⟩ := id C0
  have hS : va_S A u.heap u.heap [] := va_S.rf
  have hl := lv_entry ([.ref (a 0), .int (s), .int (h)]) (n := 3) (Nat.le_of_ble_eq_true rfl)
  rw [lg_entry_eq]
  generalize (lg_sl ([.ref (a 0), .int (s), .int (h)]) ++ List.replicate (3 - (lg_sl ([.ref (a 0), .int (s), .int (h)])).length) Slot.unset).toArray = ls at hl ⊢
  have hl : lv_has ls 3 [(0, .ref (a 0)), (1, .int (s)), (2, .int (h))] := hl
  refine lv_aload_n hx hb dX5_count_0 rfl (lv_at hl 0 rfl) ?_
  refine lv_iload_n hx hb dX5_count_1 rfl (lv_at hl 1 rfl) ?_
  refine lv_iload_n hx hb dX5_count_2 rfl (lv_at hl 2 rfl) ?_
  refine k_goRi hS (va_runV (rest := []) ⟨hx, hb, hml, hown, hts⟩ (c_X5_isAsked l D q A a S s h) (cwV 2 hts gX5_count_X5_isAsked rfl rfl rfl (by decide +kernel) ⟨Nat.le_of_ble_eq_true rfl, Nat.le_of_ble_eq_true rfl⟩) ⟨kB_blind, (va_recv hK.1 hP.1 (ci := 6) (q0 := 0) rfl rfl), fun U hU hW => ⟨rfl, by rw [hU]; exact hP, hK.warm hW⟩⟩ rfl rfl hl.1 rfl (lv_room (Nat.le_of_ble_eq_true rfl)) dX5_count_3 ⟨Nat.zero_le _, Nat.zero_le _⟩) (fun H locs hP hS => ?_)
  refine k_if_eq (P := ¬ (iaP S s h)) (tgt := 18) hx hb dX5_count_6 (by decide) bI_0 (fun c_1 => ?_) (fun c_1 => ?_)
  · skip
    refine lv_iconst (v := nI 0) hx hb dX5_count_18 (by decide) ?_
    have eM : (up S 0 0 (iaV S s h)) = (moCount S n s h).2 := by unfold moCount; rw [if_neg c_1]; try rfl
    rw [eM] at hP
    exact k_iretW hx hb hr hlocks hP hS (by unfold moCount; rw [if_neg c_1]; try rfl) dX5_count_19
  · skip
    have c_1 : iaP S s h := Classical.not_not.mp c_1
    obtain ⟨e_s, b_s⟩ := inP_nat c_1.1 (by decide)
    obtain ⟨e_h, b_h⟩ := inP_lt hw c_1.2 (by omega)
    rw [e_s, e_h] at hl
    refine lv_aload_n hx hb dX5_count_9 rfl (lv_at hl 0 rfl) ?_
    refine lv_iload_n hx hb dX5_count_10 rfl (lv_at hl 1 rfl) ?_
    refine lv_iload_n hx hb dX5_count_11 rfl (lv_at hl 2 rfl) ?_
    refine k_callV (rest := []) (r := coM ((up S 0 0 (iaV S s h))) n h.toNatClampNeg s.toNatClampNeg) ⟨hx, hb, hml, hown, hts⟩ (c_X5_countOf l D q a ((up S 0 0 (iaV S s h))) s.toNatClampNeg h.toNatClampNeg n (by omega) (by omega) ((up_sn (by decide)).trans hn) hn60 (okT_congr (up_n (by decide)) hot)) (cwV 2 hts gX5_count_X5_countOf rfl rfl rfl (by decide +kernel) ⟨Nat.le_of_ble_eq_true rfl, Nat.le_of_ble_eq_true rfl⟩) hK hP.1 (va_recv hK.1 hP.1 (ci := 6) (q0 := 0) rfl rfl) rfl hl.1 rfl (Nat.le_of_ble_eq_true rfl) dX5_count_12 ⟨Nat.zero_le _, Nat.zero_le _⟩ (fun _ h => h) ?_
    refine lv_goto (tgt := 19) hx hb dX5_count_15 (by decide) ?_
    have eM : (up S 0 0 (iaV S s h)) = (moCount S n s h).2 := by unfold moCount; rw [if_pos c_1]; try rfl
    rw [eM] at hP
    exact k_iretW hx hb hr hlocks hP hS (by unfold moCount; rw [if_pos c_1]; try rfl) dX5_count_19
set_option maxHeartbeats 4000000 in
set_option maxRecDepth 100000 in
theorem c_X5_countAnew (l : Launch) (D : va_G) (q : Nat → ClassId) (A : Nat → Prop) (a : Nat → Nat) (S : Nat → Nat → Int32) (s h : Int32) (n w0 : Nat) (hn : S 0 11 = nI n) (hn60 : n ≤ 60) (hot : okT S n) (hw : S 0 1 = nI w0) (hw200 : w0 ≤ 200) : Met l yX5_countAnew wsX5_countAnew ({ frames := 4, cells := 0, slots := 0, locals := 90 } : Room) (va_Pc [.ref (a 0), .int (s), .int (h)] (kB D q (fun H => kW D A (wM q a S) H))) (kRi D A ((moCount S n s h).1) (wM q a ((moCount S n s h).2))) 0 0 A := by
  refine Met.ofW (cc := cX5_countAnew) (maxL := 3) (ret := (some .int)) (by decide) rfl ?_
  intro p e u m args below meth c s₁ B hml0 hv
  obtain ⟨rfl, hP, hK⟩ := hv
  have C0 : kAt p u m #[.ref (a 0), .int (s), .int (h)] meth c cX5_countAnew 3 (some .int) RX5 wsX5_countAnew := kAt_of B hml0
  obtain ⟨hx, hb, hr, hml, hown, hts, hlocks⟩ := id C0
  have hS : va_S A u.heap u.heap [] := va_S.rf
  have hl := lv_entry ([.ref (a 0), .int (s), .int (h)]) (n := 3) (Nat.le_of_ble_eq_true rfl)
  rw [lg_entry_eq]
  generalize (lg_sl ([.ref (a 0), .int (s), .int (h)]) ++ List.replicate (3 - (lg_sl ([.ref (a 0), .int (s), .int (h)])).length) Slot.unset).toArray = ls at hl ⊢
  have hl : lv_has ls 3 [(0, .ref (a 0)), (1, .int (s)), (2, .int (h))] := hl
  refine lv_aload_n hx hb dX5_countAnew_0 rfl (lv_at hl 0 rfl) ?_
  refine lv_iload_n hx hb dX5_countAnew_1 rfl (lv_at hl 1 rfl) ?_
  refine lv_iload_n hx hb dX5_countAnew_2 rfl (lv_at hl 2 rfl) ?_
  refine k_goRi hS (va_runV (rest := []) ⟨hx, hb, hml, hown, hts⟩ (c_X5_isAsked l D q A a S s h) (cwV 2 hts gX5_countAnew_X5_isAsked rfl rfl rfl (by decide +kernel) ⟨Nat.le_of_ble_eq_true rfl, Nat.le_of_ble_eq_true rfl⟩) ⟨kB_blind, (va_recv hK.1 hP.1 (ci := 6) (q0 := 0) rfl rfl), fun U hU hW => ⟨rfl, by rw [hU]; exact hP, hK.warm hW⟩⟩ rfl rfl hl.1 rfl (lv_room (Nat.le_of_ble_eq_true rfl)) dX5_countAnew_3 ⟨Nat.zero_le _, Nat.zero_le _⟩) (fun H locs hP hS => ?_)
  refine k_if_eq (P := ¬ (iaP S s h)) (tgt := 18) hx hb dX5_countAnew_6 (by decide) bI_0 (fun c_1 => ?_) (fun c_1 => ?_)
  · skip
    refine lv_iconst (v := nI 0) hx hb dX5_countAnew_18 (by decide) ?_
    have eM : (up S 0 0 (iaV S s h)) = (moCount S n s h).2 := by unfold moCount; rw [if_neg c_1]; try rfl
    rw [eM] at hP
    exact k_iretW hx hb hr hlocks hP hS (by unfold moCount; rw [if_neg c_1]; try rfl) dX5_countAnew_19
  · skip
    have c_1 : iaP S s h := Classical.not_not.mp c_1
    obtain ⟨e_s, b_s⟩ := inP_nat c_1.1 (by decide)
    obtain ⟨e_h, b_h⟩ := inP_lt hw c_1.2 (by omega)
    rw [e_s, e_h] at hl
    refine lv_aload_n hx hb dX5_countAnew_9 rfl (lv_at hl 0 rfl) ?_
    refine lv_iload_n hx hb dX5_countAnew_10 rfl (lv_at hl 1 rfl) ?_
    refine lv_iload_n hx hb dX5_countAnew_11 rfl (lv_at hl 2 rfl) ?_
    refine k_callV (rest := []) (r := coM ((up S 0 0 (iaV S s h))) n h.toNatClampNeg s.toNatClampNeg) ⟨hx, hb, hml, hown, hts⟩ (c_X5_countOf l D q a ((up S 0 0 (iaV S s h))) s.toNatClampNeg h.toNatClampNeg n (by omega) (by omega) ((up_sn (by decide)).trans hn) hn60 (okT_congr (up_n (by decide)) hot)) (cwV 2 hts gX5_countAnew_X5_countOf rfl rfl rfl (by decide +kernel) ⟨Nat.le_of_ble_eq_true rfl, Nat.le_of_ble_eq_true rfl⟩) hK hP.1 (va_recv hK.1 hP.1 (ci := 6) (q0 := 0) rfl rfl) rfl hl.1 rfl (Nat.le_of_ble_eq_true rfl) dX5_countAnew_12 ⟨Nat.zero_le _, Nat.zero_le _⟩ (fun _ h => h) ?_
    refine lv_goto (tgt := 19) hx hb dX5_countAnew_15 (by decide) ?_
    have eM : (up S 0 0 (iaV S s h)) = (moCount S n s h).2 := by unfold moCount; rw [if_pos c_1]; try rfl
    rw [eM] at hP
    exact k_iretW hx hb hr hlocks hP hS (by unfold moCount; rw [if_pos c_1]; try rfl) dX5_countAnew_19
theorem fl_X5_through_35 : Cond.fieldLink RX5 35 "LampCountsModel" "through" "[I" ∈ wsX5_through := by decide +kernel
theorem fl_X5_through_95 : Cond.fieldLink RX5 95 "LampCountsModel" "thrown" "I" ∈ wsX5_through := by decide +kernel
theorem in_X5_through_X5 : ∀ w ∈ u_ws RX5 TX5 33, w ∈ wsX5_through := by decide +kernel
set_option maxHeartbeats 4000000 in
set_option maxRecDepth 100000 in
theorem c_X5_through (l : Launch) (D : va_G) (q : Nat → ClassId) (A : Nat → Prop) (a : Nat → Nat) (S : Nat → Nat → Int32) (h : Int32) (w0 : Nat) (hw : S 0 1 = nI w0) (hw200 : w0 ≤ 200) : Met l yX5_through wsX5_through ({ frames := 2, cells := 0, slots := 0, locals := 43 } : Room) (va_Pc [.ref (a 0), .int (h)] (kB D q (fun H => kW D A (wM q a S) H))) (kRi D A ((moThrough S h).1) (wM q a ((moThrough S h).2))) 0 0 A := by
  refine Met.ofW (cc := cX5_through) (maxL := 2) (ret := (some .int)) (by decide) rfl ?_
  intro p e u m args below meth c s₁ B hml0 hv
  obtain ⟨rfl, hP, hK⟩ := hv
  have C0 : kAt p u m #[.ref (a 0), .int (h)] meth c cX5_through 2 (some .int) RX5 wsX5_through := kAt_of B hml0
  obtain ⟨hx, hb, hr, hml, hown, hts, hlocks⟩ := id C0
  have hS : va_S A u.heap u.heap [] := va_S.rf
  have hl := lv_entry ([.ref (a 0), .int (h)]) (n := 2) (Nat.le_of_ble_eq_true rfl)
  rw [lg_entry_eq]
  generalize (lg_sl ([.ref (a 0), .int (h)]) ++ List.replicate (2 - (lg_sl ([.ref (a 0), .int (h)])).length) Slot.unset).toArray = ls at hl ⊢
  have hl : lv_has ls 2 [(0, .ref (a 0)), (1, .int (h))] := hl
  refine lv_aload_n hx hb dX5_through_0 rfl (lv_at hl 0 rfl) ?_
  refine lv_iconst (v := nI 0) hx hb dX5_through_1 (by decide) ?_
  refine k_puti (wM q a ((up S 0 0 (nI 0)))) hx hb hts in_X5_through_X5 tyX5 tyX5_ok nmX5 hown hK hP hS 0 rfl rfl 0 (by decide) (hts _ fl_X5_through_95) (fun _ h9 => h9) rfl (by decide +kernel) (Nat.le_of_ble_eq_true rfl) wM_f0_0 dX5_through_2 (fun H locs hP hS => ?_)
  refine lv_aload_n hx hb dX5_through_5 rfl (lv_at hl 0 rfl) ?_
  refine lv_iload_n hx hb dX5_through_6 rfl (lv_at hl 1 rfl) ?_
  refine k_callV (rest := []) (r := bI (inP h (nI 0) (((up S 0 0 (nI 0))) 0 1 - nI 1))) ⟨hx, hb, hml, hown, hts⟩ (c_X5_isOver l D q a ((up S 0 0 (nI 0))) h) (cwV 1 hts gX5_through_X5_isOver rfl rfl rfl (by decide +kernel) ⟨Nat.le_of_ble_eq_true rfl, Nat.le_of_ble_eq_true rfl⟩) hK hP.1 (va_recv hK.1 hP.1 (ci := 6) (q0 := 0) rfl rfl) rfl hl.1 rfl (Nat.le_of_ble_eq_true rfl) dX5_through_7 ⟨Nat.zero_le _, Nat.zero_le _⟩ (fun _ h => h) ?_
  refine k_if_eq (P := ¬ (inP h (nI 0) (((up S 0 0 (nI 0))) 0 1 - nI 1))) (tgt := 22) hx hb dX5_through_10 (by decide) bI_0 (fun c_1 => ?_) (fun c_1 => ?_)
  · skip
    refine lv_aload_n hx hb dX5_through_22 rfl (lv_at hl 0 rfl) ?_
    refine lv_iconst (v := nI 1) hx hb dX5_through_23 (by decide) ?_
    refine k_goRi hS (va_runV (rest := []) ⟨hx, hb, hml, hown, hts⟩ (c_X5_fails l D q A a ((up S 0 0 (nI 0))) (nI 1)) (cwV 1 hts gX5_through_X5_fails rfl rfl rfl (by decide +kernel) ⟨Nat.le_of_ble_eq_true rfl, Nat.le_of_ble_eq_true rfl⟩) ⟨kB_blind, (va_recv hK.1 hP.1 (ci := 6) (q0 := 0) rfl rfl), fun U hU hW => ⟨rfl, by rw [hU]; exact hP, hK.warm hW⟩⟩ rfl rfl hl.1 rfl (lv_room (Nat.le_of_ble_eq_true rfl)) dX5_through_24 ⟨Nat.zero_le _, Nat.zero_le _⟩) (fun H locs hP hS => ?_)
    have eM : (up (up S 0 0 (nI 0)) 0 0 (nI 1)) = (moThrough S h).2 := by unfold moThrough; rw [if_neg c_1]; try rfl
    rw [eM] at hP
    exact k_iretW hx hb hr hlocks hP hS (by unfold moThrough; rw [if_neg c_1]; try rfl) dX5_through_27
  · skip
    have c_1 : inP h (nI 0) (((up S 0 0 (nI 0))) 0 1 - nI 1) := Classical.not_not.mp c_1
    obtain ⟨e_h, b_h⟩ := inP_lt ((up_sn (by decide)).trans hw) c_1 (by omega)
    rw [e_h] at hl
    refine lv_aload_n hx hb dX5_through_13 rfl (lv_at hl 0 rfl) ?_
    refine va_get (D := D) (ci := 6) (v := .ref (a 10)) (C := RX5) (T := TX5) (N := 33) hx hb hts in_X5_through_X5 hown hK.1 hP.1 0 rfl rfl 10 (by decide) (hts _ fl_X5_through_35) (fun _ h9 => h9) rfl dX5_through_14 ?_
    refine lv_iload_n hx hb dX5_through_17 rfl (lv_at hl 1 rfl) ?_
    refine k_iald hx hb hK hP.1 9 rfl h.toNatClampNeg rfl (by omega) (by decide) dX5_through_18 ?_
    refine k_top (y := S 10 h.toNatClampNeg) (congrFun (up_n (by decide)) _) ?_
    refine lv_goto (tgt := 27) hx hb dX5_through_19 (by decide) ?_
    have eM : (up S 0 0 (nI 0)) = (moThrough S h).2 := by unfold moThrough; rw [if_pos c_1]; try rfl
    rw [eM] at hP
    exact k_iretW hx hb hr hlocks hP hS (by unfold moThrough; rw [if_pos c_1]; try rfl) dX5_through_27
theorem fl_X5_taken_95 : Cond.fieldLink RX5 95 "LampCountsModel" "thrown" "I" ∈ wsX5_taken := by decide +kernel
theorem in_X5_taken_X5 : ∀ w ∈ u_ws RX5 TX5 33, w ∈ wsX5_taken := by decide +kernel
set_option maxHeartbeats 4000000 in
set_option maxRecDepth 100000 in
theorem c_X5_taken (l : Launch) (D : va_G) (q : Nat → ClassId) (A : Nat → Prop) (a : Nat → Nat) (S : Nat → Nat → Int32) (s h : Int32) (n : Nat) (hn : S 0 11 = nI n) (hn60 : n ≤ 60) : Met l yX5_taken wsX5_taken ({ frames := 2, cells := 0, slots := 0, locals := 42 } : Room) (va_Pc [.ref (a 0), .int (s), .int (h)] (kB D q (fun H => kW D A (wM q a S) H))) (kRi D A ((moTaken S n s h).1) (wM q a ((moTaken S n s h).2))) 0 0 A := by
  refine Met.ofW (cc := cX5_taken) (maxL := 3) (ret := (some .int)) (by decide) rfl ?_
  intro p e u m args below meth c s₁ B hml0 hv
  obtain ⟨rfl, hP, hK⟩ := hv
  have C0 : kAt p u m #[.ref (a 0), .int (s), .int (h)] meth c cX5_taken 3 (some .int) RX5 wsX5_taken := kAt_of B hml0
  obtain ⟨hx, hb, hr, hml, hown, hts, hlocks⟩ := id C0
  have hS : va_S A u.heap u.heap [] := va_S.rf
  have hl := lv_entry ([.ref (a 0), .int (s), .int (h)]) (n := 3) (Nat.le_of_ble_eq_true rfl)
  rw [lg_entry_eq]
  generalize (lg_sl ([.ref (a 0), .int (s), .int (h)]) ++ List.replicate (3 - (lg_sl ([.ref (a 0), .int (s), .int (h)])).length) Slot.unset).toArray = ls at hl ⊢
  have hl : lv_has ls 3 [(0, .ref (a 0)), (1, .int (s)), (2, .int (h))] := hl
  refine lv_aload_n hx hb dX5_taken_0 rfl (lv_at hl 0 rfl) ?_
  refine lv_iconst (v := nI 0) hx hb dX5_taken_1 (by decide) ?_
  refine k_puti (wM q a ((up S 0 0 (nI 0)))) hx hb hts in_X5_taken_X5 tyX5 tyX5_ok nmX5 hown hK hP hS 0 rfl rfl 0 (by decide) (hts _ fl_X5_taken_95) (fun _ h9 => h9) rfl (by decide +kernel) (Nat.le_of_ble_eq_true rfl) wM_f0_0 dX5_taken_2 (fun H locs hP hS => ?_)
  refine lv_iload_n hx hb dX5_taken_5 rfl (lv_at hl 1 rfl) ?_
  refine k_callS (rest := []) (r := bI (inP s (nI 0) (nI 11))) ⟨hx, hb, hml, hown, hts⟩ (c_X5_isSection l D q s) (va_cwS 1 hts gX5_taken_X5_isSection rfl rfl rfl (by decide +kernel) ⟨Nat.le_of_ble_eq_true rfl, Nat.le_of_ble_eq_true rfl⟩) hK trivial rfl hl.1 rfl (Nat.le_of_ble_eq_true rfl) dX5_taken_6 ⟨Nat.zero_le _, Nat.zero_le _⟩ (fun _ h => h) ?_
  refine k_if_ne (P := ¬ (inP s (nI 0) (nI 11))) (tgt := 18) hx hb dX5_taken_9 (by decide) bI_0 (fun c_1 => ?_) (fun c_1 => ?_)
  · skip
    have c_1 : inP s (nI 0) (nI 11) := Classical.not_not.mp c_1
    obtain ⟨e_s, b_s⟩ := inP_nat c_1 (by omega)
    rw [e_s] at hl
    refine lv_iload_n hx hb dX5_taken_18 rfl (lv_at hl 2 rfl) ?_
    refine lv_iconst (v := nI 0) hx hb dX5_taken_19 (by decide) ?_
    refine lv_sipush (v := nI 199) hx hb dX5_taken_20 (by decide) ?_
    refine k_callS (rest := []) (r := bI (inP h (nI 0) (nI 199))) ⟨hx, hb, hml, hown, hts⟩ (c_X5_in l D q h (nI 0) (nI 199)) (va_cwS 3 hts gX5_taken_X5_in rfl rfl rfl (by decide +kernel) ⟨Nat.le_of_ble_eq_true rfl, Nat.le_of_ble_eq_true rfl⟩) hK trivial rfl hl.1 rfl (Nat.le_of_ble_eq_true rfl) dX5_taken_23 ⟨Nat.zero_le _, Nat.zero_le _⟩ (fun _ h => h) ?_
    refine k_if_eq (P := ¬ (inP h (nI 0) (nI 199))) (tgt := 38) hx hb dX5_taken_26 (by decide) bI_0 (fun c_2 => ?_) (fun c_2 => ?_)
    · skip
      refine lv_aload_n hx hb dX5_taken_38 rfl (lv_at hl 0 rfl) ?_
      refine lv_iconst (v := nI 2) hx hb dX5_taken_39 (by decide) ?_
      refine k_goRi hS (va_runV (rest := []) ⟨hx, hb, hml, hown, hts⟩ (c_X5_fails l D q A a ((up S 0 0 (nI 0))) (nI 2)) (cwV 1 hts gX5_taken_X5_fails rfl rfl rfl (by decide +kernel) ⟨Nat.le_of_ble_eq_true rfl, Nat.le_of_ble_eq_true rfl⟩) ⟨kB_blind, (va_recv hK.1 hP.1 (ci := 6) (q0 := 0) rfl rfl), fun U hU hW => ⟨rfl, by rw [hU]; exact hP, hK.warm hW⟩⟩ rfl rfl hl.1 rfl (lv_room (Nat.le_of_ble_eq_true rfl)) dX5_taken_40 ⟨Nat.zero_le _, Nat.zero_le _⟩) (fun H locs hP hS => ?_)
      have eM : (up (up S 0 0 (nI 0)) 0 0 (nI 2)) = (moTaken S n s h).2 := by unfold moTaken; rw [if_pos c_1, if_neg c_2]; try rfl
      rw [eM] at hP
      exact k_iretW hx hb hr hlocks hP hS (by unfold moTaken; rw [if_pos c_1, if_neg c_2]; try rfl) dX5_taken_43
    · skip
      have c_2 : inP h (nI 0) (nI 199) := Classical.not_not.mp c_2
      obtain ⟨e_h, b_h⟩ := inP_nat c_2 (by omega)
      rw [e_h] at hl
      refine lv_aload_n hx hb dX5_taken_29 rfl (lv_at hl 0 rfl) ?_
      refine lv_iload_n hx hb dX5_taken_30 rfl (lv_at hl 1 rfl) ?_
      refine lv_iload_n hx hb dX5_taken_31 rfl (lv_at hl 2 rfl) ?_
      refine k_callV (rest := []) (r := takenF (((up S 0 0 (nI 0))) 12) (((up S 0 0 (nI 0))) 13) (((up S 0 0 (nI 0))) 14) (nI s.toNatClampNeg) (nI h.toNatClampNeg) n) ⟨hx, hb, hml, hown, hts⟩ (c_X5_takenFor l D q a ((up S 0 0 (nI 0))) s.toNatClampNeg h.toNatClampNeg n ((up_sn (by decide)).trans hn) hn60) (cwV 2 hts gX5_taken_X5_takenFor rfl rfl rfl (by decide +kernel) ⟨Nat.le_of_ble_eq_true rfl, Nat.le_of_ble_eq_true rfl⟩) hK hP.1 (va_recv hK.1 hP.1 (ci := 6) (q0 := 0) rfl rfl) rfl hl.1 rfl (Nat.le_of_ble_eq_true rfl) dX5_taken_32 ⟨Nat.zero_le _, Nat.zero_le _⟩ (fun _ h => h) ?_
      refine lv_goto (tgt := 43) hx hb dX5_taken_35 (by decide) ?_
      have eM : (up S 0 0 (nI 0)) = (moTaken S n s h).2 := by unfold moTaken; rw [if_pos c_1, if_pos c_2]; try rfl
      rw [eM] at hP
      exact k_iretW hx hb hr hlocks hP hS (by unfold moTaken; rw [if_pos c_1, if_pos c_2]; try rfl) dX5_taken_43
  · skip
    refine lv_aload_n hx hb dX5_taken_12 rfl (lv_at hl 0 rfl) ?_
    refine lv_iconst (v := nI 1) hx hb dX5_taken_13 (by decide) ?_
    refine k_goRi hS (va_runV (rest := []) ⟨hx, hb, hml, hown, hts⟩ (c_X5_fails l D q A a ((up S 0 0 (nI 0))) (nI 1)) (cwV 1 hts gX5_taken_X5_fails rfl rfl rfl (by decide +kernel) ⟨Nat.le_of_ble_eq_true rfl, Nat.le_of_ble_eq_true rfl⟩) ⟨kB_blind, (va_recv hK.1 hP.1 (ci := 6) (q0 := 0) rfl rfl), fun U hU hW => ⟨rfl, by rw [hU]; exact hP, hK.warm hW⟩⟩ rfl rfl hl.1 rfl (lv_room (Nat.le_of_ble_eq_true rfl)) dX5_taken_14 ⟨Nat.zero_le _, Nat.zero_le _⟩) (fun H locs hP hS => ?_)
    have eM : (up (up S 0 0 (nI 0)) 0 0 (nI 1)) = (moTaken S n s h).2 := by unfold moTaken; rw [if_neg c_1]; try rfl
    rw [eM] at hP
    exact k_iretW hx hb hr hlocks hP hS (by unfold moTaken; rw [if_neg c_1]; try rfl) dX5_taken_17
theorem fl_X5_missed_23 : Cond.fieldLink RX5 23 "LampCountsModel" "steps" "[I" ∈ wsX5_missed := by decide +kernel
theorem fl_X5_missed_95 : Cond.fieldLink RX5 95 "LampCountsModel" "thrown" "I" ∈ wsX5_missed := by decide +kernel
theorem in_X5_missed_X5 : ∀ w ∈ u_ws RX5 TX5 33, w ∈ wsX5_missed := by decide +kernel
set_option maxHeartbeats 4000000 in
set_option maxRecDepth 100000 in
theorem lp_X5_missed_23 {p : Program} {l : Launch} {e : Env} {u : State} {m : MethodId} {below : List Frame} {meth : Method} {c : Code} {D : va_G} {q : Nat → ClassId} {A : Nat → Prop} (a : Nat → Nat) (S : Nat → Nat → Int32) (h : Int32) (n w0 : Nat) (hn : S 0 11 = nI n) (hn60 : n ≤ 60) (hot : okT S n) (hw : S 0 1 = nI w0) (hw200 : w0 ≤ 200) (b_h : h.toNatClampNeg < w0) (hfin : moMissed S n h = (msF (up S 0 0 (nI 0)) n h.toNatClampNeg 12, up S 0 0 (nI 0))) (C0 : kAt p u m #[.ref (a 0), .int (h)] meth c cX5_missed 5 (some .int) RX5 wsX5_missed) (hK : kK D q u) :
    ∀ (f : Nat) (x : Nat) (T : Nat → Nat → Int32) (x1 : Int32) (x2 : Int32) (x3 : Int32), 12 - x < f → x ≤ 12 → T = up S 0 0 (nI 0) → x1 = nI h.toNatClampNeg → x2 = msF (up S 0 0 (nI 0)) n h.toNatClampNeg x → x3 = nI x → ∀ (H : Heap) (locs : List Loc), kW D A (wM q a T) H → va_S A u.heap H locs → ∀ (ls : Array Slot), lv_has ls 5 [(0, .ref (a 0)), (1, .int x1), (2, .int x2), (3, .int x3)] → W p l e ({ frames := 4, cells := 0, slots := 0, locals := 90 } : Room) u m #[.ref (a 0), .int (h)] below meth c H locs 0 0 (MQ below (kRi D A ((moMissed S n h).1) (wM q a ((moMissed S n h).2))) #[.ref (a 0), .int (h)] u 0 0 A) (F0 m 23 ls []) := by
  obtain ⟨hx, hb, hr, hml, hown, hts, hlocks⟩ := id C0
  intro f
  induction f with
  | zero =>
    intro x T x1 x2 x3 hf
    exact absurd hf (Nat.not_lt_zero _)
  | succ f ih =>
    intro x T x1 x2 x3 hf hx12 eT e1 e2 e3 H locs hP hS ls hl
    replace eT := eT.symm
    subst eT
    replace e1 := e1.symm
    subst e1
    replace e2 := e2.symm
    subst e2
    replace e3 := e3.symm
    subst e3
    refine lv_iload_n hx hb dX5_missed_23 rfl (lv_at hl 3 rfl) ?_
    refine lv_bipush (v := nI 12) hx hb dX5_missed_24 (by decide) ?_
    refine k_icmp_ge (P := x < 12) (tgt := 70) hx hb dX5_missed_26 (by decide) (nI_ltI (by omega) (by omega)) (fun c_1 => ?_) (fun c_1 => ?_)
    · skip
      refine lv_iload_n hx hb dX5_missed_70 rfl (lv_at hl 2 rfl) ?_
      have eM : up S 0 0 (nI 0) = (moMissed S n h).2 := by rw [hfin]
      rw [eM] at hP
      exact k_iretW hx hb hr hlocks hP hS (by rw [hfin, show x = 12 from by omega]) dX5_missed_71
    · skip
      refine lv_aload_n hx hb dX5_missed_29 rfl (lv_at hl 0 rfl) ?_
      refine lv_iload_n hx hb dX5_missed_30 rfl (lv_at hl 3 rfl) ?_
      refine lv_iload_n hx hb dX5_missed_31 rfl (lv_at hl 1 rfl) ?_
      refine k_callV (rest := []) (r := coM (up S 0 0 (nI 0)) n h.toNatClampNeg x) ⟨hx, hb, hml, hown, hts⟩ (c_X5_countOf l D q a (up S 0 0 (nI 0)) x h.toNatClampNeg n (by omega) (by omega) ((up_sn (by decide)).trans hn) hn60 (okT_congr (up_n (by decide)) hot)) (cwV 2 hts gX5_missed_X5_countOf rfl rfl rfl (by decide +kernel) ⟨Nat.le_of_ble_eq_true rfl, Nat.le_of_ble_eq_true rfl⟩) hK hP.1 (va_recv hK.1 hP.1 (ci := 6) (q0 := 0) rfl rfl) rfl hl.1 rfl (Nat.le_of_ble_eq_true rfl) dX5_missed_32 ⟨Nat.zero_le _, Nat.zero_le _⟩ (fun _ h => h) ?_
      refine lv_aload_n hx hb dX5_missed_35 rfl (lv_at hl 0 rfl) ?_
      refine va_get (D := D) (ci := 6) (v := .ref (a 6)) (C := RX5) (T := TX5) (N := 33) hx hb hts in_X5_missed_X5 hown hK.1 hP.1 0 rfl rfl 6 (by decide) (hts _ fl_X5_missed_23) (fun _ h9 => h9) rfl dX5_missed_36 ?_
      refine lv_iload_n hx hb dX5_missed_39 rfl (lv_at hl 3 rfl) ?_
      refine lv_iload_n hx hb dX5_missed_40 rfl (lv_at hl 1 rfl) ?_
      refine k_callS (rest := [.ref (a 6), .int (coM (up S 0 0 (nI 0)) n h.toNatClampNeg x)]) (r := nI (h.toNatClampNeg * 12 + x)) ⟨hx, hb, hml, hown, hts⟩ (c_X5_cell l D q x h.toNatClampNeg) (va_cwS 2 hts gX5_missed_X5_cell rfl rfl rfl (by decide +kernel) ⟨Nat.le_of_ble_eq_true rfl, Nat.le_of_ble_eq_true rfl⟩) hK trivial rfl hl.1 rfl (Nat.le_of_ble_eq_true rfl) dX5_missed_41 ⟨Nat.zero_le _, Nat.zero_le _⟩ (fun _ h => h) ?_
      refine k_iald hx hb hK hP.1 5 rfl (h.toNatClampNeg * 12 + x) rfl (by omega) (by decide) dX5_missed_44 ?_
      refine lv_isub hx hb dX5_missed_45 ?_
      refine lv_istore (lv' := [(4, .int ((coM (up S 0 0 (nI 0)) n h.toNatClampNeg x) - ((up S 0 0 (nI 0)) 6 (h.toNatClampNeg * 12 + x)))), (0, .ref (a 0)), (1, .int (nI h.toNatClampNeg)), (2, .int (msF (up S 0 0 (nI 0)) n h.toNatClampNeg x)), (3, .int (nI x))]) hx hb dX5_missed_46 hl (by decide) rfl (fun ls hl => ?_)
      refine lv_iload_n hx hb dX5_missed_48 rfl (lv_at hl 3 rfl) ?_
      refine lv_iload hx hb dX5_missed_49 (lv_at hl 0 rfl) ?_
      refine k_if_ge (P := ofM (up S 0 0 (nI 0)) n h.toNatClampNeg x < 0) (tgt := 60) hx hb dX5_missed_51 (by decide) Iff.rfl (fun c_2 => ?_) (fun c_2 => ?_)
      · skip
        refine lv_iload hx hb dX5_missed_60 (lv_at hl 0 rfl) ?_
        refine lv_iadd hx hb dX5_missed_62 ?_
        refine lv_istore_n (lv' := [(2, .int ((msF (up S 0 0 (nI 0)) n h.toNatClampNeg x) + ((coM (up S 0 0 (nI 0)) n h.toNatClampNeg x) - ((up S 0 0 (nI 0)) 6 (h.toNatClampNeg * 12 + x))))), (4, .int ((coM (up S 0 0 (nI 0)) n h.toNatClampNeg x) - ((up S 0 0 (nI 0)) 6 (h.toNatClampNeg * 12 + x)))), (0, .ref (a 0)), (1, .int (nI h.toNatClampNeg)), (3, .int (nI x))]) hx hb dX5_missed_63 rfl hl (by decide) rfl (fun ls hl => ?_)
        refine lv_iinc (v := nI (x + 1)) (lv' := [(3, .int (nI (x + 1))), (2, .int ((msF (up S 0 0 (nI 0)) n h.toNatClampNeg x) + ((coM (up S 0 0 (nI 0)) n h.toNatClampNeg x) - ((up S 0 0 (nI 0)) 6 (h.toNatClampNeg * 12 + x))))), (4, .int ((coM (up S 0 0 (nI 0)) n h.toNatClampNeg x) - ((up S 0 0 (nI 0)) 6 (h.toNatClampNeg * 12 + x)))), (0, .ref (a 0)), (1, .int (nI h.toNatClampNeg))]) hx hb dX5_missed_64 hl (k := 4) rfl (k_iinc _) (by decide) rfl (fun ls hl => ?_)
        refine lv_goto (tgt := 23) hx hb dX5_missed_67 (by decide) ?_
        exact ih (x + 1) (up S 0 0 (nI 0)) (nI h.toNatClampNeg) ((msF (up S 0 0 (nI 0)) n h.toNatClampNeg x) + ((coM (up S 0 0 (nI 0)) n h.toNatClampNeg x) - ((up S 0 0 (nI 0)) 6 (h.toNatClampNeg * 12 + x)))) (nI (x + 1)) (by omega) (by first | omega | assumption) rfl rfl (by show _ = msF (up S 0 0 (nI 0)) n h.toNatClampNeg x + (if ofM (up S 0 0 (nI 0)) n h.toNatClampNeg x < 0 then -(ofM (up S 0 0 (nI 0)) n h.toNatClampNeg x) else ofM (up S 0 0 (nI 0)) n h.toNatClampNeg x); rw [if_neg c_2]; rfl) rfl _ _ hP hS ls (lv_sub hl [3, 4, 1, 0] rfl)
      · skip
        refine lv_iload hx hb dX5_missed_54 (lv_at hl 0 rfl) ?_
        refine lv_ineg hx hb dX5_missed_56 ?_
        refine lv_goto (tgt := 62) hx hb dX5_missed_57 (by decide) ?_
        refine lv_iadd hx hb dX5_missed_62 ?_
        refine lv_istore_n (lv' := [(2, .int ((msF (up S 0 0 (nI 0)) n h.toNatClampNeg x) + (-((coM (up S 0 0 (nI 0)) n h.toNatClampNeg x) - ((up S 0 0 (nI 0)) 6 (h.toNatClampNeg * 12 + x)))))), (4, .int ((coM (up S 0 0 (nI 0)) n h.toNatClampNeg x) - ((up S 0 0 (nI 0)) 6 (h.toNatClampNeg * 12 + x)))), (0, .ref (a 0)), (1, .int (nI h.toNatClampNeg)), (3, .int (nI x))]) hx hb dX5_missed_63 rfl hl (by decide) rfl (fun ls hl => ?_)
        refine lv_iinc (v := nI (x + 1)) (lv' := [(3, .int (nI (x + 1))), (2, .int ((msF (up S 0 0 (nI 0)) n h.toNatClampNeg x) + (-((coM (up S 0 0 (nI 0)) n h.toNatClampNeg x) - ((up S 0 0 (nI 0)) 6 (h.toNatClampNeg * 12 + x)))))), (4, .int ((coM (up S 0 0 (nI 0)) n h.toNatClampNeg x) - ((up S 0 0 (nI 0)) 6 (h.toNatClampNeg * 12 + x)))), (0, .ref (a 0)), (1, .int (nI h.toNatClampNeg))]) hx hb dX5_missed_64 hl (k := 4) rfl (k_iinc _) (by decide) rfl (fun ls hl => ?_)
        refine lv_goto (tgt := 23) hx hb dX5_missed_67 (by decide) ?_
        exact ih (x + 1) (up S 0 0 (nI 0)) (nI h.toNatClampNeg) ((msF (up S 0 0 (nI 0)) n h.toNatClampNeg x) + (-((coM (up S 0 0 (nI 0)) n h.toNatClampNeg x) - ((up S 0 0 (nI 0)) 6 (h.toNatClampNeg * 12 + x))))) (nI (x + 1)) (by omega) (by first | omega | assumption) rfl rfl (by show _ = msF (up S 0 0 (nI 0)) n h.toNatClampNeg x + (if ofM (up S 0 0 (nI 0)) n h.toNatClampNeg x < 0 then -(ofM (up S 0 0 (nI 0)) n h.toNatClampNeg x) else ofM (up S 0 0 (nI 0)) n h.toNatClampNeg x); rw [if_pos c_2]; rfl) rfl _ _ hP hS ls (lv_sub hl [3, 4, 1, 0] rfl)
set_option maxHeartbeats 4000000 in
set_option maxRecDepth 100000 in
theorem c_X5_missed (l : Launch) (D : va_G) (q : Nat → ClassId) (A : Nat → Prop) (a : Nat → Nat) (S : Nat → Nat → Int32) (h : Int32) (n w0 : Nat) (hn : S 0 11 = nI n) (hn60 : n ≤ 60) (hot : okT S n) (hw : S 0 1 = nI w0) (hw200 : w0 ≤ 200) : Met l yX5_missed wsX5_missed ({ frames := 4, cells := 0, slots := 0, locals := 90 } : Room) (va_Pc [.ref (a 0), .int (h)] (kB D q (fun H => kW D A (wM q a S) H))) (kRi D A ((moMissed S n h).1) (wM q a ((moMissed S n h).2))) 0 0 A := by
  refine Met.ofW (cc := cX5_missed) (maxL := 5) (ret := (some .int)) (by decide) rfl ?_
  intro p e u m args below meth c s₁ B hml0 hv
  obtain ⟨rfl, hP, hK⟩ := hv
  have C0 : kAt p u m #[.ref (a 0), .int (h)] meth c cX5_missed 5 (some .int) RX5 wsX5_missed := kAt_of B hml0
  obtain ⟨hx, hb, hr, hml, hown, hts, hlocks⟩ := id C0
  have hS : va_S A u.heap u.heap [] := va_S.rf
  have hl := lv_entry ([.ref (a 0), .int (h)]) (n := 5) (Nat.le_of_ble_eq_true rfl)
  rw [lg_entry_eq]
  generalize (lg_sl ([.ref (a 0), .int (h)]) ++ List.replicate (5 - (lg_sl ([.ref (a 0), .int (h)])).length) Slot.unset).toArray = ls at hl ⊢
  have hl : lv_has ls 5 [(0, .ref (a 0)), (1, .int (h))] := hl
  refine lv_aload_n hx hb dX5_missed_0 rfl (lv_at hl 0 rfl) ?_
  refine lv_iconst (v := nI 0) hx hb dX5_missed_1 (by decide) ?_
  refine k_puti (wM q a ((up S 0 0 (nI 0)))) hx hb hts in_X5_missed_X5 tyX5 tyX5_ok nmX5 hown hK hP hS 0 rfl rfl 0 (by decide) (hts _ fl_X5_missed_95) (fun _ h9 => h9) rfl (by decide +kernel) (Nat.le_of_ble_eq_true rfl) wM_f0_0 dX5_missed_2 (fun H locs hP hS => ?_)
  refine lv_aload_n hx hb dX5_missed_5 rfl (lv_at hl 0 rfl) ?_
  refine lv_iload_n hx hb dX5_missed_6 rfl (lv_at hl 1 rfl) ?_
  refine k_callV (rest := []) (r := bI (inP h (nI 0) (((up S 0 0 (nI 0))) 0 1 - nI 1))) ⟨hx, hb, hml, hown, hts⟩ (c_X5_isOver l D q a ((up S 0 0 (nI 0))) h) (cwV 1 hts gX5_missed_X5_isOver rfl rfl rfl (by decide +kernel) ⟨Nat.le_of_ble_eq_true rfl, Nat.le_of_ble_eq_true rfl⟩) hK hP.1 (va_recv hK.1 hP.1 (ci := 6) (q0 := 0) rfl rfl) rfl hl.1 rfl (Nat.le_of_ble_eq_true rfl) dX5_missed_7 ⟨Nat.zero_le _, Nat.zero_le _⟩ (fun _ h => h) ?_
  refine k_if_ne (P := ¬ (inP h (nI 0) (((up S 0 0 (nI 0))) 0 1 - nI 1))) (tgt := 19) hx hb dX5_missed_10 (by decide) bI_0 (fun c_3 => ?_) (fun c_3 => ?_)
  · skip
    have c_3 : inP h (nI 0) (((up S 0 0 (nI 0))) 0 1 - nI 1) := Classical.not_not.mp c_3
    obtain ⟨e_h, b_h⟩ := inP_lt ((up_sn (by decide)).trans hw) c_3 (by omega)
    rw [e_h] at hl
    refine lv_iconst (v := nI 0) hx hb dX5_missed_19 (by decide) ?_
    refine lv_istore_n (lv' := [(2, .int (nI 0)), (0, .ref (a 0)), (1, .int (nI h.toNatClampNeg))]) hx hb dX5_missed_20 rfl hl (by decide) rfl (fun ls hl => ?_)
    refine lv_iconst (v := nI 0) hx hb dX5_missed_21 (by decide) ?_
    refine lv_istore_n (lv' := [(3, .int (nI 0)), (2, .int (nI 0)), (0, .ref (a 0)), (1, .int (nI h.toNatClampNeg))]) hx hb dX5_missed_22 rfl hl (by decide) rfl (fun ls hl => ?_)
    exact lp_X5_missed_23 a S h n w0 hn hn60 hot hw hw200 b_h (by unfold moMissed; rw [if_pos c_3]) C0 hK ((12 - 0) + 1) 0 ((up S 0 0 (nI 0))) (nI h.toNatClampNeg) (nI 0) (nI 0) (by omega) (by first | omega | assumption) (by rfl) rfl (by rfl) rfl _ _ hP hS ls (lv_sub hl [2, 3, 1, 0] rfl)
  · skip
    refine lv_aload_n hx hb dX5_missed_13 rfl (lv_at hl 0 rfl) ?_
    refine lv_iconst (v := nI 1) hx hb dX5_missed_14 (by decide) ?_
    refine k_goRi hS (va_runV (rest := []) ⟨hx, hb, hml, hown, hts⟩ (c_X5_fails l D q A a ((up S 0 0 (nI 0))) (nI 1)) (cwV 1 hts gX5_missed_X5_fails rfl rfl rfl (by decide +kernel) ⟨Nat.le_of_ble_eq_true rfl, Nat.le_of_ble_eq_true rfl⟩) ⟨kB_blind, (va_recv hK.1 hP.1 (ci := 6) (q0 := 0) rfl rfl), fun U hU hW => ⟨rfl, by rw [hU]; exact hP, hK.warm hW⟩⟩ rfl rfl hl.1 rfl (lv_room (Nat.le_of_ble_eq_true rfl)) dX5_missed_15 ⟨Nat.zero_le _, Nat.zero_le _⟩) (fun H locs hP hS => ?_)
    have eM : (up (up S 0 0 (nI 0)) 0 0 (nI 1)) = (moMissed S n h).2 := by unfold moMissed; rw [if_neg c_3]
    rw [eM] at hP
    exact k_iretW hx hb hr hlocks hP hS (by unfold moMissed; rw [if_neg c_3]) dX5_missed_18
theorem fl_X5_isOf_59 : Cond.fieldLink RX5 59 "LampCountsModel" "first" "[I" ∈ wsX5_isOf := by decide +kernel
theorem fl_X5_isOf_62 : Cond.fieldLink RX5 62 "LampCountsModel" "end" "[I" ∈ wsX5_isOf := by decide +kernel
theorem fl_X5_isOf_95 : Cond.fieldLink RX5 95 "LampCountsModel" "thrown" "I" ∈ wsX5_isOf := by decide +kernel
theorem in_X5_isOf_X5 : ∀ w ∈ u_ws RX5 TX5 33, w ∈ wsX5_isOf := by decide +kernel
set_option maxHeartbeats 4000000 in
set_option maxRecDepth 100000 in
theorem c_X5_isOf (l : Launch) (D : va_G) (q : Nat → ClassId) (A : Nat → Prop) (a : Nat → Nat) (S : Nat → Nat → Int32) (y h : Int32) (nl : Nat) (hls : S 0 15 = nI nl) (hnl : nl ≤ 30) : Met l yX5_isOf wsX5_isOf ({ frames := 2, cells := 0, slots := 0, locals := 43 } : Room) (va_Pc [.ref (a 0), .int (y), .int (h)] (kB D q (fun H => kW D A (wM q a S) H))) (kRi D A ((moIsOf S y h).1) (wM q a ((moIsOf S y h).2))) 0 0 A := by
  refine Met.ofW (cc := cX5_isOf) (maxL := 3) (ret := (some .boolean)) (by decide) rfl ?_
  intro p e u m args below meth c s₁ B hml0 hv
  obtain ⟨rfl, hP, hK⟩ := hv
  have C0 : kAt p u m #[.ref (a 0), .int (y), .int (h)] meth c cX5_isOf 3 (some .boolean) RX5 wsX5_isOf := kAt_of B hml0
  obtain ⟨hx, hb, hr, hml, hown, hts, hlocks⟩ := id C0
  have hS : va_S A u.heap u.heap [] := va_S.rf
  have hl := lv_entry ([.ref (a 0), .int (y), .int (h)]) (n := 3) (Nat.le_of_ble_eq_true rfl)
  rw [lg_entry_eq]
  generalize (lg_sl ([.ref (a 0), .int (y), .int (h)]) ++ List.replicate (3 - (lg_sl ([.ref (a 0), .int (y), .int (h)])).length) Slot.unset).toArray = ls at hl ⊢
  have hl : lv_has ls 3 [(0, .ref (a 0)), (1, .int (y)), (2, .int (h))] := hl
  refine lv_aload_n hx hb dX5_isOf_0 rfl (lv_at hl 0 rfl) ?_
  refine lv_aload_n hx hb dX5_isOf_1 rfl (lv_at hl 0 rfl) ?_
  refine lv_iload_n hx hb dX5_isOf_2 rfl (lv_at hl 1 rfl) ?_
  refine k_callV (rest := [.ref (a 0)]) (r := bI (inP y (nI 0) (S 0 15 - nI 1))) ⟨hx, hb, hml, hown, hts⟩ (c_X5_isLease l D q a S y) (cwV 1 hts gX5_isOf_X5_isLease rfl rfl rfl (by decide +kernel) ⟨Nat.le_of_ble_eq_true rfl, Nat.le_of_ble_eq_true rfl⟩) hK hP.1 (va_recv hK.1 hP.1 (ci := 6) (q0 := 0) rfl rfl) rfl hl.1 rfl (Nat.le_of_ble_eq_true rfl) dX5_isOf_3 ⟨Nat.zero_le _, Nat.zero_le _⟩ (fun _ h => h) ?_
  refine k_if_eq (P := ¬ (inP y (nI 0) (S 0 15 - nI 1))) (tgt := 13) hx hb dX5_isOf_6 (by decide) bI_0 (fun c_1 => ?_) (fun c_1 => ?_)
  · skip
    refine lv_iconst (v := nI 1) hx hb dX5_isOf_13 (by decide) ?_
    refine k_puti (wM q a ((up S 0 0 (nI 1)))) hx hb hts in_X5_isOf_X5 tyX5 tyX5_ok nmX5 hown hK hP hS 0 rfl rfl 0 (by decide) (hts _ fl_X5_isOf_95) (fun _ h9 => h9) rfl (by decide +kernel) (Nat.le_of_ble_eq_true rfl) wM_f0_0 dX5_isOf_14 (fun H locs hP hS => ?_)
    refine lv_aload_n hx hb dX5_isOf_17 rfl (lv_at hl 0 rfl) ?_
    refine va_get (D := D) (ci := 6) (v := .int (((up S 0 0 (nI 1))) 0 0)) (C := RX5) (T := TX5) (N := 33) hx hb hts in_X5_isOf_X5 hown hK.1 hP.1 0 rfl rfl 0 (by decide) (hts _ fl_X5_isOf_95) (fun _ h9 => h9) rfl dX5_isOf_18 ?_
    refine k_top (y := nI 1) (up_si _ _ _ _) ?_
    refine k_if_ne (P := False) (tgt := 48) hx hb dX5_isOf_21 (by decide) ⟨fun z => absurd z (by decide), False.elim⟩ (fun c_2 => ?_) (fun c_2 => ?_)
    · skip
      refine lv_iconst (v := nI 0) hx hb dX5_isOf_48 (by decide) ?_
      have eM : (up S 0 0 (nI 1)) = (moIsOf S y h).2 := by unfold moIsOf; rw [if_neg c_1]
      rw [eM] at hP
      exact k_zretW hx hb hr hlocks rfl hP hS (by unfold moIsOf; rw [if_neg c_1]) dX5_isOf_49
    · skip
      exact c_2.elim
  · skip
    have c_1 : inP y (nI 0) (S 0 15 - nI 1) := Classical.not_not.mp c_1
    obtain ⟨e_y, b_y⟩ := inP_lt hls c_1 (by omega)
    rw [e_y] at hl
    refine lv_iconst (v := nI 0) hx hb dX5_isOf_9 (by decide) ?_
    refine lv_goto (tgt := 14) hx hb dX5_isOf_10 (by decide) ?_
    refine k_puti (wM q a ((up S 0 0 (nI 0)))) hx hb hts in_X5_isOf_X5 tyX5 tyX5_ok nmX5 hown hK hP hS 0 rfl rfl 0 (by decide) (hts _ fl_X5_isOf_95) (fun _ h9 => h9) rfl (by decide +kernel) (Nat.le_of_ble_eq_true rfl) wM_f0_0 dX5_isOf_14 (fun H locs hP hS => ?_)
    refine lv_aload_n hx hb dX5_isOf_17 rfl (lv_at hl 0 rfl) ?_
    refine va_get (D := D) (ci := 6) (v := .int (((up S 0 0 (nI 0))) 0 0)) (C := RX5) (T := TX5) (N := 33) hx hb hts in_X5_isOf_X5 hown hK.1 hP.1 0 rfl rfl 0 (by decide) (hts _ fl_X5_isOf_95) (fun _ h9 => h9) rfl dX5_isOf_18 ?_
    refine k_top (y := nI 0) (up_si _ _ _ _) ?_
    refine k_if_ne (P := True) (tgt := 48) hx hb dX5_isOf_21 (by decide) ⟨fun _ => trivial, fun _ => rfl⟩ (fun c_3 => ?_) (fun c_3 => ?_)
    · skip
      exact (c_3 trivial).elim
    · skip
      refine lv_iload_n hx hb dX5_isOf_24 rfl (lv_at hl 2 rfl) ?_
      refine lv_aload_n hx hb dX5_isOf_25 rfl (lv_at hl 0 rfl) ?_
      refine va_get (D := D) (ci := 6) (v := .ref (a 20)) (C := RX5) (T := TX5) (N := 33) hx hb hts in_X5_isOf_X5 hown hK.1 hP.1 0 rfl rfl 20 (by decide) (hts _ fl_X5_isOf_59) (fun _ h9 => h9) rfl dX5_isOf_26 ?_
      refine lv_iload_n hx hb dX5_isOf_29 rfl (lv_at hl 1 rfl) ?_
      refine k_iald hx hb hK hP.1 17 rfl y.toNatClampNeg rfl (by omega) (by decide) dX5_isOf_30 ?_
      refine k_top (y := S 20 y.toNatClampNeg) (congrFun (up_n (by decide)) _) ?_
      refine k_icmp_lt (P := h < S 20 y.toNatClampNeg) (tgt := 48) hx hb dX5_isOf_31 (by decide) Iff.rfl (fun c_4 => ?_) (fun c_4 => ?_)
      · skip
        refine lv_iconst (v := nI 0) hx hb dX5_isOf_48 (by decide) ?_
        have eM : (up S 0 0 (nI 0)) = (moIsOf S y h).2 := by unfold moIsOf; rw [if_pos c_1]
        rw [eM] at hP
        exact k_zretW hx hb hr hlocks rfl hP hS (by unfold moIsOf; rw [if_pos c_1]; exact (bI_f (fun z => z.1 c_4)).symm) dX5_isOf_49
      · skip
        refine lv_iload_n hx hb dX5_isOf_34 rfl (lv_at hl 2 rfl) ?_
        refine lv_aload_n hx hb dX5_isOf_35 rfl (lv_at hl 0 rfl) ?_
        refine va_get (D := D) (ci := 6) (v := .ref (a 21)) (C := RX5) (T := TX5) (N := 33) hx hb hts in_X5_isOf_X5 hown hK.1 hP.1 0 rfl rfl 21 (by decide) (hts _ fl_X5_isOf_62) (fun _ h9 => h9) rfl dX5_isOf_36 ?_
        refine lv_iload_n hx hb dX5_isOf_39 rfl (lv_at hl 1 rfl) ?_
        refine k_iald hx hb hK hP.1 18 rfl y.toNatClampNeg rfl (by omega) (by decide) dX5_isOf_40 ?_
        refine k_top (y := S 21 y.toNatClampNeg) (congrFun (up_n (by decide)) _) ?_
        refine k_icmp_ge (P := h < S 21 y.toNatClampNeg) (tgt := 48) hx hb dX5_isOf_41 (by decide) Iff.rfl (fun c_5 => ?_) (fun c_5 => ?_)
        · skip
          refine lv_iconst (v := nI 0) hx hb dX5_isOf_48 (by decide) ?_
          have eM : (up S 0 0 (nI 0)) = (moIsOf S y h).2 := by unfold moIsOf; rw [if_pos c_1]
          rw [eM] at hP
          exact k_zretW hx hb hr hlocks rfl hP hS (by unfold moIsOf; rw [if_pos c_1]; exact (bI_f (fun z => c_5 z.2)).symm) dX5_isOf_49
        · skip
          refine lv_iconst (v := nI 1) hx hb dX5_isOf_44 (by decide) ?_
          refine lv_goto (tgt := 49) hx hb dX5_isOf_45 (by decide) ?_
          have eM : (up S 0 0 (nI 0)) = (moIsOf S y h).2 := by unfold moIsOf; rw [if_pos c_1]
          rw [eM] at hP
          exact k_zretW hx hb hr hlocks rfl hP hS (by unfold moIsOf; rw [if_pos c_1]; exact (bI_t ⟨c_4, c_5⟩).symm) dX5_isOf_49
theorem fl_X5_billed_95 : Cond.fieldLink RX5 95 "LampCountsModel" "thrown" "I" ∈ wsX5_billed := by decide +kernel
theorem in_X5_billed_X5 : ∀ w ∈ u_ws RX5 TX5 33, w ∈ wsX5_billed := by decide +kernel
set_option maxHeartbeats 4000000 in
set_option maxRecDepth 100000 in
theorem c_X5_billed (l : Launch) (D : va_G) (q : Nat → ClassId) (A : Nat → Prop) (a : Nat → Nat) (S : Nat → Nat → Int32) (y : Int32) (n w0 nl : Nat) (hn : S 0 11 = nI n) (hn60 : n ≤ 60) (hot : okT S n) (hw : S 0 1 = nI w0) (hw200 : w0 ≤ 200) (hls : S 0 15 = nI nl) (hnl : nl ≤ 30) (hom : okM S nl) : Met l yX5_billed wsX5_billed ({ frames := 5, cells := 0, slots := 0, locals := 113 } : Room) (va_Pc [.ref (a 0), .int (y)] (kB D q (fun H => kW D A (wM q a S) H))) (kRi D A ((moBilled S n w0 y).1) (wM q a ((moBilled S n w0 y).2))) 0 0 A := by
  refine Met.ofW (cc := cX5_billed) (maxL := 2) (ret := (some .int)) (by decide) rfl ?_
  intro p e u m args below meth c s₁ B hml0 hv
  obtain ⟨rfl, hP, hK⟩ := hv
  have C0 : kAt p u m #[.ref (a 0), .int (y)] meth c cX5_billed 2 (some .int) RX5 wsX5_billed := kAt_of B hml0
  obtain ⟨hx, hb, hr, hml, hown, hts, hlocks⟩ := id C0
  have hS : va_S A u.heap u.heap [] := va_S.rf
  have hl := lv_entry ([.ref (a 0), .int (y)]) (n := 2) (Nat.le_of_ble_eq_true rfl)
  rw [lg_entry_eq]
  generalize (lg_sl ([.ref (a 0), .int (y)]) ++ List.replicate (2 - (lg_sl ([.ref (a 0), .int (y)])).length) Slot.unset).toArray = ls at hl ⊢
  have hl : lv_has ls 2 [(0, .ref (a 0)), (1, .int (y))] := hl
  refine lv_aload_n hx hb dX5_billed_0 rfl (lv_at hl 0 rfl) ?_
  refine lv_iconst (v := nI 0) hx hb dX5_billed_1 (by decide) ?_
  refine k_puti (wM q a ((up S 0 0 (nI 0)))) hx hb hts in_X5_billed_X5 tyX5 tyX5_ok nmX5 hown hK hP hS 0 rfl rfl 0 (by decide) (hts _ fl_X5_billed_95) (fun _ h9 => h9) rfl (by decide +kernel) (Nat.le_of_ble_eq_true rfl) wM_f0_0 dX5_billed_2 (fun H locs hP hS => ?_)
  refine lv_aload_n hx hb dX5_billed_5 rfl (lv_at hl 0 rfl) ?_
  refine lv_iload_n hx hb dX5_billed_6 rfl (lv_at hl 1 rfl) ?_
  refine k_callV (rest := []) (r := bI (inP y (nI 0) (((up S 0 0 (nI 0))) 0 15 - nI 1))) ⟨hx, hb, hml, hown, hts⟩ (c_X5_isLease l D q a ((up S 0 0 (nI 0))) y) (cwV 1 hts gX5_billed_X5_isLease rfl rfl rfl (by decide +kernel) ⟨Nat.le_of_ble_eq_true rfl, Nat.le_of_ble_eq_true rfl⟩) hK hP.1 (va_recv hK.1 hP.1 (ci := 6) (q0 := 0) rfl rfl) rfl hl.1 rfl (Nat.le_of_ble_eq_true rfl) dX5_billed_7 ⟨Nat.zero_le _, Nat.zero_le _⟩ (fun _ h => h) ?_
  refine k_if_eq (P := ¬ (inP y (nI 0) (((up S 0 0 (nI 0))) 0 15 - nI 1))) (tgt := 21) hx hb dX5_billed_10 (by decide) bI_0 (fun c_1 => ?_) (fun c_1 => ?_)
  · skip
    refine lv_aload_n hx hb dX5_billed_21 rfl (lv_at hl 0 rfl) ?_
    refine lv_iconst (v := nI 1) hx hb dX5_billed_22 (by decide) ?_
    refine k_goRi hS (va_runV (rest := []) ⟨hx, hb, hml, hown, hts⟩ (c_X5_fails l D q A a ((up S 0 0 (nI 0))) (nI 1)) (cwV 1 hts gX5_billed_X5_fails rfl rfl rfl (by decide +kernel) ⟨Nat.le_of_ble_eq_true rfl, Nat.le_of_ble_eq_true rfl⟩) ⟨kB_blind, (va_recv hK.1 hP.1 (ci := 6) (q0 := 0) rfl rfl), fun U hU hW => ⟨rfl, by rw [hU]; exact hP, hK.warm hW⟩⟩ rfl rfl hl.1 rfl (lv_room (Nat.le_of_ble_eq_true rfl)) dX5_billed_23 ⟨Nat.zero_le _, Nat.zero_le _⟩) (fun H locs hP hS => ?_)
    have eM : (up (up S 0 0 (nI 0)) 0 0 (nI 1)) = (moBilled S n w0 y).2 := by unfold moBilled; rw [if_neg c_1]; try rfl
    rw [eM] at hP
    exact k_iretW hx hb hr hlocks hP hS (by unfold moBilled; rw [if_neg c_1]; try rfl) dX5_billed_26
  · skip
    have c_1 : inP y (nI 0) (((up S 0 0 (nI 0))) 0 15 - nI 1) := Classical.not_not.mp c_1
    obtain ⟨e_y, b_y⟩ := inP_lt ((up_sn (by decide)).trans hls) c_1 (by omega)
    rw [e_y] at hl
    refine lv_aload_n hx hb dX5_billed_13 rfl (lv_at hl 0 rfl) ?_
    refine lv_iload_n hx hb dX5_billed_14 rfl (lv_at hl 1 rfl) ?_
    refine k_callV (rest := []) (r := rnM ((up S 0 0 (nI 0))) n w0 y.toNatClampNeg) ⟨hx, hb, hml, hown, hts⟩ (c_X5_rents l D q a ((up S 0 0 (nI 0))) y.toNatClampNeg n w0 nl (by omega) ((up_sn (by decide)).trans hn) hn60 (okT_congr (up_n (by decide)) hot) ((up_sn (by decide)).trans hw) hw200 ((up_sn (by decide)).trans hls) hnl (okM_congr (up_n (by decide)) (up_n (by decide)) (up_n (by decide)) hom)) (cwV 1 hts gX5_billed_X5_rents rfl rfl rfl (by decide +kernel) ⟨Nat.le_of_ble_eq_true rfl, Nat.le_of_ble_eq_true rfl⟩) hK hP.1 (va_recv hK.1 hP.1 (ci := 6) (q0 := 0) rfl rfl) rfl hl.1 rfl (Nat.le_of_ble_eq_true rfl) dX5_billed_15 ⟨Nat.zero_le _, Nat.zero_le _⟩ (fun _ h => h) ?_
    refine lv_goto (tgt := 26) hx hb dX5_billed_18 (by decide) ?_
    have eM : (up S 0 0 (nI 0)) = (moBilled S n w0 y).2 := by unfold moBilled; rw [if_pos c_1]; try rfl
    rw [eM] at hP
    exact k_iretW hx hb hr hlocks hP hS (by unfold moBilled; rw [if_pos c_1]; try rfl) dX5_billed_26
theorem fl_X5_billedAnew_95 : Cond.fieldLink RX5 95 "LampCountsModel" "thrown" "I" ∈ wsX5_billedAnew := by decide +kernel
theorem in_X5_billedAnew_X5 : ∀ w ∈ u_ws RX5 TX5 33, w ∈ wsX5_billedAnew := by decide +kernel
set_option maxHeartbeats 4000000 in
set_option maxRecDepth 100000 in
theorem c_X5_billedAnew (l : Launch) (D : va_G) (q : Nat → ClassId) (A : Nat → Prop) (a : Nat → Nat) (S : Nat → Nat → Int32) (y : Int32) (n w0 nl : Nat) (hn : S 0 11 = nI n) (hn60 : n ≤ 60) (hot : okT S n) (hw : S 0 1 = nI w0) (hw200 : w0 ≤ 200) (hls : S 0 15 = nI nl) (hnl : nl ≤ 30) (hom : okM S nl) : Met l yX5_billedAnew wsX5_billedAnew ({ frames := 5, cells := 0, slots := 0, locals := 113 } : Room) (va_Pc [.ref (a 0), .int (y)] (kB D q (fun H => kW D A (wM q a S) H))) (kRi D A ((moBilled S n w0 y).1) (wM q a ((moBilled S n w0 y).2))) 0 0 A := by
  refine Met.ofW (cc := cX5_billedAnew) (maxL := 2) (ret := (some .int)) (by decide) rfl ?_
  intro p e u m args below meth c s₁ B hml0 hv
  obtain ⟨rfl, hP, hK⟩ := hv
  have C0 : kAt p u m #[.ref (a 0), .int (y)] meth c cX5_billedAnew 2 (some .int) RX5 wsX5_billedAnew := kAt_of B hml0
  obtain ⟨hx, hb, hr, hml, hown, hts, hlocks⟩ := id C0
  have hS : va_S A u.heap u.heap [] := va_S.rf
  have hl := lv_entry ([.ref (a 0), .int (y)]) (n := 2) (Nat.le_of_ble_eq_true rfl)
  rw [lg_entry_eq]
  generalize (lg_sl ([.ref (a 0), .int (y)]) ++ List.replicate (2 - (lg_sl ([.ref (a 0), .int (y)])).length) Slot.unset).toArray = ls at hl ⊢
  have hl : lv_has ls 2 [(0, .ref (a 0)), (1, .int (y))] := hl
  refine lv_aload_n hx hb dX5_billedAnew_0 rfl (lv_at hl 0 rfl) ?_
  refine lv_iconst (v := nI 0) hx hb dX5_billedAnew_1 (by decide) ?_
  refine k_puti (wM q a ((up S 0 0 (nI 0)))) hx hb hts in_X5_billedAnew_X5 tyX5 tyX5_ok nmX5 hown hK hP hS 0 rfl rfl 0 (by decide) (hts _ fl_X5_billedAnew_95) (fun _ h9 => h9) rfl (by decide +kernel) (Nat.le_of_ble_eq_true rfl) wM_f0_0 dX5_billedAnew_2 (fun H locs hP hS => ?_)
  refine lv_aload_n hx hb dX5_billedAnew_5 rfl (lv_at hl 0 rfl) ?_
  refine lv_iload_n hx hb dX5_billedAnew_6 rfl (lv_at hl 1 rfl) ?_
  refine k_callV (rest := []) (r := bI (inP y (nI 0) (((up S 0 0 (nI 0))) 0 15 - nI 1))) ⟨hx, hb, hml, hown, hts⟩ (c_X5_isLease l D q a ((up S 0 0 (nI 0))) y) (cwV 1 hts gX5_billedAnew_X5_isLease rfl rfl rfl (by decide +kernel) ⟨Nat.le_of_ble_eq_true rfl, Nat.le_of_ble_eq_true rfl⟩) hK hP.1 (va_recv hK.1 hP.1 (ci := 6) (q0 := 0) rfl rfl) rfl hl.1 rfl (Nat.le_of_ble_eq_true rfl) dX5_billedAnew_7 ⟨Nat.zero_le _, Nat.zero_le _⟩ (fun _ h => h) ?_
  refine k_if_eq (P := ¬ (inP y (nI 0) (((up S 0 0 (nI 0))) 0 15 - nI 1))) (tgt := 21) hx hb dX5_billedAnew_10 (by decide) bI_0 (fun c_1 => ?_) (fun c_1 => ?_)
  · skip
    refine lv_aload_n hx hb dX5_billedAnew_21 rfl (lv_at hl 0 rfl) ?_
    refine lv_iconst (v := nI 1) hx hb dX5_billedAnew_22 (by decide) ?_
    refine k_goRi hS (va_runV (rest := []) ⟨hx, hb, hml, hown, hts⟩ (c_X5_fails l D q A a ((up S 0 0 (nI 0))) (nI 1)) (cwV 1 hts gX5_billedAnew_X5_fails rfl rfl rfl (by decide +kernel) ⟨Nat.le_of_ble_eq_true rfl, Nat.le_of_ble_eq_true rfl⟩) ⟨kB_blind, (va_recv hK.1 hP.1 (ci := 6) (q0 := 0) rfl rfl), fun U hU hW => ⟨rfl, by rw [hU]; exact hP, hK.warm hW⟩⟩ rfl rfl hl.1 rfl (lv_room (Nat.le_of_ble_eq_true rfl)) dX5_billedAnew_23 ⟨Nat.zero_le _, Nat.zero_le _⟩) (fun H locs hP hS => ?_)
    have eM : (up (up S 0 0 (nI 0)) 0 0 (nI 1)) = (moBilled S n w0 y).2 := by unfold moBilled; rw [if_neg c_1]; try rfl
    rw [eM] at hP
    exact k_iretW hx hb hr hlocks hP hS (by unfold moBilled; rw [if_neg c_1]; try rfl) dX5_billedAnew_26
  · skip
    have c_1 : inP y (nI 0) (((up S 0 0 (nI 0))) 0 15 - nI 1) := Classical.not_not.mp c_1
    obtain ⟨e_y, b_y⟩ := inP_lt ((up_sn (by decide)).trans hls) c_1 (by omega)
    rw [e_y] at hl
    refine lv_aload_n hx hb dX5_billedAnew_13 rfl (lv_at hl 0 rfl) ?_
    refine lv_iload_n hx hb dX5_billedAnew_14 rfl (lv_at hl 1 rfl) ?_
    refine k_callV (rest := []) (r := rnM ((up S 0 0 (nI 0))) n w0 y.toNatClampNeg) ⟨hx, hb, hml, hown, hts⟩ (c_X5_rents l D q a ((up S 0 0 (nI 0))) y.toNatClampNeg n w0 nl (by omega) ((up_sn (by decide)).trans hn) hn60 (okT_congr (up_n (by decide)) hot) ((up_sn (by decide)).trans hw) hw200 ((up_sn (by decide)).trans hls) hnl (okM_congr (up_n (by decide)) (up_n (by decide)) (up_n (by decide)) hom)) (cwV 1 hts gX5_billedAnew_X5_rents rfl rfl rfl (by decide +kernel) ⟨Nat.le_of_ble_eq_true rfl, Nat.le_of_ble_eq_true rfl⟩) hK hP.1 (va_recv hK.1 hP.1 (ci := 6) (q0 := 0) rfl rfl) rfl hl.1 rfl (Nat.le_of_ble_eq_true rfl) dX5_billedAnew_15 ⟨Nat.zero_le _, Nat.zero_le _⟩ (fun _ h => h) ?_
    refine lv_goto (tgt := 26) hx hb dX5_billedAnew_18 (by decide) ?_
    have eM : (up S 0 0 (nI 0)) = (moBilled S n w0 y).2 := by unfold moBilled; rw [if_pos c_1]; try rfl
    rw [eM] at hP
    exact k_iretW hx hb hr hlocks hP hS (by unfold moBilled; rw [if_pos c_1]; try rfl) dX5_billedAnew_26
theorem fl_X5_corrected_68 : Cond.fieldLink RX5 68 "LampCountsModel" "corrections" "[I" ∈ wsX5_corrected := by decide +kernel
theorem fl_X5_corrected_95 : Cond.fieldLink RX5 95 "LampCountsModel" "thrown" "I" ∈ wsX5_corrected := by decide +kernel
theorem in_X5_corrected_X5 : ∀ w ∈ u_ws RX5 TX5 33, w ∈ wsX5_corrected := by decide +kernel
set_option maxHeartbeats 4000000 in
set_option maxRecDepth 100000 in
theorem c_X5_corrected (l : Launch) (D : va_G) (q : Nat → ClassId) (A : Nat → Prop) (a : Nat → Nat) (S : Nat → Nat → Int32) (y : Int32) (nl : Nat) (hls : S 0 15 = nI nl) (hnl : nl ≤ 30) : Met l yX5_corrected wsX5_corrected ({ frames := 2, cells := 0, slots := 0, locals := 43 } : Room) (va_Pc [.ref (a 0), .int (y)] (kB D q (fun H => kW D A (wM q a S) H))) (kRi D A ((moCorrected S y).1) (wM q a ((moCorrected S y).2))) 0 0 A := by
  refine Met.ofW (cc := cX5_corrected) (maxL := 2) (ret := (some .int)) (by decide) rfl ?_
  intro p e u m args below meth c s₁ B hml0 hv
  obtain ⟨rfl, hP, hK⟩ := hv
  have C0 : kAt p u m #[.ref (a 0), .int (y)] meth c cX5_corrected 2 (some .int) RX5 wsX5_corrected := kAt_of B hml0
  obtain ⟨hx, hb, hr, hml, hown, hts, hlocks⟩ := id C0
  have hS : va_S A u.heap u.heap [] := va_S.rf
  have hl := lv_entry ([.ref (a 0), .int (y)]) (n := 2) (Nat.le_of_ble_eq_true rfl)
  rw [lg_entry_eq]
  generalize (lg_sl ([.ref (a 0), .int (y)]) ++ List.replicate (2 - (lg_sl ([.ref (a 0), .int (y)])).length) Slot.unset).toArray = ls at hl ⊢
  have hl : lv_has ls 2 [(0, .ref (a 0)), (1, .int (y))] := hl
  refine lv_aload_n hx hb dX5_corrected_0 rfl (lv_at hl 0 rfl) ?_
  refine lv_iconst (v := nI 0) hx hb dX5_corrected_1 (by decide) ?_
  refine k_puti (wM q a ((up S 0 0 (nI 0)))) hx hb hts in_X5_corrected_X5 tyX5 tyX5_ok nmX5 hown hK hP hS 0 rfl rfl 0 (by decide) (hts _ fl_X5_corrected_95) (fun _ h9 => h9) rfl (by decide +kernel) (Nat.le_of_ble_eq_true rfl) wM_f0_0 dX5_corrected_2 (fun H locs hP hS => ?_)
  refine lv_aload_n hx hb dX5_corrected_5 rfl (lv_at hl 0 rfl) ?_
  refine lv_iload_n hx hb dX5_corrected_6 rfl (lv_at hl 1 rfl) ?_
  refine k_callV (rest := []) (r := bI (inP y (nI 0) (((up S 0 0 (nI 0))) 0 15 - nI 1))) ⟨hx, hb, hml, hown, hts⟩ (c_X5_isLease l D q a ((up S 0 0 (nI 0))) y) (cwV 1 hts gX5_corrected_X5_isLease rfl rfl rfl (by decide +kernel) ⟨Nat.le_of_ble_eq_true rfl, Nat.le_of_ble_eq_true rfl⟩) hK hP.1 (va_recv hK.1 hP.1 (ci := 6) (q0 := 0) rfl rfl) rfl hl.1 rfl (Nat.le_of_ble_eq_true rfl) dX5_corrected_7 ⟨Nat.zero_le _, Nat.zero_le _⟩ (fun _ h => h) ?_
  refine k_if_eq (P := ¬ (inP y (nI 0) (((up S 0 0 (nI 0))) 0 15 - nI 1))) (tgt := 22) hx hb dX5_corrected_10 (by decide) bI_0 (fun c_1 => ?_) (fun c_1 => ?_)
  · skip
    refine lv_aload_n hx hb dX5_corrected_22 rfl (lv_at hl 0 rfl) ?_
    refine lv_iconst (v := nI 1) hx hb dX5_corrected_23 (by decide) ?_
    refine k_goRi hS (va_runV (rest := []) ⟨hx, hb, hml, hown, hts⟩ (c_X5_fails l D q A a ((up S 0 0 (nI 0))) (nI 1)) (cwV 1 hts gX5_corrected_X5_fails rfl rfl rfl (by decide +kernel) ⟨Nat.le_of_ble_eq_true rfl, Nat.le_of_ble_eq_true rfl⟩) ⟨kB_blind, (va_recv hK.1 hP.1 (ci := 6) (q0 := 0) rfl rfl), fun U hU hW => ⟨rfl, by rw [hU]; exact hP, hK.warm hW⟩⟩ rfl rfl hl.1 rfl (lv_room (Nat.le_of_ble_eq_true rfl)) dX5_corrected_24 ⟨Nat.zero_le _, Nat.zero_le _⟩) (fun H locs hP hS => ?_)
    have eM : (up (up S 0 0 (nI 0)) 0 0 (nI 1)) = (moCorrected S y).2 := by unfold moCorrected; rw [if_neg c_1]; try rfl
    rw [eM] at hP
    exact k_iretW hx hb hr hlocks hP hS (by unfold moCorrected; rw [if_neg c_1]; try rfl) dX5_corrected_27
  · skip
    have c_1 : inP y (nI 0) (((up S 0 0 (nI 0))) 0 15 - nI 1) := Classical.not_not.mp c_1
    obtain ⟨e_y, b_y⟩ := inP_lt ((up_sn (by decide)).trans hls) c_1 (by omega)
    rw [e_y] at hl
    refine lv_aload_n hx hb dX5_corrected_13 rfl (lv_at hl 0 rfl) ?_
    refine va_get (D := D) (ci := 6) (v := .ref (a 23)) (C := RX5) (T := TX5) (N := 33) hx hb hts in_X5_corrected_X5 hown hK.1 hP.1 0 rfl rfl 23 (by decide) (hts _ fl_X5_corrected_68) (fun _ h9 => h9) rfl dX5_corrected_14 ?_
    refine lv_iload_n hx hb dX5_corrected_17 rfl (lv_at hl 1 rfl) ?_
    refine k_iald hx hb hK hP.1 20 rfl y.toNatClampNeg rfl (by omega) (by decide) dX5_corrected_18 ?_
    refine k_top (y := S 23 y.toNatClampNeg) (congrFun (up_n (by decide)) _) ?_
    refine lv_goto (tgt := 27) hx hb dX5_corrected_19 (by decide) ?_
    have eM : (up S 0 0 (nI 0)) = (moCorrected S y).2 := by unfold moCorrected; rw [if_pos c_1]; try rfl
    rw [eM] at hP
    exact k_iretW hx hb hr hlocks hP hS (by unfold moCorrected; rw [if_pos c_1]; try rfl) dX5_corrected_27
theorem fl_X5_owes_95 : Cond.fieldLink RX5 95 "LampCountsModel" "thrown" "I" ∈ wsX5_owes := by decide +kernel
theorem in_X5_owes_X5 : ∀ w ∈ u_ws RX5 TX5 33, w ∈ wsX5_owes := by decide +kernel
set_option maxHeartbeats 4000000 in
set_option maxRecDepth 100000 in
theorem c_X5_owes (l : Launch) (D : va_G) (q : Nat → ClassId) (A : Nat → Prop) (a : Nat → Nat) (S : Nat → Nat → Int32) (who : Int32) (n w0 nl : Nat) (hn : S 0 11 = nI n) (hn60 : n ≤ 60) (hot : okT S n) (hw : S 0 1 = nI w0) (hw200 : w0 ≤ 200) (hls : S 0 15 = nI nl) (hnl : nl ≤ 30) (hom : okM S nl) : Met l yX5_owes wsX5_owes ({ frames := 6, cells := 0, slots := 0, locals := 136 } : Room) (va_Pc [.ref (a 0), .int (who)] (kB D q (fun H => kW D A (wM q a S) H))) (kRi D A ((moOwes S n w0 nl who).1) (wM q a ((moOwes S n w0 nl who).2))) 0 0 A := by
  refine Met.ofW (cc := cX5_owes) (maxL := 2) (ret := (some .int)) (by decide) rfl ?_
  intro p e u m args below meth c s₁ B hml0 hv
  obtain ⟨rfl, hP, hK⟩ := hv
  have C0 : kAt p u m #[.ref (a 0), .int (who)] meth c cX5_owes 2 (some .int) RX5 wsX5_owes := kAt_of B hml0
  obtain ⟨hx, hb, hr, hml, hown, hts, hlocks⟩ := id C0
  have hS : va_S A u.heap u.heap [] := va_S.rf
  have hl := lv_entry ([.ref (a 0), .int (who)]) (n := 2) (Nat.le_of_ble_eq_true rfl)
  rw [lg_entry_eq]
  generalize (lg_sl ([.ref (a 0), .int (who)]) ++ List.replicate (2 - (lg_sl ([.ref (a 0), .int (who)])).length) Slot.unset).toArray = ls at hl ⊢
  have hl : lv_has ls 2 [(0, .ref (a 0)), (1, .int (who))] := hl
  refine lv_aload_n hx hb dX5_owes_0 rfl (lv_at hl 0 rfl) ?_
  refine lv_iconst (v := nI 0) hx hb dX5_owes_1 (by decide) ?_
  refine k_puti (wM q a ((up S 0 0 (nI 0)))) hx hb hts in_X5_owes_X5 tyX5 tyX5_ok nmX5 hown hK hP hS 0 rfl rfl 0 (by decide) (hts _ fl_X5_owes_95) (fun _ h9 => h9) rfl (by decide +kernel) (Nat.le_of_ble_eq_true rfl) wM_f0_0 dX5_owes_2 (fun H locs hP hS => ?_)
  refine lv_iload_n hx hb dX5_owes_5 rfl (lv_at hl 1 rfl) ?_
  refine lv_iconst (v := nI 0) hx hb dX5_owes_6 (by decide) ?_
  refine lv_iconst (v := nI 5) hx hb dX5_owes_7 (by decide) ?_
  refine k_callS (rest := []) (r := bI (inP who (nI 0) (nI 5))) ⟨hx, hb, hml, hown, hts⟩ (c_X5_in l D q who (nI 0) (nI 5)) (va_cwS 3 hts gX5_owes_X5_in rfl rfl rfl (by decide +kernel) ⟨Nat.le_of_ble_eq_true rfl, Nat.le_of_ble_eq_true rfl⟩) hK trivial rfl hl.1 rfl (Nat.le_of_ble_eq_true rfl) dX5_owes_8 ⟨Nat.zero_le _, Nat.zero_le _⟩ (fun _ h => h) ?_
  refine k_if_eq (P := ¬ (inP who (nI 0) (nI 5))) (tgt := 22) hx hb dX5_owes_11 (by decide) bI_0 (fun c_1 => ?_) (fun c_1 => ?_)
  · skip
    refine lv_aload_n hx hb dX5_owes_22 rfl (lv_at hl 0 rfl) ?_
    refine lv_iconst (v := nI 1) hx hb dX5_owes_23 (by decide) ?_
    refine k_goRi hS (va_runV (rest := []) ⟨hx, hb, hml, hown, hts⟩ (c_X5_fails l D q A a ((up S 0 0 (nI 0))) (nI 1)) (cwV 1 hts gX5_owes_X5_fails rfl rfl rfl (by decide +kernel) ⟨Nat.le_of_ble_eq_true rfl, Nat.le_of_ble_eq_true rfl⟩) ⟨kB_blind, (va_recv hK.1 hP.1 (ci := 6) (q0 := 0) rfl rfl), fun U hU hW => ⟨rfl, by rw [hU]; exact hP, hK.warm hW⟩⟩ rfl rfl hl.1 rfl (lv_room (Nat.le_of_ble_eq_true rfl)) dX5_owes_24 ⟨Nat.zero_le _, Nat.zero_le _⟩) (fun H locs hP hS => ?_)
    have eM : (up (up S 0 0 (nI 0)) 0 0 (nI 1)) = (moOwes S n w0 nl who).2 := by unfold moOwes; rw [if_neg c_1]; try rfl
    rw [eM] at hP
    exact k_iretW hx hb hr hlocks hP hS (by unfold moOwes; rw [if_neg c_1]; try rfl) dX5_owes_27
  · skip
    have c_1 : inP who (nI 0) (nI 5) := Classical.not_not.mp c_1
    obtain ⟨e_who, b_who⟩ := inP_nat c_1 (by omega)
    rw [e_who] at hl
    refine lv_aload_n hx hb dX5_owes_14 rfl (lv_at hl 0 rfl) ?_
    refine lv_iload_n hx hb dX5_owes_15 rfl (lv_at hl 1 rfl) ?_
    refine k_callV (rest := []) (r := owF ((up S 0 0 (nI 0))) n w0 (nI who.toNatClampNeg) nl - ((up S 0 0 (nI 0))) 25 who.toNatClampNeg) ⟨hx, hb, hml, hown, hts⟩ (c_X5_owedBy l D q a ((up S 0 0 (nI 0))) who.toNatClampNeg n w0 nl (by omega) ((up_sn (by decide)).trans hn) hn60 (okT_congr (up_n (by decide)) hot) ((up_sn (by decide)).trans hw) hw200 ((up_sn (by decide)).trans hls) hnl (okM_congr (up_n (by decide)) (up_n (by decide)) (up_n (by decide)) hom)) (cwV 1 hts gX5_owes_X5_owedBy rfl rfl rfl (by decide +kernel) ⟨Nat.le_of_ble_eq_true rfl, Nat.le_of_ble_eq_true rfl⟩) hK hP.1 (va_recv hK.1 hP.1 (ci := 6) (q0 := 0) rfl rfl) rfl hl.1 rfl (Nat.le_of_ble_eq_true rfl) dX5_owes_16 ⟨Nat.zero_le _, Nat.zero_le _⟩ (fun _ h => h) ?_
    refine lv_goto (tgt := 27) hx hb dX5_owes_19 (by decide) ?_
    have eM : (up S 0 0 (nI 0)) = (moOwes S n w0 nl who).2 := by unfold moOwes; rw [if_pos c_1]; try rfl
    rw [eM] at hP
    exact k_iretW hx hb hr hlocks hP hS (by unfold moOwes; rw [if_pos c_1]; try rfl) dX5_owes_27
theorem fl_X5_played_80 : Cond.fieldLink RX5 80 "LampCountsModel" "played" "[I" ∈ wsX5_played := by decide +kernel
theorem fl_X5_played_95 : Cond.fieldLink RX5 95 "LampCountsModel" "thrown" "I" ∈ wsX5_played := by decide +kernel
theorem in_X5_played_X5 : ∀ w ∈ u_ws RX5 TX5 33, w ∈ wsX5_played := by decide +kernel
set_option maxHeartbeats 4000000 in
set_option maxRecDepth 100000 in
theorem c_X5_played (l : Launch) (D : va_G) (q : Nat → ClassId) (A : Nat → Prop) (a : Nat → Nat) (S : Nat → Nat → Int32) (b : Int32)  : Met l yX5_played wsX5_played ({ frames := 2, cells := 0, slots := 0, locals := 42 } : Room) (va_Pc [.ref (a 0), .int (b)] (kB D q (fun H => kW D A (wM q a S) H))) (kRi D A ((moBusker S 27 b).1) (wM q a ((moBusker S 27 b).2))) 0 0 A := by
  refine Met.ofW (cc := cX5_played) (maxL := 2) (ret := (some .int)) (by decide) rfl ?_
  intro p e u m args below meth c s₁ B hml0 hv
  obtain ⟨rfl, hP, hK⟩ := hv
  have C0 : kAt p u m #[.ref (a 0), .int (b)] meth c cX5_played 2 (some .int) RX5 wsX5_played := kAt_of B hml0
  obtain ⟨hx, hb, hr, hml, hown, hts, hlocks⟩ := id C0
  have hS : va_S A u.heap u.heap [] := va_S.rf
  have hl := lv_entry ([.ref (a 0), .int (b)]) (n := 2) (Nat.le_of_ble_eq_true rfl)
  rw [lg_entry_eq]
  generalize (lg_sl ([.ref (a 0), .int (b)]) ++ List.replicate (2 - (lg_sl ([.ref (a 0), .int (b)])).length) Slot.unset).toArray = ls at hl ⊢
  have hl : lv_has ls 2 [(0, .ref (a 0)), (1, .int (b))] := hl
  refine lv_aload_n hx hb dX5_played_0 rfl (lv_at hl 0 rfl) ?_
  refine lv_iconst (v := nI 0) hx hb dX5_played_1 (by decide) ?_
  refine k_puti (wM q a ((up S 0 0 (nI 0)))) hx hb hts in_X5_played_X5 tyX5 tyX5_ok nmX5 hown hK hP hS 0 rfl rfl 0 (by decide) (hts _ fl_X5_played_95) (fun _ h9 => h9) rfl (by decide +kernel) (Nat.le_of_ble_eq_true rfl) wM_f0_0 dX5_played_2 (fun H locs hP hS => ?_)
  refine lv_iload_n hx hb dX5_played_5 rfl (lv_at hl 1 rfl) ?_
  refine k_callS (rest := []) (r := bI (inP b (nI 0) (nI 5))) ⟨hx, hb, hml, hown, hts⟩ (c_X5_isBusker l D q b) (va_cwS 1 hts gX5_played_X5_isBusker rfl rfl rfl (by decide +kernel) ⟨Nat.le_of_ble_eq_true rfl, Nat.le_of_ble_eq_true rfl⟩) hK trivial rfl hl.1 rfl (Nat.le_of_ble_eq_true rfl) dX5_played_6 ⟨Nat.zero_le _, Nat.zero_le _⟩ (fun _ h => h) ?_
  refine k_if_eq (P := ¬ (inP b (nI 0) (nI 5))) (tgt := 21) hx hb dX5_played_9 (by decide) bI_0 (fun c_1 => ?_) (fun c_1 => ?_)
  · skip
    refine lv_aload_n hx hb dX5_played_21 rfl (lv_at hl 0 rfl) ?_
    refine lv_iconst (v := nI 1) hx hb dX5_played_22 (by decide) ?_
    refine k_goRi hS (va_runV (rest := []) ⟨hx, hb, hml, hown, hts⟩ (c_X5_fails l D q A a ((up S 0 0 (nI 0))) (nI 1)) (cwV 1 hts gX5_played_X5_fails rfl rfl rfl (by decide +kernel) ⟨Nat.le_of_ble_eq_true rfl, Nat.le_of_ble_eq_true rfl⟩) ⟨kB_blind, (va_recv hK.1 hP.1 (ci := 6) (q0 := 0) rfl rfl), fun U hU hW => ⟨rfl, by rw [hU]; exact hP, hK.warm hW⟩⟩ rfl rfl hl.1 rfl (lv_room (Nat.le_of_ble_eq_true rfl)) dX5_played_23 ⟨Nat.zero_le _, Nat.zero_le _⟩) (fun H locs hP hS => ?_)
    have eM : (up (up S 0 0 (nI 0)) 0 0 (nI 1)) = (moBusker S 27 b).2 := by unfold moBusker; rw [if_neg c_1]; try rfl
    rw [eM] at hP
    exact k_iretW hx hb hr hlocks hP hS (by unfold moBusker; rw [if_neg c_1]; try rfl) dX5_played_26
  · skip
    have c_1 : inP b (nI 0) (nI 5) := Classical.not_not.mp c_1
    obtain ⟨e_b, b_b⟩ := inP_nat c_1 (by omega)
    rw [e_b] at hl
    refine lv_aload_n hx hb dX5_played_12 rfl (lv_at hl 0 rfl) ?_
    refine va_get (D := D) (ci := 6) (v := .ref (a 27)) (C := RX5) (T := TX5) (N := 33) hx hb hts in_X5_played_X5 hown hK.1 hP.1 0 rfl rfl 27 (by decide) (hts _ fl_X5_played_80) (fun _ h9 => h9) rfl dX5_played_13 ?_
    refine lv_iload_n hx hb dX5_played_16 rfl (lv_at hl 1 rfl) ?_
    refine k_iald hx hb hK hP.1 24 rfl b.toNatClampNeg rfl (by omega) (by decide) dX5_played_17 ?_
    refine k_top (y := S 27 b.toNatClampNeg) (congrFun (up_n (by decide)) _) ?_
    refine lv_goto (tgt := 26) hx hb dX5_played_18 (by decide) ?_
    have eM : (up S 0 0 (nI 0)) = (moBusker S 27 b).2 := by unfold moBusker; rw [if_pos c_1]; try rfl
    rw [eM] at hP
    exact k_iretW hx hb hr hlocks hP hS (by unfold moBusker; rw [if_pos c_1]; try rfl) dX5_played_26
theorem fl_X5_coins_83 : Cond.fieldLink RX5 83 "LampCountsModel" "coins" "[I" ∈ wsX5_coins := by decide +kernel
theorem fl_X5_coins_95 : Cond.fieldLink RX5 95 "LampCountsModel" "thrown" "I" ∈ wsX5_coins := by decide +kernel
theorem in_X5_coins_X5 : ∀ w ∈ u_ws RX5 TX5 33, w ∈ wsX5_coins := by decide +kernel
set_option maxHeartbeats 4000000 in
set_option maxRecDepth 100000 in
theorem c_X5_coins (l : Launch) (D : va_G) (q : Nat → ClassId) (A : Nat → Prop) (a : Nat → Nat) (S : Nat → Nat → Int32) (b : Int32)  : Met l yX5_coins wsX5_coins ({ frames := 2, cells := 0, slots := 0, locals := 42 } : Room) (va_Pc [.ref (a 0), .int (b)] (kB D q (fun H => kW D A (wM q a S) H))) (kRi D A ((moBusker S 28 b).1) (wM q a ((moBusker S 28 b).2))) 0 0 A := by
  refine Met.ofW (cc := cX5_coins) (maxL := 2) (ret := (some .int)) (by decide) rfl ?_
  intro p e u m args below meth c s₁ B hml0 hv
  obtain ⟨rfl, hP, hK⟩ := hv
  have C0 : kAt p u m #[.ref (a 0), .int (b)] meth c cX5_coins 2 (some .int) RX5 wsX5_coins := kAt_of B hml0
  obtain ⟨hx, hb, hr, hml, hown, hts, hlocks⟩ := id C0
  have hS : va_S A u.heap u.heap [] := va_S.rf
  have hl := lv_entry ([.ref (a 0), .int (b)]) (n := 2) (Nat.le_of_ble_eq_true rfl)
  rw [lg_entry_eq]
  generalize (lg_sl ([.ref (a 0), .int (b)]) ++ List.replicate (2 - (lg_sl ([.ref (a 0), .int (b)])).length) Slot.unset).toArray = ls at hl ⊢
  have hl : lv_has ls 2 [(0, .ref (a 0)), (1, .int (b))] := hl
  refine lv_aload_n hx hb dX5_coins_0 rfl (lv_at hl 0 rfl) ?_
  refine lv_iconst (v := nI 0) hx hb dX5_coins_1 (by decide) ?_
  refine k_puti (wM q a ((up S 0 0 (nI 0)))) hx hb hts in_X5_coins_X5 tyX5 tyX5_ok nmX5 hown hK hP hS 0 rfl rfl 0 (by decide) (hts _ fl_X5_coins_95) (fun _ h9 => h9) rfl (by decide +kernel) (Nat.le_of_ble_eq_true rfl) wM_f0_0 dX5_coins_2 (fun H locs hP hS => ?_)
  refine lv_iload_n hx hb dX5_coins_5 rfl (lv_at hl 1 rfl) ?_
  refine k_callS (rest := []) (r := bI (inP b (nI 0) (nI 5))) ⟨hx, hb, hml, hown, hts⟩ (c_X5_isBusker l D q b) (va_cwS 1 hts gX5_coins_X5_isBusker rfl rfl rfl (by decide +kernel) ⟨Nat.le_of_ble_eq_true rfl, Nat.le_of_ble_eq_true rfl⟩) hK trivial rfl hl.1 rfl (Nat.le_of_ble_eq_true rfl) dX5_coins_6 ⟨Nat.zero_le _, Nat.zero_le _⟩ (fun _ h => h) ?_
  refine k_if_eq (P := ¬ (inP b (nI 0) (nI 5))) (tgt := 21) hx hb dX5_coins_9 (by decide) bI_0 (fun c_1 => ?_) (fun c_1 => ?_)
  · skip
    refine lv_aload_n hx hb dX5_coins_21 rfl (lv_at hl 0 rfl) ?_
    refine lv_iconst (v := nI 1) hx hb dX5_coins_22 (by decide) ?_
    refine k_goRi hS (va_runV (rest := []) ⟨hx, hb, hml, hown, hts⟩ (c_X5_fails l D q A a ((up S 0 0 (nI 0))) (nI 1)) (cwV 1 hts gX5_coins_X5_fails rfl rfl rfl (by decide +kernel) ⟨Nat.le_of_ble_eq_true rfl, Nat.le_of_ble_eq_true rfl⟩) ⟨kB_blind, (va_recv hK.1 hP.1 (ci := 6) (q0 := 0) rfl rfl), fun U hU hW => ⟨rfl, by rw [hU]; exact hP, hK.warm hW⟩⟩ rfl rfl hl.1 rfl (lv_room (Nat.le_of_ble_eq_true rfl)) dX5_coins_23 ⟨Nat.zero_le _, Nat.zero_le _⟩) (fun H locs hP hS => ?_)
    have eM : (up (up S 0 0 (nI 0)) 0 0 (nI 1)) = (moBusker S 28 b).2 := by unfold moBusker; rw [if_neg c_1]; try rfl
    rw [eM] at hP
    exact k_iretW hx hb hr hlocks hP hS (by unfold moBusker; rw [if_neg c_1]; try rfl) dX5_coins_26
  · skip
    have c_1 : inP b (nI 0) (nI 5) := Classical.not_not.mp c_1
    obtain ⟨e_b, b_b⟩ := inP_nat c_1 (by omega)
    rw [e_b] at hl
    refine lv_aload_n hx hb dX5_coins_12 rfl (lv_at hl 0 rfl) ?_
    refine va_get (D := D) (ci := 6) (v := .ref (a 28)) (C := RX5) (T := TX5) (N := 33) hx hb hts in_X5_coins_X5 hown hK.1 hP.1 0 rfl rfl 28 (by decide) (hts _ fl_X5_coins_83) (fun _ h9 => h9) rfl dX5_coins_13 ?_
    refine lv_iload_n hx hb dX5_coins_16 rfl (lv_at hl 1 rfl) ?_
    refine k_iald hx hb hK hP.1 25 rfl b.toNatClampNeg rfl (by omega) (by decide) dX5_coins_17 ?_
    refine k_top (y := S 28 b.toNatClampNeg) (congrFun (up_n (by decide)) _) ?_
    refine lv_goto (tgt := 26) hx hb dX5_coins_18 (by decide) ?_
    have eM : (up S 0 0 (nI 0)) = (moBusker S 28 b).2 := by unfold moBusker; rw [if_pos c_1]; try rfl
    rw [eM] at hP
    exact k_iretW hx hb hr hlocks hP hS (by unfold moBusker; rw [if_pos c_1]; try rfl) dX5_coins_26
theorem fl_X5_hour_95 : Cond.fieldLink RX5 95 "LampCountsModel" "thrown" "I" ∈ wsX5_hour := by decide +kernel
theorem fl_X5_hour_103 : Cond.fieldLink RX5 103 "LampCountsModel" "now" "I" ∈ wsX5_hour := by decide +kernel
theorem in_X5_hour_X5 : ∀ w ∈ u_ws RX5 TX5 33, w ∈ wsX5_hour := by decide +kernel
set_option maxHeartbeats 4000000 in
set_option maxRecDepth 100000 in
theorem c_X5_hour (l : Launch) (D : va_G) (q : Nat → ClassId) (A : Nat → Prop) (a : Nat → Nat) (S : Nat → Nat → Int32)   : Met l yX5_hour wsX5_hour ({ frames := 0, cells := 0, slots := 0, locals := 0 } : Room) (va_Pc [.ref (a 0)] (kB D q (fun H => kW D A (wM q a S) H))) (kRi D A (S 0 1) (wM q a (up S 0 0 (nI 0)))) 0 0 A := by
  refine Met.ofW (cc := cX5_hour) (maxL := 1) (ret := (some .int)) (by decide) rfl ?_
  intro p e u m args below meth c s₁ B hml0 hv
  obtain ⟨rfl, hP, hK⟩ := hv
  have C0 : kAt p u m #[.ref (a 0)] meth c cX5_hour 1 (some .int) RX5 wsX5_hour := kAt_of B hml0
  obtain ⟨hx, hb, hr, hml, hown, hts, hlocks⟩ := id C0
  have hS : va_S A u.heap u.heap [] := va_S.rf
  have hl := lv_entry ([.ref (a 0)]) (n := 1) (Nat.le_of_ble_eq_true rfl)
  rw [lg_entry_eq]
  generalize (lg_sl ([.ref (a 0)]) ++ List.replicate (1 - (lg_sl ([.ref (a 0)])).length) Slot.unset).toArray = ls at hl ⊢
  have hl : lv_has ls 1 [(0, .ref (a 0))] := hl
  refine lv_aload_n hx hb dX5_hour_0 rfl (lv_at hl 0 rfl) ?_
  refine lv_iconst (v := nI 0) hx hb dX5_hour_1 (by decide) ?_
  refine k_puti (wM q a ((up S 0 0 (nI 0)))) hx hb hts in_X5_hour_X5 tyX5 tyX5_ok nmX5 hown hK hP hS 0 rfl rfl 0 (by decide) (hts _ fl_X5_hour_95) (fun _ h9 => h9) rfl (by decide +kernel) (Nat.le_of_ble_eq_true rfl) wM_f0_0 dX5_hour_2 (fun H locs hP hS => ?_)
  refine lv_aload_n hx hb dX5_hour_5 rfl (lv_at hl 0 rfl) ?_
  refine va_get (D := D) (ci := 6) (v := .int (((up S 0 0 (nI 0))) 0 1)) (C := RX5) (T := TX5) (N := 33) hx hb hts in_X5_hour_X5 hown hK.1 hP.1 0 rfl rfl 1 (by decide) (hts _ fl_X5_hour_103) (fun _ h9 => h9) rfl dX5_hour_6 ?_
  refine k_top (y := S 0 1) (up_sn (by decide)) ?_
  have eM : (up S 0 0 (nI 0)) = up S 0 0 (nI 0) := by rfl
  rw [eM] at hP
  exact k_iretW hx hb hr hlocks hP hS (by rfl) dX5_hour_9
theorem fl_X5_leases_95 : Cond.fieldLink RX5 95 "LampCountsModel" "thrown" "I" ∈ wsX5_leases := by decide +kernel
theorem fl_X5_leases_106 : Cond.fieldLink RX5 106 "LampCountsModel" "leases" "I" ∈ wsX5_leases := by decide +kernel
theorem in_X5_leases_X5 : ∀ w ∈ u_ws RX5 TX5 33, w ∈ wsX5_leases := by decide +kernel
set_option maxHeartbeats 4000000 in
set_option maxRecDepth 100000 in
theorem c_X5_leases (l : Launch) (D : va_G) (q : Nat → ClassId) (A : Nat → Prop) (a : Nat → Nat) (S : Nat → Nat → Int32)   : Met l yX5_leases wsX5_leases ({ frames := 0, cells := 0, slots := 0, locals := 0 } : Room) (va_Pc [.ref (a 0)] (kB D q (fun H => kW D A (wM q a S) H))) (kRi D A (S 0 15) (wM q a (up S 0 0 (nI 0)))) 0 0 A := by
  refine Met.ofW (cc := cX5_leases) (maxL := 1) (ret := (some .int)) (by decide) rfl ?_
  intro p e u m args below meth c s₁ B hml0 hv
  obtain ⟨rfl, hP, hK⟩ := hv
  have C0 : kAt p u m #[.ref (a 0)] meth c cX5_leases 1 (some .int) RX5 wsX5_leases := kAt_of B hml0
  obtain ⟨hx, hb, hr, hml, hown, hts, hlocks⟩ := id C0
  have hS : va_S A u.heap u.heap [] := va_S.rf
  have hl := lv_entry ([.ref (a 0)]) (n := 1) (Nat.le_of_ble_eq_true rfl)
  rw [lg_entry_eq]
  generalize (lg_sl ([.ref (a 0)]) ++ List.replicate (1 - (lg_sl ([.ref (a 0)])).length) Slot.unset).toArray = ls at hl ⊢
  have hl : lv_has ls 1 [(0, .ref (a 0))] := hl
  refine lv_aload_n hx hb dX5_leases_0 rfl (lv_at hl 0 rfl) ?_
  refine lv_iconst (v := nI 0) hx hb dX5_leases_1 (by decide) ?_
  refine k_puti (wM q a ((up S 0 0 (nI 0)))) hx hb hts in_X5_leases_X5 tyX5 tyX5_ok nmX5 hown hK hP hS 0 rfl rfl 0 (by decide) (hts _ fl_X5_leases_95) (fun _ h9 => h9) rfl (by decide +kernel) (Nat.le_of_ble_eq_true rfl) wM_f0_0 dX5_leases_2 (fun H locs hP hS => ?_)
  refine lv_aload_n hx hb dX5_leases_5 rfl (lv_at hl 0 rfl) ?_
  refine va_get (D := D) (ci := 6) (v := .int (((up S 0 0 (nI 0))) 0 15)) (C := RX5) (T := TX5) (N := 33) hx hb hts in_X5_leases_X5 hown hK.1 hP.1 0 rfl rfl 15 (by decide) (hts _ fl_X5_leases_106) (fun _ h9 => h9) rfl dX5_leases_6 ?_
  refine k_top (y := S 0 15) (up_sn (by decide)) ?_
  have eM : (up S 0 0 (nI 0)) = up S 0 0 (nI 0) := by rfl
  rw [eM] at hP
  exact k_iretW hx hb hr hlocks hP hS (by rfl) dX5_leases_9
theorem fl_X5_lots_95 : Cond.fieldLink RX5 95 "LampCountsModel" "thrown" "I" ∈ wsX5_lots := by decide +kernel
theorem fl_X5_lots_109 : Cond.fieldLink RX5 109 "LampCountsModel" "lots" "I" ∈ wsX5_lots := by decide +kernel
theorem in_X5_lots_X5 : ∀ w ∈ u_ws RX5 TX5 33, w ∈ wsX5_lots := by decide +kernel
set_option maxHeartbeats 4000000 in
set_option maxRecDepth 100000 in
theorem c_X5_lots (l : Launch) (D : va_G) (q : Nat → ClassId) (A : Nat → Prop) (a : Nat → Nat) (S : Nat → Nat → Int32)   : Met l yX5_lots wsX5_lots ({ frames := 0, cells := 0, slots := 0, locals := 0 } : Room) (va_Pc [.ref (a 0)] (kB D q (fun H => kW D A (wM q a S) H))) (kRi D A (S 0 31) (wM q a (up S 0 0 (nI 0)))) 0 0 A := by
  refine Met.ofW (cc := cX5_lots) (maxL := 1) (ret := (some .int)) (by decide) rfl ?_
  intro p e u m args below meth c s₁ B hml0 hv
  obtain ⟨rfl, hP, hK⟩ := hv
  have C0 : kAt p u m #[.ref (a 0)] meth c cX5_lots 1 (some .int) RX5 wsX5_lots := kAt_of B hml0
  obtain ⟨hx, hb, hr, hml, hown, hts, hlocks⟩ := id C0
  have hS : va_S A u.heap u.heap [] := va_S.rf
  have hl := lv_entry ([.ref (a 0)]) (n := 1) (Nat.le_of_ble_eq_true rfl)
  rw [lg_entry_eq]
  generalize (lg_sl ([.ref (a 0)]) ++ List.replicate (1 - (lg_sl ([.ref (a 0)])).length) Slot.unset).toArray = ls at hl ⊢
  have hl : lv_has ls 1 [(0, .ref (a 0))] := hl
  refine lv_aload_n hx hb dX5_lots_0 rfl (lv_at hl 0 rfl) ?_
  refine lv_iconst (v := nI 0) hx hb dX5_lots_1 (by decide) ?_
  refine k_puti (wM q a ((up S 0 0 (nI 0)))) hx hb hts in_X5_lots_X5 tyX5 tyX5_ok nmX5 hown hK hP hS 0 rfl rfl 0 (by decide) (hts _ fl_X5_lots_95) (fun _ h9 => h9) rfl (by decide +kernel) (Nat.le_of_ble_eq_true rfl) wM_f0_0 dX5_lots_2 (fun H locs hP hS => ?_)
  refine lv_aload_n hx hb dX5_lots_5 rfl (lv_at hl 0 rfl) ?_
  refine va_get (D := D) (ci := 6) (v := .int (((up S 0 0 (nI 0))) 0 31)) (C := RX5) (T := TX5) (N := 33) hx hb hts in_X5_lots_X5 hown hK.1 hP.1 0 rfl rfl 31 (by decide) (hts _ fl_X5_lots_109) (fun _ h9 => h9) rfl dX5_lots_6 ?_
  refine k_top (y := S 0 31) (up_sn (by decide)) ?_
  have eM : (up S 0 0 (nI 0)) = up S 0 0 (nI 0) := by rfl
  rw [eM] at hP
  exact k_iretW hx hb hr hlocks hP hS (by rfl) dX5_lots_9
