theorem fl_X2_clashesWith_18 : Cond.fieldLink RX2 18 "LampCounts$Lease" "door" "I" ∈ wsX2_clashesWith := by decide +kernel
theorem fl_X2_clashesWith_33 : Cond.fieldLink RX2 33 "LampCounts$Lease" "start" "I" ∈ wsX2_clashesWith := by decide +kernel
theorem fl_X2_clashesWith_36 : Cond.fieldLink RX2 36 "LampCounts$Lease" "end" "I" ∈ wsX2_clashesWith := by decide +kernel
theorem in_X2_clashesWith_X2 : ∀ w ∈ u_ws RX2 TX2 9, w ∈ wsX2_clashesWith := by decide +kernel
set_option maxHeartbeats 4000000 in
set_option maxRecDepth 100000 in
theorem c_X2_clashesWith (l : Launch) (D : va_G) (q : Nat → ClassId) (a : Nat → Nat) (S : Nat → Nat → Int32) (cap nl : Nat) (i : Nat) (hcap : cap ≠ 0) (hi : i < nl) : Met l yX2_clashesWith wsX2_clashesWith ({ frames := 0, cells := 0, slots := 0, locals := 0 } : Room) (va_Pc [.ref (a (100 + i)), .ref (a (100 + nl))] (kB D q (fun H => va_P D vwCl (wZ q a S cap nl) H))) (kSi (bI (clP S i nl))) 0 0 (fun _ => False) := by
  refine Met.ofW (cc := cX2_clashesWith) (maxL := 2) (ret := (some .boolean)) (by decide) rfl ?_
  intro p e u m args below meth c s₁ B hml0 hv
  obtain ⟨rfl, hP, hK⟩ := hv
  have C0 : kAt p u m #[.ref (a (100 + i)), .ref (a (100 + nl))] meth c cX2_clashesWith 2 (some .boolean) RX2 wsX2_clashesWith := kAt_of B hml0
  obtain ⟨hx, hb, hr, hml, hown, hts, hlocks⟩ := id C0
  have hl := lv_entry ([.ref (a (100 + i)), .ref (a (100 + nl))]) (n := 2) (Nat.le_of_ble_eq_true rfl)
  rw [lg_entry_eq]
  generalize (lg_sl ([.ref (a (100 + i)), .ref (a (100 + nl))]) ++ List.replicate (2 - (lg_sl ([.ref (a (100 + i)), .ref (a (100 + nl))])).length) Slot.unset).toArray = ls at hl ⊢
  have hl : lv_has ls 2 [(0, .ref (a (100 + i))), (1, .ref (a (100 + nl)))] := hl
  refine lv_aload_n hx hb dX2_clashesWith_0 rfl (lv_at hl 0 rfl) ?_
  refine va_get (D := D) (ci := 3) (v := .int (S 30 i)) (C := RX2) (T := TX2) (N := 9) hx hb hts in_X2_clashesWith_X2 hown hK.1 hP (27 + i) (wZ_ls hcap (Nat.le_of_lt hi)) rfl 0 (by decide) (hts _ fl_X2_clashesWith_18) (fun _ h9 => h9) rfl dX2_clashesWith_1 ?_
  refine lv_aload_n hx hb dX2_clashesWith_4 rfl (lv_at hl 1 rfl) ?_
  refine va_get (D := D) (ci := 3) (v := .int (S 30 nl)) (C := RX2) (T := TX2) (N := 9) hx hb hts in_X2_clashesWith_X2 hown hK.1 hP (27 + nl) (wZ_ls hcap (Nat.le_refl nl)) rfl 0 (by decide) (hts _ fl_X2_clashesWith_18) (fun _ h9 => h9) rfl dX2_clashesWith_5 ?_
  refine k_icmp_ne (P := S 30 i = S 30 nl) (tgt := 37) hx hb dX2_clashesWith_8 (by decide) Iff.rfl (fun c_1 => ?_) (fun c_1 => ?_)
  · skip
    refine lv_iconst (v := nI 0) hx hb dX2_clashesWith_37 (by decide) ?_
    exact k_zretS hx hb hr hlocks rfl rfl rfl (by exact (bI_f (fun z => c_1 z.1)).symm) dX2_clashesWith_38
  · skip
    refine lv_aload_n hx hb dX2_clashesWith_11 rfl (lv_at hl 0 rfl) ?_
    refine va_get (D := D) (ci := 3) (v := .int (S 35 i)) (C := RX2) (T := TX2) (N := 9) hx hb hts in_X2_clashesWith_X2 hown hK.1 hP (27 + i) (wZ_ls hcap (Nat.le_of_lt hi)) rfl 5 (by decide) (hts _ fl_X2_clashesWith_33) (fun _ h9 => h9) rfl dX2_clashesWith_12 ?_
    refine lv_aload_n hx hb dX2_clashesWith_15 rfl (lv_at hl 1 rfl) ?_
    refine va_get (D := D) (ci := 3) (v := .int (S 36 nl)) (C := RX2) (T := TX2) (N := 9) hx hb hts in_X2_clashesWith_X2 hown hK.1 hP (27 + nl) (wZ_ls hcap (Nat.le_refl nl)) rfl 6 (by decide) (hts _ fl_X2_clashesWith_36) (fun _ h9 => h9) rfl dX2_clashesWith_16 ?_
    refine k_icmp_ge (P := S 35 i < S 36 nl) (tgt := 37) hx hb dX2_clashesWith_19 (by decide) Iff.rfl (fun c_2 => ?_) (fun c_2 => ?_)
    · skip
      refine lv_iconst (v := nI 0) hx hb dX2_clashesWith_37 (by decide) ?_
      exact k_zretS hx hb hr hlocks rfl rfl rfl (by exact (bI_f (fun z => c_2 z.2.1)).symm) dX2_clashesWith_38
    · skip
      refine lv_aload_n hx hb dX2_clashesWith_22 rfl (lv_at hl 1 rfl) ?_
      refine va_get (D := D) (ci := 3) (v := .int (S 35 nl)) (C := RX2) (T := TX2) (N := 9) hx hb hts in_X2_clashesWith_X2 hown hK.1 hP (27 + nl) (wZ_ls hcap (Nat.le_refl nl)) rfl 5 (by decide) (hts _ fl_X2_clashesWith_33) (fun _ h9 => h9) rfl dX2_clashesWith_23 ?_
      refine lv_aload_n hx hb dX2_clashesWith_26 rfl (lv_at hl 0 rfl) ?_
      refine va_get (D := D) (ci := 3) (v := .int (S 36 i)) (C := RX2) (T := TX2) (N := 9) hx hb hts in_X2_clashesWith_X2 hown hK.1 hP (27 + i) (wZ_ls hcap (Nat.le_of_lt hi)) rfl 6 (by decide) (hts _ fl_X2_clashesWith_36) (fun _ h9 => h9) rfl dX2_clashesWith_27 ?_
      refine k_icmp_ge (P := S 35 nl < S 36 i) (tgt := 37) hx hb dX2_clashesWith_30 (by decide) Iff.rfl (fun c_3 => ?_) (fun c_3 => ?_)
      · skip
        refine lv_iconst (v := nI 0) hx hb dX2_clashesWith_37 (by decide) ?_
        exact k_zretS hx hb hr hlocks rfl rfl rfl (by exact (bI_f (fun z => c_3 z.2.2)).symm) dX2_clashesWith_38
      · skip
        refine lv_iconst (v := nI 1) hx hb dX2_clashesWith_33 (by decide) ?_
        refine lv_goto (tgt := 38) hx hb dX2_clashesWith_34 (by decide) ?_
        exact k_zretS hx hb hr hlocks rfl rfl rfl (by exact (bI_t ⟨c_1, c_2, c_3⟩).symm) dX2_clashesWith_38
theorem fl_X4_isDoorHeld_33 : Cond.fieldLink RX4 33 "LampCounts" "made" "Ljava/util/ArrayList;" ∈ wsX4_isDoorHeld := by decide +kernel
theorem in_X4_isDoorHeld_X4 : ∀ w ∈ u_ws RX4 TX4 6, w ∈ wsX4_isDoorHeld := by decide +kernel
theorem cl_X4_isDoorHeld_101 : Cond.classLink RX4 101 "LampCounts$Lease" ∈ wsX4_isDoorHeld := by decide +kernel
set_option maxHeartbeats 4000000 in
set_option maxRecDepth 100000 in
theorem lp_X4_isDoorHeld_2 {p : Program} {l : Launch} {e : Env} {u : State} {m : MethodId} {below : List Frame} {meth : Method} {c : Code} {D : va_G} {q : Nat → ClassId} (a : Nat → Nat) (S : Nat → Nat → Int32) (cap nl : Nat)  (hnl : nl ≤ cap ∧ cap ≤ 40 ∧ nl ≤ 30) (C0 : kAt p u m #[.ref (a 0), .ref (a (100 + nl))] meth c cX4_isDoorHeld 3 (some .boolean) RX4 wsX4_isDoorHeld) (hK : kK D q u) (hP : va_P D vwCl (wZ q a S cap nl) u.heap) :
    ∀ (f : Nat) (i : Nat) (x2 : Int32), nl - i < f → i ≤ nl → dhC S nl i = false → x2 = nI i → ∀ (ls : Array Slot), lv_has ls 3 [(0, .ref (a 0)), (1, .ref (a (100 + nl))), (2, .int x2)] → W p l e ({ frames := 3, cells := 0, slots := 0, locals := 64 } : Room) u m #[.ref (a 0), .ref (a (100 + nl))] below meth c u.heap [] 0 0 (MQ below (kSi ((if dhC S nl nl = true then nI 1 else nI 0))) #[.ref (a 0), .ref (a (100 + nl))] u 0 0 (fun _ => False)) (F0 m 2 ls []) := by
  obtain ⟨hx, hb, hr, hml, hown, hts, hlocks⟩ := id C0
  intro f
  induction f with
  | zero =>
    intro i x2 hf
    exact absurd hf (Nat.not_lt_zero _)
  | succ f ih =>
    intro i x2 hf hi hf e2 ls hl
    replace e2 := e2.symm
    subst e2
    refine lv_iload_n hx hb dX4_isDoorHeld_2 rfl (lv_at hl 2 rfl) ?_
    refine lv_aload_n hx hb dX4_isDoorHeld_3 rfl (lv_at hl 0 rfl) ?_
    refine va_get (D := D) (ci := 5) (v := .ref (a 4)) (C := RX4) (T := TX4) (N := 6) hx hb hts in_X4_isDoorHeld_X4 hown hK.1 hP 0 rfl rfl 3 (by decide) (hts _ fl_X4_isDoorHeld_33) (fun _ h9 => h9) rfl dX4_isDoorHeld_4 ?_
    refine k_callV (rest := [.int (nI i)]) (r := nI nl) ⟨hx, hb, hml, hown, hts⟩ (c_Jx4a65c_size_8abf5 l D q a S cap nl) (cwV 0 hts gX4_isDoorHeld_Jx4a65c_size_8abf5 rfl rfl rfl (by decide +kernel) ⟨Nat.le_of_ble_eq_true rfl, Nat.le_of_ble_eq_true rfl⟩) hK (wZ_C hP) (va_recv hK.1 hP (ci := 0) (q0 := 4) rfl rfl) rfl hl.1 rfl (Nat.le_of_ble_eq_true rfl) dX4_isDoorHeld_7 ⟨Nat.zero_le _, Nat.zero_le _⟩ (fun _ h => h) ?_
    refine k_icmp_ge (P := i < nl) (tgt := 39) hx hb dX4_isDoorHeld_10 (by decide) (nI_ltI (by omega) (by omega)) (fun c_1 => ?_) (fun c_1 => ?_)
    · skip
      refine lv_iconst (v := nI 0) hx hb dX4_isDoorHeld_39 (by decide) ?_
      exact k_zretS hx hb hr hlocks rfl rfl rfl (by rw [show i = nl from by omega] at hf; rw [if_neg (by rw [hf]; decide)]) dX4_isDoorHeld_40
    · skip
      refine lv_aload_n hx hb dX4_isDoorHeld_13 rfl (lv_at hl 0 rfl) ?_
      refine va_get (D := D) (ci := 5) (v := .ref (a 4)) (C := RX4) (T := TX4) (N := 6) hx hb hts in_X4_isDoorHeld_X4 hown hK.1 hP 0 rfl rfl 3 (by decide) (hts _ fl_X4_isDoorHeld_33) (fun _ h9 => h9) rfl dX4_isDoorHeld_14 ?_
      refine lv_iload_n hx hb dX4_isDoorHeld_17 rfl (lv_at hl 2 rfl) ?_
      refine k_callVr (rest := []) (r := a (100 + i)) ⟨hx, hb, hml, hown, hts⟩ (c_Jx4a65c_get_915e3 l D q a S cap nl i hnl (by omega)) (cwV 1 hts gX4_isDoorHeld_Jx4a65c_get_915e3 rfl rfl rfl (by decide +kernel) ⟨Nat.le_of_ble_eq_true rfl, Nat.le_of_ble_eq_true rfl⟩) hK (wZ_C hP) (va_recv hK.1 hP (ci := 0) (q0 := 4) rfl rfl) rfl hl.1 rfl (Nat.le_of_ble_eq_true rfl) dX4_isDoorHeld_18 ⟨Nat.zero_le _, Nat.zero_le _⟩ ?_
      refine va_castS (nm := "LampCounts$Lease") hx hb hown (hts _ cl_X4_isDoorHeld_101) (hK.1.1 3 _ rfl).2 (va_recv hK.1 hP (ci := 3) (q0 := 27 + i) rfl (wZ_ls (by omega) (by omega))) dX4_isDoorHeld_21 ?_
      refine lv_aload_n hx hb dX4_isDoorHeld_24 rfl (lv_at hl 1 rfl) ?_
      refine k_callV (rest := []) (r := bI (clP S i nl)) ⟨hx, hb, hml, hown, hts⟩ (c_X2_clashesWith l D q a S cap nl i (by omega) (by omega)) (cwV 1 hts gX4_isDoorHeld_X2_clashesWith rfl rfl rfl (by decide +kernel) ⟨Nat.le_of_ble_eq_true rfl, Nat.le_of_ble_eq_true rfl⟩) hK hP (va_recv hK.1 hP (ci := 3) (q0 := 27 + i) rfl (wZ_ls (by omega) (by omega))) rfl hl.1 rfl (Nat.le_of_ble_eq_true rfl) dX4_isDoorHeld_25 ⟨Nat.zero_le _, Nat.zero_le _⟩ (fun _ h => h) ?_
      refine k_if_eq (P := ¬ (clP S i nl)) (tgt := 33) hx hb dX4_isDoorHeld_28 (by decide) bI_0 (fun c_2 => ?_) (fun c_2 => ?_)
      · skip
        refine lv_iinc (v := nI (i + 1)) (lv' := [(2, .int (nI (i + 1))), (0, .ref (a 0)), (1, .ref (a (100 + nl)))]) hx hb dX4_isDoorHeld_33 hl (k := 2) rfl (k_iinc _) (by decide) rfl (fun ls hl => ?_)
        refine lv_goto (tgt := 2) hx hb dX4_isDoorHeld_36 (by decide) ?_
        exact ih (i + 1) (nI (i + 1)) (by omega) (by first | omega | assumption) (by exact dhC_f hf c_2)  rfl ls (lv_sub hl [1, 2, 0] rfl)
      · skip
        have c_2 : clP S i nl := Classical.not_not.mp c_2
        refine lv_iconst (v := nI 1) hx hb dX4_isDoorHeld_31 (by decide) ?_
        exact k_zretS hx hb hr hlocks rfl rfl rfl (by rw [if_pos (dhC_t c_2 nl (by assumption))]) dX4_isDoorHeld_32
set_option maxHeartbeats 4000000 in
set_option maxRecDepth 100000 in
theorem c_X4_isDoorHeld (l : Launch) (D : va_G) (q : Nat → ClassId) (a : Nat → Nat) (S : Nat → Nat → Int32) (cap nl : Nat)  (hnl : nl ≤ cap ∧ cap ≤ 40 ∧ nl ≤ 30) : Met l yX4_isDoorHeld wsX4_isDoorHeld ({ frames := 3, cells := 0, slots := 0, locals := 64 } : Room) (va_Pc [.ref (a 0), .ref (a (100 + nl))] (kB D q (fun H => va_P D vwCl (wZ q a S cap nl) H))) (kSi ((if dhC S nl nl = true then nI 1 else nI 0))) 0 0 (fun _ => False) := by
  refine Met.ofW (cc := cX4_isDoorHeld) (maxL := 3) (ret := (some .boolean)) (by decide) rfl ?_
  intro p e u m args below meth c s₁ B hml0 hv
  obtain ⟨rfl, hP, hK⟩ := hv
  have C0 : kAt p u m #[.ref (a 0), .ref (a (100 + nl))] meth c cX4_isDoorHeld 3 (some .boolean) RX4 wsX4_isDoorHeld := kAt_of B hml0
  obtain ⟨hx, hb, hr, hml, hown, hts, hlocks⟩ := id C0
  have hl := lv_entry ([.ref (a 0), .ref (a (100 + nl))]) (n := 3) (Nat.le_of_ble_eq_true rfl)
  rw [lg_entry_eq]
  generalize (lg_sl ([.ref (a 0), .ref (a (100 + nl))]) ++ List.replicate (3 - (lg_sl ([.ref (a 0), .ref (a (100 + nl))])).length) Slot.unset).toArray = ls at hl ⊢
  have hl : lv_has ls 3 [(0, .ref (a 0)), (1, .ref (a (100 + nl)))] := hl
  refine lv_iconst (v := nI 0) hx hb dX4_isDoorHeld_0 (by decide) ?_
  refine lv_istore_n (lv' := [(2, .int (nI 0)), (0, .ref (a 0)), (1, .ref (a (100 + nl)))]) hx hb dX4_isDoorHeld_1 rfl hl (by decide) rfl (fun ls hl => ?_)
  exact lp_X4_isDoorHeld_2 a S cap nl hnl C0 hK hP ((nl - 0) + 1) 0 (nI 0) (by omega) (by first | omega | assumption) (by rfl)  rfl ls (lv_sub hl [1, 2, 0] rfl)
