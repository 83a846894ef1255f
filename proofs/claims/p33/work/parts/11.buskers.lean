set_option maxHeartbeats 4000000 in
set_option maxRecDepth 100000 in
theorem c_X0_wish (l : Launch) (D : va_G) (q : Nat → ClassId) (b x : Nat)  : Met l yX0_wish wsX0_wish ({ frames := 0, cells := 0, slots := 0, locals := 0 } : Room) (va_Pc [.int (nI b), .int (nI x)] (kB D q (fun _ => True))) (kSi (nI (b * 12 + x))) 0 0 (fun _ => False) := by
  refine Met.ofW (cc := cX0_wish) (maxL := 2) (ret := (some .int)) (by decide) rfl ?_
  intro p e u m args below meth c s₁ B hml0 hv
  obtain ⟨rfl, hP, hK⟩ := hv
  have C0 : kAt p u m #[.int (nI b), .int (nI x)] meth c cX0_wish 2 (some .int) RX0 wsX0_wish := kAt_of B hml0
  obtain ⟨hx, hb, hr, hml, hown, hts, hlocks⟩ := id C0
  have hl := lv_entry ([.int (nI b), .int (nI x)]) (n := 2) (Nat.le_of_ble_eq_true rfl)
  rw [lg_entry_eq]
  generalize (lg_sl ([.int (nI b), .int (nI x)]) ++ List.replicate (2 - (lg_sl ([.int (nI b), .int (nI x)])).length) Slot.unset).toArray = ls at hl ⊢
  have hl : lv_has ls 2 [(0, .int (nI b)), (1, .int (nI x))] := hl
  refine lv_iload_n hx hb dX0_wish_0 rfl (lv_at hl 0 rfl) ?_
  refine lv_bipush (v := nI 12) hx hb dX0_wish_1 (by decide) ?_
  refine lv_imul hx hb dX0_wish_3 ?_
  refine k_top (y := nI (b * 12)) (pk_mul _ _) ?_
  refine lv_iload_n hx hb dX0_wish_4 rfl (lv_at hl 1 rfl) ?_
  refine lv_iadd hx hb dX0_wish_5 ?_
  refine k_top (y := nI (b * 12 + x)) (nI_add _ _) ?_
  exact k_iretS hx hb hr hlocks rfl rfl (by rfl) dX0_wish_6
theorem fl_X0_askedBy_21 : Cond.fieldLink RX0 21 "LampCounts$Buskers" "asks" "[Z" ∈ wsX0_askedBy := by decide +kernel
theorem in_X0_askedBy_X0 : ∀ w ∈ u_ws RX0 TX0 9, w ∈ wsX0_askedBy := by decide +kernel
set_option maxHeartbeats 4000000 in
set_option maxRecDepth 100000 in
theorem lp_X0_askedBy_4 {p : Program} {l : Launch} {e : Env} {u : State} {m : MethodId} {below : List Frame} {meth : Method} {c : Code} {D : va_G} {q : Nat → ClassId} (a : Nat → Nat) (S : Nat → Nat → Int32) (cap nl : Nat) (b : Nat) (hb6 : b < 6) (C0 : kAt p u m #[.ref (a 3), .int (nI b)] meth c cX0_askedBy 4 (some .int) RX0 wsX0_askedBy) (hK : kK D q u) (hP : va_P D vwCl (wC q a S cap nl) u.heap) :
    ∀ (f : Nat) (i : Nat) (x2 : Int32) (x3 : Int32), 12 - i < f → i ≤ 12 → x2 = akF S b i → x3 = nI i → ∀ (ls : Array Slot), lv_has ls 4 [(0, .ref (a 3)), (1, .int (nI b)), (2, .int x2), (3, .int x3)] → W p l e ({ frames := 1, cells := 0, slots := 0, locals := 21 } : Room) u m #[.ref (a 3), .int (nI b)] below meth c u.heap [] 0 0 (MQ below (kSi (akF S b 12)) #[.ref (a 3), .int (nI b)] u 0 0 (fun _ => False)) (F0 m 4 ls []) := by
  obtain ⟨hx, hb, hr, hml, hown, hts, hlocks⟩ := id C0
  intro f
  induction f with
  | zero =>
    intro i x2 x3 hf
    exact absurd hf (Nat.not_lt_zero _)
  | succ f ih =>
    intro i x2 x3 hf hi e2 e3 ls hl
    replace e2 := e2.symm
    subst e2
    replace e3 := e3.symm
    subst e3
    refine lv_iload_n hx hb dX0_askedBy_4 rfl (lv_at hl 3 rfl) ?_
    refine lv_bipush (v := nI 12) hx hb dX0_askedBy_5 (by decide) ?_
    refine k_icmp_ge (P := i < 12) (tgt := 37) hx hb dX0_askedBy_7 (by decide) (nI_ltI (by omega) (by omega)) (fun c_1 => ?_) (fun c_1 => ?_)
    · skip
      refine lv_iload_n hx hb dX0_askedBy_37 rfl (lv_at hl 2 rfl) ?_
      exact k_iretS hx hb hr hlocks rfl rfl (by rw [show i = 12 from by omega]) dX0_askedBy_38
    · skip
      refine lv_iload_n hx hb dX0_askedBy_10 rfl (lv_at hl 2 rfl) ?_
      refine lv_aload_n hx hb dX0_askedBy_11 rfl (lv_at hl 0 rfl) ?_
      refine va_get (D := D) (ci := 1) (v := .ref (a 21)) (C := RX0) (T := TX0) (N := 9) hx hb hts in_X0_askedBy_X0 hown hK.1 hP 3 rfl rfl 3 (by decide) (hts _ fl_X0_askedBy_21) (fun _ h9 => h9) rfl dX0_askedBy_12 ?_
      refine lv_iload_n hx hb dX0_askedBy_15 rfl (lv_at hl 1 rfl) ?_
      refine lv_iload_n hx hb dX0_askedBy_16 rfl (lv_at hl 3 rfl) ?_
      refine k_callS (rest := [.ref (a 21), .int (akF S b i)]) (r := nI (b * 12 + i)) ⟨hx, hb, hml, hown, hts⟩ (c_X0_wish l D q b i) (va_cwS 2 hts gX0_askedBy_X0_wish rfl rfl rfl (by decide +kernel) ⟨Nat.le_of_ble_eq_true rfl, Nat.le_of_ble_eq_true rfl⟩) hK trivial rfl hl.1 rfl (Nat.le_of_ble_eq_true rfl) dX0_askedBy_17 ⟨Nat.zero_le _, Nat.zero_le _⟩ (fun _ h => h) ?_
      refine k_zald hx hb hK hP 21 rfl (b * 12 + i) rfl (by omega) (by decide) dX0_askedBy_20 ?_
      refine k_if_eq (P := S 21 (b * 12 + i) = 0) (tgt := 28) hx hb dX0_askedBy_21 (by decide) Iff.rfl (fun c_2 => ?_) (fun c_2 => ?_)
      · skip
        refine lv_iconst (v := nI 0) hx hb dX0_askedBy_28 (by decide) ?_
        refine lv_iadd hx hb dX0_askedBy_29 ?_
        refine lv_istore_n (lv' := [(2, .int ((akF S b i) + (nI 0))), (0, .ref (a 3)), (1, .int (nI b)), (3, .int (nI i))]) hx hb dX0_askedBy_30 rfl hl (by decide) rfl (fun ls hl => ?_)
        refine lv_iinc (v := nI (i + 1)) (lv' := [(3, .int (nI (i + 1))), (2, .int ((akF S b i) + (nI 0))), (0, .ref (a 3)), (1, .int (nI b))]) hx hb dX0_askedBy_31 hl (k := 3) rfl (k_iinc _) (by decide) rfl (fun ls hl => ?_)
        refine lv_goto (tgt := 4) hx hb dX0_askedBy_34 (by decide) ?_
        exact ih (i + 1) ((akF S b i) + (nI 0)) (nI (i + 1)) (by omega) (by first | omega | assumption)  (by first | (simp only [akF, if_pos c_2]; done) | (simp only [akF, if_pos c_2]; rfl) | (simp [akF, if_pos c_2]; done) | rfl) rfl ls (lv_sub hl [2, 3, 1, 0] rfl)
      · skip
        refine lv_iconst (v := nI 1) hx hb dX0_askedBy_24 (by decide) ?_
        refine lv_goto (tgt := 29) hx hb dX0_askedBy_25 (by decide) ?_
        refine lv_iadd hx hb dX0_askedBy_29 ?_
        refine lv_istore_n (lv' := [(2, .int ((akF S b i) + (nI 1))), (0, .ref (a 3)), (1, .int (nI b)), (3, .int (nI i))]) hx hb dX0_askedBy_30 rfl hl (by decide) rfl (fun ls hl => ?_)
        refine lv_iinc (v := nI (i + 1)) (lv' := [(3, .int (nI (i + 1))), (2, .int ((akF S b i) + (nI 1))), (0, .ref (a 3)), (1, .int (nI b))]) hx hb dX0_askedBy_31 hl (k := 3) rfl (k_iinc _) (by decide) rfl (fun ls hl => ?_)
        refine lv_goto (tgt := 4) hx hb dX0_askedBy_34 (by decide) ?_
        exact ih (i + 1) ((akF S b i) + (nI 1)) (nI (i + 1)) (by omega) (by first | omega | assumption)  (by first | (simp only [akF, if_neg c_2]; done) | (simp only [akF, if_neg c_2]; rfl) | (simp [akF, if_neg c_2]; done) | rfl) rfl ls (lv_sub hl [2, 3, 1, 0] rfl)
set_option maxHeartbeats 4000000 in
set_option maxRecDepth 100000 in
theorem c_X0_askedBy (l : Launch) (D : va_G) (q : Nat → ClassId) (a : Nat → Nat) (S : Nat → Nat → Int32) (cap nl : Nat) (b : Nat) (hb6 : b < 6) : Met l yX0_askedBy wsX0_askedBy ({ frames := 1, cells := 0, slots := 0, locals := 21 } : Room) (va_Pc [.ref (a 3), .int (nI b)] (kB D q (fun H => va_P D vwCl (wC q a S cap nl) H))) (kSi (akF S b 12)) 0 0 (fun _ => False) := by
  refine Met.ofW (cc := cX0_askedBy) (maxL := 4) (ret := (some .int)) (by decide) rfl ?_
  intro p e u m args below meth c s₁ B hml0 hv
  obtain ⟨rfl, hP, hK⟩ := hv
  have C0 : kAt p u m #[.ref (a 3), .int (nI b)] meth c cX0_askedBy 4 (some .int) RX0 wsX0_askedBy := kAt_of B hml0
  obtain ⟨hx, hb, hr, hml, hown, hts, hlocks⟩ := id C0
  have hl := lv_entry ([.ref (a 3), .int (nI b)]) (n := 4) (Nat.le_of_ble_eq_true rfl)
  rw [lg_entry_eq]
  generalize (lg_sl ([.ref (a 3), .int (nI b)]) ++ List.replicate (4 - (lg_sl ([.ref (a 3), .int (nI b)])).length) Slot.unset).toArray = ls at hl ⊢
  have hl : lv_has ls 4 [(0, .ref (a 3)), (1, .int (nI b))] := hl
  refine lv_iconst (v := nI 0) hx hb dX0_askedBy_0 (by decide) ?_
  refine lv_istore_n (lv' := [(2, .int (nI 0)), (0, .ref (a 3)), (1, .int (nI b))]) hx hb dX0_askedBy_1 rfl hl (by decide) rfl (fun ls hl => ?_)
  refine lv_iconst (v := nI 0) hx hb dX0_askedBy_2 (by decide) ?_
  refine lv_istore_n (lv' := [(3, .int (nI 0)), (2, .int (nI 0)), (0, .ref (a 3)), (1, .int (nI b))]) hx hb dX0_askedBy_3 rfl hl (by decide) rfl (fun ls hl => ?_)
  exact lp_X0_askedBy_4 a S cap nl b hb6 C0 hK hP ((12 - 0) + 1) 0 (nI 0) (nI 0) (by omega) (by first | omega | assumption)  (by first | (simp only [akF]; done) | (simp only [akF]; rfl) | (simp [akF]; done) | rfl) rfl ls (lv_sub hl [2, 3, 1, 0] rfl)
theorem fl_X0_wants_21 : Cond.fieldLink RX0 21 "LampCounts$Buskers" "asks" "[Z" ∈ wsX0_wants := by decide +kernel
theorem fl_X0_wants_25 : Cond.fieldLink RX0 25 "LampCounts$Buskers" "playing" "[Z" ∈ wsX0_wants := by decide +kernel
theorem in_X0_wants_X0 : ∀ w ∈ u_ws RX0 TX0 9, w ∈ wsX0_wants := by decide +kernel
set_option maxHeartbeats 4000000 in
set_option maxRecDepth 100000 in
theorem c_X0_wants (l : Launch) (D : va_G) (q : Nat → ClassId) (a : Nat → Nat) (S : Nat → Nat → Int32) (cap nl : Nat) (b x : Nat) (hb6 : b < 6) (hx12 : x < 12) : Met l yX0_wants wsX0_wants ({ frames := 1, cells := 0, slots := 0, locals := 21 } : Room) (va_Pc [.ref (a 3), .int (nI b), .int (nI x)] (kB D q (fun H => va_P D vwCl (wC q a S cap nl) H))) (kSi (bI (wantP S b x))) 0 0 (fun _ => False) := by
  refine Met.ofW (cc := cX0_wants) (maxL := 3) (ret := (some .boolean)) (by decide) rfl ?_
  intro p e u m args below meth c s₁ B hml0 hv
  obtain ⟨rfl, hP, hK⟩ := hv
  have C0 : kAt p u m #[.ref (a 3), .int (nI b), .int (nI x)] meth c cX0_wants 3 (some .boolean) RX0 wsX0_wants := kAt_of B hml0
  obtain ⟨hx, hb, hr, hml, hown, hts, hlocks⟩ := id C0
  have hl := lv_entry ([.ref (a 3), .int (nI b), .int (nI x)]) (n := 3) (Nat.le_of_ble_eq_true rfl)
  rw [lg_entry_eq]
  generalize (lg_sl ([.ref (a 3), .int (nI b), .int (nI x)]) ++ List.replicate (3 - (lg_sl ([.ref (a 3), .int (nI b), .int (nI x)])).length) Slot.unset).toArray = ls at hl ⊢
  have hl : lv_has ls 3 [(0, .ref (a 3)), (1, .int (nI b)), (2, .int (nI x))] := hl
  refine lv_aload_n hx hb dX0_wants_0 rfl (lv_at hl 0 rfl) ?_
  refine va_get (D := D) (ci := 1) (v := .ref (a 21)) (C := RX0) (T := TX0) (N := 9) hx hb hts in_X0_wants_X0 hown hK.1 hP 3 rfl rfl 3 (by decide) (hts _ fl_X0_wants_21) (fun _ h9 => h9) rfl dX0_wants_1 ?_
  refine lv_iload_n hx hb dX0_wants_4 rfl (lv_at hl 1 rfl) ?_
  refine lv_iload_n hx hb dX0_wants_5 rfl (lv_at hl 2 rfl) ?_
  refine k_callS (rest := [.ref (a 21)]) (r := nI (b * 12 + x)) ⟨hx, hb, hml, hown, hts⟩ (c_X0_wish l D q b x) (va_cwS 2 hts gX0_wants_X0_wish rfl rfl rfl (by decide +kernel) ⟨Nat.le_of_ble_eq_true rfl, Nat.le_of_ble_eq_true rfl⟩) hK trivial rfl hl.1 rfl (Nat.le_of_ble_eq_true rfl) dX0_wants_6 ⟨Nat.zero_le _, Nat.zero_le _⟩ (fun _ h => h) ?_
  refine k_zald hx hb hK hP 21 rfl (b * 12 + x) rfl (by omega) (by decide) dX0_wants_9 ?_
  refine k_if_eq (P := S 21 (b * 12 + x) = 0) (tgt := 26) hx hb dX0_wants_10 (by decide) Iff.rfl (fun c_1 => ?_) (fun c_1 => ?_)
  · skip
    refine lv_iconst (v := nI 0) hx hb dX0_wants_26 (by decide) ?_
    exact k_zretS hx hb hr hlocks rfl rfl rfl (by exact (bI_f (fun z => z.1 c_1)).symm) dX0_wants_27
  · skip
    refine lv_aload_n hx hb dX0_wants_13 rfl (lv_at hl 0 rfl) ?_
    refine va_get (D := D) (ci := 1) (v := .ref (a 22)) (C := RX0) (T := TX0) (N := 9) hx hb hts in_X0_wants_X0 hown hK.1 hP 3 rfl rfl 4 (by decide) (hts _ fl_X0_wants_25) (fun _ h9 => h9) rfl dX0_wants_14 ?_
    refine lv_iload_n hx hb dX0_wants_17 rfl (lv_at hl 1 rfl) ?_
    refine k_zald hx hb hK hP 22 rfl b rfl (by omega) (by decide) dX0_wants_18 ?_
    refine k_if_ne (P := S 22 b = 0) (tgt := 26) hx hb dX0_wants_19 (by decide) Iff.rfl (fun c_2 => ?_) (fun c_2 => ?_)
    · skip
      refine lv_iconst (v := nI 0) hx hb dX0_wants_26 (by decide) ?_
      exact k_zretS hx hb hr hlocks rfl rfl rfl (by exact (bI_f (fun z => c_2 z.2)).symm) dX0_wants_27
    · skip
      refine lv_iconst (v := nI 1) hx hb dX0_wants_22 (by decide) ?_
      refine lv_goto (tgt := 27) hx hb dX0_wants_23 (by decide) ?_
      exact k_zretS hx hb hr hlocks rfl rfl rfl (by exact (bI_t ⟨c_1, c_2⟩).symm) dX0_wants_27
theorem fl_X0_fewestHours_15 : Cond.fieldLink RX0 15 "LampCounts$Buskers" "hoursPlayed" "[I" ∈ wsX0_fewestHours := by decide +kernel
theorem in_X0_fewestHours_X0 : ∀ w ∈ u_ws RX0 TX0 9, w ∈ wsX0_fewestHours := by decide +kernel
theorem ml_X0_fewestHours_72 : Cond.methodLink RX0 72 Lib.Math.min.name ∈ wsX0_fewestHours := by decide +kernel
theorem mls_X0_fewestHours_72 : Cond.static Lib.Math.min.name ∈ wsX0_fewestHours := by decide +kernel
theorem mlc_X0_fewestHours_72 : Cond.code Lib.Math.min.name Lib.Math.min.code 2 (some .int) ∈ wsX0_fewestHours := by decide +kernel
theorem mli_X0_fewestHours : Cond.initialized "java/lang/Math" ∈ wsX0_fewestHours := by decide +kernel
set_option maxHeartbeats 4000000 in
set_option maxRecDepth 100000 in
theorem lp_X0_fewestHours_6 {p : Program} {l : Launch} {e : Env} {u : State} {m : MethodId} {below : List Frame} {meth : Method} {c : Code} {D : va_G} {q : Nat → ClassId} (a : Nat → Nat) (S : Nat → Nat → Int32) (cap nl : Nat) (x : Nat) (hx12 : x < 12) (C0 : kAt p u m #[.ref (a 3), .int (nI x)] meth c cX0_fewestHours 4 (some .int) RX0 wsX0_fewestHours) (hK : kK D q u) (hP : va_P D vwCl (wC q a S cap nl) u.heap) :
    ∀ (f : Nat) (b : Nat) (x2 : Int32) (x3 : Int32), 6 - b < f → b ≤ 6 → x2 = fhF S x b → x3 = nI b → ∀ (ls : Array Slot), lv_has ls 4 [(0, .ref (a 3)), (1, .int (nI x)), (2, .int x2), (3, .int x3)] → W p l e ({ frames := 2, cells := 0, slots := 0, locals := 64 } : Room) u m #[.ref (a 3), .int (nI x)] below meth c u.heap [] 0 0 (MQ below (kSi (fhF S x 6)) #[.ref (a 3), .int (nI x)] u 0 0 (fun _ => False)) (F0 m 6 ls []) := by
  obtain ⟨hx, hb, hr, hml, hown, hts, hlocks⟩ := id C0
  intro f
  induction f with
  | zero =>
    intro b x2 x3 hf
    exact absurd hf (Nat.not_lt_zero _)
  | succ f ih =>
    intro b x2 x3 hf hb6 e2 e3 ls hl
    replace e2 := e2.symm
    subst e2
    replace e3 := e3.symm
    subst e3
    refine lv_iload_n hx hb dX0_fewestHours_6 rfl (lv_at hl 3 rfl) ?_
    refine lv_bipush (v := nI 6) hx hb dX0_fewestHours_7 (by decide) ?_
    refine k_icmp_ge (P := b < 6) (tgt := 38) hx hb dX0_fewestHours_9 (by decide) (nI_ltI (by omega) (by omega)) (fun c_1 => ?_) (fun c_1 => ?_)
    · skip
      refine lv_iload_n hx hb dX0_fewestHours_38 rfl (lv_at hl 2 rfl) ?_
      exact k_iretS hx hb hr hlocks rfl rfl (by rw [show b = 6 from by omega]) dX0_fewestHours_39
    · skip
      refine lv_aload_n hx hb dX0_fewestHours_12 rfl (lv_at hl 0 rfl) ?_
      refine lv_iload_n hx hb dX0_fewestHours_13 rfl (lv_at hl 3 rfl) ?_
      refine lv_iload_n hx hb dX0_fewestHours_14 rfl (lv_at hl 1 rfl) ?_
      refine k_callV (rest := []) (r := bI (wantP S b x)) ⟨hx, hb, hml, hown, hts⟩ (c_X0_wants l D q a S cap nl b x (by omega) (by omega)) (cwV 2 hts gX0_fewestHours_X0_wants rfl rfl rfl (by decide +kernel) ⟨Nat.le_of_ble_eq_true rfl, Nat.le_of_ble_eq_true rfl⟩) hK hP (va_recv hK.1 hP (ci := 1) (q0 := 3) rfl rfl) rfl hl.1 rfl (Nat.le_of_ble_eq_true rfl) dX0_fewestHours_15 ⟨Nat.zero_le _, Nat.zero_le _⟩ (fun _ h => h) ?_
      refine k_if_eq (P := ¬ (wantP S b x)) (tgt := 32) hx hb dX0_fewestHours_18 (by decide) bI_0 (fun c_2 => ?_) (fun c_2 => ?_)
      · skip
        refine lv_iinc (v := nI (b + 1)) (lv' := [(3, .int (nI (b + 1))), (0, .ref (a 3)), (1, .int (nI x)), (2, .int (fhF S x b))]) hx hb dX0_fewestHours_32 hl (k := 3) rfl (k_iinc _) (by decide) rfl (fun ls hl => ?_)
        refine lv_goto (tgt := 6) hx hb dX0_fewestHours_35 (by decide) ?_
        exact ih (b + 1) (fhF S x b) (nI (b + 1)) (by omega) (by first | omega | assumption)  (by first | (simp only [fhF, if_neg c_2]; done) | (simp only [fhF, if_neg c_2]; rfl) | (simp [fhF, if_neg c_2]; done) | rfl) rfl ls (lv_sub hl [1, 2, 3, 0] rfl)
      · skip
        have c_2 : wantP S b x := Classical.not_not.mp c_2
        refine lv_iload_n hx hb dX0_fewestHours_21 rfl (lv_at hl 2 rfl) ?_
        refine lv_aload_n hx hb dX0_fewestHours_22 rfl (lv_at hl 0 rfl) ?_
        refine va_get (D := D) (ci := 1) (v := .ref (a 19)) (C := RX0) (T := TX0) (N := 9) hx hb hts in_X0_fewestHours_X0 hown hK.1 hP 3 rfl rfl 1 (by decide) (hts _ fl_X0_fewestHours_15) (fun _ h9 => h9) rfl dX0_fewestHours_23 ?_
        refine lv_iload_n hx hb dX0_fewestHours_26 rfl (lv_at hl 3 rfl) ?_
        refine k_iald hx hb hK hP 19 rfl b rfl (by omega) (by decide) dX0_fewestHours_27 ?_
        refine va_mmin hx hb (hml.trans hl.1.symm) hown (hts _ ml_X0_fewestHours_72) (hts _ mls_X0_fewestHours_72) (hts _ mli_X0_fewestHours) (hts _ mlc_X0_fewestHours_72) (Nat.le_of_ble_eq_true rfl) (Nat.le_of_ble_eq_true rfl) (Nat.zero_le _) (Nat.zero_le _) dX0_fewestHours_28 ?_
        refine lv_istore_n (lv' := [(2, .int (if S 19 b < fhF S x b then S 19 b else fhF S x b)), (0, .ref (a 3)), (1, .int (nI x)), (3, .int (nI b))]) hx hb dX0_fewestHours_31 rfl hl (by decide) rfl (fun ls hl => ?_)
        refine lv_iinc (v := nI (b + 1)) (lv' := [(3, .int (nI (b + 1))), (2, .int (if S 19 b < fhF S x b then S 19 b else fhF S x b)), (0, .ref (a 3)), (1, .int (nI x))]) hx hb dX0_fewestHours_32 hl (k := 3) rfl (k_iinc _) (by decide) rfl (fun ls hl => ?_)
        refine lv_goto (tgt := 6) hx hb dX0_fewestHours_35 (by decide) ?_
        exact ih (b + 1) (if S 19 b < fhF S x b then S 19 b else fhF S x b) (nI (b + 1)) (by omega) (by first | omega | assumption)  (by first | (simp only [fhF, if_pos c_2]; done) | (simp only [fhF, if_pos c_2]; rfl) | (simp [fhF, if_pos c_2]; done) | rfl) rfl ls (lv_sub hl [2, 3, 1, 0] rfl)
set_option maxHeartbeats 4000000 in
set_option maxRecDepth 100000 in
theorem c_X0_fewestHours (l : Launch) (D : va_G) (q : Nat → ClassId) (a : Nat → Nat) (S : Nat → Nat → Int32) (cap nl : Nat) (x : Nat) (hx12 : x < 12) : Met l yX0_fewestHours wsX0_fewestHours ({ frames := 2, cells := 0, slots := 0, locals := 64 } : Room) (va_Pc [.ref (a 3), .int (nI x)] (kB D q (fun H => va_P D vwCl (wC q a S cap nl) H))) (kSi (fhF S x 6)) 0 0 (fun _ => False) := by
  refine Met.ofW (cc := cX0_fewestHours) (maxL := 4) (ret := (some .int)) (by decide) rfl ?_
  intro p e u m args below meth c s₁ B hml0 hv
  obtain ⟨rfl, hP, hK⟩ := hv
  have C0 : kAt p u m #[.ref (a 3), .int (nI x)] meth c cX0_fewestHours 4 (some .int) RX0 wsX0_fewestHours := kAt_of B hml0
  obtain ⟨hx, hb, hr, hml, hown, hts, hlocks⟩ := id C0
  have hl := lv_entry ([.ref (a 3), .int (nI x)]) (n := 4) (Nat.le_of_ble_eq_true rfl)
  rw [lg_entry_eq]
  generalize (lg_sl ([.ref (a 3), .int (nI x)]) ++ List.replicate (4 - (lg_sl ([.ref (a 3), .int (nI x)])).length) Slot.unset).toArray = ls at hl ⊢
  have hl : lv_has ls 4 [(0, .ref (a 3)), (1, .int (nI x))] := hl
  refine lv_sipush (v := nI 200) hx hb dX0_fewestHours_0 (by decide) ?_
  refine lv_istore_n (lv' := [(2, .int (nI 200)), (0, .ref (a 3)), (1, .int (nI x))]) hx hb dX0_fewestHours_3 rfl hl (by decide) rfl (fun ls hl => ?_)
  refine lv_iconst (v := nI 0) hx hb dX0_fewestHours_4 (by decide) ?_
  refine lv_istore_n (lv' := [(3, .int (nI 0)), (2, .int (nI 200)), (0, .ref (a 3)), (1, .int (nI x))]) hx hb dX0_fewestHours_5 rfl hl (by decide) rfl (fun ls hl => ?_)
  exact lp_X0_fewestHours_6 a S cap nl x hx12 C0 hK hP ((6 - 0) + 1) 0 (nI 200) (nI 0) (by omega) (by first | omega | assumption)  (by first | (simp only [fhF]; done) | (simp only [fhF]; rfl) | (simp [fhF]; done) | rfl) rfl ls (lv_sub hl [2, 3, 1, 0] rfl)
theorem wC_r25 {q : Nat → ClassId} {a : Nat → Nat} {S : Nat → Nat → Int32} {cap nl : Nat} {f : Nat → Int32} : (wC q a S cap nl).set 25 (a 25, .inl (q 0, 50, .inl f)) = wC q a (rw1 S 25 f) cap nl := by
  have e : wLs a (rw1 S 25 f) = wLs a S := by
    funext j
    unfold wLs
    rw [rw1_n (S := S) (k := 25) (f := f) (j := 30) (by omega), rw1_n (S := S) (k := 25) (f := f) (j := 31) (by omega), rw1_n (S := S) (k := 25) (f := f) (j := 32) (by omega), rw1_n (S := S) (k := 25) (f := f) (j := 33) (by omega), rw1_n (S := S) (k := 25) (f := f) (j := 34) (by omega), rw1_n (S := S) (k := 25) (f := f) (j := 35) (by omega), rw1_n (S := S) (k := 25) (f := f) (j := 36) (by omega), rw1_n (S := S) (k := 25) (f := f) (j := 37) (by omega), rw1_n (S := S) (k := 25) (f := f) (j := 38) (by omega)]
  have e2 : wCt q a (rw1 S 25 f) cap nl = wCt q a S cap nl := by unfold wCt; rw [e]
  show wCf q a (rw1 S 25 f) nl ++ wCt q a S cap nl = _
  rw [← e2]
  rfl
theorem cy_l : Cond.methodLink RX0 77 arraycopyName ∈ wsX0_drawLot := by decide +kernel
theorem cy_n : Cond.native arraycopyName ∈ wsX0_drawLot := by decide +kernel
theorem cy_s : Cond.static arraycopyName ∈ wsX0_drawLot := by decide +kernel
theorem cy_i : Cond.initialized "java/lang/System" ∈ wsX0_drawLot := by decide +kernel
theorem fl_X0_drawLot_34 : Cond.fieldLink RX0 34 "LampCounts$Buskers" "told" "[I" ∈ wsX0_drawLot := by decide +kernel
theorem fl_X0_drawLot_37 : Cond.fieldLink RX0 37 "LampCounts$Buskers" "lotsLeft" "I" ∈ wsX0_drawLot := by decide +kernel
theorem in_X0_drawLot_X0 : ∀ w ∈ u_ws RX0 TX0 9, w ∈ wsX0_drawLot := by decide +kernel
set_option maxHeartbeats 4000000 in
set_option maxRecDepth 100000 in
theorem c_X0_drawLot (l : Launch) (D : va_G) (q : Nat → ClassId) (A : Nat → Prop) (a : Nat → Nat) (S : Nat → Nat → Int32) (cap nl : Nat) (L : Nat) (hL : S 0 2 = nI L) (hL50 : L ≤ 50) : Met l yX0_drawLot wsX0_drawLot ({ frames := 1, cells := 0, slots := 0, locals := 64 } : Room) (va_Pc [.ref (a 3)] (kB D q (fun H => kW D A (wC q a S cap nl) H))) (kRi D A (ltV S L) (wC q a (ltM S L) cap nl)) 0 0 A := by
  refine Met.ofW (cc := cX0_drawLot) (maxL := 2) (ret := (some .int)) (by decide) rfl ?_
  intro p e u m args below meth c s₁ B hml0 hv
  obtain ⟨rfl, hP, hK⟩ := hv
  have C0 : kAt p u m #[.ref (a 3)] meth c cX0_drawLot 2 (some .int) RX0 wsX0_drawLot := kAt_of B hml0
  obtain ⟨hx, hb, hr, hml, hown, hts, hlocks⟩ := id C0
  have hS : va_S A u.heap u.heap [] := va_S.rf
  have hl := lv_entry ([.ref (a 3)]) (n := 2) (Nat.le_of_ble_eq_true rfl)
  rw [lg_entry_eq]
  generalize (lg_sl ([.ref (a 3)]) ++ List.replicate (2 - (lg_sl ([.ref (a 3)])).length) Slot.unset).toArray = ls at hl ⊢
  have hl : lv_has ls 2 [(0, .ref (a 3))] := hl
  refine lv_aload_n hx hb dX0_drawLot_0 rfl (lv_at hl 0 rfl) ?_
  refine va_get (D := D) (ci := 1) (v := .int (S 0 2)) (C := RX0) (T := TX0) (N := 9) hx hb hts in_X0_drawLot_X0 hown hK.1 hP.1 3 rfl rfl 8 (by decide) (hts _ fl_X0_drawLot_37) (fun _ h9 => h9) rfl dX0_drawLot_1 ?_
  refine k_top (y := nI L) hL ?_
  refine k_if_ne (P := L = 0) (tgt := 9) hx hb dX0_drawLot_4 (by decide) (k_n0 (by omega)) (fun c_1 => ?_) (fun c_1 => ?_)
  · skip
    refine lv_aload_n hx hb dX0_drawLot_9 rfl (lv_at hl 0 rfl) ?_
    refine va_get (D := D) (ci := 1) (v := .ref (a 25)) (C := RX0) (T := TX0) (N := 9) hx hb hts in_X0_drawLot_X0 hown hK.1 hP.1 3 rfl rfl 7 (by decide) (hts _ fl_X0_drawLot_34) (fun _ h9 => h9) rfl dX0_drawLot_10 ?_
    refine lv_iconst (v := nI 0) hx hb dX0_drawLot_13 (by decide) ?_
    refine k_iald hx hb hK hP.1 25 rfl 0 rfl (by omega) (by decide) dX0_drawLot_14 ?_
    refine lv_istore_n (lv' := [(1, .int (S 25 0)), (0, .ref (a 3))]) hx hb dX0_drawLot_15 rfl hl (by decide) rfl (fun ls hl => ?_)
    refine lv_aload_n hx hb dX0_drawLot_16 rfl (lv_at hl 1 rfl) ?_
    refine lv_dup hx hb dX0_drawLot_17 rfl ?_
    refine va_get (D := D) (ci := 1) (v := .int (S 0 2)) (C := RX0) (T := TX0) (N := 9) hx hb hts in_X0_drawLot_X0 hown hK.1 hP.1 3 rfl rfl 8 (by decide) (hts _ fl_X0_drawLot_37) (fun _ h9 => h9) rfl dX0_drawLot_18 ?_
    refine k_top (y := nI L) hL ?_
    refine lv_iconst (v := nI 1) hx hb dX0_drawLot_21 (by decide) ?_
    refine lv_isub hx hb dX0_drawLot_22 ?_
    refine k_top (y := nI (L - 1)) (pk_sub (by omega)) ?_
    refine k_puti (wC q a ((up S 0 2 (nI (L - 1)))) cap nl) hx hb hts in_X0_drawLot_X0 tyX0 tyX0_ok nmX0 hown hK hP hS 3 rfl rfl 8 (by decide) (hts _ fl_X0_drawLot_37) (fun _ h9 => h9) rfl (by decide +kernel) (Nat.le_of_ble_eq_true rfl) wC_f3_8 dX0_drawLot_23 (fun H locs hP hS => ?_)
    refine lv_aload_n hx hb dX0_drawLot_26 rfl (lv_at hl 1 rfl) ?_
    refine va_get (D := D) (ci := 1) (v := .ref (a 25)) (C := RX0) (T := TX0) (N := 9) hx hb hts in_X0_drawLot_X0 hown hK.1 hP.1 3 rfl rfl 7 (by decide) (hts _ fl_X0_drawLot_34) (fun _ h9 => h9) rfl dX0_drawLot_27 ?_
    refine lv_iconst (v := nI 1) hx hb dX0_drawLot_30 (by decide) ?_
    refine lv_aload_n hx hb dX0_drawLot_31 rfl (lv_at hl 1 rfl) ?_
    refine va_get (D := D) (ci := 1) (v := .ref (a 25)) (C := RX0) (T := TX0) (N := 9) hx hb hts in_X0_drawLot_X0 hown hK.1 hP.1 3 rfl rfl 7 (by decide) (hts _ fl_X0_drawLot_34) (fun _ h9 => h9) rfl dX0_drawLot_32 ?_
    refine lv_iconst (v := nI 0) hx hb dX0_drawLot_35 (by decide) ?_
    refine lv_aload_n hx hb dX0_drawLot_36 rfl (lv_at hl 1 rfl) ?_
    refine va_get (D := D) (ci := 1) (v := .int (((up S 0 2 (nI (L - 1)))) 0 2)) (C := RX0) (T := TX0) (N := 9) hx hb hts in_X0_drawLot_X0 hown hK.1 hP.1 3 rfl rfl 8 (by decide) (hts _ fl_X0_drawLot_37) (fun _ h9 => h9) rfl dX0_drawLot_37 ?_
    refine k_top (y := nI (L - 1)) (up_si _ _ _ _) ?_
    refine va_copyi hx hb (hml.trans hl.1.symm) hown (hts _ cy_l) (hts _ cy_n) (hts _ cy_s) (hts _ cy_i) hK.1 hP.1 hP.2 hS 25 25 0 0 rfl rfl rfl rfl rfl (nI_pos (by omega)) (nI_pos (by omega)) (nI_pos (by omega)) (by rw [nI_clamp (by omega), nI_clamp (by omega)]; omega) (by rw [nI_clamp (by omega), nI_clamp (by omega)]; omega) (fun _ _ => rfl) (Nat.le_of_ble_eq_true rfl) (Nat.le_of_ble_eq_true (by decide)) dX0_drawLot_40 (fun H locs h1 h2 hS => ?_)
    rw [nI_clamp (by omega), nI_clamp (by omega), nI_clamp (by omega)] at h1 h2
    have hP : kW D A (wC q a (rw1 ((up S 0 2 (nI (L - 1)))) 25 (va_cpy (S 25) (S 25) 1 0 (L - 1))) cap nl) H := ⟨by rw [← wC_r25]; exact h1, by rw [← wC_r25]; exact h2⟩
    refine lv_iload_n hx hb dX0_drawLot_43 rfl (lv_at hl 0 rfl) ?_
    have eM : (rw1 ((up S 0 2 (nI (L - 1)))) 25 (va_cpy (S 25) (S 25) 1 0 (L - 1))) = ltM S L := by first | (simp only [ltV, ltM, if_neg c_1]; done) | (simp only [ltV, ltM, if_neg c_1]; rfl) | (simp [ltV, ltM, if_neg c_1]; done) | rfl
    rw [eM] at hP
    exact k_iretW hx hb hr hlocks hP hS (by first | (simp only [ltV, ltM, if_neg c_1]; done) | (simp only [ltV, ltM, if_neg c_1]; rfl) | (simp [ltV, ltM, if_neg c_1]; done) | rfl) dX0_drawLot_44
  · skip
    refine lv_iconst (v := nI 0) hx hb dX0_drawLot_7 (by decide) ?_
    have eM : S = ltM S L := by first | (simp only [ltV, ltM, if_pos c_1]; done) | (simp only [ltV, ltM, if_pos c_1]; rfl) | (simp [ltV, ltM, if_pos c_1]; done) | rfl
    rw [eM] at hP
    exact k_iretW hx hb hr hlocks hP hS (by first | (simp only [ltV, ltM, if_pos c_1]; done) | (simp only [ltV, ltM, if_pos c_1]; rfl) | (simp [ltV, ltM, if_pos c_1]; done) | rfl) dX0_drawLot_8
theorem fl_X0_endAsking_21 : Cond.fieldLink RX0 21 "LampCounts$Buskers" "asks" "[Z" ∈ wsX0_endAsking := by decide +kernel
theorem fl_X0_endAsking_25 : Cond.fieldLink RX0 25 "LampCounts$Buskers" "playing" "[Z" ∈ wsX0_endAsking := by decide +kernel
theorem in_X0_endAsking_X0 : ∀ w ∈ u_ws RX0 TX0 9, w ∈ wsX0_endAsking := by decide +kernel
set_option maxHeartbeats 4000000 in
set_option maxRecDepth 100000 in
theorem lp_X0_endAsking_17 {p : Program} {l : Launch} {e : Env} {u : State} {m : MethodId} {below : List Frame} {meth : Method} {c : Code} {D : va_G} {q : Nat → ClassId} {A : Nat → Prop} (a : Nat → Nat) (S : Nat → Nat → Int32) (cap nl : Nat)   (b : Nat) (hb6 : b < 6) (C0 : kAt p u m #[.ref (a 3)] meth c cX0_endAsking 3 none RX0 wsX0_endAsking) (hK : kK D q u) (hk : ∀ (H : Heap) (locs : List Loc), kW D A (wC q a (eaF S (b + 1)) cap nl) H → va_S A u.heap H locs → ∀ (ls : Array Slot), lv_has ls 3 [(0, .ref (a 3)), (1, .int (nI b)), (2, .int (nI 12))] → W p l e ({ frames := 1, cells := 0, slots := 0, locals := 21 } : Room) u m #[.ref (a 3)] below meth c H locs 0 0 (MQ below (kRv D A (wC q a (eaF S 6) cap nl)) #[.ref (a 3)] u 0 0 A) (F0 m 40 ls [])) :
    ∀ (f : Nat) (x : Nat) (T : Nat → Nat → Int32) (x1 : Int32) (x2 : Int32), 12 - x < f → x ≤ 12 → T = eaI (up (eaF S b) 22 b (nI 0)) b x → x1 = nI b → x2 = nI x → ∀ (H : Heap) (locs : List Loc), kW D A (wC q a T cap nl) H → va_S A u.heap H locs → ∀ (ls : Array Slot), lv_has ls 3 [(0, .ref (a 3)), (1, .int x1), (2, .int x2)] → W p l e ({ frames := 1, cells := 0, slots := 0, locals := 21 } : Room) u m #[.ref (a 3)] below meth c H locs 0 0 (MQ below (kRv D A (wC q a (eaF S 6) cap nl)) #[.ref (a 3)] u 0 0 A) (F0 m 17 ls []) := by
  obtain ⟨hx, hb, hr, hml, hown, hts, hlocks⟩ := id C0
  intro f
  induction f with
  | zero =>
    intro x T x1 x2 hf
    exact absurd hf (Nat.not_lt_zero _)
  | succ f ih =>
    intro x T x1 x2 hf hx12 eT e1 e2 H locs hP hS ls hl
    replace eT := eT.symm
    subst eT
    replace e1 := e1.symm
    subst e1
    replace e2 := e2.symm
    subst e2
    refine lv_iload_n hx hb dX0_endAsking_17 rfl (lv_at hl 2 rfl) ?_
    refine lv_bipush (v := nI 12) hx hb dX0_endAsking_18 (by decide) ?_
    refine k_icmp_ge (P := x < 12) (tgt := 40) hx hb dX0_endAsking_20 (by decide) (nI_ltI (by omega) (by omega)) (fun c_1 => ?_) (fun c_1 => ?_)
    · skip
      have eX : eaI (up (eaF S b) 22 b (nI 0)) b x = eaF S (b + 1) := by rw [show x = 12 from by omega]; rfl
      rw [eX] at hP
      rw [show x = 12 from by omega] at hl
      exact hk _ _ hP hS ls (lv_sub hl [0, 1, 2] rfl)
    · skip
      refine lv_aload_n hx hb dX0_endAsking_23 rfl (lv_at hl 0 rfl) ?_
      refine va_get (D := D) (ci := 1) (v := .ref (a 21)) (C := RX0) (T := TX0) (N := 9) hx hb hts in_X0_endAsking_X0 hown hK.1 hP.1 3 rfl rfl 3 (by decide) (hts _ fl_X0_endAsking_21) (fun _ h9 => h9) rfl dX0_endAsking_24 ?_
      refine lv_iload_n hx hb dX0_endAsking_27 rfl (lv_at hl 1 rfl) ?_
      refine lv_iload_n hx hb dX0_endAsking_28 rfl (lv_at hl 2 rfl) ?_
      refine k_callS (rest := [.ref (a 21)]) (r := nI (b * 12 + x)) ⟨hx, hb, hml, hown, hts⟩ (c_X0_wish l D q b x) (va_cwS 2 hts gX0_endAsking_X0_wish rfl rfl rfl (by decide +kernel) ⟨Nat.le_of_ble_eq_true rfl, Nat.le_of_ble_eq_true rfl⟩) hK trivial rfl hl.1 rfl (Nat.le_of_ble_eq_true rfl) dX0_endAsking_29 ⟨Nat.zero_le _, Nat.zero_le _⟩ (fun _ h => h) ?_
      refine lv_iconst (v := nI 0) hx hb dX0_endAsking_32 (by decide) ?_
      refine k_zast (wC q a ((up (eaI (up (eaF S b) 22 b (nI 0)) b x) 21 (b * 12 + x) (nI 0))) cap nl) hx hb hK hP hS 21 rfl (b * 12 + x) rfl (by omega) (by decide) rfl wC_s21 dX0_endAsking_33 (fun H locs hP hS => ?_)
      refine lv_iinc (v := nI (x + 1)) (lv' := [(2, .int (nI (x + 1))), (0, .ref (a 3)), (1, .int (nI b))]) hx hb dX0_endAsking_34 hl (k := 2) rfl (k_iinc _) (by decide) rfl (fun ls hl => ?_)
      refine lv_goto (tgt := 17) hx hb dX0_endAsking_37 (by decide) ?_
      exact ih (x + 1) ((up (eaI (up (eaF S b) 22 b (nI 0)) b x) 21 (b * 12 + x) (nI 0))) (nI b) (nI (x + 1)) (by omega) (by first | omega | assumption) (by rfl) rfl rfl _ _ hP hS ls (lv_sub hl [1, 2, 0] rfl)

set_option maxHeartbeats 4000000 in
set_option maxRecDepth 100000 in
theorem lp_X0_endAsking_2 {p : Program} {l : Launch} {e : Env} {u : State} {m : MethodId} {below : List Frame} {meth : Method} {c : Code} {D : va_G} {q : Nat → ClassId} {A : Nat → Prop} (a : Nat → Nat) (S : Nat → Nat → Int32) (cap nl : Nat)   (C0 : kAt p u m #[.ref (a 3)] meth c cX0_endAsking 3 none RX0 wsX0_endAsking) (hK : kK D q u) :
    ∀ (f : Nat) (b : Nat) (T : Nat → Nat → Int32) (x1 : Int32), 6 - b < f → b ≤ 6 → T = eaF S b → x1 = nI b → ∀ (H : Heap) (locs : List Loc), kW D A (wC q a T cap nl) H → va_S A u.heap H locs → ∀ (ls : Array Slot), lv_has ls 3 [(0, .ref (a 3)), (1, .int x1)] → W p l e ({ frames := 1, cells := 0, slots := 0, locals := 21 } : Room) u m #[.ref (a 3)] below meth c H locs 0 0 (MQ below (kRv D A (wC q a (eaF S 6) cap nl)) #[.ref (a 3)] u 0 0 A) (F0 m 2 ls []) := by
  obtain ⟨hx, hb, hr, hml, hown, hts, hlocks⟩ := id C0
  intro f
  induction f with
  | zero =>
    intro b T x1 hf
    exact absurd hf (Nat.not_lt_zero _)
  | succ f ih =>
    intro b T x1 hf hb6 eT e1 H locs hP hS ls hl
    replace eT := eT.symm
    subst eT
    replace e1 := e1.symm
    subst e1
    refine lv_iload_n hx hb dX0_endAsking_2 rfl (lv_at hl 1 rfl) ?_
    refine lv_bipush (v := nI 6) hx hb dX0_endAsking_3 (by decide) ?_
    refine k_icmp_ge (P := b < 6) (tgt := 46) hx hb dX0_endAsking_5 (by decide) (nI_ltI (by omega) (by omega)) (fun c_2 => ?_) (fun c_2 => ?_)
    · skip
      have eM : eaF S b = eaF S 6 := by rw [show b = 6 from by omega]
      rw [eM] at hP
      exact k_vretW hx hb hr hlocks hP hS dX0_endAsking_46
    · skip
      refine lv_aload_n hx hb dX0_endAsking_8 rfl (lv_at hl 0 rfl) ?_
      refine va_get (D := D) (ci := 1) (v := .ref (a 22)) (C := RX0) (T := TX0) (N := 9) hx hb hts in_X0_endAsking_X0 hown hK.1 hP.1 3 rfl rfl 4 (by decide) (hts _ fl_X0_endAsking_25) (fun _ h9 => h9) rfl dX0_endAsking_9 ?_
      refine lv_iload_n hx hb dX0_endAsking_12 rfl (lv_at hl 1 rfl) ?_
      refine lv_iconst (v := nI 0) hx hb dX0_endAsking_13 (by decide) ?_
      refine k_zast (wC q a ((up (eaF S b) 22 b (nI 0))) cap nl) hx hb hK hP hS 22 rfl b rfl (by omega) (by decide) rfl wC_s22 dX0_endAsking_14 (fun H locs hP hS => ?_)
      refine lv_iconst (v := nI 0) hx hb dX0_endAsking_15 (by decide) ?_
      refine lv_istore_n (lv' := [(2, .int (nI 0)), (0, .ref (a 3)), (1, .int (nI b))]) hx hb dX0_endAsking_16 rfl hl (by decide) rfl (fun ls hl => ?_)
      refine lp_X0_endAsking_17 a S cap nl  b (by omega) C0 hK ?_ ((12 - 0) + 1) 0 ((up (eaF S b) 22 b (nI 0))) (nI b) (nI 0) (by omega) (by first | omega | assumption) (by rfl) rfl rfl _ _ hP hS ls (lv_sub hl [1, 2, 0] rfl)
      intro H locs hP hS ls hl
      refine lv_iinc (v := nI (b + 1)) (lv' := [(1, .int (nI (b + 1))), (0, .ref (a 3)), (2, .int (nI 12))]) hx hb dX0_endAsking_40 hl (k := 1) rfl (k_iinc _) (by decide) rfl (fun ls hl => ?_)
      refine lv_goto (tgt := 2) hx hb dX0_endAsking_43 (by decide) ?_
      exact ih (b + 1) (eaF S (b + 1)) (nI (b + 1)) (by omega) (by first | omega | assumption) rfl rfl _ _ hP hS ls (lv_sub hl [1, 0] rfl)
set_option maxHeartbeats 4000000 in
set_option maxRecDepth 100000 in
theorem c_X0_endAsking (l : Launch) (D : va_G) (q : Nat → ClassId) (A : Nat → Prop) (a : Nat → Nat) (S : Nat → Nat → Int32) (cap nl : Nat)   : Met l yX0_endAsking wsX0_endAsking ({ frames := 1, cells := 0, slots := 0, locals := 21 } : Room) (va_Pc [.ref (a 3)] (kB D q (fun H => kW D A (wC q a S cap nl) H))) (kRv D A (wC q a (eaF S 6) cap nl)) 0 0 A := by
  refine Met.ofW (cc := cX0_endAsking) (maxL := 3) (ret := none) (by decide) rfl ?_
  intro p e u m args below meth c s₁ B hml0 hv
  obtain ⟨rfl, hP, hK⟩ := hv
  have C0 : kAt p u m #[.ref (a 3)] meth c cX0_endAsking 3 none RX0 wsX0_endAsking := kAt_of B hml0
  obtain ⟨hx, hb, hr, hml, hown, hts, hlocks⟩ := id C0
  have hS : va_S A u.heap u.heap [] := va_S.rf
  have hl := lv_entry ([.ref (a 3)]) (n := 3) (Nat.le_of_ble_eq_true rfl)
  rw [lg_entry_eq]
  generalize (lg_sl ([.ref (a 3)]) ++ List.replicate (3 - (lg_sl ([.ref (a 3)])).length) Slot.unset).toArray = ls at hl ⊢
  have hl : lv_has ls 3 [(0, .ref (a 3))] := hl
  refine lv_iconst (v := nI 0) hx hb dX0_endAsking_0 (by decide) ?_
  refine lv_istore_n (lv' := [(1, .int (nI 0)), (0, .ref (a 3))]) hx hb dX0_endAsking_1 rfl hl (by decide) rfl (fun ls hl => ?_)
  exact lp_X0_endAsking_2 a S cap nl  C0 hK ((6 - 0) + 1) 0 S (nI 0) (by omega) (by first | omega | assumption) (by rfl) rfl _ _ hP hS ls (lv_sub hl [1, 0] rfl)
theorem k_nat6 {b : Int32} (h0 : ¬ b < 0) (h6 : b < nI 6) : ∃ n, n < 6 ∧ b = nI n := by
  obtain ⟨j, hj, rfl⟩ := nI_of h0
  exact ⟨j, (nI_ltI hj (by decide)).mp h6, rfl⟩
theorem fl_X0_playTo_9 : Cond.fieldLink RX0 9 "LampCounts$Buskers" "skills" "[I" ∈ wsX0_playTo := by decide +kernel
theorem fl_X0_playTo_18 : Cond.fieldLink RX0 18 "LampCounts$Buskers" "purses" "[I" ∈ wsX0_playTo := by decide +kernel
theorem in_X0_playTo_X0 : ∀ w ∈ u_ws RX0 TX0 9, w ∈ wsX0_playTo := by decide +kernel
set_option maxHeartbeats 4000000 in
set_option maxRecDepth 100000 in
theorem c_X0_playTo (l : Launch) (D : va_G) (q : Nat → ClassId) (A : Nat → Prop) (a : Nat → Nat) (S : Nat → Nat → Int32) (cap nl : Nat) (ps b : Int32)  : Met l yX0_playTo wsX0_playTo ({ frames := 0, cells := 0, slots := 0, locals := 0 } : Room) (va_Pc [.ref (a 3), .int (ps), .int (b)] (kB D q (fun H => kW D A (wC q a S cap nl) H))) (kRi D A (ptV S ps b) (wC q a (ptM S ps b) cap nl)) 0 0 A := by
  refine Met.ofW (cc := cX0_playTo) (maxL := 4) (ret := (some .int)) (by decide) rfl ?_
  intro p e u m args below meth c s₁ B hml0 hv
  obtain ⟨rfl, hP, hK⟩ := hv
  have C0 : kAt p u m #[.ref (a 3), .int (ps), .int (b)] meth c cX0_playTo 4 (some .int) RX0 wsX0_playTo := kAt_of B hml0
  obtain ⟨hx, hb, hr, hml, hown, hts, hlocks⟩ := id C0
  have hS : va_S A u.heap u.heap [] := va_S.rf
  have hl := lv_entry ([.ref (a 3), .int (ps), .int (b)]) (n := 4) (Nat.le_of_ble_eq_true rfl)
  rw [lg_entry_eq]
  generalize (lg_sl ([.ref (a 3), .int (ps), .int (b)]) ++ List.replicate (4 - (lg_sl ([.ref (a 3), .int (ps), .int (b)])).length) Slot.unset).toArray = ls at hl ⊢
  have hl : lv_has ls 4 [(0, .ref (a 3)), (1, .int (ps)), (2, .int (b))] := hl
  refine lv_iload_n hx hb dX0_playTo_0 rfl (lv_at hl 2 rfl) ?_
  refine k_if_lt (P := b < 0) (tgt := 10) hx hb dX0_playTo_1 (by decide) Iff.rfl (fun c_1 => ?_) (fun c_1 => ?_)
  · skip
    refine lv_iconst (v := nI 0) hx hb dX0_playTo_10 (by decide) ?_
    have eM : S = ptM S ps b := by unfold ptM; rw [if_pos c_1]
    rw [eM] at hP
    exact k_iretW hx hb hr hlocks hP hS (by unfold ptV; rw [if_pos c_1]) dX0_playTo_11
  · skip
    refine lv_iload_n hx hb dX0_playTo_4 rfl (lv_at hl 2 rfl) ?_
    refine lv_bipush (v := nI 6) hx hb dX0_playTo_5 (by decide) ?_
    refine k_icmp_lt (P := b < nI 6) (tgt := 12) hx hb dX0_playTo_7 (by decide) Iff.rfl (fun c_2 => ?_) (fun c_2 => ?_)
    · skip
      obtain ⟨n, hn6, en⟩ := k_nat6 c_1 c_2
      rw [en] at hl
      refine lv_iload_n hx hb dX0_playTo_12 rfl (lv_at hl 1 rfl) ?_
      refine lv_aload_n hx hb dX0_playTo_13 rfl (lv_at hl 0 rfl) ?_
      refine va_get (D := D) (ci := 1) (v := .ref (a 18)) (C := RX0) (T := TX0) (N := 9) hx hb hts in_X0_playTo_X0 hown hK.1 hP.1 3 rfl rfl 0 (by decide) (hts _ fl_X0_playTo_9) (fun _ h9 => h9) rfl dX0_playTo_14 ?_
      refine lv_iload_n hx hb dX0_playTo_17 rfl (lv_at hl 2 rfl) ?_
      refine k_iald hx hb hK hP.1 18 rfl n rfl (by omega) (by decide) dX0_playTo_18 ?_
      refine lv_imul hx hb dX0_playTo_19 ?_
      refine lv_bipush (v := nI 100) hx hb dX0_playTo_20 (by decide) ?_
      refine lv_idiv hx hb dX0_playTo_22 (by decide) ?_
      refine lv_istore_n (lv' := [(3, .int ((ps * (S 18 n)) / (nI 100))), (0, .ref (a 3)), (1, .int (ps)), (2, .int (nI n))]) hx hb dX0_playTo_23 rfl hl (by decide) rfl (fun ls hl => ?_)
      refine lv_aload_n hx hb dX0_playTo_24 rfl (lv_at hl 1 rfl) ?_
      refine va_get (D := D) (ci := 1) (v := .ref (a 20)) (C := RX0) (T := TX0) (N := 9) hx hb hts in_X0_playTo_X0 hown hK.1 hP.1 3 rfl rfl 2 (by decide) (hts _ fl_X0_playTo_18) (fun _ h9 => h9) rfl dX0_playTo_25 ?_
      refine lv_iload_n hx hb dX0_playTo_28 rfl (lv_at hl 3 rfl) ?_
      refine lv_dup2_11 hx hb dX0_playTo_29 rfl rfl ?_
      refine k_iald hx hb hK hP.1 20 rfl n rfl (by omega) (by decide) dX0_playTo_30 ?_
      refine lv_iload_n hx hb dX0_playTo_31 rfl (lv_at hl 0 rfl) ?_
      refine lv_bipush (v := nI 10) hx hb dX0_playTo_32 (by decide) ?_
      refine lv_idiv hx hb dX0_playTo_34 (by decide) ?_
      refine lv_iadd hx hb dX0_playTo_35 ?_
      refine k_iast (wC q a ((up S 20 n ((S 20 n) + (((ps * (S 18 n)) / (nI 100)) / (nI 10))))) cap nl) hx hb hK hP hS 20 rfl n rfl (by omega) (by decide) wC_s20 dX0_playTo_36 (fun H locs hP hS => ?_)
      refine lv_iload_n hx hb dX0_playTo_37 rfl (lv_at hl 0 rfl) ?_
      have eM : (up S 20 n ((S 20 n) + (((ps * (S 18 n)) / (nI 100)) / (nI 10)))) = ptM S ps b := by unfold ptM; rw [if_neg c_1, if_pos c_2, en, nI_clamp (by omega)]
      rw [eM] at hP
      exact k_iretW hx hb hr hlocks hP hS (by unfold ptV; rw [if_neg c_1, if_pos c_2, en, nI_clamp (by omega)]) dX0_playTo_38
    · skip
      refine lv_iconst (v := nI 0) hx hb dX0_playTo_10 (by decide) ?_
      have eM : S = ptM S ps b := by unfold ptM; rw [if_neg c_1, if_neg c_2]
      rw [eM] at hP
      exact k_iretW hx hb hr hlocks hP hS (by unfold ptV; rw [if_neg c_1, if_neg c_2]) dX0_playTo_11
theorem fl_X0_choose_15 : Cond.fieldLink RX0 15 "LampCounts$Buskers" "hoursPlayed" "[I" ∈ wsX0_choose := by decide +kernel
theorem fl_X0_choose_28 : Cond.fieldLink RX0 28 "LampCounts$Buskers" "tied" "[I" ∈ wsX0_choose := by decide +kernel
theorem in_X0_choose_X0 : ∀ w ∈ u_ws RX0 TX0 9, w ∈ wsX0_choose := by decide +kernel
set_option maxHeartbeats 4000000 in
set_option maxRecDepth 100000 in
theorem lp_X0_choose_11 {p : Program} {l : Launch} {e : Env} {u : State} {m : MethodId} {below : List Frame} {meth : Method} {c : Code} {D : va_G} {q : Nat → ClassId} {A : Nat → Prop} (a : Nat → Nat) (S : Nat → Nat → Int32) (cap nl : Nat) (x : Nat) (hx12 : x < 12) (hok : okL S) (C0 : kAt p u m #[.ref (a 3), .int (nI x)] meth c cX0_choose 5 (some .int) RX0 wsX0_choose) (hK : kK D q u) :
    ∀ (f : Nat) (b : Nat) (T : Nat → Nat → Int32) (x2 : Int32) (x3 : Int32) (x4 : Int32), 6 - b < f → b ≤ 6 → T = (tdF S x (fhF S x 6) b).2 → x2 = fhF S x 6 → x3 = nI (tdF S x (fhF S x 6) b).1 → x4 = nI b → ∀ (H : Heap) (locs : List Loc), kW D A (wC q a T cap nl) H → va_S A u.heap H locs → ∀ (ls : Array Slot), lv_has ls 5 [(0, .ref (a 3)), (1, .int (nI x)), (2, .int x2), (3, .int x3), (4, .int x4)] → W p l e ({ frames := 3, cells := 0, slots := 0, locals := 87 } : Room) u m #[.ref (a 3), .int (nI x)] below meth c H locs 0 0 (MQ below (kRi D A (chV (chT S x)) (wC q a (chM (chT S x)) cap nl)) #[.ref (a 3), .int (nI x)] u 0 0 A) (F0 m 11 ls []) := by
  obtain ⟨hx, hb, hr, hml, hown, hts, hlocks⟩ := id C0
  intro f
  induction f with
  | zero =>
    intro b T x2 x3 x4 hf
    exact absurd hf (Nat.not_lt_zero _)
  | succ f ih =>
    intro b T x2 x3 x4 hf hb6 eT e2 e3 e4 H locs hP hS ls hl
    replace eT := eT.symm
    subst eT
    replace e2 := e2.symm
    subst e2
    replace e3 := e3.symm
    subst e3
    replace e4 := e4.symm
    subst e4
    refine lv_iload hx hb dX0_choose_11 (lv_at hl 4 rfl) ?_
    refine lv_bipush (v := nI 6) hx hb dX0_choose_13 (by decide) ?_
    refine k_icmp_ge (P := b < 6) (tgt := 56) hx hb dX0_choose_15 (by decide) (nI_ltI (by omega) (by omega)) (fun c_1 => ?_) (fun c_1 => ?_)
    · skip
      obtain rfl : b = 6 := by omega
      have hok6 := okL_td (S := S) (x := x) (b := 6) (fw := fhF S x 6) hok
      refine lv_iload_n hx hb dX0_choose_56 rfl (lv_at hl 3 rfl) ?_
      refine k_if_ne (P := (tdF S x (fhF S x 6) 6).1 = 0) (tgt := 62) hx hb dX0_choose_57 (by decide) (k_n0 (by have := tdF_le (S := S) (x := x) (fw := fhF S x 6) 6; omega)) (fun c_2 => ?_) (fun c_2 => ?_)
      · skip
        refine lv_iload_n hx hb dX0_choose_62 rfl (lv_at hl 3 rfl) ?_
        refine lv_iconst (v := nI 1) hx hb dX0_choose_63 (by decide) ?_
        refine k_icmp_ne (P := (tdF S x (fhF S x 6) 6).1 = 1) (tgt := 76) hx hb dX0_choose_64 (by decide) (nI_eq (by have := tdF_le (S := S) (x := x) (fw := fhF S x 6) 6; omega) (by decide)) (fun c_3 => ?_) (fun c_3 => ?_)
        · skip
          refine lv_aload_n hx hb dX0_choose_76 rfl (lv_at hl 0 rfl) ?_
          refine va_get (D := D) (ci := 1) (v := .ref (a 23)) (C := RX0) (T := TX0) (N := 9) hx hb hts in_X0_choose_X0 hown hK.1 hP.1 3 rfl rfl 5 (by decide) (hts _ fl_X0_choose_28) (fun _ h9 => h9) rfl dX0_choose_77 ?_
          refine lv_aload_n hx hb dX0_choose_80 rfl (lv_at hl 0 rfl) ?_
          refine k_goRi hS (va_runV (rest := [.ref (a 23)]) ⟨hx, hb, hml, hown, hts⟩ (c_X0_drawLot l D q A a ((tdF S x (fhF S x 6) 6).2) cap nl (ltN (tdF S x (fhF S x 6) 6).2) hok6.1 hok6.2.1) (cwV 0 hts gX0_choose_X0_drawLot rfl rfl rfl (by decide +kernel) ⟨Nat.le_of_ble_eq_true rfl, Nat.le_of_ble_eq_true rfl⟩) ⟨kB_blind, (va_recv hK.1 hP.1 (ci := 1) (q0 := 3) rfl rfl), fun U hU hW => ⟨rfl, by rw [hU]; exact hP, hK.warm hW⟩⟩ rfl rfl hl.1 rfl (lv_room (Nat.le_of_ble_eq_true rfl)) dX0_choose_81 ⟨Nat.zero_le _, Nat.zero_le _⟩) (fun H locs hP hS => ?_)
          obtain ⟨v, hv, ev⟩ := okL_lt hok6
          refine lv_iload_n hx hb dX0_choose_84 rfl (lv_at hl 3 rfl) ?_
          refine lv_irem hx hb dX0_choose_85 (fun z => c_2 ((k_n0 (by have := tdF_le (S := S) (x := x) (fw := fhF S x 6) 6; omega)).mp z)) ?_
          refine k_top (y := nI (v % (tdF S x (fhF S x 6) 6).1)) (by rw [ev]; exact pk_rem (by omega) (by omega) (by have := tdF_le (S := S) (x := x) (fw := fhF S x 6) 6; omega)) ?_
          refine k_iald hx hb hK hP.1 23 rfl (v % (tdF S x (fhF S x 6) 6).1) rfl (by have := tdF_le (S := S) (x := x) (fw := fhF S x 6) 6; have := Nat.mod_lt v (show 0 < (tdF S x (fhF S x 6) 6).1 by omega); omega) (by decide) dX0_choose_86 ?_
          have eM : (ltM (tdF S x (fhF S x 6) 6).2 (ltN (tdF S x (fhF S x 6) 6).2)) = chM (chT S x) := by unfold chM chT; rw [if_neg c_2, if_neg c_3]
          rw [eM] at hP
          exact k_iretW hx hb hr hlocks hP hS (by unfold chV chT; rw [if_neg c_2, if_neg c_3, ev, nI_clamp (by omega)]) dX0_choose_87
        · skip
          refine lv_aload_n hx hb dX0_choose_67 rfl (lv_at hl 0 rfl) ?_
          refine va_get (D := D) (ci := 1) (v := .ref (a 23)) (C := RX0) (T := TX0) (N := 9) hx hb hts in_X0_choose_X0 hown hK.1 hP.1 3 rfl rfl 5 (by decide) (hts _ fl_X0_choose_28) (fun _ h9 => h9) rfl dX0_choose_68 ?_
          refine lv_iconst (v := nI 0) hx hb dX0_choose_71 (by decide) ?_
          refine k_iald hx hb hK hP.1 23 rfl 0 rfl (by omega) (by decide) dX0_choose_72 ?_
          refine lv_goto (tgt := 87) hx hb dX0_choose_73 (by decide) ?_
          have eM : (tdF S x (fhF S x 6) 6).2 = chM (chT S x) := by unfold chM chT; rw [if_neg c_2, if_pos c_3]
          rw [eM] at hP
          exact k_iretW hx hb hr hlocks hP hS (by unfold chV chT; rw [if_neg c_2, if_pos c_3]) dX0_choose_87
      · skip
        refine lv_iconst (v := (-1)) hx hb dX0_choose_60 (by decide) ?_
        have eM : (tdF S x (fhF S x 6) 6).2 = chM (chT S x) := by unfold chM chT; rw [if_pos c_2]
        rw [eM] at hP
        exact k_iretW hx hb hr hlocks hP hS (by unfold chV chT; rw [if_pos c_2]) dX0_choose_61
    · skip
      refine lv_aload_n hx hb dX0_choose_18 rfl (lv_at hl 0 rfl) ?_
      refine lv_iload hx hb dX0_choose_19 (lv_at hl 4 rfl) ?_
      refine lv_iload_n hx hb dX0_choose_21 rfl (lv_at hl 1 rfl) ?_
      refine k_callV (rest := []) (r := bI (wantP ((tdF S x (fhF S x 6) b).2) b x)) ⟨hx, hb, hml, hown, hts⟩ (c_X0_wants l D q a ((tdF S x (fhF S x 6) b).2) cap nl b x (by omega) (by omega)) (cwV 2 hts gX0_choose_X0_wants rfl rfl rfl (by decide +kernel) ⟨Nat.le_of_ble_eq_true rfl, Nat.le_of_ble_eq_true rfl⟩) hK hP.1 (va_recv hK.1 hP.1 (ci := 1) (q0 := 3) rfl rfl) rfl hl.1 rfl (Nat.le_of_ble_eq_true rfl) dX0_choose_22 ⟨Nat.zero_le _, Nat.zero_le _⟩ (fun _ h => h) ?_
      refine k_if_eq (P := ¬ (wantP ((tdF S x (fhF S x 6) b).2) b x)) (tgt := 50) hx hb dX0_choose_25 (by decide) bI_0 (fun c_4 => ?_) (fun c_4 => ?_)
      · skip
        refine lv_iinc (v := nI (b + 1)) (lv' := [(4, .int (nI (b + 1))), (0, .ref (a 3)), (1, .int (nI x)), (2, .int (fhF S x 6)), (3, .int (nI (tdF S x (fhF S x 6) b).1))]) hx hb dX0_choose_50 hl (k := 4) rfl (k_iinc _) (by decide) rfl (fun ls hl => ?_)
        refine lv_goto (tgt := 11) hx hb dX0_choose_53 (by decide) ?_
        exact ih (b + 1) ((tdF S x (fhF S x 6) b).2) (fhF S x 6) (nI (tdF S x (fhF S x 6) b).1) (nI (b + 1)) (by omega) (by first | omega | assumption) (by rw [tdF_s, if_neg c_4]) rfl (by rw [tdF_s, if_neg c_4]) rfl _ _ hP hS ls (lv_sub hl [1, 2, 3, 4, 0] rfl)
      · skip
        have c_4 : wantP ((tdF S x (fhF S x 6) b).2) b x := Classical.not_not.mp c_4
        refine lv_aload_n hx hb dX0_choose_28 rfl (lv_at hl 0 rfl) ?_
        refine va_get (D := D) (ci := 1) (v := .ref (a 19)) (C := RX0) (T := TX0) (N := 9) hx hb hts in_X0_choose_X0 hown hK.1 hP.1 3 rfl rfl 1 (by decide) (hts _ fl_X0_choose_15) (fun _ h9 => h9) rfl dX0_choose_29 ?_
        refine lv_iload hx hb dX0_choose_32 (lv_at hl 4 rfl) ?_
        refine k_iald hx hb hK hP.1 19 rfl b rfl (by omega) (by decide) dX0_choose_34 ?_
        refine lv_iload_n hx hb dX0_choose_35 rfl (lv_at hl 2 rfl) ?_
        refine k_icmp_ne (P := ((tdF S x (fhF S x 6) b).2) 19 b = fhF S x 6) (tgt := 50) hx hb dX0_choose_36 (by decide) Iff.rfl (fun c_5 => ?_) (fun c_5 => ?_)
        · skip
          refine lv_iinc (v := nI (b + 1)) (lv' := [(4, .int (nI (b + 1))), (0, .ref (a 3)), (1, .int (nI x)), (2, .int (fhF S x 6)), (3, .int (nI (tdF S x (fhF S x 6) b).1))]) hx hb dX0_choose_50 hl (k := 4) rfl (k_iinc _) (by decide) rfl (fun ls hl => ?_)
          refine lv_goto (tgt := 11) hx hb dX0_choose_53 (by decide) ?_
          exact ih (b + 1) ((tdF S x (fhF S x 6) b).2) (fhF S x 6) (nI (tdF S x (fhF S x 6) b).1) (nI (b + 1)) (by omega) (by first | omega | assumption) (by rw [tdF_s, if_pos c_4, if_neg c_5]) rfl (by rw [tdF_s, if_pos c_4, if_neg c_5]) rfl _ _ hP hS ls (lv_sub hl [1, 2, 3, 4, 0] rfl)
        · skip
          refine lv_aload_n hx hb dX0_choose_39 rfl (lv_at hl 0 rfl) ?_
          refine va_get (D := D) (ci := 1) (v := .ref (a 23)) (C := RX0) (T := TX0) (N := 9) hx hb hts in_X0_choose_X0 hown hK.1 hP.1 3 rfl rfl 5 (by decide) (hts _ fl_X0_choose_28) (fun _ h9 => h9) rfl dX0_choose_40 ?_
          refine lv_iload_n hx hb dX0_choose_43 rfl (lv_at hl 3 rfl) ?_
          refine lv_iload hx hb dX0_choose_44 (lv_at hl 4 rfl) ?_
          refine k_iast (wC q a ((up ((tdF S x (fhF S x 6) b).2) 23 ((tdF S x (fhF S x 6) b).1) (nI b))) cap nl) hx hb hK hP hS 23 rfl ((tdF S x (fhF S x 6) b).1) rfl (by have := tdF_le (S := S) (x := x) (fw := fhF S x 6) b; omega) (by decide) wC_s23 dX0_choose_46 (fun H locs hP hS => ?_)
          refine lv_iinc (v := nI ((tdF S x (fhF S x 6) b).1 + 1)) (lv' := [(3, .int (nI ((tdF S x (fhF S x 6) b).1 + 1))), (0, .ref (a 3)), (1, .int (nI x)), (2, .int (fhF S x 6)), (4, .int (nI b))]) hx hb dX0_choose_47 hl (k := 3) rfl (k_iinc _) (by decide) rfl (fun ls hl => ?_)
          refine lv_iinc (v := nI (b + 1)) (lv' := [(4, .int (nI (b + 1))), (3, .int (nI ((tdF S x (fhF S x 6) b).1 + 1))), (0, .ref (a 3)), (1, .int (nI x)), (2, .int (fhF S x 6))]) hx hb dX0_choose_50 hl (k := 4) rfl (k_iinc _) (by decide) rfl (fun ls hl => ?_)
          refine lv_goto (tgt := 11) hx hb dX0_choose_53 (by decide) ?_
          exact ih (b + 1) ((up ((tdF S x (fhF S x 6) b).2) 23 ((tdF S x (fhF S x 6) b).1) (nI b))) (fhF S x 6) (nI ((tdF S x (fhF S x 6) b).1 + 1)) (nI (b + 1)) (by omega) (by first | omega | assumption) (by rw [tdF_s, if_pos c_4, if_pos c_5]) rfl (by rw [tdF_s, if_pos c_4, if_pos c_5]) rfl _ _ hP hS ls (lv_sub hl [2, 3, 4, 1, 0] rfl)
set_option maxHeartbeats 4000000 in
set_option maxRecDepth 100000 in
theorem c_X0_choose (l : Launch) (D : va_G) (q : Nat → ClassId) (A : Nat → Prop) (a : Nat → Nat) (S : Nat → Nat → Int32) (cap nl : Nat) (x : Nat) (hx12 : x < 12) (hok : okL S) : Met l yX0_choose wsX0_choose ({ frames := 3, cells := 0, slots := 0, locals := 87 } : Room) (va_Pc [.ref (a 3), .int (nI x)] (kB D q (fun H => kW D A (wC q a S cap nl) H))) (kRi D A (chV (chT S x)) (wC q a (chM (chT S x)) cap nl)) 0 0 A := by
  refine Met.ofW (cc := cX0_choose) (maxL := 5) (ret := (some .int)) (by decide) rfl ?_
  intro p e u m args below meth c s₁ B hml0 hv
  obtain ⟨rfl, hP, hK⟩ := hv
  have C0 : kAt p u m #[.ref (a 3), .int (nI x)] meth c cX0_choose 5 (some .int) RX0 wsX0_choose := kAt_of B hml0
  obtain ⟨hx, hb, hr, hml, hown, hts, hlocks⟩ := id C0
  have hS : va_S A u.heap u.heap [] := va_S.rf
  have hl := lv_entry ([.ref (a 3), .int (nI x)]) (n := 5) (Nat.le_of_ble_eq_true rfl)
  rw [lg_entry_eq]
  generalize (lg_sl ([.ref (a 3), .int (nI x)]) ++ List.replicate (5 - (lg_sl ([.ref (a 3), .int (nI x)])).length) Slot.unset).toArray = ls at hl ⊢
  have hl : lv_has ls 5 [(0, .ref (a 3)), (1, .int (nI x))] := hl
  refine lv_aload_n hx hb dX0_choose_0 rfl (lv_at hl 0 rfl) ?_
  refine lv_iload_n hx hb dX0_choose_1 rfl (lv_at hl 1 rfl) ?_
  refine k_callV (rest := []) (r := fhF S x 6) ⟨hx, hb, hml, hown, hts⟩ (c_X0_fewestHours l D q a S cap nl x (by omega)) (cwV 1 hts gX0_choose_X0_fewestHours rfl rfl rfl (by decide +kernel) ⟨Nat.le_of_ble_eq_true rfl, Nat.le_of_ble_eq_true rfl⟩) hK hP.1 (va_recv hK.1 hP.1 (ci := 1) (q0 := 3) rfl rfl) rfl hl.1 rfl (Nat.le_of_ble_eq_true rfl) dX0_choose_2 ⟨Nat.zero_le _, Nat.zero_le _⟩ (fun _ h => h) ?_
  refine lv_istore_n (lv' := [(2, .int (fhF S x 6)), (0, .ref (a 3)), (1, .int (nI x))]) hx hb dX0_choose_5 rfl hl (by decide) rfl (fun ls hl => ?_)
  refine lv_iconst (v := nI 0) hx hb dX0_choose_6 (by decide) ?_
  refine lv_istore_n (lv' := [(3, .int (nI 0)), (2, .int (fhF S x 6)), (0, .ref (a 3)), (1, .int (nI x))]) hx hb dX0_choose_7 rfl hl (by decide) rfl (fun ls hl => ?_)
  refine lv_iconst (v := nI 0) hx hb dX0_choose_8 (by decide) ?_
  refine lv_istore (lv' := [(4, .int (nI 0)), (3, .int (nI 0)), (2, .int (fhF S x 6)), (0, .ref (a 3)), (1, .int (nI x))]) hx hb dX0_choose_9 hl (by decide) rfl (fun ls hl => ?_)
  exact lp_X0_choose_11 a S cap nl x hx12 hok C0 hK ((6 - 0) + 1) 0 S (fhF S x 6) (nI 0) (nI 0) (by omega) (by first | omega | assumption) (by rfl) rfl (by rfl) rfl _ _ hP hS ls (lv_sub hl [3, 4, 2, 1, 0] rfl)
theorem fl_X0_takePlaces_15 : Cond.fieldLink RX0 15 "LampCounts$Buskers" "hoursPlayed" "[I" ∈ wsX0_takePlaces := by decide +kernel
theorem fl_X0_takePlaces_25 : Cond.fieldLink RX0 25 "LampCounts$Buskers" "playing" "[Z" ∈ wsX0_takePlaces := by decide +kernel
theorem fl_X0_takePlaces_31 : Cond.fieldLink RX0 31 "LampCounts$Buskers" "players" "[I" ∈ wsX0_takePlaces := by decide +kernel
theorem in_X0_takePlaces_X0 : ∀ w ∈ u_ws RX0 TX0 9, w ∈ wsX0_takePlaces := by decide +kernel
theorem ni_X0_takePlaces_55 : Cond.initialized yX4_cell.cls ∈ wsX0_takePlaces := by decide +kernel
theorem ns_X0_takePlaces_55 : Cond.static yX4_cell ∈ wsX0_takePlaces := by decide +kernel
set_option maxHeartbeats 4000000 in
set_option maxRecDepth 100000 in
theorem lp_X0_takePlaces_2 {p : Program} {l : Launch} {e : Env} {u : State} {m : MethodId} {below : List Frame} {meth : Method} {c : Code} {D : va_G} {q : Nat → ClassId} {A : Nat → Prop} (a : Nat → Nat) (S : Nat → Nat → Int32) (cap nl : Nat) (h : Nat) (hh : h < 200) (hok : okL S) (C0 : kAt p u m #[.ref (a 3), .int (nI h)] meth c cX0_takePlaces 4 none RX0 wsX0_takePlaces) (hK : kK D q u) :
    ∀ (f : Nat) (x : Nat) (T : Nat → Nat → Int32) (x2 : Int32), 12 - x < f → x ≤ 12 → T = tpF S h x → x2 = nI x → ∀ (H : Heap) (locs : List Loc), kW D A (wC q a T cap nl) H → va_S A u.heap H locs → ∀ (ls : Array Slot), lv_has ls 4 [(0, .ref (a 3)), (1, .int (nI h)), (2, .int x2)] → W p l e ({ frames := 4, cells := 0, slots := 0, locals := 111 } : Room) u m #[.ref (a 3), .int (nI h)] below meth c H locs 0 0 (MQ below (kRv D A (wC q a (eaF (tpF S h 12) 6) cap nl)) #[.ref (a 3), .int (nI h)] u 0 0 A) (F0 m 2 ls []) := by
  obtain ⟨hx, hb, hr, hml, hown, hts, hlocks⟩ := id C0
  intro f
  induction f with
  | zero =>
    intro x T x2 hf
    exact absurd hf (Nat.not_lt_zero _)
  | succ f ih =>
    intro x T x2 hf hx12 eT e2 H locs hP hS ls hl
    replace eT := eT.symm
    subst eT
    replace e2 := e2.symm
    subst e2
    refine lv_iload_n hx hb dX0_takePlaces_2 rfl (lv_at hl 2 rfl) ?_
    refine lv_bipush (v := nI 12) hx hb dX0_takePlaces_3 (by decide) ?_
    refine k_icmp_ge (P := x < 12) (tgt := 58) hx hb dX0_takePlaces_5 (by decide) (nI_ltI (by omega) (by omega)) (fun c_1 => ?_) (fun c_1 => ?_)
    · skip
      obtain rfl : x = 12 := by omega
      refine lv_aload_n hx hb dX0_takePlaces_58 rfl (lv_at hl 0 rfl) ?_
      refine k_goRv hS (va_runV (rest := []) ⟨hx, hb, hml, hown, hts⟩ (c_X0_endAsking l D q A a (tpF S h 12) cap nl) (cwV 0 hts gX0_takePlaces_X0_endAsking rfl rfl rfl (by decide +kernel) ⟨Nat.le_of_ble_eq_true rfl, Nat.le_of_ble_eq_true rfl⟩) ⟨kB_blind, (va_recv hK.1 hP.1 (ci := 1) (q0 := 3) rfl rfl), fun U hU hW => ⟨rfl, by rw [hU]; exact hP, hK.warm hW⟩⟩ rfl rfl hl.1 rfl (lv_room (Nat.le_of_ble_eq_true rfl)) dX0_takePlaces_59 ⟨Nat.zero_le _, Nat.zero_le _⟩) (fun H locs hP hS => ?_)
      exact k_vretW hx hb hr hlocks hP hS dX0_takePlaces_62
    · skip
      refine lv_aload_n hx hb dX0_takePlaces_8 rfl (lv_at hl 0 rfl) ?_
      refine lv_iload_n hx hb dX0_takePlaces_9 rfl (lv_at hl 2 rfl) ?_
      refine k_goRi hS (va_runV (rest := []) ⟨hx, hb, hml, hown, hts⟩ (c_X0_choose l D q A a (tpF S h x) cap nl x (by omega) (okL_tpF hok _)) (cwV 1 hts gX0_takePlaces_X0_choose rfl rfl rfl (by decide +kernel) ⟨Nat.le_of_ble_eq_true rfl, Nat.le_of_ble_eq_true rfl⟩) ⟨kB_blind, (va_recv hK.1 hP.1 (ci := 1) (q0 := 3) rfl rfl), fun U hU hW => ⟨rfl, by rw [hU]; exact hP, hK.warm hW⟩⟩ rfl rfl hl.1 rfl (lv_room (Nat.le_of_ble_eq_true rfl)) dX0_takePlaces_10 ⟨Nat.zero_le _, Nat.zero_le _⟩) (fun H locs hP hS => ?_)
      refine lv_istore_n (lv' := [(3, .int (chV (chT (tpF S h x) x))), (0, .ref (a 3)), (1, .int (nI h)), (2, .int (nI x))]) hx hb dX0_takePlaces_13 rfl hl (by decide) rfl (fun ls hl => ?_)
      refine lv_aload_n hx hb dX0_takePlaces_14 rfl (lv_at hl 1 rfl) ?_
      refine va_get (D := D) (ci := 1) (v := .ref (a 24)) (C := RX0) (T := TX0) (N := 9) hx hb hts in_X0_takePlaces_X0 hown hK.1 hP.1 3 rfl rfl 6 (by decide) (hts _ fl_X0_takePlaces_31) (fun _ h9 => h9) rfl dX0_takePlaces_15 ?_
      refine lv_iload_n hx hb dX0_takePlaces_18 rfl (lv_at hl 3 rfl) ?_
      refine lv_iload_n hx hb dX0_takePlaces_19 rfl (lv_at hl 2 rfl) ?_
      refine k_callSN (rest := [.ref (a 24)]) (r := nI (h * 12 + x)) ⟨hx, hb, hml, hown, hts⟩ (c_X4_cell l D q x h) ⟨va_cnB 2 hts gX0_takePlaces_X4_cell_n55 rfl rfl rfl hK.2.1 (hts _ ni_X0_takePlaces_55) (by decide +kernel) ⟨Nat.le_of_ble_eq_true rfl, Nat.le_of_ble_eq_true rfl⟩, hts _ ns_X0_takePlaces_55, trivial⟩ hK trivial rfl hl.1 rfl (Nat.le_of_ble_eq_true rfl) dX0_takePlaces_20 ⟨Nat.zero_le _, Nat.zero_le _⟩ (fun _ h => h) ?_
      refine lv_iload_n hx hb dX0_takePlaces_23 rfl (lv_at hl 0 rfl) ?_
      refine k_iast (wC q a ((up ((chM (chT (tpF S h x) x))) 24 (h * 12 + x) (chV (chT (tpF S h x) x)))) cap nl) hx hb hK hP hS 24 rfl (h * 12 + x) rfl (by omega) (by decide) wC_s24 dX0_takePlaces_24 (fun H locs hP hS => ?_)
      refine lv_iload_n hx hb dX0_takePlaces_25 rfl (lv_at hl 0 rfl) ?_
      refine k_if_lt (P := chV (chT (tpF S h x) x) < 0) (tgt := 52) hx hb dX0_takePlaces_26 (by decide) Iff.rfl (fun c_2 => ?_) (fun c_2 => ?_)
      · skip
        refine lv_iinc (v := nI (x + 1)) (lv' := [(2, .int (nI (x + 1))), (3, .int (chV (chT (tpF S h x) x))), (0, .ref (a 3)), (1, .int (nI h))]) hx hb dX0_takePlaces_52 hl (k := 3) rfl (k_iinc _) (by decide) rfl (fun ls hl => ?_)
        refine lv_goto (tgt := 2) hx hb dX0_takePlaces_55 (by decide) ?_
        exact ih (x + 1) ((up ((chM (chT (tpF S h x) x))) 24 (h * 12 + x) (chV (chT (tpF S h x) x)))) (nI (x + 1)) (by omega) (by first | omega | assumption) (by rw [tpF_s]; unfold tpS; rw [if_pos c_2]) rfl _ _ hP hS ls (lv_sub hl [2, 3, 0] rfl)
      · skip
        refine lv_iload_n hx hb dX0_takePlaces_29 rfl (lv_at hl 0 rfl) ?_
        refine lv_bipush (v := nI 6) hx hb dX0_takePlaces_30 (by decide) ?_
        refine k_icmp_ge (P := chV (chT (tpF S h x) x) < nI 6) (tgt := 52) hx hb dX0_takePlaces_32 (by decide) Iff.rfl (fun c_3 => ?_) (fun c_3 => ?_)
        · skip
          refine lv_iinc (v := nI (x + 1)) (lv' := [(2, .int (nI (x + 1))), (3, .int (chV (chT (tpF S h x) x))), (0, .ref (a 3)), (1, .int (nI h))]) hx hb dX0_takePlaces_52 hl (k := 3) rfl (k_iinc _) (by decide) rfl (fun ls hl => ?_)
          refine lv_goto (tgt := 2) hx hb dX0_takePlaces_55 (by decide) ?_
          exact ih (x + 1) ((up ((chM (chT (tpF S h x) x))) 24 (h * 12 + x) (chV (chT (tpF S h x) x)))) (nI (x + 1)) (by omega) (by first | omega | assumption) (by rw [tpF_s]; unfold tpS; rw [if_neg c_2, if_neg c_3]) rfl _ _ hP hS ls (lv_sub hl [2, 3, 0] rfl)
        · skip
          obtain ⟨n, hn6, en⟩ := k_nat6 c_2 c_3
          rw [en] at hl
          refine lv_aload_n hx hb dX0_takePlaces_35 rfl (lv_at hl 1 rfl) ?_
          refine va_get (D := D) (ci := 1) (v := .ref (a 22)) (C := RX0) (T := TX0) (N := 9) hx hb hts in_X0_takePlaces_X0 hown hK.1 hP.1 3 rfl rfl 4 (by decide) (hts _ fl_X0_takePlaces_25) (fun _ h9 => h9) rfl dX0_takePlaces_36 ?_
          refine lv_iload_n hx hb dX0_takePlaces_39 rfl (lv_at hl 0 rfl) ?_
          refine lv_iconst (v := nI 1) hx hb dX0_takePlaces_40 (by decide) ?_
          refine k_zast (wC q a ((up (up ((chM (chT (tpF S h x) x))) 24 (h * 12 + x) (chV (chT (tpF S h x) x))) 22 n (nI 1))) cap nl) hx hb hK hP hS 22 rfl n rfl (by omega) (by decide) rfl wC_s22 dX0_takePlaces_41 (fun H locs hP hS => ?_)
          refine lv_aload_n hx hb dX0_takePlaces_42 rfl (lv_at hl 1 rfl) ?_
          refine va_get (D := D) (ci := 1) (v := .ref (a 19)) (C := RX0) (T := TX0) (N := 9) hx hb hts in_X0_takePlaces_X0 hown hK.1 hP.1 3 rfl rfl 1 (by decide) (hts _ fl_X0_takePlaces_15) (fun _ h9 => h9) rfl dX0_takePlaces_43 ?_
          refine lv_iload_n hx hb dX0_takePlaces_46 rfl (lv_at hl 0 rfl) ?_
          refine lv_dup2_11 hx hb dX0_takePlaces_47 rfl rfl ?_
          refine k_iald hx hb hK hP.1 19 rfl n rfl (by omega) (by decide) dX0_takePlaces_48 ?_
          refine k_top (y := ((chM (chT (tpF S h x) x))) 19 n) ((congrFun (up_n (by decide)) _).trans (congrFun (up_n (by decide)) _)) ?_
          refine lv_iconst (v := nI 1) hx hb dX0_takePlaces_49 (by decide) ?_
          refine lv_iadd hx hb dX0_takePlaces_50 ?_
          refine k_iast (wC q a ((up (up (up ((chM (chT (tpF S h x) x))) 24 (h * 12 + x) (chV (chT (tpF S h x) x))) 22 n (nI 1)) 19 n ((((chM (chT (tpF S h x) x))) 19 n) + (nI 1)))) cap nl) hx hb hK hP hS 19 rfl n rfl (by omega) (by decide) wC_s19 dX0_takePlaces_51 (fun H locs hP hS => ?_)
          refine lv_iinc (v := nI (x + 1)) (lv' := [(2, .int (nI (x + 1))), (3, .int (nI n)), (0, .ref (a 3)), (1, .int (nI h))]) hx hb dX0_takePlaces_52 hl (k := 3) rfl (k_iinc _) (by decide) rfl (fun ls hl => ?_)
          refine lv_goto (tgt := 2) hx hb dX0_takePlaces_55 (by decide) ?_
          exact ih (x + 1) ((up (up (up ((chM (chT (tpF S h x) x))) 24 (h * 12 + x) (chV (chT (tpF S h x) x))) 22 n (nI 1)) 19 n ((((chM (chT (tpF S h x) x))) 19 n) + (nI 1)))) (nI (x + 1)) (by omega) (by first | omega | assumption) (by rw [tpF_s]; unfold tpS; rw [if_neg c_2, if_pos c_3, en, nI_clamp (by omega)]) rfl _ _ hP hS ls (lv_sub hl [2, 3, 0] rfl)
set_option maxHeartbeats 4000000 in
set_option maxRecDepth 100000 in
theorem c_X0_takePlaces (l : Launch) (D : va_G) (q : Nat → ClassId) (A : Nat → Prop) (a : Nat → Nat) (S : Nat → Nat → Int32) (cap nl : Nat) (h : Nat) (hh : h < 200) (hok : okL S) : Met l yX0_takePlaces wsX0_takePlaces ({ frames := 4, cells := 0, slots := 0, locals := 111 } : Room) (va_Pc [.ref (a 3), .int (nI h)] (kB D q (fun H => kW D A (wC q a S cap nl) H))) (kRv D A (wC q a (eaF (tpF S h 12) 6) cap nl)) 0 0 A := by
  refine Met.ofW (cc := cX0_takePlaces) (maxL := 4) (ret := none) (by decide) rfl ?_
  intro p e u m args below meth c s₁ B hml0 hv
  obtain ⟨rfl, hP, hK⟩ := hv
  have C0 : kAt p u m #[.ref (a 3), .int (nI h)] meth c cX0_takePlaces 4 none RX0 wsX0_takePlaces := kAt_of B hml0
  obtain ⟨hx, hb, hr, hml, hown, hts, hlocks⟩ := id C0
  have hS : va_S A u.heap u.heap [] := va_S.rf
  have hl := lv_entry ([.ref (a 3), .int (nI h)]) (n := 4) (Nat.le_of_ble_eq_true rfl)
  rw [lg_entry_eq]
  generalize (lg_sl ([.ref (a 3), .int (nI h)]) ++ List.replicate (4 - (lg_sl ([.ref (a 3), .int (nI h)])).length) Slot.unset).toArray = ls at hl ⊢
  have hl : lv_has ls 4 [(0, .ref (a 3)), (1, .int (nI h))] := hl
  refine lv_iconst (v := nI 0) hx hb dX0_takePlaces_0 (by decide) ?_
  refine lv_istore_n (lv' := [(2, .int (nI 0)), (0, .ref (a 3)), (1, .int (nI h))]) hx hb dX0_takePlaces_1 rfl hl (by decide) rfl (fun ls hl => ?_)
  exact lp_X0_takePlaces_2 a S cap nl h hh hok C0 hK ((12 - 0) + 1) 0 S (nI 0) (by omega) (by first | omega | assumption) (by rfl) rfl _ _ hP hS ls (lv_sub hl [1, 2, 0] rfl)
theorem fl_X3_walk_9 : Cond.fieldLink RX3 9 "LampCounts$Street" "comeIn" "[I" ∈ wsX3_walk := by decide +kernel
theorem fl_X3_walk_15 : Cond.fieldLink RX3 15 "LampCounts$Street" "leave" "[I" ∈ wsX3_walk := by decide +kernel
theorem fl_X3_walk_18 : Cond.fieldLink RX3 18 "LampCounts$Street" "walked" "[I" ∈ wsX3_walk := by decide +kernel
theorem fl_X3_walk_21 : Cond.fieldLink RX3 21 "LampCounts$Street" "stopped" "[I" ∈ wsX3_walk := by decide +kernel
theorem fl_X3_walk_24 : Cond.fieldLink RX3 24 "LampCounts$Street" "wentOut" "[I" ∈ wsX3_walk := by decide +kernel
theorem fl_X3_walk_31 : Cond.fieldLink RX3 31 "LampCounts$Buskers" "players" "[I" ∈ wsX3_walk := by decide +kernel
theorem in_X3_walk_X0 : ∀ w ∈ u_ws RX0 TX0 9, w ∈ wsX3_walk := by decide +kernel
theorem in_X3_walk_X3 : ∀ w ∈ u_ws RX3 TX3 5, w ∈ wsX3_walk := by decide +kernel
theorem ni_X3_walk_27 : Cond.initialized yX4_cell.cls ∈ wsX3_walk := by decide +kernel
theorem ns_X3_walk_27 : Cond.static yX4_cell ∈ wsX3_walk := by decide +kernel
set_option maxHeartbeats 4000000 in
set_option maxRecDepth 100000 in
theorem lp_X3_walk_8 {p : Program} {l : Launch} {e : Env} {u : State} {m : MethodId} {below : List Frame} {meth : Method} {c : Code} {D : va_G} {q : Nat → ClassId} {A : Nat → Prop} (a : Nat → Nat) (S : Nat → Nat → Int32) (cap nl : Nat) (h : Nat) (hh : h < 200) (C0 : kAt p u m #[.ref (a 1), .int (nI h), .ref (a 3)] meth c cX3_walk 10 (some .int) RX3 wsX3_walk) (hK : kK D q u) :
    ∀ (f : Nat) (x : Nat) (T : Nat → Nat → Int32) (x3 : Int32) (x4 : Int32) (x5 : Int32), 12 - x < f → x ≤ 12 → T = (wkF S h x).2.2 → x3 = (wkF S h x).1 → x4 = (wkF S h x).2.1 → x5 = nI x → ∀ (H : Heap) (locs : List Loc), kW D A (wC q a T cap nl) H → va_S A u.heap H locs → ∀ (ls : Array Slot), lv_has ls 10 [(0, .ref (a 1)), (1, .int (nI h)), (2, .ref (a 3)), (3, .int x3), (4, .int x4), (5, .int x5)] → W p l e ({ frames := 1, cells := 0, slots := 0, locals := 23 } : Room) u m #[.ref (a 1), .int (nI h), .ref (a 3)] below meth c H locs 0 0 (MQ below (kRi D A ((wkF S h 12).1) (wC q a (walkM S h) cap nl)) #[.ref (a 1), .int (nI h), .ref (a 3)] u 0 0 A) (F0 m 8 ls []) := by
  obtain ⟨hx, hb, hr, hml, hown, hts, hlocks⟩ := id C0
  intro f
  induction f with
  | zero =>
    intro x T x3 x4 x5 hf
    exact absurd hf (Nat.not_lt_zero _)
  | succ f ih =>
    intro x T x3 x4 x5 hf hx12 eT e3 e4 e5 H locs hP hS ls hl
    replace eT := eT.symm
    subst eT
    replace e3 := e3.symm
    subst e3
    replace e4 := e4.symm
    subst e4
    replace e5 := e5.symm
    subst e5
    refine lv_iload hx hb dX3_walk_8 (lv_at hl 5 rfl) ?_
    refine lv_bipush (v := nI 12) hx hb dX3_walk_10 (by decide) ?_
    refine k_icmp_ge (P := x < 12) (tgt := 112) hx hb dX3_walk_12 (by decide) (nI_ltI (by omega) (by omega)) (fun c_1 => ?_) (fun c_1 => ?_)
    · skip
      obtain rfl : x = 12 := by omega
      refine lv_aload_n hx hb dX3_walk_112 rfl (lv_at hl 0 rfl) ?_
      refine va_get (D := D) (ci := 4) (v := .ref (a 10)) (C := RX3) (T := TX3) (N := 5) hx hb hts in_X3_walk_X3 hown hK.1 hP.1 1 rfl rfl 4 (by decide) (hts _ fl_X3_walk_24) (fun _ h9 => h9) rfl dX3_walk_113 ?_
      refine lv_iload_n hx hb dX3_walk_116 rfl (lv_at hl 1 rfl) ?_
      refine lv_iload hx hb dX3_walk_117 (lv_at hl 4 rfl) ?_
      refine k_iast (wC q a ((up ((wkF S h 12).2.2) 10 h ((wkF S h 12).2.1))) cap nl) hx hb hK hP hS 10 rfl h rfl (by omega) (by decide) wC_s10 dX3_walk_119 (fun H locs hP hS => ?_)
      refine lv_iload_n hx hb dX3_walk_120 rfl (lv_at hl 3 rfl) ?_
      have eM : (up ((wkF S h 12).2.2) 10 h ((wkF S h 12).2.1)) = walkM S h := by rfl
      rw [eM] at hP
      exact k_iretW hx hb hr hlocks hP hS (by rfl) dX3_walk_121
    · skip
      refine lv_iload hx hb dX3_walk_15 (lv_at hl 5 rfl) ?_
      refine lv_iload_n hx hb dX3_walk_17 rfl (lv_at hl 1 rfl) ?_
      refine k_callSN (rest := []) (r := nI (h * 12 + x)) ⟨hx, hb, hml, hown, hts⟩ (c_X4_cell l D q x h) ⟨va_cnB 2 hts gX3_walk_X4_cell_n27 rfl rfl rfl hK.2.2.1 (hts _ ni_X3_walk_27) (by decide +kernel) ⟨Nat.le_of_ble_eq_true rfl, Nat.le_of_ble_eq_true rfl⟩, hts _ ns_X3_walk_27, trivial⟩ hK trivial rfl hl.1 rfl (Nat.le_of_ble_eq_true rfl) dX3_walk_18 ⟨Nat.zero_le _, Nat.zero_le _⟩ (fun _ h => h) ?_
      refine lv_istore (lv' := [(6, .int (nI (h * 12 + x))), (0, .ref (a 1)), (1, .int (nI h)), (2, .ref (a 3)), (3, .int ((wkF S h x).1)), (4, .int ((wkF S h x).2.1)), (5, .int (nI x))]) hx hb dX3_walk_21 hl (by decide) rfl (fun ls hl => ?_)
      refine lv_iload hx hb dX3_walk_23 (lv_at hl 5 rfl) ?_
      refine lv_aload_n hx hb dX3_walk_25 rfl (lv_at hl 1 rfl) ?_
      refine va_get (D := D) (ci := 4) (v := .ref (a 6)) (C := RX3) (T := TX3) (N := 5) hx hb hts in_X3_walk_X3 hown hK.1 hP.1 1 rfl rfl 0 (by decide) (hts _ fl_X3_walk_9) (fun _ h9 => h9) rfl dX3_walk_26 ?_
      refine lv_iload hx hb dX3_walk_29 (lv_at hl 6 rfl) ?_
      refine k_iald hx hb hK hP.1 6 rfl x rfl (by omega) (by decide) dX3_walk_31 ?_
      refine lv_iadd hx hb dX3_walk_32 ?_
      refine lv_istore (lv' := [(7, .int (((wkF S h x).2.1) + (((wkF S h x).2.2) 6 x))), (6, .int (nI (h * 12 + x))), (0, .ref (a 1)), (1, .int (nI h)), (2, .ref (a 3)), (3, .int ((wkF S h x).1)), (4, .int ((wkF S h x).2.1)), (5, .int (nI x))]) hx hb dX3_walk_33 hl (by decide) rfl (fun ls hl => ?_)
      refine lv_aload_n hx hb dX3_walk_35 rfl (lv_at hl 4 rfl) ?_
      refine lv_iload hx hb dX3_walk_36 (lv_at hl 0 rfl) ?_
      refine lv_aload_n hx hb dX3_walk_38 rfl (lv_at hl 4 rfl) ?_
      refine va_get (D := D) (ci := 1) (v := .ref (a 24)) (C := RX0) (T := TX0) (N := 9) hx hb hts in_X3_walk_X0 hown hK.1 hP.1 3 rfl rfl 6 (by decide) (hts _ fl_X3_walk_31) (fun _ h9 => h9) rfl dX3_walk_39 ?_
      refine lv_iload hx hb dX3_walk_42 (lv_at hl 1 rfl) ?_
      refine k_iald hx hb hK hP.1 24 rfl (h * 12 + x) rfl (by omega) (by decide) dX3_walk_44 ?_
      refine k_goRi hS (va_runV (rest := []) ⟨hx, hb, hml, hown, hts⟩ (c_X0_playTo l D q A a ((wkF S h x).2.2) cap nl (((wkF S h x).2.1) + (((wkF S h x).2.2) 6 x)) (((wkF S h x).2.2) 24 (h * 12 + x))) (cwV 2 hts gX3_walk_X0_playTo rfl rfl rfl (by decide +kernel) ⟨Nat.le_of_ble_eq_true rfl, Nat.le_of_ble_eq_true rfl⟩) ⟨kB_blind, (va_recv hK.1 hP.1 (ci := 1) (q0 := 3) rfl rfl), fun U hU hW => ⟨rfl, by rw [hU]; exact hP, hK.warm hW⟩⟩ rfl rfl hl.1 rfl (lv_room (Nat.le_of_ble_eq_true rfl)) dX3_walk_45 ⟨Nat.zero_le _, Nat.zero_le _⟩) (fun H locs hP hS => ?_)
      refine lv_istore (lv' := [(8, .int (ptV ((wkF S h x).2.2) (((wkF S h x).2.1) + (((wkF S h x).2.2) 6 x)) (((wkF S h x).2.2) 24 (h * 12 + x)))), (7, .int (((wkF S h x).2.1) + (((wkF S h x).2.2) 6 x))), (6, .int (nI (h * 12 + x))), (0, .ref (a 1)), (1, .int (nI h)), (2, .ref (a 3)), (3, .int ((wkF S h x).1)), (4, .int ((wkF S h x).2.1)), (5, .int (nI x))]) hx hb dX3_walk_48 hl (by decide) rfl (fun ls hl => ?_)
      refine lv_aload_n hx hb dX3_walk_50 rfl (lv_at hl 3 rfl) ?_
      refine va_get (D := D) (ci := 4) (v := .ref (a 9)) (C := RX3) (T := TX3) (N := 5) hx hb hts in_X3_walk_X3 hown hK.1 hP.1 1 rfl rfl 3 (by decide) (hts _ fl_X3_walk_21) (fun _ h9 => h9) rfl dX3_walk_51 ?_
      refine lv_iload hx hb dX3_walk_54 (lv_at hl 2 rfl) ?_
      refine lv_iload hx hb dX3_walk_56 (lv_at hl 0 rfl) ?_
      refine k_iast (wC q a ((up (ptM ((wkF S h x).2.2) (((wkF S h x).2.1) + (((wkF S h x).2.2) 6 x)) (((wkF S h x).2.2) 24 (h * 12 + x))) 9 (h * 12 + x) (ptV ((wkF S h x).2.2) (((wkF S h x).2.1) + (((wkF S h x).2.2) 6 x)) (((wkF S h x).2.2) 24 (h * 12 + x))))) cap nl) hx hb hK hP hS 9 rfl (h * 12 + x) rfl (by omega) (by decide) wC_s9 dX3_walk_58 (fun H locs hP hS => ?_)
      refine lv_aload_n hx hb dX3_walk_59 rfl (lv_at hl 3 rfl) ?_
      refine va_get (D := D) (ci := 4) (v := .ref (a 8)) (C := RX3) (T := TX3) (N := 5) hx hb hts in_X3_walk_X3 hown hK.1 hP.1 1 rfl rfl 2 (by decide) (hts _ fl_X3_walk_18) (fun _ h9 => h9) rfl dX3_walk_60 ?_
      refine lv_iload hx hb dX3_walk_63 (lv_at hl 2 rfl) ?_
      refine lv_iload hx hb dX3_walk_65 (lv_at hl 1 rfl) ?_
      refine lv_iload hx hb dX3_walk_67 (lv_at hl 0 rfl) ?_
      refine lv_iadd hx hb dX3_walk_69 ?_
      refine k_iast (wC q a ((up (up (ptM ((wkF S h x).2.2) (((wkF S h x).2.1) + (((wkF S h x).2.2) 6 x)) (((wkF S h x).2.2) 24 (h * 12 + x))) 9 (h * 12 + x) (ptV ((wkF S h x).2.2) (((wkF S h x).2.1) + (((wkF S h x).2.2) 6 x)) (((wkF S h x).2.2) 24 (h * 12 + x)))) 8 (h * 12 + x) ((((wkF S h x).2.1) + (((wkF S h x).2.2) 6 x)) + (ptV ((wkF S h x).2.2) (((wkF S h x).2.1) + (((wkF S h x).2.2) 6 x)) (((wkF S h x).2.2) 24 (h * 12 + x)))))) cap nl) hx hb hK hP hS 8 rfl (h * 12 + x) rfl (by omega) (by decide) wC_s8 dX3_walk_70 (fun H locs hP hS => ?_)
      refine lv_iload_n hx hb dX3_walk_71 rfl (lv_at hl 6 rfl) ?_
      refine lv_aload_n hx hb dX3_walk_72 rfl (lv_at hl 3 rfl) ?_
      refine va_get (D := D) (ci := 4) (v := .ref (a 8)) (C := RX3) (T := TX3) (N := 5) hx hb hts in_X3_walk_X3 hown hK.1 hP.1 1 rfl rfl 2 (by decide) (hts _ fl_X3_walk_18) (fun _ h9 => h9) rfl dX3_walk_73 ?_
      refine lv_iload hx hb dX3_walk_76 (lv_at hl 2 rfl) ?_
      refine k_iald hx hb hK hP.1 8 rfl (h * 12 + x) rfl (by omega) (by decide) dX3_walk_78 ?_
      refine k_top (y := (((wkF S h x).2.1) + (((wkF S h x).2.2) 6 x)) + (ptV ((wkF S h x).2.2) (((wkF S h x).2.1) + (((wkF S h x).2.2) 6 x)) (((wkF S h x).2.2) 24 (h * 12 + x)))) (up_si _ _ _ _) ?_
      refine lv_iadd hx hb dX3_walk_79 ?_
      refine lv_istore_n (lv' := [(3, .int (((wkF S h x).1) + ((((wkF S h x).2.1) + (((wkF S h x).2.2) 6 x)) + (ptV ((wkF S h x).2.2) (((wkF S h x).2.1) + (((wkF S h x).2.2) 6 x)) (((wkF S h x).2.2) 24 (h * 12 + x)))))), (8, .int (ptV ((wkF S h x).2.2) (((wkF S h x).2.1) + (((wkF S h x).2.2) 6 x)) (((wkF S h x).2.2) 24 (h * 12 + x)))), (7, .int (((wkF S h x).2.1) + (((wkF S h x).2.2) 6 x))), (6, .int (nI (h * 12 + x))), (0, .ref (a 1)), (1, .int (nI h)), (2, .ref (a 3)), (4, .int ((wkF S h x).2.1)), (5, .int (nI x))]) hx hb dX3_walk_80 rfl hl (by decide) rfl (fun ls hl => ?_)
      refine lv_iload hx hb dX3_walk_81 (lv_at hl 2 rfl) ?_
      refine lv_iload hx hb dX3_walk_83 (lv_at hl 1 rfl) ?_
      refine lv_isub hx hb dX3_walk_85 ?_
      refine lv_istore (lv' := [(9, .int ((((wkF S h x).2.1) + (((wkF S h x).2.2) 6 x)) - (ptV ((wkF S h x).2.2) (((wkF S h x).2.1) + (((wkF S h x).2.2) 6 x)) (((wkF S h x).2.2) 24 (h * 12 + x))))), (3, .int (((wkF S h x).1) + ((((wkF S h x).2.1) + (((wkF S h x).2.2) 6 x)) + (ptV ((wkF S h x).2.2) (((wkF S h x).2.1) + (((wkF S h x).2.2) 6 x)) (((wkF S h x).2.2) 24 (h * 12 + x)))))), (8, .int (ptV ((wkF S h x).2.2) (((wkF S h x).2.1) + (((wkF S h x).2.2) 6 x)) (((wkF S h x).2.2) 24 (h * 12 + x)))), (7, .int (((wkF S h x).2.1) + (((wkF S h x).2.2) 6 x))), (6, .int (nI (h * 12 + x))), (0, .ref (a 1)), (1, .int (nI h)), (2, .ref (a 3)), (4, .int ((wkF S h x).2.1)), (5, .int (nI x))]) hx hb dX3_walk_86 hl (by decide) rfl (fun ls hl => ?_)
      refine lv_iload hx hb dX3_walk_88 (lv_at hl 0 rfl) ?_
      refine lv_iload hx hb dX3_walk_90 (lv_at hl 0 rfl) ?_
      refine lv_aload_n hx hb dX3_walk_92 rfl (lv_at hl 5 rfl) ?_
      refine va_get (D := D) (ci := 4) (v := .ref (a 7)) (C := RX3) (T := TX3) (N := 5) hx hb hts in_X3_walk_X3 hown hK.1 hP.1 1 rfl rfl 1 (by decide) (hts _ fl_X3_walk_15) (fun _ h9 => h9) rfl dX3_walk_93 ?_
      refine lv_iload hx hb dX3_walk_96 (lv_at hl 9 rfl) ?_
      refine k_iald hx hb hK hP.1 7 rfl x rfl (by omega) (by decide) dX3_walk_98 ?_
      refine k_top (y := (ptM ((wkF S h x).2.2) (((wkF S h x).2.1) + (((wkF S h x).2.2) 6 x)) (((wkF S h x).2.2) 24 (h * 12 + x))) 7 x) ((congrFun (up_n (by decide)) _).trans (congrFun (up_n (by decide)) _)) ?_
      refine lv_imul hx hb dX3_walk_99 ?_
      refine lv_bipush (v := nI 100) hx hb dX3_walk_100 (by decide) ?_
      refine lv_idiv hx hb dX3_walk_102 (by decide) ?_
      refine lv_isub hx hb dX3_walk_103 ?_
      refine lv_istore (lv' := [(4, .int (((((wkF S h x).2.1) + (((wkF S h x).2.2) 6 x)) - (ptV ((wkF S h x).2.2) (((wkF S h x).2.1) + (((wkF S h x).2.2) 6 x)) (((wkF S h x).2.2) 24 (h * 12 + x)))) - ((((((wkF S h x).2.1) + (((wkF S h x).2.2) 6 x)) - (ptV ((wkF S h x).2.2) (((wkF S h x).2.1) + (((wkF S h x).2.2) 6 x)) (((wkF S h x).2.2) 24 (h * 12 + x)))) * ((ptM ((wkF S h x).2.2) (((wkF S h x).2.1) + (((wkF S h x).2.2) 6 x)) (((wkF S h x).2.2) 24 (h * 12 + x))) 7 x)) / (nI 100)))), (9, .int ((((wkF S h x).2.1) + (((wkF S h x).2.2) 6 x)) - (ptV ((wkF S h x).2.2) (((wkF S h x).2.1) + (((wkF S h x).2.2) 6 x)) (((wkF S h x).2.2) 24 (h * 12 + x))))), (3, .int (((wkF S h x).1) + ((((wkF S h x).2.1) + (((wkF S h x).2.2) 6 x)) + (ptV ((wkF S h x).2.2) (((wkF S h x).2.1) + (((wkF S h x).2.2) 6 x)) (((wkF S h x).2.2) 24 (h * 12 + x)))))), (8, .int (ptV ((wkF S h x).2.2) (((wkF S h x).2.1) + (((wkF S h x).2.2) 6 x)) (((wkF S h x).2.2) 24 (h * 12 + x)))), (7, .int (((wkF S h x).2.1) + (((wkF S h x).2.2) 6 x))), (6, .int (nI (h * 12 + x))), (0, .ref (a 1)), (1, .int (nI h)), (2, .ref (a 3)), (5, .int (nI x))]) hx hb dX3_walk_104 hl (by decide) rfl (fun ls hl => ?_)
      refine lv_iinc (v := nI (x + 1)) (lv' := [(5, .int (nI (x + 1))), (4, .int (((((wkF S h x).2.1) + (((wkF S h x).2.2) 6 x)) - (ptV ((wkF S h x).2.2) (((wkF S h x).2.1) + (((wkF S h x).2.2) 6 x)) (((wkF S h x).2.2) 24 (h * 12 + x)))) - ((((((wkF S h x).2.1) + (((wkF S h x).2.2) 6 x)) - (ptV ((wkF S h x).2.2) (((wkF S h x).2.1) + (((wkF S h x).2.2) 6 x)) (((wkF S h x).2.2) 24 (h * 12 + x)))) * ((ptM ((wkF S h x).2.2) (((wkF S h x).2.1) + (((wkF S h x).2.2) 6 x)) (((wkF S h x).2.2) 24 (h * 12 + x))) 7 x)) / (nI 100)))), (9, .int ((((wkF S h x).2.1) + (((wkF S h x).2.2) 6 x)) - (ptV ((wkF S h x).2.2) (((wkF S h x).2.1) + (((wkF S h x).2.2) 6 x)) (((wkF S h x).2.2) 24 (h * 12 + x))))), (3, .int (((wkF S h x).1) + ((((wkF S h x).2.1) + (((wkF S h x).2.2) 6 x)) + (ptV ((wkF S h x).2.2) (((wkF S h x).2.1) + (((wkF S h x).2.2) 6 x)) (((wkF S h x).2.2) 24 (h * 12 + x)))))), (8, .int (ptV ((wkF S h x).2.2) (((wkF S h x).2.1) + (((wkF S h x).2.2) 6 x)) (((wkF S h x).2.2) 24 (h * 12 + x)))), (7, .int (((wkF S h x).2.1) + (((wkF S h x).2.2) 6 x))), (6, .int (nI (h * 12 + x))), (0, .ref (a 1)), (1, .int (nI h)), (2, .ref (a 3))]) hx hb dX3_walk_106 hl (k := 9) rfl (k_iinc _) (by decide) rfl (fun ls hl => ?_)
      refine lv_goto (tgt := 8) hx hb dX3_walk_109 (by decide) ?_
      exact ih (x + 1) ((up (up (ptM ((wkF S h x).2.2) (((wkF S h x).2.1) + (((wkF S h x).2.2) 6 x)) (((wkF S h x).2.2) 24 (h * 12 + x))) 9 (h * 12 + x) (ptV ((wkF S h x).2.2) (((wkF S h x).2.1) + (((wkF S h x).2.2) 6 x)) (((wkF S h x).2.2) 24 (h * 12 + x)))) 8 (h * 12 + x) ((((wkF S h x).2.1) + (((wkF S h x).2.2) 6 x)) + (ptV ((wkF S h x).2.2) (((wkF S h x).2.1) + (((wkF S h x).2.2) 6 x)) (((wkF S h x).2.2) 24 (h * 12 + x)))))) (((wkF S h x).1) + ((((wkF S h x).2.1) + (((wkF S h x).2.2) 6 x)) + (ptV ((wkF S h x).2.2) (((wkF S h x).2.1) + (((wkF S h x).2.2) 6 x)) (((wkF S h x).2.2) 24 (h * 12 + x))))) (((((wkF S h x).2.1) + (((wkF S h x).2.2) 6 x)) - (ptV ((wkF S h x).2.2) (((wkF S h x).2.1) + (((wkF S h x).2.2) 6 x)) (((wkF S h x).2.2) 24 (h * 12 + x)))) - ((((((wkF S h x).2.1) + (((wkF S h x).2.2) 6 x)) - (ptV ((wkF S h x).2.2) (((wkF S h x).2.1) + (((wkF S h x).2.2) 6 x)) (((wkF S h x).2.2) 24 (h * 12 + x)))) * ((ptM ((wkF S h x).2.2) (((wkF S h x).2.1) + (((wkF S h x).2.2) 6 x)) (((wkF S h x).2.2) 24 (h * 12 + x))) 7 x)) / (nI 100))) (nI (x + 1)) (by omega) (by first | omega | assumption) (by rw [wkF_s]; rfl) (by rw [wkF_s]; rfl) (by rw [wkF_s]; rfl) rfl _ _ hP hS ls (lv_sub hl [7, 8, 9, 3, 1, 0] rfl)
set_option maxHeartbeats 4000000 in
set_option maxRecDepth 100000 in
theorem c_X3_walk (l : Launch) (D : va_G) (q : Nat → ClassId) (A : Nat → Prop) (a : Nat → Nat) (S : Nat → Nat → Int32) (cap nl : Nat) (h : Nat) (hh : h < 200) : Met l yX3_walk wsX3_walk ({ frames := 1, cells := 0, slots := 0, locals := 23 } : Room) (va_Pc [.ref (a 1), .int (nI h), .ref (a 3)] (kB D q (fun H => kW D A (wC q a S cap nl) H))) (kRi D A ((wkF S h 12).1) (wC q a (walkM S h) cap nl)) 0 0 A := by
  refine Met.ofW (cc := cX3_walk) (maxL := 10) (ret := (some .int)) (by decide) rfl ?_
  intro p e u m args below meth c s₁ B hml0 hv
  obtain ⟨rfl, hP, hK⟩ := hv
  have C0 : kAt p u m #[.ref (a 1), .int (nI h), .ref (a 3)] meth c cX3_walk 10 (some .int) RX3 wsX3_walk := kAt_of B hml0
  obtain ⟨hx, hb, hr, hml, hown, hts, hlocks⟩ := id C0
  have hS : va_S A u.heap u.heap [] := va_S.rf
  have hl := lv_entry ([.ref (a 1), .int (nI h), .ref (a 3)]) (n := 10) (Nat.le_of_ble_eq_true rfl)
  rw [lg_entry_eq]
  generalize (lg_sl ([.ref (a 1), .int (nI h), .ref (a 3)]) ++ List.replicate (10 - (lg_sl ([.ref (a 1), .int (nI h), .ref (a 3)])).length) Slot.unset).toArray = ls at hl ⊢
  have hl : lv_has ls 10 [(0, .ref (a 1)), (1, .int (nI h)), (2, .ref (a 3))] := hl
  refine lv_iconst (v := nI 0) hx hb dX3_walk_0 (by decide) ?_
  refine lv_istore_n (lv' := [(3, .int (nI 0)), (0, .ref (a 1)), (1, .int (nI h)), (2, .ref (a 3))]) hx hb dX3_walk_1 rfl hl (by decide) rfl (fun ls hl => ?_)
  refine lv_iconst (v := nI 0) hx hb dX3_walk_2 (by decide) ?_
  refine lv_istore (lv' := [(4, .int (nI 0)), (3, .int (nI 0)), (0, .ref (a 1)), (1, .int (nI h)), (2, .ref (a 3))]) hx hb dX3_walk_3 hl (by decide) rfl (fun ls hl => ?_)
  refine lv_iconst (v := nI 0) hx hb dX3_walk_5 (by decide) ?_
  refine lv_istore (lv' := [(5, .int (nI 0)), (4, .int (nI 0)), (3, .int (nI 0)), (0, .ref (a 1)), (1, .int (nI h)), (2, .ref (a 3))]) hx hb dX3_walk_6 hl (by decide) rfl (fun ls hl => ?_)
  exact lp_X3_walk_8 a S cap nl h hh C0 hK ((12 - 0) + 1) 0 S (nI 0) (nI 0) (nI 0) (by omega) (by first | omega | assumption) (by rfl) (by rfl) (by rfl) rfl _ _ hP hS ls (lv_sub hl [3, 4, 5, 2, 1, 0] rfl)
