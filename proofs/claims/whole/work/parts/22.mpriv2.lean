theorem fl_X5_rents_47 : Cond.fieldLink RX5 47 "LampCountsModel" "door" "[I" ∈ wsX5_rents := by decide +kernel
theorem fl_X5_rents_53 : Cond.fieldLink RX5 53 "LampCountsModel" "base" "[I" ∈ wsX5_rents := by decide +kernel
theorem fl_X5_rents_56 : Cond.fieldLink RX5 56 "LampCountsModel" "rate" "[I" ∈ wsX5_rents := by decide +kernel
theorem fl_X5_rents_59 : Cond.fieldLink RX5 59 "LampCountsModel" "first" "[I" ∈ wsX5_rents := by decide +kernel
theorem fl_X5_rents_62 : Cond.fieldLink RX5 62 "LampCountsModel" "end" "[I" ∈ wsX5_rents := by decide +kernel
theorem fl_X5_rents_103 : Cond.fieldLink RX5 103 "LampCountsModel" "now" "I" ∈ wsX5_rents := by decide +kernel
theorem in_X5_rents_X5 : ∀ w ∈ u_ws RX5 TX5 33, w ∈ wsX5_rents := by decide +kernel
set_option maxHeartbeats 4000000 in
set_option maxRecDepth 100000 in
theorem lp_X5_rents_9 {p : Program} {l : Launch} {e : Env} {u : State} {m : MethodId} {below : List Frame} {meth : Method} {c : Code} {D : va_G} {q : Nat → ClassId} (a : Nat → Nat) (S : Nat → Nat → Int32) (y n w0 nl : Nat) (hyl : y < nl) (hn : S 0 11 = nI n) (hn60 : n ≤ 60) (hot : okT S n) (hw : S 0 1 = nI w0) (hw200 : w0 ≤ 200) (hls : S 0 15 = nI nl) (hnl : nl ≤ 30) (hom : okM S nl) (C0 : kAt p u m #[.ref (a 0), .int (nI y)] meth c cX5_rents 4 (some .int) RX5 wsX5_rents) (hK : kK D q u) (hP : va_P D vwCl (wM q a S) u.heap) :
    ∀ (f : Nat) (j : Nat) (x2 : Int32) (x3 : Int32), min (ix S 21 y) w0 - ix S 20 y - j < f → j ≤ min (ix S 21 y) w0 - ix S 20 y → ix S 16 y < 36 ∧ ix S 20 y ≤ 200 ∧ ix S 21 y ≤ 300 → x2 = rtF S n y (ix S 16 y) (ix S 20 y) j → x3 = nI (ix S 20 y + j) → ∀ (ls : Array Slot), lv_has ls 4 [(0, .ref (a 0)), (1, .int (nI y)), (2, .int x2), (3, .int x3)] → W p l e ({ frames := 4, cells := 0, slots := 0, locals := 90 } : Room) u m #[.ref (a 0), .int (nI y)] below meth c u.heap [] 0 0 (MQ below (kSi (rnM S n w0 y)) #[.ref (a 0), .int (nI y)] u 0 0 (fun _ => False)) (F0 m 9 ls []) := by
  obtain ⟨hx, hb, hr, hml, hown, hts, hlocks⟩ := id C0
  intro f
  induction f with
  | zero =>
    intro j x2 x3 hf
    exact absurd hf (Nat.not_lt_zero _)
  | succ f ih =>
    intro j x2 x3 hf hj h3 e2 e3 ls hl
    replace e2 := e2.symm
    subst e2
    replace e3 := e3.symm
    subst e3
    refine lv_iload_n hx hb dX5_rents_9 rfl (lv_at hl 3 rfl) ?_
    refine lv_aload_n hx hb dX5_rents_10 rfl (lv_at hl 0 rfl) ?_
    refine va_get (D := D) (ci := 6) (v := .ref (a 21)) (C := RX5) (T := TX5) (N := 33) hx hb hts in_X5_rents_X5 hown hK.1 hP 0 rfl rfl 21 (by decide) (hts _ fl_X5_rents_62) (fun _ h9 => h9) rfl dX5_rents_11 ?_
    refine lv_iload_n hx hb dX5_rents_14 rfl (lv_at hl 1 rfl) ?_
    refine k_iald hx hb hK hP 18 rfl y rfl (by omega) (by decide) dX5_rents_15 ?_
    refine k_top (y := nI (ix S 21 y)) (hom y hyl).2.2.1 ?_
    refine k_icmp_ge (P := ix S 20 y + j < ix S 21 y) (tgt := 66) hx hb dX5_rents_16 (by decide) (nI_ltI (by omega) (by omega)) (fun c_1 => ?_) (fun c_1 => ?_)
    · skip
      refine lv_iload_n hx hb dX5_rents_66 rfl (lv_at hl 2 rfl) ?_
      exact k_iretS hx hb hr hlocks rfl rfl (by show _ = rtF S n y (ix S 16 y) (ix S 20 y) (min (ix S 21 y) w0 - ix S 20 y); rw [show min (ix S 21 y) w0 - ix S 20 y = j from by omega]) dX5_rents_67
    · skip
      refine lv_iload_n hx hb dX5_rents_19 rfl (lv_at hl 3 rfl) ?_
      refine lv_aload_n hx hb dX5_rents_20 rfl (lv_at hl 0 rfl) ?_
      refine va_get (D := D) (ci := 6) (v := .int (S 0 1)) (C := RX5) (T := TX5) (N := 33) hx hb hts in_X5_rents_X5 hown hK.1 hP 0 rfl rfl 1 (by decide) (hts _ fl_X5_rents_103) (fun _ h9 => h9) rfl dX5_rents_21 ?_
      refine k_top (y := nI w0) hw ?_
      refine k_icmp_ge (P := ix S 20 y + j < w0) (tgt := 66) hx hb dX5_rents_24 (by decide) (nI_ltI (by omega) (by omega)) (fun c_2 => ?_) (fun c_2 => ?_)
      · skip
        refine lv_iload_n hx hb dX5_rents_66 rfl (lv_at hl 2 rfl) ?_
        exact k_iretS hx hb hr hlocks rfl rfl (by show _ = rtF S n y (ix S 16 y) (ix S 20 y) (min (ix S 21 y) w0 - ix S 20 y); rw [show min (ix S 21 y) w0 - ix S 20 y = j from by omega]) dX5_rents_67
      · skip
        refine lv_iload_n hx hb dX5_rents_27 rfl (lv_at hl 2 rfl) ?_
        refine lv_aload_n hx hb dX5_rents_28 rfl (lv_at hl 0 rfl) ?_
        refine va_get (D := D) (ci := 6) (v := .ref (a 18)) (C := RX5) (T := TX5) (N := 33) hx hb hts in_X5_rents_X5 hown hK.1 hP 0 rfl rfl 18 (by decide) (hts _ fl_X5_rents_53) (fun _ h9 => h9) rfl dX5_rents_29 ?_
        refine lv_iload_n hx hb dX5_rents_32 rfl (lv_at hl 1 rfl) ?_
        refine k_iald hx hb hK hP 15 rfl y rfl (by omega) (by decide) dX5_rents_33 ?_
        refine lv_aload_n hx hb dX5_rents_34 rfl (lv_at hl 0 rfl) ?_
        refine va_get (D := D) (ci := 6) (v := .ref (a 19)) (C := RX5) (T := TX5) (N := 33) hx hb hts in_X5_rents_X5 hown hK.1 hP 0 rfl rfl 19 (by decide) (hts _ fl_X5_rents_56) (fun _ h9 => h9) rfl dX5_rents_35 ?_
        refine lv_iload_n hx hb dX5_rents_38 rfl (lv_at hl 1 rfl) ?_
        refine k_iald hx hb hK hP 16 rfl y rfl (by omega) (by decide) dX5_rents_39 ?_
        refine lv_aload_n hx hb dX5_rents_40 rfl (lv_at hl 0 rfl) ?_
        refine lv_aload_n hx hb dX5_rents_41 rfl (lv_at hl 0 rfl) ?_
        refine va_get (D := D) (ci := 6) (v := .ref (a 16)) (C := RX5) (T := TX5) (N := 33) hx hb hts in_X5_rents_X5 hown hK.1 hP 0 rfl rfl 16 (by decide) (hts _ fl_X5_rents_47) (fun _ h9 => h9) rfl dX5_rents_42 ?_
        refine lv_iload_n hx hb dX5_rents_45 rfl (lv_at hl 1 rfl) ?_
        refine k_iald hx hb hK hP 13 rfl y rfl (by omega) (by decide) dX5_rents_46 ?_
        refine k_top (y := nI (ix S 16 y)) (hom y hyl).1.1 ?_
        refine lv_iconst (v := nI 3) hx hb dX5_rents_47 (by decide) ?_
        refine lv_idiv hx hb dX5_rents_48 (by decide) ?_
        refine k_top (y := nI (ix S 16 y / 3)) (pk_div (by omega) (by decide) (by decide)) ?_
        refine lv_iload_n hx hb dX5_rents_49 rfl (lv_at hl 3 rfl) ?_
        refine k_callV (rest := [.int (S 19 y), .int (S 18 y), .int (rtF S n y (ix S 16 y) (ix S 20 y) j)]) (r := coM S n (ix S 20 y + j) (ix S 16 y / 3)) ⟨hx, hb, hml, hown, hts⟩ (c_X5_countOf l D q a S (ix S 16 y / 3) (ix S 20 y + j) n (by omega) (by omega) hn hn60 hot) (cwV 2 hts gX5_rents_X5_countOf rfl rfl rfl (by decide +kernel) ⟨Nat.le_of_ble_eq_true rfl, Nat.le_of_ble_eq_true rfl⟩) hK hP (va_recv hK.1 hP (ci := 6) (q0 := 0) rfl rfl) rfl hl.1 rfl (Nat.le_of_ble_eq_true rfl) dX5_rents_50 ⟨Nat.zero_le _, Nat.zero_le _⟩ (fun _ h => h) ?_
        refine lv_imul hx hb dX5_rents_53 ?_
        refine lv_bipush (v := nI 100) hx hb dX5_rents_54 (by decide) ?_
        refine lv_idiv hx hb dX5_rents_56 (by decide) ?_
        refine lv_iadd hx hb dX5_rents_57 ?_
        refine lv_iadd hx hb dX5_rents_58 ?_
        refine lv_istore_n (lv' := [(2, .int ((rtF S n y (ix S 16 y) (ix S 20 y) j) + ((S 18 y) + (((S 19 y) * (coM S n (ix S 20 y + j) (ix S 16 y / 3))) / (nI 100))))), (0, .ref (a 0)), (1, .int (nI y)), (3, .int (nI (ix S 20 y + j)))]) hx hb dX5_rents_59 rfl hl (by decide) rfl (fun ls hl => ?_)
        refine lv_iinc (v := nI (ix S 20 y + j + 1)) (lv' := [(3, .int (nI (ix S 20 y + j + 1))), (2, .int ((rtF S n y (ix S 16 y) (ix S 20 y) j) + ((S 18 y) + (((S 19 y) * (coM S n (ix S 20 y + j) (ix S 16 y / 3))) / (nI 100))))), (0, .ref (a 0)), (1, .int (nI y))]) hx hb dX5_rents_60 hl (k := 3) rfl (k_iinc _) (by decide) rfl (fun ls hl => ?_)
        refine lv_goto (tgt := 9) hx hb dX5_rents_63 (by decide) ?_
        exact ih (j + 1) ((rtF S n y (ix S 16 y) (ix S 20 y) j) + ((S 18 y) + (((S 19 y) * (coM S n (ix S 20 y + j) (ix S 16 y / 3))) / (nI 100)))) (nI (ix S 20 y + j + 1)) (by omega) (by first | omega | assumption) (by first | omega | assumption)  (by rfl) (by rfl) ls (lv_sub hl [2, 3, 1, 0] rfl)
set_option maxHeartbeats 4000000 in
set_option maxRecDepth 100000 in
theorem c_X5_rents (l : Launch) (D : va_G) (q : Nat → ClassId) (a : Nat → Nat) (S : Nat → Nat → Int32) (y n w0 nl : Nat) (hyl : y < nl) (hn : S 0 11 = nI n) (hn60 : n ≤ 60) (hot : okT S n) (hw : S 0 1 = nI w0) (hw200 : w0 ≤ 200) (hls : S 0 15 = nI nl) (hnl : nl ≤ 30) (hom : okM S nl) : Met l yX5_rents wsX5_rents ({ frames := 4, cells := 0, slots := 0, locals := 90 } : Room) (va_Pc [.ref (a 0), .int (nI y)] (kB D q (fun H => va_P D vwCl (wM q a S) H))) (kSi (rnM S n w0 y)) 0 0 (fun _ => False) := by
  refine Met.ofW (cc := cX5_rents) (maxL := 4) (ret := (some .int)) (by decide) rfl ?_
  intro p e u m args below meth c s₁ B hml0 hv
  obtain ⟨rfl, hP, hK⟩ := hv
  have C0 : kAt p u m #[.ref (a 0), .int (nI y)] meth c cX5_rents 4 (some .int) RX5 wsX5_rents := kAt_of B hml0
  obtain ⟨hx, hb, hr, hml, hown, hts, hlocks⟩ := id C0
  have hl := lv_entry ([.ref (a 0), .int (nI y)]) (n := 4) (Nat.le_of_ble_eq_true rfl)
  rw [lg_entry_eq]
  generalize (lg_sl ([.ref (a 0), .int (nI y)]) ++ List.replicate (4 - (lg_sl ([.ref (a 0), .int (nI y)])).length) Slot.unset).toArray = ls at hl ⊢
  have hl : lv_has ls 4 [(0, .ref (a 0)), (1, .int (nI y))] := hl
  have h3 : ix S 16 y < 36 ∧ ix S 20 y ≤ 200 ∧ ix S 21 y ≤ 300 := ⟨(hom y hyl).1.2, (hom y hyl).2.1.2, (hom y hyl).2.2.2⟩
  refine lv_iconst (v := nI 0) hx hb dX5_rents_0 (by decide) ?_
  refine lv_istore_n (lv' := [(2, .int (nI 0)), (0, .ref (a 0)), (1, .int (nI y))]) hx hb dX5_rents_1 rfl hl (by decide) rfl (fun ls hl => ?_)
  refine lv_aload_n hx hb dX5_rents_2 rfl (lv_at hl 1 rfl) ?_
  refine va_get (D := D) (ci := 6) (v := .ref (a 20)) (C := RX5) (T := TX5) (N := 33) hx hb hts in_X5_rents_X5 hown hK.1 hP 0 rfl rfl 20 (by decide) (hts _ fl_X5_rents_59) (fun _ h9 => h9) rfl dX5_rents_3 ?_
  refine lv_iload_n hx hb dX5_rents_6 rfl (lv_at hl 2 rfl) ?_
  refine k_iald hx hb hK hP 17 rfl y rfl (by omega) (by decide) dX5_rents_7 ?_
  refine k_top (y := nI (ix S 20 y)) (hom y hyl).2.1.1 ?_
  refine lv_istore_n (lv' := [(3, .int (nI (ix S 20 y))), (2, .int (nI 0)), (0, .ref (a 0)), (1, .int (nI y))]) hx hb dX5_rents_8 rfl hl (by decide) rfl (fun ls hl => ?_)
  exact lp_X5_rents_9 a S y n w0 nl hyl hn hn60 hot hw hw200 hls hnl hom C0 hK hP ((min (ix S 21 y) w0 - ix S 20 y - 0) + 1) 0 (nI 0) (nI (ix S 20 y)) (by omega) (by first | omega | assumption) (by first | omega | assumption)  (by rfl) (by rfl) ls (lv_sub hl [2, 3, 1, 0] rfl)
theorem fl_X5_keeps_71 : Cond.fieldLink RX5 71 "LampCountsModel" "before" "[I" ∈ wsX5_keeps := by decide +kernel
theorem fl_X5_keeps_106 : Cond.fieldLink RX5 106 "LampCountsModel" "leases" "I" ∈ wsX5_keeps := by decide +kernel
theorem in_X5_keeps_X5 : ∀ w ∈ u_ws RX5 TX5 33, w ∈ wsX5_keeps := by decide +kernel
set_option maxHeartbeats 4000000 in
set_option maxRecDepth 100000 in
theorem lp_X5_keeps_2 {p : Program} {l : Launch} {e : Env} {u : State} {m : MethodId} {below : List Frame} {meth : Method} {c : Code} {D : va_G} {q : Nat → ClassId} {A : Nat → Prop} (a : Nat → Nat) (S : Nat → Nat → Int32) (n w0 nl : Nat) (hn : S 0 11 = nI n) (hn60 : n ≤ 60) (hot : okT S n) (hw : S 0 1 = nI w0) (hw200 : w0 ≤ 200) (hls : S 0 15 = nI nl) (hnl : nl ≤ 30) (hom : okM S nl) (C0 : kAt p u m #[.ref (a 0)] meth c cX5_keeps 2 none RX5 wsX5_keeps) (hK : kK D q u) :
    ∀ (f : Nat) (y : Nat) (T : Nat → Nat → Int32) (x1 : Int32), nl - y < f → y ≤ nl → T = kpM S n w0 y → x1 = nI y → ∀ (H : Heap) (locs : List Loc), kW D A (wM q a T) H → va_S A u.heap H locs → ∀ (ls : Array Slot), lv_has ls 2 [(0, .ref (a 0)), (1, .int x1)] → W p l e ({ frames := 5, cells := 0, slots := 0, locals := 113 } : Room) u m #[.ref (a 0)] below meth c H locs 0 0 (MQ below (kRv D A (wM q a (kpM S n w0 nl))) #[.ref (a 0)] u 0 0 A) (F0 m 2 ls []) := by
  obtain ⟨hx, hb, hr, hml, hown, hts, hlocks⟩ := id C0
  intro f
  induction f with
  | zero =>
    intro y T x1 hf
    exact absurd hf (Nat.not_lt_zero _)
  | succ f ih =>
    intro y T x1 hf hyl eT e1 H locs hP hS ls hl
    replace eT := eT.symm
    subst eT
    replace e1 := e1.symm
    subst e1
    refine lv_iload_n hx hb dX5_keeps_2 rfl (lv_at hl 1 rfl) ?_
    refine lv_aload_n hx hb dX5_keeps_3 rfl (lv_at hl 0 rfl) ?_
    refine va_get (D := D) (ci := 6) (v := .int ((kpM S n w0 y) 0 15)) (C := RX5) (T := TX5) (N := 33) hx hb hts in_X5_keeps_X5 hown hK.1 hP.1 0 rfl rfl 15 (by decide) (hts _ fl_X5_keeps_106) (fun _ h9 => h9) rfl dX5_keeps_4 ?_
    refine k_top (y := nI nl) ((congrFun (kpM_n (k := 0) (by decide) _) 15).trans hls) ?_
    refine k_icmp_ge (P := y < nl) (tgt := 27) hx hb dX5_keeps_7 (by decide) (nI_ltI (by omega) (by omega)) (fun c_1 => ?_) (fun c_1 => ?_)
    · skip
      have eM : kpM S n w0 y = kpM S n w0 nl := by rw [show y = nl from by omega]
      rw [eM] at hP
      exact k_vretW hx hb hr hlocks hP hS dX5_keeps_27
    · skip
      refine lv_aload_n hx hb dX5_keeps_10 rfl (lv_at hl 0 rfl) ?_
      refine va_get (D := D) (ci := 6) (v := .ref (a 24)) (C := RX5) (T := TX5) (N := 33) hx hb hts in_X5_keeps_X5 hown hK.1 hP.1 0 rfl rfl 24 (by decide) (hts _ fl_X5_keeps_71) (fun _ h9 => h9) rfl dX5_keeps_11 ?_
      refine lv_iload_n hx hb dX5_keeps_14 rfl (lv_at hl 1 rfl) ?_
      refine lv_aload_n hx hb dX5_keeps_15 rfl (lv_at hl 0 rfl) ?_
      refine lv_iload_n hx hb dX5_keeps_16 rfl (lv_at hl 1 rfl) ?_
      refine k_callV (rest := [.int (nI y), .ref (a 24)]) (r := rnM (kpM S n w0 y) n w0 y) ⟨hx, hb, hml, hown, hts⟩ (c_X5_rents l D q a (kpM S n w0 y) y n w0 nl (by omega) ((congrFun (kpM_n (k := 0) (by decide) _) 11).trans hn) hn60 (okT_congr (kpM_n (k := 14) (by decide) _) hot) ((congrFun (kpM_n (k := 0) (by decide) _) 1).trans hw) hw200 ((congrFun (kpM_n (k := 0) (by decide) _) 15).trans hls) hnl (okM_congr (kpM_n (k := 16) (by decide) _) (kpM_n (k := 20) (by decide) _) (kpM_n (k := 21) (by decide) _) hom)) (cwV 1 hts gX5_keeps_X5_rents rfl rfl rfl (by decide +kernel) ⟨Nat.le_of_ble_eq_true rfl, Nat.le_of_ble_eq_true rfl⟩) hK hP.1 (va_recv hK.1 hP.1 (ci := 6) (q0 := 0) rfl rfl) rfl hl.1 rfl (Nat.le_of_ble_eq_true rfl) dX5_keeps_17 ⟨Nat.zero_le _, Nat.zero_le _⟩ (fun _ h => h) ?_
      refine k_iast (wM q a ((up (kpM S n w0 y) 24 y (rnM (kpM S n w0 y) n w0 y)))) hx hb hK hP hS 21 rfl y rfl (by omega) (by decide) wM_s21 dX5_keeps_20 (fun H locs hP hS => ?_)
      refine lv_iinc (v := nI (y + 1)) (lv' := [(1, .int (nI (y + 1))), (0, .ref (a 0))]) hx hb dX5_keeps_21 hl (k := 1) rfl (k_iinc _) (by decide) rfl (fun ls hl => ?_)
      refine lv_goto (tgt := 2) hx hb dX5_keeps_24 (by decide) ?_
      exact ih (y + 1) ((up (kpM S n w0 y) 24 y (rnM (kpM S n w0 y) n w0 y))) (nI (y + 1)) (by omega) (by first | omega | assumption) (by rfl) rfl _ _ hP hS ls (lv_sub hl [1, 0] rfl)
set_option maxHeartbeats 4000000 in
set_option maxRecDepth 100000 in
theorem c_X5_keeps (l : Launch) (D : va_G) (q : Nat → ClassId) (A : Nat → Prop) (a : Nat → Nat) (S : Nat → Nat → Int32) (n w0 nl : Nat) (hn : S 0 11 = nI n) (hn60 : n ≤ 60) (hot : okT S n) (hw : S 0 1 = nI w0) (hw200 : w0 ≤ 200) (hls : S 0 15 = nI nl) (hnl : nl ≤ 30) (hom : okM S nl) : Met l yX5_keeps wsX5_keeps ({ frames := 5, cells := 0, slots := 0, locals := 113 } : Room) (va_Pc [.ref (a 0)] (kB D q (fun H => kW D A (wM q a S) H))) (kRv D A (wM q a (kpM S n w0 nl))) 0 0 A := by
  refine Met.ofW (cc := cX5_keeps) (maxL := 2) (ret := none) (by decide) rfl ?_
  intro p e u m args below meth c s₁ B hml0 hv
  obtain ⟨rfl, hP, hK⟩ := hv
  have C0 : kAt p u m #[.ref (a 0)] meth c cX5_keeps 2 none RX5 wsX5_keeps := kAt_of B hml0
  obtain ⟨hx, hb, hr, hml, hown, hts, hlocks⟩ := id C0
  have hS : va_S A u.heap u.heap [] := va_S.rf
  have hl := lv_entry ([.ref (a 0)]) (n := 2) (Nat.le_of_ble_eq_true rfl)
  rw [lg_entry_eq]
  generalize (lg_sl ([.ref (a 0)]) ++ List.replicate (2 - (lg_sl ([.ref (a 0)])).length) Slot.unset).toArray = ls at hl ⊢
  have hl : lv_has ls 2 [(0, .ref (a 0))] := hl
  refine lv_iconst (v := nI 0) hx hb dX5_keeps_0 (by decide) ?_
  refine lv_istore_n (lv' := [(1, .int (nI 0)), (0, .ref (a 0))]) hx hb dX5_keeps_1 rfl hl (by decide) rfl (fun ls hl => ?_)
  exact lp_X5_keeps_2 a S n w0 nl hn hn60 hot hw hw200 hls hnl hom C0 hK ((nl - 0) + 1) 0 S (nI 0) (by omega) (by first | omega | assumption) (by rfl) rfl _ _ hP hS ls (lv_sub hl [1, 0] rfl)
theorem fl_X5_corrects_68 : Cond.fieldLink RX5 68 "LampCountsModel" "corrections" "[I" ∈ wsX5_corrects := by decide +kernel
theorem fl_X5_corrects_71 : Cond.fieldLink RX5 71 "LampCountsModel" "before" "[I" ∈ wsX5_corrects := by decide +kernel
theorem fl_X5_corrects_106 : Cond.fieldLink RX5 106 "LampCountsModel" "leases" "I" ∈ wsX5_corrects := by decide +kernel
theorem in_X5_corrects_X5 : ∀ w ∈ u_ws RX5 TX5 33, w ∈ wsX5_corrects := by decide +kernel
set_option maxHeartbeats 4000000 in
set_option maxRecDepth 100000 in
theorem lp_X5_corrects_4 {p : Program} {l : Launch} {e : Env} {u : State} {m : MethodId} {below : List Frame} {meth : Method} {c : Code} {D : va_G} {q : Nat → ClassId} {A : Nat → Prop} (a : Nat → Nat) (S : Nat → Nat → Int32) (n w0 nl : Nat) (hn : S 0 11 = nI n) (hn60 : n ≤ 60) (hot : okT S n) (hw : S 0 1 = nI w0) (hw200 : w0 ≤ 200) (hls : S 0 15 = nI nl) (hnl : nl ≤ 30) (hom : okM S nl) (C0 : kAt p u m #[.ref (a 0)] meth c cX5_corrects 4 (some .int) RX5 wsX5_corrects) (hK : kK D q u) :
    ∀ (f : Nat) (y : Nat) (T : Nat → Nat → Int32) (x1 : Int32) (x2 : Int32), nl - y < f → y ≤ nl → T = (coF S n w0 y).2 → x1 = (coF S n w0 y).1 → x2 = nI y → ∀ (H : Heap) (locs : List Loc), kW D A (wM q a T) H → va_S A u.heap H locs → ∀ (ls : Array Slot), lv_has ls 4 [(0, .ref (a 0)), (1, .int x1), (2, .int x2)] → W p l e ({ frames := 5, cells := 0, slots := 0, locals := 113 } : Room) u m #[.ref (a 0)] below meth c H locs 0 0 (MQ below (kRi D A ((coF S n w0 nl).1) (wM q a ((coF S n w0 nl).2))) #[.ref (a 0)] u 0 0 A) (F0 m 4 ls []) := by
  obtain ⟨hx, hb, hr, hml, hown, hts, hlocks⟩ := id C0
  intro f
  induction f with
  | zero =>
    intro y T x1 x2 hf
    exact absurd hf (Nat.not_lt_zero _)
  | succ f ih =>
    intro y T x1 x2 hf hyl eT e1 e2 H locs hP hS ls hl
    replace eT := eT.symm
    subst eT
    replace e1 := e1.symm
    subst e1
    replace e2 := e2.symm
    subst e2
    refine lv_iload_n hx hb dX5_corrects_4 rfl (lv_at hl 2 rfl) ?_
    refine lv_aload_n hx hb dX5_corrects_5 rfl (lv_at hl 0 rfl) ?_
    refine va_get (D := D) (ci := 6) (v := .int (((coF S n w0 y).2) 0 15)) (C := RX5) (T := TX5) (N := 33) hx hb hts in_X5_corrects_X5 hown hK.1 hP.1 0 rfl rfl 15 (by decide) (hts _ fl_X5_corrects_106) (fun _ h9 => h9) rfl dX5_corrects_6 ?_
    refine k_top (y := nI nl) ((congrFun (coF_n (k := 0) (by decide) _) 15).trans hls) ?_
    refine k_icmp_ge (P := y < nl) (tgt := 45) hx hb dX5_corrects_9 (by decide) (nI_ltI (by omega) (by omega)) (fun c_1 => ?_) (fun c_1 => ?_)
    · skip
      refine lv_iload_n hx hb dX5_corrects_45 rfl (lv_at hl 1 rfl) ?_
      have eM : (coF S n w0 y).2 = (coF S n w0 nl).2 := by rw [show y = nl from by omega]
      rw [eM] at hP
      exact k_iretW hx hb hr hlocks hP hS (by rw [show y = nl from by omega]) dX5_corrects_46
    · skip
      refine lv_aload_n hx hb dX5_corrects_12 rfl (lv_at hl 0 rfl) ?_
      refine lv_iload_n hx hb dX5_corrects_13 rfl (lv_at hl 2 rfl) ?_
      refine k_callV (rest := []) (r := rnM ((coF S n w0 y).2) n w0 y) ⟨hx, hb, hml, hown, hts⟩ (c_X5_rents l D q a ((coF S n w0 y).2) y n w0 nl (by omega) ((congrFun (coF_n (k := 0) (by decide) _) 11).trans hn) hn60 (okT_congr (coF_n (k := 14) (by decide) _) hot) ((congrFun (coF_n (k := 0) (by decide) _) 1).trans hw) hw200 ((congrFun (coF_n (k := 0) (by decide) _) 15).trans hls) hnl (okM_congr (coF_n (k := 16) (by decide) _) (coF_n (k := 20) (by decide) _) (coF_n (k := 21) (by decide) _) hom)) (cwV 1 hts gX5_corrects_X5_rents rfl rfl rfl (by decide +kernel) ⟨Nat.le_of_ble_eq_true rfl, Nat.le_of_ble_eq_true rfl⟩) hK hP.1 (va_recv hK.1 hP.1 (ci := 6) (q0 := 0) rfl rfl) rfl hl.1 rfl (Nat.le_of_ble_eq_true rfl) dX5_corrects_14 ⟨Nat.zero_le _, Nat.zero_le _⟩ (fun _ h => h) ?_
      refine lv_aload_n hx hb dX5_corrects_17 rfl (lv_at hl 0 rfl) ?_
      refine va_get (D := D) (ci := 6) (v := .ref (a 24)) (C := RX5) (T := TX5) (N := 33) hx hb hts in_X5_corrects_X5 hown hK.1 hP.1 0 rfl rfl 24 (by decide) (hts _ fl_X5_corrects_71) (fun _ h9 => h9) rfl dX5_corrects_18 ?_
      refine lv_iload_n hx hb dX5_corrects_21 rfl (lv_at hl 2 rfl) ?_
      refine k_iald hx hb hK hP.1 21 rfl y rfl (by omega) (by decide) dX5_corrects_22 ?_
      refine lv_isub hx hb dX5_corrects_23 ?_
      refine lv_istore_n (lv' := [(3, .int ((rnM ((coF S n w0 y).2) n w0 y) - (((coF S n w0 y).2) 24 y))), (0, .ref (a 0)), (1, .int ((coF S n w0 y).1)), (2, .int (nI y))]) hx hb dX5_corrects_24 rfl hl (by decide) rfl (fun ls hl => ?_)
      refine lv_aload_n hx hb dX5_corrects_25 rfl (lv_at hl 1 rfl) ?_
      refine va_get (D := D) (ci := 6) (v := .ref (a 23)) (C := RX5) (T := TX5) (N := 33) hx hb hts in_X5_corrects_X5 hown hK.1 hP.1 0 rfl rfl 23 (by decide) (hts _ fl_X5_corrects_68) (fun _ h9 => h9) rfl dX5_corrects_26 ?_
      refine lv_iload_n hx hb dX5_corrects_29 rfl (lv_at hl 3 rfl) ?_
      refine lv_dup2_11 hx hb dX5_corrects_30 rfl rfl ?_
      refine k_iald hx hb hK hP.1 20 rfl y rfl (by omega) (by decide) dX5_corrects_31 ?_
      refine lv_iload_n hx hb dX5_corrects_32 rfl (lv_at hl 0 rfl) ?_
      refine lv_iadd hx hb dX5_corrects_33 ?_
      refine k_iast (wM q a ((up ((coF S n w0 y).2) 23 y ((((coF S n w0 y).2) 23 y) + ((rnM ((coF S n w0 y).2) n w0 y) - (((coF S n w0 y).2) 24 y)))))) hx hb hK hP hS 20 rfl y rfl (by omega) (by decide) wM_s20 dX5_corrects_34 (fun H locs hP hS => ?_)
      refine lv_iload_n hx hb dX5_corrects_35 rfl (lv_at hl 2 rfl) ?_
      refine lv_iload_n hx hb dX5_corrects_36 rfl (lv_at hl 0 rfl) ?_
      refine lv_iadd hx hb dX5_corrects_37 ?_
      refine lv_istore_n (lv' := [(1, .int (((coF S n w0 y).1) + ((rnM ((coF S n w0 y).2) n w0 y) - (((coF S n w0 y).2) 24 y)))), (3, .int ((rnM ((coF S n w0 y).2) n w0 y) - (((coF S n w0 y).2) 24 y))), (0, .ref (a 0)), (2, .int (nI y))]) hx hb dX5_corrects_38 rfl hl (by decide) rfl (fun ls hl => ?_)
      refine lv_iinc (v := nI (y + 1)) (lv' := [(2, .int (nI (y + 1))), (1, .int (((coF S n w0 y).1) + ((rnM ((coF S n w0 y).2) n w0 y) - (((coF S n w0 y).2) 24 y)))), (3, .int ((rnM ((coF S n w0 y).2) n w0 y) - (((coF S n w0 y).2) 24 y))), (0, .ref (a 0))]) hx hb dX5_corrects_39 hl (k := 3) rfl (k_iinc _) (by decide) rfl (fun ls hl => ?_)
      refine lv_goto (tgt := 4) hx hb dX5_corrects_42 (by decide) ?_
      exact ih (y + 1) ((up ((coF S n w0 y).2) 23 y ((((coF S n w0 y).2) 23 y) + ((rnM ((coF S n w0 y).2) n w0 y) - (((coF S n w0 y).2) 24 y))))) (((coF S n w0 y).1) + ((rnM ((coF S n w0 y).2) n w0 y) - (((coF S n w0 y).2) 24 y))) (nI (y + 1)) (by omega) (by first | omega | assumption) (by rfl) (by rfl) rfl _ _ hP hS ls (lv_sub hl [3, 1, 0] rfl)
set_option maxHeartbeats 4000000 in
set_option maxRecDepth 100000 in
theorem c_X5_corrects (l : Launch) (D : va_G) (q : Nat → ClassId) (A : Nat → Prop) (a : Nat → Nat) (S : Nat → Nat → Int32) (n w0 nl : Nat) (hn : S 0 11 = nI n) (hn60 : n ≤ 60) (hot : okT S n) (hw : S 0 1 = nI w0) (hw200 : w0 ≤ 200) (hls : S 0 15 = nI nl) (hnl : nl ≤ 30) (hom : okM S nl) : Met l yX5_corrects wsX5_corrects ({ frames := 5, cells := 0, slots := 0, locals := 113 } : Room) (va_Pc [.ref (a 0)] (kB D q (fun H => kW D A (wM q a S) H))) (kRi D A ((coF S n w0 nl).1) (wM q a ((coF S n w0 nl).2))) 0 0 A := by
  refine Met.ofW (cc := cX5_corrects) (maxL := 4) (ret := (some .int)) (by decide) rfl ?_
  intro p e u m args below meth c s₁ B hml0 hv
  obtain ⟨rfl, hP, hK⟩ := hv
  have C0 : kAt p u m #[.ref (a 0)] meth c cX5_corrects 4 (some .int) RX5 wsX5_corrects := kAt_of B hml0
  obtain ⟨hx, hb, hr, hml, hown, hts, hlocks⟩ := id C0
  have hS : va_S A u.heap u.heap [] := va_S.rf
  have hl := lv_entry ([.ref (a 0)]) (n := 4) (Nat.le_of_ble_eq_true rfl)
  rw [lg_entry_eq]
  generalize (lg_sl ([.ref (a 0)]) ++ List.replicate (4 - (lg_sl ([.ref (a 0)])).length) Slot.unset).toArray = ls at hl ⊢
  have hl : lv_has ls 4 [(0, .ref (a 0))] := hl
  refine lv_iconst (v := nI 0) hx hb dX5_corrects_0 (by decide) ?_
  refine lv_istore_n (lv' := [(1, .int (nI 0)), (0, .ref (a 0))]) hx hb dX5_corrects_1 rfl hl (by decide) rfl (fun ls hl => ?_)
  refine lv_iconst (v := nI 0) hx hb dX5_corrects_2 (by decide) ?_
  refine lv_istore_n (lv' := [(2, .int (nI 0)), (1, .int (nI 0)), (0, .ref (a 0))]) hx hb dX5_corrects_3 rfl hl (by decide) rfl (fun ls hl => ?_)
  exact lp_X5_corrects_4 a S n w0 nl hn hn60 hot hw hw200 hls hnl hom C0 hK ((nl - 0) + 1) 0 S (nI 0) (nI 0) (by omega) (by first | omega | assumption) (by rfl) (by rfl) rfl _ _ hP hS ls (lv_sub hl [2, 1, 0] rfl)
theorem fl_X5_isFree_47 : Cond.fieldLink RX5 47 "LampCountsModel" "door" "[I" ∈ wsX5_isFree := by decide +kernel
theorem fl_X5_isFree_59 : Cond.fieldLink RX5 59 "LampCountsModel" "first" "[I" ∈ wsX5_isFree := by decide +kernel
theorem fl_X5_isFree_62 : Cond.fieldLink RX5 62 "LampCountsModel" "end" "[I" ∈ wsX5_isFree := by decide +kernel
theorem fl_X5_isFree_106 : Cond.fieldLink RX5 106 "LampCountsModel" "leases" "I" ∈ wsX5_isFree := by decide +kernel
theorem in_X5_isFree_X5 : ∀ w ∈ u_ws RX5 TX5 33, w ∈ wsX5_isFree := by decide +kernel
set_option maxHeartbeats 4000000 in
set_option maxRecDepth 100000 in
theorem lp_X5_isFree_6 {p : Program} {l : Launch} {e : Env} {u : State} {m : MethodId} {below : List Frame} {meth : Method} {c : Code} {D : va_G} {q : Nat → ClassId} (a : Nat → Nat) (S : Nat → Nat → Int32) (d0 fr to : Int32) (nl : Nat) (hls : S 0 15 = nI nl) (hnl : nl ≤ 30) (C0 : kAt p u m #[.ref (a 0), .int (d0), .int (fr), .int (to)] meth c cX5_isFree 6 (some .boolean) RX5 wsX5_isFree) (hK : kK D q u) (hP : va_P D vwCl (wM q a S) u.heap) :
    ∀ (f : Nat) (y : Nat) (x4 : Int32) (x5 : Int32), nl - y < f → y ≤ nl → x4 = bI (frF S d0 fr to y = true) → x5 = nI y → ∀ (ls : Array Slot), lv_has ls 6 [(0, .ref (a 0)), (1, .int (d0)), (2, .int (fr)), (3, .int (to)), (4, .int x4), (5, .int x5)] → W p l e ({ frames := 0, cells := 0, slots := 0, locals := 0 } : Room) u m #[.ref (a 0), .int (d0), .int (fr), .int (to)] below meth c u.heap [] 0 0 (MQ below (kSi (bI (frF S d0 fr to nl = true))) #[.ref (a 0), .int (d0), .int (fr), .int (to)] u 0 0 (fun _ => False)) (F0 m 6 ls []) := by
  obtain ⟨hx, hb, hr, hml, hown, hts, hlocks⟩ := id C0
  intro f
  induction f with
  | zero =>
    intro y x4 x5 hf
    exact absurd hf (Nat.not_lt_zero _)
  | succ f ih =>
    intro y x4 x5 hf hyl e4 e5 ls hl
    replace e4 := e4.symm
    subst e4
    replace e5 := e5.symm
    subst e5
    refine lv_iload hx hb dX5_isFree_6 (lv_at hl 5 rfl) ?_
    refine lv_aload_n hx hb dX5_isFree_8 rfl (lv_at hl 0 rfl) ?_
    refine va_get (D := D) (ci := 6) (v := .int (S 0 15)) (C := RX5) (T := TX5) (N := 33) hx hb hts in_X5_isFree_X5 hown hK.1 hP 0 rfl rfl 15 (by decide) (hts _ fl_X5_isFree_106) (fun _ h9 => h9) rfl dX5_isFree_9 ?_
    refine k_top (y := nI nl) hls ?_
    refine k_icmp_ge (P := y < nl) (tgt := 66) hx hb dX5_isFree_12 (by decide) (nI_ltI (by omega) (by omega)) (fun c_1 => ?_) (fun c_1 => ?_)
    · skip
      refine lv_iload hx hb dX5_isFree_66 (lv_at hl 4 rfl) ?_
      exact k_zretS hx hb hr hlocks bI_nar rfl rfl (by rw [show y = nl from by omega]) dX5_isFree_68
    · skip
      refine lv_iload hx hb dX5_isFree_15 (lv_at hl 4 rfl) ?_
      refine k_if_eq (P := ¬ (frF S d0 fr to y = true)) (tgt := 57) hx hb dX5_isFree_17 (by decide) bI_0 (fun c_2 => ?_) (fun c_2 => ?_)
      · skip
        refine lv_iconst (v := nI 0) hx hb dX5_isFree_57 (by decide) ?_
        refine lv_istore (lv' := [(4, .int (nI 0)), (0, .ref (a 0)), (1, .int (d0)), (2, .int (fr)), (3, .int (to)), (5, .int (nI y))]) hx hb dX5_isFree_58 hl (by decide) rfl (fun ls hl => ?_)
        refine lv_iinc (v := nI (y + 1)) (lv' := [(5, .int (nI (y + 1))), (4, .int (nI 0)), (0, .ref (a 0)), (1, .int (d0)), (2, .int (fr)), (3, .int (to))]) hx hb dX5_isFree_60 hl (k := 5) rfl (k_iinc _) (by decide) rfl (fun ls hl => ?_)
        refine lv_goto (tgt := 6) hx hb dX5_isFree_63 (by decide) ?_
        exact ih (y + 1) (nI 0) (nI (y + 1)) (by omega) (by first | omega | assumption)  (by exact (bI_f (by simp [frF, if_neg c_2])).symm) rfl ls (lv_sub hl [2, 3, 4, 5, 1, 0] rfl)
      · skip
        have c_2 : frF S d0 fr to y = true := Classical.not_not.mp c_2
        refine lv_aload_n hx hb dX5_isFree_20 rfl (lv_at hl 0 rfl) ?_
        refine va_get (D := D) (ci := 6) (v := .ref (a 16)) (C := RX5) (T := TX5) (N := 33) hx hb hts in_X5_isFree_X5 hown hK.1 hP 0 rfl rfl 16 (by decide) (hts _ fl_X5_isFree_47) (fun _ h9 => h9) rfl dX5_isFree_21 ?_
        refine lv_iload hx hb dX5_isFree_24 (lv_at hl 5 rfl) ?_
        refine k_iald hx hb hK hP 13 rfl y rfl (by omega) (by decide) dX5_isFree_26 ?_
        refine lv_iload_n hx hb dX5_isFree_27 rfl (lv_at hl 1 rfl) ?_
        refine k_icmp_ne (P := S 16 y = d0) (tgt := 53) hx hb dX5_isFree_28 (by decide) Iff.rfl (fun c_3 => ?_) (fun c_3 => ?_)
        · skip
          refine lv_iconst (v := nI 1) hx hb dX5_isFree_53 (by decide) ?_
          refine lv_goto (tgt := 58) hx hb dX5_isFree_54 (by decide) ?_
          refine lv_istore (lv' := [(4, .int (nI 1)), (0, .ref (a 0)), (1, .int (d0)), (2, .int (fr)), (3, .int (to)), (5, .int (nI y))]) hx hb dX5_isFree_58 hl (by decide) rfl (fun ls hl => ?_)
          refine lv_iinc (v := nI (y + 1)) (lv' := [(5, .int (nI (y + 1))), (4, .int (nI 1)), (0, .ref (a 0)), (1, .int (d0)), (2, .int (fr)), (3, .int (to))]) hx hb dX5_isFree_60 hl (k := 5) rfl (k_iinc _) (by decide) rfl (fun ls hl => ?_)
          refine lv_goto (tgt := 6) hx hb dX5_isFree_63 (by decide) ?_
          exact ih (y + 1) (nI 1) (nI (y + 1)) (by omega) (by first | omega | assumption)  (by exact (bI_t (by simp only [frF, if_pos c_2, if_neg c_3])).symm) rfl ls (lv_sub hl [2, 3, 4, 5, 1, 0] rfl)
        · skip
          refine lv_aload_n hx hb dX5_isFree_31 rfl (lv_at hl 0 rfl) ?_
          refine va_get (D := D) (ci := 6) (v := .ref (a 20)) (C := RX5) (T := TX5) (N := 33) hx hb hts in_X5_isFree_X5 hown hK.1 hP 0 rfl rfl 20 (by decide) (hts _ fl_X5_isFree_59) (fun _ h9 => h9) rfl dX5_isFree_32 ?_
          refine lv_iload hx hb dX5_isFree_35 (lv_at hl 5 rfl) ?_
          refine k_iald hx hb hK hP 17 rfl y rfl (by omega) (by decide) dX5_isFree_37 ?_
          refine lv_iload_n hx hb dX5_isFree_38 rfl (lv_at hl 3 rfl) ?_
          refine k_icmp_ge (P := S 20 y < to) (tgt := 53) hx hb dX5_isFree_39 (by decide) Iff.rfl (fun c_4 => ?_) (fun c_4 => ?_)
          · skip
            refine lv_iconst (v := nI 1) hx hb dX5_isFree_53 (by decide) ?_
            refine lv_goto (tgt := 58) hx hb dX5_isFree_54 (by decide) ?_
            refine lv_istore (lv' := [(4, .int (nI 1)), (0, .ref (a 0)), (1, .int (d0)), (2, .int (fr)), (3, .int (to)), (5, .int (nI y))]) hx hb dX5_isFree_58 hl (by decide) rfl (fun ls hl => ?_)
            refine lv_iinc (v := nI (y + 1)) (lv' := [(5, .int (nI (y + 1))), (4, .int (nI 1)), (0, .ref (a 0)), (1, .int (d0)), (2, .int (fr)), (3, .int (to))]) hx hb dX5_isFree_60 hl (k := 5) rfl (k_iinc _) (by decide) rfl (fun ls hl => ?_)
            refine lv_goto (tgt := 6) hx hb dX5_isFree_63 (by decide) ?_
            exact ih (y + 1) (nI 1) (nI (y + 1)) (by omega) (by first | omega | assumption)  (by exact (bI_t (by simp only [frF, if_pos c_2, if_pos c_3, if_neg c_4])).symm) rfl ls (lv_sub hl [2, 3, 4, 5, 1, 0] rfl)
          · skip
            refine lv_aload_n hx hb dX5_isFree_42 rfl (lv_at hl 0 rfl) ?_
            refine va_get (D := D) (ci := 6) (v := .ref (a 21)) (C := RX5) (T := TX5) (N := 33) hx hb hts in_X5_isFree_X5 hown hK.1 hP 0 rfl rfl 21 (by decide) (hts _ fl_X5_isFree_62) (fun _ h9 => h9) rfl dX5_isFree_43 ?_
            refine lv_iload hx hb dX5_isFree_46 (lv_at hl 5 rfl) ?_
            refine k_iald hx hb hK hP 18 rfl y rfl (by omega) (by decide) dX5_isFree_48 ?_
            refine lv_iload_n hx hb dX5_isFree_49 rfl (lv_at hl 2 rfl) ?_
            refine k_icmp_gt (P := S 21 y ≤ fr) (tgt := 57) hx hb dX5_isFree_50 (by decide) Iff.rfl (fun c_5 => ?_) (fun c_5 => ?_)
            · skip
              refine lv_iconst (v := nI 0) hx hb dX5_isFree_57 (by decide) ?_
              refine lv_istore (lv' := [(4, .int (nI 0)), (0, .ref (a 0)), (1, .int (d0)), (2, .int (fr)), (3, .int (to)), (5, .int (nI y))]) hx hb dX5_isFree_58 hl (by decide) rfl (fun ls hl => ?_)
              refine lv_iinc (v := nI (y + 1)) (lv' := [(5, .int (nI (y + 1))), (4, .int (nI 0)), (0, .ref (a 0)), (1, .int (d0)), (2, .int (fr)), (3, .int (to))]) hx hb dX5_isFree_60 hl (k := 5) rfl (k_iinc _) (by decide) rfl (fun ls hl => ?_)
              refine lv_goto (tgt := 6) hx hb dX5_isFree_63 (by decide) ?_
              exact ih (y + 1) (nI 0) (nI (y + 1)) (by omega) (by first | omega | assumption)  (by exact (bI_f (by simp [frF, if_pos c_2, if_pos c_3, if_pos c_4, if_neg c_5])).symm) rfl ls (lv_sub hl [2, 3, 4, 5, 1, 0] rfl)
            · skip
              refine lv_iconst (v := nI 1) hx hb dX5_isFree_53 (by decide) ?_
              refine lv_goto (tgt := 58) hx hb dX5_isFree_54 (by decide) ?_
              refine lv_istore (lv' := [(4, .int (nI 1)), (0, .ref (a 0)), (1, .int (d0)), (2, .int (fr)), (3, .int (to)), (5, .int (nI y))]) hx hb dX5_isFree_58 hl (by decide) rfl (fun ls hl => ?_)
              refine lv_iinc (v := nI (y + 1)) (lv' := [(5, .int (nI (y + 1))), (4, .int (nI 1)), (0, .ref (a 0)), (1, .int (d0)), (2, .int (fr)), (3, .int (to))]) hx hb dX5_isFree_60 hl (k := 5) rfl (k_iinc _) (by decide) rfl (fun ls hl => ?_)
              refine lv_goto (tgt := 6) hx hb dX5_isFree_63 (by decide) ?_
              exact ih (y + 1) (nI 1) (nI (y + 1)) (by omega) (by first | omega | assumption)  (by exact (bI_t (by simp only [frF, if_pos c_2, if_pos c_3, if_pos c_4, if_pos c_5])).symm) rfl ls (lv_sub hl [2, 3, 4, 5, 1, 0] rfl)
set_option maxHeartbeats 4000000 in
set_option maxRecDepth 100000 in
theorem c_X5_isFree (l : Launch) (D : va_G) (q : Nat → ClassId) (a : Nat → Nat) (S : Nat → Nat → Int32) (d0 fr to : Int32) (nl : Nat) (hls : S 0 15 = nI nl) (hnl : nl ≤ 30) : Met l yX5_isFree wsX5_isFree ({ frames := 0, cells := 0, slots := 0, locals := 0 } : Room) (va_Pc [.ref (a 0), .int (d0), .int (fr), .int (to)] (kB D q (fun H => va_P D vwCl (wM q a S) H))) (kSi (bI (frF S d0 fr to nl = true))) 0 0 (fun _ => False) := by
  refine Met.ofW (cc := cX5_isFree) (maxL := 6) (ret := (some .boolean)) (by decide) rfl ?_
  intro p e u m args below meth c s₁ B hml0 hv
  obtain ⟨rfl, hP, hK⟩ := hv
  have C0 : kAt p u m #[.ref (a 0), .int (d0), .int (fr), .int (to)] meth c cX5_isFree 6 (some .boolean) RX5 wsX5_isFree := kAt_of B hml0
  obtain ⟨hx, hb, hr, hml, hown, hts, hlocks⟩ := id C0
  have hl := lv_entry ([.ref (a 0), .int (d0), .int (fr), .int (to)]) (n := 6) (Nat.le_of_ble_eq_true rfl)
  rw [lg_entry_eq]
  generalize (lg_sl ([.ref (a 0), .int (d0), .int (fr), .int (to)]) ++ List.replicate (6 - (lg_sl ([.ref (a 0), .int (d0), .int (fr), .int (to)])).length) Slot.unset).toArray = ls at hl ⊢
  have hl : lv_has ls 6 [(0, .ref (a 0)), (1, .int (d0)), (2, .int (fr)), (3, .int (to))] := hl
  refine lv_iconst (v := nI 1) hx hb dX5_isFree_0 (by decide) ?_
  refine lv_istore (lv' := [(4, .int (nI 1)), (0, .ref (a 0)), (1, .int (d0)), (2, .int (fr)), (3, .int (to))]) hx hb dX5_isFree_1 hl (by decide) rfl (fun ls hl => ?_)
  refine lv_iconst (v := nI 0) hx hb dX5_isFree_3 (by decide) ?_
  refine lv_istore (lv' := [(5, .int (nI 0)), (4, .int (nI 1)), (0, .ref (a 0)), (1, .int (d0)), (2, .int (fr)), (3, .int (to))]) hx hb dX5_isFree_4 hl (by decide) rfl (fun ls hl => ?_)
  exact lp_X5_isFree_6 a S d0 fr to nl hls hnl C0 hK hP ((nl - 0) + 1) 0 (nI 1) (nI 0) (by omega) (by first | omega | assumption)  (by exact (bI_t rfl).symm) rfl ls (lv_sub hl [2, 3, 4, 5, 1, 0] rfl)
theorem fl_X5_owedBy_50 : Cond.fieldLink RX5 50 "LampCountsModel" "tenant" "[I" ∈ wsX5_owedBy := by decide +kernel
theorem fl_X5_owedBy_74 : Cond.fieldLink RX5 74 "LampCountsModel" "paid" "[I" ∈ wsX5_owedBy := by decide +kernel
theorem fl_X5_owedBy_106 : Cond.fieldLink RX5 106 "LampCountsModel" "leases" "I" ∈ wsX5_owedBy := by decide +kernel
theorem in_X5_owedBy_X5 : ∀ w ∈ u_ws RX5 TX5 33, w ∈ wsX5_owedBy := by decide +kernel
set_option maxHeartbeats 4000000 in
set_option maxRecDepth 100000 in
theorem lp_X5_owedBy_4 {p : Program} {l : Launch} {e : Env} {u : State} {m : MethodId} {below : List Frame} {meth : Method} {c : Code} {D : va_G} {q : Nat → ClassId} (a : Nat → Nat) (S : Nat → Nat → Int32) (k n w0 nl : Nat) (hk6 : k < 6) (hn : S 0 11 = nI n) (hn60 : n ≤ 60) (hot : okT S n) (hw : S 0 1 = nI w0) (hw200 : w0 ≤ 200) (hls : S 0 15 = nI nl) (hnl : nl ≤ 30) (hom : okM S nl) (C0 : kAt p u m #[.ref (a 0), .int (nI k)] meth c cX5_owedBy 4 (some .int) RX5 wsX5_owedBy) (hK : kK D q u) (hP : va_P D vwCl (wM q a S) u.heap) :
    ∀ (f : Nat) (y : Nat) (x2 : Int32) (x3 : Int32), nl - y < f → y ≤ nl → x2 = owF S n w0 (nI k) y → x3 = nI y → ∀ (ls : Array Slot), lv_has ls 4 [(0, .ref (a 0)), (1, .int (nI k)), (2, .int x2), (3, .int x3)] → W p l e ({ frames := 5, cells := 0, slots := 0, locals := 113 } : Room) u m #[.ref (a 0), .int (nI k)] below meth c u.heap [] 0 0 (MQ below (kSi (owF S n w0 (nI k) nl - S 25 k)) #[.ref (a 0), .int (nI k)] u 0 0 (fun _ => False)) (F0 m 4 ls []) := by
  obtain ⟨hx, hb, hr, hml, hown, hts, hlocks⟩ := id C0
  intro f
  induction f with
  | zero =>
    intro y x2 x3 hf
    exact absurd hf (Nat.not_lt_zero _)
  | succ f ih =>
    intro y x2 x3 hf hyl e2 e3 ls hl
    replace e2 := e2.symm
    subst e2
    replace e3 := e3.symm
    subst e3
    refine lv_iload_n hx hb dX5_owedBy_4 rfl (lv_at hl 3 rfl) ?_
    refine lv_aload_n hx hb dX5_owedBy_5 rfl (lv_at hl 0 rfl) ?_
    refine va_get (D := D) (ci := 6) (v := .int (S 0 15)) (C := RX5) (T := TX5) (N := 33) hx hb hts in_X5_owedBy_X5 hown hK.1 hP 0 rfl rfl 15 (by decide) (hts _ fl_X5_owedBy_106) (fun _ h9 => h9) rfl dX5_owedBy_6 ?_
    refine k_top (y := nI nl) hls ?_
    refine k_icmp_ge (P := y < nl) (tgt := 40) hx hb dX5_owedBy_9 (by decide) (nI_ltI (by omega) (by omega)) (fun c_1 => ?_) (fun c_1 => ?_)
    · skip
      refine lv_iload_n hx hb dX5_owedBy_40 rfl (lv_at hl 2 rfl) ?_
      refine lv_aload_n hx hb dX5_owedBy_41 rfl (lv_at hl 0 rfl) ?_
      refine va_get (D := D) (ci := 6) (v := .ref (a 25)) (C := RX5) (T := TX5) (N := 33) hx hb hts in_X5_owedBy_X5 hown hK.1 hP 0 rfl rfl 25 (by decide) (hts _ fl_X5_owedBy_74) (fun _ h9 => h9) rfl dX5_owedBy_42 ?_
      refine lv_iload_n hx hb dX5_owedBy_45 rfl (lv_at hl 1 rfl) ?_
      refine k_iald hx hb hK hP 22 rfl k rfl (by omega) (by decide) dX5_owedBy_46 ?_
      refine lv_isub hx hb dX5_owedBy_47 ?_
      exact k_iretS hx hb hr hlocks rfl rfl (by rw [show y = nl from by omega]) dX5_owedBy_48
    · skip
      refine lv_iload_n hx hb dX5_owedBy_12 rfl (lv_at hl 2 rfl) ?_
      refine lv_aload_n hx hb dX5_owedBy_13 rfl (lv_at hl 0 rfl) ?_
      refine va_get (D := D) (ci := 6) (v := .ref (a 17)) (C := RX5) (T := TX5) (N := 33) hx hb hts in_X5_owedBy_X5 hown hK.1 hP 0 rfl rfl 17 (by decide) (hts _ fl_X5_owedBy_50) (fun _ h9 => h9) rfl dX5_owedBy_14 ?_
      refine lv_iload_n hx hb dX5_owedBy_17 rfl (lv_at hl 3 rfl) ?_
      refine k_iald hx hb hK hP 14 rfl y rfl (by omega) (by decide) dX5_owedBy_18 ?_
      refine lv_iload_n hx hb dX5_owedBy_19 rfl (lv_at hl 1 rfl) ?_
      refine k_icmp_ne (P := S 17 y = nI k) (tgt := 31) hx hb dX5_owedBy_20 (by decide) Iff.rfl (fun c_2 => ?_) (fun c_2 => ?_)
      · skip
        refine lv_iconst (v := nI 0) hx hb dX5_owedBy_31 (by decide) ?_
        refine lv_iadd hx hb dX5_owedBy_32 ?_
        refine lv_istore_n (lv' := [(2, .int ((owF S n w0 (nI k) y) + (nI 0))), (0, .ref (a 0)), (1, .int (nI k)), (3, .int (nI y))]) hx hb dX5_owedBy_33 rfl hl (by decide) rfl (fun ls hl => ?_)
        refine lv_iinc (v := nI (y + 1)) (lv' := [(3, .int (nI (y + 1))), (2, .int ((owF S n w0 (nI k) y) + (nI 0))), (0, .ref (a 0)), (1, .int (nI k))]) hx hb dX5_owedBy_34 hl (k := 3) rfl (k_iinc _) (by decide) rfl (fun ls hl => ?_)
        refine lv_goto (tgt := 4) hx hb dX5_owedBy_37 (by decide) ?_
        exact ih (y + 1) ((owF S n w0 (nI k) y) + (nI 0)) (nI (y + 1)) (by omega) (by first | omega | assumption)  (by simp only [owF, if_neg c_2]) rfl ls (lv_sub hl [2, 3, 1, 0] rfl)
      · skip
        refine lv_aload_n hx hb dX5_owedBy_23 rfl (lv_at hl 0 rfl) ?_
        refine lv_iload_n hx hb dX5_owedBy_24 rfl (lv_at hl 3 rfl) ?_
        refine k_callV (rest := [.int (owF S n w0 (nI k) y)]) (r := rnM S n w0 y) ⟨hx, hb, hml, hown, hts⟩ (c_X5_rents l D q a S y n w0 nl (by omega) hn hn60 hot hw hw200 hls hnl hom) (cwV 1 hts gX5_owedBy_X5_rents rfl rfl rfl (by decide +kernel) ⟨Nat.le_of_ble_eq_true rfl, Nat.le_of_ble_eq_true rfl⟩) hK hP (va_recv hK.1 hP (ci := 6) (q0 := 0) rfl rfl) rfl hl.1 rfl (Nat.le_of_ble_eq_true rfl) dX5_owedBy_25 ⟨Nat.zero_le _, Nat.zero_le _⟩ (fun _ h => h) ?_
        refine lv_goto (tgt := 32) hx hb dX5_owedBy_28 (by decide) ?_
        refine lv_iadd hx hb dX5_owedBy_32 ?_
        refine lv_istore_n (lv' := [(2, .int ((owF S n w0 (nI k) y) + (rnM S n w0 y))), (0, .ref (a 0)), (1, .int (nI k)), (3, .int (nI y))]) hx hb dX5_owedBy_33 rfl hl (by decide) rfl (fun ls hl => ?_)
        refine lv_iinc (v := nI (y + 1)) (lv' := [(3, .int (nI (y + 1))), (2, .int ((owF S n w0 (nI k) y) + (rnM S n w0 y))), (0, .ref (a 0)), (1, .int (nI k))]) hx hb dX5_owedBy_34 hl (k := 3) rfl (k_iinc _) (by decide) rfl (fun ls hl => ?_)
        refine lv_goto (tgt := 4) hx hb dX5_owedBy_37 (by decide) ?_
        exact ih (y + 1) ((owF S n w0 (nI k) y) + (rnM S n w0 y)) (nI (y + 1)) (by omega) (by first | omega | assumption)  (by simp only [owF, if_pos c_2]) rfl ls (lv_sub hl [2, 3, 1, 0] rfl)
set_option maxHeartbeats 4000000 in
set_option maxRecDepth 100000 in
theorem c_X5_owedBy (l : Launch) (D : va_G) (q : Nat → ClassId) (a : Nat → Nat) (S : Nat → Nat → Int32) (k n w0 nl : Nat) (hk6 : k < 6) (hn : S 0 11 = nI n) (hn60 : n ≤ 60) (hot : okT S n) (hw : S 0 1 = nI w0) (hw200 : w0 ≤ 200) (hls : S 0 15 = nI nl) (hnl : nl ≤ 30) (hom : okM S nl) : Met l yX5_owedBy wsX5_owedBy ({ frames := 5, cells := 0, slots := 0, locals := 113 } : Room) (va_Pc [.ref (a 0), .int (nI k)] (kB D q (fun H => va_P D vwCl (wM q a S) H))) (kSi (owF S n w0 (nI k) nl - S 25 k)) 0 0 (fun _ => False) := by
  refine Met.ofW (cc := cX5_owedBy) (maxL := 4) (ret := (some .int)) (by decide) rfl ?_
  intro p e u m args below meth c s₁ B hml0 hv
  obtain ⟨rfl, hP, hK⟩ := hv
  have C0 : kAt p u m #[.ref (a 0), .int (nI k)] meth c cX5_owedBy 4 (some .int) RX5 wsX5_owedBy := kAt_of B hml0
  obtain ⟨hx, hb, hr, hml, hown, hts, hlocks⟩ := id C0
  have hl := lv_entry ([.ref (a 0), .int (nI k)]) (n := 4) (Nat.le_of_ble_eq_true rfl)
  rw [lg_entry_eq]
  generalize (lg_sl ([.ref (a 0), .int (nI k)]) ++ List.replicate (4 - (lg_sl ([.ref (a 0), .int (nI k)])).length) Slot.unset).toArray = ls at hl ⊢
  have hl : lv_has ls 4 [(0, .ref (a 0)), (1, .int (nI k))] := hl
  refine lv_iconst (v := nI 0) hx hb dX5_owedBy_0 (by decide) ?_
  refine lv_istore_n (lv' := [(2, .int (nI 0)), (0, .ref (a 0)), (1, .int (nI k))]) hx hb dX5_owedBy_1 rfl hl (by decide) rfl (fun ls hl => ?_)
  refine lv_iconst (v := nI 0) hx hb dX5_owedBy_2 (by decide) ?_
  refine lv_istore_n (lv' := [(3, .int (nI 0)), (2, .int (nI 0)), (0, .ref (a 0)), (1, .int (nI k))]) hx hb dX5_owedBy_3 rfl hl (by decide) rfl (fun ls hl => ?_)
  exact lp_X5_owedBy_4 a S k n w0 nl hk6 hn hn60 hot hw hw200 hls hnl hom C0 hK hP ((nl - 0) + 1) 0 (nI 0) (nI 0) (by omega) (by first | omega | assumption)  (by rfl) rfl ls (lv_sub hl [2, 3, 1, 0] rfl)
theorem fl_X5_takesLot_92 : Cond.fieldLink RX5 92 "LampCountsModel" "lot" "[I" ∈ wsX5_takesLot := by decide +kernel
theorem fl_X5_takesLot_109 : Cond.fieldLink RX5 109 "LampCountsModel" "lots" "I" ∈ wsX5_takesLot := by decide +kernel
theorem in_X5_takesLot_X5 : ∀ w ∈ u_ws RX5 TX5 33, w ∈ wsX5_takesLot := by decide +kernel
set_option maxHeartbeats 4000000 in
set_option maxRecDepth 100000 in
theorem lp_X5_takesLot_28 {p : Program} {l : Launch} {e : Env} {u : State} {m : MethodId} {below : List Frame} {meth : Method} {c : Code} {D : va_G} {q : Nat → ClassId} {A : Nat → Prop} (a : Nat → Nat) (S : Nat → Nat → Int32) (L : Nat) (hL : S 0 31 = nI L) (hL50 : L ≤ 50) (C0 : kAt p u m #[.ref (a 0)] meth c cX5_takesLot 3 (some .int) RX5 wsX5_takesLot) (hK : kK D q u) :
    ∀ (f : Nat) (k : Nat) (T : Nat → Nat → Int32) (x1 : Int32) (x2 : Int32), L - 1 - k < f → k ≤ L - 1 → ¬ L = 0 → T = mtK (up S 0 31 (nI (L - 1))) k → x1 = S 32 0 → x2 = nI k → ∀ (H : Heap) (locs : List Loc), kW D A (wM q a T) H → va_S A u.heap H locs → ∀ (ls : Array Slot), lv_has ls 3 [(0, .ref (a 0)), (1, .int x1), (2, .int x2)] → W p l e ({ frames := 0, cells := 0, slots := 0, locals := 0 } : Room) u m #[.ref (a 0)] below meth c H locs 0 0 (MQ below (kRi D A (mtV S L) (wM q a (mtM S L))) #[.ref (a 0)] u 0 0 A) (F0 m 28 ls []) := by
  obtain ⟨hx, hb, hr, hml, hown, hts, hlocks⟩ := id C0
  intro f
  induction f with
  | zero =>
    intro k T x1 x2 hf
    exact absurd hf (Nat.not_lt_zero _)
  | succ f ih =>
    intro k T x1 x2 hf hk h0 eT e1 e2 H locs hP hS ls hl
    replace eT := eT.symm
    subst eT
    replace e1 := e1.symm
    subst e1
    replace e2 := e2.symm
    subst e2
    refine lv_iload_n hx hb dX5_takesLot_28 rfl (lv_at hl 2 rfl) ?_
    refine lv_aload_n hx hb dX5_takesLot_29 rfl (lv_at hl 0 rfl) ?_
    refine va_get (D := D) (ci := 6) (v := .int ((mtK (up S 0 31 (nI (L - 1))) k) 0 31)) (C := RX5) (T := TX5) (N := 33) hx hb hts in_X5_takesLot_X5 hown hK.1 hP.1 0 rfl rfl 31 (by decide) (hts _ fl_X5_takesLot_109) (fun _ h9 => h9) rfl dX5_takesLot_30 ?_
    refine k_top (y := nI (L - 1)) ((congrFun (mtK_n (by decide) _) 31).trans (up_si _ _ _ _)) ?_
    refine k_icmp_ge (P := k < L - 1) (tgt := 56) hx hb dX5_takesLot_33 (by decide) (nI_ltI (by omega) (by omega)) (fun c_1 => ?_) (fun c_1 => ?_)
    · skip
      refine lv_iload_n hx hb dX5_takesLot_56 rfl (lv_at hl 1 rfl) ?_
      have eM : mtK (up S 0 31 (nI (L - 1))) k = mtM S L := by unfold mtM; rw [if_neg h0, show L - 1 = k from by omega]
      rw [eM] at hP
      exact k_iretW hx hb hr hlocks hP hS (by unfold mtV; rw [if_neg h0]) dX5_takesLot_57
    · skip
      refine lv_aload_n hx hb dX5_takesLot_36 rfl (lv_at hl 0 rfl) ?_
      refine va_get (D := D) (ci := 6) (v := .ref (a 32)) (C := RX5) (T := TX5) (N := 33) hx hb hts in_X5_takesLot_X5 hown hK.1 hP.1 0 rfl rfl 32 (by decide) (hts _ fl_X5_takesLot_92) (fun _ h9 => h9) rfl dX5_takesLot_37 ?_
      refine lv_iload_n hx hb dX5_takesLot_40 rfl (lv_at hl 2 rfl) ?_
      refine lv_aload_n hx hb dX5_takesLot_41 rfl (lv_at hl 0 rfl) ?_
      refine va_get (D := D) (ci := 6) (v := .ref (a 32)) (C := RX5) (T := TX5) (N := 33) hx hb hts in_X5_takesLot_X5 hown hK.1 hP.1 0 rfl rfl 32 (by decide) (hts _ fl_X5_takesLot_92) (fun _ h9 => h9) rfl dX5_takesLot_42 ?_
      refine lv_iload_n hx hb dX5_takesLot_45 rfl (lv_at hl 2 rfl) ?_
      refine lv_iconst (v := nI 1) hx hb dX5_takesLot_46 (by decide) ?_
      refine lv_iadd hx hb dX5_takesLot_47 ?_
      refine k_top (y := nI (k + 1)) (nI_add _ _) ?_
      refine k_iald hx hb hK hP.1 28 rfl (k + 1) rfl (by omega) (by decide) dX5_takesLot_48 ?_
      refine k_iast (wM q a ((up (mtK (up S 0 31 (nI (L - 1))) k) 32 k ((mtK (up S 0 31 (nI (L - 1))) k) 32 (k + 1))))) hx hb hK hP hS 28 rfl k rfl (by omega) (by decide) wM_s28 dX5_takesLot_49 (fun H locs hP hS => ?_)
      refine lv_iinc (v := nI (k + 1)) (lv' := [(2, .int (nI (k + 1))), (0, .ref (a 0)), (1, .int (S 32 0))]) hx hb dX5_takesLot_50 hl (k := 2) rfl (k_iinc _) (by decide) rfl (fun ls hl => ?_)
      refine lv_goto (tgt := 28) hx hb dX5_takesLot_53 (by decide) ?_
      exact ih (k + 1) ((up (mtK (up S 0 31 (nI (L - 1))) k) 32 k ((mtK (up S 0 31 (nI (L - 1))) k) 32 (k + 1)))) (S 32 0) (nI (k + 1)) (by omega) (by first | omega | assumption) (by first | omega | assumption) (by rfl) rfl rfl _ _ hP hS ls (lv_sub hl [1, 2, 0] rfl)
set_option maxHeartbeats 4000000 in
set_option maxRecDepth 100000 in
theorem c_X5_takesLot (l : Launch) (D : va_G) (q : Nat → ClassId) (A : Nat → Prop) (a : Nat → Nat) (S : Nat → Nat → Int32) (L : Nat) (hL : S 0 31 = nI L) (hL50 : L ≤ 50) : Met l yX5_takesLot wsX5_takesLot ({ frames := 0, cells := 0, slots := 0, locals := 0 } : Room) (va_Pc [.ref (a 0)] (kB D q (fun H => kW D A (wM q a S) H))) (kRi D A (mtV S L) (wM q a (mtM S L))) 0 0 A := by
  refine Met.ofW (cc := cX5_takesLot) (maxL := 3) (ret := (some .int)) (by decide) rfl ?_
  intro p e u m args below meth c s₁ B hml0 hv
  obtain ⟨rfl, hP, hK⟩ := hv
  have C0 : kAt p u m #[.ref (a 0)] meth c cX5_takesLot 3 (some .int) RX5 wsX5_takesLot := kAt_of B hml0
  obtain ⟨hx, hb, hr, hml, hown, hts, hlocks⟩ := id C0
  have hS : va_S A u.heap u.heap [] := va_S.rf
  have hl := lv_entry ([.ref (a 0)]) (n := 3) (Nat.le_of_ble_eq_true rfl)
  rw [lg_entry_eq]
  generalize (lg_sl ([.ref (a 0)]) ++ List.replicate (3 - (lg_sl ([.ref (a 0)])).length) Slot.unset).toArray = ls at hl ⊢
  have hl : lv_has ls 3 [(0, .ref (a 0))] := hl
  refine lv_aload_n hx hb dX5_takesLot_0 rfl (lv_at hl 0 rfl) ?_
  refine va_get (D := D) (ci := 6) (v := .int (S 0 31)) (C := RX5) (T := TX5) (N := 33) hx hb hts in_X5_takesLot_X5 hown hK.1 hP.1 0 rfl rfl 31 (by decide) (hts _ fl_X5_takesLot_109) (fun _ h9 => h9) rfl dX5_takesLot_1 ?_
  refine k_top (y := nI L) hL ?_
  refine k_if_ne (P := L = 0) (tgt := 9) hx hb dX5_takesLot_4 (by decide) (k_n0 (by omega)) (fun c_2 => ?_) (fun c_2 => ?_)
  · skip
    have h0 := c_2
    refine lv_aload_n hx hb dX5_takesLot_9 rfl (lv_at hl 0 rfl) ?_
    refine va_get (D := D) (ci := 6) (v := .ref (a 32)) (C := RX5) (T := TX5) (N := 33) hx hb hts in_X5_takesLot_X5 hown hK.1 hP.1 0 rfl rfl 32 (by decide) (hts _ fl_X5_takesLot_92) (fun _ h9 => h9) rfl dX5_takesLot_10 ?_
    refine lv_iconst (v := nI 0) hx hb dX5_takesLot_13 (by decide) ?_
    refine k_iald hx hb hK hP.1 28 rfl 0 rfl (by omega) (by decide) dX5_takesLot_14 ?_
    refine lv_istore_n (lv' := [(1, .int (S 32 0)), (0, .ref (a 0))]) hx hb dX5_takesLot_15 rfl hl (by decide) rfl (fun ls hl => ?_)
    refine lv_aload_n hx hb dX5_takesLot_16 rfl (lv_at hl 1 rfl) ?_
    refine lv_dup hx hb dX5_takesLot_17 rfl ?_
    refine va_get (D := D) (ci := 6) (v := .int (S 0 31)) (C := RX5) (T := TX5) (N := 33) hx hb hts in_X5_takesLot_X5 hown hK.1 hP.1 0 rfl rfl 31 (by decide) (hts _ fl_X5_takesLot_109) (fun _ h9 => h9) rfl dX5_takesLot_18 ?_
    refine k_top (y := nI L) hL ?_
    refine lv_iconst (v := nI 1) hx hb dX5_takesLot_21 (by decide) ?_
    refine lv_isub hx hb dX5_takesLot_22 ?_
    refine k_top (y := nI (L - 1)) (pk_sub (by omega)) ?_
    refine k_puti (wM q a ((up S 0 31 (nI (L - 1))))) hx hb hts in_X5_takesLot_X5 tyX5 tyX5_ok nmX5 hown hK hP hS 0 rfl rfl 31 (by decide) (hts _ fl_X5_takesLot_109) (fun _ h9 => h9) rfl (by decide +kernel) (Nat.le_of_ble_eq_true rfl) wM_f0_31 dX5_takesLot_23 (fun H locs hP hS => ?_)
    refine lv_iconst (v := nI 0) hx hb dX5_takesLot_26 (by decide) ?_
    refine lv_istore_n (lv' := [(2, .int (nI 0)), (1, .int (S 32 0)), (0, .ref (a 0))]) hx hb dX5_takesLot_27 rfl hl (by decide) rfl (fun ls hl => ?_)
    exact lp_X5_takesLot_28 a S L hL hL50 C0 hK ((L - 1 - 0) + 1) 0 ((up S 0 31 (nI (L - 1)))) (S 32 0) (nI 0) (by omega) (by first | omega | assumption) (by first | omega | assumption) (by rfl) rfl rfl _ _ hP hS ls (lv_sub hl [2, 1, 0] rfl)
  · skip
    refine lv_iconst (v := nI 0) hx hb dX5_takesLot_7 (by decide) ?_
    have eM : S = mtM S L := by unfold mtM; rw [if_pos c_2]
    rw [eM] at hP
    exact k_iretW hx hb hr hlocks hP hS (by unfold mtV; rw [if_pos c_2]) dX5_takesLot_8
theorem fl_X5_mayPlay_86 : Cond.fieldLink RX5 86 "LampCountsModel" "asks" "[I" ∈ wsX5_mayPlay := by decide +kernel
theorem in_X5_mayPlay_X5 : ∀ w ∈ u_ws RX5 TX5 33, w ∈ wsX5_mayPlay := by decide +kernel
set_option maxHeartbeats 4000000 in
set_option maxRecDepth 100000 in
theorem c_X5_mayPlay (l : Launch) (D : va_G) (q : Nat → ClassId) (a : Nat → Nat) (S : Nat → Nat → Int32) (b x : Nat) (set : Int32) (hb6 : b < 6) : Met l yX5_mayPlay wsX5_mayPlay ({ frames := 0, cells := 0, slots := 0, locals := 0 } : Room) (va_Pc [.ref (a 0), .int (nI b), .int (nI x), .int (set)] (kB D q (fun H => va_P D vwCl (wM q a S) H))) (kSi (bI (mpP S b x set))) 0 0 (fun _ => False) := by
  refine Met.ofW (cc := cX5_mayPlay) (maxL := 4) (ret := (some .boolean)) (by decide) rfl ?_
  intro p e u m args below meth c s₁ B hml0 hv
  obtain ⟨rfl, hP, hK⟩ := hv
  have C0 : kAt p u m #[.ref (a 0), .int (nI b), .int (nI x), .int (set)] meth c cX5_mayPlay 4 (some .boolean) RX5 wsX5_mayPlay := kAt_of B hml0
  obtain ⟨hx, hb, hr, hml, hown, hts, hlocks⟩ := id C0
  have hl := lv_entry ([.ref (a 0), .int (nI b), .int (nI x), .int (set)]) (n := 4) (Nat.le_of_ble_eq_true rfl)
  rw [lg_entry_eq]
  generalize (lg_sl ([.ref (a 0), .int (nI b), .int (nI x), .int (set)]) ++ List.replicate (4 - (lg_sl ([.ref (a 0), .int (nI b), .int (nI x), .int (set)])).length) Slot.unset).toArray = ls at hl ⊢
  have hl : lv_has ls 4 [(0, .ref (a 0)), (1, .int (nI b)), (2, .int (nI x)), (3, .int (set))] := hl
  refine lv_aload_n hx hb dX5_mayPlay_0 rfl (lv_at hl 0 rfl) ?_
  refine va_get (D := D) (ci := 6) (v := .ref (a 29)) (C := RX5) (T := TX5) (N := 33) hx hb hts in_X5_mayPlay_X5 hown hK.1 hP 0 rfl rfl 29 (by decide) (hts _ fl_X5_mayPlay_86) (fun _ h9 => h9) rfl dX5_mayPlay_1 ?_
  refine lv_iload_n hx hb dX5_mayPlay_4 rfl (lv_at hl 1 rfl) ?_
  refine k_iald hx hb hK hP 26 rfl b rfl (by omega) (by decide) dX5_mayPlay_5 ?_
  refine lv_iload_n hx hb dX5_mayPlay_6 rfl (lv_at hl 2 rfl) ?_
  refine lv_ishr hx hb dX5_mayPlay_7 ?_
  refine lv_iconst (v := nI 1) hx hb dX5_mayPlay_8 (by decide) ?_
  refine lv_iand hx hb dX5_mayPlay_9 ?_
  refine lv_iconst (v := nI 1) hx hb dX5_mayPlay_10 (by decide) ?_
  refine k_icmp_ne (P := ((S 29 b) >>> ((nI x) &&& 31)) &&& (nI 1) = nI 1) (tgt := 26) hx hb dX5_mayPlay_11 (by decide) Iff.rfl (fun c_1 => ?_) (fun c_1 => ?_)
  · skip
    refine lv_iconst (v := nI 0) hx hb dX5_mayPlay_26 (by decide) ?_
    exact k_zretS hx hb hr hlocks rfl rfl rfl (by exact (bI_f (fun z => c_1 z.1)).symm) dX5_mayPlay_27
  · skip
    refine lv_iload_n hx hb dX5_mayPlay_14 rfl (lv_at hl 3 rfl) ?_
    refine lv_iload_n hx hb dX5_mayPlay_15 rfl (lv_at hl 1 rfl) ?_
    refine lv_ishr hx hb dX5_mayPlay_16 ?_
    refine lv_iconst (v := nI 1) hx hb dX5_mayPlay_17 (by decide) ?_
    refine lv_iand hx hb dX5_mayPlay_18 ?_
    refine k_if_ne (P := (set >>> ((nI b) &&& 31)) &&& (nI 1) = 0) (tgt := 26) hx hb dX5_mayPlay_19 (by decide) Iff.rfl (fun c_2 => ?_) (fun c_2 => ?_)
    · skip
      refine lv_iconst (v := nI 0) hx hb dX5_mayPlay_26 (by decide) ?_
      exact k_zretS hx hb hr hlocks rfl rfl rfl (by exact (bI_f (fun z => c_2 z.2)).symm) dX5_mayPlay_27
    · skip
      refine lv_iconst (v := nI 1) hx hb dX5_mayPlay_22 (by decide) ?_
      refine lv_goto (tgt := 27) hx hb dX5_mayPlay_23 (by decide) ?_
      exact k_zretS hx hb hr hlocks rfl rfl rfl (by exact (bI_t ⟨c_1, c_2⟩).symm) dX5_mayPlay_27
theorem fl_X5_plays_89 : Cond.fieldLink RX5 89 "LampCountsModel" "playedThen" "[I" ∈ wsX5_plays := by decide +kernel
theorem in_X5_plays_X5 : ∀ w ∈ u_ws RX5 TX5 33, w ∈ wsX5_plays := by decide +kernel
set_option maxHeartbeats 4000000 in
set_option maxRecDepth 100000 in
theorem lp_X5_plays_127 {p : Program} {l : Launch} {e : Env} {u : State} {m : MethodId} {below : List Frame} {meth : Method} {c : Code} {D : va_G} {q : Nat → ClassId} {A : Nat → Prop} (a : Nat → Nat) (S : Nat → Nat → Int32) (x : Nat) (set : Int32) (hx12 : x < 12) (hok : okML S) (T0 : Nat → Nat → Int32) (fw r : Int32) (hV : (p2F T0 x set fw r 6).1 = plV S x set) (hM : T0 = plM S x set) (C0 : kAt p u m #[.ref (a 0), .int (nI x), .int (set)] meth c cX5_plays 8 (some .int) RX5 wsX5_plays) (hK : kK D q u) :
    ∀ (f : Nat) (b : Nat) (T : Nat → Nat → Int32) (x3 : Int32) (x5 : Int32) (x6 : Int32) (x7 : Int32), 6 - b < f → b ≤ 6 → T = T0 → x3 = fw → x5 = (p2F T0 x set fw r b).2 → x6 = (p2F T0 x set fw r b).1 → x7 = nI b → ∀ (H : Heap) (locs : List Loc), kW D A (wM q a T) H → va_S A u.heap H locs → ∀ (ls : Array Slot), lv_has ls 8 [(0, .ref (a 0)), (1, .int (nI x)), (2, .int (set)), (3, .int x3), (5, .int x5), (6, .int x6), (7, .int x7)] → W p l e ({ frames := 1, cells := 0, slots := 0, locals := 23 } : Room) u m #[.ref (a 0), .int (nI x), .int (set)] below meth c H locs 0 0 (MQ below (kRi D A (plV S x set) (wM q a (plM S x set))) #[.ref (a 0), .int (nI x), .int (set)] u 0 0 A) (F0 m 127 ls []) := by
  obtain ⟨hx, hb, hr, hml, hown, hts, hlocks⟩ := id C0
  intro f
  induction f with
  | zero =>
    intro b T x3 x5 x6 x7 hf
    exact absurd hf (Nat.not_lt_zero _)
  | succ f ih =>
    intro b T x3 x5 x6 x7 hf hb6 eT e3 e5 e6 e7 H locs hP hS ls hl
    replace eT := eT.symm
    subst eT
    replace e3 := e3.symm
    subst e3
    replace e5 := e5.symm
    subst e5
    replace e6 := e6.symm
    subst e6
    replace e7 := e7.symm
    subst e7
    refine lv_iload hx hb dX5_plays_127 (lv_at hl 6 rfl) ?_
    refine lv_bipush (v := nI 6) hx hb dX5_plays_129 (by decide) ?_
    refine k_icmp_ge (P := b < 6) (tgt := 179) hx hb dX5_plays_131 (by decide) (nI_ltI (by omega) (by omega)) (fun c_1 => ?_) (fun c_1 => ?_)
    · skip
      refine lv_iload hx hb dX5_plays_179 (lv_at hl 5 rfl) ?_
      have eM : T0 = plM S x set := by exact hM
      rw [eM] at hP
      exact k_iretW hx hb hr hlocks hP hS (by rw [← hV, show b = 6 from by omega]) dX5_plays_181
    · skip
      refine lv_aload_n hx hb dX5_plays_134 rfl (lv_at hl 0 rfl) ?_
      refine lv_iload hx hb dX5_plays_135 (lv_at hl 6 rfl) ?_
      refine lv_iload_n hx hb dX5_plays_137 rfl (lv_at hl 1 rfl) ?_
      refine lv_iload_n hx hb dX5_plays_138 rfl (lv_at hl 2 rfl) ?_
      refine k_callV (rest := []) (r := bI (mpP T0 b x set)) ⟨hx, hb, hml, hown, hts⟩ (c_X5_mayPlay l D q a T0 b x set (by omega)) (cwV 3 hts gX5_plays_X5_mayPlay rfl rfl rfl (by decide +kernel) ⟨Nat.le_of_ble_eq_true rfl, Nat.le_of_ble_eq_true rfl⟩) hK hP.1 (va_recv hK.1 hP.1 (ci := 6) (q0 := 0) rfl rfl) rfl hl.1 rfl (Nat.le_of_ble_eq_true rfl) dX5_plays_139 ⟨Nat.zero_le _, Nat.zero_le _⟩ (fun _ h => h) ?_
      refine k_if_eq (P := ¬ (mpP T0 b x set)) (tgt := 173) hx hb dX5_plays_142 (by decide) bI_0 (fun c_2 => ?_) (fun c_2 => ?_)
      · skip
        refine lv_iinc (v := nI (b + 1)) (lv' := [(7, .int (nI (b + 1))), (0, .ref (a 0)), (1, .int (nI x)), (2, .int (set)), (3, .int (fw)), (5, .int ((p2F T0 x set fw r b).2)), (6, .int ((p2F T0 x set fw r b).1))]) hx hb dX5_plays_173 hl (k := 6) rfl (k_iinc _) (by decide) rfl (fun ls hl => ?_)
        refine lv_goto (tgt := 127) hx hb dX5_plays_176 (by decide) ?_
        exact ih (b + 1) T0 fw ((p2F T0 x set fw r b).2) ((p2F T0 x set fw r b).1) (nI (b + 1)) (by omega) (by first | omega | assumption) rfl rfl (by rw [p2F_s, if_neg c_2]) (by rw [p2F_s, if_neg c_2]) rfl _ _ hP hS ls (lv_sub hl [1, 2, 3, 4, 5, 6, 0] rfl)
      · skip
        have c_2 : mpP T0 b x set := Classical.not_not.mp c_2
        refine lv_aload_n hx hb dX5_plays_145 rfl (lv_at hl 0 rfl) ?_
        refine va_get (D := D) (ci := 6) (v := .ref (a 30)) (C := RX5) (T := TX5) (N := 33) hx hb hts in_X5_plays_X5 hown hK.1 hP.1 0 rfl rfl 30 (by decide) (hts _ fl_X5_plays_89) (fun _ h9 => h9) rfl dX5_plays_146 ?_
        refine lv_iload hx hb dX5_plays_149 (lv_at hl 6 rfl) ?_
        refine k_iald hx hb hK hP.1 27 rfl b rfl (by omega) (by decide) dX5_plays_151 ?_
        refine lv_iload_n hx hb dX5_plays_152 rfl (lv_at hl 3 rfl) ?_
        refine k_icmp_ne (P := T0 30 b = fw) (tgt := 173) hx hb dX5_plays_153 (by decide) Iff.rfl (fun c_3 => ?_) (fun c_3 => ?_)
        · skip
          refine lv_iinc (v := nI (b + 1)) (lv' := [(7, .int (nI (b + 1))), (0, .ref (a 0)), (1, .int (nI x)), (2, .int (set)), (3, .int (fw)), (5, .int ((p2F T0 x set fw r b).2)), (6, .int ((p2F T0 x set fw r b).1))]) hx hb dX5_plays_173 hl (k := 6) rfl (k_iinc _) (by decide) rfl (fun ls hl => ?_)
          refine lv_goto (tgt := 127) hx hb dX5_plays_176 (by decide) ?_
          exact ih (b + 1) T0 fw ((p2F T0 x set fw r b).2) ((p2F T0 x set fw r b).1) (nI (b + 1)) (by omega) (by first | omega | assumption) rfl rfl (by rw [p2F_s, if_pos c_2, if_neg c_3]) (by rw [p2F_s, if_pos c_2, if_neg c_3]) rfl _ _ hP hS ls (lv_sub hl [1, 2, 3, 4, 5, 6, 0] rfl)
        · skip
          refine lv_iload hx hb dX5_plays_156 (lv_at hl 4 rfl) ?_
          refine k_if_ne (P := (p2F T0 x set fw r b).2 = 0) (tgt := 166) hx hb dX5_plays_158 (by decide) Iff.rfl (fun c_4 => ?_) (fun c_4 => ?_)
          · skip
            refine lv_iload hx hb dX5_plays_166 (lv_at hl 5 rfl) ?_
            refine lv_istore (lv' := [(6, .int ((p2F T0 x set fw r b).1)), (0, .ref (a 0)), (1, .int (nI x)), (2, .int (set)), (3, .int (fw)), (5, .int ((p2F T0 x set fw r b).2)), (7, .int (nI b))]) hx hb dX5_plays_168 hl (by decide) rfl (fun ls hl => ?_)
            refine lv_iinc (v := ((p2F T0 x set fw r b).2) + Int32.ofInt (-1)) (lv' := [(5, .int (((p2F T0 x set fw r b).2) + Int32.ofInt (-1))), (6, .int ((p2F T0 x set fw r b).1)), (0, .ref (a 0)), (1, .int (nI x)), (2, .int (set)), (3, .int (fw)), (7, .int (nI b))]) hx hb dX5_plays_170 hl (k := 5) rfl rfl (by decide) rfl (fun ls hl => ?_)
            refine lv_iinc (v := nI (b + 1)) (lv' := [(7, .int (nI (b + 1))), (5, .int (((p2F T0 x set fw r b).2) + Int32.ofInt (-1))), (6, .int ((p2F T0 x set fw r b).1)), (0, .ref (a 0)), (1, .int (nI x)), (2, .int (set)), (3, .int (fw))]) hx hb dX5_plays_173 hl (k := 6) rfl (k_iinc _) (by decide) rfl (fun ls hl => ?_)
            refine lv_goto (tgt := 127) hx hb dX5_plays_176 (by decide) ?_
            exact ih (b + 1) T0 fw (((p2F T0 x set fw r b).2) + Int32.ofInt (-1)) ((p2F T0 x set fw r b).1) (nI (b + 1)) (by omega) (by first | omega | assumption) rfl rfl (by rw [p2F_s, if_pos c_2, if_pos c_3]) (by rw [p2F_s, if_pos c_2, if_pos c_3]; show _ = (if (p2F T0 x set fw r b).2 = 0 then nI b else (p2F T0 x set fw r b).1); rw [if_neg c_4]) rfl _ _ hP hS ls (lv_sub hl [3, 4, 5, 6, 1, 2, 0] rfl)
          · skip
            refine lv_iload hx hb dX5_plays_161 (lv_at hl 6 rfl) ?_
            refine lv_goto (tgt := 168) hx hb dX5_plays_163 (by decide) ?_
            refine lv_istore (lv' := [(6, .int (nI b)), (0, .ref (a 0)), (1, .int (nI x)), (2, .int (set)), (3, .int (fw)), (5, .int ((p2F T0 x set fw r b).2)), (7, .int (nI b))]) hx hb dX5_plays_168 hl (by decide) rfl (fun ls hl => ?_)
            refine lv_iinc (v := ((p2F T0 x set fw r b).2) + Int32.ofInt (-1)) (lv' := [(5, .int (((p2F T0 x set fw r b).2) + Int32.ofInt (-1))), (6, .int (nI b)), (0, .ref (a 0)), (1, .int (nI x)), (2, .int (set)), (3, .int (fw)), (7, .int (nI b))]) hx hb dX5_plays_170 hl (k := 5) rfl rfl (by decide) rfl (fun ls hl => ?_)
            refine lv_iinc (v := nI (b + 1)) (lv' := [(7, .int (nI (b + 1))), (5, .int (((p2F T0 x set fw r b).2) + Int32.ofInt (-1))), (6, .int (nI b)), (0, .ref (a 0)), (1, .int (nI x)), (2, .int (set)), (3, .int (fw))]) hx hb dX5_plays_173 hl (k := 6) rfl (k_iinc _) (by decide) rfl (fun ls hl => ?_)
            refine lv_goto (tgt := 127) hx hb dX5_plays_176 (by decide) ?_
            exact ih (b + 1) T0 fw (((p2F T0 x set fw r b).2) + Int32.ofInt (-1)) (nI b) (nI (b + 1)) (by omega) (by first | omega | assumption) rfl rfl (by rw [p2F_s, if_pos c_2, if_pos c_3]) (by rw [p2F_s, if_pos c_2, if_pos c_3]; show _ = (if (p2F T0 x set fw r b).2 = 0 then nI b else (p2F T0 x set fw r b).1); rw [if_pos c_4]) rfl _ _ hP hS ls (lv_sub hl [3, 4, 5, 6, 1, 2, 0] rfl)

set_option maxHeartbeats 4000000 in
set_option maxRecDepth 100000 in
theorem lp_X5_plays_8 {p : Program} {l : Launch} {e : Env} {u : State} {m : MethodId} {below : List Frame} {meth : Method} {c : Code} {D : va_G} {q : Nat → ClassId} {A : Nat → Prop} (a : Nat → Nat) (S : Nat → Nat → Int32) (x : Nat) (set : Int32) (hx12 : x < 12) (hok : okML S) (C0 : kAt p u m #[.ref (a 0), .int (nI x), .int (set)] meth c cX5_plays 8 (some .int) RX5 wsX5_plays) (hK : kK D q u) :
    ∀ (f : Nat) (b : Nat) (T : Nat → Nat → Int32) (x3 : Int32) (x4 : Int32) (x5 : Int32), 6 - b < f → b ≤ 6 → T = S → x3 = (plF S x set b).1 → x4 = nI (plF S x set b).2 → x5 = nI b → ∀ (H : Heap) (locs : List Loc), kW D A (wM q a T) H → va_S A u.heap H locs → ∀ (ls : Array Slot), lv_has ls 8 [(0, .ref (a 0)), (1, .int (nI x)), (2, .int (set)), (3, .int x3), (4, .int x4), (5, .int x5)] → W p l e ({ frames := 1, cells := 0, slots := 0, locals := 23 } : Room) u m #[.ref (a 0), .int (nI x), .int (set)] below meth c H locs 0 0 (MQ below (kRi D A (plV S x set) (wM q a (plM S x set))) #[.ref (a 0), .int (nI x), .int (set)] u 0 0 A) (F0 m 8 ls []) := by
  obtain ⟨hx, hb, hr, hml, hown, hts, hlocks⟩ := id C0
  intro f
  induction f with
  | zero =>
    intro b T x3 x4 x5 hf
    exact absurd hf (Nat.not_lt_zero _)
  | succ f ih =>
    intro b T x3 x4 x5 hf hb6 eT e3 e4 e5 H locs hP hS ls hl
    replace eT := eT.symm
    subst eT
    replace e3 := e3.symm
    subst e3
    replace e4 := e4.symm
    subst e4
    replace e5 := e5.symm
    subst e5
    refine lv_iload hx hb dX5_plays_8 (lv_at hl 5 rfl) ?_
    refine lv_bipush (v := nI 6) hx hb dX5_plays_10 (by decide) ?_
    refine k_icmp_ge (P := b < 6) (tgt := 102) hx hb dX5_plays_12 (by decide) (nI_ltI (by omega) (by omega)) (fun c_5 => ?_) (fun c_5 => ?_)
    · skip
      obtain rfl : b = 6 := by omega
      have hle := plF_le (S := S) (x := x) (set := set) 6
      refine lv_iload hx hb dX5_plays_102 (lv_at hl 4 rfl) ?_
      refine lv_iconst (v := nI 1) hx hb dX5_plays_104 (by decide) ?_
      refine k_icmp_le (P := (plF S x set 6).2 ≤ 1) (tgt := 118) hx hb dX5_plays_105 (by decide) (nI_leI (by omega) (by decide)) (fun c_6 => ?_) (fun c_6 => ?_)
      · skip
        refine lv_iconst (v := nI 0) hx hb dX5_plays_118 (by decide) ?_
        refine lv_istore (lv' := [(5, .int (nI 0)), (0, .ref (a 0)), (1, .int (nI x)), (2, .int (set)), (3, .int ((plF S x set 6).1)), (4, .int (nI (plF S x set 6).2))]) hx hb dX5_plays_119 hl (by decide) rfl (fun ls hl => ?_)
        refine lv_iconst (v := (-1)) hx hb dX5_plays_121 (by decide) ?_
        refine lv_istore (lv' := [(6, .int ((-1))), (5, .int (nI 0)), (0, .ref (a 0)), (1, .int (nI x)), (2, .int (set)), (3, .int ((plF S x set 6).1)), (4, .int (nI (plF S x set 6).2))]) hx hb dX5_plays_122 hl (by decide) rfl (fun ls hl => ?_)
        refine lv_iconst (v := nI 0) hx hb dX5_plays_124 (by decide) ?_
        refine lv_istore (lv' := [(7, .int (nI 0)), (6, .int ((-1))), (5, .int (nI 0)), (0, .ref (a 0)), (1, .int (nI x)), (2, .int (set)), (3, .int ((plF S x set 6).1)), (4, .int (nI (plF S x set 6).2))]) hx hb dX5_plays_125 hl (by decide) rfl (fun ls hl => ?_)
        exact lp_X5_plays_127 a S x set hx12 hok S ((plF S x set 6).1) (nI 0) (by unfold plV; rw [if_pos c_6]) (by unfold plM; rw [if_pos c_6]) C0 hK ((6 - 0) + 1) 0 S ((plF S x set 6).1) (nI 0) ((-1)) (nI 0) (by omega) (by first | omega | assumption) (by first | (simp only [if_pos c_6]; done) | (simp only [if_pos c_6]; rfl) | (simp [if_pos c_6]; done) | rfl) (by first | (simp only [if_pos c_6]; done) | (simp only [if_pos c_6]; rfl) | (simp [if_pos c_6]; done) | rfl) (by rfl) (by rfl) rfl _ _ hP hS ls (lv_sub hl [3, 4, 5, 6, 2, 1, 0] rfl)
      · skip
        refine lv_aload_n hx hb dX5_plays_108 rfl (lv_at hl 0 rfl) ?_
        refine k_goRi hS (va_runV (rest := []) ⟨hx, hb, hml, hown, hts⟩ (c_X5_takesLot l D q A a S (mlN S) hok.1 hok.2.1) (cwV 0 hts gX5_plays_X5_takesLot rfl rfl rfl (by decide +kernel) ⟨Nat.le_of_ble_eq_true rfl, Nat.le_of_ble_eq_true rfl⟩) ⟨kB_blind, (va_recv hK.1 hP.1 (ci := 6) (q0 := 0) rfl rfl), fun U hU hW => ⟨rfl, by rw [hU]; exact hP, hK.warm hW⟩⟩ rfl rfl hl.1 rfl (lv_room (Nat.le_of_ble_eq_true rfl)) dX5_plays_109 ⟨Nat.zero_le _, Nat.zero_le _⟩) (fun H locs hP hS => ?_)
        obtain ⟨v, hv, ev⟩ := okML_lt hok
        refine lv_iload hx hb dX5_plays_112 (lv_at hl 4 rfl) ?_
        refine lv_irem hx hb dX5_plays_114 (fun z => by have := (k_n0 (a := (plF S x set 6).2) (by omega)).mp z; omega) ?_
        refine k_top (y := nI (v % (plF S x set 6).2)) (by rw [ev]; exact pk_rem (by omega) (by omega) (by omega)) ?_
        refine lv_goto (tgt := 119) hx hb dX5_plays_115 (by decide) ?_
        refine lv_istore (lv' := [(5, .int (nI (v % (plF S x set 6).2))), (0, .ref (a 0)), (1, .int (nI x)), (2, .int (set)), (3, .int ((plF S x set 6).1)), (4, .int (nI (plF S x set 6).2))]) hx hb dX5_plays_119 hl (by decide) rfl (fun ls hl => ?_)
        refine lv_iconst (v := (-1)) hx hb dX5_plays_121 (by decide) ?_
        refine lv_istore (lv' := [(6, .int ((-1))), (5, .int (nI (v % (plF S x set 6).2))), (0, .ref (a 0)), (1, .int (nI x)), (2, .int (set)), (3, .int ((plF S x set 6).1)), (4, .int (nI (plF S x set 6).2))]) hx hb dX5_plays_122 hl (by decide) rfl (fun ls hl => ?_)
        refine lv_iconst (v := nI 0) hx hb dX5_plays_124 (by decide) ?_
        refine lv_istore (lv' := [(7, .int (nI 0)), (6, .int ((-1))), (5, .int (nI (v % (plF S x set 6).2))), (0, .ref (a 0)), (1, .int (nI x)), (2, .int (set)), (3, .int ((plF S x set 6).1)), (4, .int (nI (plF S x set 6).2))]) hx hb dX5_plays_125 hl (by decide) rfl (fun ls hl => ?_)
        exact lp_X5_plays_127 a S x set hx12 hok ((mtM S (mlN S))) ((plF S x set 6).1) (nI (v % (plF S x set 6).2)) (by unfold plV; rw [if_neg c_6, ev, nI_clamp (by omega)]) (by unfold plM; rw [if_neg c_6]) C0 hK ((6 - 0) + 1) 0 ((mtM S (mlN S))) ((plF S x set 6).1) (nI (v % (plF S x set 6).2)) ((-1)) (nI 0) (by omega) (by first | omega | assumption) (by first | (simp only [if_neg c_6]; done) | (simp only [if_neg c_6]; rfl) | (simp [if_neg c_6]; done) | rfl) (by first | (simp only [if_neg c_6]; done) | (simp only [if_neg c_6]; rfl) | (simp [if_neg c_6]; done) | rfl) (by rfl) (by rfl) rfl _ _ hP hS ls (lv_sub hl [3, 4, 5, 6, 2, 1, 0] rfl)
    · skip
      refine lv_aload_n hx hb dX5_plays_15 rfl (lv_at hl 0 rfl) ?_
      refine lv_iload hx hb dX5_plays_16 (lv_at hl 5 rfl) ?_
      refine lv_iload_n hx hb dX5_plays_18 rfl (lv_at hl 1 rfl) ?_
      refine lv_iload_n hx hb dX5_plays_19 rfl (lv_at hl 2 rfl) ?_
      refine k_callV (rest := []) (r := bI (mpP S b x set)) ⟨hx, hb, hml, hown, hts⟩ (c_X5_mayPlay l D q a S b x set (by omega)) (cwV 3 hts gX5_plays_X5_mayPlay rfl rfl rfl (by decide +kernel) ⟨Nat.le_of_ble_eq_true rfl, Nat.le_of_ble_eq_true rfl⟩) hK hP.1 (va_recv hK.1 hP.1 (ci := 6) (q0 := 0) rfl rfl) rfl hl.1 rfl (Nat.le_of_ble_eq_true rfl) dX5_plays_20 ⟨Nat.zero_le _, Nat.zero_le _⟩ (fun _ h => h) ?_
      refine k_if_eq (P := ¬ (mpP S b x set)) (tgt := 96) hx hb dX5_plays_23 (by decide) bI_0 (fun c_7 => ?_) (fun c_7 => ?_)
      · skip
        refine lv_iinc (v := nI (b + 1)) (lv' := [(5, .int (nI (b + 1))), (0, .ref (a 0)), (1, .int (nI x)), (2, .int (set)), (3, .int ((plF S x set b).1)), (4, .int (nI (plF S x set b).2))]) hx hb dX5_plays_96 hl (k := 5) rfl (k_iinc _) (by decide) rfl (fun ls hl => ?_)
        refine lv_goto (tgt := 8) hx hb dX5_plays_99 (by decide) ?_
        exact ih (b + 1) S ((plF S x set b).1) (nI (plF S x set b).2) (nI (b + 1)) (by omega) (by first | omega | assumption) rfl (by rw [plF_s, if_neg c_7]) (by rw [plF_s, if_neg c_7]) rfl _ _ hP hS ls (lv_sub hl [1, 2, 3, 4, 5, 0] rfl)
      · skip
        have c_7 : mpP S b x set := Classical.not_not.mp c_7
        refine lv_iload_n hx hb dX5_plays_26 rfl (lv_at hl 3 rfl) ?_
        refine lv_iconst (v := (-1)) hx hb dX5_plays_27 (by decide) ?_
        refine k_icmp_eq (P := (plF S x set b).1 = (-1)) (tgt := 42) hx hb dX5_plays_28 (by decide) Iff.rfl (fun c_8 => ?_) (fun c_8 => ?_)
        · skip
          refine lv_iconst (v := nI 1) hx hb dX5_plays_42 (by decide) ?_
          refine lv_goto (tgt := 66) hx hb dX5_plays_43 (by decide) ?_
          refine lv_istore (lv' := [(4, .int (nI 1)), (0, .ref (a 0)), (1, .int (nI x)), (2, .int (set)), (3, .int ((plF S x set b).1)), (5, .int (nI b))]) hx hb dX5_plays_66 hl (by decide) rfl (fun ls hl => ?_)
          refine lv_iload_n hx hb dX5_plays_68 rfl (lv_at hl 4 rfl) ?_
          refine lv_iconst (v := (-1)) hx hb dX5_plays_69 (by decide) ?_
          refine k_icmp_eq (P := (plF S x set b).1 = (-1)) (tgt := 84) hx hb dX5_plays_70 (by decide) Iff.rfl (fun c_9 => ?_) (fun c_9 => ?_)
          · skip
            refine lv_aload_n hx hb dX5_plays_84 rfl (lv_at hl 1 rfl) ?_
            refine va_get (D := D) (ci := 6) (v := .ref (a 30)) (C := RX5) (T := TX5) (N := 33) hx hb hts in_X5_plays_X5 hown hK.1 hP.1 0 rfl rfl 30 (by decide) (hts _ fl_X5_plays_89) (fun _ h9 => h9) rfl dX5_plays_85 ?_
            refine lv_iload hx hb dX5_plays_88 (lv_at hl 5 rfl) ?_
            refine k_iald hx hb hK hP.1 27 rfl b rfl (by omega) (by decide) dX5_plays_90 ?_
            refine lv_goto (tgt := 95) hx hb dX5_plays_91 (by decide) ?_
            refine lv_istore_n (lv' := [(3, .int (S 30 b)), (4, .int (nI 1)), (0, .ref (a 0)), (1, .int (nI x)), (2, .int (set)), (5, .int (nI b))]) hx hb dX5_plays_95 rfl hl (by decide) rfl (fun ls hl => ?_)
            refine lv_iinc (v := nI (b + 1)) (lv' := [(5, .int (nI (b + 1))), (3, .int (S 30 b)), (4, .int (nI 1)), (0, .ref (a 0)), (1, .int (nI x)), (2, .int (set))]) hx hb dX5_plays_96 hl (k := 5) rfl (k_iinc _) (by decide) rfl (fun ls hl => ?_)
            refine lv_goto (tgt := 8) hx hb dX5_plays_99 (by decide) ?_
            exact ih (b + 1) S (S 30 b) (nI 1) (nI (b + 1)) (by omega) (by first | omega | assumption) rfl (by rw [plF_s, if_pos c_7, if_pos c_8]) (by rw [plF_s, if_pos c_7, if_pos c_8]) rfl _ _ hP hS ls (lv_sub hl [3, 4, 5, 1, 2, 0] rfl)
          · skip
            exact absurd c_8 c_9
        · skip
          refine lv_aload_n hx hb dX5_plays_31 rfl (lv_at hl 0 rfl) ?_
          refine va_get (D := D) (ci := 6) (v := .ref (a 30)) (C := RX5) (T := TX5) (N := 33) hx hb hts in_X5_plays_X5 hown hK.1 hP.1 0 rfl rfl 30 (by decide) (hts _ fl_X5_plays_89) (fun _ h9 => h9) rfl dX5_plays_32 ?_
          refine lv_iload hx hb dX5_plays_35 (lv_at hl 5 rfl) ?_
          refine k_iald hx hb hK hP.1 27 rfl b rfl (by omega) (by decide) dX5_plays_37 ?_
          refine lv_iload_n hx hb dX5_plays_38 rfl (lv_at hl 3 rfl) ?_
          refine k_icmp_ge (P := S 30 b < (plF S x set b).1) (tgt := 46) hx hb dX5_plays_39 (by decide) Iff.rfl (fun c_10 => ?_) (fun c_10 => ?_)
          · skip
            refine lv_aload_n hx hb dX5_plays_46 rfl (lv_at hl 0 rfl) ?_
            refine va_get (D := D) (ci := 6) (v := .ref (a 30)) (C := RX5) (T := TX5) (N := 33) hx hb hts in_X5_plays_X5 hown hK.1 hP.1 0 rfl rfl 30 (by decide) (hts _ fl_X5_plays_89) (fun _ h9 => h9) rfl dX5_plays_47 ?_
            refine lv_iload hx hb dX5_plays_50 (lv_at hl 5 rfl) ?_
            refine k_iald hx hb hK hP.1 27 rfl b rfl (by omega) (by decide) dX5_plays_52 ?_
            refine lv_iload_n hx hb dX5_plays_53 rfl (lv_at hl 3 rfl) ?_
            refine k_icmp_ne (P := S 30 b = (plF S x set b).1) (tgt := 64) hx hb dX5_plays_54 (by decide) Iff.rfl (fun c_11 => ?_) (fun c_11 => ?_)
            · skip
              refine lv_iload hx hb dX5_plays_64 (lv_at hl 4 rfl) ?_
              refine lv_istore (lv' := [(4, .int (nI (plF S x set b).2)), (0, .ref (a 0)), (1, .int (nI x)), (2, .int (set)), (3, .int ((plF S x set b).1)), (5, .int (nI b))]) hx hb dX5_plays_66 hl (by decide) rfl (fun ls hl => ?_)
              refine lv_iload_n hx hb dX5_plays_68 rfl (lv_at hl 4 rfl) ?_
              refine lv_iconst (v := (-1)) hx hb dX5_plays_69 (by decide) ?_
              refine k_icmp_eq (P := (plF S x set b).1 = (-1)) (tgt := 84) hx hb dX5_plays_70 (by decide) Iff.rfl (fun c_12 => ?_) (fun c_12 => ?_)
              · skip
                exact absurd c_12 c_8
              · skip
                refine lv_aload_n hx hb dX5_plays_73 rfl (lv_at hl 1 rfl) ?_
                refine va_get (D := D) (ci := 6) (v := .ref (a 30)) (C := RX5) (T := TX5) (N := 33) hx hb hts in_X5_plays_X5 hown hK.1 hP.1 0 rfl rfl 30 (by decide) (hts _ fl_X5_plays_89) (fun _ h9 => h9) rfl dX5_plays_74 ?_
                refine lv_iload hx hb dX5_plays_77 (lv_at hl 5 rfl) ?_
                refine k_iald hx hb hK hP.1 27 rfl b rfl (by omega) (by decide) dX5_plays_79 ?_
                refine lv_iload_n hx hb dX5_plays_80 rfl (lv_at hl 4 rfl) ?_
                refine k_icmp_ge (P := S 30 b < (plF S x set b).1) (tgt := 94) hx hb dX5_plays_81 (by decide) Iff.rfl (fun c_13 => ?_) (fun c_13 => ?_)
                · skip
                  refine lv_iload_n hx hb dX5_plays_94 rfl (lv_at hl 4 rfl) ?_
                  refine lv_istore_n (lv' := [(3, .int ((plF S x set b).1)), (4, .int (nI (plF S x set b).2)), (0, .ref (a 0)), (1, .int (nI x)), (2, .int (set)), (5, .int (nI b))]) hx hb dX5_plays_95 rfl hl (by decide) rfl (fun ls hl => ?_)
                  refine lv_iinc (v := nI (b + 1)) (lv' := [(5, .int (nI (b + 1))), (3, .int ((plF S x set b).1)), (4, .int (nI (plF S x set b).2)), (0, .ref (a 0)), (1, .int (nI x)), (2, .int (set))]) hx hb dX5_plays_96 hl (k := 5) rfl (k_iinc _) (by decide) rfl (fun ls hl => ?_)
                  refine lv_goto (tgt := 8) hx hb dX5_plays_99 (by decide) ?_
                  exact ih (b + 1) S ((plF S x set b).1) (nI (plF S x set b).2) (nI (b + 1)) (by omega) (by first | omega | assumption) rfl (by rw [plF_s, if_pos c_7, if_neg c_8, if_neg c_10, if_neg c_11]) (by rw [plF_s, if_pos c_7, if_neg c_8, if_neg c_10, if_neg c_11]) rfl _ _ hP hS ls (lv_sub hl [3, 4, 5, 1, 2, 0] rfl)
                · skip
                  exact absurd c_13 c_10
            · skip
              refine lv_iload hx hb dX5_plays_57 (lv_at hl 4 rfl) ?_
              refine lv_iconst (v := nI 1) hx hb dX5_plays_59 (by decide) ?_
              refine lv_iadd hx hb dX5_plays_60 ?_
              refine k_top (y := nI ((plF S x set b).2 + 1)) (nI_add _ _) ?_
              refine lv_goto (tgt := 66) hx hb dX5_plays_61 (by decide) ?_
              refine lv_istore (lv' := [(4, .int (nI ((plF S x set b).2 + 1))), (0, .ref (a 0)), (1, .int (nI x)), (2, .int (set)), (3, .int ((plF S x set b).1)), (5, .int (nI b))]) hx hb dX5_plays_66 hl (by decide) rfl (fun ls hl => ?_)
              refine lv_iload_n hx hb dX5_plays_68 rfl (lv_at hl 4 rfl) ?_
              refine lv_iconst (v := (-1)) hx hb dX5_plays_69 (by decide) ?_
              refine k_icmp_eq (P := (plF S x set b).1 = (-1)) (tgt := 84) hx hb dX5_plays_70 (by decide) Iff.rfl (fun c_14 => ?_) (fun c_14 => ?_)
              · skip
                exact absurd c_14 c_8
              · skip
                refine lv_aload_n hx hb dX5_plays_73 rfl (lv_at hl 1 rfl) ?_
                refine va_get (D := D) (ci := 6) (v := .ref (a 30)) (C := RX5) (T := TX5) (N := 33) hx hb hts in_X5_plays_X5 hown hK.1 hP.1 0 rfl rfl 30 (by decide) (hts _ fl_X5_plays_89) (fun _ h9 => h9) rfl dX5_plays_74 ?_
                refine lv_iload hx hb dX5_plays_77 (lv_at hl 5 rfl) ?_
                refine k_iald hx hb hK hP.1 27 rfl b rfl (by omega) (by decide) dX5_plays_79 ?_
                refine lv_iload_n hx hb dX5_plays_80 rfl (lv_at hl 4 rfl) ?_
                refine k_icmp_ge (P := S 30 b < (plF S x set b).1) (tgt := 94) hx hb dX5_plays_81 (by decide) Iff.rfl (fun c_15 => ?_) (fun c_15 => ?_)
                · skip
                  refine lv_iload_n hx hb dX5_plays_94 rfl (lv_at hl 4 rfl) ?_
                  refine lv_istore_n (lv' := [(3, .int ((plF S x set b).1)), (4, .int (nI ((plF S x set b).2 + 1))), (0, .ref (a 0)), (1, .int (nI x)), (2, .int (set)), (5, .int (nI b))]) hx hb dX5_plays_95 rfl hl (by decide) rfl (fun ls hl => ?_)
                  refine lv_iinc (v := nI (b + 1)) (lv' := [(5, .int (nI (b + 1))), (3, .int ((plF S x set b).1)), (4, .int (nI ((plF S x set b).2 + 1))), (0, .ref (a 0)), (1, .int (nI x)), (2, .int (set))]) hx hb dX5_plays_96 hl (k := 5) rfl (k_iinc _) (by decide) rfl (fun ls hl => ?_)
                  refine lv_goto (tgt := 8) hx hb dX5_plays_99 (by decide) ?_
                  exact ih (b + 1) S ((plF S x set b).1) (nI ((plF S x set b).2 + 1)) (nI (b + 1)) (by omega) (by first | omega | assumption) rfl (by rw [plF_s, if_pos c_7, if_neg c_8, if_neg c_10, if_pos c_11]) (by rw [plF_s, if_pos c_7, if_neg c_8, if_neg c_10, if_pos c_11]) rfl _ _ hP hS ls (lv_sub hl [3, 4, 5, 1, 2, 0] rfl)
                · skip
                  exact absurd c_15 c_10
          · skip
            refine lv_iconst (v := nI 1) hx hb dX5_plays_42 (by decide) ?_
            refine lv_goto (tgt := 66) hx hb dX5_plays_43 (by decide) ?_
            refine lv_istore (lv' := [(4, .int (nI 1)), (0, .ref (a 0)), (1, .int (nI x)), (2, .int (set)), (3, .int ((plF S x set b).1)), (5, .int (nI b))]) hx hb dX5_plays_66 hl (by decide) rfl (fun ls hl => ?_)
            refine lv_iload_n hx hb dX5_plays_68 rfl (lv_at hl 4 rfl) ?_
            refine lv_iconst (v := (-1)) hx hb dX5_plays_69 (by decide) ?_
            refine k_icmp_eq (P := (plF S x set b).1 = (-1)) (tgt := 84) hx hb dX5_plays_70 (by decide) Iff.rfl (fun c_16 => ?_) (fun c_16 => ?_)
            · skip
              exact absurd c_16 c_8
            · skip
              refine lv_aload_n hx hb dX5_plays_73 rfl (lv_at hl 1 rfl) ?_
              refine va_get (D := D) (ci := 6) (v := .ref (a 30)) (C := RX5) (T := TX5) (N := 33) hx hb hts in_X5_plays_X5 hown hK.1 hP.1 0 rfl rfl 30 (by decide) (hts _ fl_X5_plays_89) (fun _ h9 => h9) rfl dX5_plays_74 ?_
              refine lv_iload hx hb dX5_plays_77 (lv_at hl 5 rfl) ?_
              refine k_iald hx hb hK hP.1 27 rfl b rfl (by omega) (by decide) dX5_plays_79 ?_
              refine lv_iload_n hx hb dX5_plays_80 rfl (lv_at hl 4 rfl) ?_
              refine k_icmp_ge (P := S 30 b < (plF S x set b).1) (tgt := 94) hx hb dX5_plays_81 (by decide) Iff.rfl (fun c_17 => ?_) (fun c_17 => ?_)
              · skip
                exact absurd c_10 c_17
              · skip
                refine lv_aload_n hx hb dX5_plays_84 rfl (lv_at hl 1 rfl) ?_
                refine va_get (D := D) (ci := 6) (v := .ref (a 30)) (C := RX5) (T := TX5) (N := 33) hx hb hts in_X5_plays_X5 hown hK.1 hP.1 0 rfl rfl 30 (by decide) (hts _ fl_X5_plays_89) (fun _ h9 => h9) rfl dX5_plays_85 ?_
                refine lv_iload hx hb dX5_plays_88 (lv_at hl 5 rfl) ?_
                refine k_iald hx hb hK hP.1 27 rfl b rfl (by omega) (by decide) dX5_plays_90 ?_
                refine lv_goto (tgt := 95) hx hb dX5_plays_91 (by decide) ?_
                refine lv_istore_n (lv' := [(3, .int (S 30 b)), (4, .int (nI 1)), (0, .ref (a 0)), (1, .int (nI x)), (2, .int (set)), (5, .int (nI b))]) hx hb dX5_plays_95 rfl hl (by decide) rfl (fun ls hl => ?_)
                refine lv_iinc (v := nI (b + 1)) (lv' := [(5, .int (nI (b + 1))), (3, .int (S 30 b)), (4, .int (nI 1)), (0, .ref (a 0)), (1, .int (nI x)), (2, .int (set))]) hx hb dX5_plays_96 hl (k := 5) rfl (k_iinc _) (by decide) rfl (fun ls hl => ?_)
                refine lv_goto (tgt := 8) hx hb dX5_plays_99 (by decide) ?_
                exact ih (b + 1) S (S 30 b) (nI 1) (nI (b + 1)) (by omega) (by first | omega | assumption) rfl (by rw [plF_s, if_pos c_7, if_neg c_8, if_pos c_10]) (by rw [plF_s, if_pos c_7, if_neg c_8, if_pos c_10]) rfl _ _ hP hS ls (lv_sub hl [3, 4, 5, 1, 2, 0] rfl)
set_option maxHeartbeats 4000000 in
set_option maxRecDepth 100000 in
theorem c_X5_plays (l : Launch) (D : va_G) (q : Nat → ClassId) (A : Nat → Prop) (a : Nat → Nat) (S : Nat → Nat → Int32) (x : Nat) (set : Int32) (hx12 : x < 12) (hok : okML S) : Met l yX5_plays wsX5_plays ({ frames := 1, cells := 0, slots := 0, locals := 23 } : Room) (va_Pc [.ref (a 0), .int (nI x), .int (set)] (kB D q (fun H => kW D A (wM q a S) H))) (kRi D A (plV S x set) (wM q a (plM S x set))) 0 0 A := by
  refine Met.ofW (cc := cX5_plays) (maxL := 8) (ret := (some .int)) (by decide) rfl ?_
  intro p e u m args below meth c s₁ B hml0 hv
  obtain ⟨rfl, hP, hK⟩ := hv
  have C0 : kAt p u m #[.ref (a 0), .int (nI x), .int (set)] meth c cX5_plays 8 (some .int) RX5 wsX5_plays := kAt_of B hml0
  obtain ⟨hx, hb, hr, hml, hown, hts, hlocks⟩ := id C0
  have hS : va_S A u.heap u.heap [] := va_S.rf
  have hl := lv_entry ([.ref (a 0), .int (nI x), .int (set)]) (n := 8) (Nat.le_of_ble_eq_true rfl)
  rw [lg_entry_eq]
  generalize (lg_sl ([.ref (a 0), .int (nI x), .int (set)]) ++ List.replicate (8 - (lg_sl ([.ref (a 0), .int (nI x), .int (set)])).length) Slot.unset).toArray = ls at hl ⊢
  have hl : lv_has ls 8 [(0, .ref (a 0)), (1, .int (nI x)), (2, .int (set))] := hl
  refine lv_iconst (v := (-1)) hx hb dX5_plays_0 (by decide) ?_
  refine lv_istore_n (lv' := [(3, .int ((-1))), (0, .ref (a 0)), (1, .int (nI x)), (2, .int (set))]) hx hb dX5_plays_1 rfl hl (by decide) rfl (fun ls hl => ?_)
  refine lv_iconst (v := nI 0) hx hb dX5_plays_2 (by decide) ?_
  refine lv_istore (lv' := [(4, .int (nI 0)), (3, .int ((-1))), (0, .ref (a 0)), (1, .int (nI x)), (2, .int (set))]) hx hb dX5_plays_3 hl (by decide) rfl (fun ls hl => ?_)
  refine lv_iconst (v := nI 0) hx hb dX5_plays_5 (by decide) ?_
  refine lv_istore (lv' := [(5, .int (nI 0)), (4, .int (nI 0)), (3, .int ((-1))), (0, .ref (a 0)), (1, .int (nI x)), (2, .int (set))]) hx hb dX5_plays_6 hl (by decide) rfl (fun ls hl => ?_)
  exact lp_X5_plays_8 a S x set hx12 hok C0 hK ((6 - 0) + 1) 0 S ((-1)) (nI 0) (nI 0) (by omega) (by first | omega | assumption) rfl (by rfl) (by rfl) rfl _ _ hP hS ls (lv_sub hl [3, 4, 5, 2, 1, 0] rfl)
