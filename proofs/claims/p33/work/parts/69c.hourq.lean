theorem cl2_L_isHour_88 : Cond.constantLong RL 88 7 ∈ wsL_isHour := by decide +kernel
set_option maxHeartbeats 4000000 in
set_option maxRecDepth 100000 in
theorem lp_L_isHour_25 {p : Program} {l : Launch} {e : Env} {u : State} {m : MethodId} {below : List Frame} {meth : Method} {c : Code} {D : va_G} {q : Nat → ClassId} {A : Nat → Prop} (hl0 : l.stackTraces = false) (a : Nat → Nat) (S : Nat → Nat → Int32) (cb : Nat → Nat) (cM : Nat → Nat → Int32) (cap nl : Nat) (h n w0 : Nat) (hh : h < w0) (hb4 : bd (S 4) 32767) (ht : yT S n) (hn : S 0 1 = nI n) (hn12 : n ≤ 12) (hn9 : cM 0 1 = nI n) (hnow : cM 0 0 = nI w0) (hw20 : w0 ≤ 20) (hb2 : bd (S 2) 32767) (hb3 : bd (S 3) 32767) (hb5 : bd (S 5) 7) (hA0 : yHA S cM n h) (C0 : kAt p u m #[.ref (cb 0), .int (nI h), .ref (a 2), .ref (a 3), .ref (a 4), .ref (a 5), .ref (a 6), .ref (a 7), .ref (a 0)] meth c cL_isHour 14 (some .boolean) RL wsL_isHour) (hK : kK D q u) (hX : kX A u) (hA : ∀ z : Nat, u.heap.size ≤ z → A z) :
    ∀ (f : Nat) (x : Nat) (T : Nat → Nat → Int32) (x9 : Int32) (x10 : Int32) (x11 : Int32), 12 - x < f → x ≤ 12 → T = S → x9 = yMs S n h x → x10 = nI 1 → x11 = nI x → ∀ (H : Heap) (locs : List Loc), kW D A (wL q a T ((wC q cb cM cap nl))) H → va_S A u.heap H locs → ∀ (ls : Array Slot), lv_has ls 14 [(0, .ref (cb 0)), (1, .int (nI h)), (2, .ref (a 2)), (3, .ref (a 3)), (4, .ref (a 4)), (5, .ref (a 5)), (6, .ref (a 6)), (7, .ref (a 7)), (8, .ref (a 0)), (9, .int x9), (10, .int x10), (11, .int x11)] → W p l e ({ frames := 10, cells := 146, slots := 900, locals := 287 } : Room) u m #[.ref (cb 0), .int (nI h), .ref (a 2), .ref (a 3), .ref (a 4), .ref (a 5), .ref (a 6), .ref (a 7), .ref (a 0)] below meth c H locs (1 + 12 * x) (6 + 72 * x) (MQ below (kRi D A (nI 1) (wL q a S ((wC q cb cM cap nl)))) #[.ref (cb 0), .int (nI h), .ref (a 2), .ref (a 3), .ref (a 4), .ref (a 5), .ref (a 6), .ref (a 7), .ref (a 0)] u 146 900 A) (F0 m 25 ls []) := by
  obtain ⟨hx, hb, hr, hml, hown, hts, hlocks⟩ := id C0
  intro f
  induction f with
  | zero =>
    intro x T x9 x10 x11 hf
    exact absurd hf (Nat.not_lt_zero _)
  | succ f ih =>
    intro x T x9 x10 x11 hf hx9 eT e9 e10 e11 H locs hP hS ls hl
    replace eT := eT.symm
    subst eT
    replace e9 := e9.symm
    subst e9
    replace e10 := e10.symm
    subst e10
    replace e11 := e11.symm
    subst e11
    refine lv_iload hx hb dL_isHour_25 (lv_at hl 11 rfl) ?_
    refine lv_bipush (v := nI 12) hx hb dL_isHour_27 (by decide) ?_
    refine k_icmp_ge (P := x < 12) (tgt := 197) hx hb dL_isHour_29 (by decide) (nI_ltI (by omega) (by omega)) (fun c_1 => ?_) (fun c_1 => ?_)
    · skip
      obtain rfl : x = 12 := by omega
      refine lv_iload hx hb dL_isHour_197 (lv_at hl 10 rfl) ?_
      refine k_if_eq (P := False) (tgt := 216) hx hb dL_isHour_199 (by decide) ⟨fun z => absurd z (by decide), False.elim⟩ (fun c_2 => ?_) (fun c_2 => ?_)
      · skip
        exact c_2.elim
      · skip
        refine lv_aload_n hx hb dL_isHour_202 rfl (lv_at hl 0 rfl) ?_
        refine lv_iload_n hx hb dL_isHour_203 rfl (lv_at hl 1 rfl) ?_
        refine k_goLi (H0 := u.heap) hP hA hS (vx_runV (rest := []) ⟨hx, hb, hml, hown, hts⟩ (c_X4_missed l hl0 D q (va_A (wC q cb cM cap nl) H.size) cb cM cap nl (nI h) w0 hnow (by omega)) (cwV 1 hts gL_isHour_X4_missed rfl rfl rfl (by decide +kernel) ⟨Nat.le_of_ble_eq_true rfl, Nat.le_of_ble_eq_true rfl⟩) ⟨kBX_blind, (va_recv hK.1 hP.1 (ci := 5) (q0 := 10) rfl rfl), fun U hU hW => ⟨rfl, by rw [hU]; exact kW_cut hP, hK.warm hW, (hX.at hS hU hW).narrow (kW_sub hP (fun z9 h9 => hA z9 (Nat.le_trans hS.1 h9)))⟩⟩ rfl rfl hl.1 rfl (lv_room (Nat.le_of_ble_eq_true rfl)) dL_isHour_204 ⟨by show 1 + 12 * 12 + 1 ≤ 146; omega, by show 6 + 72 * 12 + 6 ≤ 900; omega⟩) (fun E ce q9 H locs hE hP hS h1 h2 h3 => absurd hE (by rw [hA0.2.1]; exact exC_no (by decide))) (fun r3 H locs hr3 hP hS => ?_)
        have hr3 := hr3.2
        rw [hA0.2.1] at hP hr3
        have hP : kW D A (wL q a S ((wC q cb cM cap nl))) H := hP
        refine k_top (y := yMs S n h 12) hr3 ?_
        refine lv_iload hx hb dL_isHour_207 (lv_at hl 9 rfl) ?_
        refine k_icmp_ne (P := True) (tgt := 216) hx hb dL_isHour_209 (by decide) ⟨fun _ => trivial, fun _ => rfl⟩ (fun c_4 => ?_) (fun c_4 => ?_)
        · skip
          exact (c_4 trivial).elim
        · skip
          refine lv_iconst (v := nI 1) hx hb dL_isHour_212 (by decide) ?_
          refine lv_goto (tgt := 217) hx hb dL_isHour_213 (by decide) ?_
          refine W.widen (k := 146) (n := 900) (by first | exact Nat.le_of_ble_eq_true rfl | omega) (by first | exact Nat.le_of_ble_eq_true rfl | omega) ?_
          exact k_zretW hx hb hr hlocks rfl hP hS (by rfl) dL_isHour_217
    · skip
      refine lv_iload hx hb dL_isHour_32 (lv_at hl 10 rfl) ?_
      refine k_if_eq (P := False) (tgt := 197) hx hb dL_isHour_34 (by decide) ⟨fun z => absurd z (by decide), False.elim⟩ (fun c_5 => ?_) (fun c_5 => ?_)
      · skip
        exact c_5.elim
      · skip
        refine lv_iload hx hb dL_isHour_37 (lv_at hl 11 rfl) ?_
        refine lv_iload_n hx hb dL_isHour_39 rfl (lv_at hl 1 rfl) ?_
        refine lv_aload hx hb dL_isHour_40 (lv_at hl 4 rfl) ?_
        refine lv_aload hx hb dL_isHour_42 (lv_at hl 7 rfl) ?_
        refine lv_aload hx hb dL_isHour_44 (lv_at hl 8 rfl) ?_
        refine k_callS (rest := []) (r := yCn S n h x) ⟨hx, hb, hml, hown, hts⟩ (c_L_count l D q a S ((wC q cb cM cap nl)) x h n (by omega) (by omega) hb4 ht hn hn12) (va_cwS 5 hts gL_isHour_L_count rfl rfl rfl (by decide +kernel) ⟨Nat.le_of_ble_eq_true rfl, Nat.le_of_ble_eq_true rfl⟩) hK hP.1 rfl hl.1 rfl (Nat.le_of_ble_eq_true rfl) dL_isHour_46 ⟨by show 1 + 12 * x ≤ 146; omega, by show 6 + 72 * x ≤ 900; omega⟩ (fun _ h => h) ?_
        refine lv_istore (lv' := [(12, .int (yCn S n h x)), (0, .ref (cb 0)), (1, .int (nI h)), (2, .ref (a 2)), (3, .ref (a 3)), (4, .ref (a 4)), (5, .ref (a 5)), (6, .ref (a 6)), (7, .ref (a 7)), (8, .ref (a 0)), (9, .int (yMs S n h x)), (10, .int (nI 1)), (11, .int (nI x))]) hx hb dL_isHour_49 hl (by decide) rfl (fun ls hl => ?_)
        refine lv_aload_n hx hb dL_isHour_51 rfl (lv_at hl 3 rfl) ?_
        refine lv_iload hx hb dL_isHour_52 (lv_at hl 12 rfl) ?_
        refine lv_iload_n hx hb dL_isHour_54 rfl (lv_at hl 2 rfl) ?_
        refine k_callS (rest := []) (r := S 2 (h * 12 + x)) ⟨hx, hb, hml, hown, hts⟩ (c_L_get l D q (a 2) (S 2) x h (by omega) (by omega) hb2) (va_cwS 3 hts gL_isHour_L_get rfl rfl rfl (by decide +kernel) ⟨Nat.le_of_ble_eq_true rfl, Nat.le_of_ble_eq_true rfl⟩) hK (hP.1.sub [2] rfl) rfl hl.1 rfl (Nat.le_of_ble_eq_true rfl) dL_isHour_55 ⟨by show 1 + 12 * x ≤ 146; omega, by show 6 + 72 * x ≤ 900; omega⟩ (fun _ h => h) ?_
        refine lv_istore (lv' := [(13, .int (S 2 (h * 12 + x))), (12, .int (yCn S n h x)), (0, .ref (cb 0)), (1, .int (nI h)), (2, .ref (a 2)), (3, .ref (a 3)), (4, .ref (a 4)), (5, .ref (a 5)), (6, .ref (a 6)), (7, .ref (a 7)), (8, .ref (a 0)), (9, .int (yMs S n h x)), (10, .int (nI 1)), (11, .int (nI x))]) hx hb dL_isHour_58 hl (by decide) rfl (fun ls hl => ?_)
        refine lv_iload hx hb dL_isHour_60 (lv_at hl 11 rfl) ?_
        refine lv_iload hx hb dL_isHour_62 (lv_at hl 1 rfl) ?_
        refine lv_iload hx hb dL_isHour_64 (lv_at hl 0 rfl) ?_
        refine k_icmp_le (P := yCn S n h x ≤ S 2 (h * 12 + x)) (tgt := 77) hx hb dL_isHour_66 (by decide) Iff.rfl (fun c_6 => ?_) (fun c_6 => ?_)
        · skip
          refine lv_iload hx hb dL_isHour_77 (lv_at hl 0 rfl) ?_
          refine lv_iload hx hb dL_isHour_79 (lv_at hl 1 rfl) ?_
          refine lv_isub hx hb dL_isHour_81 ?_
          refine lv_iadd hx hb dL_isHour_82 ?_
          refine lv_istore (lv' := [(9, .int ((yMs S n h x) + ((S 2 (h * 12 + x)) - (yCn S n h x)))), (13, .int (S 2 (h * 12 + x))), (12, .int (yCn S n h x)), (0, .ref (cb 0)), (1, .int (nI h)), (2, .ref (a 2)), (3, .ref (a 3)), (4, .ref (a 4)), (5, .ref (a 5)), (6, .ref (a 6)), (7, .ref (a 7)), (8, .ref (a 0)), (10, .int (nI 1)), (11, .int (nI x))]) hx hb dL_isHour_83 hl (by decide) rfl (fun ls hl => ?_)
          refine lv_aload_n hx hb dL_isHour_85 rfl (lv_at hl 3 rfl) ?_
          refine lv_iload hx hb dL_isHour_86 (lv_at hl 13 rfl) ?_
          refine lv_iload_n hx hb dL_isHour_88 rfl (lv_at hl 4 rfl) ?_
          refine k_goLi (H0 := u.heap) hP hA hS (vx_runV (rest := []) ⟨hx, hb, hml, hown, hts⟩ (c_X4_steps l hl0 D q (va_A (wC q cb cM cap nl) H.size) cb cM cap nl (nI x) (nI h) w0 hnow (by omega)) (cwV 2 hts gL_isHour_X4_steps rfl rfl rfl (by decide +kernel) ⟨Nat.le_of_ble_eq_true rfl, Nat.le_of_ble_eq_true rfl⟩) ⟨kBX_blind, (va_recv hK.1 hP.1 (ci := 5) (q0 := 10) rfl rfl), fun U hU hW => ⟨rfl, by rw [hU]; exact kW_cut hP, hK.warm hW, (hX.at hS hU hW).narrow (kW_sub hP (fun z9 h9 => hA z9 (Nat.le_trans hS.1 h9)))⟩⟩ rfl rfl hl.1 rfl (lv_room (Nat.le_of_ble_eq_true rfl)) dL_isHour_89 ⟨by show 1 + 12 * x + 2 ≤ 146; omega, by show 6 + 72 * x + 12 ≤ 900; omega⟩) (fun E ce q9 H locs hE hP hS h1 h2 h3 => absurd hE (by rw [(hA0.2.2 x (by omega)).1]; exact exC_no (by decide))) (fun r7 H locs hr7 hP hS => ?_)
          have hr7 := hr7.2
          rw [(hA0.2.2 x (by omega)).1] at hP hr7
          have hP : kW D A (wL q a S ((wC q cb cM cap nl))) H := hP
          refine k_top (y := S 2 (h * 12 + x)) hr7 ?_
          refine lv_iload hx hb dL_isHour_92 (lv_at hl 1 rfl) ?_
          refine k_icmp_ne (P := True) (tgt := 188) hx hb dL_isHour_94 (by decide) ⟨fun _ => trivial, fun _ => rfl⟩ (fun c_8 => ?_) (fun c_8 => ?_)
          · skip
            exact (c_8 trivial).elim
          · skip
            refine lv_aload_n hx hb dL_isHour_97 rfl (lv_at hl 3 rfl) ?_
            refine lv_iload hx hb dL_isHour_98 (lv_at hl 13 rfl) ?_
            refine lv_iload_n hx hb dL_isHour_100 rfl (lv_at hl 4 rfl) ?_
            refine k_goLi (H0 := u.heap) hP hA hS (vx_runV (rest := []) ⟨hx, hb, hml, hown, hts⟩ (c_X4_crowd l hl0 D q (va_A (wC q cb cM cap nl) H.size) cb cM cap nl (nI x) (nI h) w0 hnow (by omega)) (cwV 2 hts gL_isHour_X4_crowd rfl rfl rfl (by decide +kernel) ⟨Nat.le_of_ble_eq_true rfl, Nat.le_of_ble_eq_true rfl⟩) ⟨kBX_blind, (va_recv hK.1 hP.1 (ci := 5) (q0 := 10) rfl rfl), fun U hU hW => ⟨rfl, by rw [hU]; exact kW_cut hP, hK.warm hW, (hX.at hS hU hW).narrow (kW_sub hP (fun z9 h9 => hA z9 (Nat.le_trans hS.1 h9)))⟩⟩ rfl rfl hl.1 rfl (lv_room (Nat.le_of_ble_eq_true rfl)) dL_isHour_101 ⟨by show 1 + 12 * x + 2 + 2 ≤ 146; omega, by show 6 + 72 * x + 12 + 12 ≤ 900; omega⟩) (fun E ce q9 H locs hE hP hS h1 h2 h3 => absurd hE (by rw [(hA0.2.2 x (by omega)).2.1]; exact exC_no (by decide))) (fun r9 H locs hr9 hP hS => ?_)
            have hr9 := hr9.2
            rw [(hA0.2.2 x (by omega)).2.1] at hP hr9
            have hP : kW D A (wL q a S ((wC q cb cM cap nl))) H := hP
            refine k_top (y := S 3 (h * 12 + x)) hr9 ?_
            refine lv_aload_n hx hb dL_isHour_104 rfl (lv_at hl 6 rfl) ?_
            refine lv_iload hx hb dL_isHour_105 (lv_at hl 13 rfl) ?_
            refine lv_iload_n hx hb dL_isHour_107 rfl (lv_at hl 4 rfl) ?_
            refine k_callS (rest := [.int (S 3 (h * 12 + x))]) (r := S 3 (h * 12 + x)) ⟨hx, hb, hml, hown, hts⟩ (c_L_get l D q (a 3) (S 3) x h (by omega) (by omega) hb3) (va_cwS 3 hts gL_isHour_L_get rfl rfl rfl (by decide +kernel) ⟨Nat.le_of_ble_eq_true rfl, Nat.le_of_ble_eq_true rfl⟩) hK (hP.1.sub [3] rfl) rfl hl.1 rfl (Nat.le_of_ble_eq_true rfl) dL_isHour_108 ⟨by show 1 + 12 * x + 2 + 2 ≤ 146; omega, by show 6 + 72 * x + 12 + 12 ≤ 900; omega⟩ (fun _ h => h) ?_
            refine k_icmp_ne (P := True) (tgt := 188) hx hb dL_isHour_111 (by decide) ⟨fun _ => trivial, fun _ => rfl⟩ (fun c_10 => ?_) (fun c_10 => ?_)
            · skip
              exact (c_10 trivial).elim
            · skip
              refine lv_aload_n hx hb dL_isHour_114 rfl (lv_at hl 3 rfl) ?_
              refine lv_iload hx hb dL_isHour_115 (lv_at hl 13 rfl) ?_
              refine lv_iload_n hx hb dL_isHour_117 rfl (lv_at hl 4 rfl) ?_
              refine k_goLi (H0 := u.heap) hP hA hS (vx_runV (rest := []) ⟨hx, hb, hml, hown, hts⟩ (c_X4_reading l hl0 D q (va_A (wC q cb cM cap nl) H.size) cb cM cap nl (nI x) (nI h) w0 hnow (by omega)) (cwV 2 hts gL_isHour_X4_reading rfl rfl rfl (by decide +kernel) ⟨Nat.le_of_ble_eq_true rfl, Nat.le_of_ble_eq_true rfl⟩) ⟨kBX_blind, (va_recv hK.1 hP.1 (ci := 5) (q0 := 10) rfl rfl), fun U hU hW => ⟨rfl, by rw [hU]; exact kW_cut hP, hK.warm hW, (hX.at hS hU hW).narrow (kW_sub hP (fun z9 h9 => hA z9 (Nat.le_trans hS.1 h9)))⟩⟩ rfl rfl hl.1 rfl (lv_room (Nat.le_of_ble_eq_true rfl)) dL_isHour_118 ⟨by show 1 + 12 * x + 2 + 2 + 2 ≤ 146; omega, by show 6 + 72 * x + 12 + 12 + 12 ≤ 900; omega⟩) (fun E ce q9 H locs hE hP hS h1 h2 h3 => absurd hE (by rw [(hA0.2.2 x (by omega)).2.2.1]; exact exC_no (by decide))) (fun r11 H locs hr11 hP hS => ?_)
              have hr11 := hr11.2
              rw [(hA0.2.2 x (by omega)).2.2.1] at hP hr11
              have hP : kW D A (wL q a S ((wC q cb cM cap nl))) H := hP
              refine k_top (y := S 4 (h * 12 + x) - nI 1) hr11 ?_
              refine lv_aload hx hb dL_isHour_121 (lv_at hl 7 rfl) ?_
              refine lv_iload hx hb dL_isHour_123 (lv_at hl 13 rfl) ?_
              refine lv_iload_n hx hb dL_isHour_125 rfl (lv_at hl 4 rfl) ?_
              refine k_callS (rest := [.int (S 4 (h * 12 + x) - nI 1)]) (r := S 4 (h * 12 + x)) ⟨hx, hb, hml, hown, hts⟩ (c_L_get l D q (a 4) (S 4) x h (by omega) (by omega) hb4) (va_cwS 3 hts gL_isHour_L_get rfl rfl rfl (by decide +kernel) ⟨Nat.le_of_ble_eq_true rfl, Nat.le_of_ble_eq_true rfl⟩) hK (hP.1.sub [4] rfl) rfl hl.1 rfl (Nat.le_of_ble_eq_true rfl) dL_isHour_126 ⟨by show 1 + 12 * x + 2 + 2 + 2 ≤ 146; omega, by show 6 + 72 * x + 12 + 12 + 12 ≤ 900; omega⟩ (fun _ h => h) ?_
              refine lv_iconst (v := nI 1) hx hb dL_isHour_129 (by decide) ?_
              refine lv_isub hx hb dL_isHour_130 ?_
              refine k_icmp_ne (P := True) (tgt := 188) hx hb dL_isHour_131 (by decide) ⟨fun _ => trivial, fun _ => rfl⟩ (fun c_12 => ?_) (fun c_12 => ?_)
              · skip
                exact (c_12 trivial).elim
              · skip
                refine lv_aload_n hx hb dL_isHour_134 rfl (lv_at hl 3 rfl) ?_
                refine lv_iload hx hb dL_isHour_135 (lv_at hl 13 rfl) ?_
                refine lv_iload_n hx hb dL_isHour_137 rfl (lv_at hl 4 rfl) ?_
                refine k_goLi (H0 := u.heap) hP hA hS (vx_runV (rest := []) ⟨hx, hb, hml, hown, hts⟩ (c_X4_count l hl0 D q (va_A (wC q cb cM cap nl) H.size) cb cM cap nl (nI x) (nI h) w0 hnow (by omega)) (cwV 2 hts gL_isHour_X4_count rfl rfl rfl (by decide +kernel) ⟨Nat.le_of_ble_eq_true rfl, Nat.le_of_ble_eq_true rfl⟩) ⟨kBX_blind, (va_recv hK.1 hP.1 (ci := 5) (q0 := 10) rfl rfl), fun U hU hW => ⟨rfl, by rw [hU]; exact kW_cut hP, hK.warm hW, (hX.at hS hU hW).narrow (kW_sub hP (fun z9 h9 => hA z9 (Nat.le_trans hS.1 h9)))⟩⟩ rfl rfl hl.1 rfl (lv_room (Nat.le_of_ble_eq_true rfl)) dL_isHour_138 ⟨by show 1 + 12 * x + 2 + 2 + 2 + 2 ≤ 146; omega, by show 6 + 72 * x + 12 + 12 + 12 + 12 ≤ 900; omega⟩) (fun E ce q9 H locs hE hP hS h1 h2 h3 => absurd hE (by rw [(hA0.2.2 x (by omega)).2.2.2.1]; exact exC_no (by decide))) (fun r13 H locs hr13 hP hS => ?_)
                have hr13 := hr13.2
                rw [(hA0.2.2 x (by omega)).2.2.2.1] at hP hr13
                have hP : kW D A (wL q a S ((wC q cb cM cap nl))) H := hP
                refine k_top (y := yCn S n h x) hr13 ?_
                refine lv_iload hx hb dL_isHour_141 (lv_at hl 2 rfl) ?_
                refine k_icmp_ne (P := True) (tgt := 188) hx hb dL_isHour_143 (by decide) ⟨fun _ => trivial, fun _ => rfl⟩ (fun c_14 => ?_) (fun c_14 => ?_)
                · skip
                  exact (c_14 trivial).elim
                · skip
                  refine lv_aload_n hx hb dL_isHour_146 rfl (lv_at hl 3 rfl) ?_
                  refine lv_iload hx hb dL_isHour_147 (lv_at hl 13 rfl) ?_
                  refine lv_iload_n hx hb dL_isHour_149 rfl (lv_at hl 4 rfl) ?_
                  refine k_goLi (H0 := u.heap) hP hA hS (vx_runV (rest := []) ⟨hx, hb, hml, hown, hts⟩ (c_X4_countAnew l hl0 D q (va_A (wC q cb cM cap nl) H.size) cb cM cap nl (nI x) (nI h) n w0 hn9 (by omega) hnow (by omega)) (cwV 2 hts gL_isHour_X4_countAnew rfl rfl rfl (by decide +kernel) ⟨Nat.le_of_ble_eq_true rfl, Nat.le_of_ble_eq_true rfl⟩) ⟨kBX_blind, (va_recv hK.1 hP.1 (ci := 5) (q0 := 10) rfl rfl), fun U hU hW => ⟨rfl, by rw [hU]; exact kW_cut hP, hK.warm hW, (hX.at hS hU hW).narrow (kW_sub hP (fun z9 h9 => hA z9 (Nat.le_trans hS.1 h9)))⟩⟩ rfl rfl hl.1 rfl (lv_room (Nat.le_of_ble_eq_true rfl)) dL_isHour_150 ⟨by show 1 + 12 * x + 2 + 2 + 2 + 2 + 2 ≤ 146; omega, by show 6 + 72 * x + 12 + 12 + 12 + 12 + 12 ≤ 900; omega⟩) (fun E ce q9 H locs hE hP hS h1 h2 h3 => absurd hE (by rw [(hA0.2.2 x (by omega)).2.2.2.2.1]; exact exC_no (by decide))) (fun r15 H locs hr15 hP hS => ?_)
                  have hr15 := hr15.2
                  rw [(hA0.2.2 x (by omega)).2.2.2.2.1] at hP hr15
                  have hP : kW D A (wL q a S ((wC q cb cM cap nl))) H := hP
                  refine k_top (y := yCn S n h x) hr15 ?_
                  refine lv_iload hx hb dL_isHour_153 (lv_at hl 2 rfl) ?_
                  refine k_icmp_ne (P := True) (tgt := 188) hx hb dL_isHour_155 (by decide) ⟨fun _ => trivial, fun _ => rfl⟩ (fun c_16 => ?_) (fun c_16 => ?_)
                  · skip
                    exact (c_16 trivial).elim
                  · skip
                    refine lv_aload_n hx hb dL_isHour_158 rfl (lv_at hl 3 rfl) ?_
                    refine lv_iload hx hb dL_isHour_159 (lv_at hl 13 rfl) ?_
                    refine lv_iload_n hx hb dL_isHour_161 rfl (lv_at hl 4 rfl) ?_
                    refine k_goLi (H0 := u.heap) hP hA hS (vx_runV (rest := []) ⟨hx, hb, hml, hown, hts⟩ (c_X4_player l hl0 D q (va_A (wC q cb cM cap nl) H.size) cb cM cap nl (nI x) (nI h) w0 hnow (by omega)) (cwV 2 hts gL_isHour_X4_player rfl rfl rfl (by decide +kernel) ⟨Nat.le_of_ble_eq_true rfl, Nat.le_of_ble_eq_true rfl⟩) ⟨kBX_blind, (va_recv hK.1 hP.1 (ci := 5) (q0 := 10) rfl rfl), fun U hU hW => ⟨rfl, by rw [hU]; exact kW_cut hP, hK.warm hW, (hX.at hS hU hW).narrow (kW_sub hP (fun z9 h9 => hA z9 (Nat.le_trans hS.1 h9)))⟩⟩ rfl rfl hl.1 rfl (lv_room (Nat.le_of_ble_eq_true rfl)) dL_isHour_162 ⟨by show 1 + 12 * x + 2 + 2 + 2 + 2 + 2 + 2 ≤ 146; omega, by show 6 + 72 * x + 12 + 12 + 12 + 12 + 12 + 12 ≤ 900; omega⟩) (fun E ce q9 H locs hE hP hS h1 h2 h3 => absurd hE (by rw [(hA0.2.2 x (by omega)).2.2.2.2.2]; exact exC_no (by decide))) (fun r17 H locs hr17 hP hS => ?_)
                    have hr17 := hr17.2
                    rw [(hA0.2.2 x (by omega)).2.2.2.2.2] at hP hr17
                    have hP : kW D A (wL q a S ((wC q cb cM cap nl))) H := hP
                    refine k_top (y := S 5 (h * 12 + x) - nI 1) hr17 ?_
                    refine lv_aload hx hb dL_isHour_165 (lv_at hl 8 rfl) ?_
                    refine lv_iload_n hx hb dL_isHour_167 rfl (lv_at hl 4 rfl) ?_
                    refine k_lald hx hb hK hP.1 5 rfl h rfl (by omega) (by decide) dL_isHour_168 ?_
                    refine lv_iconst (v := nI 3) hx hb dL_isHour_169 (by decide) ?_
                    refine lv_iload hx hb dL_isHour_170 (lv_at hl 13 rfl) ?_
                    refine lv_imul hx hb dL_isHour_172 ?_
                    refine k_top (y := nI (3 * x)) (pk_mul _ _) ?_
                    refine lv_lshr (v := pk3 (S 5) h >>> ((nI (3 * x)).toInt64 &&& 63)) hx hb dL_isHour_173 rfl ?_
                    refine lv_ldc2 (v := 7) hx hb hown (hts _ cl2_L_isHour_88) dL_isHour_174 ?_
                    refine lv_land hx hb dL_isHour_177 ?_
                    refine lv_l2i (v := S 5 (h * 12 + x)) hx hb dL_isHour_178 (get3 hb5 (by omega)) ?_
                    refine lv_iconst (v := nI 1) hx hb dL_isHour_179 (by decide) ?_
                    refine lv_isub hx hb dL_isHour_180 ?_
                    refine k_icmp_ne (P := True) (tgt := 188) hx hb dL_isHour_181 (by decide) ⟨fun _ => trivial, fun _ => rfl⟩ (fun c_18 => ?_) (fun c_18 => ?_)
                    · skip
                      exact (c_18 trivial).elim
                    · skip
                      refine lv_iconst (v := nI 1) hx hb dL_isHour_184 (by decide) ?_
                      refine lv_goto (tgt := 189) hx hb dL_isHour_185 (by decide) ?_
                      refine lv_istore (lv' := [(10, .int (nI 1)), (9, .int ((yMs S n h x) + ((S 2 (h * 12 + x)) - (yCn S n h x)))), (13, .int (S 2 (h * 12 + x))), (12, .int (yCn S n h x)), (0, .ref (cb 0)), (1, .int (nI h)), (2, .ref (a 2)), (3, .ref (a 3)), (4, .ref (a 4)), (5, .ref (a 5)), (6, .ref (a 6)), (7, .ref (a 7)), (8, .ref (a 0)), (11, .int (nI x))]) hx hb dL_isHour_189 hl (by decide) rfl (fun ls hl => ?_)
                      refine lv_iinc (v := nI (x + 1)) (lv' := [(11, .int (nI (x + 1))), (10, .int (nI 1)), (9, .int ((yMs S n h x) + ((S 2 (h * 12 + x)) - (yCn S n h x)))), (13, .int (S 2 (h * 12 + x))), (12, .int (yCn S n h x)), (0, .ref (cb 0)), (1, .int (nI h)), (2, .ref (a 2)), (3, .ref (a 3)), (4, .ref (a 4)), (5, .ref (a 5)), (6, .ref (a 6)), (7, .ref (a 7)), (8, .ref (a 0))]) hx hb dL_isHour_191 hl (k := 13) rfl (k_iinc _) (by decide) rfl (fun ls hl => ?_)
                      refine lv_goto (tgt := 25) hx hb dL_isHour_194 (by decide) ?_
                      refine W.widen (k := 1 + 12 * (x + 1)) (n := 6 + 72 * (x + 1)) (by omega) (by omega) ?_
                      exact ih (x + 1) S ((yMs S n h x) + ((S 2 (h * 12 + x)) - (yCn S n h x))) (nI 1) (nI (x + 1)) (by omega) (by first | omega | assumption) rfl (by show _ = yMs S n h x + _; rw [if_pos c_6]) rfl rfl _ _ hP hS ls (lv_sub hl [5, 6, 7, 8, 9, 10, 11, 12, 13, 2, 1, 0] rfl)
        · skip
          refine lv_iload hx hb dL_isHour_69 (lv_at hl 1 rfl) ?_
          refine lv_iload hx hb dL_isHour_71 (lv_at hl 0 rfl) ?_
          refine lv_isub hx hb dL_isHour_73 ?_
          refine lv_goto (tgt := 82) hx hb dL_isHour_74 (by decide) ?_
          refine lv_iadd hx hb dL_isHour_82 ?_
          refine lv_istore (lv' := [(9, .int ((yMs S n h x) + ((yCn S n h x) - (S 2 (h * 12 + x))))), (13, .int (S 2 (h * 12 + x))), (12, .int (yCn S n h x)), (0, .ref (cb 0)), (1, .int (nI h)), (2, .ref (a 2)), (3, .ref (a 3)), (4, .ref (a 4)), (5, .ref (a 5)), (6, .ref (a 6)), (7, .ref (a 7)), (8, .ref (a 0)), (10, .int (nI 1)), (11, .int (nI x))]) hx hb dL_isHour_83 hl (by decide) rfl (fun ls hl => ?_)
          refine lv_aload_n hx hb dL_isHour_85 rfl (lv_at hl 3 rfl) ?_
          refine lv_iload hx hb dL_isHour_86 (lv_at hl 13 rfl) ?_
          refine lv_iload_n hx hb dL_isHour_88 rfl (lv_at hl 4 rfl) ?_
          refine k_goLi (H0 := u.heap) hP hA hS (vx_runV (rest := []) ⟨hx, hb, hml, hown, hts⟩ (c_X4_steps l hl0 D q (va_A (wC q cb cM cap nl) H.size) cb cM cap nl (nI x) (nI h) w0 hnow (by omega)) (cwV 2 hts gL_isHour_X4_steps rfl rfl rfl (by decide +kernel) ⟨Nat.le_of_ble_eq_true rfl, Nat.le_of_ble_eq_true rfl⟩) ⟨kBX_blind, (va_recv hK.1 hP.1 (ci := 5) (q0 := 10) rfl rfl), fun U hU hW => ⟨rfl, by rw [hU]; exact kW_cut hP, hK.warm hW, (hX.at hS hU hW).narrow (kW_sub hP (fun z9 h9 => hA z9 (Nat.le_trans hS.1 h9)))⟩⟩ rfl rfl hl.1 rfl (lv_room (Nat.le_of_ble_eq_true rfl)) dL_isHour_89 ⟨by show 1 + 12 * x + 2 ≤ 146; omega, by show 6 + 72 * x + 12 ≤ 900; omega⟩) (fun E ce q9 H locs hE hP hS h1 h2 h3 => absurd hE (by rw [(hA0.2.2 x (by omega)).1]; exact exC_no (by decide))) (fun r19 H locs hr19 hP hS => ?_)
          have hr19 := hr19.2
          rw [(hA0.2.2 x (by omega)).1] at hP hr19
          have hP : kW D A (wL q a S ((wC q cb cM cap nl))) H := hP
          refine k_top (y := S 2 (h * 12 + x)) hr19 ?_
          refine lv_iload hx hb dL_isHour_92 (lv_at hl 1 rfl) ?_
          refine k_icmp_ne (P := True) (tgt := 188) hx hb dL_isHour_94 (by decide) ⟨fun _ => trivial, fun _ => rfl⟩ (fun c_20 => ?_) (fun c_20 => ?_)
          · skip
            exact (c_20 trivial).elim
          · skip
            refine lv_aload_n hx hb dL_isHour_97 rfl (lv_at hl 3 rfl) ?_
            refine lv_iload hx hb dL_isHour_98 (lv_at hl 13 rfl) ?_
            refine lv_iload_n hx hb dL_isHour_100 rfl (lv_at hl 4 rfl) ?_
            refine k_goLi (H0 := u.heap) hP hA hS (vx_runV (rest := []) ⟨hx, hb, hml, hown, hts⟩ (c_X4_crowd l hl0 D q (va_A (wC q cb cM cap nl) H.size) cb cM cap nl (nI x) (nI h) w0 hnow (by omega)) (cwV 2 hts gL_isHour_X4_crowd rfl rfl rfl (by decide +kernel) ⟨Nat.le_of_ble_eq_true rfl, Nat.le_of_ble_eq_true rfl⟩) ⟨kBX_blind, (va_recv hK.1 hP.1 (ci := 5) (q0 := 10) rfl rfl), fun U hU hW => ⟨rfl, by rw [hU]; exact kW_cut hP, hK.warm hW, (hX.at hS hU hW).narrow (kW_sub hP (fun z9 h9 => hA z9 (Nat.le_trans hS.1 h9)))⟩⟩ rfl rfl hl.1 rfl (lv_room (Nat.le_of_ble_eq_true rfl)) dL_isHour_101 ⟨by show 1 + 12 * x + 2 + 2 ≤ 146; omega, by show 6 + 72 * x + 12 + 12 ≤ 900; omega⟩) (fun E ce q9 H locs hE hP hS h1 h2 h3 => absurd hE (by rw [(hA0.2.2 x (by omega)).2.1]; exact exC_no (by decide))) (fun r21 H locs hr21 hP hS => ?_)
            have hr21 := hr21.2
            rw [(hA0.2.2 x (by omega)).2.1] at hP hr21
            have hP : kW D A (wL q a S ((wC q cb cM cap nl))) H := hP
            refine k_top (y := S 3 (h * 12 + x)) hr21 ?_
            refine lv_aload_n hx hb dL_isHour_104 rfl (lv_at hl 6 rfl) ?_
            refine lv_iload hx hb dL_isHour_105 (lv_at hl 13 rfl) ?_
            refine lv_iload_n hx hb dL_isHour_107 rfl (lv_at hl 4 rfl) ?_
            refine k_callS (rest := [.int (S 3 (h * 12 + x))]) (r := S 3 (h * 12 + x)) ⟨hx, hb, hml, hown, hts⟩ (c_L_get l D q (a 3) (S 3) x h (by omega) (by omega) hb3) (va_cwS 3 hts gL_isHour_L_get rfl rfl rfl (by decide +kernel) ⟨Nat.le_of_ble_eq_true rfl, Nat.le_of_ble_eq_true rfl⟩) hK (hP.1.sub [3] rfl) rfl hl.1 rfl (Nat.le_of_ble_eq_true rfl) dL_isHour_108 ⟨by show 1 + 12 * x + 2 + 2 ≤ 146; omega, by show 6 + 72 * x + 12 + 12 ≤ 900; omega⟩ (fun _ h => h) ?_
            refine k_icmp_ne (P := True) (tgt := 188) hx hb dL_isHour_111 (by decide) ⟨fun _ => trivial, fun _ => rfl⟩ (fun c_22 => ?_) (fun c_22 => ?_)
            · skip
              exact (c_22 trivial).elim
            · skip
              refine lv_aload_n hx hb dL_isHour_114 rfl (lv_at hl 3 rfl) ?_
              refine lv_iload hx hb dL_isHour_115 (lv_at hl 13 rfl) ?_
              refine lv_iload_n hx hb dL_isHour_117 rfl (lv_at hl 4 rfl) ?_
              refine k_goLi (H0 := u.heap) hP hA hS (vx_runV (rest := []) ⟨hx, hb, hml, hown, hts⟩ (c_X4_reading l hl0 D q (va_A (wC q cb cM cap nl) H.size) cb cM cap nl (nI x) (nI h) w0 hnow (by omega)) (cwV 2 hts gL_isHour_X4_reading rfl rfl rfl (by decide +kernel) ⟨Nat.le_of_ble_eq_true rfl, Nat.le_of_ble_eq_true rfl⟩) ⟨kBX_blind, (va_recv hK.1 hP.1 (ci := 5) (q0 := 10) rfl rfl), fun U hU hW => ⟨rfl, by rw [hU]; exact kW_cut hP, hK.warm hW, (hX.at hS hU hW).narrow (kW_sub hP (fun z9 h9 => hA z9 (Nat.le_trans hS.1 h9)))⟩⟩ rfl rfl hl.1 rfl (lv_room (Nat.le_of_ble_eq_true rfl)) dL_isHour_118 ⟨by show 1 + 12 * x + 2 + 2 + 2 ≤ 146; omega, by show 6 + 72 * x + 12 + 12 + 12 ≤ 900; omega⟩) (fun E ce q9 H locs hE hP hS h1 h2 h3 => absurd hE (by rw [(hA0.2.2 x (by omega)).2.2.1]; exact exC_no (by decide))) (fun r23 H locs hr23 hP hS => ?_)
              have hr23 := hr23.2
              rw [(hA0.2.2 x (by omega)).2.2.1] at hP hr23
              have hP : kW D A (wL q a S ((wC q cb cM cap nl))) H := hP
              refine k_top (y := S 4 (h * 12 + x) - nI 1) hr23 ?_
              refine lv_aload hx hb dL_isHour_121 (lv_at hl 7 rfl) ?_
              refine lv_iload hx hb dL_isHour_123 (lv_at hl 13 rfl) ?_
              refine lv_iload_n hx hb dL_isHour_125 rfl (lv_at hl 4 rfl) ?_
              refine k_callS (rest := [.int (S 4 (h * 12 + x) - nI 1)]) (r := S 4 (h * 12 + x)) ⟨hx, hb, hml, hown, hts⟩ (c_L_get l D q (a 4) (S 4) x h (by omega) (by omega) hb4) (va_cwS 3 hts gL_isHour_L_get rfl rfl rfl (by decide +kernel) ⟨Nat.le_of_ble_eq_true rfl, Nat.le_of_ble_eq_true rfl⟩) hK (hP.1.sub [4] rfl) rfl hl.1 rfl (Nat.le_of_ble_eq_true rfl) dL_isHour_126 ⟨by show 1 + 12 * x + 2 + 2 + 2 ≤ 146; omega, by show 6 + 72 * x + 12 + 12 + 12 ≤ 900; omega⟩ (fun _ h => h) ?_
              refine lv_iconst (v := nI 1) hx hb dL_isHour_129 (by decide) ?_
              refine lv_isub hx hb dL_isHour_130 ?_
              refine k_icmp_ne (P := True) (tgt := 188) hx hb dL_isHour_131 (by decide) ⟨fun _ => trivial, fun _ => rfl⟩ (fun c_24 => ?_) (fun c_24 => ?_)
              · skip
                exact (c_24 trivial).elim
              · skip
                refine lv_aload_n hx hb dL_isHour_134 rfl (lv_at hl 3 rfl) ?_
                refine lv_iload hx hb dL_isHour_135 (lv_at hl 13 rfl) ?_
                refine lv_iload_n hx hb dL_isHour_137 rfl (lv_at hl 4 rfl) ?_
                refine k_goLi (H0 := u.heap) hP hA hS (vx_runV (rest := []) ⟨hx, hb, hml, hown, hts⟩ (c_X4_count l hl0 D q (va_A (wC q cb cM cap nl) H.size) cb cM cap nl (nI x) (nI h) w0 hnow (by omega)) (cwV 2 hts gL_isHour_X4_count rfl rfl rfl (by decide +kernel) ⟨Nat.le_of_ble_eq_true rfl, Nat.le_of_ble_eq_true rfl⟩) ⟨kBX_blind, (va_recv hK.1 hP.1 (ci := 5) (q0 := 10) rfl rfl), fun U hU hW => ⟨rfl, by rw [hU]; exact kW_cut hP, hK.warm hW, (hX.at hS hU hW).narrow (kW_sub hP (fun z9 h9 => hA z9 (Nat.le_trans hS.1 h9)))⟩⟩ rfl rfl hl.1 rfl (lv_room (Nat.le_of_ble_eq_true rfl)) dL_isHour_138 ⟨by show 1 + 12 * x + 2 + 2 + 2 + 2 ≤ 146; omega, by show 6 + 72 * x + 12 + 12 + 12 + 12 ≤ 900; omega⟩) (fun E ce q9 H locs hE hP hS h1 h2 h3 => absurd hE (by rw [(hA0.2.2 x (by omega)).2.2.2.1]; exact exC_no (by decide))) (fun r25 H locs hr25 hP hS => ?_)
                have hr25 := hr25.2
                rw [(hA0.2.2 x (by omega)).2.2.2.1] at hP hr25
                have hP : kW D A (wL q a S ((wC q cb cM cap nl))) H := hP
                refine k_top (y := yCn S n h x) hr25 ?_
                refine lv_iload hx hb dL_isHour_141 (lv_at hl 2 rfl) ?_
                refine k_icmp_ne (P := True) (tgt := 188) hx hb dL_isHour_143 (by decide) ⟨fun _ => trivial, fun _ => rfl⟩ (fun c_26 => ?_) (fun c_26 => ?_)
                · skip
                  exact (c_26 trivial).elim
                · skip
                  refine lv_aload_n hx hb dL_isHour_146 rfl (lv_at hl 3 rfl) ?_
                  refine lv_iload hx hb dL_isHour_147 (lv_at hl 13 rfl) ?_
                  refine lv_iload_n hx hb dL_isHour_149 rfl (lv_at hl 4 rfl) ?_
                  refine k_goLi (H0 := u.heap) hP hA hS (vx_runV (rest := []) ⟨hx, hb, hml, hown, hts⟩ (c_X4_countAnew l hl0 D q (va_A (wC q cb cM cap nl) H.size) cb cM cap nl (nI x) (nI h) n w0 hn9 (by omega) hnow (by omega)) (cwV 2 hts gL_isHour_X4_countAnew rfl rfl rfl (by decide +kernel) ⟨Nat.le_of_ble_eq_true rfl, Nat.le_of_ble_eq_true rfl⟩) ⟨kBX_blind, (va_recv hK.1 hP.1 (ci := 5) (q0 := 10) rfl rfl), fun U hU hW => ⟨rfl, by rw [hU]; exact kW_cut hP, hK.warm hW, (hX.at hS hU hW).narrow (kW_sub hP (fun z9 h9 => hA z9 (Nat.le_trans hS.1 h9)))⟩⟩ rfl rfl hl.1 rfl (lv_room (Nat.le_of_ble_eq_true rfl)) dL_isHour_150 ⟨by show 1 + 12 * x + 2 + 2 + 2 + 2 + 2 ≤ 146; omega, by show 6 + 72 * x + 12 + 12 + 12 + 12 + 12 ≤ 900; omega⟩) (fun E ce q9 H locs hE hP hS h1 h2 h3 => absurd hE (by rw [(hA0.2.2 x (by omega)).2.2.2.2.1]; exact exC_no (by decide))) (fun r27 H locs hr27 hP hS => ?_)
                  have hr27 := hr27.2
                  rw [(hA0.2.2 x (by omega)).2.2.2.2.1] at hP hr27
                  have hP : kW D A (wL q a S ((wC q cb cM cap nl))) H := hP
                  refine k_top (y := yCn S n h x) hr27 ?_
                  refine lv_iload hx hb dL_isHour_153 (lv_at hl 2 rfl) ?_
                  refine k_icmp_ne (P := True) (tgt := 188) hx hb dL_isHour_155 (by decide) ⟨fun _ => trivial, fun _ => rfl⟩ (fun c_28 => ?_) (fun c_28 => ?_)
                  · skip
                    exact (c_28 trivial).elim
                  · skip
                    refine lv_aload_n hx hb dL_isHour_158 rfl (lv_at hl 3 rfl) ?_
                    refine lv_iload hx hb dL_isHour_159 (lv_at hl 13 rfl) ?_
                    refine lv_iload_n hx hb dL_isHour_161 rfl (lv_at hl 4 rfl) ?_
                    refine k_goLi (H0 := u.heap) hP hA hS (vx_runV (rest := []) ⟨hx, hb, hml, hown, hts⟩ (c_X4_player l hl0 D q (va_A (wC q cb cM cap nl) H.size) cb cM cap nl (nI x) (nI h) w0 hnow (by omega)) (cwV 2 hts gL_isHour_X4_player rfl rfl rfl (by decide +kernel) ⟨Nat.le_of_ble_eq_true rfl, Nat.le_of_ble_eq_true rfl⟩) ⟨kBX_blind, (va_recv hK.1 hP.1 (ci := 5) (q0 := 10) rfl rfl), fun U hU hW => ⟨rfl, by rw [hU]; exact kW_cut hP, hK.warm hW, (hX.at hS hU hW).narrow (kW_sub hP (fun z9 h9 => hA z9 (Nat.le_trans hS.1 h9)))⟩⟩ rfl rfl hl.1 rfl (lv_room (Nat.le_of_ble_eq_true rfl)) dL_isHour_162 ⟨by show 1 + 12 * x + 2 + 2 + 2 + 2 + 2 + 2 ≤ 146; omega, by show 6 + 72 * x + 12 + 12 + 12 + 12 + 12 + 12 ≤ 900; omega⟩) (fun E ce q9 H locs hE hP hS h1 h2 h3 => absurd hE (by rw [(hA0.2.2 x (by omega)).2.2.2.2.2]; exact exC_no (by decide))) (fun r29 H locs hr29 hP hS => ?_)
                    have hr29 := hr29.2
                    rw [(hA0.2.2 x (by omega)).2.2.2.2.2] at hP hr29
                    have hP : kW D A (wL q a S ((wC q cb cM cap nl))) H := hP
                    refine k_top (y := S 5 (h * 12 + x) - nI 1) hr29 ?_
                    refine lv_aload hx hb dL_isHour_165 (lv_at hl 8 rfl) ?_
                    refine lv_iload_n hx hb dL_isHour_167 rfl (lv_at hl 4 rfl) ?_
                    refine k_lald hx hb hK hP.1 5 rfl h rfl (by omega) (by decide) dL_isHour_168 ?_
                    refine lv_iconst (v := nI 3) hx hb dL_isHour_169 (by decide) ?_
                    refine lv_iload hx hb dL_isHour_170 (lv_at hl 13 rfl) ?_
                    refine lv_imul hx hb dL_isHour_172 ?_
                    refine k_top (y := nI (3 * x)) (pk_mul _ _) ?_
                    refine lv_lshr (v := pk3 (S 5) h >>> ((nI (3 * x)).toInt64 &&& 63)) hx hb dL_isHour_173 rfl ?_
                    refine lv_ldc2 (v := 7) hx hb hown (hts _ cl2_L_isHour_88) dL_isHour_174 ?_
                    refine lv_land hx hb dL_isHour_177 ?_
                    refine lv_l2i (v := S 5 (h * 12 + x)) hx hb dL_isHour_178 (get3 hb5 (by omega)) ?_
                    refine lv_iconst (v := nI 1) hx hb dL_isHour_179 (by decide) ?_
                    refine lv_isub hx hb dL_isHour_180 ?_
                    refine k_icmp_ne (P := True) (tgt := 188) hx hb dL_isHour_181 (by decide) ⟨fun _ => trivial, fun _ => rfl⟩ (fun c_30 => ?_) (fun c_30 => ?_)
                    · skip
                      exact (c_30 trivial).elim
                    · skip
                      refine lv_iconst (v := nI 1) hx hb dL_isHour_184 (by decide) ?_
                      refine lv_goto (tgt := 189) hx hb dL_isHour_185 (by decide) ?_
                      refine lv_istore (lv' := [(10, .int (nI 1)), (9, .int ((yMs S n h x) + ((yCn S n h x) - (S 2 (h * 12 + x))))), (13, .int (S 2 (h * 12 + x))), (12, .int (yCn S n h x)), (0, .ref (cb 0)), (1, .int (nI h)), (2, .ref (a 2)), (3, .ref (a 3)), (4, .ref (a 4)), (5, .ref (a 5)), (6, .ref (a 6)), (7, .ref (a 7)), (8, .ref (a 0)), (11, .int (nI x))]) hx hb dL_isHour_189 hl (by decide) rfl (fun ls hl => ?_)
                      refine lv_iinc (v := nI (x + 1)) (lv' := [(11, .int (nI (x + 1))), (10, .int (nI 1)), (9, .int ((yMs S n h x) + ((yCn S n h x) - (S 2 (h * 12 + x))))), (13, .int (S 2 (h * 12 + x))), (12, .int (yCn S n h x)), (0, .ref (cb 0)), (1, .int (nI h)), (2, .ref (a 2)), (3, .ref (a 3)), (4, .ref (a 4)), (5, .ref (a 5)), (6, .ref (a 6)), (7, .ref (a 7)), (8, .ref (a 0))]) hx hb dL_isHour_191 hl (k := 13) rfl (k_iinc _) (by decide) rfl (fun ls hl => ?_)
                      refine lv_goto (tgt := 25) hx hb dL_isHour_194 (by decide) ?_
                      refine W.widen (k := 1 + 12 * (x + 1)) (n := 6 + 72 * (x + 1)) (by omega) (by omega) ?_
                      exact ih (x + 1) S ((yMs S n h x) + ((yCn S n h x) - (S 2 (h * 12 + x)))) (nI 1) (nI (x + 1)) (by omega) (by first | omega | assumption) rfl (by show _ = yMs S n h x + _; rw [if_neg c_6]) rfl rfl _ _ hP hS ls (lv_sub hl [5, 6, 7, 8, 9, 10, 11, 12, 13, 2, 1, 0] rfl)
set_option maxHeartbeats 4000000 in
set_option maxRecDepth 100000 in
theorem c_L_isHour (l : Launch) (hl0 : l.stackTraces = false) (D : va_G) (q : Nat → ClassId) (A : Nat → Prop) (a : Nat → Nat) (S : Nat → Nat → Int32) (cb : Nat → Nat) (cM : Nat → Nat → Int32) (cap nl : Nat) (h n w0 : Nat) (hh : h < w0) (hb4 : bd (S 4) 32767) (ht : yT S n) (hn : S 0 1 = nI n) (hn12 : n ≤ 12) (hn9 : cM 0 1 = nI n) (hnow : cM 0 0 = nI w0) (hw20 : w0 ≤ 20) (hb2 : bd (S 2) 32767) (hb3 : bd (S 3) 32767) (hb5 : bd (S 5) 7) (hA0 : yHA S cM n h) : Met l yL_isHour wsL_isHour ({ frames := 10, cells := 146, slots := 900, locals := 287 } : Room) (va_Pc [.ref (cb 0), .int (nI h), .ref (a 2), .ref (a 3), .ref (a 4), .ref (a 5), .ref (a 6), .ref (a 7), .ref (a 0)] (kBL D q A (fun H => kW D A (wL q a S ((wC q cb cM cap nl))) H))) (kRi D A (nI 1) (wL q a S ((wC q cb cM cap nl)))) 146 900 A := by
  refine Met.ofW (cc := cL_isHour) (maxL := 14) (ret := (some .boolean)) (by decide) rfl ?_
  intro p e u m args below meth c s₁ B hml0 hv
  obtain ⟨rfl, ⟨hP, hK, hX⟩, hA⟩ := hv
  have C0 : kAt p u m #[.ref (cb 0), .int (nI h), .ref (a 2), .ref (a 3), .ref (a 4), .ref (a 5), .ref (a 6), .ref (a 7), .ref (a 0)] meth c cL_isHour 14 (some .boolean) RL wsL_isHour := kAt_of B hml0
  obtain ⟨hx, hb, hr, hml, hown, hts, hlocks⟩ := id C0
  have hS : va_S A u.heap u.heap [] := va_S.rf
  have hl := lv_entry ([.ref (cb 0), .int (nI h), .ref (a 2), .ref (a 3), .ref (a 4), .ref (a 5), .ref (a 6), .ref (a 7), .ref (a 0)]) (n := 14) (Nat.le_of_ble_eq_true rfl)
  rw [lg_entry_eq]
  generalize (lg_sl ([.ref (cb 0), .int (nI h), .ref (a 2), .ref (a 3), .ref (a 4), .ref (a 5), .ref (a 6), .ref (a 7), .ref (a 0)]) ++ List.replicate (14 - (lg_sl ([.ref (cb 0), .int (nI h), .ref (a 2), .ref (a 3), .ref (a 4), .ref (a 5), .ref (a 6), .ref (a 7), .ref (a 0)])).length) Slot.unset).toArray = ls at hl ⊢
  have hl : lv_has ls 14 [(0, .ref (cb 0)), (1, .int (nI h)), (2, .ref (a 2)), (3, .ref (a 3)), (4, .ref (a 4)), (5, .ref (a 5)), (6, .ref (a 6)), (7, .ref (a 7)), (8, .ref (a 0))] := hl
  refine lv_iconst (v := nI 0) hx hb dL_isHour_0 (by decide) ?_
  refine lv_istore (lv' := [(9, .int (nI 0)), (0, .ref (cb 0)), (1, .int (nI h)), (2, .ref (a 2)), (3, .ref (a 3)), (4, .ref (a 4)), (5, .ref (a 5)), (6, .ref (a 6)), (7, .ref (a 7)), (8, .ref (a 0))]) hx hb dL_isHour_1 hl (by decide) rfl (fun ls hl => ?_)
  refine lv_aload_n hx hb dL_isHour_3 rfl (lv_at hl 1 rfl) ?_
  refine lv_iload_n hx hb dL_isHour_4 rfl (lv_at hl 2 rfl) ?_
  refine k_goLi (H0 := u.heap) hP hA hS (vx_runV (rest := []) ⟨hx, hb, hml, hown, hts⟩ (c_X4_through l hl0 D q (va_A (wC q cb cM cap nl) u.heap.size) cb cM cap nl (nI h) w0 hnow (by omega)) (cwV 1 hts gL_isHour_X4_through rfl rfl rfl (by decide +kernel) ⟨Nat.le_of_ble_eq_true rfl, Nat.le_of_ble_eq_true rfl⟩) ⟨kBX_blind, (va_recv hK.1 hP.1 (ci := 5) (q0 := 10) rfl rfl), fun U hU hW => ⟨rfl, by rw [hU]; exact kW_cut hP, hK.warm hW, (hX.at hS hU hW).narrow (kW_sub hP (fun z9 h9 => hA z9 (Nat.le_trans hS.1 h9)))⟩⟩ rfl rfl hl.1 rfl (lv_room (Nat.le_of_ble_eq_true rfl)) dL_isHour_5 ⟨by show 0 + 1 ≤ 146; omega, by show 0 + 6 ≤ 900; omega⟩) (fun E ce q9 H locs hE hP hS h1 h2 h3 => absurd hE (by rw [hA0.1]; exact exC_no (by decide))) (fun r31 H locs hr31 hP hS => ?_)
  have hr31 := hr31.2
  rw [hA0.1] at hP hr31
  have hP : kW D A (wL q a S ((wC q cb cM cap nl))) H := hP
  refine k_top (y := S 6 h) hr31 ?_
  refine lv_aload hx hb dL_isHour_8 (lv_at hl 7 rfl) ?_
  refine lv_iload_n hx hb dL_isHour_10 rfl (lv_at hl 2 rfl) ?_
  refine k_iald hx hb hK hP.1 6 rfl h rfl (by omega) (by decide) dL_isHour_11 ?_
  refine k_icmp_ne (P := True) (tgt := 19) hx hb dL_isHour_12 (by decide) ⟨fun _ => trivial, fun _ => rfl⟩ (fun c_32 => ?_) (fun c_32 => ?_)
  · skip
    exact (c_32 trivial).elim
  · skip
    refine lv_iconst (v := nI 1) hx hb dL_isHour_15 (by decide) ?_
    refine lv_goto (tgt := 20) hx hb dL_isHour_16 (by decide) ?_
    refine lv_istore (lv' := [(10, .int (nI 1)), (9, .int (nI 0)), (0, .ref (cb 0)), (1, .int (nI h)), (2, .ref (a 2)), (3, .ref (a 3)), (4, .ref (a 4)), (5, .ref (a 5)), (6, .ref (a 6)), (7, .ref (a 7)), (8, .ref (a 0))]) hx hb dL_isHour_20 hl (by decide) rfl (fun ls hl => ?_)
    refine lv_iconst (v := nI 0) hx hb dL_isHour_22 (by decide) ?_
    refine lv_istore (lv' := [(11, .int (nI 0)), (10, .int (nI 1)), (9, .int (nI 0)), (0, .ref (cb 0)), (1, .int (nI h)), (2, .ref (a 2)), (3, .ref (a 3)), (4, .ref (a 4)), (5, .ref (a 5)), (6, .ref (a 6)), (7, .ref (a 7)), (8, .ref (a 0))]) hx hb dL_isHour_23 hl (by decide) rfl (fun ls hl => ?_)
    refine W.widen (k := 1 + 12 * 0) (n := 6 + 72 * 0) (by omega) (by omega) ?_
    exact lp_L_isHour_25 hl0 a S cb cM cap nl h n w0 hh hb4 ht hn hn12 hn9 hnow hw20 hb2 hb3 hb5 hA0 C0 hK hX hA ((12 - 0) + 1) 0 S (nI 0) (nI 1) (nI 0) (by omega) (by first | omega | assumption) rfl (by rfl) rfl rfl _ _ hP hS ls (lv_sub hl [3, 4, 5, 6, 7, 8, 9, 10, 11, 2, 1, 0] rfl)
