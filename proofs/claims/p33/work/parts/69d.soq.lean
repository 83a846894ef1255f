set_option maxHeartbeats 4000000 in
set_option maxRecDepth 100000 in
theorem lp_L_isSo_221 {p : Program} {l : Launch} {e : Env} {u : State} {m : MethodId} {below : List Frame} {meth : Method} {c : Code} {D : va_G} {q : Nat → ClassId} {A : Nat → Prop} (hl0 : l.stackTraces = false) (a : Nat → Nat) (S : Nat → Nat → Int32) (cb : Nat → Nat) (cM : Nat → Nat → Int32) (cap nl : Nat) (z : Int32) (n w0 : Nat) (hb4 : bd (S 4) 32767) (ht : yT S n) (hn : S 0 1 = nI n) (hn12 : n ≤ 12) (hn9 : cM 0 1 = nI n) (hnow : cM 0 0 = nI w0) (hw20 : w0 ≤ 20) (hw : S 0 0 = nI w0) (hO : yO S nl) (hnl10 : nl ≤ 10) (hnlq : S 0 2 = nI nl) (hnl : nl ≤ cap ∧ cap ≤ 40 ∧ nl ≤ 30) (hoc : okC cM nl) (hA0 : ySA S cM n w0 nl) (C0 : kAt p u m #[.ref (cb 0), .int (z), .ref (a 4), .ref (a 7), .ref (a 8), .ref (a 9), .ref (a 0)] meth c cL_isSo 13 (some .boolean) RL wsL_isSo) (hK : kK D q u) (hX : kX A u) (hA : ∀ z : Nat, u.heap.size ≤ z → A z) :
    ∀ (f : Nat) (k : Nat) (T : Nat → Nat → Int32) (x9 : Int32) (x10 : Int32), nl - k < f → k ≤ nl → T = S → x9 = nI 1 → x10 = nI k → ∀ (H : Heap) (locs : List Loc), kW D A (wL q a T ((wC q cb cM cap nl))) H → va_S A u.heap H locs → ∀ (ls : Array Slot), lv_has ls 13 [(0, .ref (cb 0)), (1, .int (z)), (2, .ref (a 4)), (3, .ref (a 7)), (4, .ref (a 8)), (5, .ref (a 9)), (6, .ref (a 0)), (9, .int x9), (10, .int x10)] → W p l e ({ frames := 8, cells := 62, slots := 400, locals := 245 } : Room) u m #[.ref (cb 0), .int (z), .ref (a 4), .ref (a 7), .ref (a 8), .ref (a 9), .ref (a 0)] below meth c H locs (20 + 4 * k) (120 + 24 * k) (MQ below (kRi D A (nI 1) (wL q a S ((wC q cb cM cap nl)))) #[.ref (cb 0), .int (z), .ref (a 4), .ref (a 7), .ref (a 8), .ref (a 9), .ref (a 0)] u 62 400 A) (F0 m 221 ls []) := by
  obtain ⟨hx, hb, hr, hml, hown, hts, hlocks⟩ := id C0
  intro f
  induction f with
  | zero =>
    intro k T x9 x10 hf
    exact absurd hf (Nat.not_lt_zero _)
  | succ f ih =>
    intro k T x9 x10 hf hkk eT e9 e10 H locs hP hS ls hl
    replace eT := eT.symm
    subst eT
    replace e9 := e9.symm
    subst e9
    replace e10 := e10.symm
    subst e10
    refine lv_iload hx hb dL_isSo_221 (lv_at hl 8 rfl) ?_
    refine lv_aload hx hb dL_isSo_223 (lv_at hl 6 rfl) ?_
    refine lv_iconst (v := nI 2) hx hb dL_isSo_225 (by decide) ?_
    refine k_iald hx hb hK hP.1 0 rfl 2 rfl (by omega) (by decide) dL_isSo_226 ?_
    refine k_top (y := nI nl) hnlq ?_
    refine k_icmp_ge (P := k < nl) (tgt := 358) hx hb dL_isSo_227 (by decide) (nI_ltI (by omega) (by omega)) (fun c_1 => ?_) (fun c_1 => ?_)
    · skip
      refine lv_iload hx hb dL_isSo_358 (lv_at hl 7 rfl) ?_
      refine W.widen (k := 62) (n := 400) (by first | exact Nat.le_of_ble_eq_true rfl | omega) (by first | exact Nat.le_of_ble_eq_true rfl | omega) ?_
      exact k_zretW hx hb hr hlocks rfl hP hS (by rfl) dL_isSo_360
    · skip
      refine lv_iload hx hb dL_isSo_230 (lv_at hl 7 rfl) ?_
      refine k_if_eq (P := False) (tgt := 358) hx hb dL_isSo_232 (by decide) ⟨fun z => absurd z (by decide), False.elim⟩ (fun c_2 => ?_) (fun c_2 => ?_)
      · skip
        exact c_2.elim
      · skip
        obtain ⟨⟨-, ho1⟩, ⟨-, ho2⟩, ⟨-, ho3⟩⟩ := hO k (by omega)
        refine lv_iload hx hb dL_isSo_235 (lv_at hl 8 rfl) ?_
        refine lv_aload_n hx hb dL_isSo_237 rfl (lv_at hl 2 rfl) ?_
        refine lv_aload_n hx hb dL_isSo_238 rfl (lv_at hl 3 rfl) ?_
        refine lv_aload hx hb dL_isSo_239 (lv_at hl 4 rfl) ?_
        refine lv_aload hx hb dL_isSo_241 (lv_at hl 6 rfl) ?_
        refine k_callS (rest := []) (r := yB S n w0 k) ⟨hx, hb, hml, hown, hts⟩ (c_L_bill l D q a S ((wC q cb cM cap nl)) k n w0 nl (by omega) hnl10 hb4 ht hn hn12 hw hw20 hO) (va_cwS 5 hts gL_isSo_L_bill rfl rfl rfl (by decide +kernel) ⟨Nat.le_of_ble_eq_true rfl, Nat.le_of_ble_eq_true rfl⟩) hK hP.1 rfl hl.1 rfl (Nat.le_of_ble_eq_true rfl) dL_isSo_243 ⟨by show 20 + 4 * k ≤ 62; omega, by show 120 + 24 * k ≤ 400; omega⟩ (fun _ h => h) ?_
        refine lv_istore (lv' := [(11, .int (yB S n w0 k)), (0, .ref (cb 0)), (1, .int (z)), (2, .ref (a 4)), (3, .ref (a 7)), (4, .ref (a 8)), (5, .ref (a 9)), (6, .ref (a 0)), (9, .int (nI 1)), (10, .int (nI k))]) hx hb dL_isSo_246 hl (by decide) rfl (fun ls hl => ?_)
        refine lv_iload_n hx hb dL_isSo_248 rfl (lv_at hl 2 rfl) ?_
        refine lv_iconst (v := nI 2) hx hb dL_isSo_249 (by decide) ?_
        refine lv_ishr hx hb dL_isSo_250 ?_
        refine lv_bipush (v := nI 40) hx hb dL_isSo_251 (by decide) ?_
        refine k_callS (rest := []) (r := nI (lowN (z >>> ((nI 2) &&& 31)) 40)) ⟨hx, hb, hml, hown, hts⟩ (c_L_low l D q (z >>> ((nI 2) &&& 31)) 40 (by omega) (by omega)) (va_cwS 2 hts gL_isSo_L_low rfl rfl rfl (by decide +kernel) ⟨Nat.le_of_ble_eq_true rfl, Nat.le_of_ble_eq_true rfl⟩) hK trivial rfl hl.1 rfl (Nat.le_of_ble_eq_true rfl) dL_isSo_253 ⟨by show 20 + 4 * k ≤ 62; omega, by show 120 + 24 * k ≤ 400; omega⟩ (fun _ h => h) ?_
        have hlo : lowN (z >>> ((nI 2) &&& 31)) 40 < 40 := lowN_lt (by first | decide | omega | exact zif_p (by decide) (by decide))
        refine lv_istore (lv' := [(12, .int (nI (lowN (z >>> ((nI 2) &&& 31)) 40))), (11, .int (yB S n w0 k)), (0, .ref (cb 0)), (1, .int (z)), (2, .ref (a 4)), (3, .ref (a 7)), (4, .ref (a 8)), (5, .ref (a 9)), (6, .ref (a 0)), (9, .int (nI 1)), (10, .int (nI k))]) hx hb dL_isSo_256 hl (by decide) rfl (fun ls hl => ?_)
        refine lv_aload_n hx hb dL_isSo_258 rfl (lv_at hl 2 rfl) ?_
        refine lv_iload hx hb dL_isSo_259 (lv_at hl 10 rfl) ?_
        refine k_goLi (H0 := u.heap) hP hA hS (vx_runV (rest := []) ⟨hx, hb, hml, hown, hts⟩ (c_X4_billed l hl0 D q (va_A (wC q cb cM cap nl) H.size) cb cM cap nl (nI k) hnl) (cwV 1 hts gL_isSo_X4_billed rfl rfl rfl (by decide +kernel) ⟨Nat.le_of_ble_eq_true rfl, Nat.le_of_ble_eq_true rfl⟩) ⟨kBX_blind, (va_recv hK.1 hP.1 (ci := 5) (q0 := 10) rfl rfl), fun U hU hW => ⟨rfl, by rw [hU]; exact kW_cut hP, hK.warm hW, (hX.at hS hU hW).narrow (kW_sub hP (fun z9 h9 => hA z9 (Nat.le_trans hS.1 h9)))⟩⟩ rfl rfl hl.1 rfl (lv_room (Nat.le_of_ble_eq_true rfl)) dL_isSo_261 ⟨by show 20 + 4 * k + 1 ≤ 62; omega, by show 120 + 24 * k + 6 ≤ 400; omega⟩) (fun E ce q9 H locs hE hP hS h1 h2 h3 => absurd hE (by rw [(hA0.2.2.2 k (by omega)).1]; exact exC_no (by decide))) (fun r3 H locs hr3 hP hS => ?_)
        have hr3 := hr3.2
        rw [(hA0.2.2.2 k (by omega)).1] at hP hr3
        have hP : kW D A (wL q a S ((wC q cb cM cap nl))) H := hP
        refine k_top (y := yB S n w0 k) hr3 ?_
        refine lv_iload hx hb dL_isSo_264 (lv_at hl 1 rfl) ?_
        refine k_icmp_ne (P := True) (tgt := 349) hx hb dL_isSo_266 (by decide) ⟨fun _ => trivial, fun _ => rfl⟩ (fun c_4 => ?_) (fun c_4 => ?_)
        · skip
          exact (c_4 trivial).elim
        · skip
          refine lv_aload_n hx hb dL_isSo_269 rfl (lv_at hl 2 rfl) ?_
          refine lv_iload hx hb dL_isSo_270 (lv_at hl 10 rfl) ?_
          refine k_goLi (H0 := u.heap) hP hA hS (vx_runV (rest := []) ⟨hx, hb, hml, hown, hts⟩ (c_X4_billedAnew l hl0 D q (va_A (wC q cb cM cap nl) H.size) cb cM cap nl (nI k) n w0 hn9 (by omega) hnl hnow (by omega) hoc) (cwV 1 hts gL_isSo_X4_billedAnew rfl rfl rfl (by decide +kernel) ⟨Nat.le_of_ble_eq_true rfl, Nat.le_of_ble_eq_true rfl⟩) ⟨kBX_blind, (va_recv hK.1 hP.1 (ci := 5) (q0 := 10) rfl rfl), fun U hU hW => ⟨rfl, by rw [hU]; exact kW_cut hP, hK.warm hW, (hX.at hS hU hW).narrow (kW_sub hP (fun z9 h9 => hA z9 (Nat.le_trans hS.1 h9)))⟩⟩ rfl rfl hl.1 rfl (lv_room (Nat.le_of_ble_eq_true rfl)) dL_isSo_272 ⟨by show 20 + 4 * k + 1 + 1 ≤ 62; omega, by show 120 + 24 * k + 6 + 6 ≤ 400; omega⟩) (fun E ce q9 H locs hE hP hS h1 h2 h3 => absurd hE (by rw [(hA0.2.2.2 k (by omega)).2.1]; exact exC_no (by decide))) (fun r5 H locs hr5 hP hS => ?_)
          have hr5 := hr5.2
          rw [(hA0.2.2.2 k (by omega)).2.1] at hP hr5
          have hP : kW D A (wL q a S ((wC q cb cM cap nl))) H := hP
          refine k_top (y := yB S n w0 k) hr5 ?_
          refine lv_iload hx hb dL_isSo_275 (lv_at hl 1 rfl) ?_
          refine k_icmp_ne (P := True) (tgt := 349) hx hb dL_isSo_277 (by decide) ⟨fun _ => trivial, fun _ => rfl⟩ (fun c_6 => ?_) (fun c_6 => ?_)
          · skip
            exact (c_6 trivial).elim
          · skip
            refine lv_aload_n hx hb dL_isSo_280 rfl (lv_at hl 2 rfl) ?_
            refine lv_iload hx hb dL_isSo_281 (lv_at hl 10 rfl) ?_
            refine k_goLi (H0 := u.heap) hP hA hS (vx_runV (rest := []) ⟨hx, hb, hml, hown, hts⟩ (c_X4_corrected l hl0 D q (va_A (wC q cb cM cap nl) H.size) cb cM cap nl (nI k) hnl) (cwV 1 hts gL_isSo_X4_corrected rfl rfl rfl (by decide +kernel) ⟨Nat.le_of_ble_eq_true rfl, Nat.le_of_ble_eq_true rfl⟩) ⟨kBX_blind, (va_recv hK.1 hP.1 (ci := 5) (q0 := 10) rfl rfl), fun U hU hW => ⟨rfl, by rw [hU]; exact kW_cut hP, hK.warm hW, (hX.at hS hU hW).narrow (kW_sub hP (fun z9 h9 => hA z9 (Nat.le_trans hS.1 h9)))⟩⟩ rfl rfl hl.1 rfl (lv_room (Nat.le_of_ble_eq_true rfl)) dL_isSo_283 ⟨by show 20 + 4 * k + 1 + 1 + 1 ≤ 62; omega, by show 120 + 24 * k + 6 + 6 + 6 ≤ 400; omega⟩) (fun E ce q9 H locs hE hP hS h1 h2 h3 => absurd hE (by rw [(hA0.2.2.2 k (by omega)).2.2.1]; exact exC_no (by decide))) (fun r7 H locs hr7 hP hS => ?_)
            have hr7 := hr7.2
            rw [(hA0.2.2.2 k (by omega)).2.2.1] at hP hr7
            have hP : kW D A (wL q a S ((wC q cb cM cap nl))) H := hP
            refine k_top (y := S 8 (6 * k + 5)) hr7 ?_
            refine lv_aload hx hb dL_isSo_286 (lv_at hl 6 rfl) ?_
            refine lv_bipush (v := nI 6) hx hb dL_isSo_288 (by decide) ?_
            refine lv_iload hx hb dL_isSo_290 (lv_at hl 10 rfl) ?_
            refine lv_imul hx hb dL_isSo_292 ?_
            refine k_top (y := nI (6 * k)) (pk_mul _ _) ?_
            refine lv_iconst (v := nI 5) hx hb dL_isSo_293 (by decide) ?_
            refine lv_iadd hx hb dL_isSo_294 ?_
            refine k_top (y := nI (6 * k + 5)) (nI_add _ _) ?_
            refine k_iald hx hb hK hP.1 8 rfl (6 * k + 5) rfl (by omega) (by decide) dL_isSo_295 ?_
            refine k_icmp_ne (P := True) (tgt := 349) hx hb dL_isSo_296 (by decide) ⟨fun _ => trivial, fun _ => rfl⟩ (fun c_8 => ?_) (fun c_8 => ?_)
            · skip
              exact (c_8 trivial).elim
            · skip
              refine lv_aload_n hx hb dL_isSo_299 rfl (lv_at hl 2 rfl) ?_
              refine lv_iload hx hb dL_isSo_300 (lv_at hl 10 rfl) ?_
              refine lv_iload hx hb dL_isSo_302 (lv_at hl 0 rfl) ?_
              refine k_goLi (H0 := u.heap) hP hA hS (vx_runV (rest := []) ⟨hx, hb, hml, hown, hts⟩ (c_X4_isOf l hl0 D q (va_A (wC q cb cM cap nl) H.size) cb cM cap nl (nI k) (nI (lowN (z >>> (nI 2 &&& 31)) 40)) hnl) (cwV 2 hts gL_isSo_X4_isOf rfl rfl rfl (by decide +kernel) ⟨Nat.le_of_ble_eq_true rfl, Nat.le_of_ble_eq_true rfl⟩) ⟨kBX_blind, (va_recv hK.1 hP.1 (ci := 5) (q0 := 10) rfl rfl), fun U hU hW => ⟨rfl, by rw [hU]; exact kW_cut hP, hK.warm hW, (hX.at hS hU hW).narrow (kW_sub hP (fun z9 h9 => hA z9 (Nat.le_trans hS.1 h9)))⟩⟩ rfl rfl hl.1 rfl (lv_room (Nat.le_of_ble_eq_true rfl)) dL_isSo_304 ⟨by show 20 + 4 * k + 1 + 1 + 1 + 1 ≤ 62; omega, by show 120 + 24 * k + 6 + 6 + 6 + 6 ≤ 400; omega⟩) (fun E ce q9 H locs hE hP hS h1 h2 h3 => absurd hE (by rw [((hA0.2.2.2 k (by omega)).2.2.2 (lowN (z >>> (nI 2 &&& 31)) 40) (Nat.lt_trans (lowN_lt (by decide)) (by decide)))]; exact exC_no (by decide))) (fun r9 H locs hr9 hP hS => ?_)
              have hr9 := hr9.2
              rw [((hA0.2.2.2 k (by omega)).2.2.2 (lowN (z >>> (nI 2 &&& 31)) 40) (Nat.lt_trans (lowN_lt (by decide)) (by decide)))] at hP hr9
              have hP : kW D A (wL q a S ((wC q cb cM cap nl))) H := hP
              refine k_top (y := bI (ix S 8 (6 * k + 3) ≤ lowN (z >>> (nI 2 &&& 31)) 40 ∧ lowN (z >>> (nI 2 &&& 31)) 40 < ix S 8 (6 * k + 4))) hr9 ?_
              refine lv_iload hx hb dL_isSo_307 (lv_at hl 0 rfl) ?_
              refine lv_aload hx hb dL_isSo_309 (lv_at hl 6 rfl) ?_
              refine lv_bipush (v := nI 6) hx hb dL_isSo_311 (by decide) ?_
              refine lv_iload hx hb dL_isSo_313 (lv_at hl 10 rfl) ?_
              refine lv_imul hx hb dL_isSo_315 ?_
              refine k_top (y := nI (6 * k)) (pk_mul _ _) ?_
              refine lv_iconst (v := nI 3) hx hb dL_isSo_316 (by decide) ?_
              refine lv_iadd hx hb dL_isSo_317 ?_
              refine k_top (y := nI (6 * k + 3)) (nI_add _ _) ?_
              refine k_iald hx hb hK hP.1 8 rfl (6 * k + 3) rfl (by omega) (by decide) dL_isSo_318 ?_
              refine k_top (y := nI (ix S 8 (6 * k + 3))) (hO k (by omega)).2.1.1 ?_
              refine k_icmp_lt (P := lowN (z >>> ((nI 2) &&& 31)) 40 < ix S 8 (6 * k + 3)) (tgt := 341) hx hb dL_isSo_319 (by decide) (nI_ltI (by omega) (by omega)) (fun c_10 => ?_) (fun c_10 => ?_)
              · skip
                refine lv_iconst (v := nI 0) hx hb dL_isSo_341 (by decide) ?_
                have eb : bI (ix S 8 (6 * k + 3) ≤ lowN (z >>> (nI 2 &&& 31)) 40 ∧ lowN (z >>> (nI 2 &&& 31)) 40 < ix S 8 (6 * k + 4)) = nI 0 := bI_f (fun z9 => by omega)
                rw [eb]
                refine k_icmp_ne (P := True) (tgt := 349) hx hb dL_isSo_342 (by decide) ⟨fun _ => trivial, fun _ => rfl⟩ (fun c_11 => ?_) (fun c_11 => ?_)
                · skip
                  exact (c_11 trivial).elim
                · skip
                  refine lv_iconst (v := nI 1) hx hb dL_isSo_345 (by decide) ?_
                  refine lv_goto (tgt := 350) hx hb dL_isSo_346 (by decide) ?_
                  refine lv_istore (lv' := [(9, .int (nI 1)), (12, .int (nI (lowN (z >>> ((nI 2) &&& 31)) 40))), (11, .int (yB S n w0 k)), (0, .ref (cb 0)), (1, .int (z)), (2, .ref (a 4)), (3, .ref (a 7)), (4, .ref (a 8)), (5, .ref (a 9)), (6, .ref (a 0)), (10, .int (nI k))]) hx hb dL_isSo_350 hl (by decide) rfl (fun ls hl => ?_)
                  refine lv_iinc (v := nI (k + 1)) (lv' := [(10, .int (nI (k + 1))), (9, .int (nI 1)), (12, .int (nI (lowN (z >>> ((nI 2) &&& 31)) 40))), (11, .int (yB S n w0 k)), (0, .ref (cb 0)), (1, .int (z)), (2, .ref (a 4)), (3, .ref (a 7)), (4, .ref (a 8)), (5, .ref (a 9)), (6, .ref (a 0))]) hx hb dL_isSo_352 hl (k := 10) rfl (k_iinc _) (by decide) rfl (fun ls hl => ?_)
                  refine lv_goto (tgt := 221) hx hb dL_isSo_355 (by decide) ?_
                  refine W.widen (k := 20 + 4 * (k + 1)) (n := 120 + 24 * (k + 1)) (by omega) (by omega) ?_
                  exact ih (k + 1) S (nI 1) (nI (k + 1)) (by omega) (by first | omega | assumption) rfl rfl rfl _ _ hP hS ls (lv_sub hl [4, 5, 6, 7, 8, 9, 10, 1, 0] rfl)
              · skip
                refine lv_iload hx hb dL_isSo_322 (lv_at hl 0 rfl) ?_
                refine lv_aload hx hb dL_isSo_324 (lv_at hl 6 rfl) ?_
                refine lv_bipush (v := nI 6) hx hb dL_isSo_326 (by decide) ?_
                refine lv_iload hx hb dL_isSo_328 (lv_at hl 10 rfl) ?_
                refine lv_imul hx hb dL_isSo_330 ?_
                refine k_top (y := nI (6 * k)) (pk_mul _ _) ?_
                refine lv_iconst (v := nI 4) hx hb dL_isSo_331 (by decide) ?_
                refine lv_iadd hx hb dL_isSo_332 ?_
                refine k_top (y := nI (6 * k + 4)) (nI_add _ _) ?_
                refine k_iald hx hb hK hP.1 8 rfl (6 * k + 4) rfl (by omega) (by decide) dL_isSo_333 ?_
                refine k_top (y := nI (ix S 8 (6 * k + 4))) (hO k (by omega)).2.2.1 ?_
                refine k_icmp_ge (P := lowN (z >>> ((nI 2) &&& 31)) 40 < ix S 8 (6 * k + 4)) (tgt := 341) hx hb dL_isSo_334 (by decide) (nI_ltI (by omega) (by omega)) (fun c_12 => ?_) (fun c_12 => ?_)
                · skip
                  refine lv_iconst (v := nI 0) hx hb dL_isSo_341 (by decide) ?_
                  have eb : bI (ix S 8 (6 * k + 3) ≤ lowN (z >>> (nI 2 &&& 31)) 40 ∧ lowN (z >>> (nI 2 &&& 31)) 40 < ix S 8 (6 * k + 4)) = nI 0 := bI_f (fun z9 => by omega)
                  rw [eb]
                  refine k_icmp_ne (P := True) (tgt := 349) hx hb dL_isSo_342 (by decide) ⟨fun _ => trivial, fun _ => rfl⟩ (fun c_13 => ?_) (fun c_13 => ?_)
                  · skip
                    exact (c_13 trivial).elim
                  · skip
                    refine lv_iconst (v := nI 1) hx hb dL_isSo_345 (by decide) ?_
                    refine lv_goto (tgt := 350) hx hb dL_isSo_346 (by decide) ?_
                    refine lv_istore (lv' := [(9, .int (nI 1)), (12, .int (nI (lowN (z >>> ((nI 2) &&& 31)) 40))), (11, .int (yB S n w0 k)), (0, .ref (cb 0)), (1, .int (z)), (2, .ref (a 4)), (3, .ref (a 7)), (4, .ref (a 8)), (5, .ref (a 9)), (6, .ref (a 0)), (10, .int (nI k))]) hx hb dL_isSo_350 hl (by decide) rfl (fun ls hl => ?_)
                    refine lv_iinc (v := nI (k + 1)) (lv' := [(10, .int (nI (k + 1))), (9, .int (nI 1)), (12, .int (nI (lowN (z >>> ((nI 2) &&& 31)) 40))), (11, .int (yB S n w0 k)), (0, .ref (cb 0)), (1, .int (z)), (2, .ref (a 4)), (3, .ref (a 7)), (4, .ref (a 8)), (5, .ref (a 9)), (6, .ref (a 0))]) hx hb dL_isSo_352 hl (k := 10) rfl (k_iinc _) (by decide) rfl (fun ls hl => ?_)
                    refine lv_goto (tgt := 221) hx hb dL_isSo_355 (by decide) ?_
                    refine W.widen (k := 20 + 4 * (k + 1)) (n := 120 + 24 * (k + 1)) (by omega) (by omega) ?_
                    exact ih (k + 1) S (nI 1) (nI (k + 1)) (by omega) (by first | omega | assumption) rfl rfl rfl _ _ hP hS ls (lv_sub hl [4, 5, 6, 7, 8, 9, 10, 1, 0] rfl)
                · skip
                  refine lv_iconst (v := nI 1) hx hb dL_isSo_337 (by decide) ?_
                  refine lv_goto (tgt := 342) hx hb dL_isSo_338 (by decide) ?_
                  have eb : bI (ix S 8 (6 * k + 3) ≤ lowN (z >>> (nI 2 &&& 31)) 40 ∧ lowN (z >>> (nI 2 &&& 31)) 40 < ix S 8 (6 * k + 4)) = nI 1 := bI_t ⟨by omega, by omega⟩
                  rw [eb]
                  refine k_icmp_ne (P := True) (tgt := 349) hx hb dL_isSo_342 (by decide) ⟨fun _ => trivial, fun _ => rfl⟩ (fun c_14 => ?_) (fun c_14 => ?_)
                  · skip
                    exact (c_14 trivial).elim
                  · skip
                    refine lv_iconst (v := nI 1) hx hb dL_isSo_345 (by decide) ?_
                    refine lv_goto (tgt := 350) hx hb dL_isSo_346 (by decide) ?_
                    refine lv_istore (lv' := [(9, .int (nI 1)), (12, .int (nI (lowN (z >>> ((nI 2) &&& 31)) 40))), (11, .int (yB S n w0 k)), (0, .ref (cb 0)), (1, .int (z)), (2, .ref (a 4)), (3, .ref (a 7)), (4, .ref (a 8)), (5, .ref (a 9)), (6, .ref (a 0)), (10, .int (nI k))]) hx hb dL_isSo_350 hl (by decide) rfl (fun ls hl => ?_)
                    refine lv_iinc (v := nI (k + 1)) (lv' := [(10, .int (nI (k + 1))), (9, .int (nI 1)), (12, .int (nI (lowN (z >>> ((nI 2) &&& 31)) 40))), (11, .int (yB S n w0 k)), (0, .ref (cb 0)), (1, .int (z)), (2, .ref (a 4)), (3, .ref (a 7)), (4, .ref (a 8)), (5, .ref (a 9)), (6, .ref (a 0))]) hx hb dL_isSo_352 hl (k := 10) rfl (k_iinc _) (by decide) rfl (fun ls hl => ?_)
                    refine lv_goto (tgt := 221) hx hb dL_isSo_355 (by decide) ?_
                    refine W.widen (k := 20 + 4 * (k + 1)) (n := 120 + 24 * (k + 1)) (by omega) (by omega) ?_
                    exact ih (k + 1) S (nI 1) (nI (k + 1)) (by omega) (by first | omega | assumption) rfl rfl rfl _ _ hP hS ls (lv_sub hl [4, 5, 6, 7, 8, 9, 10, 1, 0] rfl)

set_option maxHeartbeats 4000000 in
set_option maxRecDepth 100000 in
theorem lp_L_isSo_109 {p : Program} {l : Launch} {e : Env} {u : State} {m : MethodId} {below : List Frame} {meth : Method} {c : Code} {D : va_G} {q : Nat → ClassId} {A : Nat → Prop} (hl0 : l.stackTraces = false) (a : Nat → Nat) (S : Nat → Nat → Int32) (cb : Nat → Nat) (cM : Nat → Nat → Int32) (cap nl : Nat) (z : Int32) (n w0 : Nat) (hb4 : bd (S 4) 32767) (ht : yT S n) (hn : S 0 1 = nI n) (hn12 : n ≤ 12) (hn9 : cM 0 1 = nI n) (hnow : cM 0 0 = nI w0) (hw20 : w0 ≤ 20) (hw : S 0 0 = nI w0) (hO : yO S nl) (hnl10 : nl ≤ 10) (hnlq : S 0 2 = nI nl) (hnl : nl ≤ cap ∧ cap ≤ 40 ∧ nl ≤ 30) (hoc : okC cM nl) (hA0 : ySA S cM n w0 nl) (b9 : Nat) (hb9 : b9 < 6) (C0 : kAt p u m #[.ref (cb 0), .int (z), .ref (a 4), .ref (a 7), .ref (a 8), .ref (a 9), .ref (a 0)] meth c cL_isSo 13 (some .boolean) RL wsL_isSo) (hK : kK D q u) (hX : kX A u) (hA : ∀ z : Nat, u.heap.size ≤ z → A z) (hk : ∀ (H : Heap) (locs : List Loc), kW D A (wL q a S ((wC q cb cM cap nl))) H → va_S A u.heap H locs → ∀ (ls : Array Slot), lv_has ls 13 [(0, .ref (cb 0)), (1, .int (z)), (2, .ref (a 4)), (3, .ref (a 7)), (4, .ref (a 8)), (5, .ref (a 9)), (6, .ref (a 0)), (9, .int (nI 1)), (10, .int (nI b9)), (11, .int (yOw S n w0 b9 nl)), (12, .int (nI nl))] → W p l e ({ frames := 8, cells := 62, slots := 400, locals := 245 } : Room) u m #[.ref (cb 0), .int (z), .ref (a 4), .ref (a 7), .ref (a 8), .ref (a 9), .ref (a 0)] below meth c H locs (2 + 3 * b9) (12 + 18 * b9) (MQ below (kRi D A (nI 1) (wL q a S ((wC q cb cM cap nl)))) #[.ref (cb 0), .int (z), .ref (a 4), .ref (a 7), .ref (a 8), .ref (a 9), .ref (a 0)] u 62 400 A) (F0 m 160 ls [])) :
    ∀ (f : Nat) (k : Nat) (T : Nat → Nat → Int32) (x9 : Int32) (x10 : Int32) (x11 : Int32) (x12 : Int32), nl - k < f → k ≤ nl → T = S → x9 = nI 1 → x10 = nI b9 → x11 = yOw S n w0 b9 k → x12 = nI k → ∀ (H : Heap) (locs : List Loc), kW D A (wL q a T ((wC q cb cM cap nl))) H → va_S A u.heap H locs → ∀ (ls : Array Slot), lv_has ls 13 [(0, .ref (cb 0)), (1, .int (z)), (2, .ref (a 4)), (3, .ref (a 7)), (4, .ref (a 8)), (5, .ref (a 9)), (6, .ref (a 0)), (9, .int x9), (10, .int x10), (11, .int x11), (12, .int x12)] → W p l e ({ frames := 8, cells := 62, slots := 400, locals := 245 } : Room) u m #[.ref (cb 0), .int (z), .ref (a 4), .ref (a 7), .ref (a 8), .ref (a 9), .ref (a 0)] below meth c H locs (2 + 3 * b9) (12 + 18 * b9) (MQ below (kRi D A (nI 1) (wL q a S ((wC q cb cM cap nl)))) #[.ref (cb 0), .int (z), .ref (a 4), .ref (a 7), .ref (a 8), .ref (a 9), .ref (a 0)] u 62 400 A) (F0 m 109 ls []) := by
  obtain ⟨hx, hb, hr, hml, hown, hts, hlocks⟩ := id C0
  intro f
  induction f with
  | zero =>
    intro k T x9 x10 x11 x12 hf
    exact absurd hf (Nat.not_lt_zero _)
  | succ f ih =>
    intro k T x9 x10 x11 x12 hf hkk eT e9 e10 e11 e12 H locs hP hS ls hl
    replace eT := eT.symm
    subst eT
    replace e9 := e9.symm
    subst e9
    replace e10 := e10.symm
    subst e10
    replace e11 := e11.symm
    subst e11
    replace e12 := e12.symm
    subst e12
    refine lv_iload hx hb dL_isSo_109 (lv_at hl 10 rfl) ?_
    refine lv_aload hx hb dL_isSo_111 (lv_at hl 6 rfl) ?_
    refine lv_iconst (v := nI 2) hx hb dL_isSo_113 (by decide) ?_
    refine k_iald hx hb hK hP.1 0 rfl 2 rfl (by omega) (by decide) dL_isSo_114 ?_
    refine k_top (y := nI nl) hnlq ?_
    refine k_icmp_ge (P := k < nl) (tgt := 160) hx hb dL_isSo_115 (by decide) (nI_ltI (by omega) (by omega)) (fun c_15 => ?_) (fun c_15 => ?_)
    · skip
      obtain rfl : k = nl := by omega
      exact hk _ _ hP hS ls (lv_sub hl [0, 1, 2, 3, 4, 5, 6, 7, 8, 9, 10] rfl)
    · skip
      obtain ⟨⟨-, ho1⟩, ⟨-, ho2⟩, ⟨-, ho3⟩⟩ := hO k (by omega)
      refine lv_iload hx hb dL_isSo_118 (lv_at hl 9 rfl) ?_
      refine lv_aload hx hb dL_isSo_120 (lv_at hl 4 rfl) ?_
      refine lv_bipush (v := nI 6) hx hb dL_isSo_122 (by decide) ?_
      refine lv_iload hx hb dL_isSo_124 (lv_at hl 10 rfl) ?_
      refine lv_imul hx hb dL_isSo_126 ?_
      refine k_top (y := nI (6 * k)) (pk_mul _ _) ?_
      refine k_iald hx hb hK hP.1 8 rfl (6 * k) rfl (by omega) (by decide) dL_isSo_127 ?_
      refine k_top (y := nI (ix S 8 (6 * k))) (hO k (by omega)).1.1 ?_
      refine lv_bipush (v := nI 36) hx hb dL_isSo_128 (by decide) ?_
      refine lv_idiv hx hb dL_isSo_130 (by decide) ?_
      refine k_top (y := nI ((ix S 8 (6 * k)) / 36)) (pk_div (by omega) (by omega) (by omega)) ?_
      refine lv_iload hx hb dL_isSo_131 (lv_at hl 8 rfl) ?_
      refine k_icmp_ne (P := (ix S 8 (6 * k)) / 36 = b9) (tgt := 150) hx hb dL_isSo_133 (by decide) (nI_eq (by omega) (by omega)) (fun c_16 => ?_) (fun c_16 => ?_)
      · skip
        refine lv_iconst (v := nI 0) hx hb dL_isSo_150 (by decide) ?_
        refine lv_iadd hx hb dL_isSo_151 ?_
        refine lv_istore (lv' := [(11, .int ((yOw S n w0 b9 k) + (nI 0))), (0, .ref (cb 0)), (1, .int (z)), (2, .ref (a 4)), (3, .ref (a 7)), (4, .ref (a 8)), (5, .ref (a 9)), (6, .ref (a 0)), (9, .int (nI 1)), (10, .int (nI b9)), (12, .int (nI k))]) hx hb dL_isSo_152 hl (by decide) rfl (fun ls hl => ?_)
        refine lv_iinc (v := nI (k + 1)) (lv' := [(12, .int (nI (k + 1))), (11, .int ((yOw S n w0 b9 k) + (nI 0))), (0, .ref (cb 0)), (1, .int (z)), (2, .ref (a 4)), (3, .ref (a 7)), (4, .ref (a 8)), (5, .ref (a 9)), (6, .ref (a 0)), (9, .int (nI 1)), (10, .int (nI b9))]) hx hb dL_isSo_154 hl (k := 10) rfl (k_iinc _) (by decide) rfl (fun ls hl => ?_)
        refine lv_goto (tgt := 109) hx hb dL_isSo_157 (by decide) ?_
        refine W.widen (k := 2 + 3 * b9) (n := 12 + 18 * b9) (by omega) (by omega) ?_
        exact ih (k + 1) S (nI 1) (nI b9) ((yOw S n w0 b9 k) + (nI 0)) (nI (k + 1)) (by omega) (by first | omega | assumption) rfl rfl rfl (by show _ = yOw S n w0 b9 k + _; rw [if_neg c_16]) rfl _ _ hP hS ls (lv_sub hl [2, 3, 4, 5, 6, 7, 8, 9, 10, 1, 0] rfl)
      · skip
        refine lv_iload hx hb dL_isSo_136 (lv_at hl 10 rfl) ?_
        refine lv_aload_n hx hb dL_isSo_138 rfl (lv_at hl 2 rfl) ?_
        refine lv_aload_n hx hb dL_isSo_139 rfl (lv_at hl 3 rfl) ?_
        refine lv_aload hx hb dL_isSo_140 (lv_at hl 4 rfl) ?_
        refine lv_aload hx hb dL_isSo_142 (lv_at hl 6 rfl) ?_
        refine k_callS (rest := [.int (yOw S n w0 b9 k)]) (r := yB S n w0 k) ⟨hx, hb, hml, hown, hts⟩ (c_L_bill l D q a S ((wC q cb cM cap nl)) k n w0 nl (by omega) hnl10 hb4 ht hn hn12 hw hw20 hO) (va_cwS 5 hts gL_isSo_L_bill rfl rfl rfl (by decide +kernel) ⟨Nat.le_of_ble_eq_true rfl, Nat.le_of_ble_eq_true rfl⟩) hK hP.1 rfl hl.1 rfl (Nat.le_of_ble_eq_true rfl) dL_isSo_144 ⟨by show 2 + 3 * b9 ≤ 62; omega, by show 12 + 18 * b9 ≤ 400; omega⟩ (fun _ h => h) ?_
        refine lv_goto (tgt := 151) hx hb dL_isSo_147 (by decide) ?_
        refine lv_iadd hx hb dL_isSo_151 ?_
        refine lv_istore (lv' := [(11, .int ((yOw S n w0 b9 k) + (yB S n w0 k))), (0, .ref (cb 0)), (1, .int (z)), (2, .ref (a 4)), (3, .ref (a 7)), (4, .ref (a 8)), (5, .ref (a 9)), (6, .ref (a 0)), (9, .int (nI 1)), (10, .int (nI b9)), (12, .int (nI k))]) hx hb dL_isSo_152 hl (by decide) rfl (fun ls hl => ?_)
        refine lv_iinc (v := nI (k + 1)) (lv' := [(12, .int (nI (k + 1))), (11, .int ((yOw S n w0 b9 k) + (yB S n w0 k))), (0, .ref (cb 0)), (1, .int (z)), (2, .ref (a 4)), (3, .ref (a 7)), (4, .ref (a 8)), (5, .ref (a 9)), (6, .ref (a 0)), (9, .int (nI 1)), (10, .int (nI b9))]) hx hb dL_isSo_154 hl (k := 10) rfl (k_iinc _) (by decide) rfl (fun ls hl => ?_)
        refine lv_goto (tgt := 109) hx hb dL_isSo_157 (by decide) ?_
        refine W.widen (k := 2 + 3 * b9) (n := 12 + 18 * b9) (by omega) (by omega) ?_
        exact ih (k + 1) S (nI 1) (nI b9) ((yOw S n w0 b9 k) + (yB S n w0 k)) (nI (k + 1)) (by omega) (by first | omega | assumption) rfl rfl rfl (by show _ = yOw S n w0 b9 k + _; rw [if_pos c_16]) rfl _ _ hP hS ls (lv_sub hl [2, 3, 4, 5, 6, 7, 8, 9, 10, 1, 0] rfl)

set_option maxHeartbeats 4000000 in
set_option maxRecDepth 100000 in
theorem lp_L_isSo_83 {p : Program} {l : Launch} {e : Env} {u : State} {m : MethodId} {below : List Frame} {meth : Method} {c : Code} {D : va_G} {q : Nat → ClassId} {A : Nat → Prop} (hl0 : l.stackTraces = false) (a : Nat → Nat) (S : Nat → Nat → Int32) (cb : Nat → Nat) (cM : Nat → Nat → Int32) (cap nl : Nat) (z : Int32) (n w0 : Nat) (hb4 : bd (S 4) 32767) (ht : yT S n) (hn : S 0 1 = nI n) (hn12 : n ≤ 12) (hn9 : cM 0 1 = nI n) (hnow : cM 0 0 = nI w0) (hw20 : w0 ≤ 20) (hw : S 0 0 = nI w0) (hO : yO S nl) (hnl10 : nl ≤ 10) (hnlq : S 0 2 = nI nl) (hnl : nl ≤ cap ∧ cap ≤ 40 ∧ nl ≤ 30) (hoc : okC cM nl) (hA0 : ySA S cM n w0 nl) (C0 : kAt p u m #[.ref (cb 0), .int (z), .ref (a 4), .ref (a 7), .ref (a 8), .ref (a 9), .ref (a 0)] meth c cL_isSo 13 (some .boolean) RL wsL_isSo) (hK : kK D q u) (hX : kX A u) (hA : ∀ z : Nat, u.heap.size ≤ z → A z) :
    ∀ (f : Nat) (b : Nat) (T : Nat → Nat → Int32) (x9 : Int32) (x10 : Int32), 6 - b < f → b ≤ 6 → T = S → x9 = nI 1 → x10 = nI b → ∀ (H : Heap) (locs : List Loc), kW D A (wL q a T ((wC q cb cM cap nl))) H → va_S A u.heap H locs → ∀ (ls : Array Slot), lv_has ls 13 [(0, .ref (cb 0)), (1, .int (z)), (2, .ref (a 4)), (3, .ref (a 7)), (4, .ref (a 8)), (5, .ref (a 9)), (6, .ref (a 0)), (9, .int x9), (10, .int x10)] → W p l e ({ frames := 8, cells := 62, slots := 400, locals := 245 } : Room) u m #[.ref (cb 0), .int (z), .ref (a 4), .ref (a 7), .ref (a 8), .ref (a 9), .ref (a 0)] below meth c H locs (2 + 3 * b) (12 + 18 * b) (MQ below (kRi D A (nI 1) (wL q a S ((wC q cb cM cap nl)))) #[.ref (cb 0), .int (z), .ref (a 4), .ref (a 7), .ref (a 8), .ref (a 9), .ref (a 0)] u 62 400 A) (F0 m 83 ls []) := by
  obtain ⟨hx, hb, hr, hml, hown, hts, hlocks⟩ := id C0
  intro f
  induction f with
  | zero =>
    intro b T x9 x10 hf
    exact absurd hf (Nat.not_lt_zero _)
  | succ f ih =>
    intro b T x9 x10 hf hbb eT e9 e10 H locs hP hS ls hl
    replace eT := eT.symm
    subst eT
    replace e9 := e9.symm
    subst e9
    replace e10 := e10.symm
    subst e10
    refine lv_iload hx hb dL_isSo_83 (lv_at hl 8 rfl) ?_
    refine lv_bipush (v := nI 6) hx hb dL_isSo_85 (by decide) ?_
    refine k_icmp_ge (P := b < 6) (tgt := 218) hx hb dL_isSo_87 (by decide) (nI_ltI (by omega) (by omega)) (fun c_17 => ?_) (fun c_17 => ?_)
    · skip
      refine lv_iconst (v := nI 0) hx hb dL_isSo_218 (by decide) ?_
      refine lv_istore (lv' := [(10, .int (nI 0)), (0, .ref (cb 0)), (1, .int (z)), (2, .ref (a 4)), (3, .ref (a 7)), (4, .ref (a 8)), (5, .ref (a 9)), (6, .ref (a 0)), (9, .int (nI 1))]) hx hb dL_isSo_219 hl (by decide) rfl (fun ls hl => ?_)
      refine W.widen (k := 20 + 4 * 0) (n := 120 + 24 * 0) (by omega) (by omega) ?_
      exact lp_L_isSo_221 hl0 a S cb cM cap nl z n w0 hb4 ht hn hn12 hn9 hnow hw20 hw hO hnl10 hnlq hnl hoc hA0 C0 hK hX hA ((nl - 0) + 1) 0 S (nI 1) (nI 0) (by omega) (by first | omega | assumption) rfl rfl rfl _ _ hP hS ls (lv_sub hl [1, 2, 3, 4, 5, 6, 7, 8, 0] rfl)
    · skip
      refine lv_iload hx hb dL_isSo_90 (lv_at hl 7 rfl) ?_
      refine k_if_eq (P := False) (tgt := 218) hx hb dL_isSo_92 (by decide) ⟨fun z => absurd z (by decide), False.elim⟩ (fun c_18 => ?_) (fun c_18 => ?_)
      · skip
        exact c_18.elim
      · skip
        refine lv_aload hx hb dL_isSo_95 (lv_at hl 5 rfl) ?_
        refine lv_bipush (v := nI 24) hx hb dL_isSo_97 (by decide) ?_
        refine lv_iload hx hb dL_isSo_99 (lv_at hl 8 rfl) ?_
        refine lv_iadd hx hb dL_isSo_101 ?_
        refine k_top (y := nI (24 + b)) (nI_add _ _) ?_
        refine k_iald hx hb hK hP.1 9 rfl (24 + b) rfl (by omega) (by decide) dL_isSo_102 ?_
        refine lv_ineg hx hb dL_isSo_103 ?_
        refine lv_istore (lv' := [(11, .int (-(S 9 (24 + b)))), (0, .ref (cb 0)), (1, .int (z)), (2, .ref (a 4)), (3, .ref (a 7)), (4, .ref (a 8)), (5, .ref (a 9)), (6, .ref (a 0)), (9, .int (nI 1)), (10, .int (nI b))]) hx hb dL_isSo_104 hl (by decide) rfl (fun ls hl => ?_)
        refine lv_iconst (v := nI 0) hx hb dL_isSo_106 (by decide) ?_
        refine lv_istore (lv' := [(12, .int (nI 0)), (11, .int (-(S 9 (24 + b)))), (0, .ref (cb 0)), (1, .int (z)), (2, .ref (a 4)), (3, .ref (a 7)), (4, .ref (a 8)), (5, .ref (a 9)), (6, .ref (a 0)), (9, .int (nI 1)), (10, .int (nI b))]) hx hb dL_isSo_107 hl (by decide) rfl (fun ls hl => ?_)
        refine W.widen (k := 2 + 3 * b) (n := 12 + 18 * b) (by omega) (by omega) ?_
        refine lp_L_isSo_109 hl0 a S cb cM cap nl z n w0 hb4 ht hn hn12 hn9 hnow hw20 hw hO hnl10 hnlq hnl hoc hA0 b (by omega) C0 hK hX hA ?_ ((nl - 0) + 1) 0 S (nI 1) (nI b) (-(S 9 (24 + b))) (nI 0) (by omega) (by first | omega | assumption) rfl rfl rfl (by rfl) rfl _ _ hP hS ls (lv_sub hl [2, 3, 4, 5, 6, 7, 8, 9, 10, 1, 0] rfl)
        intro H locs hP hS ls hl
        refine lv_aload_n hx hb dL_isSo_160 rfl (lv_at hl 0 rfl) ?_
        refine lv_iload hx hb dL_isSo_161 (lv_at hl 8 rfl) ?_
        refine k_goLi (H0 := u.heap) hP hA hS (vx_runV (rest := []) ⟨hx, hb, hml, hown, hts⟩ (c_X4_played l hl0 D q (va_A (wC q cb cM cap nl) H.size) cb cM cap nl (nI b)) (cwV 1 hts gL_isSo_X4_played rfl rfl rfl (by decide +kernel) ⟨Nat.le_of_ble_eq_true rfl, Nat.le_of_ble_eq_true rfl⟩) ⟨kBX_blind, (va_recv hK.1 hP.1 (ci := 5) (q0 := 10) rfl rfl), fun U hU hW => ⟨rfl, by rw [hU]; exact kW_cut hP, hK.warm hW, (hX.at hS hU hW).narrow (kW_sub hP (fun z9 h9 => hA z9 (Nat.le_trans hS.1 h9)))⟩⟩ rfl rfl hl.1 rfl (lv_room (Nat.le_of_ble_eq_true rfl)) dL_isSo_163 ⟨by show 2 + 3 * b + 1 ≤ 62; omega, by show 12 + 18 * b + 6 ≤ 400; omega⟩) (fun E ce q9 H locs hE hP hS h1 h2 h3 => absurd hE (by rw [(hA0.2.2.1 b (by omega)).1]; exact exC_no (by decide))) (fun r19 H locs hr19 hP hS => ?_)
        have hr19 := hr19.2
        rw [(hA0.2.2.1 b (by omega)).1] at hP hr19
        have hP : kW D A (wL q a S ((wC q cb cM cap nl))) H := hP
        refine k_top (y := S 9 (6 + b)) hr19 ?_
        refine lv_aload hx hb dL_isSo_166 (lv_at hl 5 rfl) ?_
        refine lv_bipush (v := nI 6) hx hb dL_isSo_168 (by decide) ?_
        refine lv_iload hx hb dL_isSo_170 (lv_at hl 8 rfl) ?_
        refine lv_iadd hx hb dL_isSo_172 ?_
        refine k_top (y := nI (6 + b)) (nI_add _ _) ?_
        refine k_iald hx hb hK hP.1 9 rfl (6 + b) rfl (by omega) (by decide) dL_isSo_173 ?_
        refine k_icmp_ne (P := True) (tgt := 209) hx hb dL_isSo_174 (by decide) ⟨fun _ => trivial, fun _ => rfl⟩ (fun c_20 => ?_) (fun c_20 => ?_)
        · skip
          exact (c_20 trivial).elim
        · skip
          refine lv_aload_n hx hb dL_isSo_177 rfl (lv_at hl 0 rfl) ?_
          refine lv_iload hx hb dL_isSo_178 (lv_at hl 8 rfl) ?_
          refine k_goLi (H0 := u.heap) hP hA hS (vx_runV (rest := []) ⟨hx, hb, hml, hown, hts⟩ (c_X4_coins l hl0 D q (va_A (wC q cb cM cap nl) H.size) cb cM cap nl (nI b)) (cwV 1 hts gL_isSo_X4_coins rfl rfl rfl (by decide +kernel) ⟨Nat.le_of_ble_eq_true rfl, Nat.le_of_ble_eq_true rfl⟩) ⟨kBX_blind, (va_recv hK.1 hP.1 (ci := 5) (q0 := 10) rfl rfl), fun U hU hW => ⟨rfl, by rw [hU]; exact kW_cut hP, hK.warm hW, (hX.at hS hU hW).narrow (kW_sub hP (fun z9 h9 => hA z9 (Nat.le_trans hS.1 h9)))⟩⟩ rfl rfl hl.1 rfl (lv_room (Nat.le_of_ble_eq_true rfl)) dL_isSo_180 ⟨by show 2 + 3 * b + 1 + 1 ≤ 62; omega, by show 12 + 18 * b + 6 + 6 ≤ 400; omega⟩) (fun E ce q9 H locs hE hP hS h1 h2 h3 => absurd hE (by rw [(hA0.2.2.1 b (by omega)).2.1]; exact exC_no (by decide))) (fun r21 H locs hr21 hP hS => ?_)
          have hr21 := hr21.2
          rw [(hA0.2.2.1 b (by omega)).2.1] at hP hr21
          have hP : kW D A (wL q a S ((wC q cb cM cap nl))) H := hP
          refine k_top (y := S 9 (12 + b)) hr21 ?_
          refine lv_aload hx hb dL_isSo_183 (lv_at hl 5 rfl) ?_
          refine lv_bipush (v := nI 12) hx hb dL_isSo_185 (by decide) ?_
          refine lv_iload hx hb dL_isSo_187 (lv_at hl 8 rfl) ?_
          refine lv_iadd hx hb dL_isSo_189 ?_
          refine k_top (y := nI (12 + b)) (nI_add _ _) ?_
          refine k_iald hx hb hK hP.1 9 rfl (12 + b) rfl (by omega) (by decide) dL_isSo_190 ?_
          refine k_icmp_ne (P := True) (tgt := 209) hx hb dL_isSo_191 (by decide) ⟨fun _ => trivial, fun _ => rfl⟩ (fun c_22 => ?_) (fun c_22 => ?_)
          · skip
            exact (c_22 trivial).elim
          · skip
            refine lv_aload_n hx hb dL_isSo_194 rfl (lv_at hl 0 rfl) ?_
            refine lv_iload hx hb dL_isSo_195 (lv_at hl 8 rfl) ?_
            refine k_goLi (H0 := u.heap) hP hA hS (vx_runV (rest := []) ⟨hx, hb, hml, hown, hts⟩ (c_X4_owes l hl0 D q (va_A (wC q cb cM cap nl) H.size) cb cM cap nl (nI b) hnl) (cwV 1 hts gL_isSo_X4_owes rfl rfl rfl (by decide +kernel) ⟨Nat.le_of_ble_eq_true rfl, Nat.le_of_ble_eq_true rfl⟩) ⟨kBX_blind, (va_recv hK.1 hP.1 (ci := 5) (q0 := 10) rfl rfl), fun U hU hW => ⟨rfl, by rw [hU]; exact kW_cut hP, hK.warm hW, (hX.at hS hU hW).narrow (kW_sub hP (fun z9 h9 => hA z9 (Nat.le_trans hS.1 h9)))⟩⟩ rfl rfl hl.1 rfl (lv_room (Nat.le_of_ble_eq_true rfl)) dL_isSo_197 ⟨by show 2 + 3 * b + 1 + 1 + 1 ≤ 62; omega, by show 12 + 18 * b + 6 + 6 + 6 ≤ 400; omega⟩) (fun E ce q9 H locs hE hP hS h1 h2 h3 => absurd hE (by rw [(hA0.2.2.1 b (by omega)).2.2]; exact exC_no (by decide))) (fun r23 H locs hr23 hP hS => ?_)
            have hr23 := hr23.2
            rw [(hA0.2.2.1 b (by omega)).2.2] at hP hr23
            have hP : kW D A (wL q a S ((wC q cb cM cap nl))) H := hP
            refine k_top (y := yOw S n w0 b nl) hr23 ?_
            refine lv_iload hx hb dL_isSo_200 (lv_at hl 9 rfl) ?_
            refine k_icmp_ne (P := True) (tgt := 209) hx hb dL_isSo_202 (by decide) ⟨fun _ => trivial, fun _ => rfl⟩ (fun c_24 => ?_) (fun c_24 => ?_)
            · skip
              exact (c_24 trivial).elim
            · skip
              refine lv_iconst (v := nI 1) hx hb dL_isSo_205 (by decide) ?_
              refine lv_goto (tgt := 210) hx hb dL_isSo_206 (by decide) ?_
              refine lv_istore (lv' := [(9, .int (nI 1)), (0, .ref (cb 0)), (1, .int (z)), (2, .ref (a 4)), (3, .ref (a 7)), (4, .ref (a 8)), (5, .ref (a 9)), (6, .ref (a 0)), (10, .int (nI b)), (11, .int (yOw S n w0 b nl)), (12, .int (nI nl))]) hx hb dL_isSo_210 hl (by decide) rfl (fun ls hl => ?_)
              refine lv_iinc (v := nI (b + 1)) (lv' := [(10, .int (nI (b + 1))), (9, .int (nI 1)), (0, .ref (cb 0)), (1, .int (z)), (2, .ref (a 4)), (3, .ref (a 7)), (4, .ref (a 8)), (5, .ref (a 9)), (6, .ref (a 0)), (11, .int (yOw S n w0 b nl)), (12, .int (nI nl))]) hx hb dL_isSo_212 hl (k := 8) rfl (k_iinc _) (by decide) rfl (fun ls hl => ?_)
              refine lv_goto (tgt := 83) hx hb dL_isSo_215 (by decide) ?_
              refine W.widen (k := 2 + 3 * (b + 1)) (n := 12 + 18 * (b + 1)) (by omega) (by omega) ?_
              exact ih (b + 1) S (nI 1) (nI (b + 1)) (by omega) (by first | omega | assumption) rfl rfl rfl _ _ hP hS ls (lv_sub hl [2, 3, 4, 5, 6, 7, 8, 1, 0] rfl)
set_option maxHeartbeats 4000000 in
set_option maxRecDepth 100000 in
theorem c_L_isSo (l : Launch) (hl0 : l.stackTraces = false) (D : va_G) (q : Nat → ClassId) (A : Nat → Prop) (a : Nat → Nat) (S : Nat → Nat → Int32) (cb : Nat → Nat) (cM : Nat → Nat → Int32) (cap nl : Nat) (z : Int32) (n w0 : Nat) (hb4 : bd (S 4) 32767) (ht : yT S n) (hn : S 0 1 = nI n) (hn12 : n ≤ 12) (hn9 : cM 0 1 = nI n) (hnow : cM 0 0 = nI w0) (hw20 : w0 ≤ 20) (hw : S 0 0 = nI w0) (hO : yO S nl) (hnl10 : nl ≤ 10) (hnlq : S 0 2 = nI nl) (hnl : nl ≤ cap ∧ cap ≤ 40 ∧ nl ≤ 30) (hoc : okC cM nl) (hA0 : ySA S cM n w0 nl) : Met l yL_isSo wsL_isSo ({ frames := 8, cells := 62, slots := 400, locals := 245 } : Room) (va_Pc [.ref (cb 0), .int (z), .ref (a 4), .ref (a 7), .ref (a 8), .ref (a 9), .ref (a 0)] (kBL D q A (fun H => kW D A (wL q a S ((wC q cb cM cap nl))) H))) (kRi D A (nI 1) (wL q a S ((wC q cb cM cap nl)))) 62 400 A := by
  refine Met.ofW (cc := cL_isSo) (maxL := 13) (ret := (some .boolean)) (by decide) rfl ?_
  intro p e u m args below meth c s₁ B hml0 hv
  obtain ⟨rfl, ⟨hP, hK, hX⟩, hA⟩ := hv
  have C0 : kAt p u m #[.ref (cb 0), .int (z), .ref (a 4), .ref (a 7), .ref (a 8), .ref (a 9), .ref (a 0)] meth c cL_isSo 13 (some .boolean) RL wsL_isSo := kAt_of B hml0
  obtain ⟨hx, hb, hr, hml, hown, hts, hlocks⟩ := id C0
  have hS : va_S A u.heap u.heap [] := va_S.rf
  have hl := lv_entry ([.ref (cb 0), .int (z), .ref (a 4), .ref (a 7), .ref (a 8), .ref (a 9), .ref (a 0)]) (n := 13) (Nat.le_of_ble_eq_true rfl)
  rw [lg_entry_eq]
  generalize (lg_sl ([.ref (cb 0), .int (z), .ref (a 4), .ref (a 7), .ref (a 8), .ref (a 9), .ref (a 0)]) ++ List.replicate (13 - (lg_sl ([.ref (cb 0), .int (z), .ref (a 4), .ref (a 7), .ref (a 8), .ref (a 9), .ref (a 0)])).length) Slot.unset).toArray = ls at hl ⊢
  have hl : lv_has ls 13 [(0, .ref (cb 0)), (1, .int (z)), (2, .ref (a 4)), (3, .ref (a 7)), (4, .ref (a 8)), (5, .ref (a 9)), (6, .ref (a 0))] := hl
  refine lv_iload_n hx hb dL_isSo_0 rfl (lv_at hl 1 rfl) ?_
  refine lv_bipush (v := nI 12) hx hb dL_isSo_1 (by decide) ?_
  refine k_callS (rest := []) (r := nI (lowN z 12)) ⟨hx, hb, hml, hown, hts⟩ (c_L_low l D q z 12 (by omega) (by omega)) (va_cwS 2 hts gL_isSo_L_low rfl rfl rfl (by decide +kernel) ⟨Nat.le_of_ble_eq_true rfl, Nat.le_of_ble_eq_true rfl⟩) hK trivial rfl hl.1 rfl (Nat.le_of_ble_eq_true rfl) dL_isSo_3 ⟨by show 0 ≤ 62; omega, by show 0 ≤ 400; omega⟩ (fun _ h => h) ?_
  have hlo : lowN z 12 < 12 := lowN_lt (by first | decide | omega | exact zif_p (by decide) (by decide))
  refine lv_istore (lv' := [(7, .int (nI (lowN z 12))), (0, .ref (cb 0)), (1, .int (z)), (2, .ref (a 4)), (3, .ref (a 7)), (4, .ref (a 8)), (5, .ref (a 9)), (6, .ref (a 0))]) hx hb dL_isSo_6 hl (by decide) rfl (fun ls hl => ?_)
  refine lv_iload_n hx hb dL_isSo_8 rfl (lv_at hl 2 rfl) ?_
  refine lv_iconst (v := nI 4) hx hb dL_isSo_9 (by decide) ?_
  refine lv_ishr hx hb dL_isSo_10 ?_
  refine lv_sipush (v := nI 200) hx hb dL_isSo_11 (by decide) ?_
  refine k_callS (rest := []) (r := nI (lowN (z >>> ((nI 4) &&& 31)) 200)) ⟨hx, hb, hml, hown, hts⟩ (c_L_low l D q (z >>> ((nI 4) &&& 31)) 200 (by omega) (by omega)) (va_cwS 2 hts gL_isSo_L_low rfl rfl rfl (by decide +kernel) ⟨Nat.le_of_ble_eq_true rfl, Nat.le_of_ble_eq_true rfl⟩) hK trivial rfl hl.1 rfl (Nat.le_of_ble_eq_true rfl) dL_isSo_14 ⟨by show 0 ≤ 62; omega, by show 0 ≤ 400; omega⟩ (fun _ h => h) ?_
  have hlo : lowN (z >>> ((nI 4) &&& 31)) 200 < 200 := lowN_lt (by first | decide | omega | exact zif_p (by decide) (by decide))
  refine lv_istore (lv' := [(8, .int (nI (lowN (z >>> ((nI 4) &&& 31)) 200))), (7, .int (nI (lowN z 12))), (0, .ref (cb 0)), (1, .int (z)), (2, .ref (a 4)), (3, .ref (a 7)), (4, .ref (a 8)), (5, .ref (a 9)), (6, .ref (a 0))]) hx hb dL_isSo_17 hl (by decide) rfl (fun ls hl => ?_)
  refine lv_aload_n hx hb dL_isSo_19 rfl (lv_at hl 2 rfl) ?_
  refine k_callV (rest := []) (r := cM 0 0) ⟨hx, hb, hml, hown, hts⟩ (c_X4_hour l D q cb cM cap nl) (cwV 0 hts gL_isSo_X4_hour rfl rfl rfl (by decide +kernel) ⟨Nat.le_of_ble_eq_true rfl, Nat.le_of_ble_eq_true rfl⟩) hK (wL_C hP.1) (va_recv hK.1 hP.1 (ci := 5) (q0 := 10) rfl rfl) rfl hl.1 rfl (Nat.le_of_ble_eq_true rfl) dL_isSo_20 ⟨by show 0 ≤ 62; omega, by show 0 ≤ 400; omega⟩ (fun _ h => h) ?_
  refine k_top (y := nI w0) hnow ?_
  refine lv_aload hx hb dL_isSo_23 (lv_at hl 8 rfl) ?_
  refine lv_iconst (v := nI 0) hx hb dL_isSo_25 (by decide) ?_
  refine k_iald hx hb hK hP.1 0 rfl 0 rfl (by omega) (by decide) dL_isSo_26 ?_
  refine k_top (y := nI w0) hw ?_
  refine k_icmp_ne (P := True) (tgt := 77) hx hb dL_isSo_27 (by decide) ⟨fun _ => trivial, fun _ => rfl⟩ (fun c_25 => ?_) (fun c_25 => ?_)
  · skip
    exact (c_25 trivial).elim
  · skip
    refine lv_aload_n hx hb dL_isSo_30 rfl (lv_at hl 2 rfl) ?_
    refine k_callV (rest := []) (r := nI nl) ⟨hx, hb, hml, hown, hts⟩ (c_X4_leases l D q cb cM cap nl) (cwV 0 hts gL_isSo_X4_leases rfl rfl rfl (by decide +kernel) ⟨Nat.le_of_ble_eq_true rfl, Nat.le_of_ble_eq_true rfl⟩) hK (wL_C hP.1) (va_recv hK.1 hP.1 (ci := 5) (q0 := 10) rfl rfl) rfl hl.1 rfl (Nat.le_of_ble_eq_true rfl) dL_isSo_31 ⟨by show 0 ≤ 62; omega, by show 0 ≤ 400; omega⟩ (fun _ h => h) ?_
    refine lv_aload hx hb dL_isSo_34 (lv_at hl 8 rfl) ?_
    refine lv_iconst (v := nI 2) hx hb dL_isSo_36 (by decide) ?_
    refine k_iald hx hb hK hP.1 0 rfl 2 rfl (by omega) (by decide) dL_isSo_37 ?_
    refine k_top (y := nI nl) hnlq ?_
    refine k_icmp_ne (P := True) (tgt := 77) hx hb dL_isSo_38 (by decide) ⟨fun _ => trivial, fun _ => rfl⟩ (fun c_26 => ?_) (fun c_26 => ?_)
    · skip
      exact (c_26 trivial).elim
    · skip
      refine lv_aload_n hx hb dL_isSo_41 rfl (lv_at hl 2 rfl) ?_
      refine k_callV (rest := []) (r := cM 0 2) ⟨hx, hb, hml, hown, hts⟩ (c_X4_lots l D q cb cM cap nl) (cwV 0 hts gL_isSo_X4_lots rfl rfl rfl (by decide +kernel) ⟨Nat.le_of_ble_eq_true rfl, Nat.le_of_ble_eq_true rfl⟩) hK (wL_C hP.1) (va_recv hK.1 hP.1 (ci := 5) (q0 := 10) rfl rfl) rfl hl.1 rfl (Nat.le_of_ble_eq_true rfl) dL_isSo_42 ⟨by show 0 ≤ 62; omega, by show 0 ≤ 400; omega⟩ (fun _ h => h) ?_
      refine k_top (y := S 0 3) hA0.1.2 ?_
      refine lv_aload hx hb dL_isSo_45 (lv_at hl 8 rfl) ?_
      refine lv_iconst (v := nI 3) hx hb dL_isSo_47 (by decide) ?_
      refine k_iald hx hb hK hP.1 0 rfl 3 rfl (by omega) (by decide) dL_isSo_48 ?_
      refine k_icmp_ne (P := True) (tgt := 77) hx hb dL_isSo_49 (by decide) ⟨fun _ => trivial, fun _ => rfl⟩ (fun c_27 => ?_) (fun c_27 => ?_)
      · skip
        exact (c_27 trivial).elim
      · skip
        refine lv_aload_n hx hb dL_isSo_52 rfl (lv_at hl 2 rfl) ?_
        refine lv_iload hx hb dL_isSo_53 (lv_at hl 1 rfl) ?_
        refine lv_iload hx hb dL_isSo_55 (lv_at hl 0 rfl) ?_
        refine k_goLi (H0 := u.heap) hP hA hS (vx_runV (rest := []) ⟨hx, hb, hml, hown, hts⟩ (c_X4_taken l hl0 D q (va_A (wC q cb cM cap nl) u.heap.size) cb cM cap nl (nI (lowN z 12)) (nI (lowN (z >>> (nI 4 &&& 31)) 200)) n hn9 (by omega)) (cwV 2 hts gL_isSo_X4_taken rfl rfl rfl (by decide +kernel) ⟨Nat.le_of_ble_eq_true rfl, Nat.le_of_ble_eq_true rfl⟩) ⟨kBX_blind, (va_recv hK.1 hP.1 (ci := 5) (q0 := 10) rfl rfl), fun U hU hW => ⟨rfl, by rw [hU]; exact kW_cut hP, hK.warm hW, (hX.at hS hU hW).narrow (kW_sub hP (fun z9 h9 => hA z9 (Nat.le_trans hS.1 h9)))⟩⟩ rfl rfl hl.1 rfl (lv_room (Nat.le_of_ble_eq_true rfl)) dL_isSo_57 ⟨by show 0 + 2 ≤ 62; omega, by show 0 + 12 ≤ 400; omega⟩) (fun E ce q9 H locs hE hP hS h1 h2 h3 => absurd hE (by rw [(hA0.2.1 (lowN z 12) (lowN (z >>> (nI 4 &&& 31)) 200) (lowN_lt (by decide)) (lowN_lt (by decide)))]; exact exC_no (by decide))) (fun r28 H locs hr28 hP hS => ?_)
        have hr28 := hr28.2
        rw [(hA0.2.1 (lowN z 12) (lowN (z >>> (nI 4 &&& 31)) 200) (lowN_lt (by decide)) (lowN_lt (by decide)))] at hP hr28
        have hP : kW D A (wL q a S ((wC q cb cM cap nl))) H := hP
        refine k_top (y := ySp S n (nI (lowN z 12)) (nI (lowN (z >>> (nI 4 &&& 31)) 200))) hr28 ?_
        refine lv_iload hx hb dL_isSo_60 (lv_at hl 1 rfl) ?_
        refine lv_iload hx hb dL_isSo_62 (lv_at hl 0 rfl) ?_
        refine lv_aload_n hx hb dL_isSo_64 rfl (lv_at hl 5 rfl) ?_
        refine lv_aload hx hb dL_isSo_65 (lv_at hl 8 rfl) ?_
        refine k_callS (rest := [.int (ySp S n (nI (lowN z 12)) (nI (lowN (z >>> (nI 4 &&& 31)) 200)))]) (r := ySp S n (nI (lowN z 12)) (nI (lowN (z >>> ((nI 4) &&& 31)) 200))) ⟨hx, hb, hml, hown, hts⟩ (c_L_spot l D q a S ((wC q cb cM cap nl)) (lowN z 12) (lowN (z >>> ((nI 4) &&& 31)) 200) n hn hn12) (va_cwS 4 hts gL_isSo_L_spot rfl rfl rfl (by decide +kernel) ⟨Nat.le_of_ble_eq_true rfl, Nat.le_of_ble_eq_true rfl⟩) hK hP.1 rfl hl.1 rfl (Nat.le_of_ble_eq_true rfl) dL_isSo_67 ⟨by show 0 + 2 ≤ 62; omega, by show 0 + 12 ≤ 400; omega⟩ (fun _ h => h) ?_
        refine k_icmp_ne (P := True) (tgt := 77) hx hb dL_isSo_70 (by decide) ⟨fun _ => trivial, fun _ => rfl⟩ (fun c_29 => ?_) (fun c_29 => ?_)
        · skip
          exact (c_29 trivial).elim
        · skip
          refine lv_iconst (v := nI 1) hx hb dL_isSo_73 (by decide) ?_
          refine lv_goto (tgt := 78) hx hb dL_isSo_74 (by decide) ?_
          refine lv_istore (lv' := [(9, .int (nI 1)), (8, .int (nI (lowN (z >>> ((nI 4) &&& 31)) 200))), (7, .int (nI (lowN z 12))), (0, .ref (cb 0)), (1, .int (z)), (2, .ref (a 4)), (3, .ref (a 7)), (4, .ref (a 8)), (5, .ref (a 9)), (6, .ref (a 0))]) hx hb dL_isSo_78 hl (by decide) rfl (fun ls hl => ?_)
          refine lv_iconst (v := nI 0) hx hb dL_isSo_80 (by decide) ?_
          refine lv_istore (lv' := [(10, .int (nI 0)), (9, .int (nI 1)), (8, .int (nI (lowN (z >>> ((nI 4) &&& 31)) 200))), (7, .int (nI (lowN z 12))), (0, .ref (cb 0)), (1, .int (z)), (2, .ref (a 4)), (3, .ref (a 7)), (4, .ref (a 8)), (5, .ref (a 9)), (6, .ref (a 0))]) hx hb dL_isSo_81 hl (by decide) rfl (fun ls hl => ?_)
          refine W.widen (k := 2 + 3 * 0) (n := 12 + 18 * 0) (by omega) (by omega) ?_
          exact lp_L_isSo_83 hl0 a S cb cM cap nl z n w0 hb4 ht hn hn12 hn9 hnow hw20 hw hO hnl10 hnlq hnl hoc hA0 C0 hK hX hA ((6 - 0) + 1) 0 S (nI 1) (nI 0) (by omega) (by first | omega | assumption) rfl rfl rfl _ _ hP hS ls (lv_sub hl [4, 5, 6, 7, 8, 9, 10, 1, 0] rfl)
