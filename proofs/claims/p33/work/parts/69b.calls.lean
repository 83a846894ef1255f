theorem cs_L_calls_36 : Cond.constant RL 36 (-2000000003) ∈ wsL_calls := by decide +kernel
set_option maxHeartbeats 4000000 in
set_option maxRecDepth 100000 in
theorem c_L_calls_turnUp (l : Launch) (hl0 : l.stackTraces = false) (D : va_G) (q : Nat → ClassId) (A : Nat → Prop) (a : Nat → Nat) (S : Nat → Nat → Int32) (cap nl : Nat) (s h r0 : Int32) (n w0 : Nat) (hn : S 0 1 = nI n) (hn60 : n ≤ 60) (hnl : nl ≤ cap ∧ cap ≤ 40 ∧ nl ≤ 30) (hnow : S 0 0 = nI w0) (hw200 : w0 ≤ 200) (x4 x5 : Int32) (hE : caE [eI, eA, eS] (coTurnUp S n nl s h r0)) : Met l yL_calls wsL_calls ({ frames := 9, cells := 4, slots := 24, locals := 266 } : Room) (va_Pc [.ref (a 0), .int (nI 0), .int (s), .int (h), .int (r0), .int (x4), .int (x5)] (kBL D q A (fun H => kW D A (wC q a S cap nl) H))) (kRi D A (caV (coTurnUp S n nl s h r0)) (wC q a (outS S (coTurnUp S n nl s h r0)) cap nl)) 4 24 A := by
  refine va_MetW (cc := cL_calls) (maxL := 8) (ret := some .int) (hh := [(0, 80, 81, 34)]) (by decide) rfl ?_
  intro p e u m args below meth c s₁ B hml0 hv
  obtain ⟨rfl, ⟨hP, hK, hX⟩, hA⟩ := hv
  have C0 : kAt p u m #[.ref (a 0), .int (nI 0), .int (s), .int (h), .int (r0), .int (x4), .int (x5)] meth c cL_calls 8 (some .int) RL wsL_calls := kAt_of B hml0
  obtain ⟨hx, hb, hr, hml, hown, hts, hlocks⟩ := id C0
  have htab := vx_table (x := yL_calls) B (hts (.codeWith yL_calls cL_calls 8 (some .int) [(0, 80, 81, 34)]) List.mem_cons_self)
  have hS : va_S A u.heap u.heap [] := va_S.rf
  have hl := lv_entry ([.ref (a 0), .int (nI 0), .int (s), .int (h), .int (r0), .int (x4), .int (x5)]) (n := 8) (Nat.le_of_ble_eq_true rfl)
  rw [lg_entry_eq]
  generalize (lg_sl ([.ref (a 0), .int (nI 0), .int (s), .int (h), .int (r0), .int (x4), .int (x5)]) ++ List.replicate (8 - (lg_sl ([.ref (a 0), .int (nI 0), .int (s), .int (h), .int (r0), .int (x4), .int (x5)])).length) Slot.unset).toArray = ls at hl ⊢
  have hl : lv_has ls 8 [(0, .ref (a 0)), (1, .int (nI 0)), (2, .int (s)), (3, .int (h)), (4, .int (r0)), (5, .int (x4)), (6, .int (x5))] := hl
  refine lv_iload_n hx hb dL_calls_0 rfl (lv_at hl 1 rfl) ?_
  refine lv_if_ne (tgt := 15) hx hb dL_calls_1 (by decide) (fun z => absurd (by decide) z) (fun _ => ?_)
  refine lv_aload_n hx hb dL_calls_4 rfl (lv_at hl 0 rfl) ?_
  refine lv_iload_n hx hb dL_calls_5 rfl (lv_at hl 2 rfl) ?_
  refine lv_iload_n hx hb dL_calls_6 rfl (lv_at hl 3 rfl) ?_
  refine lv_iload hx hb dL_calls_7 (lv_at hl 4 rfl) ?_
  refine k_goXi hS (vx_runV (rest := []) ⟨hx, hb, hml, hown, hts⟩ (c_X4_turnUp l hl0 D q A a S cap nl s h r0 n w0 hn hn60 hnl hnow hw200) (cwV 3 hts gL_calls_X4_turnUp rfl rfl rfl (by decide +kernel) ⟨Nat.le_of_ble_eq_true rfl, Nat.le_of_ble_eq_true rfl⟩) ⟨kBX_blind, (va_recv hK.1 hP.1 (ci := 5) (q0 := 0) rfl rfl), fun U hU hW => ⟨rfl, ⟨by rw [hU]; exact hP, hK.warm hW, hX.at hS hU hW⟩⟩⟩ rfl rfl hl.1 rfl (lv_room (Nat.le_of_ble_eq_true rfl)) dL_calls_9 ⟨Nat.le_of_ble_eq_true rfl, Nat.le_of_ble_eq_true rfl⟩) (fun E ce q9 H locs hE9 hP hS h1 h2 h3 => ?_) (fun rr H locs hr1 hP hS => ?_)
  · have hco := hE9
    have ee := hE E hE9
    subst ee
    refine vx_catch (name := eS) hown [] ⟨0, 80, 81, 34⟩ [] htab (fun z hz => by cases hz) (by decide) (by decide) (hts _ (by decide +kernel)) (va_Nw.use rfl hX.2.2.2.2.2.2.1.2.2) h1 h2 h3 ?_
    refine lv_astore (lv' := [(7, .ref q9), (0, .ref (a 0)), (1, .int (nI 0)), (2, .int (s)), (3, .int (h)), (4, .int (r0)), (5, .int (x4)), (6, .int (x5))]) hx hb dL_calls_81 hl (by decide) rfl (fun ls hl => ?_)
    refine lv_ldc (v := (-2000000003)) hx hb hown (hts _ cs_L_calls_36) dL_calls_83 ?_
    have hz : ¬ (coTurnUp S n nl s h r0).1 = nI 0 := by obtain ⟨i, hi, hc⟩ := hco; rw [hc]; exact fun z => by have hj := (List.getElem?_eq_some_iff.mp hi).1; have := (nI_eq (a := i + 1) (b := 0) (by have : i < 9 := Nat.lt_of_lt_of_le hj (by decide); omega) (by decide)).mp z; omega
    refine W.widen (k := 4) (n := 24) (Nat.le_of_ble_eq_true rfl) (Nat.le_of_ble_eq_true rfl) ?_
    exact k_iretW hx hb hr hlocks (by rw [outS, if_neg hz]; exact hP) hS (caV_n hz).symm dL_calls_85
  · obtain ⟨hc0, hr2⟩ := hr1
    refine lv_goto (tgt := 80) hx hb dL_calls_12 (by decide) ?_
    refine W.widen (k := 4) (n := 24) (Nat.le_of_ble_eq_true rfl) (Nat.le_of_ble_eq_true rfl) ?_
    exact k_iretW hx hb hr hlocks (by rw [outS, if_pos hc0]; exact hP) hS (hr2.trans (caV_0 hc0).symm) dL_calls_80
set_option maxHeartbeats 4000000 in
set_option maxRecDepth 100000 in
theorem c_L_calls_lease (l : Launch) (hl0 : l.stackTraces = false) (D : va_G) (q : Nat → ClassId) (A : Nat → Prop) (a : Nat → Nat) (S : Nat → Nat → Int32) (cap nl : Nat) (d t b r h : Int32) (w0 e0 : Nat) (hnl : nl ≤ cap ∧ cap ≤ 40 ∧ nl ≤ 30) (hnow : S 0 0 = nI w0) (hw200 : w0 ≤ 200) (hg : (cap = 0 ∧ a 26 = e0) ∨ capP cap) (hE : caE [eI, eA, eS] (coLease S w0 nl d t b r h)) : Met l yL_calls wsL_calls ({ frames := 9, cells := 9, slots := 97, locals := 436 } : Room) (va_Pc [.ref (a 0), .int (nI 1), .int (d), .int (t), .int (b), .int (r), .int (h)] (kBLe D q A e0 (fun H => kW D A (wC q a S cap nl) H))) (kRlc D q A a S cap nl (coLease S w0 nl d t b r h)) 9 97 A := by
  refine va_MetW (cc := cL_calls) (maxL := 8) (ret := some .int) (hh := [(0, 80, 81, 34)]) (by decide) rfl ?_
  intro p e u m args below meth c s₁ B hml0 hv
  obtain ⟨rfl, ⟨⟨hP, hK, hX⟩, hA⟩, hEE⟩ := hv
  have C0 : kAt p u m #[.ref (a 0), .int (nI 1), .int (d), .int (t), .int (b), .int (r), .int (h)] meth c cL_calls 8 (some .int) RL wsL_calls := kAt_of B hml0
  obtain ⟨hx, hb, hr, hml, hown, hts, hlocks⟩ := id C0
  have htab := vx_table (x := yL_calls) B (hts (.codeWith yL_calls cL_calls 8 (some .int) [(0, 80, 81, 34)]) List.mem_cons_self)
  have hS : va_S A u.heap u.heap [] := va_S.rf
  have hl := lv_entry ([.ref (a 0), .int (nI 1), .int (d), .int (t), .int (b), .int (r), .int (h)]) (n := 8) (Nat.le_of_ble_eq_true rfl)
  rw [lg_entry_eq]
  generalize (lg_sl ([.ref (a 0), .int (nI 1), .int (d), .int (t), .int (b), .int (r), .int (h)]) ++ List.replicate (8 - (lg_sl ([.ref (a 0), .int (nI 1), .int (d), .int (t), .int (b), .int (r), .int (h)])).length) Slot.unset).toArray = ls at hl ⊢
  have hl : lv_has ls 8 [(0, .ref (a 0)), (1, .int (nI 1)), (2, .int (d)), (3, .int (t)), (4, .int (b)), (5, .int (r)), (6, .int (h))] := hl
  refine lv_iload_n hx hb dL_calls_0 rfl (lv_at hl 1 rfl) ?_
  refine lv_if_ne (tgt := 15) hx hb dL_calls_1 (by decide) (fun _ => ?_) (fun z => absurd z (by decide))
  refine lv_iload_n hx hb dL_calls_15 rfl (lv_at hl 1 rfl) ?_
  refine lv_iconst (v := nI 1) hx hb dL_calls_16 (by decide) ?_
  refine lv_icmp_ne (tgt := 35) hx hb dL_calls_17 (by decide) (fun z => absurd (by decide) z) (fun _ => ?_)
  refine lv_aload_n hx hb dL_calls_20 rfl (lv_at hl 0 rfl) ?_
  refine lv_iload_n hx hb dL_calls_21 rfl (lv_at hl 2 rfl) ?_
  refine lv_iload_n hx hb dL_calls_22 rfl (lv_at hl 3 rfl) ?_
  refine lv_iload hx hb dL_calls_23 (lv_at hl 4 rfl) ?_
  refine lv_iload hx hb dL_calls_25 (lv_at hl 5 rfl) ?_
  refine lv_iload hx hb dL_calls_27 (lv_at hl 6 rfl) ?_
  refine k_goLx (wo := []) hP hA hS (vx_runV (rest := []) ⟨hx, hb, hml, hown, hts⟩ (c_X4_lease l hl0 D q (va_A (wC q a S cap nl) u.heap.size) a S cap nl d t b r h w0 e0 hnl hnow hw200 hg) (cwV 5 hts gL_calls_X4_lease rfl rfl rfl (by decide +kernel) ⟨Nat.le_of_ble_eq_true rfl, Nat.le_of_ble_eq_true rfl⟩) ⟨kBXE_blind, (va_recv hK.1 hP.1 (ci := 5) (q0 := 0) rfl rfl), fun U hU hW => ⟨rfl, ⟨by rw [hU]; exact kW_cut (wo := []) hP, hK.warm hW, (hX.at hS hU hW).narrow (kW_sub (wo := []) hP hA)⟩, (hEE.at hS hU hW).narrow (kW_sub (wo := []) hP hA), fun z9 h9 => Or.inr (by rw [← hU]; exact h9)⟩⟩ rfl rfl hl.1 rfl (lv_room (Nat.le_of_ble_eq_true rfl)) dL_calls_29 ⟨Nat.le_of_ble_eq_true rfl, Nat.le_of_ble_eq_true rfl⟩) (fun E ce q9 H locs hE9 hP hS h1 h2 h3 => ?_) (fun rr x9 H locs hr1 hP hS => ?_)
  · have hco := hE9
    have ee := hE E hE9
    subst ee
    refine vx_catch (name := eS) hown [] ⟨0, 80, 81, 34⟩ [] htab (fun z hz => by cases hz) (by decide) (by decide) (hts _ (by decide +kernel)) (va_Nw.use rfl hX.2.2.2.2.2.2.1.2.2) h1 h2 h3 ?_
    refine lv_astore (lv' := [(7, .ref q9), (0, .ref (a 0)), (1, .int (nI 1)), (2, .int (d)), (3, .int (t)), (4, .int (b)), (5, .int (r)), (6, .int (h))]) hx hb dL_calls_81 hl (by decide) rfl (fun ls hl => ?_)
    refine lv_ldc (v := (-2000000003)) hx hb hown (hts _ cs_L_calls_36) dL_calls_83 ?_
    have hz : ¬ (coLease S w0 nl d t b r h).1 = nI 0 := by obtain ⟨i, hi, hc⟩ := hco; rw [hc]; exact fun z => by have hj := (List.getElem?_eq_some_iff.mp hi).1; have := (nI_eq (a := i + 1) (b := 0) (by have : i < 9 := Nat.lt_of_lt_of_le hj (by decide); omega) (by decide)).mp z; omega
    refine W.widen (k := 9) (n := 97) (Nat.le_of_ble_eq_true rfl) (Nat.le_of_ble_eq_true rfl) ?_
    exact k_iretC (a, cap, nl) hx hb hr hlocks ⟨(caV_n hz).symm, fun z => absurd z hz, fun _ => rfl⟩ (by rw [outS, if_neg hz]; exact hP) hS dL_calls_85
  · obtain ⟨⟨hc0, hr2⟩, hx9⟩ := hr1
    refine lv_goto (tgt := 80) hx hb dL_calls_32 (by decide) ?_
    refine W.widen (k := 9) (n := 97) (Nat.le_of_ble_eq_true rfl) (Nat.le_of_ble_eq_true rfl) ?_
    exact k_iretC (x9.1, x9.2, nl + 1) hx hb hr hlocks ⟨hr2.trans (caV_0 hc0).symm, fun _ => ⟨hx9, rfl⟩, fun z => absurd hc0 z⟩ (by rw [outS, if_pos hc0]; exact hP) hS dL_calls_80
set_option maxHeartbeats 4000000 in
set_option maxRecDepth 100000 in
theorem c_L_calls_quit (l : Launch) (hl0 : l.stackTraces = false) (D : va_G) (q : Nat → ClassId) (A : Nat → Prop) (a : Nat → Nat) (S : Nat → Nat → Int32) (cap nl : Nat) (y : Int32) (w0 : Nat) (hnl : nl ≤ cap ∧ cap ≤ 40 ∧ nl ≤ 30) (hnow : S 0 0 = nI w0) (hw200 : w0 ≤ 200) (x2 x3 x4 x5 : Int32) (hE : caE [eI, eS] (coQuit S w0 nl y)) : Met l yL_calls wsL_calls ({ frames := 8, cells := 2, slots := 12, locals := 243 } : Room) (va_Pc [.ref (a 0), .int (nI 2), .int (y), .int (x2), .int (x3), .int (x4), .int (x5)] (kBL D q A (fun H => kW D A (wC q a S cap nl) H))) (kRi D A (caV (coQuit S w0 nl y)) (wC q a (outS S (coQuit S w0 nl y)) cap nl)) 2 12 A := by
  refine va_MetW (cc := cL_calls) (maxL := 8) (ret := some .int) (hh := [(0, 80, 81, 34)]) (by decide) rfl ?_
  intro p e u m args below meth c s₁ B hml0 hv
  obtain ⟨rfl, ⟨hP, hK, hX⟩, hA⟩ := hv
  have C0 : kAt p u m #[.ref (a 0), .int (nI 2), .int (y), .int (x2), .int (x3), .int (x4), .int (x5)] meth c cL_calls 8 (some .int) RL wsL_calls := kAt_of B hml0
  obtain ⟨hx, hb, hr, hml, hown, hts, hlocks⟩ := id C0
  have htab := vx_table (x := yL_calls) B (hts (.codeWith yL_calls cL_calls 8 (some .int) [(0, 80, 81, 34)]) List.mem_cons_self)
  have hS : va_S A u.heap u.heap [] := va_S.rf
  have hl := lv_entry ([.ref (a 0), .int (nI 2), .int (y), .int (x2), .int (x3), .int (x4), .int (x5)]) (n := 8) (Nat.le_of_ble_eq_true rfl)
  rw [lg_entry_eq]
  generalize (lg_sl ([.ref (a 0), .int (nI 2), .int (y), .int (x2), .int (x3), .int (x4), .int (x5)]) ++ List.replicate (8 - (lg_sl ([.ref (a 0), .int (nI 2), .int (y), .int (x2), .int (x3), .int (x4), .int (x5)])).length) Slot.unset).toArray = ls at hl ⊢
  have hl : lv_has ls 8 [(0, .ref (a 0)), (1, .int (nI 2)), (2, .int (y)), (3, .int (x2)), (4, .int (x3)), (5, .int (x4)), (6, .int (x5))] := hl
  refine lv_iload_n hx hb dL_calls_0 rfl (lv_at hl 1 rfl) ?_
  refine lv_if_ne (tgt := 15) hx hb dL_calls_1 (by decide) (fun _ => ?_) (fun z => absurd z (by decide))
  refine lv_iload_n hx hb dL_calls_15 rfl (lv_at hl 1 rfl) ?_
  refine lv_iconst (v := nI 1) hx hb dL_calls_16 (by decide) ?_
  refine lv_icmp_ne (tgt := 35) hx hb dL_calls_17 (by decide) (fun _ => ?_) (fun z => absurd z (by decide))
  refine lv_iload_n hx hb dL_calls_35 rfl (lv_at hl 1 rfl) ?_
  refine lv_iconst (v := nI 2) hx hb dL_calls_36 (by decide) ?_
  refine lv_icmp_ne (tgt := 48) hx hb dL_calls_37 (by decide) (fun z => absurd (by decide) z) (fun _ => ?_)
  refine lv_aload_n hx hb dL_calls_40 rfl (lv_at hl 0 rfl) ?_
  refine lv_iload_n hx hb dL_calls_41 rfl (lv_at hl 2 rfl) ?_
  refine k_goXi hS (vx_runV (rest := []) ⟨hx, hb, hml, hown, hts⟩ (c_X4_quit l hl0 D q A a S cap nl y w0 hnl hnow hw200) (cwV 1 hts gL_calls_X4_quit rfl rfl rfl (by decide +kernel) ⟨Nat.le_of_ble_eq_true rfl, Nat.le_of_ble_eq_true rfl⟩) ⟨kBX_blind, (va_recv hK.1 hP.1 (ci := 5) (q0 := 0) rfl rfl), fun U hU hW => ⟨rfl, ⟨by rw [hU]; exact hP, hK.warm hW, hX.at hS hU hW⟩⟩⟩ rfl rfl hl.1 rfl (lv_room (Nat.le_of_ble_eq_true rfl)) dL_calls_42 ⟨Nat.le_of_ble_eq_true rfl, Nat.le_of_ble_eq_true rfl⟩) (fun E ce q9 H locs hE9 hP hS h1 h2 h3 => ?_) (fun rr H locs hr1 hP hS => ?_)
  · have hco := hE9
    have ee := hE E hE9
    subst ee
    refine vx_catch (name := eS) hown [] ⟨0, 80, 81, 34⟩ [] htab (fun z hz => by cases hz) (by decide) (by decide) (hts _ (by decide +kernel)) (va_Nw.use rfl hX.2.2.2.2.2.2.1.2.2) h1 h2 h3 ?_
    refine lv_astore (lv' := [(7, .ref q9), (0, .ref (a 0)), (1, .int (nI 2)), (2, .int (y)), (3, .int (x2)), (4, .int (x3)), (5, .int (x4)), (6, .int (x5))]) hx hb dL_calls_81 hl (by decide) rfl (fun ls hl => ?_)
    refine lv_ldc (v := (-2000000003)) hx hb hown (hts _ cs_L_calls_36) dL_calls_83 ?_
    have hz : ¬ (coQuit S w0 nl y).1 = nI 0 := by obtain ⟨i, hi, hc⟩ := hco; rw [hc]; exact fun z => by have hj := (List.getElem?_eq_some_iff.mp hi).1; have := (nI_eq (a := i + 1) (b := 0) (by have : i < 9 := Nat.lt_of_lt_of_le hj (by decide); omega) (by decide)).mp z; omega
    refine W.widen (k := 2) (n := 12) (Nat.le_of_ble_eq_true rfl) (Nat.le_of_ble_eq_true rfl) ?_
    exact k_iretW hx hb hr hlocks (by rw [outS, if_neg hz]; exact hP) hS (caV_n hz).symm dL_calls_85
  · obtain ⟨hc0, hr2⟩ := hr1
    refine lv_goto (tgt := 80) hx hb dL_calls_45 (by decide) ?_
    refine W.widen (k := 2) (n := 12) (Nat.le_of_ble_eq_true rfl) (Nat.le_of_ble_eq_true rfl) ?_
    exact k_iretW hx hb hr hlocks (by rw [outS, if_pos hc0]; exact hP) hS (hr2.trans (caV_0 hc0).symm) dL_calls_80
set_option maxHeartbeats 4000000 in
set_option maxRecDepth 100000 in
theorem c_L_calls_ask (l : Launch) (hl0 : l.stackTraces = false) (D : va_G) (q : Nat → ClassId) (A : Nat → Prop) (a : Nat → Nat) (S : Nat → Nat → Int32) (cap nl : Nat) (b s : Int32) (x3 x4 x5 : Int32) (hE : caE [eI, eS] (coAsk S b s)) : Met l yL_calls wsL_calls ({ frames := 8, cells := 3, slots := 18, locals := 244 } : Room) (va_Pc [.ref (a 0), .int (nI 3), .int (b), .int (s), .int (x3), .int (x4), .int (x5)] (kBL D q A (fun H => kW D A (wC q a S cap nl) H))) (kRi D A (caV (coAsk S b s)) (wC q a (outS S (coAsk S b s)) cap nl)) 3 18 A := by
  refine va_MetW (cc := cL_calls) (maxL := 8) (ret := some .int) (hh := [(0, 80, 81, 34)]) (by decide) rfl ?_
  intro p e u m args below meth c s₁ B hml0 hv
  obtain ⟨rfl, ⟨hP, hK, hX⟩, hA⟩ := hv
  have C0 : kAt p u m #[.ref (a 0), .int (nI 3), .int (b), .int (s), .int (x3), .int (x4), .int (x5)] meth c cL_calls 8 (some .int) RL wsL_calls := kAt_of B hml0
  obtain ⟨hx, hb, hr, hml, hown, hts, hlocks⟩ := id C0
  have htab := vx_table (x := yL_calls) B (hts (.codeWith yL_calls cL_calls 8 (some .int) [(0, 80, 81, 34)]) List.mem_cons_self)
  have hS : va_S A u.heap u.heap [] := va_S.rf
  have hl := lv_entry ([.ref (a 0), .int (nI 3), .int (b), .int (s), .int (x3), .int (x4), .int (x5)]) (n := 8) (Nat.le_of_ble_eq_true rfl)
  rw [lg_entry_eq]
  generalize (lg_sl ([.ref (a 0), .int (nI 3), .int (b), .int (s), .int (x3), .int (x4), .int (x5)]) ++ List.replicate (8 - (lg_sl ([.ref (a 0), .int (nI 3), .int (b), .int (s), .int (x3), .int (x4), .int (x5)])).length) Slot.unset).toArray = ls at hl ⊢
  have hl : lv_has ls 8 [(0, .ref (a 0)), (1, .int (nI 3)), (2, .int (b)), (3, .int (s)), (4, .int (x3)), (5, .int (x4)), (6, .int (x5))] := hl
  refine lv_iload_n hx hb dL_calls_0 rfl (lv_at hl 1 rfl) ?_
  refine lv_if_ne (tgt := 15) hx hb dL_calls_1 (by decide) (fun _ => ?_) (fun z => absurd z (by decide))
  refine lv_iload_n hx hb dL_calls_15 rfl (lv_at hl 1 rfl) ?_
  refine lv_iconst (v := nI 1) hx hb dL_calls_16 (by decide) ?_
  refine lv_icmp_ne (tgt := 35) hx hb dL_calls_17 (by decide) (fun _ => ?_) (fun z => absurd z (by decide))
  refine lv_iload_n hx hb dL_calls_35 rfl (lv_at hl 1 rfl) ?_
  refine lv_iconst (v := nI 2) hx hb dL_calls_36 (by decide) ?_
  refine lv_icmp_ne (tgt := 48) hx hb dL_calls_37 (by decide) (fun _ => ?_) (fun z => absurd z (by decide))
  refine lv_iload_n hx hb dL_calls_48 rfl (lv_at hl 1 rfl) ?_
  refine lv_iconst (v := nI 3) hx hb dL_calls_49 (by decide) ?_
  refine lv_icmp_ne (tgt := 62) hx hb dL_calls_50 (by decide) (fun z => absurd (by decide) z) (fun _ => ?_)
  refine lv_aload_n hx hb dL_calls_53 rfl (lv_at hl 0 rfl) ?_
  refine lv_iload_n hx hb dL_calls_54 rfl (lv_at hl 2 rfl) ?_
  refine lv_iload_n hx hb dL_calls_55 rfl (lv_at hl 3 rfl) ?_
  refine k_goXi hS (vx_runV (rest := []) ⟨hx, hb, hml, hown, hts⟩ (c_X4_ask l hl0 D q A a S cap nl b s) (cwV 2 hts gL_calls_X4_ask rfl rfl rfl (by decide +kernel) ⟨Nat.le_of_ble_eq_true rfl, Nat.le_of_ble_eq_true rfl⟩) ⟨kBX_blind, (va_recv hK.1 hP.1 (ci := 5) (q0 := 0) rfl rfl), fun U hU hW => ⟨rfl, ⟨by rw [hU]; exact hP, hK.warm hW, hX.at hS hU hW⟩⟩⟩ rfl rfl hl.1 rfl (lv_room (Nat.le_of_ble_eq_true rfl)) dL_calls_56 ⟨Nat.le_of_ble_eq_true rfl, Nat.le_of_ble_eq_true rfl⟩) (fun E ce q9 H locs hE9 hP hS h1 h2 h3 => ?_) (fun rr H locs hr1 hP hS => ?_)
  · have hco := hE9
    have ee := hE E hE9
    subst ee
    refine vx_catch (name := eS) hown [] ⟨0, 80, 81, 34⟩ [] htab (fun z hz => by cases hz) (by decide) (by decide) (hts _ (by decide +kernel)) (va_Nw.use rfl hX.2.2.2.2.2.2.1.2.2) h1 h2 h3 ?_
    refine lv_astore (lv' := [(7, .ref q9), (0, .ref (a 0)), (1, .int (nI 3)), (2, .int (b)), (3, .int (s)), (4, .int (x3)), (5, .int (x4)), (6, .int (x5))]) hx hb dL_calls_81 hl (by decide) rfl (fun ls hl => ?_)
    refine lv_ldc (v := (-2000000003)) hx hb hown (hts _ cs_L_calls_36) dL_calls_83 ?_
    have hz : ¬ (coAsk S b s).1 = nI 0 := by obtain ⟨i, hi, hc⟩ := hco; rw [hc]; exact fun z => by have hj := (List.getElem?_eq_some_iff.mp hi).1; have := (nI_eq (a := i + 1) (b := 0) (by have : i < 9 := Nat.lt_of_lt_of_le hj (by decide); omega) (by decide)).mp z; omega
    refine W.widen (k := 3) (n := 18) (Nat.le_of_ble_eq_true rfl) (Nat.le_of_ble_eq_true rfl) ?_
    exact k_iretW hx hb hr hlocks (by rw [outS, if_neg hz]; exact hP) hS (caV_n hz).symm dL_calls_85
  · obtain ⟨hc0, hr2⟩ := hr1
    refine lv_goto (tgt := 80) hx hb dL_calls_59 (by decide) ?_
    refine W.widen (k := 3) (n := 18) (Nat.le_of_ble_eq_true rfl) (Nat.le_of_ble_eq_true rfl) ?_
    exact k_iretW hx hb hr hlocks (by rw [outS, if_pos hc0]; exact hP) hS (hr2.trans (caV_0 hc0).symm) dL_calls_80
set_option maxHeartbeats 4000000 in
set_option maxRecDepth 100000 in
theorem c_L_calls_lot (l : Launch) (hl0 : l.stackTraces = false) (D : va_G) (q : Nat → ClassId) (A : Nat → Prop) (a : Nat → Nat) (S : Nat → Nat → Int32) (cap nl : Nat) (v : Int32) (L : Nat) (hL : S 0 2 = nI L) (hL50 : L ≤ 50) (x2 x3 x4 x5 : Int32) (hE : caE [eA, eS] (coLot S L v)) : Met l yL_calls wsL_calls ({ frames := 8, cells := 2, slots := 12, locals := 243 } : Room) (va_Pc [.ref (a 0), .int (nI 4), .int (v), .int (x2), .int (x3), .int (x4), .int (x5)] (kBL D q A (fun H => kW D A (wC q a S cap nl) H))) (kRi D A (caV (coLot S L v)) (wC q a (outS S (coLot S L v)) cap nl)) 2 12 A := by
  refine va_MetW (cc := cL_calls) (maxL := 8) (ret := some .int) (hh := [(0, 80, 81, 34)]) (by decide) rfl ?_
  intro p e u m args below meth c s₁ B hml0 hv
  obtain ⟨rfl, ⟨hP, hK, hX⟩, hA⟩ := hv
  have C0 : kAt p u m #[.ref (a 0), .int (nI 4), .int (v), .int (x2), .int (x3), .int (x4), .int (x5)] meth c cL_calls 8 (some .int) RL wsL_calls := kAt_of B hml0
  obtain ⟨hx, hb, hr, hml, hown, hts, hlocks⟩ := id C0
  have htab := vx_table (x := yL_calls) B (hts (.codeWith yL_calls cL_calls 8 (some .int) [(0, 80, 81, 34)]) List.mem_cons_self)
  have hS : va_S A u.heap u.heap [] := va_S.rf
  have hl := lv_entry ([.ref (a 0), .int (nI 4), .int (v), .int (x2), .int (x3), .int (x4), .int (x5)]) (n := 8) (Nat.le_of_ble_eq_true rfl)
  rw [lg_entry_eq]
  generalize (lg_sl ([.ref (a 0), .int (nI 4), .int (v), .int (x2), .int (x3), .int (x4), .int (x5)]) ++ List.replicate (8 - (lg_sl ([.ref (a 0), .int (nI 4), .int (v), .int (x2), .int (x3), .int (x4), .int (x5)])).length) Slot.unset).toArray = ls at hl ⊢
  have hl : lv_has ls 8 [(0, .ref (a 0)), (1, .int (nI 4)), (2, .int (v)), (3, .int (x2)), (4, .int (x3)), (5, .int (x4)), (6, .int (x5))] := hl
  refine lv_iload_n hx hb dL_calls_0 rfl (lv_at hl 1 rfl) ?_
  refine lv_if_ne (tgt := 15) hx hb dL_calls_1 (by decide) (fun _ => ?_) (fun z => absurd z (by decide))
  refine lv_iload_n hx hb dL_calls_15 rfl (lv_at hl 1 rfl) ?_
  refine lv_iconst (v := nI 1) hx hb dL_calls_16 (by decide) ?_
  refine lv_icmp_ne (tgt := 35) hx hb dL_calls_17 (by decide) (fun _ => ?_) (fun z => absurd z (by decide))
  refine lv_iload_n hx hb dL_calls_35 rfl (lv_at hl 1 rfl) ?_
  refine lv_iconst (v := nI 2) hx hb dL_calls_36 (by decide) ?_
  refine lv_icmp_ne (tgt := 48) hx hb dL_calls_37 (by decide) (fun _ => ?_) (fun z => absurd z (by decide))
  refine lv_iload_n hx hb dL_calls_48 rfl (lv_at hl 1 rfl) ?_
  refine lv_iconst (v := nI 3) hx hb dL_calls_49 (by decide) ?_
  refine lv_icmp_ne (tgt := 62) hx hb dL_calls_50 (by decide) (fun _ => ?_) (fun z => absurd z (by decide))
  refine lv_iload_n hx hb dL_calls_62 rfl (lv_at hl 1 rfl) ?_
  refine lv_iconst (v := nI 4) hx hb dL_calls_63 (by decide) ?_
  refine lv_icmp_ne (tgt := 75) hx hb dL_calls_64 (by decide) (fun z => absurd (by decide) z) (fun _ => ?_)
  refine lv_aload_n hx hb dL_calls_67 rfl (lv_at hl 0 rfl) ?_
  refine lv_iload_n hx hb dL_calls_68 rfl (lv_at hl 2 rfl) ?_
  refine k_goXi hS (vx_runV (rest := []) ⟨hx, hb, hml, hown, hts⟩ (c_X4_lot l hl0 D q A a S cap nl v L hL hL50) (cwV 1 hts gL_calls_X4_lot rfl rfl rfl (by decide +kernel) ⟨Nat.le_of_ble_eq_true rfl, Nat.le_of_ble_eq_true rfl⟩) ⟨kBX_blind, (va_recv hK.1 hP.1 (ci := 5) (q0 := 0) rfl rfl), fun U hU hW => ⟨rfl, ⟨by rw [hU]; exact hP, hK.warm hW, hX.at hS hU hW⟩⟩⟩ rfl rfl hl.1 rfl (lv_room (Nat.le_of_ble_eq_true rfl)) dL_calls_69 ⟨Nat.le_of_ble_eq_true rfl, Nat.le_of_ble_eq_true rfl⟩) (fun E ce q9 H locs hE9 hP hS h1 h2 h3 => ?_) (fun rr H locs hr1 hP hS => ?_)
  · have hco := hE9
    have ee := hE E hE9
    subst ee
    refine vx_catch (name := eS) hown [] ⟨0, 80, 81, 34⟩ [] htab (fun z hz => by cases hz) (by decide) (by decide) (hts _ (by decide +kernel)) (va_Nw.use rfl hX.2.2.2.2.2.2.1.2.2) h1 h2 h3 ?_
    refine lv_astore (lv' := [(7, .ref q9), (0, .ref (a 0)), (1, .int (nI 4)), (2, .int (v)), (3, .int (x2)), (4, .int (x3)), (5, .int (x4)), (6, .int (x5))]) hx hb dL_calls_81 hl (by decide) rfl (fun ls hl => ?_)
    refine lv_ldc (v := (-2000000003)) hx hb hown (hts _ cs_L_calls_36) dL_calls_83 ?_
    have hz : ¬ (coLot S L v).1 = nI 0 := by obtain ⟨i, hi, hc⟩ := hco; rw [hc]; exact fun z => by have hj := (List.getElem?_eq_some_iff.mp hi).1; have := (nI_eq (a := i + 1) (b := 0) (by have : i < 9 := Nat.lt_of_lt_of_le hj (by decide); omega) (by decide)).mp z; omega
    refine W.widen (k := 2) (n := 12) (Nat.le_of_ble_eq_true rfl) (Nat.le_of_ble_eq_true rfl) ?_
    exact k_iretW hx hb hr hlocks (by rw [outS, if_neg hz]; exact hP) hS (caV_n hz).symm dL_calls_85
  · obtain ⟨hc0, hr2⟩ := hr1
    refine lv_goto (tgt := 80) hx hb dL_calls_72 (by decide) ?_
    refine W.widen (k := 2) (n := 12) (Nat.le_of_ble_eq_true rfl) (Nat.le_of_ble_eq_true rfl) ?_
    exact k_iretW hx hb hr hlocks (by rw [outS, if_pos hc0]; exact hP) hS (hr2.trans (caV_0 hc0).symm) dL_calls_80
set_option maxHeartbeats 4000000 in
set_option maxRecDepth 100000 in
theorem c_L_calls_pass (l : Launch) (hl0 : l.stackTraces = false) (D : va_G) (q : Nat → ClassId) (A : Nat → Prop) (a : Nat → Nat) (S : Nat → Nat → Int32) (cap nl : Nat) (h : Int32) (n w0 : Nat) (hn : S 0 1 = nI n) (hn60 : n ≤ 60) (hnl : nl ≤ cap ∧ cap ≤ 40 ∧ nl ≤ 30) (hnow : S 0 0 = nI w0) (hw200 : w0 ≤ 200) (hoc : okC S nl) (hlt : okL S) (x2 x3 x4 x5 : Int32) (hE : caE [eA, eS] (coPass S n nl w0 h)) : Met l yL_calls wsL_calls ({ frames := 8, cells := 2, slots := 12, locals := 245 } : Room) (va_Pc [.ref (a 0), .int (nI 5), .int (h), .int (x2), .int (x3), .int (x4), .int (x5)] (kBL D q A (fun H => kW D A (wC q a S cap nl) H))) (kRi D A (caV (coPass S n nl w0 h)) (wC q a (outS S (coPass S n nl w0 h)) cap nl)) 2 12 A := by
  refine va_MetW (cc := cL_calls) (maxL := 8) (ret := some .int) (hh := [(0, 80, 81, 34)]) (by decide) rfl ?_
  intro p e u m args below meth c s₁ B hml0 hv
  obtain ⟨rfl, ⟨hP, hK, hX⟩, hA⟩ := hv
  have C0 : kAt p u m #[.ref (a 0), .int (nI 5), .int (h), .int (x2), .int (x3), .int (x4), .int (x5)] meth c cL_calls 8 (some .int) RL wsL_calls := kAt_of B hml0
  obtain ⟨hx, hb, hr, hml, hown, hts, hlocks⟩ := id C0
  have htab := vx_table (x := yL_calls) B (hts (.codeWith yL_calls cL_calls 8 (some .int) [(0, 80, 81, 34)]) List.mem_cons_self)
  have hS : va_S A u.heap u.heap [] := va_S.rf
  have hl := lv_entry ([.ref (a 0), .int (nI 5), .int (h), .int (x2), .int (x3), .int (x4), .int (x5)]) (n := 8) (Nat.le_of_ble_eq_true rfl)
  rw [lg_entry_eq]
  generalize (lg_sl ([.ref (a 0), .int (nI 5), .int (h), .int (x2), .int (x3), .int (x4), .int (x5)]) ++ List.replicate (8 - (lg_sl ([.ref (a 0), .int (nI 5), .int (h), .int (x2), .int (x3), .int (x4), .int (x5)])).length) Slot.unset).toArray = ls at hl ⊢
  have hl : lv_has ls 8 [(0, .ref (a 0)), (1, .int (nI 5)), (2, .int (h)), (3, .int (x2)), (4, .int (x3)), (5, .int (x4)), (6, .int (x5))] := hl
  refine lv_iload_n hx hb dL_calls_0 rfl (lv_at hl 1 rfl) ?_
  refine lv_if_ne (tgt := 15) hx hb dL_calls_1 (by decide) (fun _ => ?_) (fun z => absurd z (by decide))
  refine lv_iload_n hx hb dL_calls_15 rfl (lv_at hl 1 rfl) ?_
  refine lv_iconst (v := nI 1) hx hb dL_calls_16 (by decide) ?_
  refine lv_icmp_ne (tgt := 35) hx hb dL_calls_17 (by decide) (fun _ => ?_) (fun z => absurd z (by decide))
  refine lv_iload_n hx hb dL_calls_35 rfl (lv_at hl 1 rfl) ?_
  refine lv_iconst (v := nI 2) hx hb dL_calls_36 (by decide) ?_
  refine lv_icmp_ne (tgt := 48) hx hb dL_calls_37 (by decide) (fun _ => ?_) (fun z => absurd z (by decide))
  refine lv_iload_n hx hb dL_calls_48 rfl (lv_at hl 1 rfl) ?_
  refine lv_iconst (v := nI 3) hx hb dL_calls_49 (by decide) ?_
  refine lv_icmp_ne (tgt := 62) hx hb dL_calls_50 (by decide) (fun _ => ?_) (fun z => absurd z (by decide))
  refine lv_iload_n hx hb dL_calls_62 rfl (lv_at hl 1 rfl) ?_
  refine lv_iconst (v := nI 4) hx hb dL_calls_63 (by decide) ?_
  refine lv_icmp_ne (tgt := 75) hx hb dL_calls_64 (by decide) (fun _ => ?_) (fun z => absurd z (by decide))
  refine lv_aload_n hx hb dL_calls_75 rfl (lv_at hl 0 rfl) ?_
  refine lv_iload_n hx hb dL_calls_76 rfl (lv_at hl 2 rfl) ?_
  refine k_goXi hS (vx_runV (rest := []) ⟨hx, hb, hml, hown, hts⟩ (c_X4_pass l hl0 D q A a S cap nl h n w0 hn hn60 hnl hnow hw200 hoc hlt) (cwV 1 hts gL_calls_X4_pass rfl rfl rfl (by decide +kernel) ⟨Nat.le_of_ble_eq_true rfl, Nat.le_of_ble_eq_true rfl⟩) ⟨kBX_blind, (va_recv hK.1 hP.1 (ci := 5) (q0 := 0) rfl rfl), fun U hU hW => ⟨rfl, ⟨by rw [hU]; exact hP, hK.warm hW, hX.at hS hU hW⟩⟩⟩ rfl rfl hl.1 rfl (lv_room (Nat.le_of_ble_eq_true rfl)) dL_calls_77 ⟨Nat.le_of_ble_eq_true rfl, Nat.le_of_ble_eq_true rfl⟩) (fun E ce q9 H locs hE9 hP hS h1 h2 h3 => ?_) (fun rr H locs hr1 hP hS => ?_)
  · have hco := hE9
    have ee := hE E hE9
    subst ee
    refine vx_catch (name := eS) hown [] ⟨0, 80, 81, 34⟩ [] htab (fun z hz => by cases hz) (by decide) (by decide) (hts _ (by decide +kernel)) (va_Nw.use rfl hX.2.2.2.2.2.2.1.2.2) h1 h2 h3 ?_
    refine lv_astore (lv' := [(7, .ref q9), (0, .ref (a 0)), (1, .int (nI 5)), (2, .int (h)), (3, .int (x2)), (4, .int (x3)), (5, .int (x4)), (6, .int (x5))]) hx hb dL_calls_81 hl (by decide) rfl (fun ls hl => ?_)
    refine lv_ldc (v := (-2000000003)) hx hb hown (hts _ cs_L_calls_36) dL_calls_83 ?_
    have hz : ¬ (coPass S n nl w0 h).1 = nI 0 := by obtain ⟨i, hi, hc⟩ := hco; rw [hc]; exact fun z => by have hj := (List.getElem?_eq_some_iff.mp hi).1; have := (nI_eq (a := i + 1) (b := 0) (by have : i < 9 := Nat.lt_of_lt_of_le hj (by decide); omega) (by decide)).mp z; omega
    refine W.widen (k := 2) (n := 12) (Nat.le_of_ble_eq_true rfl) (Nat.le_of_ble_eq_true rfl) ?_
    exact k_iretW hx hb hr hlocks (by rw [outS, if_neg hz]; exact hP) hS (caV_n hz).symm dL_calls_85
  · obtain ⟨hc0, hr2⟩ := hr1
    refine W.widen (k := 2) (n := 12) (Nat.le_of_ble_eq_true rfl) (Nat.le_of_ble_eq_true rfl) ?_
    exact k_iretW hx hb hr hlocks (by rw [outS, if_pos hc0]; exact hP) hS (hr2.trans (caV_0 hc0).symm) dL_calls_80
