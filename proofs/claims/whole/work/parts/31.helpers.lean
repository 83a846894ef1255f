set_option maxHeartbeats 4000000 in
set_option maxRecDepth 100000 in
theorem c_L_setPeople (l : Launch) (hl0 : l.stackTraces = false) (D : va_G) (q : Nat → ClassId) (A : Nat → Prop) (a : Nat → Nat) (S : Nat → Nat → Int32) (cap nl o : Nat) (g : Nat → Int64) (s p0 sh : Int32) : Met l yL_setPeople wsL_setPeople ({ frames := 8, cells := 3, slots := 18, locals := 246 } : Room) (va_Pc [.ref (a 0), .int s, .int p0, .int sh, .ref o] (kBL D q A (fun H => kW D A (wO q o g (wC q a S cap nl)) H))) (kRi D A (outC (coSetPeople S s p0 sh)) (wO q o (outG g (coSetPeople S s p0 sh)) (wC q a (outS S (coSetPeople S s p0 sh)) cap nl))) 3 18 A := by
  refine va_MetW (cc := cL_setPeople) (maxL := 6) (ret := some .int) (hh := [(0, 12, 15, 13), (0, 12, 19, 15)]) (by decide) rfl ?_
  intro p e u m args below meth c s₁ B hml0 hv
  obtain ⟨rfl, ⟨hP, hK, hX⟩, hA⟩ := hv
  have C0 : kAt p u m #[.ref (a 0), .int s, .int p0, .int sh, .ref o] meth c cL_setPeople 6 (some .int) RL wsL_setPeople := kAt_of B hml0
  obtain ⟨hx, hb, hr, hml, hown, hts, hlocks⟩ := id C0
  have htab := vx_table (x := yL_setPeople) B (hts (.codeWith yL_setPeople cL_setPeople 6 (some .int) [(0, 12, 15, 13), (0, 12, 19, 15)]) List.mem_cons_self)
  have hS : va_S A u.heap u.heap [] := va_S.rf
  have hl := lv_entry ([.ref (a 0), .int s, .int p0, .int sh, .ref o]) (n := 6) (Nat.le_of_ble_eq_true rfl)
  rw [lg_entry_eq]
  generalize (lg_sl ([.ref (a 0), .int s, .int p0, .int sh, .ref o]) ++ List.replicate (6 - (lg_sl ([.ref (a 0), .int s, .int p0, .int sh, .ref o])).length) Slot.unset).toArray = ls at hl ⊢
  have hl : lv_has ls 6 [(0, .ref (a 0)), (1, .int s), (2, .int p0), (3, .int sh), (4, .ref o)] := hl
  refine lv_aload hx hb dL_setPeople_0 (lv_at hl 4 rfl) ?_
  refine lv_iconst (v := nI 0) hx hb dL_setPeople_2 (by decide) ?_
  refine lv_aload_n hx hb dL_setPeople_3 rfl (lv_at hl 0 rfl) ?_
  refine lv_iload_n hx hb dL_setPeople_4 rfl (lv_at hl 1 rfl) ?_
  refine lv_iload_n hx hb dL_setPeople_5 rfl (lv_at hl 2 rfl) ?_
  refine lv_iload_n hx hb dL_setPeople_6 rfl (lv_at hl 3 rfl) ?_
  refine k_goLi (H0 := u.heap) hP hA hS (vx_runV (rest := [.int (nI 0), .ref o]) ⟨hx, hb, hml, hown, hts⟩ (c_X4_setPeople l hl0 D q (va_A (wC q a S cap nl) u.heap.size) a S cap nl s p0 sh) (cwV 3 hts gL_setPeople_X4_setPeople rfl rfl rfl (by decide +kernel) ⟨Nat.le_of_ble_eq_true rfl, Nat.le_of_ble_eq_true rfl⟩) ⟨kBX_blind, (va_recv hK.1 hP.1 (ci := 5) (q0 := 1) rfl rfl), fun U hU hW => ⟨rfl, by rw [hU]; exact kW_cut hP, hK.warm hW, (hX.at hS hU hW).narrow (kW_sub hP hA)⟩⟩ rfl rfl hl.1 rfl (lv_room (Nat.le_of_ble_eq_true rfl)) dL_setPeople_7 ⟨Nat.le_of_ble_eq_true rfl, Nat.le_of_ble_eq_true rfl⟩) (fun E ce q9 H locs hE hP hS h1 h2 h3 => ?_) (fun r H locs hr1 hP hS => ?_)
  · obtain ⟨i, hi, hco⟩ := hE
    rcases i with _ | i
    · cases hi
      refine vx_catch (name := eI) hown [] ⟨0, 12, 15, 13⟩ [⟨0, 12, 19, 15⟩] htab (fun z hz => by cases hz) (by decide) (by decide) (hts _ (by decide +kernel)) (va_Nw.use rfl hX.2.2.2.2.2.2.1.1) h1 h2 h3 ?_
      refine lv_astore (lv' := [(5, .ref q9), (0, .ref (a 0)), (1, .int s), (2, .int p0), (3, .int sh), (4, .ref o)]) hx hb dL_setPeople_15 hl (by decide) rfl (fun ls hl => ?_)
      refine lv_iconst (v := nI 1) hx hb dL_setPeople_17 (by decide) ?_
      have hz : ¬ (coSetPeople S s p0 sh).1 = nI 0 := by rw [hco]; decide
      refine W.widen (k := 3) (n := 18) (Nat.le_of_ble_eq_true rfl) (Nat.le_of_ble_eq_true rfl) ?_
      exact k_iretW hx hb hr hlocks (by rw [outG, outS, if_neg hz, if_neg hz]; exact hP) hS (by unfold outC; rw [hco]) dL_setPeople_18
    · skip
      rcases i with _ | i
      · cases hi
        refine vx_catch (name := eA) hown [⟨0, 12, 15, 13⟩] ⟨0, 12, 19, 15⟩ [] htab (fun z hz => by cases List.mem_singleton.mp hz; exact Or.inr ⟨by decide, eI, hts _ (by decide +kernel), hX.2.2.2.2.2.2.2.1⟩) (by decide) (by decide) (hts _ (by decide +kernel)) (va_Nw.use rfl hX.2.2.2.2.2.2.1.2.1) h1 h2 h3 ?_
        refine lv_astore (lv' := [(5, .ref q9), (0, .ref (a 0)), (1, .int s), (2, .int p0), (3, .int sh), (4, .ref o)]) hx hb dL_setPeople_19 hl (by decide) rfl (fun ls hl => ?_)
        refine lv_iconst (v := nI 2) hx hb dL_setPeople_21 (by decide) ?_
        have hz : ¬ (coSetPeople S s p0 sh).1 = nI 0 := by rw [hco]; decide
        refine W.widen (k := 3) (n := 18) (Nat.le_of_ble_eq_true rfl) (Nat.le_of_ble_eq_true rfl) ?_
        exact k_iretW hx hb hr hlocks (by rw [outG, outS, if_neg hz, if_neg hz]; exact hP) hS (by unfold outC; rw [hco]) dL_setPeople_22
      · skip
        exact absurd hi (by simp)
  · obtain ⟨hc0, hr2⟩ := hr1
    refine lv_i2l hx hb dL_setPeople_10 rfl ?_
    refine k_lastO hx hb hK (g := g) (x := r.toInt64) hP hS dL_setPeople_11 (fun H locs hP hS => ?_)
    refine lv_goto (tgt := 23) hx hb dL_setPeople_12 (by decide) ?_
    refine lv_iconst (v := nI 0) hx hb dL_setPeople_23 (by decide) ?_
    refine W.widen (k := 3) (n := 18) (Nat.le_of_ble_eq_true rfl) (Nat.le_of_ble_eq_true rfl) ?_
    exact k_iretW hx hb hr hlocks (by rw [outG, outS, if_pos hc0, if_pos hc0, ← hr2]; exact hP) hS (by unfold outC; rw [hc0]) dL_setPeople_24
set_option maxHeartbeats 4000000 in
set_option maxRecDepth 100000 in
theorem c_L_pass (l : Launch) (hl0 : l.stackTraces = false) (D : va_G) (q : Nat → ClassId) (A : Nat → Prop) (a : Nat → Nat) (S : Nat → Nat → Int32) (cap nl o : Nat) (g : Nat → Int64) (h : Int32) (n w0 : Nat) (hn : S 0 1 = nI n) (hn60 : n ≤ 60) (hnl : nl ≤ cap ∧ cap ≤ 40 ∧ nl ≤ 30) (hnow : S 0 0 = nI w0) (hw200 : w0 ≤ 200) (hoc : okC S nl) (hlt : okL S) : Met l yL_pass wsL_pass ({ frames := 8, cells := 2, slots := 12, locals := 245 } : Room) (va_Pc [.ref (a 0), .int h, .ref o] (kBL D q A (fun H => kW D A (wO q o g (wC q a S cap nl)) H))) (kRi D A (outC (coPass S n nl w0 h)) (wO q o (outG g (coPass S n nl w0 h)) (wC q a (outS S (coPass S n nl w0 h)) cap nl))) 2 12 A := by
  refine va_MetW (cc := cL_pass) (maxL := 4) (ret := some .int) (hh := [(0, 9, 12, 15), (0, 9, 15, 21)]) (by decide) rfl ?_
  intro p e u m args below meth c s₁ B hml0 hv
  obtain ⟨rfl, ⟨hP, hK, hX⟩, hA⟩ := hv
  have C0 : kAt p u m #[.ref (a 0), .int h, .ref o] meth c cL_pass 4 (some .int) RL wsL_pass := kAt_of B hml0
  obtain ⟨hx, hb, hr, hml, hown, hts, hlocks⟩ := id C0
  have htab := vx_table (x := yL_pass) B (hts (.codeWith yL_pass cL_pass 4 (some .int) [(0, 9, 12, 15), (0, 9, 15, 21)]) List.mem_cons_self)
  have hS : va_S A u.heap u.heap [] := va_S.rf
  have hl := lv_entry ([.ref (a 0), .int h, .ref o]) (n := 4) (Nat.le_of_ble_eq_true rfl)
  rw [lg_entry_eq]
  generalize (lg_sl ([.ref (a 0), .int h, .ref o]) ++ List.replicate (4 - (lg_sl ([.ref (a 0), .int h, .ref o])).length) Slot.unset).toArray = ls at hl ⊢
  have hl : lv_has ls 4 [(0, .ref (a 0)), (1, .int h), (2, .ref o)] := hl
  refine lv_aload_n hx hb dL_pass_0 rfl (lv_at hl 2 rfl) ?_
  refine lv_iconst (v := nI 0) hx hb dL_pass_1 (by decide) ?_
  refine lv_aload_n hx hb dL_pass_2 rfl (lv_at hl 0 rfl) ?_
  refine lv_iload_n hx hb dL_pass_3 rfl (lv_at hl 1 rfl) ?_
  refine k_goLi (H0 := u.heap) hP hA hS (vx_runV (rest := [.int (nI 0), .ref o]) ⟨hx, hb, hml, hown, hts⟩ (c_X4_pass l hl0 D q (va_A (wC q a S cap nl) u.heap.size) a S cap nl h n w0 hn hn60 hnl hnow hw200 hoc hlt) (cwV 1 hts gL_pass_X4_pass rfl rfl rfl (by decide +kernel) ⟨Nat.le_of_ble_eq_true rfl, Nat.le_of_ble_eq_true rfl⟩) ⟨kBX_blind, (va_recv hK.1 hP.1 (ci := 5) (q0 := 1) rfl rfl), fun U hU hW => ⟨rfl, by rw [hU]; exact kW_cut hP, hK.warm hW, (hX.at hS hU hW).narrow (kW_sub hP hA)⟩⟩ rfl rfl hl.1 rfl (lv_room (Nat.le_of_ble_eq_true rfl)) dL_pass_4 ⟨Nat.le_of_ble_eq_true rfl, Nat.le_of_ble_eq_true rfl⟩) (fun E ce q9 H locs hE hP hS h1 h2 h3 => ?_) (fun r H locs hr1 hP hS => ?_)
  · obtain ⟨i, hi, hco⟩ := hE
    rcases i with _ | i
    · cases hi
      refine vx_catch (name := eA) hown [] ⟨0, 9, 12, 15⟩ [⟨0, 9, 15, 21⟩] htab (fun z hz => by cases hz) (by decide) (by decide) (hts _ (by decide +kernel)) (va_Nw.use rfl hX.2.2.2.2.2.2.1.2.1) h1 h2 h3 ?_
      refine lv_astore_n (lv' := [(3, .ref q9), (0, .ref (a 0)), (1, .int h), (2, .ref o)]) hx hb dL_pass_12 rfl hl (by decide) rfl (fun ls hl => ?_)
      refine lv_iconst (v := nI 1) hx hb dL_pass_13 (by decide) ?_
      have hz : ¬ (coPass S n nl w0 h).1 = nI 0 := by rw [hco]; decide
      refine W.widen (k := 2) (n := 12) (Nat.le_of_ble_eq_true rfl) (Nat.le_of_ble_eq_true rfl) ?_
      exact k_iretW hx hb hr hlocks (by rw [outG, outS, if_neg hz, if_neg hz]; exact hP) hS (by unfold outC; rw [hco]) dL_pass_14
    · skip
      rcases i with _ | i
      · cases hi
        refine vx_catch (name := eS) hown [⟨0, 9, 12, 15⟩] ⟨0, 9, 15, 21⟩ [] htab (fun z hz => by cases List.mem_singleton.mp hz; exact Or.inr ⟨by decide, eA, hts _ (by decide +kernel), hX.2.2.2.2.2.2.2.2.2⟩) (by decide) (by decide) (hts _ (by decide +kernel)) (va_Nw.use rfl hX.2.2.2.2.2.2.1.2.2) h1 h2 h3 ?_
        refine lv_astore_n (lv' := [(3, .ref q9), (0, .ref (a 0)), (1, .int h), (2, .ref o)]) hx hb dL_pass_15 rfl hl (by decide) rfl (fun ls hl => ?_)
        refine lv_iconst (v := nI 2) hx hb dL_pass_16 (by decide) ?_
        have hz : ¬ (coPass S n nl w0 h).1 = nI 0 := by rw [hco]; decide
        refine W.widen (k := 2) (n := 12) (Nat.le_of_ble_eq_true rfl) (Nat.le_of_ble_eq_true rfl) ?_
        exact k_iretW hx hb hr hlocks (by rw [outG, outS, if_neg hz, if_neg hz]; exact hP) hS (by unfold outC; rw [hco]) dL_pass_17
      · skip
        exact absurd hi (by simp)
  · obtain ⟨hc0, hr2⟩ := hr1
    refine lv_i2l hx hb dL_pass_7 rfl ?_
    refine k_lastO hx hb hK (g := g) (x := r.toInt64) hP hS dL_pass_8 (fun H locs hP hS => ?_)
    refine lv_goto (tgt := 18) hx hb dL_pass_9 (by decide) ?_
    refine lv_iconst (v := nI 0) hx hb dL_pass_18 (by decide) ?_
    refine W.widen (k := 2) (n := 12) (Nat.le_of_ble_eq_true rfl) (Nat.le_of_ble_eq_true rfl) ?_
    exact k_iretW hx hb hr hlocks (by rw [outG, outS, if_pos hc0, if_pos hc0, ← hr2]; exact hP) hS (by unfold outC; rw [hc0]) dL_pass_19
set_option maxHeartbeats 4000000 in
set_option maxRecDepth 100000 in
theorem c_L_setLamp (l : Launch) (hl0 : l.stackTraces = false) (D : va_G) (q : Nat → ClassId) (A : Nat → Prop) (a : Nat → Nat) (S : Nat → Nat → Int32) (cap nl o : Nat) (g : Nat → Int64) (s wk b : Int32) : Met l yL_setLamp wsL_setLamp ({ frames := 8, cells := 2, slots := 12, locals := 246 } : Room) (va_Pc [.ref (a 0), .int s, .int wk, .int b, .ref o] (kBL D q A (fun H => kW D A (wO q o g (wC q a S cap nl)) H))) (kRi D A (outC (coSetLamp S s wk b)) (wO q o (outG g (coSetLamp S s wk b)) (wC q a (outS S (coSetLamp S s wk b)) cap nl))) 2 12 A := by
  refine va_MetW (cc := cL_setLamp) (maxL := 6) (ret := some .int) (hh := [(0, 12, 15, 13), (0, 12, 19, 15)]) (by decide) rfl ?_
  intro p e u m args below meth c s₁ B hml0 hv
  obtain ⟨rfl, ⟨hP, hK, hX⟩, hA⟩ := hv
  have C0 : kAt p u m #[.ref (a 0), .int s, .int wk, .int b, .ref o] meth c cL_setLamp 6 (some .int) RL wsL_setLamp := kAt_of B hml0
  obtain ⟨hx, hb, hr, hml, hown, hts, hlocks⟩ := id C0
  have htab := vx_table (x := yL_setLamp) B (hts (.codeWith yL_setLamp cL_setLamp 6 (some .int) [(0, 12, 15, 13), (0, 12, 19, 15)]) List.mem_cons_self)
  have hS : va_S A u.heap u.heap [] := va_S.rf
  have hl := lv_entry ([.ref (a 0), .int s, .int wk, .int b, .ref o]) (n := 6) (Nat.le_of_ble_eq_true rfl)
  rw [lg_entry_eq]
  generalize (lg_sl ([.ref (a 0), .int s, .int wk, .int b, .ref o]) ++ List.replicate (6 - (lg_sl ([.ref (a 0), .int s, .int wk, .int b, .ref o])).length) Slot.unset).toArray = ls at hl ⊢
  have hl : lv_has ls 6 [(0, .ref (a 0)), (1, .int s), (2, .int wk), (3, .int b), (4, .ref o)] := hl
  refine lv_aload hx hb dL_setLamp_0 (lv_at hl 4 rfl) ?_
  refine lv_iconst (v := nI 0) hx hb dL_setLamp_2 (by decide) ?_
  refine lv_aload_n hx hb dL_setLamp_3 rfl (lv_at hl 0 rfl) ?_
  refine lv_iload_n hx hb dL_setLamp_4 rfl (lv_at hl 1 rfl) ?_
  refine lv_iload_n hx hb dL_setLamp_5 rfl (lv_at hl 2 rfl) ?_
  refine lv_iload_n hx hb dL_setLamp_6 rfl (lv_at hl 3 rfl) ?_
  refine k_goLi (H0 := u.heap) hP hA hS (vx_runV (rest := [.int (nI 0), .ref o]) ⟨hx, hb, hml, hown, hts⟩ (c_X4_setLamp l hl0 D q (va_A (wC q a S cap nl) u.heap.size) a S cap nl s wk b) (cwV 3 hts gL_setLamp_X4_setLamp rfl rfl rfl (by decide +kernel) ⟨Nat.le_of_ble_eq_true rfl, Nat.le_of_ble_eq_true rfl⟩) ⟨kBX_blind, (va_recv hK.1 hP.1 (ci := 5) (q0 := 1) rfl rfl), fun U hU hW => ⟨rfl, by rw [hU]; exact kW_cut hP, hK.warm hW, (hX.at hS hU hW).narrow (kW_sub hP hA)⟩⟩ rfl rfl hl.1 rfl (lv_room (Nat.le_of_ble_eq_true rfl)) dL_setLamp_7 ⟨Nat.le_of_ble_eq_true rfl, Nat.le_of_ble_eq_true rfl⟩) (fun E ce q9 H locs hE hP hS h1 h2 h3 => ?_) (fun r H locs hr1 hP hS => ?_)
  · obtain ⟨i, hi, hco⟩ := hE
    rcases i with _ | i
    · cases hi
      refine vx_catch (name := eI) hown [] ⟨0, 12, 15, 13⟩ [⟨0, 12, 19, 15⟩] htab (fun z hz => by cases hz) (by decide) (by decide) (hts _ (by decide +kernel)) (va_Nw.use rfl hX.2.2.2.2.2.2.1.1) h1 h2 h3 ?_
      refine lv_astore (lv' := [(5, .ref q9), (0, .ref (a 0)), (1, .int s), (2, .int wk), (3, .int b), (4, .ref o)]) hx hb dL_setLamp_15 hl (by decide) rfl (fun ls hl => ?_)
      refine lv_iconst (v := nI 1) hx hb dL_setLamp_17 (by decide) ?_
      have hz : ¬ (coSetLamp S s wk b).1 = nI 0 := by rw [hco]; decide
      refine W.widen (k := 2) (n := 12) (Nat.le_of_ble_eq_true rfl) (Nat.le_of_ble_eq_true rfl) ?_
      exact k_iretW hx hb hr hlocks (by rw [outG, outS, if_neg hz, if_neg hz]; exact hP) hS (by unfold outC; rw [hco]) dL_setLamp_18
    · skip
      rcases i with _ | i
      · cases hi
        refine vx_catch (name := eA) hown [⟨0, 12, 15, 13⟩] ⟨0, 12, 19, 15⟩ [] htab (fun z hz => by cases List.mem_singleton.mp hz; exact Or.inr ⟨by decide, eI, hts _ (by decide +kernel), hX.2.2.2.2.2.2.2.1⟩) (by decide) (by decide) (hts _ (by decide +kernel)) (va_Nw.use rfl hX.2.2.2.2.2.2.1.2.1) h1 h2 h3 ?_
        refine lv_astore (lv' := [(5, .ref q9), (0, .ref (a 0)), (1, .int s), (2, .int wk), (3, .int b), (4, .ref o)]) hx hb dL_setLamp_19 hl (by decide) rfl (fun ls hl => ?_)
        refine lv_iconst (v := nI 2) hx hb dL_setLamp_21 (by decide) ?_
        have hz : ¬ (coSetLamp S s wk b).1 = nI 0 := by rw [hco]; decide
        refine W.widen (k := 2) (n := 12) (Nat.le_of_ble_eq_true rfl) (Nat.le_of_ble_eq_true rfl) ?_
        exact k_iretW hx hb hr hlocks (by rw [outG, outS, if_neg hz, if_neg hz]; exact hP) hS (by unfold outC; rw [hco]) dL_setLamp_22
      · skip
        exact absurd hi (by simp)
  · obtain ⟨hc0, hr2⟩ := hr1
    refine lv_i2l hx hb dL_setLamp_10 rfl ?_
    refine k_lastO hx hb hK (g := g) (x := r.toInt64) hP hS dL_setLamp_11 (fun H locs hP hS => ?_)
    refine lv_goto (tgt := 23) hx hb dL_setLamp_12 (by decide) ?_
    refine lv_iconst (v := nI 0) hx hb dL_setLamp_23 (by decide) ?_
    refine W.widen (k := 2) (n := 12) (Nat.le_of_ble_eq_true rfl) (Nat.le_of_ble_eq_true rfl) ?_
    exact k_iretW hx hb hr hlocks (by rw [outG, outS, if_pos hc0, if_pos hc0, ← hr2]; exact hP) hS (by unfold outC; rw [hc0]) dL_setLamp_24
set_option maxHeartbeats 4000000 in
set_option maxRecDepth 100000 in
theorem c_L_find (l : Launch) (hl0 : l.stackTraces = false) (D : va_G) (q : Nat → ClassId) (A : Nat → Prop) (a : Nat → Nat) (S : Nat → Nat → Int32) (cap nl o : Nat) (g : Nat → Int64) (s h b : Int32) (n w0 : Nat) (hn : S 0 1 = nI n) (hn60 : n ≤ 60) (hnl : nl ≤ cap ∧ cap ≤ 40 ∧ nl ≤ 30) (hnow : S 0 0 = nI w0) (hw200 : w0 ≤ 200) : Met l yL_find wsL_find ({ frames := 8, cells := 4, slots := 24, locals := 247 } : Room) (va_Pc [.ref (a 0), .int s, .int h, .int b, .ref o] (kBL D q A (fun H => kW D A (wO q o g (wC q a S cap nl)) H))) (kRi D A (outC (coFind S n w0 nl s h b)) (wO q o (outG g (coFind S n w0 nl s h b)) (wC q a (outS S (coFind S n w0 nl s h b)) cap nl))) 4 24 A := by
  refine va_MetW (cc := cL_find) (maxL := 6) (ret := some .int) (hh := [(0, 12, 15, 13), (0, 12, 19, 15), (0, 12, 23, 21)]) (by decide) rfl ?_
  intro p e u m args below meth c s₁ B hml0 hv
  obtain ⟨rfl, ⟨hP, hK, hX⟩, hA⟩ := hv
  have C0 : kAt p u m #[.ref (a 0), .int s, .int h, .int b, .ref o] meth c cL_find 6 (some .int) RL wsL_find := kAt_of B hml0
  obtain ⟨hx, hb, hr, hml, hown, hts, hlocks⟩ := id C0
  have htab := vx_table (x := yL_find) B (hts (.codeWith yL_find cL_find 6 (some .int) [(0, 12, 15, 13), (0, 12, 19, 15), (0, 12, 23, 21)]) List.mem_cons_self)
  have hS : va_S A u.heap u.heap [] := va_S.rf
  have hl := lv_entry ([.ref (a 0), .int s, .int h, .int b, .ref o]) (n := 6) (Nat.le_of_ble_eq_true rfl)
  rw [lg_entry_eq]
  generalize (lg_sl ([.ref (a 0), .int s, .int h, .int b, .ref o]) ++ List.replicate (6 - (lg_sl ([.ref (a 0), .int s, .int h, .int b, .ref o])).length) Slot.unset).toArray = ls at hl ⊢
  have hl : lv_has ls 6 [(0, .ref (a 0)), (1, .int s), (2, .int h), (3, .int b), (4, .ref o)] := hl
  refine lv_aload hx hb dL_find_0 (lv_at hl 4 rfl) ?_
  refine lv_iconst (v := nI 0) hx hb dL_find_2 (by decide) ?_
  refine lv_aload_n hx hb dL_find_3 rfl (lv_at hl 0 rfl) ?_
  refine lv_iload_n hx hb dL_find_4 rfl (lv_at hl 1 rfl) ?_
  refine lv_iload_n hx hb dL_find_5 rfl (lv_at hl 2 rfl) ?_
  refine lv_iload_n hx hb dL_find_6 rfl (lv_at hl 3 rfl) ?_
  refine k_goLi (H0 := u.heap) hP hA hS (vx_runV (rest := [.int (nI 0), .ref o]) ⟨hx, hb, hml, hown, hts⟩ (c_X4_find l hl0 D q (va_A (wC q a S cap nl) u.heap.size) a S cap nl s h b n w0 hn hn60 hnl hnow hw200) (cwV 3 hts gL_find_X4_find rfl rfl rfl (by decide +kernel) ⟨Nat.le_of_ble_eq_true rfl, Nat.le_of_ble_eq_true rfl⟩) ⟨kBX_blind, (va_recv hK.1 hP.1 (ci := 5) (q0 := 1) rfl rfl), fun U hU hW => ⟨rfl, by rw [hU]; exact kW_cut hP, hK.warm hW, (hX.at hS hU hW).narrow (kW_sub hP hA)⟩⟩ rfl rfl hl.1 rfl (lv_room (Nat.le_of_ble_eq_true rfl)) dL_find_7 ⟨Nat.le_of_ble_eq_true rfl, Nat.le_of_ble_eq_true rfl⟩) (fun E ce q9 H locs hE hP hS h1 h2 h3 => ?_) (fun r H locs hr1 hP hS => ?_)
  · obtain ⟨i, hi, hco⟩ := hE
    rcases i with _ | i
    · cases hi
      refine vx_catch (name := eI) hown [] ⟨0, 12, 15, 13⟩ [⟨0, 12, 19, 15⟩, ⟨0, 12, 23, 21⟩] htab (fun z hz => by cases hz) (by decide) (by decide) (hts _ (by decide +kernel)) (va_Nw.use rfl hX.2.2.2.2.2.2.1.1) h1 h2 h3 ?_
      refine lv_astore (lv' := [(5, .ref q9), (0, .ref (a 0)), (1, .int s), (2, .int h), (3, .int b), (4, .ref o)]) hx hb dL_find_15 hl (by decide) rfl (fun ls hl => ?_)
      refine lv_iconst (v := nI 1) hx hb dL_find_17 (by decide) ?_
      have hz : ¬ (coFind S n w0 nl s h b).1 = nI 0 := by rw [hco]; decide
      refine W.widen (k := 4) (n := 24) (Nat.le_of_ble_eq_true rfl) (Nat.le_of_ble_eq_true rfl) ?_
      exact k_iretW hx hb hr hlocks (by rw [outG, outS, if_neg hz, if_neg hz]; exact hP) hS (by unfold outC; rw [hco]) dL_find_18
    · skip
      rcases i with _ | i
      · cases hi
        refine vx_catch (name := eA) hown [⟨0, 12, 15, 13⟩] ⟨0, 12, 19, 15⟩ [⟨0, 12, 23, 21⟩] htab (fun z hz => by cases List.mem_singleton.mp hz; exact Or.inr ⟨by decide, eI, hts _ (by decide +kernel), hX.2.2.2.2.2.2.2.1⟩) (by decide) (by decide) (hts _ (by decide +kernel)) (va_Nw.use rfl hX.2.2.2.2.2.2.1.2.1) h1 h2 h3 ?_
        refine lv_astore (lv' := [(5, .ref q9), (0, .ref (a 0)), (1, .int s), (2, .int h), (3, .int b), (4, .ref o)]) hx hb dL_find_19 hl (by decide) rfl (fun ls hl => ?_)
        refine lv_iconst (v := nI 2) hx hb dL_find_21 (by decide) ?_
        have hz : ¬ (coFind S n w0 nl s h b).1 = nI 0 := by rw [hco]; decide
        refine W.widen (k := 4) (n := 24) (Nat.le_of_ble_eq_true rfl) (Nat.le_of_ble_eq_true rfl) ?_
        exact k_iretW hx hb hr hlocks (by rw [outG, outS, if_neg hz, if_neg hz]; exact hP) hS (by unfold outC; rw [hco]) dL_find_22
      · skip
        rcases i with _ | i
        · cases hi
          refine vx_catch (name := eS) hown [⟨0, 12, 15, 13⟩, ⟨0, 12, 19, 15⟩] ⟨0, 12, 23, 21⟩ [] htab (fun z hz => by rcases List.mem_cons.mp hz with h | hz; (cases h; exact Or.inr ⟨by decide, eI, hts _ (by decide +kernel), hX.2.2.2.2.2.2.2.2.1⟩); cases List.mem_singleton.mp hz; exact Or.inr ⟨by decide, eA, hts _ (by decide +kernel), hX.2.2.2.2.2.2.2.2.2⟩) (by decide) (by decide) (hts _ (by decide +kernel)) (va_Nw.use rfl hX.2.2.2.2.2.2.1.2.2) h1 h2 h3 ?_
          refine lv_astore (lv' := [(5, .ref q9), (0, .ref (a 0)), (1, .int s), (2, .int h), (3, .int b), (4, .ref o)]) hx hb dL_find_23 hl (by decide) rfl (fun ls hl => ?_)
          refine lv_iconst (v := nI 3) hx hb dL_find_25 (by decide) ?_
          have hz : ¬ (coFind S n w0 nl s h b).1 = nI 0 := by rw [hco]; decide
          refine W.widen (k := 4) (n := 24) (Nat.le_of_ble_eq_true rfl) (Nat.le_of_ble_eq_true rfl) ?_
          exact k_iretW hx hb hr hlocks (by rw [outG, outS, if_neg hz, if_neg hz]; exact hP) hS (by unfold outC; rw [hco]) dL_find_26
        · skip
          exact absurd hi (by simp)
  · obtain ⟨hc0, hr2⟩ := hr1
    refine lv_i2l hx hb dL_find_10 rfl ?_
    refine k_lastO hx hb hK (g := g) (x := r.toInt64) hP hS dL_find_11 (fun H locs hP hS => ?_)
    refine lv_goto (tgt := 27) hx hb dL_find_12 (by decide) ?_
    refine lv_iconst (v := nI 0) hx hb dL_find_27 (by decide) ?_
    refine W.widen (k := 4) (n := 24) (Nat.le_of_ble_eq_true rfl) (Nat.le_of_ble_eq_true rfl) ?_
    exact k_iretW hx hb hr hlocks (by rw [outG, outS, if_pos hc0, if_pos hc0, ← hr2]; exact hP) hS (by unfold outC; rw [hc0]) dL_find_28
set_option maxHeartbeats 4000000 in
set_option maxRecDepth 100000 in
theorem c_L_turnUp (l : Launch) (hl0 : l.stackTraces = false) (D : va_G) (q : Nat → ClassId) (A : Nat → Prop) (a : Nat → Nat) (S : Nat → Nat → Int32) (cap nl o : Nat) (g : Nat → Int64) (s h r0 : Int32) (n w0 : Nat) (hn : S 0 1 = nI n) (hn60 : n ≤ 60) (hnl : nl ≤ cap ∧ cap ≤ 40 ∧ nl ≤ 30) (hnow : S 0 0 = nI w0) (hw200 : w0 ≤ 200) : Met l yL_turnUp wsL_turnUp ({ frames := 9, cells := 4, slots := 24, locals := 266 } : Room) (va_Pc [.ref (a 0), .int s, .int h, .int r0, .ref o] (kBL D q A (fun H => kW D A (wO q o g (wC q a S cap nl)) H))) (kRi D A (outC (coTurnUp S n nl s h r0)) (wO q o (outG g (coTurnUp S n nl s h r0)) (wC q a (outS S (coTurnUp S n nl s h r0)) cap nl))) 4 24 A := by
  refine va_MetW (cc := cL_turnUp) (maxL := 6) (ret := some .int) (hh := [(0, 12, 15, 13), (0, 12, 19, 15), (0, 12, 23, 21)]) (by decide) rfl ?_
  intro p e u m args below meth c s₁ B hml0 hv
  obtain ⟨rfl, ⟨hP, hK, hX⟩, hA⟩ := hv
  have C0 : kAt p u m #[.ref (a 0), .int s, .int h, .int r0, .ref o] meth c cL_turnUp 6 (some .int) RL wsL_turnUp := kAt_of B hml0
  obtain ⟨hx, hb, hr, hml, hown, hts, hlocks⟩ := id C0
  have htab := vx_table (x := yL_turnUp) B (hts (.codeWith yL_turnUp cL_turnUp 6 (some .int) [(0, 12, 15, 13), (0, 12, 19, 15), (0, 12, 23, 21)]) List.mem_cons_self)
  have hS : va_S A u.heap u.heap [] := va_S.rf
  have hl := lv_entry ([.ref (a 0), .int s, .int h, .int r0, .ref o]) (n := 6) (Nat.le_of_ble_eq_true rfl)
  rw [lg_entry_eq]
  generalize (lg_sl ([.ref (a 0), .int s, .int h, .int r0, .ref o]) ++ List.replicate (6 - (lg_sl ([.ref (a 0), .int s, .int h, .int r0, .ref o])).length) Slot.unset).toArray = ls at hl ⊢
  have hl : lv_has ls 6 [(0, .ref (a 0)), (1, .int s), (2, .int h), (3, .int r0), (4, .ref o)] := hl
  refine lv_aload hx hb dL_turnUp_0 (lv_at hl 4 rfl) ?_
  refine lv_iconst (v := nI 0) hx hb dL_turnUp_2 (by decide) ?_
  refine lv_aload_n hx hb dL_turnUp_3 rfl (lv_at hl 0 rfl) ?_
  refine lv_iload_n hx hb dL_turnUp_4 rfl (lv_at hl 1 rfl) ?_
  refine lv_iload_n hx hb dL_turnUp_5 rfl (lv_at hl 2 rfl) ?_
  refine lv_iload_n hx hb dL_turnUp_6 rfl (lv_at hl 3 rfl) ?_
  refine k_goLi (H0 := u.heap) hP hA hS (vx_runV (rest := [.int (nI 0), .ref o]) ⟨hx, hb, hml, hown, hts⟩ (c_X4_turnUp l hl0 D q (va_A (wC q a S cap nl) u.heap.size) a S cap nl s h r0 n w0 hn hn60 hnl hnow hw200) (cwV 3 hts gL_turnUp_X4_turnUp rfl rfl rfl (by decide +kernel) ⟨Nat.le_of_ble_eq_true rfl, Nat.le_of_ble_eq_true rfl⟩) ⟨kBX_blind, (va_recv hK.1 hP.1 (ci := 5) (q0 := 1) rfl rfl), fun U hU hW => ⟨rfl, by rw [hU]; exact kW_cut hP, hK.warm hW, (hX.at hS hU hW).narrow (kW_sub hP hA)⟩⟩ rfl rfl hl.1 rfl (lv_room (Nat.le_of_ble_eq_true rfl)) dL_turnUp_7 ⟨Nat.le_of_ble_eq_true rfl, Nat.le_of_ble_eq_true rfl⟩) (fun E ce q9 H locs hE hP hS h1 h2 h3 => ?_) (fun r H locs hr1 hP hS => ?_)
  · obtain ⟨i, hi, hco⟩ := hE
    rcases i with _ | i
    · cases hi
      refine vx_catch (name := eI) hown [] ⟨0, 12, 15, 13⟩ [⟨0, 12, 19, 15⟩, ⟨0, 12, 23, 21⟩] htab (fun z hz => by cases hz) (by decide) (by decide) (hts _ (by decide +kernel)) (va_Nw.use rfl hX.2.2.2.2.2.2.1.1) h1 h2 h3 ?_
      refine lv_astore (lv' := [(5, .ref q9), (0, .ref (a 0)), (1, .int s), (2, .int h), (3, .int r0), (4, .ref o)]) hx hb dL_turnUp_15 hl (by decide) rfl (fun ls hl => ?_)
      refine lv_iconst (v := nI 1) hx hb dL_turnUp_17 (by decide) ?_
      have hz : ¬ (coTurnUp S n nl s h r0).1 = nI 0 := by rw [hco]; decide
      refine W.widen (k := 4) (n := 24) (Nat.le_of_ble_eq_true rfl) (Nat.le_of_ble_eq_true rfl) ?_
      exact k_iretW hx hb hr hlocks (by rw [outG, outS, if_neg hz, if_neg hz]; exact hP) hS (by unfold outC; rw [hco]) dL_turnUp_18
    · skip
      rcases i with _ | i
      · cases hi
        refine vx_catch (name := eA) hown [⟨0, 12, 15, 13⟩] ⟨0, 12, 19, 15⟩ [⟨0, 12, 23, 21⟩] htab (fun z hz => by cases List.mem_singleton.mp hz; exact Or.inr ⟨by decide, eI, hts _ (by decide +kernel), hX.2.2.2.2.2.2.2.1⟩) (by decide) (by decide) (hts _ (by decide +kernel)) (va_Nw.use rfl hX.2.2.2.2.2.2.1.2.1) h1 h2 h3 ?_
        refine lv_astore (lv' := [(5, .ref q9), (0, .ref (a 0)), (1, .int s), (2, .int h), (3, .int r0), (4, .ref o)]) hx hb dL_turnUp_19 hl (by decide) rfl (fun ls hl => ?_)
        refine lv_iconst (v := nI 2) hx hb dL_turnUp_21 (by decide) ?_
        have hz : ¬ (coTurnUp S n nl s h r0).1 = nI 0 := by rw [hco]; decide
        refine W.widen (k := 4) (n := 24) (Nat.le_of_ble_eq_true rfl) (Nat.le_of_ble_eq_true rfl) ?_
        exact k_iretW hx hb hr hlocks (by rw [outG, outS, if_neg hz, if_neg hz]; exact hP) hS (by unfold outC; rw [hco]) dL_turnUp_22
      · skip
        rcases i with _ | i
        · cases hi
          refine vx_catch (name := eS) hown [⟨0, 12, 15, 13⟩, ⟨0, 12, 19, 15⟩] ⟨0, 12, 23, 21⟩ [] htab (fun z hz => by rcases List.mem_cons.mp hz with h | hz; (cases h; exact Or.inr ⟨by decide, eI, hts _ (by decide +kernel), hX.2.2.2.2.2.2.2.2.1⟩); cases List.mem_singleton.mp hz; exact Or.inr ⟨by decide, eA, hts _ (by decide +kernel), hX.2.2.2.2.2.2.2.2.2⟩) (by decide) (by decide) (hts _ (by decide +kernel)) (va_Nw.use rfl hX.2.2.2.2.2.2.1.2.2) h1 h2 h3 ?_
          refine lv_astore (lv' := [(5, .ref q9), (0, .ref (a 0)), (1, .int s), (2, .int h), (3, .int r0), (4, .ref o)]) hx hb dL_turnUp_23 hl (by decide) rfl (fun ls hl => ?_)
          refine lv_iconst (v := nI 3) hx hb dL_turnUp_25 (by decide) ?_
          have hz : ¬ (coTurnUp S n nl s h r0).1 = nI 0 := by rw [hco]; decide
          refine W.widen (k := 4) (n := 24) (Nat.le_of_ble_eq_true rfl) (Nat.le_of_ble_eq_true rfl) ?_
          exact k_iretW hx hb hr hlocks (by rw [outG, outS, if_neg hz, if_neg hz]; exact hP) hS (by unfold outC; rw [hco]) dL_turnUp_26
        · skip
          exact absurd hi (by simp)
  · obtain ⟨hc0, hr2⟩ := hr1
    refine lv_i2l hx hb dL_turnUp_10 rfl ?_
    refine k_lastO hx hb hK (g := g) (x := r.toInt64) hP hS dL_turnUp_11 (fun H locs hP hS => ?_)
    refine lv_goto (tgt := 27) hx hb dL_turnUp_12 (by decide) ?_
    refine lv_iconst (v := nI 0) hx hb dL_turnUp_27 (by decide) ?_
    refine W.widen (k := 4) (n := 24) (Nat.le_of_ble_eq_true rfl) (Nat.le_of_ble_eq_true rfl) ?_
    exact k_iretW hx hb hr hlocks (by rw [outG, outS, if_pos hc0, if_pos hc0, ← hr2]; exact hP) hS (by unfold outC; rw [hc0]) dL_turnUp_28
set_option maxHeartbeats 4000000 in
set_option maxRecDepth 100000 in
theorem c_L_quit (l : Launch) (hl0 : l.stackTraces = false) (D : va_G) (q : Nat → ClassId) (A : Nat → Prop) (a : Nat → Nat) (S : Nat → Nat → Int32) (cap nl o : Nat) (g : Nat → Int64) (y : Int32) (w0 : Nat) (hnl : nl ≤ cap ∧ cap ≤ 40 ∧ nl ≤ 30) (hnow : S 0 0 = nI w0) (hw200 : w0 ≤ 200) : Met l yL_quit wsL_quit ({ frames := 8, cells := 2, slots := 12, locals := 243 } : Room) (va_Pc [.ref (a 0), .int y, .ref o] (kBL D q A (fun H => kW D A (wO q o g (wC q a S cap nl)) H))) (kRi D A (outC (coQuit S w0 nl y)) (wO q o (outG g (coQuit S w0 nl y)) (wC q a (outS S (coQuit S w0 nl y)) cap nl))) 2 12 A := by
  refine va_MetW (cc := cL_quit) (maxL := 4) (ret := some .int) (hh := [(0, 9, 12, 13), (0, 9, 15, 21)]) (by decide) rfl ?_
  intro p e u m args below meth c s₁ B hml0 hv
  obtain ⟨rfl, ⟨hP, hK, hX⟩, hA⟩ := hv
  have C0 : kAt p u m #[.ref (a 0), .int y, .ref o] meth c cL_quit 4 (some .int) RL wsL_quit := kAt_of B hml0
  obtain ⟨hx, hb, hr, hml, hown, hts, hlocks⟩ := id C0
  have htab := vx_table (x := yL_quit) B (hts (.codeWith yL_quit cL_quit 4 (some .int) [(0, 9, 12, 13), (0, 9, 15, 21)]) List.mem_cons_self)
  have hS : va_S A u.heap u.heap [] := va_S.rf
  have hl := lv_entry ([.ref (a 0), .int y, .ref o]) (n := 4) (Nat.le_of_ble_eq_true rfl)
  rw [lg_entry_eq]
  generalize (lg_sl ([.ref (a 0), .int y, .ref o]) ++ List.replicate (4 - (lg_sl ([.ref (a 0), .int y, .ref o])).length) Slot.unset).toArray = ls at hl ⊢
  have hl : lv_has ls 4 [(0, .ref (a 0)), (1, .int y), (2, .ref o)] := hl
  refine lv_aload_n hx hb dL_quit_0 rfl (lv_at hl 2 rfl) ?_
  refine lv_iconst (v := nI 0) hx hb dL_quit_1 (by decide) ?_
  refine lv_aload_n hx hb dL_quit_2 rfl (lv_at hl 0 rfl) ?_
  refine lv_iload_n hx hb dL_quit_3 rfl (lv_at hl 1 rfl) ?_
  refine k_goLi (H0 := u.heap) hP hA hS (vx_runV (rest := [.int (nI 0), .ref o]) ⟨hx, hb, hml, hown, hts⟩ (c_X4_quit l hl0 D q (va_A (wC q a S cap nl) u.heap.size) a S cap nl y w0 hnl hnow hw200) (cwV 1 hts gL_quit_X4_quit rfl rfl rfl (by decide +kernel) ⟨Nat.le_of_ble_eq_true rfl, Nat.le_of_ble_eq_true rfl⟩) ⟨kBX_blind, (va_recv hK.1 hP.1 (ci := 5) (q0 := 1) rfl rfl), fun U hU hW => ⟨rfl, by rw [hU]; exact kW_cut hP, hK.warm hW, (hX.at hS hU hW).narrow (kW_sub hP hA)⟩⟩ rfl rfl hl.1 rfl (lv_room (Nat.le_of_ble_eq_true rfl)) dL_quit_4 ⟨Nat.le_of_ble_eq_true rfl, Nat.le_of_ble_eq_true rfl⟩) (fun E ce q9 H locs hE hP hS h1 h2 h3 => ?_) (fun r H locs hr1 hP hS => ?_)
  · obtain ⟨i, hi, hco⟩ := hE
    rcases i with _ | i
    · cases hi
      refine vx_catch (name := eI) hown [] ⟨0, 9, 12, 13⟩ [⟨0, 9, 15, 21⟩] htab (fun z hz => by cases hz) (by decide) (by decide) (hts _ (by decide +kernel)) (va_Nw.use rfl hX.2.2.2.2.2.2.1.1) h1 h2 h3 ?_
      refine lv_astore_n (lv' := [(3, .ref q9), (0, .ref (a 0)), (1, .int y), (2, .ref o)]) hx hb dL_quit_12 rfl hl (by decide) rfl (fun ls hl => ?_)
      refine lv_iconst (v := nI 1) hx hb dL_quit_13 (by decide) ?_
      have hz : ¬ (coQuit S w0 nl y).1 = nI 0 := by rw [hco]; decide
      refine W.widen (k := 2) (n := 12) (Nat.le_of_ble_eq_true rfl) (Nat.le_of_ble_eq_true rfl) ?_
      exact k_iretW hx hb hr hlocks (by rw [outG, outS, if_neg hz, if_neg hz]; exact hP) hS (by unfold outC; rw [hco]) dL_quit_14
    · skip
      rcases i with _ | i
      · cases hi
        refine vx_catch (name := eS) hown [⟨0, 9, 12, 13⟩] ⟨0, 9, 15, 21⟩ [] htab (fun z hz => by cases List.mem_singleton.mp hz; exact Or.inr ⟨by decide, eI, hts _ (by decide +kernel), hX.2.2.2.2.2.2.2.2.1⟩) (by decide) (by decide) (hts _ (by decide +kernel)) (va_Nw.use rfl hX.2.2.2.2.2.2.1.2.2) h1 h2 h3 ?_
        refine lv_astore_n (lv' := [(3, .ref q9), (0, .ref (a 0)), (1, .int y), (2, .ref o)]) hx hb dL_quit_15 rfl hl (by decide) rfl (fun ls hl => ?_)
        refine lv_iconst (v := nI 2) hx hb dL_quit_16 (by decide) ?_
        have hz : ¬ (coQuit S w0 nl y).1 = nI 0 := by rw [hco]; decide
        refine W.widen (k := 2) (n := 12) (Nat.le_of_ble_eq_true rfl) (Nat.le_of_ble_eq_true rfl) ?_
        exact k_iretW hx hb hr hlocks (by rw [outG, outS, if_neg hz, if_neg hz]; exact hP) hS (by unfold outC; rw [hco]) dL_quit_17
      · skip
        exact absurd hi (by simp)
  · obtain ⟨hc0, hr2⟩ := hr1
    refine lv_i2l hx hb dL_quit_7 rfl ?_
    refine k_lastO hx hb hK (g := g) (x := r.toInt64) hP hS dL_quit_8 (fun H locs hP hS => ?_)
    refine lv_goto (tgt := 18) hx hb dL_quit_9 (by decide) ?_
    refine lv_iconst (v := nI 0) hx hb dL_quit_18 (by decide) ?_
    refine W.widen (k := 2) (n := 12) (Nat.le_of_ble_eq_true rfl) (Nat.le_of_ble_eq_true rfl) ?_
    exact k_iretW hx hb hr hlocks (by rw [outG, outS, if_pos hc0, if_pos hc0, ← hr2]; exact hP) hS (by unfold outC; rw [hc0]) dL_quit_19
set_option maxHeartbeats 4000000 in
set_option maxRecDepth 100000 in
theorem c_L_pay (l : Launch) (hl0 : l.stackTraces = false) (D : va_G) (q : Nat → ClassId) (A : Nat → Prop) (a : Nat → Nat) (S : Nat → Nat → Int32) (cap nl o : Nat) (g : Nat → Int64) (who mo : Int32) (hnl : nl ≤ cap ∧ cap ≤ 40 ∧ nl ≤ 30) : Met l yL_pay wsL_pay ({ frames := 8, cells := 3, slots := 18, locals := 244 } : Room) (va_Pc [.ref (a 0), .int who, .int mo, .ref o] (kBL D q A (fun H => kW D A (wO q o g (wC q a S cap nl)) H))) (kRi D A (outC (coPay S nl who mo)) (wO q o (outG g (coPay S nl who mo)) (wC q a (outS S (coPay S nl who mo)) cap nl))) 3 18 A := by
  refine va_MetW (cc := cL_pay) (maxL := 5) (ret := some .int) (hh := [(0, 10, 13, 13), (0, 10, 17, 15), (0, 10, 21, 21)]) (by decide) rfl ?_
  intro p e u m args below meth c s₁ B hml0 hv
  obtain ⟨rfl, ⟨hP, hK, hX⟩, hA⟩ := hv
  have C0 : kAt p u m #[.ref (a 0), .int who, .int mo, .ref o] meth c cL_pay 5 (some .int) RL wsL_pay := kAt_of B hml0
  obtain ⟨hx, hb, hr, hml, hown, hts, hlocks⟩ := id C0
  have htab := vx_table (x := yL_pay) B (hts (.codeWith yL_pay cL_pay 5 (some .int) [(0, 10, 13, 13), (0, 10, 17, 15), (0, 10, 21, 21)]) List.mem_cons_self)
  have hS : va_S A u.heap u.heap [] := va_S.rf
  have hl := lv_entry ([.ref (a 0), .int who, .int mo, .ref o]) (n := 5) (Nat.le_of_ble_eq_true rfl)
  rw [lg_entry_eq]
  generalize (lg_sl ([.ref (a 0), .int who, .int mo, .ref o]) ++ List.replicate (5 - (lg_sl ([.ref (a 0), .int who, .int mo, .ref o])).length) Slot.unset).toArray = ls at hl ⊢
  have hl : lv_has ls 5 [(0, .ref (a 0)), (1, .int who), (2, .int mo), (3, .ref o)] := hl
  refine lv_aload_n hx hb dL_pay_0 rfl (lv_at hl 3 rfl) ?_
  refine lv_iconst (v := nI 0) hx hb dL_pay_1 (by decide) ?_
  refine lv_aload_n hx hb dL_pay_2 rfl (lv_at hl 0 rfl) ?_
  refine lv_iload_n hx hb dL_pay_3 rfl (lv_at hl 1 rfl) ?_
  refine lv_iload_n hx hb dL_pay_4 rfl (lv_at hl 2 rfl) ?_
  refine k_goLi (H0 := u.heap) hP hA hS (vx_runV (rest := [.int (nI 0), .ref o]) ⟨hx, hb, hml, hown, hts⟩ (c_X4_pay l hl0 D q (va_A (wC q a S cap nl) u.heap.size) a S cap nl who mo hnl) (cwV 2 hts gL_pay_X4_pay rfl rfl rfl (by decide +kernel) ⟨Nat.le_of_ble_eq_true rfl, Nat.le_of_ble_eq_true rfl⟩) ⟨kBX_blind, (va_recv hK.1 hP.1 (ci := 5) (q0 := 1) rfl rfl), fun U hU hW => ⟨rfl, by rw [hU]; exact kW_cut hP, hK.warm hW, (hX.at hS hU hW).narrow (kW_sub hP hA)⟩⟩ rfl rfl hl.1 rfl (lv_room (Nat.le_of_ble_eq_true rfl)) dL_pay_5 ⟨Nat.le_of_ble_eq_true rfl, Nat.le_of_ble_eq_true rfl⟩) (fun E ce q9 H locs hE hP hS h1 h2 h3 => ?_) (fun r H locs hr1 hP hS => ?_)
  · obtain ⟨i, hi, hco⟩ := hE
    rcases i with _ | i
    · cases hi
      refine vx_catch (name := eI) hown [] ⟨0, 10, 13, 13⟩ [⟨0, 10, 17, 15⟩, ⟨0, 10, 21, 21⟩] htab (fun z hz => by cases hz) (by decide) (by decide) (hts _ (by decide +kernel)) (va_Nw.use rfl hX.2.2.2.2.2.2.1.1) h1 h2 h3 ?_
      refine lv_astore (lv' := [(4, .ref q9), (0, .ref (a 0)), (1, .int who), (2, .int mo), (3, .ref o)]) hx hb dL_pay_13 hl (by decide) rfl (fun ls hl => ?_)
      refine lv_iconst (v := nI 1) hx hb dL_pay_15 (by decide) ?_
      have hz : ¬ (coPay S nl who mo).1 = nI 0 := by rw [hco]; decide
      refine W.widen (k := 3) (n := 18) (Nat.le_of_ble_eq_true rfl) (Nat.le_of_ble_eq_true rfl) ?_
      exact k_iretW hx hb hr hlocks (by rw [outG, outS, if_neg hz, if_neg hz]; exact hP) hS (by unfold outC; rw [hco]) dL_pay_16
    · skip
      rcases i with _ | i
      · cases hi
        refine vx_catch (name := eA) hown [⟨0, 10, 13, 13⟩] ⟨0, 10, 17, 15⟩ [⟨0, 10, 21, 21⟩] htab (fun z hz => by cases List.mem_singleton.mp hz; exact Or.inr ⟨by decide, eI, hts _ (by decide +kernel), hX.2.2.2.2.2.2.2.1⟩) (by decide) (by decide) (hts _ (by decide +kernel)) (va_Nw.use rfl hX.2.2.2.2.2.2.1.2.1) h1 h2 h3 ?_
        refine lv_astore (lv' := [(4, .ref q9), (0, .ref (a 0)), (1, .int who), (2, .int mo), (3, .ref o)]) hx hb dL_pay_17 hl (by decide) rfl (fun ls hl => ?_)
        refine lv_iconst (v := nI 2) hx hb dL_pay_19 (by decide) ?_
        have hz : ¬ (coPay S nl who mo).1 = nI 0 := by rw [hco]; decide
        refine W.widen (k := 3) (n := 18) (Nat.le_of_ble_eq_true rfl) (Nat.le_of_ble_eq_true rfl) ?_
        exact k_iretW hx hb hr hlocks (by rw [outG, outS, if_neg hz, if_neg hz]; exact hP) hS (by unfold outC; rw [hco]) dL_pay_20
      · skip
        rcases i with _ | i
        · cases hi
          refine vx_catch (name := eS) hown [⟨0, 10, 13, 13⟩, ⟨0, 10, 17, 15⟩] ⟨0, 10, 21, 21⟩ [] htab (fun z hz => by rcases List.mem_cons.mp hz with h | hz; (cases h; exact Or.inr ⟨by decide, eI, hts _ (by decide +kernel), hX.2.2.2.2.2.2.2.2.1⟩); cases List.mem_singleton.mp hz; exact Or.inr ⟨by decide, eA, hts _ (by decide +kernel), hX.2.2.2.2.2.2.2.2.2⟩) (by decide) (by decide) (hts _ (by decide +kernel)) (va_Nw.use rfl hX.2.2.2.2.2.2.1.2.2) h1 h2 h3 ?_
          refine lv_astore (lv' := [(4, .ref q9), (0, .ref (a 0)), (1, .int who), (2, .int mo), (3, .ref o)]) hx hb dL_pay_21 hl (by decide) rfl (fun ls hl => ?_)
          refine lv_iconst (v := nI 3) hx hb dL_pay_23 (by decide) ?_
          have hz : ¬ (coPay S nl who mo).1 = nI 0 := by rw [hco]; decide
          refine W.widen (k := 3) (n := 18) (Nat.le_of_ble_eq_true rfl) (Nat.le_of_ble_eq_true rfl) ?_
          exact k_iretW hx hb hr hlocks (by rw [outG, outS, if_neg hz, if_neg hz]; exact hP) hS (by unfold outC; rw [hco]) dL_pay_24
        · skip
          exact absurd hi (by simp)
  · obtain ⟨hc0, hr2⟩ := hr1
    refine lv_i2l hx hb dL_pay_8 rfl ?_
    refine k_lastO hx hb hK (g := g) (x := r.toInt64) hP hS dL_pay_9 (fun H locs hP hS => ?_)
    refine lv_goto (tgt := 25) hx hb dL_pay_10 (by decide) ?_
    refine lv_iconst (v := nI 0) hx hb dL_pay_25 (by decide) ?_
    refine W.widen (k := 3) (n := 18) (Nat.le_of_ble_eq_true rfl) (Nat.le_of_ble_eq_true rfl) ?_
    exact k_iretW hx hb hr hlocks (by rw [outG, outS, if_pos hc0, if_pos hc0, ← hr2]; exact hP) hS (by unfold outC; rw [hc0]) dL_pay_26
set_option maxHeartbeats 4000000 in
set_option maxRecDepth 100000 in
theorem c_L_setSkill (l : Launch) (hl0 : l.stackTraces = false) (D : va_G) (q : Nat → ClassId) (A : Nat → Prop) (a : Nat → Nat) (S : Nat → Nat → Int32) (cap nl o : Nat) (g : Nat → Int64) (b to : Int32) : Met l yL_setSkill wsL_setSkill ({ frames := 8, cells := 2, slots := 12, locals := 245 } : Room) (va_Pc [.ref (a 0), .int b, .int to, .ref o] (kBL D q A (fun H => kW D A (wO q o g (wC q a S cap nl)) H))) (kRi D A (outC (coSetSkill S b to)) (wO q o (outG g (coSetSkill S b to)) (wC q a (outS S (coSetSkill S b to)) cap nl))) 2 12 A := by
  refine va_MetW (cc := cL_setSkill) (maxL := 5) (ret := some .int) (hh := [(0, 10, 13, 13), (0, 10, 17, 15)]) (by decide) rfl ?_
  intro p e u m args below meth c s₁ B hml0 hv
  obtain ⟨rfl, ⟨hP, hK, hX⟩, hA⟩ := hv
  have C0 : kAt p u m #[.ref (a 0), .int b, .int to, .ref o] meth c cL_setSkill 5 (some .int) RL wsL_setSkill := kAt_of B hml0
  obtain ⟨hx, hb, hr, hml, hown, hts, hlocks⟩ := id C0
  have htab := vx_table (x := yL_setSkill) B (hts (.codeWith yL_setSkill cL_setSkill 5 (some .int) [(0, 10, 13, 13), (0, 10, 17, 15)]) List.mem_cons_self)
  have hS : va_S A u.heap u.heap [] := va_S.rf
  have hl := lv_entry ([.ref (a 0), .int b, .int to, .ref o]) (n := 5) (Nat.le_of_ble_eq_true rfl)
  rw [lg_entry_eq]
  generalize (lg_sl ([.ref (a 0), .int b, .int to, .ref o]) ++ List.replicate (5 - (lg_sl ([.ref (a 0), .int b, .int to, .ref o])).length) Slot.unset).toArray = ls at hl ⊢
  have hl : lv_has ls 5 [(0, .ref (a 0)), (1, .int b), (2, .int to), (3, .ref o)] := hl
  refine lv_aload_n hx hb dL_setSkill_0 rfl (lv_at hl 3 rfl) ?_
  refine lv_iconst (v := nI 0) hx hb dL_setSkill_1 (by decide) ?_
  refine lv_aload_n hx hb dL_setSkill_2 rfl (lv_at hl 0 rfl) ?_
  refine lv_iload_n hx hb dL_setSkill_3 rfl (lv_at hl 1 rfl) ?_
  refine lv_iload_n hx hb dL_setSkill_4 rfl (lv_at hl 2 rfl) ?_
  refine k_goLi (H0 := u.heap) hP hA hS (vx_runV (rest := [.int (nI 0), .ref o]) ⟨hx, hb, hml, hown, hts⟩ (c_X4_setSkill l hl0 D q (va_A (wC q a S cap nl) u.heap.size) a S cap nl b to) (cwV 2 hts gL_setSkill_X4_setSkill rfl rfl rfl (by decide +kernel) ⟨Nat.le_of_ble_eq_true rfl, Nat.le_of_ble_eq_true rfl⟩) ⟨kBX_blind, (va_recv hK.1 hP.1 (ci := 5) (q0 := 1) rfl rfl), fun U hU hW => ⟨rfl, by rw [hU]; exact kW_cut hP, hK.warm hW, (hX.at hS hU hW).narrow (kW_sub hP hA)⟩⟩ rfl rfl hl.1 rfl (lv_room (Nat.le_of_ble_eq_true rfl)) dL_setSkill_5 ⟨Nat.le_of_ble_eq_true rfl, Nat.le_of_ble_eq_true rfl⟩) (fun E ce q9 H locs hE hP hS h1 h2 h3 => ?_) (fun r H locs hr1 hP hS => ?_)
  · obtain ⟨i, hi, hco⟩ := hE
    rcases i with _ | i
    · cases hi
      refine vx_catch (name := eI) hown [] ⟨0, 10, 13, 13⟩ [⟨0, 10, 17, 15⟩] htab (fun z hz => by cases hz) (by decide) (by decide) (hts _ (by decide +kernel)) (va_Nw.use rfl hX.2.2.2.2.2.2.1.1) h1 h2 h3 ?_
      refine lv_astore (lv' := [(4, .ref q9), (0, .ref (a 0)), (1, .int b), (2, .int to), (3, .ref o)]) hx hb dL_setSkill_13 hl (by decide) rfl (fun ls hl => ?_)
      refine lv_iconst (v := nI 1) hx hb dL_setSkill_15 (by decide) ?_
      have hz : ¬ (coSetSkill S b to).1 = nI 0 := by rw [hco]; decide
      refine W.widen (k := 2) (n := 12) (Nat.le_of_ble_eq_true rfl) (Nat.le_of_ble_eq_true rfl) ?_
      exact k_iretW hx hb hr hlocks (by rw [outG, outS, if_neg hz, if_neg hz]; exact hP) hS (by unfold outC; rw [hco]) dL_setSkill_16
    · skip
      rcases i with _ | i
      · cases hi
        refine vx_catch (name := eA) hown [⟨0, 10, 13, 13⟩] ⟨0, 10, 17, 15⟩ [] htab (fun z hz => by cases List.mem_singleton.mp hz; exact Or.inr ⟨by decide, eI, hts _ (by decide +kernel), hX.2.2.2.2.2.2.2.1⟩) (by decide) (by decide) (hts _ (by decide +kernel)) (va_Nw.use rfl hX.2.2.2.2.2.2.1.2.1) h1 h2 h3 ?_
        refine lv_astore (lv' := [(4, .ref q9), (0, .ref (a 0)), (1, .int b), (2, .int to), (3, .ref o)]) hx hb dL_setSkill_17 hl (by decide) rfl (fun ls hl => ?_)
        refine lv_iconst (v := nI 2) hx hb dL_setSkill_19 (by decide) ?_
        have hz : ¬ (coSetSkill S b to).1 = nI 0 := by rw [hco]; decide
        refine W.widen (k := 2) (n := 12) (Nat.le_of_ble_eq_true rfl) (Nat.le_of_ble_eq_true rfl) ?_
        exact k_iretW hx hb hr hlocks (by rw [outG, outS, if_neg hz, if_neg hz]; exact hP) hS (by unfold outC; rw [hco]) dL_setSkill_20
      · skip
        exact absurd hi (by simp)
  · obtain ⟨hc0, hr2⟩ := hr1
    refine lv_i2l hx hb dL_setSkill_8 rfl ?_
    refine k_lastO hx hb hK (g := g) (x := r.toInt64) hP hS dL_setSkill_9 (fun H locs hP hS => ?_)
    refine lv_goto (tgt := 21) hx hb dL_setSkill_10 (by decide) ?_
    refine lv_iconst (v := nI 0) hx hb dL_setSkill_21 (by decide) ?_
    refine W.widen (k := 2) (n := 12) (Nat.le_of_ble_eq_true rfl) (Nat.le_of_ble_eq_true rfl) ?_
    exact k_iretW hx hb hr hlocks (by rw [outG, outS, if_pos hc0, if_pos hc0, ← hr2]; exact hP) hS (by unfold outC; rw [hc0]) dL_setSkill_22
set_option maxHeartbeats 4000000 in
set_option maxRecDepth 100000 in
theorem c_L_ask (l : Launch) (hl0 : l.stackTraces = false) (D : va_G) (q : Nat → ClassId) (A : Nat → Prop) (a : Nat → Nat) (S : Nat → Nat → Int32) (cap nl o : Nat) (g : Nat → Int64) (b s : Int32) : Met l yL_ask wsL_ask ({ frames := 8, cells := 3, slots := 18, locals := 244 } : Room) (va_Pc [.ref (a 0), .int b, .int s, .ref o] (kBL D q A (fun H => kW D A (wO q o g (wC q a S cap nl)) H))) (kRi D A (outC (coAsk S b s)) (wO q o (outG g (coAsk S b s)) (wC q a (outS S (coAsk S b s)) cap nl))) 3 18 A := by
  refine va_MetW (cc := cL_ask) (maxL := 5) (ret := some .int) (hh := [(0, 10, 13, 13), (0, 10, 17, 21)]) (by decide) rfl ?_
  intro p e u m args below meth c s₁ B hml0 hv
  obtain ⟨rfl, ⟨hP, hK, hX⟩, hA⟩ := hv
  have C0 : kAt p u m #[.ref (a 0), .int b, .int s, .ref o] meth c cL_ask 5 (some .int) RL wsL_ask := kAt_of B hml0
  obtain ⟨hx, hb, hr, hml, hown, hts, hlocks⟩ := id C0
  have htab := vx_table (x := yL_ask) B (hts (.codeWith yL_ask cL_ask 5 (some .int) [(0, 10, 13, 13), (0, 10, 17, 21)]) List.mem_cons_self)
  have hS : va_S A u.heap u.heap [] := va_S.rf
  have hl := lv_entry ([.ref (a 0), .int b, .int s, .ref o]) (n := 5) (Nat.le_of_ble_eq_true rfl)
  rw [lg_entry_eq]
  generalize (lg_sl ([.ref (a 0), .int b, .int s, .ref o]) ++ List.replicate (5 - (lg_sl ([.ref (a 0), .int b, .int s, .ref o])).length) Slot.unset).toArray = ls at hl ⊢
  have hl : lv_has ls 5 [(0, .ref (a 0)), (1, .int b), (2, .int s), (3, .ref o)] := hl
  refine lv_aload_n hx hb dL_ask_0 rfl (lv_at hl 3 rfl) ?_
  refine lv_iconst (v := nI 0) hx hb dL_ask_1 (by decide) ?_
  refine lv_aload_n hx hb dL_ask_2 rfl (lv_at hl 0 rfl) ?_
  refine lv_iload_n hx hb dL_ask_3 rfl (lv_at hl 1 rfl) ?_
  refine lv_iload_n hx hb dL_ask_4 rfl (lv_at hl 2 rfl) ?_
  refine k_goLi (H0 := u.heap) hP hA hS (vx_runV (rest := [.int (nI 0), .ref o]) ⟨hx, hb, hml, hown, hts⟩ (c_X4_ask l hl0 D q (va_A (wC q a S cap nl) u.heap.size) a S cap nl b s) (cwV 2 hts gL_ask_X4_ask rfl rfl rfl (by decide +kernel) ⟨Nat.le_of_ble_eq_true rfl, Nat.le_of_ble_eq_true rfl⟩) ⟨kBX_blind, (va_recv hK.1 hP.1 (ci := 5) (q0 := 1) rfl rfl), fun U hU hW => ⟨rfl, by rw [hU]; exact kW_cut hP, hK.warm hW, (hX.at hS hU hW).narrow (kW_sub hP hA)⟩⟩ rfl rfl hl.1 rfl (lv_room (Nat.le_of_ble_eq_true rfl)) dL_ask_5 ⟨Nat.le_of_ble_eq_true rfl, Nat.le_of_ble_eq_true rfl⟩) (fun E ce q9 H locs hE hP hS h1 h2 h3 => ?_) (fun r H locs hr1 hP hS => ?_)
  · obtain ⟨i, hi, hco⟩ := hE
    rcases i with _ | i
    · cases hi
      refine vx_catch (name := eI) hown [] ⟨0, 10, 13, 13⟩ [⟨0, 10, 17, 21⟩] htab (fun z hz => by cases hz) (by decide) (by decide) (hts _ (by decide +kernel)) (va_Nw.use rfl hX.2.2.2.2.2.2.1.1) h1 h2 h3 ?_
      refine lv_astore (lv' := [(4, .ref q9), (0, .ref (a 0)), (1, .int b), (2, .int s), (3, .ref o)]) hx hb dL_ask_13 hl (by decide) rfl (fun ls hl => ?_)
      refine lv_iconst (v := nI 1) hx hb dL_ask_15 (by decide) ?_
      have hz : ¬ (coAsk S b s).1 = nI 0 := by rw [hco]; decide
      refine W.widen (k := 3) (n := 18) (Nat.le_of_ble_eq_true rfl) (Nat.le_of_ble_eq_true rfl) ?_
      exact k_iretW hx hb hr hlocks (by rw [outG, outS, if_neg hz, if_neg hz]; exact hP) hS (by unfold outC; rw [hco]) dL_ask_16
    · skip
      rcases i with _ | i
      · cases hi
        refine vx_catch (name := eS) hown [⟨0, 10, 13, 13⟩] ⟨0, 10, 17, 21⟩ [] htab (fun z hz => by cases List.mem_singleton.mp hz; exact Or.inr ⟨by decide, eI, hts _ (by decide +kernel), hX.2.2.2.2.2.2.2.2.1⟩) (by decide) (by decide) (hts _ (by decide +kernel)) (va_Nw.use rfl hX.2.2.2.2.2.2.1.2.2) h1 h2 h3 ?_
        refine lv_astore (lv' := [(4, .ref q9), (0, .ref (a 0)), (1, .int b), (2, .int s), (3, .ref o)]) hx hb dL_ask_17 hl (by decide) rfl (fun ls hl => ?_)
        refine lv_iconst (v := nI 2) hx hb dL_ask_19 (by decide) ?_
        have hz : ¬ (coAsk S b s).1 = nI 0 := by rw [hco]; decide
        refine W.widen (k := 3) (n := 18) (Nat.le_of_ble_eq_true rfl) (Nat.le_of_ble_eq_true rfl) ?_
        exact k_iretW hx hb hr hlocks (by rw [outG, outS, if_neg hz, if_neg hz]; exact hP) hS (by unfold outC; rw [hco]) dL_ask_20
      · skip
        exact absurd hi (by simp)
  · obtain ⟨hc0, hr2⟩ := hr1
    refine lv_i2l hx hb dL_ask_8 rfl ?_
    refine k_lastO hx hb hK (g := g) (x := r.toInt64) hP hS dL_ask_9 (fun H locs hP hS => ?_)
    refine lv_goto (tgt := 21) hx hb dL_ask_10 (by decide) ?_
    refine lv_iconst (v := nI 0) hx hb dL_ask_21 (by decide) ?_
    refine W.widen (k := 3) (n := 18) (Nat.le_of_ble_eq_true rfl) (Nat.le_of_ble_eq_true rfl) ?_
    exact k_iretW hx hb hr hlocks (by rw [outG, outS, if_pos hc0, if_pos hc0, ← hr2]; exact hP) hS (by unfold outC; rw [hc0]) dL_ask_22
set_option maxHeartbeats 4000000 in
set_option maxRecDepth 100000 in
theorem c_L_lot (l : Launch) (hl0 : l.stackTraces = false) (D : va_G) (q : Nat → ClassId) (A : Nat → Prop) (a : Nat → Nat) (S : Nat → Nat → Int32) (cap nl o : Nat) (g : Nat → Int64) (v : Int32) (L : Nat) (hL : S 0 2 = nI L) (hL50 : L ≤ 50) : Met l yL_lot wsL_lot ({ frames := 8, cells := 2, slots := 12, locals := 243 } : Room) (va_Pc [.ref (a 0), .int v, .ref o] (kBL D q A (fun H => kW D A (wO q o g (wC q a S cap nl)) H))) (kRi D A (outC (coLot S L v)) (wO q o (outG g (coLot S L v)) (wC q a (outS S (coLot S L v)) cap nl))) 2 12 A := by
  refine va_MetW (cc := cL_lot) (maxL := 4) (ret := some .int) (hh := [(0, 9, 12, 15), (0, 9, 15, 21)]) (by decide) rfl ?_
  intro p e u m args below meth c s₁ B hml0 hv
  obtain ⟨rfl, ⟨hP, hK, hX⟩, hA⟩ := hv
  have C0 : kAt p u m #[.ref (a 0), .int v, .ref o] meth c cL_lot 4 (some .int) RL wsL_lot := kAt_of B hml0
  obtain ⟨hx, hb, hr, hml, hown, hts, hlocks⟩ := id C0
  have htab := vx_table (x := yL_lot) B (hts (.codeWith yL_lot cL_lot 4 (some .int) [(0, 9, 12, 15), (0, 9, 15, 21)]) List.mem_cons_self)
  have hS : va_S A u.heap u.heap [] := va_S.rf
  have hl := lv_entry ([.ref (a 0), .int v, .ref o]) (n := 4) (Nat.le_of_ble_eq_true rfl)
  rw [lg_entry_eq]
  generalize (lg_sl ([.ref (a 0), .int v, .ref o]) ++ List.replicate (4 - (lg_sl ([.ref (a 0), .int v, .ref o])).length) Slot.unset).toArray = ls at hl ⊢
  have hl : lv_has ls 4 [(0, .ref (a 0)), (1, .int v), (2, .ref o)] := hl
  refine lv_aload_n hx hb dL_lot_0 rfl (lv_at hl 2 rfl) ?_
  refine lv_iconst (v := nI 0) hx hb dL_lot_1 (by decide) ?_
  refine lv_aload_n hx hb dL_lot_2 rfl (lv_at hl 0 rfl) ?_
  refine lv_iload_n hx hb dL_lot_3 rfl (lv_at hl 1 rfl) ?_
  refine k_goLi (H0 := u.heap) hP hA hS (vx_runV (rest := [.int (nI 0), .ref o]) ⟨hx, hb, hml, hown, hts⟩ (c_X4_lot l hl0 D q (va_A (wC q a S cap nl) u.heap.size) a S cap nl v L hL hL50) (cwV 1 hts gL_lot_X4_lot rfl rfl rfl (by decide +kernel) ⟨Nat.le_of_ble_eq_true rfl, Nat.le_of_ble_eq_true rfl⟩) ⟨kBX_blind, (va_recv hK.1 hP.1 (ci := 5) (q0 := 1) rfl rfl), fun U hU hW => ⟨rfl, by rw [hU]; exact kW_cut hP, hK.warm hW, (hX.at hS hU hW).narrow (kW_sub hP hA)⟩⟩ rfl rfl hl.1 rfl (lv_room (Nat.le_of_ble_eq_true rfl)) dL_lot_4 ⟨Nat.le_of_ble_eq_true rfl, Nat.le_of_ble_eq_true rfl⟩) (fun E ce q9 H locs hE hP hS h1 h2 h3 => ?_) (fun r H locs hr1 hP hS => ?_)
  · obtain ⟨i, hi, hco⟩ := hE
    rcases i with _ | i
    · cases hi
      refine vx_catch (name := eA) hown [] ⟨0, 9, 12, 15⟩ [⟨0, 9, 15, 21⟩] htab (fun z hz => by cases hz) (by decide) (by decide) (hts _ (by decide +kernel)) (va_Nw.use rfl hX.2.2.2.2.2.2.1.2.1) h1 h2 h3 ?_
      refine lv_astore_n (lv' := [(3, .ref q9), (0, .ref (a 0)), (1, .int v), (2, .ref o)]) hx hb dL_lot_12 rfl hl (by decide) rfl (fun ls hl => ?_)
      refine lv_iconst (v := nI 1) hx hb dL_lot_13 (by decide) ?_
      have hz : ¬ (coLot S L v).1 = nI 0 := by rw [hco]; decide
      refine W.widen (k := 2) (n := 12) (Nat.le_of_ble_eq_true rfl) (Nat.le_of_ble_eq_true rfl) ?_
      exact k_iretW hx hb hr hlocks (by rw [outG, outS, if_neg hz, if_neg hz]; exact hP) hS (by unfold outC; rw [hco]) dL_lot_14
    · skip
      rcases i with _ | i
      · cases hi
        refine vx_catch (name := eS) hown [⟨0, 9, 12, 15⟩] ⟨0, 9, 15, 21⟩ [] htab (fun z hz => by cases List.mem_singleton.mp hz; exact Or.inr ⟨by decide, eA, hts _ (by decide +kernel), hX.2.2.2.2.2.2.2.2.2⟩) (by decide) (by decide) (hts _ (by decide +kernel)) (va_Nw.use rfl hX.2.2.2.2.2.2.1.2.2) h1 h2 h3 ?_
        refine lv_astore_n (lv' := [(3, .ref q9), (0, .ref (a 0)), (1, .int v), (2, .ref o)]) hx hb dL_lot_15 rfl hl (by decide) rfl (fun ls hl => ?_)
        refine lv_iconst (v := nI 2) hx hb dL_lot_16 (by decide) ?_
        have hz : ¬ (coLot S L v).1 = nI 0 := by rw [hco]; decide
        refine W.widen (k := 2) (n := 12) (Nat.le_of_ble_eq_true rfl) (Nat.le_of_ble_eq_true rfl) ?_
        exact k_iretW hx hb hr hlocks (by rw [outG, outS, if_neg hz, if_neg hz]; exact hP) hS (by unfold outC; rw [hco]) dL_lot_17
      · skip
        exact absurd hi (by simp)
  · obtain ⟨hc0, hr2⟩ := hr1
    refine lv_i2l hx hb dL_lot_7 rfl ?_
    refine k_lastO hx hb hK (g := g) (x := r.toInt64) hP hS dL_lot_8 (fun H locs hP hS => ?_)
    refine lv_goto (tgt := 18) hx hb dL_lot_9 (by decide) ?_
    refine lv_iconst (v := nI 0) hx hb dL_lot_18 (by decide) ?_
    refine W.widen (k := 2) (n := 12) (Nat.le_of_ble_eq_true rfl) (Nat.le_of_ble_eq_true rfl) ?_
    exact k_iretW hx hb hr hlocks (by rw [outG, outS, if_pos hc0, if_pos hc0, ← hr2]; exact hP) hS (by unfold outC; rw [hc0]) dL_lot_19
set_option maxHeartbeats 4000000 in
set_option maxRecDepth 100000 in
theorem c_L_steps (l : Launch) (hl0 : l.stackTraces = false) (D : va_G) (q : Nat → ClassId) (A : Nat → Prop) (a : Nat → Nat) (S : Nat → Nat → Int32) (cap nl o : Nat) (g : Nat → Int64) (s h : Int32) (w0 : Nat) (hnow : S 0 0 = nI w0) (hw200 : w0 ≤ 200) : Met l yL_steps wsL_steps ({ frames := 10, cells := 2, slots := 12, locals := 287 } : Room) (va_Pc [.ref (a 0), .int s, .int h, .ref o] (kBL D q A (fun H => kW D A (wO q o g (wC q a S cap nl)) H))) (kRi D A (outC (coRow S 8 s h)) (wO q o (outG g (coRow S 8 s h)) (wC q a (outS S (coRow S 8 s h)) cap nl))) 2 12 A := by
  refine va_MetW (cc := cL_steps) (maxL := 5) (ret := some .int) (hh := [(0, 10, 13, 13), (0, 10, 17, 15)]) (by decide) rfl ?_
  intro p e u m args below meth c s₁ B hml0 hv
  obtain ⟨rfl, ⟨hP, hK, hX⟩, hA⟩ := hv
  have C0 : kAt p u m #[.ref (a 0), .int s, .int h, .ref o] meth c cL_steps 5 (some .int) RL wsL_steps := kAt_of B hml0
  obtain ⟨hx, hb, hr, hml, hown, hts, hlocks⟩ := id C0
  have htab := vx_table (x := yL_steps) B (hts (.codeWith yL_steps cL_steps 5 (some .int) [(0, 10, 13, 13), (0, 10, 17, 15)]) List.mem_cons_self)
  have hS : va_S A u.heap u.heap [] := va_S.rf
  have hl := lv_entry ([.ref (a 0), .int s, .int h, .ref o]) (n := 5) (Nat.le_of_ble_eq_true rfl)
  rw [lg_entry_eq]
  generalize (lg_sl ([.ref (a 0), .int s, .int h, .ref o]) ++ List.replicate (5 - (lg_sl ([.ref (a 0), .int s, .int h, .ref o])).length) Slot.unset).toArray = ls at hl ⊢
  have hl : lv_has ls 5 [(0, .ref (a 0)), (1, .int s), (2, .int h), (3, .ref o)] := hl
  refine lv_aload_n hx hb dL_steps_0 rfl (lv_at hl 3 rfl) ?_
  refine lv_iconst (v := nI 0) hx hb dL_steps_1 (by decide) ?_
  refine lv_aload_n hx hb dL_steps_2 rfl (lv_at hl 0 rfl) ?_
  refine lv_iload_n hx hb dL_steps_3 rfl (lv_at hl 1 rfl) ?_
  refine lv_iload_n hx hb dL_steps_4 rfl (lv_at hl 2 rfl) ?_
  refine k_goLi (H0 := u.heap) hP hA hS (vx_runV (rest := [.int (nI 0), .ref o]) ⟨hx, hb, hml, hown, hts⟩ (c_X4_steps l hl0 D q (va_A (wC q a S cap nl) u.heap.size) a S cap nl s h w0 hnow hw200) (cwV 2 hts gL_steps_X4_steps rfl rfl rfl (by decide +kernel) ⟨Nat.le_of_ble_eq_true rfl, Nat.le_of_ble_eq_true rfl⟩) ⟨kBX_blind, (va_recv hK.1 hP.1 (ci := 5) (q0 := 1) rfl rfl), fun U hU hW => ⟨rfl, by rw [hU]; exact kW_cut hP, hK.warm hW, (hX.at hS hU hW).narrow (kW_sub hP hA)⟩⟩ rfl rfl hl.1 rfl (lv_room (Nat.le_of_ble_eq_true rfl)) dL_steps_5 ⟨Nat.le_of_ble_eq_true rfl, Nat.le_of_ble_eq_true rfl⟩) (fun E ce q9 H locs hE hP hS h1 h2 h3 => ?_) (fun r H locs hr1 hP hS => ?_)
  · obtain ⟨i, hi, hco⟩ := hE
    rcases i with _ | i
    · cases hi
      refine vx_catch (name := eI) hown [] ⟨0, 10, 13, 13⟩ [⟨0, 10, 17, 15⟩] htab (fun z hz => by cases hz) (by decide) (by decide) (hts _ (by decide +kernel)) (va_Nw.use rfl hX.2.2.2.2.2.2.1.1) h1 h2 h3 ?_
      refine lv_astore (lv' := [(4, .ref q9), (0, .ref (a 0)), (1, .int s), (2, .int h), (3, .ref o)]) hx hb dL_steps_13 hl (by decide) rfl (fun ls hl => ?_)
      refine lv_iconst (v := nI 1) hx hb dL_steps_15 (by decide) ?_
      have hz : ¬ (coRow S 8 s h).1 = nI 0 := by rw [hco]; decide
      refine W.widen (k := 2) (n := 12) (Nat.le_of_ble_eq_true rfl) (Nat.le_of_ble_eq_true rfl) ?_
      exact k_iretW hx hb hr hlocks (by rw [outG, outS, if_neg hz, if_neg hz]; exact hP) hS (by unfold outC; rw [hco]) dL_steps_16
    · skip
      rcases i with _ | i
      · cases hi
        refine vx_catch (name := eA) hown [⟨0, 10, 13, 13⟩] ⟨0, 10, 17, 15⟩ [] htab (fun z hz => by cases List.mem_singleton.mp hz; exact Or.inr ⟨by decide, eI, hts _ (by decide +kernel), hX.2.2.2.2.2.2.2.1⟩) (by decide) (by decide) (hts _ (by decide +kernel)) (va_Nw.use rfl hX.2.2.2.2.2.2.1.2.1) h1 h2 h3 ?_
        refine lv_astore (lv' := [(4, .ref q9), (0, .ref (a 0)), (1, .int s), (2, .int h), (3, .ref o)]) hx hb dL_steps_17 hl (by decide) rfl (fun ls hl => ?_)
        refine lv_iconst (v := nI 2) hx hb dL_steps_19 (by decide) ?_
        have hz : ¬ (coRow S 8 s h).1 = nI 0 := by rw [hco]; decide
        refine W.widen (k := 2) (n := 12) (Nat.le_of_ble_eq_true rfl) (Nat.le_of_ble_eq_true rfl) ?_
        exact k_iretW hx hb hr hlocks (by rw [outG, outS, if_neg hz, if_neg hz]; exact hP) hS (by unfold outC; rw [hco]) dL_steps_20
      · skip
        exact absurd hi (by simp)
  · obtain ⟨hc0, hr2⟩ := hr1
    refine lv_i2l hx hb dL_steps_8 rfl ?_
    refine k_lastO hx hb hK (g := g) (x := r.toInt64) hP hS dL_steps_9 (fun H locs hP hS => ?_)
    refine lv_goto (tgt := 21) hx hb dL_steps_10 (by decide) ?_
    refine lv_iconst (v := nI 0) hx hb dL_steps_21 (by decide) ?_
    refine W.widen (k := 2) (n := 12) (Nat.le_of_ble_eq_true rfl) (Nat.le_of_ble_eq_true rfl) ?_
    exact k_iretW hx hb hr hlocks (by rw [outG, outS, if_pos hc0, if_pos hc0, ← hr2]; exact hP) hS (by unfold outC; rw [hc0]) dL_steps_22
set_option maxHeartbeats 4000000 in
set_option maxRecDepth 100000 in
theorem c_L_crowd (l : Launch) (hl0 : l.stackTraces = false) (D : va_G) (q : Nat → ClassId) (A : Nat → Prop) (a : Nat → Nat) (S : Nat → Nat → Int32) (cap nl o : Nat) (g : Nat → Int64) (s h : Int32) (w0 : Nat) (hnow : S 0 0 = nI w0) (hw200 : w0 ≤ 200) : Met l yL_crowd wsL_crowd ({ frames := 10, cells := 2, slots := 12, locals := 287 } : Room) (va_Pc [.ref (a 0), .int s, .int h, .ref o] (kBL D q A (fun H => kW D A (wO q o g (wC q a S cap nl)) H))) (kRi D A (outC (coRow S 9 s h)) (wO q o (outG g (coRow S 9 s h)) (wC q a (outS S (coRow S 9 s h)) cap nl))) 2 12 A := by
  refine va_MetW (cc := cL_crowd) (maxL := 5) (ret := some .int) (hh := [(0, 10, 13, 13), (0, 10, 17, 15)]) (by decide) rfl ?_
  intro p e u m args below meth c s₁ B hml0 hv
  obtain ⟨rfl, ⟨hP, hK, hX⟩, hA⟩ := hv
  have C0 : kAt p u m #[.ref (a 0), .int s, .int h, .ref o] meth c cL_crowd 5 (some .int) RL wsL_crowd := kAt_of B hml0
  obtain ⟨hx, hb, hr, hml, hown, hts, hlocks⟩ := id C0
  have htab := vx_table (x := yL_crowd) B (hts (.codeWith yL_crowd cL_crowd 5 (some .int) [(0, 10, 13, 13), (0, 10, 17, 15)]) List.mem_cons_self)
  have hS : va_S A u.heap u.heap [] := va_S.rf
  have hl := lv_entry ([.ref (a 0), .int s, .int h, .ref o]) (n := 5) (Nat.le_of_ble_eq_true rfl)
  rw [lg_entry_eq]
  generalize (lg_sl ([.ref (a 0), .int s, .int h, .ref o]) ++ List.replicate (5 - (lg_sl ([.ref (a 0), .int s, .int h, .ref o])).length) Slot.unset).toArray = ls at hl ⊢
  have hl : lv_has ls 5 [(0, .ref (a 0)), (1, .int s), (2, .int h), (3, .ref o)] := hl
  refine lv_aload_n hx hb dL_crowd_0 rfl (lv_at hl 3 rfl) ?_
  refine lv_iconst (v := nI 0) hx hb dL_crowd_1 (by decide) ?_
  refine lv_aload_n hx hb dL_crowd_2 rfl (lv_at hl 0 rfl) ?_
  refine lv_iload_n hx hb dL_crowd_3 rfl (lv_at hl 1 rfl) ?_
  refine lv_iload_n hx hb dL_crowd_4 rfl (lv_at hl 2 rfl) ?_
  refine k_goLi (H0 := u.heap) hP hA hS (vx_runV (rest := [.int (nI 0), .ref o]) ⟨hx, hb, hml, hown, hts⟩ (c_X4_crowd l hl0 D q (va_A (wC q a S cap nl) u.heap.size) a S cap nl s h w0 hnow hw200) (cwV 2 hts gL_crowd_X4_crowd rfl rfl rfl (by decide +kernel) ⟨Nat.le_of_ble_eq_true rfl, Nat.le_of_ble_eq_true rfl⟩) ⟨kBX_blind, (va_recv hK.1 hP.1 (ci := 5) (q0 := 1) rfl rfl), fun U hU hW => ⟨rfl, by rw [hU]; exact kW_cut hP, hK.warm hW, (hX.at hS hU hW).narrow (kW_sub hP hA)⟩⟩ rfl rfl hl.1 rfl (lv_room (Nat.le_of_ble_eq_true rfl)) dL_crowd_5 ⟨Nat.le_of_ble_eq_true rfl, Nat.le_of_ble_eq_true rfl⟩) (fun E ce q9 H locs hE hP hS h1 h2 h3 => ?_) (fun r H locs hr1 hP hS => ?_)
  · obtain ⟨i, hi, hco⟩ := hE
    rcases i with _ | i
    · cases hi
      refine vx_catch (name := eI) hown [] ⟨0, 10, 13, 13⟩ [⟨0, 10, 17, 15⟩] htab (fun z hz => by cases hz) (by decide) (by decide) (hts _ (by decide +kernel)) (va_Nw.use rfl hX.2.2.2.2.2.2.1.1) h1 h2 h3 ?_
      refine lv_astore (lv' := [(4, .ref q9), (0, .ref (a 0)), (1, .int s), (2, .int h), (3, .ref o)]) hx hb dL_crowd_13 hl (by decide) rfl (fun ls hl => ?_)
      refine lv_iconst (v := nI 1) hx hb dL_crowd_15 (by decide) ?_
      have hz : ¬ (coRow S 9 s h).1 = nI 0 := by rw [hco]; decide
      refine W.widen (k := 2) (n := 12) (Nat.le_of_ble_eq_true rfl) (Nat.le_of_ble_eq_true rfl) ?_
      exact k_iretW hx hb hr hlocks (by rw [outG, outS, if_neg hz, if_neg hz]; exact hP) hS (by unfold outC; rw [hco]) dL_crowd_16
    · skip
      rcases i with _ | i
      · cases hi
        refine vx_catch (name := eA) hown [⟨0, 10, 13, 13⟩] ⟨0, 10, 17, 15⟩ [] htab (fun z hz => by cases List.mem_singleton.mp hz; exact Or.inr ⟨by decide, eI, hts _ (by decide +kernel), hX.2.2.2.2.2.2.2.1⟩) (by decide) (by decide) (hts _ (by decide +kernel)) (va_Nw.use rfl hX.2.2.2.2.2.2.1.2.1) h1 h2 h3 ?_
        refine lv_astore (lv' := [(4, .ref q9), (0, .ref (a 0)), (1, .int s), (2, .int h), (3, .ref o)]) hx hb dL_crowd_17 hl (by decide) rfl (fun ls hl => ?_)
        refine lv_iconst (v := nI 2) hx hb dL_crowd_19 (by decide) ?_
        have hz : ¬ (coRow S 9 s h).1 = nI 0 := by rw [hco]; decide
        refine W.widen (k := 2) (n := 12) (Nat.le_of_ble_eq_true rfl) (Nat.le_of_ble_eq_true rfl) ?_
        exact k_iretW hx hb hr hlocks (by rw [outG, outS, if_neg hz, if_neg hz]; exact hP) hS (by unfold outC; rw [hco]) dL_crowd_20
      · skip
        exact absurd hi (by simp)
  · obtain ⟨hc0, hr2⟩ := hr1
    refine lv_i2l hx hb dL_crowd_8 rfl ?_
    refine k_lastO hx hb hK (g := g) (x := r.toInt64) hP hS dL_crowd_9 (fun H locs hP hS => ?_)
    refine lv_goto (tgt := 21) hx hb dL_crowd_10 (by decide) ?_
    refine lv_iconst (v := nI 0) hx hb dL_crowd_21 (by decide) ?_
    refine W.widen (k := 2) (n := 12) (Nat.le_of_ble_eq_true rfl) (Nat.le_of_ble_eq_true rfl) ?_
    exact k_iretW hx hb hr hlocks (by rw [outG, outS, if_pos hc0, if_pos hc0, ← hr2]; exact hP) hS (by unfold outC; rw [hc0]) dL_crowd_22
set_option maxHeartbeats 4000000 in
set_option maxRecDepth 100000 in
theorem c_L_through (l : Launch) (hl0 : l.stackTraces = false) (D : va_G) (q : Nat → ClassId) (A : Nat → Prop) (a : Nat → Nat) (S : Nat → Nat → Int32) (cap nl o : Nat) (g : Nat → Int64) (h : Int32) (w0 : Nat) (hnow : S 0 0 = nI w0) (hw200 : w0 ≤ 200) : Met l yL_through wsL_through ({ frames := 9, cells := 1, slots := 6, locals := 264 } : Room) (va_Pc [.ref (a 0), .int h, .ref o] (kBL D q A (fun H => kW D A (wO q o g (wC q a S cap nl)) H))) (kRi D A (outC (coThrough S h)) (wO q o (outG g (coThrough S h)) (wC q a (outS S (coThrough S h)) cap nl))) 1 6 A := by
  refine va_MetW (cc := cL_through) (maxL := 4) (ret := some .int) (hh := [(0, 9, 12, 15)]) (by decide) rfl ?_
  intro p e u m args below meth c s₁ B hml0 hv
  obtain ⟨rfl, ⟨hP, hK, hX⟩, hA⟩ := hv
  have C0 : kAt p u m #[.ref (a 0), .int h, .ref o] meth c cL_through 4 (some .int) RL wsL_through := kAt_of B hml0
  obtain ⟨hx, hb, hr, hml, hown, hts, hlocks⟩ := id C0
  have htab := vx_table (x := yL_through) B (hts (.codeWith yL_through cL_through 4 (some .int) [(0, 9, 12, 15)]) List.mem_cons_self)
  have hS : va_S A u.heap u.heap [] := va_S.rf
  have hl := lv_entry ([.ref (a 0), .int h, .ref o]) (n := 4) (Nat.le_of_ble_eq_true rfl)
  rw [lg_entry_eq]
  generalize (lg_sl ([.ref (a 0), .int h, .ref o]) ++ List.replicate (4 - (lg_sl ([.ref (a 0), .int h, .ref o])).length) Slot.unset).toArray = ls at hl ⊢
  have hl : lv_has ls 4 [(0, .ref (a 0)), (1, .int h), (2, .ref o)] := hl
  refine lv_aload_n hx hb dL_through_0 rfl (lv_at hl 2 rfl) ?_
  refine lv_iconst (v := nI 0) hx hb dL_through_1 (by decide) ?_
  refine lv_aload_n hx hb dL_through_2 rfl (lv_at hl 0 rfl) ?_
  refine lv_iload_n hx hb dL_through_3 rfl (lv_at hl 1 rfl) ?_
  refine k_goLi (H0 := u.heap) hP hA hS (vx_runV (rest := [.int (nI 0), .ref o]) ⟨hx, hb, hml, hown, hts⟩ (c_X4_through l hl0 D q (va_A (wC q a S cap nl) u.heap.size) a S cap nl h w0 hnow hw200) (cwV 1 hts gL_through_X4_through rfl rfl rfl (by decide +kernel) ⟨Nat.le_of_ble_eq_true rfl, Nat.le_of_ble_eq_true rfl⟩) ⟨kBX_blind, (va_recv hK.1 hP.1 (ci := 5) (q0 := 1) rfl rfl), fun U hU hW => ⟨rfl, by rw [hU]; exact kW_cut hP, hK.warm hW, (hX.at hS hU hW).narrow (kW_sub hP hA)⟩⟩ rfl rfl hl.1 rfl (lv_room (Nat.le_of_ble_eq_true rfl)) dL_through_4 ⟨Nat.le_of_ble_eq_true rfl, Nat.le_of_ble_eq_true rfl⟩) (fun E ce q9 H locs hE hP hS h1 h2 h3 => ?_) (fun r H locs hr1 hP hS => ?_)
  · obtain ⟨i, hi, hco⟩ := hE
    rcases i with _ | i
    · cases hi
      refine vx_catch (name := eA) hown [] ⟨0, 9, 12, 15⟩ [] htab (fun z hz => by cases hz) (by decide) (by decide) (hts _ (by decide +kernel)) (va_Nw.use rfl hX.2.2.2.2.2.2.1.2.1) h1 h2 h3 ?_
      refine lv_astore_n (lv' := [(3, .ref q9), (0, .ref (a 0)), (1, .int h), (2, .ref o)]) hx hb dL_through_12 rfl hl (by decide) rfl (fun ls hl => ?_)
      refine lv_iconst (v := nI 1) hx hb dL_through_13 (by decide) ?_
      have hz : ¬ (coThrough S h).1 = nI 0 := by rw [hco]; decide
      refine W.widen (k := 1) (n := 6) (Nat.le_of_ble_eq_true rfl) (Nat.le_of_ble_eq_true rfl) ?_
      exact k_iretW hx hb hr hlocks (by rw [outG, outS, if_neg hz, if_neg hz]; exact hP) hS (by unfold outC; rw [hco]) dL_through_14
    · skip
      exact absurd hi (by simp)
  · obtain ⟨hc0, hr2⟩ := hr1
    refine lv_i2l hx hb dL_through_7 rfl ?_
    refine k_lastO hx hb hK (g := g) (x := r.toInt64) hP hS dL_through_8 (fun H locs hP hS => ?_)
    refine lv_goto (tgt := 15) hx hb dL_through_9 (by decide) ?_
    refine lv_iconst (v := nI 0) hx hb dL_through_15 (by decide) ?_
    refine W.widen (k := 1) (n := 6) (Nat.le_of_ble_eq_true rfl) (Nat.le_of_ble_eq_true rfl) ?_
    exact k_iretW hx hb hr hlocks (by rw [outG, outS, if_pos hc0, if_pos hc0, ← hr2]; exact hP) hS (by unfold outC; rw [hc0]) dL_through_16
set_option maxHeartbeats 4000000 in
set_option maxRecDepth 100000 in
theorem c_L_reading (l : Launch) (hl0 : l.stackTraces = false) (D : va_G) (q : Nat → ClassId) (A : Nat → Prop) (a : Nat → Nat) (S : Nat → Nat → Int32) (cap nl o : Nat) (g : Nat → Int64) (s h : Int32) (w0 : Nat) (hnow : S 0 0 = nI w0) (hw200 : w0 ≤ 200) : Met l yL_reading wsL_reading ({ frames := 10, cells := 2, slots := 12, locals := 287 } : Room) (va_Pc [.ref (a 0), .int s, .int h, .ref o] (kBL D q A (fun H => kW D A (wO q o g (wC q a S cap nl)) H))) (kRi D A (outC (coRow S 13 s h)) (wO q o (outG g (coRow S 13 s h)) (wC q a (outS S (coRow S 13 s h)) cap nl))) 2 12 A := by
  refine va_MetW (cc := cL_reading) (maxL := 5) (ret := some .int) (hh := [(0, 10, 13, 13), (0, 10, 17, 15)]) (by decide) rfl ?_
  intro p e u m args below meth c s₁ B hml0 hv
  obtain ⟨rfl, ⟨hP, hK, hX⟩, hA⟩ := hv
  have C0 : kAt p u m #[.ref (a 0), .int s, .int h, .ref o] meth c cL_reading 5 (some .int) RL wsL_reading := kAt_of B hml0
  obtain ⟨hx, hb, hr, hml, hown, hts, hlocks⟩ := id C0
  have htab := vx_table (x := yL_reading) B (hts (.codeWith yL_reading cL_reading 5 (some .int) [(0, 10, 13, 13), (0, 10, 17, 15)]) List.mem_cons_self)
  have hS : va_S A u.heap u.heap [] := va_S.rf
  have hl := lv_entry ([.ref (a 0), .int s, .int h, .ref o]) (n := 5) (Nat.le_of_ble_eq_true rfl)
  rw [lg_entry_eq]
  generalize (lg_sl ([.ref (a 0), .int s, .int h, .ref o]) ++ List.replicate (5 - (lg_sl ([.ref (a 0), .int s, .int h, .ref o])).length) Slot.unset).toArray = ls at hl ⊢
  have hl : lv_has ls 5 [(0, .ref (a 0)), (1, .int s), (2, .int h), (3, .ref o)] := hl
  refine lv_aload_n hx hb dL_reading_0 rfl (lv_at hl 3 rfl) ?_
  refine lv_iconst (v := nI 0) hx hb dL_reading_1 (by decide) ?_
  refine lv_aload_n hx hb dL_reading_2 rfl (lv_at hl 0 rfl) ?_
  refine lv_iload_n hx hb dL_reading_3 rfl (lv_at hl 1 rfl) ?_
  refine lv_iload_n hx hb dL_reading_4 rfl (lv_at hl 2 rfl) ?_
  refine k_goLi (H0 := u.heap) hP hA hS (vx_runV (rest := [.int (nI 0), .ref o]) ⟨hx, hb, hml, hown, hts⟩ (c_X4_reading l hl0 D q (va_A (wC q a S cap nl) u.heap.size) a S cap nl s h w0 hnow hw200) (cwV 2 hts gL_reading_X4_reading rfl rfl rfl (by decide +kernel) ⟨Nat.le_of_ble_eq_true rfl, Nat.le_of_ble_eq_true rfl⟩) ⟨kBX_blind, (va_recv hK.1 hP.1 (ci := 5) (q0 := 1) rfl rfl), fun U hU hW => ⟨rfl, by rw [hU]; exact kW_cut hP, hK.warm hW, (hX.at hS hU hW).narrow (kW_sub hP hA)⟩⟩ rfl rfl hl.1 rfl (lv_room (Nat.le_of_ble_eq_true rfl)) dL_reading_5 ⟨Nat.le_of_ble_eq_true rfl, Nat.le_of_ble_eq_true rfl⟩) (fun E ce q9 H locs hE hP hS h1 h2 h3 => ?_) (fun r H locs hr1 hP hS => ?_)
  · obtain ⟨i, hi, hco⟩ := hE
    rcases i with _ | i
    · cases hi
      refine vx_catch (name := eI) hown [] ⟨0, 10, 13, 13⟩ [⟨0, 10, 17, 15⟩] htab (fun z hz => by cases hz) (by decide) (by decide) (hts _ (by decide +kernel)) (va_Nw.use rfl hX.2.2.2.2.2.2.1.1) h1 h2 h3 ?_
      refine lv_astore (lv' := [(4, .ref q9), (0, .ref (a 0)), (1, .int s), (2, .int h), (3, .ref o)]) hx hb dL_reading_13 hl (by decide) rfl (fun ls hl => ?_)
      refine lv_iconst (v := nI 1) hx hb dL_reading_15 (by decide) ?_
      have hz : ¬ (coRow S 13 s h).1 = nI 0 := by rw [hco]; decide
      refine W.widen (k := 2) (n := 12) (Nat.le_of_ble_eq_true rfl) (Nat.le_of_ble_eq_true rfl) ?_
      exact k_iretW hx hb hr hlocks (by rw [outG, outS, if_neg hz, if_neg hz]; exact hP) hS (by unfold outC; rw [hco]) dL_reading_16
    · skip
      rcases i with _ | i
      · cases hi
        refine vx_catch (name := eA) hown [⟨0, 10, 13, 13⟩] ⟨0, 10, 17, 15⟩ [] htab (fun z hz => by cases List.mem_singleton.mp hz; exact Or.inr ⟨by decide, eI, hts _ (by decide +kernel), hX.2.2.2.2.2.2.2.1⟩) (by decide) (by decide) (hts _ (by decide +kernel)) (va_Nw.use rfl hX.2.2.2.2.2.2.1.2.1) h1 h2 h3 ?_
        refine lv_astore (lv' := [(4, .ref q9), (0, .ref (a 0)), (1, .int s), (2, .int h), (3, .ref o)]) hx hb dL_reading_17 hl (by decide) rfl (fun ls hl => ?_)
        refine lv_iconst (v := nI 2) hx hb dL_reading_19 (by decide) ?_
        have hz : ¬ (coRow S 13 s h).1 = nI 0 := by rw [hco]; decide
        refine W.widen (k := 2) (n := 12) (Nat.le_of_ble_eq_true rfl) (Nat.le_of_ble_eq_true rfl) ?_
        exact k_iretW hx hb hr hlocks (by rw [outG, outS, if_neg hz, if_neg hz]; exact hP) hS (by unfold outC; rw [hco]) dL_reading_20
      · skip
        exact absurd hi (by simp)
  · obtain ⟨hc0, hr2⟩ := hr1
    refine lv_i2l hx hb dL_reading_8 rfl ?_
    refine k_lastO hx hb hK (g := g) (x := r.toInt64) hP hS dL_reading_9 (fun H locs hP hS => ?_)
    refine lv_goto (tgt := 21) hx hb dL_reading_10 (by decide) ?_
    refine lv_iconst (v := nI 0) hx hb dL_reading_21 (by decide) ?_
    refine W.widen (k := 2) (n := 12) (Nat.le_of_ble_eq_true rfl) (Nat.le_of_ble_eq_true rfl) ?_
    exact k_iretW hx hb hr hlocks (by rw [outG, outS, if_pos hc0, if_pos hc0, ← hr2]; exact hP) hS (by unfold outC; rw [hc0]) dL_reading_22
set_option maxHeartbeats 4000000 in
set_option maxRecDepth 100000 in
theorem c_L_taken (l : Launch) (hl0 : l.stackTraces = false) (D : va_G) (q : Nat → ClassId) (A : Nat → Prop) (a : Nat → Nat) (S : Nat → Nat → Int32) (cap nl o : Nat) (g : Nat → Int64) (s h : Int32) (n : Nat) (hn : S 0 1 = nI n) (hn60 : n ≤ 60) : Met l yL_taken wsL_taken ({ frames := 8, cells := 2, slots := 12, locals := 244 } : Room) (va_Pc [.ref (a 0), .int s, .int h, .ref o] (kBL D q A (fun H => kW D A (wO q o g (wC q a S cap nl)) H))) (kRi D A (outC (coTaken S n s h)) (wO q o (outG g (coTaken S n s h)) (wC q a (outS S (coTaken S n s h)) cap nl))) 2 12 A := by
  refine va_MetW (cc := cL_taken) (maxL := 5) (ret := some .int) (hh := [(0, 10, 13, 13), (0, 10, 17, 15)]) (by decide) rfl ?_
  intro p e u m args below meth c s₁ B hml0 hv
  obtain ⟨rfl, ⟨hP, hK, hX⟩, hA⟩ := hv
  have C0 : kAt p u m #[.ref (a 0), .int s, .int h, .ref o] meth c cL_taken 5 (some .int) RL wsL_taken := kAt_of B hml0
  obtain ⟨hx, hb, hr, hml, hown, hts, hlocks⟩ := id C0
  have htab := vx_table (x := yL_taken) B (hts (.codeWith yL_taken cL_taken 5 (some .int) [(0, 10, 13, 13), (0, 10, 17, 15)]) List.mem_cons_self)
  have hS : va_S A u.heap u.heap [] := va_S.rf
  have hl := lv_entry ([.ref (a 0), .int s, .int h, .ref o]) (n := 5) (Nat.le_of_ble_eq_true rfl)
  rw [lg_entry_eq]
  generalize (lg_sl ([.ref (a 0), .int s, .int h, .ref o]) ++ List.replicate (5 - (lg_sl ([.ref (a 0), .int s, .int h, .ref o])).length) Slot.unset).toArray = ls at hl ⊢
  have hl : lv_has ls 5 [(0, .ref (a 0)), (1, .int s), (2, .int h), (3, .ref o)] := hl
  refine lv_aload_n hx hb dL_taken_0 rfl (lv_at hl 3 rfl) ?_
  refine lv_iconst (v := nI 0) hx hb dL_taken_1 (by decide) ?_
  refine lv_aload_n hx hb dL_taken_2 rfl (lv_at hl 0 rfl) ?_
  refine lv_iload_n hx hb dL_taken_3 rfl (lv_at hl 1 rfl) ?_
  refine lv_iload_n hx hb dL_taken_4 rfl (lv_at hl 2 rfl) ?_
  refine k_goLi (H0 := u.heap) hP hA hS (vx_runV (rest := [.int (nI 0), .ref o]) ⟨hx, hb, hml, hown, hts⟩ (c_X4_taken l hl0 D q (va_A (wC q a S cap nl) u.heap.size) a S cap nl s h n hn hn60) (cwV 2 hts gL_taken_X4_taken rfl rfl rfl (by decide +kernel) ⟨Nat.le_of_ble_eq_true rfl, Nat.le_of_ble_eq_true rfl⟩) ⟨kBX_blind, (va_recv hK.1 hP.1 (ci := 5) (q0 := 1) rfl rfl), fun U hU hW => ⟨rfl, by rw [hU]; exact kW_cut hP, hK.warm hW, (hX.at hS hU hW).narrow (kW_sub hP hA)⟩⟩ rfl rfl hl.1 rfl (lv_room (Nat.le_of_ble_eq_true rfl)) dL_taken_5 ⟨Nat.le_of_ble_eq_true rfl, Nat.le_of_ble_eq_true rfl⟩) (fun E ce q9 H locs hE hP hS h1 h2 h3 => ?_) (fun r H locs hr1 hP hS => ?_)
  · obtain ⟨i, hi, hco⟩ := hE
    rcases i with _ | i
    · cases hi
      refine vx_catch (name := eI) hown [] ⟨0, 10, 13, 13⟩ [⟨0, 10, 17, 15⟩] htab (fun z hz => by cases hz) (by decide) (by decide) (hts _ (by decide +kernel)) (va_Nw.use rfl hX.2.2.2.2.2.2.1.1) h1 h2 h3 ?_
      refine lv_astore (lv' := [(4, .ref q9), (0, .ref (a 0)), (1, .int s), (2, .int h), (3, .ref o)]) hx hb dL_taken_13 hl (by decide) rfl (fun ls hl => ?_)
      refine lv_iconst (v := nI 1) hx hb dL_taken_15 (by decide) ?_
      have hz : ¬ (coTaken S n s h).1 = nI 0 := by rw [hco]; decide
      refine W.widen (k := 2) (n := 12) (Nat.le_of_ble_eq_true rfl) (Nat.le_of_ble_eq_true rfl) ?_
      exact k_iretW hx hb hr hlocks (by rw [outG, outS, if_neg hz, if_neg hz]; exact hP) hS (by unfold outC; rw [hco]) dL_taken_16
    · skip
      rcases i with _ | i
      · cases hi
        refine vx_catch (name := eA) hown [⟨0, 10, 13, 13⟩] ⟨0, 10, 17, 15⟩ [] htab (fun z hz => by cases List.mem_singleton.mp hz; exact Or.inr ⟨by decide, eI, hts _ (by decide +kernel), hX.2.2.2.2.2.2.2.1⟩) (by decide) (by decide) (hts _ (by decide +kernel)) (va_Nw.use rfl hX.2.2.2.2.2.2.1.2.1) h1 h2 h3 ?_
        refine lv_astore (lv' := [(4, .ref q9), (0, .ref (a 0)), (1, .int s), (2, .int h), (3, .ref o)]) hx hb dL_taken_17 hl (by decide) rfl (fun ls hl => ?_)
        refine lv_iconst (v := nI 2) hx hb dL_taken_19 (by decide) ?_
        have hz : ¬ (coTaken S n s h).1 = nI 0 := by rw [hco]; decide
        refine W.widen (k := 2) (n := 12) (Nat.le_of_ble_eq_true rfl) (Nat.le_of_ble_eq_true rfl) ?_
        exact k_iretW hx hb hr hlocks (by rw [outG, outS, if_neg hz, if_neg hz]; exact hP) hS (by unfold outC; rw [hco]) dL_taken_20
      · skip
        exact absurd hi (by simp)
  · obtain ⟨hc0, hr2⟩ := hr1
    refine lv_i2l hx hb dL_taken_8 rfl ?_
    refine k_lastO hx hb hK (g := g) (x := r.toInt64) hP hS dL_taken_9 (fun H locs hP hS => ?_)
    refine lv_goto (tgt := 21) hx hb dL_taken_10 (by decide) ?_
    refine lv_iconst (v := nI 0) hx hb dL_taken_21 (by decide) ?_
    refine W.widen (k := 2) (n := 12) (Nat.le_of_ble_eq_true rfl) (Nat.le_of_ble_eq_true rfl) ?_
    exact k_iretW hx hb hr hlocks (by rw [outG, outS, if_pos hc0, if_pos hc0, ← hr2]; exact hP) hS (by unfold outC; rw [hc0]) dL_taken_22
set_option maxHeartbeats 4000000 in
set_option maxRecDepth 100000 in
theorem c_L_count (l : Launch) (hl0 : l.stackTraces = false) (D : va_G) (q : Nat → ClassId) (A : Nat → Prop) (a : Nat → Nat) (S : Nat → Nat → Int32) (cap nl o : Nat) (g : Nat → Int64) (s h : Int32) (w0 : Nat) (hnow : S 0 0 = nI w0) (hw200 : w0 ≤ 200) : Met l yL_count wsL_count ({ frames := 10, cells := 2, slots := 12, locals := 287 } : Room) (va_Pc [.ref (a 0), .int s, .int h, .ref o] (kBL D q A (fun H => kW D A (wO q o g (wC q a S cap nl)) H))) (kRi D A (outC (coRow S 14 s h)) (wO q o (outG g (coRow S 14 s h)) (wC q a (outS S (coRow S 14 s h)) cap nl))) 2 12 A := by
  refine va_MetW (cc := cL_count) (maxL := 5) (ret := some .int) (hh := [(0, 10, 13, 13), (0, 10, 17, 15)]) (by decide) rfl ?_
  intro p e u m args below meth c s₁ B hml0 hv
  obtain ⟨rfl, ⟨hP, hK, hX⟩, hA⟩ := hv
  have C0 : kAt p u m #[.ref (a 0), .int s, .int h, .ref o] meth c cL_count 5 (some .int) RL wsL_count := kAt_of B hml0
  obtain ⟨hx, hb, hr, hml, hown, hts, hlocks⟩ := id C0
  have htab := vx_table (x := yL_count) B (hts (.codeWith yL_count cL_count 5 (some .int) [(0, 10, 13, 13), (0, 10, 17, 15)]) List.mem_cons_self)
  have hS : va_S A u.heap u.heap [] := va_S.rf
  have hl := lv_entry ([.ref (a 0), .int s, .int h, .ref o]) (n := 5) (Nat.le_of_ble_eq_true rfl)
  rw [lg_entry_eq]
  generalize (lg_sl ([.ref (a 0), .int s, .int h, .ref o]) ++ List.replicate (5 - (lg_sl ([.ref (a 0), .int s, .int h, .ref o])).length) Slot.unset).toArray = ls at hl ⊢
  have hl : lv_has ls 5 [(0, .ref (a 0)), (1, .int s), (2, .int h), (3, .ref o)] := hl
  refine lv_aload_n hx hb dL_count_0 rfl (lv_at hl 3 rfl) ?_
  refine lv_iconst (v := nI 0) hx hb dL_count_1 (by decide) ?_
  refine lv_aload_n hx hb dL_count_2 rfl (lv_at hl 0 rfl) ?_
  refine lv_iload_n hx hb dL_count_3 rfl (lv_at hl 1 rfl) ?_
  refine lv_iload_n hx hb dL_count_4 rfl (lv_at hl 2 rfl) ?_
  refine k_goLi (H0 := u.heap) hP hA hS (vx_runV (rest := [.int (nI 0), .ref o]) ⟨hx, hb, hml, hown, hts⟩ (c_X4_count l hl0 D q (va_A (wC q a S cap nl) u.heap.size) a S cap nl s h w0 hnow hw200) (cwV 2 hts gL_count_X4_count rfl rfl rfl (by decide +kernel) ⟨Nat.le_of_ble_eq_true rfl, Nat.le_of_ble_eq_true rfl⟩) ⟨kBX_blind, (va_recv hK.1 hP.1 (ci := 5) (q0 := 1) rfl rfl), fun U hU hW => ⟨rfl, by rw [hU]; exact kW_cut hP, hK.warm hW, (hX.at hS hU hW).narrow (kW_sub hP hA)⟩⟩ rfl rfl hl.1 rfl (lv_room (Nat.le_of_ble_eq_true rfl)) dL_count_5 ⟨Nat.le_of_ble_eq_true rfl, Nat.le_of_ble_eq_true rfl⟩) (fun E ce q9 H locs hE hP hS h1 h2 h3 => ?_) (fun r H locs hr1 hP hS => ?_)
  · obtain ⟨i, hi, hco⟩ := hE
    rcases i with _ | i
    · cases hi
      refine vx_catch (name := eI) hown [] ⟨0, 10, 13, 13⟩ [⟨0, 10, 17, 15⟩] htab (fun z hz => by cases hz) (by decide) (by decide) (hts _ (by decide +kernel)) (va_Nw.use rfl hX.2.2.2.2.2.2.1.1) h1 h2 h3 ?_
      refine lv_astore (lv' := [(4, .ref q9), (0, .ref (a 0)), (1, .int s), (2, .int h), (3, .ref o)]) hx hb dL_count_13 hl (by decide) rfl (fun ls hl => ?_)
      refine lv_iconst (v := nI 1) hx hb dL_count_15 (by decide) ?_
      have hz : ¬ (coRow S 14 s h).1 = nI 0 := by rw [hco]; decide
      refine W.widen (k := 2) (n := 12) (Nat.le_of_ble_eq_true rfl) (Nat.le_of_ble_eq_true rfl) ?_
      exact k_iretW hx hb hr hlocks (by rw [outG, outS, if_neg hz, if_neg hz]; exact hP) hS (by unfold outC; rw [hco]) dL_count_16
    · skip
      rcases i with _ | i
      · cases hi
        refine vx_catch (name := eA) hown [⟨0, 10, 13, 13⟩] ⟨0, 10, 17, 15⟩ [] htab (fun z hz => by cases List.mem_singleton.mp hz; exact Or.inr ⟨by decide, eI, hts _ (by decide +kernel), hX.2.2.2.2.2.2.2.1⟩) (by decide) (by decide) (hts _ (by decide +kernel)) (va_Nw.use rfl hX.2.2.2.2.2.2.1.2.1) h1 h2 h3 ?_
        refine lv_astore (lv' := [(4, .ref q9), (0, .ref (a 0)), (1, .int s), (2, .int h), (3, .ref o)]) hx hb dL_count_17 hl (by decide) rfl (fun ls hl => ?_)
        refine lv_iconst (v := nI 2) hx hb dL_count_19 (by decide) ?_
        have hz : ¬ (coRow S 14 s h).1 = nI 0 := by rw [hco]; decide
        refine W.widen (k := 2) (n := 12) (Nat.le_of_ble_eq_true rfl) (Nat.le_of_ble_eq_true rfl) ?_
        exact k_iretW hx hb hr hlocks (by rw [outG, outS, if_neg hz, if_neg hz]; exact hP) hS (by unfold outC; rw [hco]) dL_count_20
      · skip
        exact absurd hi (by simp)
  · obtain ⟨hc0, hr2⟩ := hr1
    refine lv_i2l hx hb dL_count_8 rfl ?_
    refine k_lastO hx hb hK (g := g) (x := r.toInt64) hP hS dL_count_9 (fun H locs hP hS => ?_)
    refine lv_goto (tgt := 21) hx hb dL_count_10 (by decide) ?_
    refine lv_iconst (v := nI 0) hx hb dL_count_21 (by decide) ?_
    refine W.widen (k := 2) (n := 12) (Nat.le_of_ble_eq_true rfl) (Nat.le_of_ble_eq_true rfl) ?_
    exact k_iretW hx hb hr hlocks (by rw [outG, outS, if_pos hc0, if_pos hc0, ← hr2]; exact hP) hS (by unfold outC; rw [hc0]) dL_count_22
set_option maxHeartbeats 4000000 in
set_option maxRecDepth 100000 in
theorem c_L_countAnew (l : Launch) (hl0 : l.stackTraces = false) (D : va_G) (q : Nat → ClassId) (A : Nat → Prop) (a : Nat → Nat) (S : Nat → Nat → Int32) (cap nl o : Nat) (g : Nat → Int64) (s h : Int32) (n w0 : Nat) (hn : S 0 1 = nI n) (hn60 : n ≤ 60) (hnow : S 0 0 = nI w0) (hw200 : w0 ≤ 200) : Met l yL_countAnew wsL_countAnew ({ frames := 9, cells := 2, slots := 12, locals := 265 } : Room) (va_Pc [.ref (a 0), .int s, .int h, .ref o] (kBL D q A (fun H => kW D A (wO q o g (wC q a S cap nl)) H))) (kRi D A (outC (coAnew S n s h)) (wO q o (outG g (coAnew S n s h)) (wC q a (outS S (coAnew S n s h)) cap nl))) 2 12 A := by
  refine va_MetW (cc := cL_countAnew) (maxL := 5) (ret := some .int) (hh := [(0, 10, 13, 13), (0, 10, 17, 15)]) (by decide) rfl ?_
  intro p e u m args below meth c s₁ B hml0 hv
  obtain ⟨rfl, ⟨hP, hK, hX⟩, hA⟩ := hv
  have C0 : kAt p u m #[.ref (a 0), .int s, .int h, .ref o] meth c cL_countAnew 5 (some .int) RL wsL_countAnew := kAt_of B hml0
  obtain ⟨hx, hb, hr, hml, hown, hts, hlocks⟩ := id C0
  have htab := vx_table (x := yL_countAnew) B (hts (.codeWith yL_countAnew cL_countAnew 5 (some .int) [(0, 10, 13, 13), (0, 10, 17, 15)]) List.mem_cons_self)
  have hS : va_S A u.heap u.heap [] := va_S.rf
  have hl := lv_entry ([.ref (a 0), .int s, .int h, .ref o]) (n := 5) (Nat.le_of_ble_eq_true rfl)
  rw [lg_entry_eq]
  generalize (lg_sl ([.ref (a 0), .int s, .int h, .ref o]) ++ List.replicate (5 - (lg_sl ([.ref (a 0), .int s, .int h, .ref o])).length) Slot.unset).toArray = ls at hl ⊢
  have hl : lv_has ls 5 [(0, .ref (a 0)), (1, .int s), (2, .int h), (3, .ref o)] := hl
  refine lv_aload_n hx hb dL_countAnew_0 rfl (lv_at hl 3 rfl) ?_
  refine lv_iconst (v := nI 0) hx hb dL_countAnew_1 (by decide) ?_
  refine lv_aload_n hx hb dL_countAnew_2 rfl (lv_at hl 0 rfl) ?_
  refine lv_iload_n hx hb dL_countAnew_3 rfl (lv_at hl 1 rfl) ?_
  refine lv_iload_n hx hb dL_countAnew_4 rfl (lv_at hl 2 rfl) ?_
  refine k_goLi (H0 := u.heap) hP hA hS (vx_runV (rest := [.int (nI 0), .ref o]) ⟨hx, hb, hml, hown, hts⟩ (c_X4_countAnew l hl0 D q (va_A (wC q a S cap nl) u.heap.size) a S cap nl s h n w0 hn hn60 hnow hw200) (cwV 2 hts gL_countAnew_X4_countAnew rfl rfl rfl (by decide +kernel) ⟨Nat.le_of_ble_eq_true rfl, Nat.le_of_ble_eq_true rfl⟩) ⟨kBX_blind, (va_recv hK.1 hP.1 (ci := 5) (q0 := 1) rfl rfl), fun U hU hW => ⟨rfl, by rw [hU]; exact kW_cut hP, hK.warm hW, (hX.at hS hU hW).narrow (kW_sub hP hA)⟩⟩ rfl rfl hl.1 rfl (lv_room (Nat.le_of_ble_eq_true rfl)) dL_countAnew_5 ⟨Nat.le_of_ble_eq_true rfl, Nat.le_of_ble_eq_true rfl⟩) (fun E ce q9 H locs hE hP hS h1 h2 h3 => ?_) (fun r H locs hr1 hP hS => ?_)
  · obtain ⟨i, hi, hco⟩ := hE
    rcases i with _ | i
    · cases hi
      refine vx_catch (name := eI) hown [] ⟨0, 10, 13, 13⟩ [⟨0, 10, 17, 15⟩] htab (fun z hz => by cases hz) (by decide) (by decide) (hts _ (by decide +kernel)) (va_Nw.use rfl hX.2.2.2.2.2.2.1.1) h1 h2 h3 ?_
      refine lv_astore (lv' := [(4, .ref q9), (0, .ref (a 0)), (1, .int s), (2, .int h), (3, .ref o)]) hx hb dL_countAnew_13 hl (by decide) rfl (fun ls hl => ?_)
      refine lv_iconst (v := nI 1) hx hb dL_countAnew_15 (by decide) ?_
      have hz : ¬ (coAnew S n s h).1 = nI 0 := by rw [hco]; decide
      refine W.widen (k := 2) (n := 12) (Nat.le_of_ble_eq_true rfl) (Nat.le_of_ble_eq_true rfl) ?_
      exact k_iretW hx hb hr hlocks (by rw [outG, outS, if_neg hz, if_neg hz]; exact hP) hS (by unfold outC; rw [hco]) dL_countAnew_16
    · skip
      rcases i with _ | i
      · cases hi
        refine vx_catch (name := eA) hown [⟨0, 10, 13, 13⟩] ⟨0, 10, 17, 15⟩ [] htab (fun z hz => by cases List.mem_singleton.mp hz; exact Or.inr ⟨by decide, eI, hts _ (by decide +kernel), hX.2.2.2.2.2.2.2.1⟩) (by decide) (by decide) (hts _ (by decide +kernel)) (va_Nw.use rfl hX.2.2.2.2.2.2.1.2.1) h1 h2 h3 ?_
        refine lv_astore (lv' := [(4, .ref q9), (0, .ref (a 0)), (1, .int s), (2, .int h), (3, .ref o)]) hx hb dL_countAnew_17 hl (by decide) rfl (fun ls hl => ?_)
        refine lv_iconst (v := nI 2) hx hb dL_countAnew_19 (by decide) ?_
        have hz : ¬ (coAnew S n s h).1 = nI 0 := by rw [hco]; decide
        refine W.widen (k := 2) (n := 12) (Nat.le_of_ble_eq_true rfl) (Nat.le_of_ble_eq_true rfl) ?_
        exact k_iretW hx hb hr hlocks (by rw [outG, outS, if_neg hz, if_neg hz]; exact hP) hS (by unfold outC; rw [hco]) dL_countAnew_20
      · skip
        exact absurd hi (by simp)
  · obtain ⟨hc0, hr2⟩ := hr1
    refine lv_i2l hx hb dL_countAnew_8 rfl ?_
    refine k_lastO hx hb hK (g := g) (x := r.toInt64) hP hS dL_countAnew_9 (fun H locs hP hS => ?_)
    refine lv_goto (tgt := 21) hx hb dL_countAnew_10 (by decide) ?_
    refine lv_iconst (v := nI 0) hx hb dL_countAnew_21 (by decide) ?_
    refine W.widen (k := 2) (n := 12) (Nat.le_of_ble_eq_true rfl) (Nat.le_of_ble_eq_true rfl) ?_
    exact k_iretW hx hb hr hlocks (by rw [outG, outS, if_pos hc0, if_pos hc0, ← hr2]; exact hP) hS (by unfold outC; rw [hc0]) dL_countAnew_22
set_option maxHeartbeats 4000000 in
set_option maxRecDepth 100000 in
theorem c_L_missed (l : Launch) (hl0 : l.stackTraces = false) (D : va_G) (q : Nat → ClassId) (A : Nat → Prop) (a : Nat → Nat) (S : Nat → Nat → Int32) (cap nl o : Nat) (g : Nat → Int64) (h : Int32) (w0 : Nat) (hnow : S 0 0 = nI w0) (hw200 : w0 ≤ 200) : Met l yL_missed wsL_missed ({ frames := 9, cells := 1, slots := 6, locals := 267 } : Room) (va_Pc [.ref (a 0), .int h, .ref o] (kBL D q A (fun H => kW D A (wO q o g (wC q a S cap nl)) H))) (kRi D A (outC (coMissed S h)) (wO q o (outG g (coMissed S h)) (wC q a (outS S (coMissed S h)) cap nl))) 1 6 A := by
  refine va_MetW (cc := cL_missed) (maxL := 4) (ret := some .int) (hh := [(0, 9, 12, 15)]) (by decide) rfl ?_
  intro p e u m args below meth c s₁ B hml0 hv
  obtain ⟨rfl, ⟨hP, hK, hX⟩, hA⟩ := hv
  have C0 : kAt p u m #[.ref (a 0), .int h, .ref o] meth c cL_missed 4 (some .int) RL wsL_missed := kAt_of B hml0
  obtain ⟨hx, hb, hr, hml, hown, hts, hlocks⟩ := id C0
  have htab := vx_table (x := yL_missed) B (hts (.codeWith yL_missed cL_missed 4 (some .int) [(0, 9, 12, 15)]) List.mem_cons_self)
  have hS : va_S A u.heap u.heap [] := va_S.rf
  have hl := lv_entry ([.ref (a 0), .int h, .ref o]) (n := 4) (Nat.le_of_ble_eq_true rfl)
  rw [lg_entry_eq]
  generalize (lg_sl ([.ref (a 0), .int h, .ref o]) ++ List.replicate (4 - (lg_sl ([.ref (a 0), .int h, .ref o])).length) Slot.unset).toArray = ls at hl ⊢
  have hl : lv_has ls 4 [(0, .ref (a 0)), (1, .int h), (2, .ref o)] := hl
  refine lv_aload_n hx hb dL_missed_0 rfl (lv_at hl 2 rfl) ?_
  refine lv_iconst (v := nI 0) hx hb dL_missed_1 (by decide) ?_
  refine lv_aload_n hx hb dL_missed_2 rfl (lv_at hl 0 rfl) ?_
  refine lv_iload_n hx hb dL_missed_3 rfl (lv_at hl 1 rfl) ?_
  refine k_goLi (H0 := u.heap) hP hA hS (vx_runV (rest := [.int (nI 0), .ref o]) ⟨hx, hb, hml, hown, hts⟩ (c_X4_missed l hl0 D q (va_A (wC q a S cap nl) u.heap.size) a S cap nl h w0 hnow hw200) (cwV 1 hts gL_missed_X4_missed rfl rfl rfl (by decide +kernel) ⟨Nat.le_of_ble_eq_true rfl, Nat.le_of_ble_eq_true rfl⟩) ⟨kBX_blind, (va_recv hK.1 hP.1 (ci := 5) (q0 := 1) rfl rfl), fun U hU hW => ⟨rfl, by rw [hU]; exact kW_cut hP, hK.warm hW, (hX.at hS hU hW).narrow (kW_sub hP hA)⟩⟩ rfl rfl hl.1 rfl (lv_room (Nat.le_of_ble_eq_true rfl)) dL_missed_4 ⟨Nat.le_of_ble_eq_true rfl, Nat.le_of_ble_eq_true rfl⟩) (fun E ce q9 H locs hE hP hS h1 h2 h3 => ?_) (fun r H locs hr1 hP hS => ?_)
  · obtain ⟨i, hi, hco⟩ := hE
    rcases i with _ | i
    · cases hi
      refine vx_catch (name := eA) hown [] ⟨0, 9, 12, 15⟩ [] htab (fun z hz => by cases hz) (by decide) (by decide) (hts _ (by decide +kernel)) (va_Nw.use rfl hX.2.2.2.2.2.2.1.2.1) h1 h2 h3 ?_
      refine lv_astore_n (lv' := [(3, .ref q9), (0, .ref (a 0)), (1, .int h), (2, .ref o)]) hx hb dL_missed_12 rfl hl (by decide) rfl (fun ls hl => ?_)
      refine lv_iconst (v := nI 1) hx hb dL_missed_13 (by decide) ?_
      have hz : ¬ (coMissed S h).1 = nI 0 := by rw [hco]; decide
      refine W.widen (k := 1) (n := 6) (Nat.le_of_ble_eq_true rfl) (Nat.le_of_ble_eq_true rfl) ?_
      exact k_iretW hx hb hr hlocks (by rw [outG, outS, if_neg hz, if_neg hz]; exact hP) hS (by unfold outC; rw [hco]) dL_missed_14
    · skip
      exact absurd hi (by simp)
  · obtain ⟨hc0, hr2⟩ := hr1
    refine lv_i2l hx hb dL_missed_7 rfl ?_
    refine k_lastO hx hb hK (g := g) (x := r.toInt64) hP hS dL_missed_8 (fun H locs hP hS => ?_)
    refine lv_goto (tgt := 15) hx hb dL_missed_9 (by decide) ?_
    refine lv_iconst (v := nI 0) hx hb dL_missed_15 (by decide) ?_
    refine W.widen (k := 1) (n := 6) (Nat.le_of_ble_eq_true rfl) (Nat.le_of_ble_eq_true rfl) ?_
    exact k_iretW hx hb hr hlocks (by rw [outG, outS, if_pos hc0, if_pos hc0, ← hr2]; exact hP) hS (by unfold outC; rw [hc0]) dL_missed_16
set_option maxHeartbeats 4000000 in
set_option maxRecDepth 100000 in
theorem c_L_isOf (l : Launch) (hl0 : l.stackTraces = false) (D : va_G) (q : Nat → ClassId) (A : Nat → Prop) (a : Nat → Nat) (S : Nat → Nat → Int32) (cap nl o : Nat) (g : Nat → Int64) (y h : Int32) (hnl : nl ≤ cap ∧ cap ≤ 40 ∧ nl ≤ 30) : Met l yL_isOf wsL_isOf ({ frames := 8, cells := 1, slots := 6, locals := 243 } : Room) (va_Pc [.ref (a 0), .int y, .int h, .ref o] (kBL D q A (fun H => kW D A (wO q o g (wC q a S cap nl)) H))) (kRi D A (outC (coIsOf S nl y h)) (wO q o (outG g (coIsOf S nl y h)) (wC q a (outS S (coIsOf S nl y h)) cap nl))) 1 6 A := by
  refine va_MetW (cc := cL_isOf) (maxL := 5) (ret := some .int) (hh := [(0, 17, 20, 13)]) (by decide) rfl ?_
  intro p e u m args below meth c s₁ B hml0 hv
  obtain ⟨rfl, ⟨hP, hK, hX⟩, hA⟩ := hv
  have C0 : kAt p u m #[.ref (a 0), .int y, .int h, .ref o] meth c cL_isOf 5 (some .int) RL wsL_isOf := kAt_of B hml0
  obtain ⟨hx, hb, hr, hml, hown, hts, hlocks⟩ := id C0
  have htab := vx_table (x := yL_isOf) B (hts (.codeWith yL_isOf cL_isOf 5 (some .int) [(0, 17, 20, 13)]) List.mem_cons_self)
  have hS : va_S A u.heap u.heap [] := va_S.rf
  have hl := lv_entry ([.ref (a 0), .int y, .int h, .ref o]) (n := 5) (Nat.le_of_ble_eq_true rfl)
  rw [lg_entry_eq]
  generalize (lg_sl ([.ref (a 0), .int y, .int h, .ref o]) ++ List.replicate (5 - (lg_sl ([.ref (a 0), .int y, .int h, .ref o])).length) Slot.unset).toArray = ls at hl ⊢
  have hl : lv_has ls 5 [(0, .ref (a 0)), (1, .int y), (2, .int h), (3, .ref o)] := hl
  refine lv_aload_n hx hb dL_isOf_0 rfl (lv_at hl 3 rfl) ?_
  refine lv_iconst (v := nI 0) hx hb dL_isOf_1 (by decide) ?_
  refine lv_aload_n hx hb dL_isOf_2 rfl (lv_at hl 0 rfl) ?_
  refine lv_iload_n hx hb dL_isOf_3 rfl (lv_at hl 1 rfl) ?_
  refine lv_iload_n hx hb dL_isOf_4 rfl (lv_at hl 2 rfl) ?_
  refine k_goLi (H0 := u.heap) hP hA hS (vx_runV (rest := [.int (nI 0), .ref o]) ⟨hx, hb, hml, hown, hts⟩ (c_X4_isOf l hl0 D q (va_A (wC q a S cap nl) u.heap.size) a S cap nl y h hnl) (cwV 2 hts gL_isOf_X4_isOf rfl rfl rfl (by decide +kernel) ⟨Nat.le_of_ble_eq_true rfl, Nat.le_of_ble_eq_true rfl⟩) ⟨kBX_blind, (va_recv hK.1 hP.1 (ci := 5) (q0 := 1) rfl rfl), fun U hU hW => ⟨rfl, by rw [hU]; exact kW_cut hP, hK.warm hW, (hX.at hS hU hW).narrow (kW_sub hP hA)⟩⟩ rfl rfl hl.1 rfl (lv_room (Nat.le_of_ble_eq_true rfl)) dL_isOf_5 ⟨Nat.le_of_ble_eq_true rfl, Nat.le_of_ble_eq_true rfl⟩) (fun E ce q9 H locs hE hP hS h1 h2 h3 => ?_) (fun r H locs hr1 hP hS => ?_)
  · obtain ⟨i, hi, hco⟩ := hE
    rcases i with _ | i
    · cases hi
      refine vx_catch (name := eI) hown [] ⟨0, 17, 20, 13⟩ [] htab (fun z hz => by cases hz) (by decide) (by decide) (hts _ (by decide +kernel)) (va_Nw.use rfl hX.2.2.2.2.2.2.1.1) h1 h2 h3 ?_
      refine lv_astore (lv' := [(4, .ref q9), (0, .ref (a 0)), (1, .int y), (2, .int h), (3, .ref o)]) hx hb dL_isOf_20 hl (by decide) rfl (fun ls hl => ?_)
      refine lv_iconst (v := nI 1) hx hb dL_isOf_22 (by decide) ?_
      have hz : ¬ (coIsOf S nl y h).1 = nI 0 := by rw [hco]; decide
      refine W.widen (k := 1) (n := 6) (Nat.le_of_ble_eq_true rfl) (Nat.le_of_ble_eq_true rfl) ?_
      exact k_iretW hx hb hr hlocks (by rw [outG, outS, if_neg hz, if_neg hz]; exact hP) hS (by unfold outC; rw [hco]) dL_isOf_23
    · skip
      exact absurd hi (by simp)
  · obtain ⟨hc0, hr2⟩ := hr1
    refine k_if_eq (P := r = 0) (tgt := 15) hx hb dL_isOf_8 (by decide) Iff.rfl (fun hb0 => ?_) (fun hb0 => ?_)
    · skip
      refine lv_lconst (v := 0) hx hb dL_isOf_15 (by decide) ?_
      refine k_lastO hx hb hK (g := g) (x := 0) hP hS dL_isOf_16 (fun H locs hP hS => ?_)
      refine lv_goto (tgt := 24) hx hb dL_isOf_17 (by decide) ?_
      refine lv_iconst (v := nI 0) hx hb dL_isOf_24 (by decide) ?_
      refine W.widen (k := 1) (n := 6) (Nat.le_of_ble_eq_true rfl) (Nat.le_of_ble_eq_true rfl) ?_
      exact k_iretW hx hb hr hlocks (by rw [outG, outS, if_pos hc0, if_pos hc0, ← hr2, show r.toInt64 = (0 : Int64) from by rw [hb0]; rfl]; exact hP) hS (by unfold outC; rw [hc0]) dL_isOf_25
    · skip
      refine lv_lconst (v := 1) hx hb dL_isOf_11 (by decide) ?_
      refine lv_goto (tgt := 16) hx hb dL_isOf_12 (by decide) ?_
      refine k_lastO hx hb hK (g := g) (x := 1) hP hS dL_isOf_16 (fun H locs hP hS => ?_)
      refine lv_goto (tgt := 24) hx hb dL_isOf_17 (by decide) ?_
      refine lv_iconst (v := nI 0) hx hb dL_isOf_24 (by decide) ?_
      refine W.widen (k := 1) (n := 6) (Nat.le_of_ble_eq_true rfl) (Nat.le_of_ble_eq_true rfl) ?_
      exact k_iretW hx hb hr hlocks (by rw [outG, outS, if_pos hc0, if_pos hc0, ← hr2, show r.toInt64 = (1 : Int64) from by rw [k_is1 hr2 hb0]; rfl]; exact hP) hS (by unfold outC; rw [hc0]) dL_isOf_25
set_option maxHeartbeats 4000000 in
set_option maxRecDepth 100000 in
theorem c_L_billed (l : Launch) (hl0 : l.stackTraces = false) (D : va_G) (q : Nat → ClassId) (A : Nat → Prop) (a : Nat → Nat) (S : Nat → Nat → Int32) (cap nl o : Nat) (g : Nat → Int64) (y : Int32) (hnl : nl ≤ cap ∧ cap ≤ 40 ∧ nl ≤ 30) : Met l yL_billed wsL_billed ({ frames := 8, cells := 1, slots := 6, locals := 242 } : Room) (va_Pc [.ref (a 0), .int y, .ref o] (kBL D q A (fun H => kW D A (wO q o g (wC q a S cap nl)) H))) (kRi D A (outC (coLs S 37 nl y)) (wO q o (outG g (coLs S 37 nl y)) (wC q a (outS S (coLs S 37 nl y)) cap nl))) 1 6 A := by
  refine va_MetW (cc := cL_billed) (maxL := 4) (ret := some .int) (hh := [(0, 9, 12, 13)]) (by decide) rfl ?_
  intro p e u m args below meth c s₁ B hml0 hv
  obtain ⟨rfl, ⟨hP, hK, hX⟩, hA⟩ := hv
  have C0 : kAt p u m #[.ref (a 0), .int y, .ref o] meth c cL_billed 4 (some .int) RL wsL_billed := kAt_of B hml0
  obtain ⟨hx, hb, hr, hml, hown, hts, hlocks⟩ := id C0
  have htab := vx_table (x := yL_billed) B (hts (.codeWith yL_billed cL_billed 4 (some .int) [(0, 9, 12, 13)]) List.mem_cons_self)
  have hS : va_S A u.heap u.heap [] := va_S.rf
  have hl := lv_entry ([.ref (a 0), .int y, .ref o]) (n := 4) (Nat.le_of_ble_eq_true rfl)
  rw [lg_entry_eq]
  generalize (lg_sl ([.ref (a 0), .int y, .ref o]) ++ List.replicate (4 - (lg_sl ([.ref (a 0), .int y, .ref o])).length) Slot.unset).toArray = ls at hl ⊢
  have hl : lv_has ls 4 [(0, .ref (a 0)), (1, .int y), (2, .ref o)] := hl
  refine lv_aload_n hx hb dL_billed_0 rfl (lv_at hl 2 rfl) ?_
  refine lv_iconst (v := nI 0) hx hb dL_billed_1 (by decide) ?_
  refine lv_aload_n hx hb dL_billed_2 rfl (lv_at hl 0 rfl) ?_
  refine lv_iload_n hx hb dL_billed_3 rfl (lv_at hl 1 rfl) ?_
  refine k_goLi (H0 := u.heap) hP hA hS (vx_runV (rest := [.int (nI 0), .ref o]) ⟨hx, hb, hml, hown, hts⟩ (c_X4_billed l hl0 D q (va_A (wC q a S cap nl) u.heap.size) a S cap nl y hnl) (cwV 1 hts gL_billed_X4_billed rfl rfl rfl (by decide +kernel) ⟨Nat.le_of_ble_eq_true rfl, Nat.le_of_ble_eq_true rfl⟩) ⟨kBX_blind, (va_recv hK.1 hP.1 (ci := 5) (q0 := 1) rfl rfl), fun U hU hW => ⟨rfl, by rw [hU]; exact kW_cut hP, hK.warm hW, (hX.at hS hU hW).narrow (kW_sub hP hA)⟩⟩ rfl rfl hl.1 rfl (lv_room (Nat.le_of_ble_eq_true rfl)) dL_billed_4 ⟨Nat.le_of_ble_eq_true rfl, Nat.le_of_ble_eq_true rfl⟩) (fun E ce q9 H locs hE hP hS h1 h2 h3 => ?_) (fun r H locs hr1 hP hS => ?_)
  · obtain ⟨i, hi, hco⟩ := hE
    rcases i with _ | i
    · cases hi
      refine vx_catch (name := eI) hown [] ⟨0, 9, 12, 13⟩ [] htab (fun z hz => by cases hz) (by decide) (by decide) (hts _ (by decide +kernel)) (va_Nw.use rfl hX.2.2.2.2.2.2.1.1) h1 h2 h3 ?_
      refine lv_astore_n (lv' := [(3, .ref q9), (0, .ref (a 0)), (1, .int y), (2, .ref o)]) hx hb dL_billed_12 rfl hl (by decide) rfl (fun ls hl => ?_)
      refine lv_iconst (v := nI 1) hx hb dL_billed_13 (by decide) ?_
      have hz : ¬ (coLs S 37 nl y).1 = nI 0 := by rw [hco]; decide
      refine W.widen (k := 1) (n := 6) (Nat.le_of_ble_eq_true rfl) (Nat.le_of_ble_eq_true rfl) ?_
      exact k_iretW hx hb hr hlocks (by rw [outG, outS, if_neg hz, if_neg hz]; exact hP) hS (by unfold outC; rw [hco]) dL_billed_14
    · skip
      exact absurd hi (by simp)
  · obtain ⟨hc0, hr2⟩ := hr1
    refine lv_i2l hx hb dL_billed_7 rfl ?_
    refine k_lastO hx hb hK (g := g) (x := r.toInt64) hP hS dL_billed_8 (fun H locs hP hS => ?_)
    refine lv_goto (tgt := 15) hx hb dL_billed_9 (by decide) ?_
    refine lv_iconst (v := nI 0) hx hb dL_billed_15 (by decide) ?_
    refine W.widen (k := 1) (n := 6) (Nat.le_of_ble_eq_true rfl) (Nat.le_of_ble_eq_true rfl) ?_
    exact k_iretW hx hb hr hlocks (by rw [outG, outS, if_pos hc0, if_pos hc0, ← hr2]; exact hP) hS (by unfold outC; rw [hc0]) dL_billed_16
set_option maxHeartbeats 4000000 in
set_option maxRecDepth 100000 in
theorem c_L_billedAnew (l : Launch) (hl0 : l.stackTraces = false) (D : va_G) (q : Nat → ClassId) (A : Nat → Prop) (a : Nat → Nat) (S : Nat → Nat → Int32) (cap nl o : Nat) (g : Nat → Int64) (y : Int32) (n w0 : Nat) (hn : S 0 1 = nI n) (hn60 : n ≤ 60) (hnl : nl ≤ cap ∧ cap ≤ 40 ∧ nl ≤ 30) (hnow : S 0 0 = nI w0) (hw200 : w0 ≤ 200) (hoc : okC S nl) : Met l yL_billedAnew wsL_billedAnew ({ frames := 8, cells := 1, slots := 6, locals := 245 } : Room) (va_Pc [.ref (a 0), .int y, .ref o] (kBL D q A (fun H => kW D A (wO q o g (wC q a S cap nl)) H))) (kRi D A (outC (coBilledAnew S n w0 nl y)) (wO q o (outG g (coBilledAnew S n w0 nl y)) (wC q a (outS S (coBilledAnew S n w0 nl y)) cap nl))) 1 6 A := by
  refine va_MetW (cc := cL_billedAnew) (maxL := 4) (ret := some .int) (hh := [(0, 9, 12, 13)]) (by decide) rfl ?_
  intro p e u m args below meth c s₁ B hml0 hv
  obtain ⟨rfl, ⟨hP, hK, hX⟩, hA⟩ := hv
  have C0 : kAt p u m #[.ref (a 0), .int y, .ref o] meth c cL_billedAnew 4 (some .int) RL wsL_billedAnew := kAt_of B hml0
  obtain ⟨hx, hb, hr, hml, hown, hts, hlocks⟩ := id C0
  have htab := vx_table (x := yL_billedAnew) B (hts (.codeWith yL_billedAnew cL_billedAnew 4 (some .int) [(0, 9, 12, 13)]) List.mem_cons_self)
  have hS : va_S A u.heap u.heap [] := va_S.rf
  have hl := lv_entry ([.ref (a 0), .int y, .ref o]) (n := 4) (Nat.le_of_ble_eq_true rfl)
  rw [lg_entry_eq]
  generalize (lg_sl ([.ref (a 0), .int y, .ref o]) ++ List.replicate (4 - (lg_sl ([.ref (a 0), .int y, .ref o])).length) Slot.unset).toArray = ls at hl ⊢
  have hl : lv_has ls 4 [(0, .ref (a 0)), (1, .int y), (2, .ref o)] := hl
  refine lv_aload_n hx hb dL_billedAnew_0 rfl (lv_at hl 2 rfl) ?_
  refine lv_iconst (v := nI 0) hx hb dL_billedAnew_1 (by decide) ?_
  refine lv_aload_n hx hb dL_billedAnew_2 rfl (lv_at hl 0 rfl) ?_
  refine lv_iload_n hx hb dL_billedAnew_3 rfl (lv_at hl 1 rfl) ?_
  refine k_goLi (H0 := u.heap) hP hA hS (vx_runV (rest := [.int (nI 0), .ref o]) ⟨hx, hb, hml, hown, hts⟩ (c_X4_billedAnew l hl0 D q (va_A (wC q a S cap nl) u.heap.size) a S cap nl y n w0 hn hn60 hnl hnow hw200 hoc) (cwV 1 hts gL_billedAnew_X4_billedAnew rfl rfl rfl (by decide +kernel) ⟨Nat.le_of_ble_eq_true rfl, Nat.le_of_ble_eq_true rfl⟩) ⟨kBX_blind, (va_recv hK.1 hP.1 (ci := 5) (q0 := 1) rfl rfl), fun U hU hW => ⟨rfl, by rw [hU]; exact kW_cut hP, hK.warm hW, (hX.at hS hU hW).narrow (kW_sub hP hA)⟩⟩ rfl rfl hl.1 rfl (lv_room (Nat.le_of_ble_eq_true rfl)) dL_billedAnew_4 ⟨Nat.le_of_ble_eq_true rfl, Nat.le_of_ble_eq_true rfl⟩) (fun E ce q9 H locs hE hP hS h1 h2 h3 => ?_) (fun r H locs hr1 hP hS => ?_)
  · obtain ⟨i, hi, hco⟩ := hE
    rcases i with _ | i
    · cases hi
      refine vx_catch (name := eI) hown [] ⟨0, 9, 12, 13⟩ [] htab (fun z hz => by cases hz) (by decide) (by decide) (hts _ (by decide +kernel)) (va_Nw.use rfl hX.2.2.2.2.2.2.1.1) h1 h2 h3 ?_
      refine lv_astore_n (lv' := [(3, .ref q9), (0, .ref (a 0)), (1, .int y), (2, .ref o)]) hx hb dL_billedAnew_12 rfl hl (by decide) rfl (fun ls hl => ?_)
      refine lv_iconst (v := nI 1) hx hb dL_billedAnew_13 (by decide) ?_
      have hz : ¬ (coBilledAnew S n w0 nl y).1 = nI 0 := by rw [hco]; decide
      refine W.widen (k := 1) (n := 6) (Nat.le_of_ble_eq_true rfl) (Nat.le_of_ble_eq_true rfl) ?_
      exact k_iretW hx hb hr hlocks (by rw [outG, outS, if_neg hz, if_neg hz]; exact hP) hS (by unfold outC; rw [hco]) dL_billedAnew_14
    · skip
      exact absurd hi (by simp)
  · obtain ⟨hc0, hr2⟩ := hr1
    refine lv_i2l hx hb dL_billedAnew_7 rfl ?_
    refine k_lastO hx hb hK (g := g) (x := r.toInt64) hP hS dL_billedAnew_8 (fun H locs hP hS => ?_)
    refine lv_goto (tgt := 15) hx hb dL_billedAnew_9 (by decide) ?_
    refine lv_iconst (v := nI 0) hx hb dL_billedAnew_15 (by decide) ?_
    refine W.widen (k := 1) (n := 6) (Nat.le_of_ble_eq_true rfl) (Nat.le_of_ble_eq_true rfl) ?_
    exact k_iretW hx hb hr hlocks (by rw [outG, outS, if_pos hc0, if_pos hc0, ← hr2]; exact hP) hS (by unfold outC; rw [hc0]) dL_billedAnew_16
set_option maxHeartbeats 4000000 in
set_option maxRecDepth 100000 in
theorem c_L_corrected (l : Launch) (hl0 : l.stackTraces = false) (D : va_G) (q : Nat → ClassId) (A : Nat → Prop) (a : Nat → Nat) (S : Nat → Nat → Int32) (cap nl o : Nat) (g : Nat → Int64) (y : Int32) (hnl : nl ≤ cap ∧ cap ≤ 40 ∧ nl ≤ 30) : Met l yL_corrected wsL_corrected ({ frames := 8, cells := 1, slots := 6, locals := 242 } : Room) (va_Pc [.ref (a 0), .int y, .ref o] (kBL D q A (fun H => kW D A (wO q o g (wC q a S cap nl)) H))) (kRi D A (outC (coLs S 38 nl y)) (wO q o (outG g (coLs S 38 nl y)) (wC q a (outS S (coLs S 38 nl y)) cap nl))) 1 6 A := by
  refine va_MetW (cc := cL_corrected) (maxL := 4) (ret := some .int) (hh := [(0, 9, 12, 13)]) (by decide) rfl ?_
  intro p e u m args below meth c s₁ B hml0 hv
  obtain ⟨rfl, ⟨hP, hK, hX⟩, hA⟩ := hv
  have C0 : kAt p u m #[.ref (a 0), .int y, .ref o] meth c cL_corrected 4 (some .int) RL wsL_corrected := kAt_of B hml0
  obtain ⟨hx, hb, hr, hml, hown, hts, hlocks⟩ := id C0
  have htab := vx_table (x := yL_corrected) B (hts (.codeWith yL_corrected cL_corrected 4 (some .int) [(0, 9, 12, 13)]) List.mem_cons_self)
  have hS : va_S A u.heap u.heap [] := va_S.rf
  have hl := lv_entry ([.ref (a 0), .int y, .ref o]) (n := 4) (Nat.le_of_ble_eq_true rfl)
  rw [lg_entry_eq]
  generalize (lg_sl ([.ref (a 0), .int y, .ref o]) ++ List.replicate (4 - (lg_sl ([.ref (a 0), .int y, .ref o])).length) Slot.unset).toArray = ls at hl ⊢
  have hl : lv_has ls 4 [(0, .ref (a 0)), (1, .int y), (2, .ref o)] := hl
  refine lv_aload_n hx hb dL_corrected_0 rfl (lv_at hl 2 rfl) ?_
  refine lv_iconst (v := nI 0) hx hb dL_corrected_1 (by decide) ?_
  refine lv_aload_n hx hb dL_corrected_2 rfl (lv_at hl 0 rfl) ?_
  refine lv_iload_n hx hb dL_corrected_3 rfl (lv_at hl 1 rfl) ?_
  refine k_goLi (H0 := u.heap) hP hA hS (vx_runV (rest := [.int (nI 0), .ref o]) ⟨hx, hb, hml, hown, hts⟩ (c_X4_corrected l hl0 D q (va_A (wC q a S cap nl) u.heap.size) a S cap nl y hnl) (cwV 1 hts gL_corrected_X4_corrected rfl rfl rfl (by decide +kernel) ⟨Nat.le_of_ble_eq_true rfl, Nat.le_of_ble_eq_true rfl⟩) ⟨kBX_blind, (va_recv hK.1 hP.1 (ci := 5) (q0 := 1) rfl rfl), fun U hU hW => ⟨rfl, by rw [hU]; exact kW_cut hP, hK.warm hW, (hX.at hS hU hW).narrow (kW_sub hP hA)⟩⟩ rfl rfl hl.1 rfl (lv_room (Nat.le_of_ble_eq_true rfl)) dL_corrected_4 ⟨Nat.le_of_ble_eq_true rfl, Nat.le_of_ble_eq_true rfl⟩) (fun E ce q9 H locs hE hP hS h1 h2 h3 => ?_) (fun r H locs hr1 hP hS => ?_)
  · obtain ⟨i, hi, hco⟩ := hE
    rcases i with _ | i
    · cases hi
      refine vx_catch (name := eI) hown [] ⟨0, 9, 12, 13⟩ [] htab (fun z hz => by cases hz) (by decide) (by decide) (hts _ (by decide +kernel)) (va_Nw.use rfl hX.2.2.2.2.2.2.1.1) h1 h2 h3 ?_
      refine lv_astore_n (lv' := [(3, .ref q9), (0, .ref (a 0)), (1, .int y), (2, .ref o)]) hx hb dL_corrected_12 rfl hl (by decide) rfl (fun ls hl => ?_)
      refine lv_iconst (v := nI 1) hx hb dL_corrected_13 (by decide) ?_
      have hz : ¬ (coLs S 38 nl y).1 = nI 0 := by rw [hco]; decide
      refine W.widen (k := 1) (n := 6) (Nat.le_of_ble_eq_true rfl) (Nat.le_of_ble_eq_true rfl) ?_
      exact k_iretW hx hb hr hlocks (by rw [outG, outS, if_neg hz, if_neg hz]; exact hP) hS (by unfold outC; rw [hco]) dL_corrected_14
    · skip
      exact absurd hi (by simp)
  · obtain ⟨hc0, hr2⟩ := hr1
    refine lv_i2l hx hb dL_corrected_7 rfl ?_
    refine k_lastO hx hb hK (g := g) (x := r.toInt64) hP hS dL_corrected_8 (fun H locs hP hS => ?_)
    refine lv_goto (tgt := 15) hx hb dL_corrected_9 (by decide) ?_
    refine lv_iconst (v := nI 0) hx hb dL_corrected_15 (by decide) ?_
    refine W.widen (k := 1) (n := 6) (Nat.le_of_ble_eq_true rfl) (Nat.le_of_ble_eq_true rfl) ?_
    exact k_iretW hx hb hr hlocks (by rw [outG, outS, if_pos hc0, if_pos hc0, ← hr2]; exact hP) hS (by unfold outC; rw [hc0]) dL_corrected_16
set_option maxHeartbeats 4000000 in
set_option maxRecDepth 100000 in
theorem c_L_owes (l : Launch) (hl0 : l.stackTraces = false) (D : va_G) (q : Nat → ClassId) (A : Nat → Prop) (a : Nat → Nat) (S : Nat → Nat → Int32) (cap nl o : Nat) (g : Nat → Int64) (who : Int32) (hnl : nl ≤ cap ∧ cap ≤ 40 ∧ nl ≤ 30) : Met l yL_owes wsL_owes ({ frames := 8, cells := 1, slots := 6, locals := 242 } : Room) (va_Pc [.ref (a 0), .int who, .ref o] (kBL D q A (fun H => kW D A (wO q o g (wC q a S cap nl)) H))) (kRi D A (outC (coOwes S nl who)) (wO q o (outG g (coOwes S nl who)) (wC q a (outS S (coOwes S nl who)) cap nl))) 1 6 A := by
  refine va_MetW (cc := cL_owes) (maxL := 4) (ret := some .int) (hh := [(0, 9, 12, 13)]) (by decide) rfl ?_
  intro p e u m args below meth c s₁ B hml0 hv
  obtain ⟨rfl, ⟨hP, hK, hX⟩, hA⟩ := hv
  have C0 : kAt p u m #[.ref (a 0), .int who, .ref o] meth c cL_owes 4 (some .int) RL wsL_owes := kAt_of B hml0
  obtain ⟨hx, hb, hr, hml, hown, hts, hlocks⟩ := id C0
  have htab := vx_table (x := yL_owes) B (hts (.codeWith yL_owes cL_owes 4 (some .int) [(0, 9, 12, 13)]) List.mem_cons_self)
  have hS : va_S A u.heap u.heap [] := va_S.rf
  have hl := lv_entry ([.ref (a 0), .int who, .ref o]) (n := 4) (Nat.le_of_ble_eq_true rfl)
  rw [lg_entry_eq]
  generalize (lg_sl ([.ref (a 0), .int who, .ref o]) ++ List.replicate (4 - (lg_sl ([.ref (a 0), .int who, .ref o])).length) Slot.unset).toArray = ls at hl ⊢
  have hl : lv_has ls 4 [(0, .ref (a 0)), (1, .int who), (2, .ref o)] := hl
  refine lv_aload_n hx hb dL_owes_0 rfl (lv_at hl 2 rfl) ?_
  refine lv_iconst (v := nI 0) hx hb dL_owes_1 (by decide) ?_
  refine lv_aload_n hx hb dL_owes_2 rfl (lv_at hl 0 rfl) ?_
  refine lv_iload_n hx hb dL_owes_3 rfl (lv_at hl 1 rfl) ?_
  refine k_goLi (H0 := u.heap) hP hA hS (vx_runV (rest := [.int (nI 0), .ref o]) ⟨hx, hb, hml, hown, hts⟩ (c_X4_owes l hl0 D q (va_A (wC q a S cap nl) u.heap.size) a S cap nl who hnl) (cwV 1 hts gL_owes_X4_owes rfl rfl rfl (by decide +kernel) ⟨Nat.le_of_ble_eq_true rfl, Nat.le_of_ble_eq_true rfl⟩) ⟨kBX_blind, (va_recv hK.1 hP.1 (ci := 5) (q0 := 1) rfl rfl), fun U hU hW => ⟨rfl, by rw [hU]; exact kW_cut hP, hK.warm hW, (hX.at hS hU hW).narrow (kW_sub hP hA)⟩⟩ rfl rfl hl.1 rfl (lv_room (Nat.le_of_ble_eq_true rfl)) dL_owes_4 ⟨Nat.le_of_ble_eq_true rfl, Nat.le_of_ble_eq_true rfl⟩) (fun E ce q9 H locs hE hP hS h1 h2 h3 => ?_) (fun r H locs hr1 hP hS => ?_)
  · obtain ⟨i, hi, hco⟩ := hE
    rcases i with _ | i
    · cases hi
      refine vx_catch (name := eI) hown [] ⟨0, 9, 12, 13⟩ [] htab (fun z hz => by cases hz) (by decide) (by decide) (hts _ (by decide +kernel)) (va_Nw.use rfl hX.2.2.2.2.2.2.1.1) h1 h2 h3 ?_
      refine lv_astore_n (lv' := [(3, .ref q9), (0, .ref (a 0)), (1, .int who), (2, .ref o)]) hx hb dL_owes_12 rfl hl (by decide) rfl (fun ls hl => ?_)
      refine lv_iconst (v := nI 1) hx hb dL_owes_13 (by decide) ?_
      have hz : ¬ (coOwes S nl who).1 = nI 0 := by rw [hco]; decide
      refine W.widen (k := 1) (n := 6) (Nat.le_of_ble_eq_true rfl) (Nat.le_of_ble_eq_true rfl) ?_
      exact k_iretW hx hb hr hlocks (by rw [outG, outS, if_neg hz, if_neg hz]; exact hP) hS (by unfold outC; rw [hco]) dL_owes_14
    · skip
      exact absurd hi (by simp)
  · obtain ⟨hc0, hr2⟩ := hr1
    refine lv_i2l hx hb dL_owes_7 rfl ?_
    refine k_lastO hx hb hK (g := g) (x := r.toInt64) hP hS dL_owes_8 (fun H locs hP hS => ?_)
    refine lv_goto (tgt := 15) hx hb dL_owes_9 (by decide) ?_
    refine lv_iconst (v := nI 0) hx hb dL_owes_15 (by decide) ?_
    refine W.widen (k := 1) (n := 6) (Nat.le_of_ble_eq_true rfl) (Nat.le_of_ble_eq_true rfl) ?_
    exact k_iretW hx hb hr hlocks (by rw [outG, outS, if_pos hc0, if_pos hc0, ← hr2]; exact hP) hS (by unfold outC; rw [hc0]) dL_owes_16
set_option maxHeartbeats 4000000 in
set_option maxRecDepth 100000 in
theorem c_L_player (l : Launch) (hl0 : l.stackTraces = false) (D : va_G) (q : Nat → ClassId) (A : Nat → Prop) (a : Nat → Nat) (S : Nat → Nat → Int32) (cap nl o : Nat) (g : Nat → Int64) (s h : Int32) (w0 : Nat) (hnow : S 0 0 = nI w0) (hw200 : w0 ≤ 200) : Met l yL_player wsL_player ({ frames := 10, cells := 2, slots := 12, locals := 287 } : Room) (va_Pc [.ref (a 0), .int s, .int h, .ref o] (kBL D q A (fun H => kW D A (wO q o g (wC q a S cap nl)) H))) (kRi D A (outC (coRow S 24 s h)) (wO q o (outG g (coRow S 24 s h)) (wC q a (outS S (coRow S 24 s h)) cap nl))) 2 12 A := by
  refine va_MetW (cc := cL_player) (maxL := 5) (ret := some .int) (hh := [(0, 10, 13, 13), (0, 10, 17, 15)]) (by decide) rfl ?_
  intro p e u m args below meth c s₁ B hml0 hv
  obtain ⟨rfl, ⟨hP, hK, hX⟩, hA⟩ := hv
  have C0 : kAt p u m #[.ref (a 0), .int s, .int h, .ref o] meth c cL_player 5 (some .int) RL wsL_player := kAt_of B hml0
  obtain ⟨hx, hb, hr, hml, hown, hts, hlocks⟩ := id C0
  have htab := vx_table (x := yL_player) B (hts (.codeWith yL_player cL_player 5 (some .int) [(0, 10, 13, 13), (0, 10, 17, 15)]) List.mem_cons_self)
  have hS : va_S A u.heap u.heap [] := va_S.rf
  have hl := lv_entry ([.ref (a 0), .int s, .int h, .ref o]) (n := 5) (Nat.le_of_ble_eq_true rfl)
  rw [lg_entry_eq]
  generalize (lg_sl ([.ref (a 0), .int s, .int h, .ref o]) ++ List.replicate (5 - (lg_sl ([.ref (a 0), .int s, .int h, .ref o])).length) Slot.unset).toArray = ls at hl ⊢
  have hl : lv_has ls 5 [(0, .ref (a 0)), (1, .int s), (2, .int h), (3, .ref o)] := hl
  refine lv_aload_n hx hb dL_player_0 rfl (lv_at hl 3 rfl) ?_
  refine lv_iconst (v := nI 0) hx hb dL_player_1 (by decide) ?_
  refine lv_aload_n hx hb dL_player_2 rfl (lv_at hl 0 rfl) ?_
  refine lv_iload_n hx hb dL_player_3 rfl (lv_at hl 1 rfl) ?_
  refine lv_iload_n hx hb dL_player_4 rfl (lv_at hl 2 rfl) ?_
  refine k_goLi (H0 := u.heap) hP hA hS (vx_runV (rest := [.int (nI 0), .ref o]) ⟨hx, hb, hml, hown, hts⟩ (c_X4_player l hl0 D q (va_A (wC q a S cap nl) u.heap.size) a S cap nl s h w0 hnow hw200) (cwV 2 hts gL_player_X4_player rfl rfl rfl (by decide +kernel) ⟨Nat.le_of_ble_eq_true rfl, Nat.le_of_ble_eq_true rfl⟩) ⟨kBX_blind, (va_recv hK.1 hP.1 (ci := 5) (q0 := 1) rfl rfl), fun U hU hW => ⟨rfl, by rw [hU]; exact kW_cut hP, hK.warm hW, (hX.at hS hU hW).narrow (kW_sub hP hA)⟩⟩ rfl rfl hl.1 rfl (lv_room (Nat.le_of_ble_eq_true rfl)) dL_player_5 ⟨Nat.le_of_ble_eq_true rfl, Nat.le_of_ble_eq_true rfl⟩) (fun E ce q9 H locs hE hP hS h1 h2 h3 => ?_) (fun r H locs hr1 hP hS => ?_)
  · obtain ⟨i, hi, hco⟩ := hE
    rcases i with _ | i
    · cases hi
      refine vx_catch (name := eI) hown [] ⟨0, 10, 13, 13⟩ [⟨0, 10, 17, 15⟩] htab (fun z hz => by cases hz) (by decide) (by decide) (hts _ (by decide +kernel)) (va_Nw.use rfl hX.2.2.2.2.2.2.1.1) h1 h2 h3 ?_
      refine lv_astore (lv' := [(4, .ref q9), (0, .ref (a 0)), (1, .int s), (2, .int h), (3, .ref o)]) hx hb dL_player_13 hl (by decide) rfl (fun ls hl => ?_)
      refine lv_iconst (v := nI 1) hx hb dL_player_15 (by decide) ?_
      have hz : ¬ (coRow S 24 s h).1 = nI 0 := by rw [hco]; decide
      refine W.widen (k := 2) (n := 12) (Nat.le_of_ble_eq_true rfl) (Nat.le_of_ble_eq_true rfl) ?_
      exact k_iretW hx hb hr hlocks (by rw [outG, outS, if_neg hz, if_neg hz]; exact hP) hS (by unfold outC; rw [hco]) dL_player_16
    · skip
      rcases i with _ | i
      · cases hi
        refine vx_catch (name := eA) hown [⟨0, 10, 13, 13⟩] ⟨0, 10, 17, 15⟩ [] htab (fun z hz => by cases List.mem_singleton.mp hz; exact Or.inr ⟨by decide, eI, hts _ (by decide +kernel), hX.2.2.2.2.2.2.2.1⟩) (by decide) (by decide) (hts _ (by decide +kernel)) (va_Nw.use rfl hX.2.2.2.2.2.2.1.2.1) h1 h2 h3 ?_
        refine lv_astore (lv' := [(4, .ref q9), (0, .ref (a 0)), (1, .int s), (2, .int h), (3, .ref o)]) hx hb dL_player_17 hl (by decide) rfl (fun ls hl => ?_)
        refine lv_iconst (v := nI 2) hx hb dL_player_19 (by decide) ?_
        have hz : ¬ (coRow S 24 s h).1 = nI 0 := by rw [hco]; decide
        refine W.widen (k := 2) (n := 12) (Nat.le_of_ble_eq_true rfl) (Nat.le_of_ble_eq_true rfl) ?_
        exact k_iretW hx hb hr hlocks (by rw [outG, outS, if_neg hz, if_neg hz]; exact hP) hS (by unfold outC; rw [hco]) dL_player_20
      · skip
        exact absurd hi (by simp)
  · obtain ⟨hc0, hr2⟩ := hr1
    refine lv_i2l hx hb dL_player_8 rfl ?_
    refine k_lastO hx hb hK (g := g) (x := r.toInt64) hP hS dL_player_9 (fun H locs hP hS => ?_)
    refine lv_goto (tgt := 21) hx hb dL_player_10 (by decide) ?_
    refine lv_iconst (v := nI 0) hx hb dL_player_21 (by decide) ?_
    refine W.widen (k := 2) (n := 12) (Nat.le_of_ble_eq_true rfl) (Nat.le_of_ble_eq_true rfl) ?_
    exact k_iretW hx hb hr hlocks (by rw [outG, outS, if_pos hc0, if_pos hc0, ← hr2]; exact hP) hS (by unfold outC; rw [hc0]) dL_player_22
set_option maxHeartbeats 4000000 in
set_option maxRecDepth 100000 in
theorem c_L_played (l : Launch) (hl0 : l.stackTraces = false) (D : va_G) (q : Nat → ClassId) (A : Nat → Prop) (a : Nat → Nat) (S : Nat → Nat → Int32) (cap nl o : Nat) (g : Nat → Int64) (b : Int32) : Met l yL_played wsL_played ({ frames := 8, cells := 1, slots := 6, locals := 242 } : Room) (va_Pc [.ref (a 0), .int b, .ref o] (kBL D q A (fun H => kW D A (wO q o g (wC q a S cap nl)) H))) (kRi D A (outC (coBusker S 19 b)) (wO q o (outG g (coBusker S 19 b)) (wC q a (outS S (coBusker S 19 b)) cap nl))) 1 6 A := by
  refine va_MetW (cc := cL_played) (maxL := 4) (ret := some .int) (hh := [(0, 9, 12, 13)]) (by decide) rfl ?_
  intro p e u m args below meth c s₁ B hml0 hv
  obtain ⟨rfl, ⟨hP, hK, hX⟩, hA⟩ := hv
  have C0 : kAt p u m #[.ref (a 0), .int b, .ref o] meth c cL_played 4 (some .int) RL wsL_played := kAt_of B hml0
  obtain ⟨hx, hb, hr, hml, hown, hts, hlocks⟩ := id C0
  have htab := vx_table (x := yL_played) B (hts (.codeWith yL_played cL_played 4 (some .int) [(0, 9, 12, 13)]) List.mem_cons_self)
  have hS : va_S A u.heap u.heap [] := va_S.rf
  have hl := lv_entry ([.ref (a 0), .int b, .ref o]) (n := 4) (Nat.le_of_ble_eq_true rfl)
  rw [lg_entry_eq]
  generalize (lg_sl ([.ref (a 0), .int b, .ref o]) ++ List.replicate (4 - (lg_sl ([.ref (a 0), .int b, .ref o])).length) Slot.unset).toArray = ls at hl ⊢
  have hl : lv_has ls 4 [(0, .ref (a 0)), (1, .int b), (2, .ref o)] := hl
  refine lv_aload_n hx hb dL_played_0 rfl (lv_at hl 2 rfl) ?_
  refine lv_iconst (v := nI 0) hx hb dL_played_1 (by decide) ?_
  refine lv_aload_n hx hb dL_played_2 rfl (lv_at hl 0 rfl) ?_
  refine lv_iload_n hx hb dL_played_3 rfl (lv_at hl 1 rfl) ?_
  refine k_goLi (H0 := u.heap) hP hA hS (vx_runV (rest := [.int (nI 0), .ref o]) ⟨hx, hb, hml, hown, hts⟩ (c_X4_played l hl0 D q (va_A (wC q a S cap nl) u.heap.size) a S cap nl b) (cwV 1 hts gL_played_X4_played rfl rfl rfl (by decide +kernel) ⟨Nat.le_of_ble_eq_true rfl, Nat.le_of_ble_eq_true rfl⟩) ⟨kBX_blind, (va_recv hK.1 hP.1 (ci := 5) (q0 := 1) rfl rfl), fun U hU hW => ⟨rfl, by rw [hU]; exact kW_cut hP, hK.warm hW, (hX.at hS hU hW).narrow (kW_sub hP hA)⟩⟩ rfl rfl hl.1 rfl (lv_room (Nat.le_of_ble_eq_true rfl)) dL_played_4 ⟨Nat.le_of_ble_eq_true rfl, Nat.le_of_ble_eq_true rfl⟩) (fun E ce q9 H locs hE hP hS h1 h2 h3 => ?_) (fun r H locs hr1 hP hS => ?_)
  · obtain ⟨i, hi, hco⟩ := hE
    rcases i with _ | i
    · cases hi
      refine vx_catch (name := eI) hown [] ⟨0, 9, 12, 13⟩ [] htab (fun z hz => by cases hz) (by decide) (by decide) (hts _ (by decide +kernel)) (va_Nw.use rfl hX.2.2.2.2.2.2.1.1) h1 h2 h3 ?_
      refine lv_astore_n (lv' := [(3, .ref q9), (0, .ref (a 0)), (1, .int b), (2, .ref o)]) hx hb dL_played_12 rfl hl (by decide) rfl (fun ls hl => ?_)
      refine lv_iconst (v := nI 1) hx hb dL_played_13 (by decide) ?_
      have hz : ¬ (coBusker S 19 b).1 = nI 0 := by rw [hco]; decide
      refine W.widen (k := 1) (n := 6) (Nat.le_of_ble_eq_true rfl) (Nat.le_of_ble_eq_true rfl) ?_
      exact k_iretW hx hb hr hlocks (by rw [outG, outS, if_neg hz, if_neg hz]; exact hP) hS (by unfold outC; rw [hco]) dL_played_14
    · skip
      exact absurd hi (by simp)
  · obtain ⟨hc0, hr2⟩ := hr1
    refine lv_i2l hx hb dL_played_7 rfl ?_
    refine k_lastO hx hb hK (g := g) (x := r.toInt64) hP hS dL_played_8 (fun H locs hP hS => ?_)
    refine lv_goto (tgt := 15) hx hb dL_played_9 (by decide) ?_
    refine lv_iconst (v := nI 0) hx hb dL_played_15 (by decide) ?_
    refine W.widen (k := 1) (n := 6) (Nat.le_of_ble_eq_true rfl) (Nat.le_of_ble_eq_true rfl) ?_
    exact k_iretW hx hb hr hlocks (by rw [outG, outS, if_pos hc0, if_pos hc0, ← hr2]; exact hP) hS (by unfold outC; rw [hc0]) dL_played_16
set_option maxHeartbeats 4000000 in
set_option maxRecDepth 100000 in
theorem c_L_coins (l : Launch) (hl0 : l.stackTraces = false) (D : va_G) (q : Nat → ClassId) (A : Nat → Prop) (a : Nat → Nat) (S : Nat → Nat → Int32) (cap nl o : Nat) (g : Nat → Int64) (b : Int32) : Met l yL_coins wsL_coins ({ frames := 8, cells := 1, slots := 6, locals := 242 } : Room) (va_Pc [.ref (a 0), .int b, .ref o] (kBL D q A (fun H => kW D A (wO q o g (wC q a S cap nl)) H))) (kRi D A (outC (coBusker S 20 b)) (wO q o (outG g (coBusker S 20 b)) (wC q a (outS S (coBusker S 20 b)) cap nl))) 1 6 A := by
  refine va_MetW (cc := cL_coins) (maxL := 4) (ret := some .int) (hh := [(0, 9, 12, 13)]) (by decide) rfl ?_
  intro p e u m args below meth c s₁ B hml0 hv
  obtain ⟨rfl, ⟨hP, hK, hX⟩, hA⟩ := hv
  have C0 : kAt p u m #[.ref (a 0), .int b, .ref o] meth c cL_coins 4 (some .int) RL wsL_coins := kAt_of B hml0
  obtain ⟨hx, hb, hr, hml, hown, hts, hlocks⟩ := id C0
  have htab := vx_table (x := yL_coins) B (hts (.codeWith yL_coins cL_coins 4 (some .int) [(0, 9, 12, 13)]) List.mem_cons_self)
  have hS : va_S A u.heap u.heap [] := va_S.rf
  have hl := lv_entry ([.ref (a 0), .int b, .ref o]) (n := 4) (Nat.le_of_ble_eq_true rfl)
  rw [lg_entry_eq]
  generalize (lg_sl ([.ref (a 0), .int b, .ref o]) ++ List.replicate (4 - (lg_sl ([.ref (a 0), .int b, .ref o])).length) Slot.unset).toArray = ls at hl ⊢
  have hl : lv_has ls 4 [(0, .ref (a 0)), (1, .int b), (2, .ref o)] := hl
  refine lv_aload_n hx hb dL_coins_0 rfl (lv_at hl 2 rfl) ?_
  refine lv_iconst (v := nI 0) hx hb dL_coins_1 (by decide) ?_
  refine lv_aload_n hx hb dL_coins_2 rfl (lv_at hl 0 rfl) ?_
  refine lv_iload_n hx hb dL_coins_3 rfl (lv_at hl 1 rfl) ?_
  refine k_goLi (H0 := u.heap) hP hA hS (vx_runV (rest := [.int (nI 0), .ref o]) ⟨hx, hb, hml, hown, hts⟩ (c_X4_coins l hl0 D q (va_A (wC q a S cap nl) u.heap.size) a S cap nl b) (cwV 1 hts gL_coins_X4_coins rfl rfl rfl (by decide +kernel) ⟨Nat.le_of_ble_eq_true rfl, Nat.le_of_ble_eq_true rfl⟩) ⟨kBX_blind, (va_recv hK.1 hP.1 (ci := 5) (q0 := 1) rfl rfl), fun U hU hW => ⟨rfl, by rw [hU]; exact kW_cut hP, hK.warm hW, (hX.at hS hU hW).narrow (kW_sub hP hA)⟩⟩ rfl rfl hl.1 rfl (lv_room (Nat.le_of_ble_eq_true rfl)) dL_coins_4 ⟨Nat.le_of_ble_eq_true rfl, Nat.le_of_ble_eq_true rfl⟩) (fun E ce q9 H locs hE hP hS h1 h2 h3 => ?_) (fun r H locs hr1 hP hS => ?_)
  · obtain ⟨i, hi, hco⟩ := hE
    rcases i with _ | i
    · cases hi
      refine vx_catch (name := eI) hown [] ⟨0, 9, 12, 13⟩ [] htab (fun z hz => by cases hz) (by decide) (by decide) (hts _ (by decide +kernel)) (va_Nw.use rfl hX.2.2.2.2.2.2.1.1) h1 h2 h3 ?_
      refine lv_astore_n (lv' := [(3, .ref q9), (0, .ref (a 0)), (1, .int b), (2, .ref o)]) hx hb dL_coins_12 rfl hl (by decide) rfl (fun ls hl => ?_)
      refine lv_iconst (v := nI 1) hx hb dL_coins_13 (by decide) ?_
      have hz : ¬ (coBusker S 20 b).1 = nI 0 := by rw [hco]; decide
      refine W.widen (k := 1) (n := 6) (Nat.le_of_ble_eq_true rfl) (Nat.le_of_ble_eq_true rfl) ?_
      exact k_iretW hx hb hr hlocks (by rw [outG, outS, if_neg hz, if_neg hz]; exact hP) hS (by unfold outC; rw [hco]) dL_coins_14
    · skip
      exact absurd hi (by simp)
  · obtain ⟨hc0, hr2⟩ := hr1
    refine lv_i2l hx hb dL_coins_7 rfl ?_
    refine k_lastO hx hb hK (g := g) (x := r.toInt64) hP hS dL_coins_8 (fun H locs hP hS => ?_)
    refine lv_goto (tgt := 15) hx hb dL_coins_9 (by decide) ?_
    refine lv_iconst (v := nI 0) hx hb dL_coins_15 (by decide) ?_
    refine W.widen (k := 1) (n := 6) (Nat.le_of_ble_eq_true rfl) (Nat.le_of_ble_eq_true rfl) ?_
    exact k_iretW hx hb hr hlocks (by rw [outG, outS, if_pos hc0, if_pos hc0, ← hr2]; exact hP) hS (by unfold outC; rw [hc0]) dL_coins_16
