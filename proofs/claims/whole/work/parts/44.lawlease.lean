set_option maxHeartbeats 4000000 in
set_option maxRecDepth 100000 in
theorem c_L_lease (l : Launch) (hl0 : l.stackTraces = false) (D : va_G) (q : Nat → ClassId) (A : Nat → Prop) (a : Nat → Nat) (S : Nat → Nat → Int32) (cap nl o : Nat) (g : Nat → Int64) (d t b r h : Int32) (w0 e0 : Nat) (hnl : nl ≤ cap ∧ cap ≤ 40 ∧ nl ≤ 30) (hnow : S 0 0 = nI w0) (hw200 : w0 ≤ 200) (hg : (cap = 0 ∧ a 26 = e0) ∨ capP cap) : Met l yL_lease wsL_lease ({ frames := 9, cells := 9, slots := 97, locals := 436 } : Room) (va_Pc [.ref (a 0), .int d, .int t, .int b, .int r, .int h, .ref o] (kBLE D q A e0 (fun H => kW D A (wO q o g (wC q a S cap nl)) H))) (kRll D q A a o g S cap nl (coLease S w0 nl d t b r h)) 9 97 A := by
  refine va_MetW (cc := cL_lease) (maxL := 8) (ret := some .int) (hh := [(0, 16, 19, 13), (0, 16, 23, 15), (0, 16, 27, 21)]) (by decide) rfl ?_
  intro p e u m args below meth c s₁ B hml0 hv
  obtain ⟨rfl, ⟨⟨hP, hK, hX⟩, hA⟩, hEE⟩ := hv
  have C0 : kAt p u m #[.ref (a 0), .int d, .int t, .int b, .int r, .int h, .ref o] meth c cL_lease 8 (some .int) RL wsL_lease := kAt_of B hml0
  obtain ⟨hx, hb, hr, hml, hown, hts, hlocks⟩ := id C0
  have htab := vx_table (x := yL_lease) B (hts (.codeWith yL_lease cL_lease 8 (some .int) [(0, 16, 19, 13), (0, 16, 23, 15), (0, 16, 27, 21)]) List.mem_cons_self)
  have hS : va_S A u.heap u.heap [] := va_S.rf
  have hl := lv_entry ([.ref (a 0), .int d, .int t, .int b, .int r, .int h, .ref o]) (n := 8) (Nat.le_of_ble_eq_true rfl)
  rw [lg_entry_eq]
  generalize (lg_sl ([.ref (a 0), .int d, .int t, .int b, .int r, .int h, .ref o]) ++ List.replicate (8 - (lg_sl ([.ref (a 0), .int d, .int t, .int b, .int r, .int h, .ref o])).length) Slot.unset).toArray = ls at hl ⊢
  have hl : lv_has ls 8 [(0, .ref (a 0)), (1, .int d), (2, .int t), (3, .int b), (4, .int r), (5, .int h), (6, .ref o)] := hl
  refine lv_aload hx hb dL_lease_0 (lv_at hl 6 rfl) ?_
  refine lv_iconst (v := nI 0) hx hb dL_lease_2 (by decide) ?_
  refine lv_aload_n hx hb dL_lease_3 rfl (lv_at hl 0 rfl) ?_
  refine lv_iload_n hx hb dL_lease_4 rfl (lv_at hl 1 rfl) ?_
  refine lv_iload_n hx hb dL_lease_5 rfl (lv_at hl 2 rfl) ?_
  refine lv_iload_n hx hb dL_lease_6 rfl (lv_at hl 3 rfl) ?_
  refine lv_iload hx hb dL_lease_7 (lv_at hl 4 rfl) ?_
  refine lv_iload hx hb dL_lease_9 (lv_at hl 5 rfl) ?_
  refine k_goLx (H0 := u.heap) hP hA hS (vx_runV (rest := [.int (nI 0), .ref o]) ⟨hx, hb, hml, hown, hts⟩ (c_X4_lease l hl0 D q (va_A (wC q a S cap nl) u.heap.size) a S cap nl d t b r h w0 e0 hnl hnow hw200 hg) (cwV 5 hts gL_lease_X4_lease rfl rfl rfl (by decide +kernel) ⟨Nat.le_of_ble_eq_true rfl, Nat.le_of_ble_eq_true rfl⟩) ⟨kBXE_blind, (va_recv hK.1 hP.1 (ci := 5) (q0 := 1) rfl rfl), fun U hU hW => ⟨rfl, ⟨by rw [hU]; exact kW_cut hP, hK.warm hW, (hX.at hS hU hW).narrow (kW_sub hP hA)⟩, (hEE.at hS hU hW).narrow (kW_sub hP hA), fun z9 h9 => Or.inr (by rw [← hU]; exact h9)⟩⟩ rfl rfl hl.1 rfl (lv_room (Nat.le_of_ble_eq_true rfl)) dL_lease_11 ⟨Nat.le_of_ble_eq_true rfl, Nat.le_of_ble_eq_true rfl⟩) (fun E ce q9 H locs hE hP hS h1 h2 h3 => ?_) (fun rr x9 H locs hr1 hP hS => ?_)
  · obtain ⟨i, hi, hco⟩ := hE
    rcases i with _ | i
    · cases hi
      refine vx_catch (name := eI) hown [] ⟨0, 16, 19, 13⟩ [⟨0, 16, 23, 15⟩, ⟨0, 16, 27, 21⟩] htab (fun z hz => by cases hz) (by decide) (by decide) (hts _ (by decide +kernel)) (va_Nw.use rfl hX.2.2.2.2.2.2.1.1) h1 h2 h3 ?_
      refine lv_astore (lv' := [(7, .ref q9), (0, .ref (a 0)), (1, .int d), (2, .int t), (3, .int b), (4, .int r), (5, .int h), (6, .ref o)]) hx hb dL_lease_19 hl (by decide) rfl (fun ls hl => ?_)
      refine lv_iconst (v := nI 1) hx hb dL_lease_21 (by decide) ?_
      have hz : ¬ (coLease S w0 nl d t b r h).1 = nI 0 := by rw [hco]; decide
      refine W.widen (k := 9) (n := 97) (Nat.le_of_ble_eq_true rfl) (Nat.le_of_ble_eq_true rfl) ?_
      exact k_iretL (a, cap, nl) hx hb hr hlocks ⟨by rw [hco], fun z => absurd z hz, fun _ => rfl⟩ (by rw [outG, outS, if_neg hz, if_neg hz]; exact hP) hS dL_lease_22
    · skip
      rcases i with _ | i
      · cases hi
        refine vx_catch (name := eA) hown [⟨0, 16, 19, 13⟩] ⟨0, 16, 23, 15⟩ [⟨0, 16, 27, 21⟩] htab (fun z hz => by cases List.mem_singleton.mp hz; exact Or.inr ⟨by decide, eI, hts _ (by decide +kernel), hX.2.2.2.2.2.2.2.1⟩) (by decide) (by decide) (hts _ (by decide +kernel)) (va_Nw.use rfl hX.2.2.2.2.2.2.1.2.1) h1 h2 h3 ?_
        refine lv_astore (lv' := [(7, .ref q9), (0, .ref (a 0)), (1, .int d), (2, .int t), (3, .int b), (4, .int r), (5, .int h), (6, .ref o)]) hx hb dL_lease_23 hl (by decide) rfl (fun ls hl => ?_)
        refine lv_iconst (v := nI 2) hx hb dL_lease_25 (by decide) ?_
        have hz : ¬ (coLease S w0 nl d t b r h).1 = nI 0 := by rw [hco]; decide
        refine W.widen (k := 9) (n := 97) (Nat.le_of_ble_eq_true rfl) (Nat.le_of_ble_eq_true rfl) ?_
        exact k_iretL (a, cap, nl) hx hb hr hlocks ⟨by rw [hco], fun z => absurd z hz, fun _ => rfl⟩ (by rw [outG, outS, if_neg hz, if_neg hz]; exact hP) hS dL_lease_26
      · skip
        rcases i with _ | i
        · cases hi
          refine vx_catch (name := eS) hown [⟨0, 16, 19, 13⟩, ⟨0, 16, 23, 15⟩] ⟨0, 16, 27, 21⟩ [] htab (fun z hz => by rcases List.mem_cons.mp hz with h | hz; (cases h; exact Or.inr ⟨by decide, eI, hts _ (by decide +kernel), hX.2.2.2.2.2.2.2.2.1⟩); cases List.mem_singleton.mp hz; exact Or.inr ⟨by decide, eA, hts _ (by decide +kernel), hX.2.2.2.2.2.2.2.2.2⟩) (by decide) (by decide) (hts _ (by decide +kernel)) (va_Nw.use rfl hX.2.2.2.2.2.2.1.2.2) h1 h2 h3 ?_
          refine lv_astore (lv' := [(7, .ref q9), (0, .ref (a 0)), (1, .int d), (2, .int t), (3, .int b), (4, .int r), (5, .int h), (6, .ref o)]) hx hb dL_lease_27 hl (by decide) rfl (fun ls hl => ?_)
          refine lv_iconst (v := nI 3) hx hb dL_lease_29 (by decide) ?_
          have hz : ¬ (coLease S w0 nl d t b r h).1 = nI 0 := by rw [hco]; decide
          refine W.widen (k := 9) (n := 97) (Nat.le_of_ble_eq_true rfl) (Nat.le_of_ble_eq_true rfl) ?_
          exact k_iretL (a, cap, nl) hx hb hr hlocks ⟨by rw [hco], fun z => absurd z hz, fun _ => rfl⟩ (by rw [outG, outS, if_neg hz, if_neg hz]; exact hP) hS dL_lease_30
        · skip
          exact absurd hi (by simp)
  · obtain ⟨⟨hc0, hr2⟩, hx9⟩ := hr1
    refine lv_i2l hx hb dL_lease_14 rfl ?_
    refine k_lastO hx hb hK (g := g) (x := rr.toInt64) hP hS dL_lease_15 (fun H locs hP hS => ?_)
    refine lv_goto (tgt := 31) hx hb dL_lease_16 (by decide) ?_
    refine lv_iconst (v := nI 0) hx hb dL_lease_31 (by decide) ?_
    refine W.widen (k := 9) (n := 97) (Nat.le_of_ble_eq_true rfl) (Nat.le_of_ble_eq_true rfl) ?_
    exact k_iretL (x9.1, x9.2, nl + 1) hx hb hr hlocks ⟨by rw [hc0], fun _ => ⟨hx9, rfl⟩, fun z => absurd hc0 z⟩ (by rw [outG, outS, if_pos hc0, if_pos hc0, ← hr2]; exact hP) hS dL_lease_32
