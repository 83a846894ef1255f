set_option maxHeartbeats 4000000 in
set_option maxRecDepth 100000 in
theorem lc_people {p : Program} {l : Launch} {e : Env} {s : State} {m : MethodId} {below : List Frame} {meth : Method} {c : Code} {b L : Nat} {xs : Nat → Int32} {D : va_G} {q : Nat → ClassId} {e0 : Nat} (E : lEnv p l s m meth c b L xs D q e0) {i v k9 n9 : Nat} {z : Int32} (hi : i < 80) (hv : v < 4) (hk : k9 + 10 ≤ 600086) (hn9 : n9 + 100 ≤ 7301442) (kk : lK p l e s m below meth c b D q e0 (i + 1) (pJ b i z) (k9 + 10) (n9 + 100) 452) : lK p l e s m below meth c b D q e0 i (pF b i v z) k9 n9 124 := by
  obtain ⟨⟨hx, hb, hr, hml, hown, hts0, hX0, hbl, hlocks, -⟩, hK, hX, hE, hl0⟩ := id E
  have hts := lEnv_hts hts0
  rintro H locs ls ⟨S, C, a, cb, cap, n, w, nl, L9, hP, hS, hI, hcap, hl⟩
  obtain ⟨hLR, T, hR⟩ := id hI
  obtain ⟨⟨q1, q2, q3, q4, q5⟩, hA9, ⟨hp1, hp2, hp3⟩, hT9, hF9, ⟨hL9, hC9⟩, hU9⟩ := id hLR
  have hO := LR_yO hLR
  have hyt := LR_yT hLR hR.1
  have hnow : C 0 0 = nI w := hR.1.2.1.1.1
  have hn9c : C 0 1 = nI n := hR.1.2.1.2.1.1
  have hnl : nl ≤ cap ∧ cap ≤ 40 ∧ nl ≤ 30 := ⟨hcap.2, hcap.le, by omega⟩
  refine lv_aload_n hx hb dL_law_124 rfl (lv_at hl 4 rfl) ?_
  refine lv_iconst (v := nI 0) hx hb dL_law_125 (by decide) ?_
  refine lv_iload hx hb dL_law_126 (lv_at hl 2 rfl) ?_
  refine lv_iconst (v := nI 5) hx hb dL_law_128 (by decide) ?_
  refine lv_ishr hx hb dL_law_129 ?_
  generalize z >>> (nI 5 &&& 31) = y
  refine lv_aload_n hx hb dL_law_130 rfl (lv_at hl 6 rfl) ?_
  refine lv_aload hx hb dL_law_131 (lv_at hl 14 rfl) ?_
  obtain ⟨cN, hco, hI2⟩ := op_people hI (s := lowN y 12) (p := zP y) (v := lowN (y >>> (nI 7 &&& 31)) 101) (lowN_lt (by decide)) (zP_le y) (by have : lowN (y >>> (nI 7 &&& 31)) 101 < 101 := lowN_lt (by decide); omega)
  refine k_goRi hS (va_runS (rest := []) ⟨hx, hb, hml, hown, hts⟩ (c_L_sets_p l hl0 D q (lA s) a S cb C cap nl y _ cN rfl hco) (va_cwS 5 hts gL_law_L_sets rfl rfl rfl (by decide +kernel) ⟨Nat.le_of_ble_eq_true rfl, Nat.le_of_ble_eq_true rfl⟩) ⟨kBL_blind, fun U hU hW => ⟨rfl, ⟨by rw [hU]; exact hP, hK.warm hW, hX.at hS hU hW⟩, fun z9 h9 => Nat.le_trans hS.1 (by rw [← hU]; exact h9)⟩⟩ rfl rfl hl.1 rfl (lv_room (Nat.le_of_ble_eq_true rfl)) dL_law_133 ⟨by show k9 + 3 ≤ 600086; omega, by show n9 + 18 ≤ 7301442; omega⟩) (fun H locs hP hS => ?_)
  refine lv_istore (lv' := [(15, .int (nI 1)), (14, .int (nI v)), (13, .int z), (0, .ref b), (1, .ref (cb 0)), (2, .ref (a 0)), (3, .ref (a 1)), (4, .ref (a 2)), (5, .ref (a 3)), (6, .ref (a 4)), (7, .ref (a 5)), (8, .ref (a 6)), (9, .ref (a 7)), (10, .ref (a 8)), (11, .ref (a 9)), (12, .int (nI i))]) hx hb dL_law_136 hl (by decide) rfl (fun ls hl => ?_)
  refine lv_goto (tgt := 452) hx hb dL_law_138 (by decide) ?_
  refine W.widen (k := k9 + 10) (n := n9 + 100) (by omega) (by omega) ?_
  exact kk H locs ls ⟨_, _, a, cb, cap, _, _, _, _, hP, hS, LI_tn (by omega) hI2, hcap, (lv_sub hl [0, 2, 3, 4, 5, 6, 7, 8, 9, 10, 11, 12, 13, 14, 15] rfl)⟩
set_option maxHeartbeats 4000000 in
set_option maxRecDepth 100000 in
theorem lc_lamp {p : Program} {l : Launch} {e : Env} {s : State} {m : MethodId} {below : List Frame} {meth : Method} {c : Code} {b L : Nat} {xs : Nat → Int32} {D : va_G} {q : Nat → ClassId} {e0 : Nat} (E : lEnv p l s m meth c b L xs D q e0) {i v k9 n9 : Nat} {z : Int32} (hi : i < 80) (hv : v < 7) (hk : k9 + 10 ≤ 600086) (hn9 : n9 + 100 ≤ 7301442) (kk : lK p l e s m below meth c b D q e0 (i + 1) (pJ b i z) (k9 + 10) (n9 + 100) 452) : lK p l e s m below meth c b D q e0 i (pF b i v z) k9 n9 148 := by
  obtain ⟨⟨hx, hb, hr, hml, hown, hts0, hX0, hbl, hlocks, -⟩, hK, hX, hE, hl0⟩ := id E
  have hts := lEnv_hts hts0
  rintro H locs ls ⟨S, C, a, cb, cap, n, w, nl, L9, hP, hS, hI, hcap, hl⟩
  obtain ⟨hLR, T, hR⟩ := id hI
  obtain ⟨⟨q1, q2, q3, q4, q5⟩, hA9, ⟨hp1, hp2, hp3⟩, hT9, hF9, ⟨hL9, hC9⟩, hU9⟩ := id hLR
  have hO := LR_yO hLR
  have hyt := LR_yT hLR hR.1
  have hnow : C 0 0 = nI w := hR.1.2.1.1.1
  have hn9c : C 0 1 = nI n := hR.1.2.1.2.1.1
  have hnl : nl ≤ cap ∧ cap ≤ 40 ∧ nl ≤ 30 := ⟨hcap.2, hcap.le, by omega⟩
  refine lv_aload_n hx hb dL_law_148 rfl (lv_at hl 4 rfl) ?_
  refine lv_iload hx hb dL_law_149 (lv_at hl 1 rfl) ?_
  refine lv_bipush (v := nI 6) hx hb dL_law_151 (by decide) ?_
  refine k_icmp_ne (P := v = 6) (tgt := 160) hx hb dL_law_153 (by decide) (nI_eq (by omega) (by omega)) (fun c1 => ?_) (fun c1 => ?_)
  · skip
    refine lv_iconst (v := nI 1) hx hb dL_law_160 (by decide) ?_
    refine lv_iload hx hb dL_law_161 (lv_at hl 2 rfl) ?_
    refine lv_iconst (v := nI 5) hx hb dL_law_163 (by decide) ?_
    refine lv_ishr hx hb dL_law_164 ?_
    generalize z >>> (nI 5 &&& 31) = y
    refine lv_aload_n hx hb dL_law_165 rfl (lv_at hl 6 rfl) ?_
    refine lv_aload hx hb dL_law_166 (lv_at hl 14 rfl) ?_
    have hb61 : lowN (y >>> (nI 6 &&& 31)) 61 ≤ 60 := by have : lowN (y >>> (nI 6 &&& 31)) 61 < 61 := lowN_lt (by decide); omega
    have hs12 : lowN y 12 < 12 := lowN_lt (by decide)
    by_cases hwk : lowN (y >>> (nI 4 &&& 31)) 3 = 0
    · skip
      obtain ⟨cN, hco, hI2⟩ := op_lamp hI (s := lowN y 12) (b := lowN (y >>> (nI 6 &&& 31)) 61) (wk := 0) (v := nI (100 + lowN (y >>> (nI 6 &&& 31)) 61)) hs12 hb61 (by first | exact Or.inl ⟨rfl, rfl⟩ | exact Or.inr ⟨rfl, rfl⟩)
      refine k_goRi hS (va_runS (rest := []) ⟨hx, hb, hml, hown, hts⟩ (c_L_sets_l0 l hl0 D q (lA s) a S cb C cap nl y _ cN (lamp_rem hI hs12) hwk hco) (va_cwS 5 hts gL_law_L_sets rfl rfl rfl (by decide +kernel) ⟨Nat.le_of_ble_eq_true rfl, Nat.le_of_ble_eq_true rfl⟩) ⟨kBL_blind, fun U hU hW => ⟨rfl, ⟨by rw [hU]; exact hP, hK.warm hW, hX.at hS hU hW⟩, fun z9 h9 => Nat.le_trans hS.1 (by rw [← hU]; exact h9)⟩⟩ rfl rfl hl.1 rfl (lv_room (Nat.le_of_ble_eq_true rfl)) dL_law_168 ⟨by show k9 + 2 ≤ 600086; omega, by show n9 + 12 ≤ 7301442; omega⟩) (fun H locs hP hS => ?_)
      refine lv_istore (lv' := [(15, .int (nI 1)), (14, .int (nI v)), (13, .int z), (0, .ref b), (1, .ref (cb 0)), (2, .ref (a 0)), (3, .ref (a 1)), (4, .ref (a 2)), (5, .ref (a 3)), (6, .ref (a 4)), (7, .ref (a 5)), (8, .ref (a 6)), (9, .ref (a 7)), (10, .ref (a 8)), (11, .ref (a 9)), (12, .int (nI i))]) hx hb dL_law_171 hl (by decide) rfl (fun ls hl => ?_)
      refine lv_goto (tgt := 452) hx hb dL_law_173 (by decide) ?_
      refine W.widen (k := k9 + 10) (n := n9 + 100) (by omega) (by omega) ?_
      exact kk H locs ls ⟨_, _, a, cb, cap, _, _, _, _, hP, hS, LI_tn (by omega) hI2, hcap, (lv_sub hl [0, 2, 3, 4, 5, 6, 7, 8, 9, 10, 11, 12, 13, 14, 15] rfl)⟩
    · skip
      obtain ⟨cN, hco, hI2⟩ := op_lamp hI (s := lowN y 12) (b := lowN (y >>> (nI 6 &&& 31)) 61) (wk := 1) (v := nI (lowN (y >>> (nI 6 &&& 31)) 61)) hs12 hb61 (by first | exact Or.inl ⟨rfl, rfl⟩ | exact Or.inr ⟨rfl, rfl⟩)
      refine k_goRi hS (va_runS (rest := []) ⟨hx, hb, hml, hown, hts⟩ (c_L_sets_l1 l hl0 D q (lA s) a S cb C cap nl y _ cN (lamp_rem hI hs12) hwk hco) (va_cwS 5 hts gL_law_L_sets rfl rfl rfl (by decide +kernel) ⟨Nat.le_of_ble_eq_true rfl, Nat.le_of_ble_eq_true rfl⟩) ⟨kBL_blind, fun U hU hW => ⟨rfl, ⟨by rw [hU]; exact hP, hK.warm hW, hX.at hS hU hW⟩, fun z9 h9 => Nat.le_trans hS.1 (by rw [← hU]; exact h9)⟩⟩ rfl rfl hl.1 rfl (lv_room (Nat.le_of_ble_eq_true rfl)) dL_law_168 ⟨by show k9 + 2 ≤ 600086; omega, by show n9 + 12 ≤ 7301442; omega⟩) (fun H locs hP hS => ?_)
      refine lv_istore (lv' := [(15, .int (nI 1)), (14, .int (nI v)), (13, .int z), (0, .ref b), (1, .ref (cb 0)), (2, .ref (a 0)), (3, .ref (a 1)), (4, .ref (a 2)), (5, .ref (a 3)), (6, .ref (a 4)), (7, .ref (a 5)), (8, .ref (a 6)), (9, .ref (a 7)), (10, .ref (a 8)), (11, .ref (a 9)), (12, .int (nI i))]) hx hb dL_law_171 hl (by decide) rfl (fun ls hl => ?_)
      refine lv_goto (tgt := 452) hx hb dL_law_173 (by decide) ?_
      refine W.widen (k := k9 + 10) (n := n9 + 100) (by omega) (by omega) ?_
      exact kk H locs ls ⟨_, _, a, cb, cap, _, _, _, _, hP, hS, LI_tn (by omega) hI2, hcap, (lv_sub hl [0, 2, 3, 4, 5, 6, 7, 8, 9, 10, 11, 12, 13, 14, 15] rfl)⟩
  · skip
    refine lv_iconst (v := nI 2) hx hb dL_law_156 (by decide) ?_
    refine lv_goto (tgt := 161) hx hb dL_law_157 (by decide) ?_
    refine lv_iload hx hb dL_law_161 (lv_at hl 2 rfl) ?_
    refine lv_iconst (v := nI 5) hx hb dL_law_163 (by decide) ?_
    refine lv_ishr hx hb dL_law_164 ?_
    generalize z >>> (nI 5 &&& 31) = y
    refine lv_aload_n hx hb dL_law_165 rfl (lv_at hl 6 rfl) ?_
    refine lv_aload hx hb dL_law_166 (lv_at hl 14 rfl) ?_
    obtain ⟨cN, hco, hI2⟩ := op_skill hI (b := lowN y 6) (v := lowN (y >>> (nI 4 &&& 31)) 51) (lowN_lt (by decide)) (by have : lowN (y >>> (nI 4 &&& 31)) 51 < 51 := lowN_lt (by decide); omega)
    refine k_goRi hS (va_runS (rest := []) ⟨hx, hb, hml, hown, hts⟩ (c_L_sets_s l hl0 D q (lA s) a S cb C cap nl y _ cN rfl hco) (va_cwS 5 hts gL_law_L_sets rfl rfl rfl (by decide +kernel) ⟨Nat.le_of_ble_eq_true rfl, Nat.le_of_ble_eq_true rfl⟩) ⟨kBL_blind, fun U hU hW => ⟨rfl, ⟨by rw [hU]; exact hP, hK.warm hW, hX.at hS hU hW⟩, fun z9 h9 => Nat.le_trans hS.1 (by rw [← hU]; exact h9)⟩⟩ rfl rfl hl.1 rfl (lv_room (Nat.le_of_ble_eq_true rfl)) dL_law_168 ⟨by show k9 + 2 ≤ 600086; omega, by show n9 + 12 ≤ 7301442; omega⟩) (fun H locs hP hS => ?_)
    refine lv_istore (lv' := [(15, .int (nI 1)), (14, .int (nI v)), (13, .int z), (0, .ref b), (1, .ref (cb 0)), (2, .ref (a 0)), (3, .ref (a 1)), (4, .ref (a 2)), (5, .ref (a 3)), (6, .ref (a 4)), (7, .ref (a 5)), (8, .ref (a 6)), (9, .ref (a 7)), (10, .ref (a 8)), (11, .ref (a 9)), (12, .int (nI i))]) hx hb dL_law_171 hl (by decide) rfl (fun ls hl => ?_)
    refine lv_goto (tgt := 452) hx hb dL_law_173 (by decide) ?_
    refine W.widen (k := k9 + 10) (n := n9 + 100) (by omega) (by omega) ?_
    exact kk H locs ls ⟨_, _, a, cb, cap, _, _, _, _, hP, hS, LI_tn (by omega) hI2, hcap, (lv_sub hl [0, 2, 3, 4, 5, 6, 7, 8, 9, 10, 11, 12, 13, 14, 15] rfl)⟩
set_option maxHeartbeats 4000000 in
set_option maxRecDepth 100000 in
theorem lc_finds {p : Program} {l : Launch} {e : Env} {s : State} {m : MethodId} {below : List Frame} {meth : Method} {c : Code} {b L : Nat} {xs : Nat → Int32} {D : va_G} {q : Nat → ClassId} {e0 : Nat} (E : lEnv p l s m meth c b L xs D q e0) {i v k9 n9 : Nat} {z : Int32} (hi : i < 80) (hv : v < 11) (hk : k9 + 10 ≤ 600086) (hn9 : n9 + 100 ≤ 7301442) (kk : lK p l e s m below meth c b D q e0 (i + 1) (pJ b i z) (k9 + 10) (n9 + 100) 452) : lK p l e s m below meth c b D q e0 i (pF b i v z) k9 n9 183 := by
  obtain ⟨⟨hx, hb, hr, hml, hown, hts0, hX0, hbl, hlocks, -⟩, hK, hX, hE, hl0⟩ := id E
  have hts := lEnv_hts hts0
  rintro H locs ls ⟨S, C, a, cb, cap, n, w, nl, L9, hP, hS, hI, hcap, hl⟩
  obtain ⟨hLR, T, hR⟩ := id hI
  obtain ⟨⟨q1, q2, q3, q4, q5⟩, hA9, ⟨hp1, hp2, hp3⟩, hT9, hF9, ⟨hL9, hC9⟩, hU9⟩ := id hLR
  have hO := LR_yO hLR
  have hyt := LR_yT hLR hR.1
  have hnow : C 0 0 = nI w := hR.1.2.1.1.1
  have hn9c : C 0 1 = nI n := hR.1.2.1.2.1.1
  have hnl : nl ≤ cap ∧ cap ≤ 40 ∧ nl ≤ 30 := ⟨hcap.2, hcap.le, by omega⟩
  refine lv_aload_n hx hb dL_law_183 rfl (lv_at hl 4 rfl) ?_
  refine lv_iload hx hb dL_law_184 (lv_at hl 1 rfl) ?_
  refine lv_bipush (v := nI 9) hx hb dL_law_186 (by decide) ?_
  refine k_icmp_ge (P := v < 9) (tgt := 195) hx hb dL_law_188 (by decide) (nI_ltI (by omega) (by omega)) (fun c1 => ?_) (fun c1 => ?_)
  · skip
    refine lv_iconst (v := nI 1) hx hb dL_law_195 (by decide) ?_
    refine lv_iload hx hb dL_law_196 (lv_at hl 2 rfl) ?_
    refine lv_iconst (v := nI 5) hx hb dL_law_198 (by decide) ?_
    refine lv_ishr hx hb dL_law_199 ?_
    generalize z >>> (nI 5 &&& 31) = y
    refine lv_aload hx hb dL_law_200 (lv_at hl 9 rfl) ?_
    refine lv_aload hx hb dL_law_202 (lv_at hl 12 rfl) ?_
    refine lv_aload hx hb dL_law_204 (lv_at hl 13 rfl) ?_
    refine lv_aload_n hx hb dL_law_206 rfl (lv_at hl 5 rfl) ?_
    have hs12 : lowN y 12 < 12 := lowN_lt (by decide)
    have hno : ¬ (1 = 0 ∧ n < 12) := fun h => absurd h.1 (by decide)
    by_cases hw0 : w = 0
    · skip
      refine k_goRi hS (va_runS (rest := []) ⟨hx, hb, hml, hown, hts⟩ (c_L_finds_0 l hl0 D q (lA s) a S cb C cap nl 1 y n w (by decide) hno q2.1 q2.2 q1.1 hw0) (va_cwS 7 hts gL_law_L_finds rfl rfl rfl (by decide +kernel) ⟨Nat.le_of_ble_eq_true rfl, Nat.le_of_ble_eq_true rfl⟩) ⟨kBL_blind, fun U hU hW => ⟨rfl, ⟨by rw [hU]; exact hP, hK.warm hW, hX.at hS hU hW⟩, fun z9 h9 => Nat.le_trans hS.1 (by rw [← hU]; exact h9)⟩⟩ rfl rfl hl.1 rfl (lv_room (Nat.le_of_ble_eq_true rfl)) dL_law_207 ⟨by show k9 + 0 ≤ 600086; omega, by show n9 + 0 ≤ 7301442; omega⟩) (fun H locs hP hS => ?_)
      refine lv_istore (lv' := [(15, .int (nI 1)), (14, .int (nI v)), (13, .int z), (0, .ref b), (1, .ref (cb 0)), (2, .ref (a 0)), (3, .ref (a 1)), (4, .ref (a 2)), (5, .ref (a 3)), (6, .ref (a 4)), (7, .ref (a 5)), (8, .ref (a 6)), (9, .ref (a 7)), (10, .ref (a 8)), (11, .ref (a 9)), (12, .int (nI i))]) hx hb dL_law_210 hl (by decide) rfl (fun ls hl => ?_)
      refine lv_goto (tgt := 452) hx hb dL_law_212 (by decide) ?_
      refine W.widen (k := k9 + 10) (n := n9 + 100) (by omega) (by omega) ?_
      exact kk H locs ls ⟨_, _, a, cb, cap, _, _, _, _, hP, hS, LI_tn (by omega) hI, hcap, (lv_sub hl [0, 2, 3, 4, 5, 6, 7, 8, 9, 10, 11, 12, 13, 14, 15] rfl)⟩
    · skip
      have hyw : lowN (y >>> (nI 4 &&& 31)) w < w := lowN_lt (by omega)
      by_cases hlost : S 4 ((lowN (y >>> (nI 4 &&& 31)) w) * 12 + (lowN y 12)) = 0
      · skip
        obtain ⟨cN, hca, hco, hcN, hI2⟩ := op_turn hI (s := lowN y 12) (y := lowN (y >>> (nI 4 &&& 31)) w) (v := zRd y) hs12 hyw (zRd_le y) hlost
        refine k_goRi hS (va_runS (rest := []) ⟨hx, hb, hml, hown, hts⟩ (c_L_finds_t l hl0 D q (lA s) a S cb C cap nl 1 y n w cN (by decide) hno hw0 hlost hp3.2.2.1 hyt q2.1 q2.2 q1.1 q1.2 hO q3.2 q3.1 hn9c hnow hnl hca hco hcN) (va_cwS 7 hts gL_law_L_finds rfl rfl rfl (by decide +kernel) ⟨Nat.le_of_ble_eq_true rfl, Nat.le_of_ble_eq_true rfl⟩) ⟨kBL_blind, fun U hU hW => ⟨rfl, ⟨by rw [hU]; exact hP, hK.warm hW, hX.at hS hU hW⟩, fun z9 h9 => Nat.le_trans hS.1 (by rw [← hU]; exact h9)⟩⟩ rfl rfl hl.1 rfl (lv_room (Nat.le_of_ble_eq_true rfl)) dL_law_207 ⟨by show k9 + 4 ≤ 600086; omega, by show n9 + 24 ≤ 7301442; omega⟩) (fun H locs hP hS => ?_)
        refine lv_istore (lv' := [(15, .int (nI 1)), (14, .int (nI v)), (13, .int z), (0, .ref b), (1, .ref (cb 0)), (2, .ref (a 0)), (3, .ref (a 1)), (4, .ref (a 2)), (5, .ref (a 3)), (6, .ref (a 4)), (7, .ref (a 5)), (8, .ref (a 6)), (9, .ref (a 7)), (10, .ref (a 8)), (11, .ref (a 9)), (12, .int (nI i))]) hx hb dL_law_210 hl (by decide) rfl (fun ls hl => ?_)
        refine lv_goto (tgt := 452) hx hb dL_law_212 (by decide) ?_
        refine W.widen (k := k9 + 10) (n := n9 + 100) (by omega) (by omega) ?_
        exact kk H locs ls ⟨_, _, a, cb, cap, _, _, _, _, hP, hS, LI_tn (by omega) hI2, hcap, (lv_sub hl [0, 2, 3, 4, 5, 6, 7, 8, 9, 10, 11, 12, 13, 14, 15] rfl)⟩
      · skip
        obtain ⟨hca, hco, hcN⟩ := op_turned hI (s := lowN y 12) (y := lowN (y >>> (nI 4 &&& 31)) w) (v := zRd y) hs12 hyw (zRd_le y) hlost
        refine k_goRi hS (va_runS (rest := []) ⟨hx, hb, hml, hown, hts⟩ (c_L_finds_n l hl0 D q (lA s) a S cb C cap nl 1 y n w C (by decide) hno hw0 hlost hp3.2.2.1 hyt q2.1 q2.2 q1.1 q1.2 hO q3.2 q3.1 hn9c hnow hnl hca hco hcN) (va_cwS 7 hts gL_law_L_finds rfl rfl rfl (by decide +kernel) ⟨Nat.le_of_ble_eq_true rfl, Nat.le_of_ble_eq_true rfl⟩) ⟨kBL_blind, fun U hU hW => ⟨rfl, ⟨by rw [hU]; exact hP, hK.warm hW, hX.at hS hU hW⟩, fun z9 h9 => Nat.le_trans hS.1 (by rw [← hU]; exact h9)⟩⟩ rfl rfl hl.1 rfl (lv_room (Nat.le_of_ble_eq_true rfl)) dL_law_207 ⟨by show k9 + 4 ≤ 600086; omega, by show n9 + 24 ≤ 7301442; omega⟩) (fun H locs hP hS => ?_)
        refine lv_istore (lv' := [(15, .int (nI 1)), (14, .int (nI v)), (13, .int z), (0, .ref b), (1, .ref (cb 0)), (2, .ref (a 0)), (3, .ref (a 1)), (4, .ref (a 2)), (5, .ref (a 3)), (6, .ref (a 4)), (7, .ref (a 5)), (8, .ref (a 6)), (9, .ref (a 7)), (10, .ref (a 8)), (11, .ref (a 9)), (12, .int (nI i))]) hx hb dL_law_210 hl (by decide) rfl (fun ls hl => ?_)
        refine lv_goto (tgt := 452) hx hb dL_law_212 (by decide) ?_
        refine W.widen (k := k9 + 10) (n := n9 + 100) (by omega) (by omega) ?_
        exact kk H locs ls ⟨_, _, a, cb, cap, _, _, _, _, hP, hS, LI_tn (by omega) hI, hcap, (lv_sub hl [0, 2, 3, 4, 5, 6, 7, 8, 9, 10, 11, 12, 13, 14, 15] rfl)⟩
  · skip
    refine lv_iconst (v := nI 0) hx hb dL_law_191 (by decide) ?_
    refine lv_goto (tgt := 196) hx hb dL_law_192 (by decide) ?_
    refine lv_iload hx hb dL_law_196 (lv_at hl 2 rfl) ?_
    refine lv_iconst (v := nI 5) hx hb dL_law_198 (by decide) ?_
    refine lv_ishr hx hb dL_law_199 ?_
    generalize z >>> (nI 5 &&& 31) = y
    refine lv_aload hx hb dL_law_200 (lv_at hl 9 rfl) ?_
    refine lv_aload hx hb dL_law_202 (lv_at hl 12 rfl) ?_
    refine lv_aload hx hb dL_law_204 (lv_at hl 13 rfl) ?_
    refine lv_aload_n hx hb dL_law_206 rfl (lv_at hl 5 rfl) ?_
    have hs12 : lowN y 12 < 12 := lowN_lt (by decide)
    by_cases hn11 : n < 12
    · skip
      obtain ⟨cN, hco, hI2⟩ := op_find hI (s := lowN y 12) (y := lowN (y >>> (nI 4 &&& 31)) (w + 1)) (b := lowN (y >>> (nI 8 &&& 31)) 61) hs12 (by have : lowN (y >>> (nI 4 &&& 31)) (w + 1) < w + 1 := lowN_lt (by omega); omega) (by have : lowN (y >>> (nI 8 &&& 31)) 61 < 61 := lowN_lt (by decide); omega) hn11
      refine k_goRi hS (va_runS (rest := []) ⟨hx, hb, hml, hown, hts⟩ (c_L_finds_f l hl0 D q (lA s) a S cb C cap nl 0 y n w cN rfl hn11 hp3.2.2.1 hyt q2.1 q2.2 q1.1 q1.2 hO q3.2 q3.1 hn9c hnow hnl hco) (va_cwS 7 hts gL_law_L_finds rfl rfl rfl (by decide +kernel) ⟨Nat.le_of_ble_eq_true rfl, Nat.le_of_ble_eq_true rfl⟩) ⟨kBL_blind, fun U hU hW => ⟨rfl, ⟨by rw [hU]; exact hP, hK.warm hW, hX.at hS hU hW⟩, fun z9 h9 => Nat.le_trans hS.1 (by rw [← hU]; exact h9)⟩⟩ rfl rfl hl.1 rfl (lv_room (Nat.le_of_ble_eq_true rfl)) dL_law_207 ⟨by show k9 + 4 ≤ 600086; omega, by show n9 + 24 ≤ 7301442; omega⟩) (fun H locs hP hS => ?_)
      refine lv_istore (lv' := [(15, .int (nI 1)), (14, .int (nI v)), (13, .int z), (0, .ref b), (1, .ref (cb 0)), (2, .ref (a 0)), (3, .ref (a 1)), (4, .ref (a 2)), (5, .ref (a 3)), (6, .ref (a 4)), (7, .ref (a 5)), (8, .ref (a 6)), (9, .ref (a 7)), (10, .ref (a 8)), (11, .ref (a 9)), (12, .int (nI i))]) hx hb dL_law_210 hl (by decide) rfl (fun ls hl => ?_)
      refine lv_goto (tgt := 452) hx hb dL_law_212 (by decide) ?_
      refine W.widen (k := k9 + 10) (n := n9 + 100) (by omega) (by omega) ?_
      exact kk H locs ls ⟨_, _, a, cb, cap, _, _, _, _, hP, hS, LI_tn (by omega) hI2, hcap, (lv_sub hl [0, 2, 3, 4, 5, 6, 7, 8, 9, 10, 11, 12, 13, 14, 15] rfl)⟩
    · skip
      have hno : ¬ (0 = 0 ∧ n < 12) := fun h => hn11 h.2
      by_cases hw0 : w = 0
      · skip
        refine k_goRi hS (va_runS (rest := []) ⟨hx, hb, hml, hown, hts⟩ (c_L_finds_0 l hl0 D q (lA s) a S cb C cap nl 0 y n w (by decide) hno q2.1 q2.2 q1.1 hw0) (va_cwS 7 hts gL_law_L_finds rfl rfl rfl (by decide +kernel) ⟨Nat.le_of_ble_eq_true rfl, Nat.le_of_ble_eq_true rfl⟩) ⟨kBL_blind, fun U hU hW => ⟨rfl, ⟨by rw [hU]; exact hP, hK.warm hW, hX.at hS hU hW⟩, fun z9 h9 => Nat.le_trans hS.1 (by rw [← hU]; exact h9)⟩⟩ rfl rfl hl.1 rfl (lv_room (Nat.le_of_ble_eq_true rfl)) dL_law_207 ⟨by show k9 + 0 ≤ 600086; omega, by show n9 + 0 ≤ 7301442; omega⟩) (fun H locs hP hS => ?_)
        refine lv_istore (lv' := [(15, .int (nI 1)), (14, .int (nI v)), (13, .int z), (0, .ref b), (1, .ref (cb 0)), (2, .ref (a 0)), (3, .ref (a 1)), (4, .ref (a 2)), (5, .ref (a 3)), (6, .ref (a 4)), (7, .ref (a 5)), (8, .ref (a 6)), (9, .ref (a 7)), (10, .ref (a 8)), (11, .ref (a 9)), (12, .int (nI i))]) hx hb dL_law_210 hl (by decide) rfl (fun ls hl => ?_)
        refine lv_goto (tgt := 452) hx hb dL_law_212 (by decide) ?_
        refine W.widen (k := k9 + 10) (n := n9 + 100) (by omega) (by omega) ?_
        exact kk H locs ls ⟨_, _, a, cb, cap, _, _, _, _, hP, hS, LI_tn (by omega) hI, hcap, (lv_sub hl [0, 2, 3, 4, 5, 6, 7, 8, 9, 10, 11, 12, 13, 14, 15] rfl)⟩
      · skip
        have hyw : lowN (y >>> (nI 4 &&& 31)) w < w := lowN_lt (by omega)
        by_cases hlost : S 4 ((lowN (y >>> (nI 4 &&& 31)) w) * 12 + (lowN y 12)) = 0
        · skip
          obtain ⟨cN, hca, hco, hcN, hI2⟩ := op_turn hI (s := lowN y 12) (y := lowN (y >>> (nI 4 &&& 31)) w) (v := zRd y) hs12 hyw (zRd_le y) hlost
          refine k_goRi hS (va_runS (rest := []) ⟨hx, hb, hml, hown, hts⟩ (c_L_finds_t l hl0 D q (lA s) a S cb C cap nl 0 y n w cN (by decide) hno hw0 hlost hp3.2.2.1 hyt q2.1 q2.2 q1.1 q1.2 hO q3.2 q3.1 hn9c hnow hnl hca hco hcN) (va_cwS 7 hts gL_law_L_finds rfl rfl rfl (by decide +kernel) ⟨Nat.le_of_ble_eq_true rfl, Nat.le_of_ble_eq_true rfl⟩) ⟨kBL_blind, fun U hU hW => ⟨rfl, ⟨by rw [hU]; exact hP, hK.warm hW, hX.at hS hU hW⟩, fun z9 h9 => Nat.le_trans hS.1 (by rw [← hU]; exact h9)⟩⟩ rfl rfl hl.1 rfl (lv_room (Nat.le_of_ble_eq_true rfl)) dL_law_207 ⟨by show k9 + 4 ≤ 600086; omega, by show n9 + 24 ≤ 7301442; omega⟩) (fun H locs hP hS => ?_)
          refine lv_istore (lv' := [(15, .int (nI 1)), (14, .int (nI v)), (13, .int z), (0, .ref b), (1, .ref (cb 0)), (2, .ref (a 0)), (3, .ref (a 1)), (4, .ref (a 2)), (5, .ref (a 3)), (6, .ref (a 4)), (7, .ref (a 5)), (8, .ref (a 6)), (9, .ref (a 7)), (10, .ref (a 8)), (11, .ref (a 9)), (12, .int (nI i))]) hx hb dL_law_210 hl (by decide) rfl (fun ls hl => ?_)
          refine lv_goto (tgt := 452) hx hb dL_law_212 (by decide) ?_
          refine W.widen (k := k9 + 10) (n := n9 + 100) (by omega) (by omega) ?_
          exact kk H locs ls ⟨_, _, a, cb, cap, _, _, _, _, hP, hS, LI_tn (by omega) hI2, hcap, (lv_sub hl [0, 2, 3, 4, 5, 6, 7, 8, 9, 10, 11, 12, 13, 14, 15] rfl)⟩
        · skip
          obtain ⟨hca, hco, hcN⟩ := op_turned hI (s := lowN y 12) (y := lowN (y >>> (nI 4 &&& 31)) w) (v := zRd y) hs12 hyw (zRd_le y) hlost
          refine k_goRi hS (va_runS (rest := []) ⟨hx, hb, hml, hown, hts⟩ (c_L_finds_n l hl0 D q (lA s) a S cb C cap nl 0 y n w C (by decide) hno hw0 hlost hp3.2.2.1 hyt q2.1 q2.2 q1.1 q1.2 hO q3.2 q3.1 hn9c hnow hnl hca hco hcN) (va_cwS 7 hts gL_law_L_finds rfl rfl rfl (by decide +kernel) ⟨Nat.le_of_ble_eq_true rfl, Nat.le_of_ble_eq_true rfl⟩) ⟨kBL_blind, fun U hU hW => ⟨rfl, ⟨by rw [hU]; exact hP, hK.warm hW, hX.at hS hU hW⟩, fun z9 h9 => Nat.le_trans hS.1 (by rw [← hU]; exact h9)⟩⟩ rfl rfl hl.1 rfl (lv_room (Nat.le_of_ble_eq_true rfl)) dL_law_207 ⟨by show k9 + 4 ≤ 600086; omega, by show n9 + 24 ≤ 7301442; omega⟩) (fun H locs hP hS => ?_)
          refine lv_istore (lv' := [(15, .int (nI 1)), (14, .int (nI v)), (13, .int z), (0, .ref b), (1, .ref (cb 0)), (2, .ref (a 0)), (3, .ref (a 1)), (4, .ref (a 2)), (5, .ref (a 3)), (6, .ref (a 4)), (7, .ref (a 5)), (8, .ref (a 6)), (9, .ref (a 7)), (10, .ref (a 8)), (11, .ref (a 9)), (12, .int (nI i))]) hx hb dL_law_210 hl (by decide) rfl (fun ls hl => ?_)
          refine lv_goto (tgt := 452) hx hb dL_law_212 (by decide) ?_
          refine W.widen (k := k9 + 10) (n := n9 + 100) (by omega) (by omega) ?_
          exact kk H locs ls ⟨_, _, a, cb, cap, _, _, _, _, hP, hS, LI_tn (by omega) hI, hcap, (lv_sub hl [0, 2, 3, 4, 5, 6, 7, 8, 9, 10, 11, 12, 13, 14, 15] rfl)⟩
set_option maxHeartbeats 4000000 in
set_option maxRecDepth 100000 in
theorem lc_leases {p : Program} {l : Launch} {e : Env} {s : State} {m : MethodId} {below : List Frame} {meth : Method} {c : Code} {b L : Nat} {xs : Nat → Int32} {D : va_G} {q : Nat → ClassId} {e0 : Nat} (E : lEnv p l s m meth c b L xs D q e0) {i v k9 n9 : Nat} {z : Int32} (hi : i < 80) (hv : v < 15) (hk : k9 + 10 ≤ 600086) (hn9 : n9 + 100 ≤ 7301442) (kk : lK p l e s m below meth c b D q e0 (i + 1) (pJ b i z) (k9 + 10) (n9 + 100) 452) : lK p l e s m below meth c b D q e0 i (pF b i v z) k9 n9 222 := by
  obtain ⟨⟨hx, hb, hr, hml, hown, hts0, hX0, hbl, hlocks, -⟩, hK, hX, hE, hl0⟩ := id E
  have hts := lEnv_hts hts0
  rintro H locs ls ⟨S, C, a, cb, cap, n, w, nl, L9, hP, hS, hI, hcap, hl⟩
  obtain ⟨hLR, T, hR⟩ := id hI
  obtain ⟨⟨q1, q2, q3, q4, q5⟩, hA9, ⟨hp1, hp2, hp3⟩, hT9, hF9, ⟨hL9, hC9⟩, hU9⟩ := id hLR
  have hO := LR_yO hLR
  have hyt := LR_yT hLR hR.1
  have hnow : C 0 0 = nI w := hR.1.2.1.1.1
  have hn9c : C 0 1 = nI n := hR.1.2.1.2.1.1
  have hnl : nl ≤ cap ∧ cap ≤ 40 ∧ nl ≤ 30 := ⟨hcap.2, hcap.le, by omega⟩
  refine lv_aload_n hx hb dL_law_222 rfl (lv_at hl 4 rfl) ?_
  refine lv_iload hx hb dL_law_223 (lv_at hl 1 rfl) ?_
  refine lv_bipush (v := nI 14) hx hb dL_law_225 (by decide) ?_
  refine k_icmp_ge (P := v < 14) (tgt := 234) hx hb dL_law_227 (by decide) (nI_ltI (by omega) (by omega)) (fun c1 => ?_) (fun c1 => ?_)
  · skip
    refine lv_iconst (v := nI 1) hx hb dL_law_234 (by decide) ?_
    refine lv_iload hx hb dL_law_235 (lv_at hl 2 rfl) ?_
    refine lv_iconst (v := nI 5) hx hb dL_law_237 (by decide) ?_
    refine lv_ishr hx hb dL_law_238 ?_
    generalize z >>> (nI 5 &&& 31) = y
    refine lv_aload hx hb dL_law_239 (lv_at hl 13 rfl) ?_
    refine lv_aload_n hx hb dL_law_241 rfl (lv_at hl 5 rfl) ?_
    by_cases h0 : nl = 0
    · skip
      refine k_goRi hS (va_runS (rest := []) ⟨hx, hb, hml, hown, hts⟩ (c_L_leases_0 l hl0 D q (lA s) a S cb C cap nl y h0 q3.1) (va_cwS 5 hts gL_law_L_leases rfl rfl rfl (by decide +kernel) ⟨Nat.le_of_ble_eq_true rfl, Nat.le_of_ble_eq_true rfl⟩) ⟨kBL_blind, fun U hU hW => ⟨rfl, ⟨by rw [hU]; exact hP, hK.warm hW, hX.at hS hU hW⟩, fun z9 h9 => Nat.le_trans hS.1 (by rw [← hU]; exact h9)⟩⟩ rfl rfl hl.1 rfl (lv_room (Nat.le_of_ble_eq_true rfl)) dL_law_242 ⟨by show k9 + 0 ≤ 600086; omega, by show n9 + 0 ≤ 7301442; omega⟩) (fun H locs hP hS => ?_)
      refine lv_istore (lv' := [(15, .int (nI 1)), (14, .int (nI v)), (13, .int z), (0, .ref b), (1, .ref (cb 0)), (2, .ref (a 0)), (3, .ref (a 1)), (4, .ref (a 2)), (5, .ref (a 3)), (6, .ref (a 4)), (7, .ref (a 5)), (8, .ref (a 6)), (9, .ref (a 7)), (10, .ref (a 8)), (11, .ref (a 9)), (12, .int (nI i))]) hx hb dL_law_245 hl (by decide) rfl (fun ls hl => ?_)
      refine lv_goto (tgt := 452) hx hb dL_law_247 (by decide) ?_
      refine W.widen (k := k9 + 10) (n := n9 + 100) (by omega) (by omega) ?_
      exact kk H locs ls ⟨_, _, a, cb, cap, _, _, _, _, hP, hS, LI_tn (by omega) hI, hcap, (lv_sub hl [0, 2, 3, 4, 5, 6, 7, 8, 9, 10, 11, 12, 13, 14, 15] rfl)⟩
    · skip
      have hkn : lowN y nl < nl := lowN_lt (by omega)
      by_cases hcan : (S 0 4 >>> (nI (lowN y nl) &&& 31) &&& nI 1 = 0 ∧ ¬ ix S 8 (6 * (lowN y nl) + 4) ≤ w)
      · skip
        obtain ⟨cN, hca, hco, hcN, hI2, hst⟩ := op_quit hI hkn hcan
        refine k_goRi hS (va_runS (rest := []) ⟨hx, hb, hml, hown, hts⟩ (c_L_leases_q l hl0 D q (lA s) a S cb C cap nl y w cN h0 hcan hst q1.1 q1.2 hO q3.2 q3.1 hnow hnl hca hco hcN) (va_cwS 5 hts gL_law_L_leases rfl rfl rfl (by decide +kernel) ⟨Nat.le_of_ble_eq_true rfl, Nat.le_of_ble_eq_true rfl⟩) ⟨kBL_blind, fun U hU hW => ⟨rfl, ⟨by rw [hU]; exact hP, hK.warm hW, hX.at hS hU hW⟩, fun z9 h9 => Nat.le_trans hS.1 (by rw [← hU]; exact h9)⟩⟩ rfl rfl hl.1 rfl (lv_room (Nat.le_of_ble_eq_true rfl)) dL_law_242 ⟨by show k9 + 2 ≤ 600086; omega, by show n9 + 12 ≤ 7301442; omega⟩) (fun H locs hP hS => ?_)
        refine lv_istore (lv' := [(15, .int (nI 1)), (14, .int (nI v)), (13, .int z), (0, .ref b), (1, .ref (cb 0)), (2, .ref (a 0)), (3, .ref (a 1)), (4, .ref (a 2)), (5, .ref (a 3)), (6, .ref (a 4)), (7, .ref (a 5)), (8, .ref (a 6)), (9, .ref (a 7)), (10, .ref (a 8)), (11, .ref (a 9)), (12, .int (nI i))]) hx hb dL_law_245 hl (by decide) rfl (fun ls hl => ?_)
        refine lv_goto (tgt := 452) hx hb dL_law_247 (by decide) ?_
        refine W.widen (k := k9 + 10) (n := n9 + 100) (by omega) (by omega) ?_
        exact kk H locs ls ⟨_, _, a, cb, cap, _, _, _, _, hP, hS, LI_tn (by omega) hI2, hcap, (lv_sub hl [0, 2, 3, 4, 5, 6, 7, 8, 9, 10, 11, 12, 13, 14, 15] rfl)⟩
      · skip
        obtain ⟨hca, hco, hcN, hI2⟩ := op_quitted hI hkn hcan
        refine k_goRi hS (va_runS (rest := []) ⟨hx, hb, hml, hown, hts⟩ (c_L_leases_r l hl0 D q (lA s) a S cb C cap nl y w C h0 hcan trivial q1.1 q1.2 hO q3.2 q3.1 hnow hnl hca hco hcN) (va_cwS 5 hts gL_law_L_leases rfl rfl rfl (by decide +kernel) ⟨Nat.le_of_ble_eq_true rfl, Nat.le_of_ble_eq_true rfl⟩) ⟨kBL_blind, fun U hU hW => ⟨rfl, ⟨by rw [hU]; exact hP, hK.warm hW, hX.at hS hU hW⟩, fun z9 h9 => Nat.le_trans hS.1 (by rw [← hU]; exact h9)⟩⟩ rfl rfl hl.1 rfl (lv_room (Nat.le_of_ble_eq_true rfl)) dL_law_242 ⟨by show k9 + 2 ≤ 600086; omega, by show n9 + 12 ≤ 7301442; omega⟩) (fun H locs hP hS => ?_)
        refine lv_istore (lv' := [(15, .int (nI 1)), (14, .int (nI v)), (13, .int z), (0, .ref b), (1, .ref (cb 0)), (2, .ref (a 0)), (3, .ref (a 1)), (4, .ref (a 2)), (5, .ref (a 3)), (6, .ref (a 4)), (7, .ref (a 5)), (8, .ref (a 6)), (9, .ref (a 7)), (10, .ref (a 8)), (11, .ref (a 9)), (12, .int (nI i))]) hx hb dL_law_245 hl (by decide) rfl (fun ls hl => ?_)
        refine lv_goto (tgt := 452) hx hb dL_law_247 (by decide) ?_
        refine W.widen (k := k9 + 10) (n := n9 + 100) (by omega) (by omega) ?_
        exact kk H locs ls ⟨_, _, a, cb, cap, _, _, _, _, hP, hS, LI_tn (by omega) hI2, hcap, (lv_sub hl [0, 2, 3, 4, 5, 6, 7, 8, 9, 10, 11, 12, 13, 14, 15] rfl)⟩
  · skip
    refine lv_iconst (v := nI 0) hx hb dL_law_230 (by decide) ?_
    refine lv_goto (tgt := 235) hx hb dL_law_231 (by decide) ?_
    refine lv_iload hx hb dL_law_235 (lv_at hl 2 rfl) ?_
    refine lv_iconst (v := nI 5) hx hb dL_law_237 (by decide) ?_
    refine lv_ishr hx hb dL_law_238 ?_
    generalize z >>> (nI 5 &&& 31) = y
    refine lv_aload hx hb dL_law_239 (lv_at hl 13 rfl) ?_
    refine lv_aload_n hx hb dL_law_241 rfl (lv_at hl 5 rfl) ?_
    by_cases hfull : nl = 10
    · skip
      refine k_goRi hS (va_runS (rest := []) ⟨hx, hb, hml, hown, hts⟩ (c_L_leases_f l hl0 D q (lA s) a S cb C cap nl y w hfull q1.1 q1.2 hO q3.2 q3.1) (va_cwS 5 hts gL_law_L_leases rfl rfl rfl (by decide +kernel) ⟨Nat.le_of_ble_eq_true rfl, Nat.le_of_ble_eq_true rfl⟩) ⟨kBL_blind, fun U hU hW => ⟨rfl, ⟨by rw [hU]; exact hP, hK.warm hW, hX.at hS hU hW⟩, fun z9 h9 => Nat.le_trans hS.1 (by rw [← hU]; exact h9)⟩⟩ rfl rfl hl.1 rfl (lv_room (Nat.le_of_ble_eq_true rfl)) dL_law_242 ⟨by show k9 + 0 ≤ 600086; omega, by show n9 + 0 ≤ 7301442; omega⟩) (fun H locs hP hS => ?_)
      refine lv_istore (lv' := [(15, .int (nI 1)), (14, .int (nI v)), (13, .int z), (0, .ref b), (1, .ref (cb 0)), (2, .ref (a 0)), (3, .ref (a 1)), (4, .ref (a 2)), (5, .ref (a 3)), (6, .ref (a 4)), (7, .ref (a 5)), (8, .ref (a 6)), (9, .ref (a 7)), (10, .ref (a 8)), (11, .ref (a 9)), (12, .int (nI i))]) hx hb dL_law_245 hl (by decide) rfl (fun ls hl => ?_)
      refine lv_goto (tgt := 452) hx hb dL_law_247 (by decide) ?_
      refine W.widen (k := k9 + 10) (n := n9 + 100) (by omega) (by omega) ?_
      exact kk H locs ls ⟨_, _, a, cb, cap, _, _, _, _, hP, hS, LI_tn (by omega) hI, hcap, (lv_sub hl [0, 2, 3, 4, 5, 6, 7, 8, 9, 10, 11, 12, 13, 14, 15] rfl)⟩
    · skip
      have ht6 : lowN (y >>> (nI 3 &&& 31)) 6 < 6 := lowN_lt (by decide)
      have hb51 : lowN (y >>> (nI 5 &&& 31)) 51 ≤ 50 := by have : lowN (y >>> (nI 5 &&& 31)) 51 < 51 := lowN_lt (by decide); omega
      have hr51 : lowN (y >>> (nI 7 &&& 31)) 51 ≤ 50 := by have : lowN (y >>> (nI 7 &&& 31)) 51 < 51 := lowN_lt (by decide); omega
      have hl10 : nl < 10 := by omega
      by_cases hcan : yCa S (zD y) w (zH y) nl = 0
      · skip
        obtain ⟨hca, hc0⟩ := op_leased hI (d := zD y) (t := lowN (y >>> (nI 3 &&& 31)) 6) (b := lowN (y >>> (nI 5 &&& 31)) 51) (r := lowN (y >>> (nI 7 &&& 31)) 51) (hs := zH y) (zD_lt y) ht6 hb51 hr51 (zH_in y).1 (zH_in y).2 hcan
        refine k_goRi hS (va_runS (rest := []) ⟨hx, hb, hml, hown, hts⟩ (c_L_leases_n l hl0 D q (lA s) a S cb C cap nl y w hcan hl10 q1.1 q1.2 hO q3.2 q3.1 hnow hnl e0 hcap.1 hca hc0) (va_cwS 5 hts gL_law_L_leases rfl rfl rfl (by decide +kernel) ⟨Nat.le_of_ble_eq_true rfl, Nat.le_of_ble_eq_true rfl⟩) ⟨kBLe_blind, fun U hU hW => ⟨rfl, ⟨⟨by rw [hU]; exact hP, hK.warm hW, hX.at hS hU hW⟩, fun z9 h9 => Nat.le_trans hS.1 (by rw [← hU]; exact h9)⟩, hE.at hS hU hW⟩⟩ rfl rfl hl.1 rfl (lv_room (Nat.le_of_ble_eq_true rfl)) dL_law_242 ⟨by show k9 + 9 ≤ 600086; omega, by show n9 + 97 ≤ 7301442; omega⟩) (fun H locs hP hS => ?_)
        refine lv_istore (lv' := [(15, .int (nI 1)), (14, .int (nI v)), (13, .int z), (0, .ref b), (1, .ref (cb 0)), (2, .ref (a 0)), (3, .ref (a 1)), (4, .ref (a 2)), (5, .ref (a 3)), (6, .ref (a 4)), (7, .ref (a 5)), (8, .ref (a 6)), (9, .ref (a 7)), (10, .ref (a 8)), (11, .ref (a 9)), (12, .int (nI i))]) hx hb dL_law_245 hl (by decide) rfl (fun ls hl => ?_)
        refine lv_goto (tgt := 452) hx hb dL_law_247 (by decide) ?_
        refine W.widen (k := k9 + 10) (n := n9 + 100) (by omega) (by omega) ?_
        exact kk H locs ls ⟨_, _, a, cb, cap, _, _, _, _, hP, hS, LI_tn (by omega) hI, hcap, (lv_sub hl [0, 2, 3, 4, 5, 6, 7, 8, 9, 10, 11, 12, 13, 14, 15] rfl)⟩
      · skip
        obtain ⟨cN, hca, hc0, hco, hcN, hI2⟩ := op_lease hI (d := zD y) (t := lowN (y >>> (nI 3 &&& 31)) 6) (b := lowN (y >>> (nI 5 &&& 31)) 51) (r := lowN (y >>> (nI 7 &&& 31)) 51) (hs := zH y) (zD_lt y) ht6 hb51 hr51 (zH_in y).1 (zH_in y).2 hl10 hcan
        have hA : ∀ z9 : Nat, s.heap.size ≤ z9 → lA s z9 := fun _ h => h
        have hPn : kW D (lA s) ([] ++ wL q a S (wC q cb C cap nl)) H := hP
        refine k_goTi (wo := []) hPn hA hS (va_runS (rest := []) ⟨hx, hb, hml, hown, hts⟩ (c_L_leases_c l hl0 D q (va_A (wL q a S (wC q cb C cap nl)) H.size) a S cb C cap nl y w cN hcan hl10 q1.1 q1.2 hO q3.2 q3.1 hnow hnl e0 hcap.1 hca hc0 hco hcN) (va_cwS 5 hts gL_law_L_leases rfl rfl rfl (by decide +kernel) ⟨Nat.le_of_ble_eq_true rfl, Nat.le_of_ble_eq_true rfl⟩) ⟨kBLe_blind, fun U hU hW => ⟨rfl, ⟨⟨by rw [hU]; exact kW_cut hPn, hK.warm hW, (hX.at hS hU hW).narrow (kW_sub hPn (fun z9 h9 => hA z9 (Nat.le_trans hS.1 h9)))⟩, fun z9 h9 => Or.inr (by rw [← hU]; exact h9)⟩, (hE.at hS hU hW).narrow (kW_sub hPn (fun z9 h9 => hA z9 (Nat.le_trans hS.1 h9)))⟩⟩ rfl rfl hl.1 rfl (lv_room (Nat.le_of_ble_eq_true rfl)) dL_law_242 ⟨by show k9 + 9 ≤ 600086; omega, by show n9 + 97 ≤ 7301442; omega⟩) (fun r9 x9 H locs hq9 hP hS => ?_)
        obtain ⟨cb9, cap9, nl9⟩ := x9
        obtain ⟨rfl, ⟨hcb, hcap9, hcp⟩, rfl⟩ := hq9
        have ecb : cb9 0 = cb 0 := hcb 0 (by decide)
        refine lv_istore (lv' := [(15, .int (nI 1)), (14, .int (nI v)), (13, .int z), (0, .ref b), (1, .ref (cb 0)), (2, .ref (a 0)), (3, .ref (a 1)), (4, .ref (a 2)), (5, .ref (a 3)), (6, .ref (a 4)), (7, .ref (a 5)), (8, .ref (a 6)), (9, .ref (a 7)), (10, .ref (a 8)), (11, .ref (a 9)), (12, .int (nI i))]) hx hb dL_law_245 hl (by decide) rfl (fun ls hl => ?_)
        refine lv_goto (tgt := 452) hx hb dL_law_247 (by decide) ?_
        rw [← ecb] at hl
        refine W.widen (k := k9 + 10) (n := n9 + 100) (by omega) (by omega) ?_
        exact kk H locs ls ⟨_, _, a, cb9, cap9, _, _, _, _, hP, hS, LI_tn (by omega) hI2, ⟨Or.inr hcp, hcap9⟩, (lv_sub hl [0, 2, 3, 4, 5, 6, 7, 8, 9, 10, 11, 12, 13, 14, 15] rfl)⟩
set_option maxHeartbeats 4000000 in
set_option maxRecDepth 100000 in
theorem lc_pay {p : Program} {l : Launch} {e : Env} {s : State} {m : MethodId} {below : List Frame} {meth : Method} {c : Code} {b L : Nat} {xs : Nat → Int32} {D : va_G} {q : Nat → ClassId} {e0 : Nat} (E : lEnv p l s m meth c b L xs D q e0) {i v k9 n9 : Nat} {z : Int32} (hi : i < 80) (hv : v = 15) (hk : k9 + 10 ≤ 600086) (hn9 : n9 + 100 ≤ 7301442) (kk : lK p l e s m below meth c b D q e0 (i + 1) (pJ b i z) (k9 + 10) (n9 + 100) 452) : lK p l e s m below meth c b D q e0 i (pF b i v z) k9 n9 257 := by
  obtain ⟨⟨hx, hb, hr, hml, hown, hts0, hX0, hbl, hlocks, -⟩, hK, hX, hE, hl0⟩ := id E
  have hts := lEnv_hts hts0
  rintro H locs ls ⟨S, C, a, cb, cap, n, w, nl, L9, hP, hS, hI, hcap, hl⟩
  obtain ⟨hLR, T, hR⟩ := id hI
  obtain ⟨⟨q1, q2, q3, q4, q5⟩, hA9, ⟨hp1, hp2, hp3⟩, hT9, hF9, ⟨hL9, hC9⟩, hU9⟩ := id hLR
  have hO := LR_yO hLR
  have hyt := LR_yT hLR hR.1
  have hnow : C 0 0 = nI w := hR.1.2.1.1.1
  have hn9c : C 0 1 = nI n := hR.1.2.1.2.1.1
  have hnl : nl ≤ cap ∧ cap ≤ 40 ∧ nl ≤ 30 := ⟨hcap.2, hcap.le, by omega⟩
  refine lv_iload hx hb dL_law_257 (lv_at hl 2 rfl) ?_
  refine lv_iconst (v := nI 5) hx hb dL_law_259 (by decide) ?_
  refine lv_ishr hx hb dL_law_260 ?_
  generalize z >>> (nI 5 &&& 31) = y
  refine lv_bipush (v := nI 6) hx hb dL_law_261 (by decide) ?_
  refine k_callS (rest := []) (r := nI (lowN (y) (6))) ⟨hx, hb, hml, hown, hts⟩ (c_L_low l D q (y) (6) (by omega) (by omega)) (va_cwS 2 hts gL_law_L_low rfl rfl rfl (by decide +kernel) ⟨Nat.le_of_ble_eq_true rfl, Nat.le_of_ble_eq_true rfl⟩) hK trivial rfl hl.1 rfl (Nat.le_of_ble_eq_true rfl) dL_law_263 ⟨by show k9 ≤ 600086; omega, by show n9 ≤ 7301442; omega⟩ (fun _ h => h) ?_
  refine lv_istore (lv' := [(16, .int (nI (lowN y 6))), (15, .int (nI 1)), (14, .int (nI v)), (13, .int z), (0, .ref b), (1, .ref (cb 0)), (2, .ref (a 0)), (3, .ref (a 1)), (4, .ref (a 2)), (5, .ref (a 3)), (6, .ref (a 4)), (7, .ref (a 5)), (8, .ref (a 6)), (9, .ref (a 7)), (10, .ref (a 8)), (11, .ref (a 9)), (12, .int (nI i))]) hx hb dL_law_266 hl (by decide) rfl (fun ls hl => ?_)
  refine lv_iconst (v := nI 1) hx hb dL_law_268 (by decide) ?_
  refine lv_iload hx hb dL_law_269 (lv_at hl 3 rfl) ?_
  refine lv_bipush (v := nI 8) hx hb dL_law_271 (by decide) ?_
  refine lv_ishr hx hb dL_law_273 ?_
  generalize z >>> (nI 8 &&& 31) = y2
  refine lv_sipush (v := nI 9000) hx hb dL_law_274 (by decide) ?_
  refine k_callS (rest := [.int (nI 1)]) (r := nI (lowN (y2) (9000))) ⟨hx, hb, hml, hown, hts⟩ (c_L_low l D q (y2) (9000) (by omega) (by omega)) (va_cwS 2 hts gL_law_L_low rfl rfl rfl (by decide +kernel) ⟨Nat.le_of_ble_eq_true rfl, Nat.le_of_ble_eq_true rfl⟩) hK trivial rfl hl.1 rfl (Nat.le_of_ble_eq_true rfl) dL_law_277 ⟨by show k9 ≤ 600086; omega, by show n9 ≤ 7301442; omega⟩ (fun _ h => h) ?_
  refine lv_iadd hx hb dL_law_280 ?_
  refine k_top (y := nI (1 + lowN y2 9000)) (nI_add _ _) ?_
  refine lv_istore (lv' := [(17, .int (nI (1 + lowN y2 9000))), (16, .int (nI (lowN y 6))), (15, .int (nI 1)), (14, .int (nI v)), (13, .int z), (0, .ref b), (1, .ref (cb 0)), (2, .ref (a 0)), (3, .ref (a 1)), (4, .ref (a 2)), (5, .ref (a 3)), (6, .ref (a 4)), (7, .ref (a 5)), (8, .ref (a 6)), (9, .ref (a 7)), (10, .ref (a 8)), (11, .ref (a 9)), (12, .int (nI i))]) hx hb dL_law_281 hl (by decide) rfl (fun ls hl => ?_)
  have hb6 : lowN y 6 < 6 := lowN_lt (by decide)
  have hm9 : lowN y2 9000 < 9000 := lowN_lt (by decide)
  have hA : ∀ z9 : Nat, s.heap.size ≤ z9 → lA s z9 := fun _ h => h
  obtain ⟨-, -, hso, -⟩ := LI_so hLR hR.1
  have hco1 := (hso (lowN y 6) hb6).2.2
  obtain ⟨cN, hco, hI2⟩ := op_pay hI (b := lowN y 6) (v := 1 + lowN y2 9000) hb6 (by omega) (by omega) (by omega)
  refine lv_aload_n hx hb dL_law_283 rfl (lv_at hl 6 rfl) ?_
  refine lv_iload hx hb dL_law_284 (lv_at hl 1 rfl) ?_
  refine k_goLi (H0 := s.heap) hP hA hS (vx_runV (rest := []) ⟨hx, hb, hml, hown, hts⟩ (c_X4_owes l hl0 D q (va_A (wC q cb C cap nl) H.size) cb C cap nl (nI (lowN y 6)) hnl) (cwV 1 hts gL_law_X4_owes rfl rfl rfl (by decide +kernel) ⟨Nat.le_of_ble_eq_true rfl, Nat.le_of_ble_eq_true rfl⟩) ⟨kBX_blind, (va_recv hK.1 hP.1 (ci := 5) (q0 := 10) rfl rfl), fun U hU hW => ⟨rfl, by rw [hU]; exact kW_cut hP, hK.warm hW, (hX.at hS hU hW).narrow (kW_sub hP (fun z9 h9 => hA z9 (Nat.le_trans hS.1 h9)))⟩⟩ rfl rfl hl.1 rfl (lv_room (Nat.le_of_ble_eq_true rfl)) dL_law_286 ⟨by show k9 + 1 ≤ 600086; omega, by show n9 + 6 ≤ 7301442; omega⟩) (fun E ce q9 H locs hE hP hS h1 h2 h3 => absurd hE (by rw [hco1]; exact exC_no (by decide))) (fun r9 H locs hr9 hP hS => ?_)
  obtain ⟨-, rfl⟩ := hr9
  rw [hco1] at hP ⊢
  dsimp only at hP ⊢
  refine lv_istore (lv' := [(18, .int (yOw S n w (lowN y 6) nl)), (17, .int (nI (1 + lowN y2 9000))), (16, .int (nI (lowN y 6))), (15, .int (nI 1)), (14, .int (nI v)), (13, .int z), (0, .ref b), (1, .ref (cb 0)), (2, .ref (a 0)), (3, .ref (a 1)), (4, .ref (a 2)), (5, .ref (a 3)), (6, .ref (a 4)), (7, .ref (a 5)), (8, .ref (a 6)), (9, .ref (a 7)), (10, .ref (a 8)), (11, .ref (a 9)), (12, .int (nI i))]) hx hb dL_law_289 hl (by decide) rfl (fun ls hl => ?_)
  refine lv_aload hx hb dL_law_291 (lv_at hl 17 rfl) ?_
  refine lv_bipush (v := nI 24) hx hb dL_law_293 (by decide) ?_
  refine lv_iload hx hb dL_law_295 (lv_at hl 2 rfl) ?_
  refine lv_iadd hx hb dL_law_297 ?_
  refine k_top (y := nI (24 + lowN y 6)) (nI_add _ _) ?_
  refine lv_dup2_11 hx hb dL_law_298 rfl rfl ?_
  refine k_iald hx hb hK hP.1 9 rfl (24 + lowN y 6) rfl (by omega) (by decide) dL_law_299 ?_
  refine lv_iload hx hb dL_law_300 (lv_at hl 1 rfl) ?_
  refine lv_iadd hx hb dL_law_302 ?_
  refine k_iast (wL q a (up S 9 (24 + lowN y 6) (S 9 (24 + lowN y 6) + nI (1 + lowN y2 9000))) (wC q cb C cap nl)) hx hb hK hP hS 9 rfl (24 + lowN y 6) rfl (by omega) (by decide) wL_s9 dL_law_303 (fun H locs hP hS => ?_)
  refine lv_aload_n hx hb dL_law_304 rfl (lv_at hl 7 rfl) ?_
  refine lv_iload hx hb dL_law_305 (lv_at hl 2 rfl) ?_
  refine lv_iload hx hb dL_law_307 (lv_at hl 1 rfl) ?_
  refine k_goLi (H0 := s.heap) hP hA hS (vx_runV (rest := []) ⟨hx, hb, hml, hown, hts⟩ (c_X4_pay l hl0 D q (va_A (wC q cb C cap nl) H.size) cb C cap nl (nI (lowN y 6)) (nI (1 + lowN y2 9000)) hnl) (cwV 2 hts gL_law_X4_pay rfl rfl rfl (by decide +kernel) ⟨Nat.le_of_ble_eq_true rfl, Nat.le_of_ble_eq_true rfl⟩) ⟨kBX_blind, (va_recv hK.1 hP.1 (ci := 5) (q0 := 10) rfl rfl), fun U hU hW => ⟨rfl, by rw [hU]; exact kW_cut hP, hK.warm hW, (hX.at hS hU hW).narrow (kW_sub hP (fun z9 h9 => hA z9 (Nat.le_trans hS.1 h9)))⟩⟩ rfl rfl hl.1 rfl (lv_room (Nat.le_of_ble_eq_true rfl)) dL_law_309 ⟨by show k9 + 1 + 3 ≤ 600086; omega, by show n9 + 6 + 18 ≤ 7301442; omega⟩) (fun E ce q9 H locs hE hP hS h1 h2 h3 => absurd hE (by rw [hco]; exact exC_no (by decide))) (fun r9 H locs hr9 hP hS => ?_)
  obtain ⟨-, rfl⟩ := hr9
  rw [hco] at hP ⊢
  dsimp only at hP ⊢
  refine lv_iload hx hb dL_law_312 (lv_at hl 0 rfl) ?_
  refine lv_iload hx hb dL_law_314 (lv_at hl 1 rfl) ?_
  refine lv_isub hx hb dL_law_316 ?_
  refine k_icmp_ne (P := True) (tgt := 324) hx hb dL_law_317 (by decide) ⟨fun _ => trivial, fun _ => rfl⟩ (fun c1 => (c1 trivial).elim) (fun c1 => ?_)
  refine lv_iconst (v := nI 1) hx hb dL_law_320 (by decide) ?_
  refine lv_goto (tgt := 325) hx hb dL_law_321 (by decide) ?_
  refine lv_istore (lv' := [(15, .int (nI 1)), (18, .int (yOw S n w (lowN y 6) nl)), (17, .int (nI (1 + lowN y2 9000))), (16, .int (nI (lowN y 6))), (14, .int (nI v)), (13, .int z), (0, .ref b), (1, .ref (cb 0)), (2, .ref (a 0)), (3, .ref (a 1)), (4, .ref (a 2)), (5, .ref (a 3)), (6, .ref (a 4)), (7, .ref (a 5)), (8, .ref (a 6)), (9, .ref (a 7)), (10, .ref (a 8)), (11, .ref (a 9)), (12, .int (nI i))]) hx hb dL_law_325 hl (by decide) rfl (fun ls hl => ?_)
  refine lv_goto (tgt := 452) hx hb dL_law_327 (by decide) ?_
  refine W.widen (k := k9 + 10) (n := n9 + 100) (by omega) (by omega) ?_
  exact kk H locs ls ⟨_, _, a, cb, cap, _, _, _, _, hP, hS, LI_tn (by omega) hI2, hcap, (lv_sub hl [0, 5, 6, 7, 8, 9, 10, 11, 12, 13, 14, 15, 16, 17, 18] rfl)⟩
set_option maxHeartbeats 4000000 in
set_option maxRecDepth 100000 in
theorem lc_asks {p : Program} {l : Launch} {e : Env} {s : State} {m : MethodId} {below : List Frame} {meth : Method} {c : Code} {b L : Nat} {xs : Nat → Int32} {D : va_G} {q : Nat → ClassId} {e0 : Nat} (E : lEnv p l s m meth c b L xs D q e0) {i v k9 n9 : Nat} {z : Int32} (hi : i < 80) (hv : v < 22) (hk : k9 + 10 ≤ 600086) (hn9 : n9 + 100 ≤ 7301442) (kk : lK p l e s m below meth c b D q e0 (i + 1) (pJ b i z) (k9 + 10) (n9 + 100) 452) : lK p l e s m below meth c b D q e0 i (pF b i v z) k9 n9 337 := by
  obtain ⟨⟨hx, hb, hr, hml, hown, hts0, hX0, hbl, hlocks, -⟩, hK, hX, hE, hl0⟩ := id E
  have hts := lEnv_hts hts0
  rintro H locs ls ⟨S, C, a, cb, cap, n, w, nl, L9, hP, hS, hI, hcap, hl⟩
  obtain ⟨hLR, T, hR⟩ := id hI
  obtain ⟨⟨q1, q2, q3, q4, q5⟩, hA9, ⟨hp1, hp2, hp3⟩, hT9, hF9, ⟨hL9, hC9⟩, hU9⟩ := id hLR
  have hO := LR_yO hLR
  have hyt := LR_yT hLR hR.1
  have hnow : C 0 0 = nI w := hR.1.2.1.1.1
  have hn9c : C 0 1 = nI n := hR.1.2.1.2.1.1
  have hnl : nl ≤ cap ∧ cap ≤ 40 ∧ nl ≤ 30 := ⟨hcap.2, hcap.le, by omega⟩
  refine lv_aload_n hx hb dL_law_337 rfl (lv_at hl 4 rfl) ?_
  refine lv_iload hx hb dL_law_338 (lv_at hl 1 rfl) ?_
  refine lv_bipush (v := nI 20) hx hb dL_law_340 (by decide) ?_
  refine k_icmp_ge (P := v < 20) (tgt := 349) hx hb dL_law_342 (by decide) (nI_ltI (by omega) (by omega)) (fun c1 => ?_) (fun c1 => ?_)
  · skip
    refine lv_iconst (v := nI 1) hx hb dL_law_349 (by decide) ?_
    refine lv_iload hx hb dL_law_350 (lv_at hl 2 rfl) ?_
    refine lv_iconst (v := nI 5) hx hb dL_law_352 (by decide) ?_
    refine lv_ishr hx hb dL_law_353 ?_
    generalize z >>> (nI 5 &&& 31) = y
    refine lv_aload hx hb dL_law_354 (lv_at hl 11 rfl) ?_
    refine lv_aload hx hb dL_law_356 (lv_at hl 14 rfl) ?_
    refine lv_aload_n hx hb dL_law_358 rfl (lv_at hl 5 rfl) ?_
    by_cases hfull : L9 = 20
    · skip
      refine k_goRi hS (va_runS (rest := []) ⟨hx, hb, hml, hown, hts⟩ (c_L_asks_f l hl0 D q (lA s) a S cb C cap nl y L9 C q4.1 q4.2 hfull) (va_cwS 6 hts gL_law_L_asks rfl rfl rfl (by decide +kernel) ⟨Nat.le_of_ble_eq_true rfl, Nat.le_of_ble_eq_true rfl⟩) ⟨kBL_blind, fun U hU hW => ⟨rfl, ⟨by rw [hU]; exact hP, hK.warm hW, hX.at hS hU hW⟩, fun z9 h9 => Nat.le_trans hS.1 (by rw [← hU]; exact h9)⟩⟩ rfl rfl hl.1 rfl (lv_room (Nat.le_of_ble_eq_true rfl)) dL_law_359 ⟨by show k9 + 2 ≤ 600086; omega, by show n9 + 12 ≤ 7301442; omega⟩) (fun H locs hP hS => ?_)
      refine lv_istore (lv' := [(15, .int (nI 1)), (14, .int (nI v)), (13, .int z), (0, .ref b), (1, .ref (cb 0)), (2, .ref (a 0)), (3, .ref (a 1)), (4, .ref (a 2)), (5, .ref (a 3)), (6, .ref (a 4)), (7, .ref (a 5)), (8, .ref (a 6)), (9, .ref (a 7)), (10, .ref (a 8)), (11, .ref (a 9)), (12, .int (nI i))]) hx hb dL_law_362 hl (by decide) rfl (fun ls hl => ?_)
      refine lv_goto (tgt := 452) hx hb dL_law_364 (by decide) ?_
      refine W.widen (k := k9 + 10) (n := n9 + 100) (by omega) (by omega) ?_
      exact kk H locs ls ⟨_, _, a, cb, cap, _, _, _, _, hP, hS, LI_tn (by omega) hI, hcap, (lv_sub hl [0, 2, 3, 4, 5, 6, 7, 8, 9, 10, 11, 12, 13, 14, 15] rfl)⟩
    · skip
      obtain ⟨cN, hca, hco, hcN, hI2⟩ := op_lot hI (v := lowN y 1001) (by have : lowN y 1001 < 1001 := lowN_lt (by decide); omega) (by omega)
      refine k_goRi hS (va_runS (rest := []) ⟨hx, hb, hml, hown, hts⟩ (c_L_asks_l l hl0 D q (lA s) a S cb C cap nl y L9 cN q4.1 q4.2 hfull hR.1.2.1.2.2.2.1 hca hco hcN) (va_cwS 6 hts gL_law_L_asks rfl rfl rfl (by decide +kernel) ⟨Nat.le_of_ble_eq_true rfl, Nat.le_of_ble_eq_true rfl⟩) ⟨kBL_blind, fun U hU hW => ⟨rfl, ⟨by rw [hU]; exact hP, hK.warm hW, hX.at hS hU hW⟩, fun z9 h9 => Nat.le_trans hS.1 (by rw [← hU]; exact h9)⟩⟩ rfl rfl hl.1 rfl (lv_room (Nat.le_of_ble_eq_true rfl)) dL_law_359 ⟨by show k9 + 2 ≤ 600086; omega, by show n9 + 12 ≤ 7301442; omega⟩) (fun H locs hP hS => ?_)
      refine lv_istore (lv' := [(15, .int (nI 1)), (14, .int (nI v)), (13, .int z), (0, .ref b), (1, .ref (cb 0)), (2, .ref (a 0)), (3, .ref (a 1)), (4, .ref (a 2)), (5, .ref (a 3)), (6, .ref (a 4)), (7, .ref (a 5)), (8, .ref (a 6)), (9, .ref (a 7)), (10, .ref (a 8)), (11, .ref (a 9)), (12, .int (nI i))]) hx hb dL_law_362 hl (by decide) rfl (fun ls hl => ?_)
      refine lv_goto (tgt := 452) hx hb dL_law_364 (by decide) ?_
      refine W.widen (k := k9 + 10) (n := n9 + 100) (by omega) (by omega) ?_
      exact kk H locs ls ⟨_, _, a, cb, cap, _, _, _, _, hP, hS, LI_tn (by omega) hI2, hcap, (lv_sub hl [0, 2, 3, 4, 5, 6, 7, 8, 9, 10, 11, 12, 13, 14, 15] rfl)⟩
  · skip
    refine lv_iconst (v := nI 0) hx hb dL_law_345 (by decide) ?_
    refine lv_goto (tgt := 350) hx hb dL_law_346 (by decide) ?_
    refine lv_iload hx hb dL_law_350 (lv_at hl 2 rfl) ?_
    refine lv_iconst (v := nI 5) hx hb dL_law_352 (by decide) ?_
    refine lv_ishr hx hb dL_law_353 ?_
    generalize z >>> (nI 5 &&& 31) = y
    refine lv_aload hx hb dL_law_354 (lv_at hl 11 rfl) ?_
    refine lv_aload hx hb dL_law_356 (lv_at hl 14 rfl) ?_
    refine lv_aload_n hx hb dL_law_358 rfl (lv_at hl 5 rfl) ?_
    by_cases hcan : S 9 (18 + (lowN y 6)) >>> (nI (zS y) &&& 31) &&& nI 1 = 0
    · skip
      obtain ⟨cN, hca, hco, hcN, hI2⟩ := op_ask hI (b := lowN y 6) (s := zS y) (lowN_lt (by decide)) (zS_lt y) hcan
      refine k_goRi hS (va_runS (rest := []) ⟨hx, hb, hml, hown, hts⟩ (c_L_asks_c l hl0 D q (lA s) a S cb C cap nl y cN hcan hca hco hcN) (va_cwS 6 hts gL_law_L_asks rfl rfl rfl (by decide +kernel) ⟨Nat.le_of_ble_eq_true rfl, Nat.le_of_ble_eq_true rfl⟩) ⟨kBL_blind, fun U hU hW => ⟨rfl, ⟨by rw [hU]; exact hP, hK.warm hW, hX.at hS hU hW⟩, fun z9 h9 => Nat.le_trans hS.1 (by rw [← hU]; exact h9)⟩⟩ rfl rfl hl.1 rfl (lv_room (Nat.le_of_ble_eq_true rfl)) dL_law_359 ⟨by show k9 + 3 ≤ 600086; omega, by show n9 + 18 ≤ 7301442; omega⟩) (fun H locs hP hS => ?_)
      refine lv_istore (lv' := [(15, .int (nI 1)), (14, .int (nI v)), (13, .int z), (0, .ref b), (1, .ref (cb 0)), (2, .ref (a 0)), (3, .ref (a 1)), (4, .ref (a 2)), (5, .ref (a 3)), (6, .ref (a 4)), (7, .ref (a 5)), (8, .ref (a 6)), (9, .ref (a 7)), (10, .ref (a 8)), (11, .ref (a 9)), (12, .int (nI i))]) hx hb dL_law_362 hl (by decide) rfl (fun ls hl => ?_)
      refine lv_goto (tgt := 452) hx hb dL_law_364 (by decide) ?_
      refine W.widen (k := k9 + 10) (n := n9 + 100) (by omega) (by omega) ?_
      exact kk H locs ls ⟨_, _, a, cb, cap, _, _, _, _, hP, hS, LI_tn (by omega) hI2, hcap, (lv_sub hl [0, 2, 3, 4, 5, 6, 7, 8, 9, 10, 11, 12, 13, 14, 15] rfl)⟩
    · skip
      obtain ⟨hca, hco, hcN, hI2⟩ := op_asked hI (b := lowN y 6) (s := zS y) (lowN_lt (by decide)) (zS_lt y) hcan
      refine k_goRi hS (va_runS (rest := []) ⟨hx, hb, hml, hown, hts⟩ (c_L_asks_n l hl0 D q (lA s) a S cb C cap nl y C hcan hca hco hcN) (va_cwS 6 hts gL_law_L_asks rfl rfl rfl (by decide +kernel) ⟨Nat.le_of_ble_eq_true rfl, Nat.le_of_ble_eq_true rfl⟩) ⟨kBL_blind, fun U hU hW => ⟨rfl, ⟨by rw [hU]; exact hP, hK.warm hW, hX.at hS hU hW⟩, fun z9 h9 => Nat.le_trans hS.1 (by rw [← hU]; exact h9)⟩⟩ rfl rfl hl.1 rfl (lv_room (Nat.le_of_ble_eq_true rfl)) dL_law_359 ⟨by show k9 + 3 ≤ 600086; omega, by show n9 + 18 ≤ 7301442; omega⟩) (fun H locs hP hS => ?_)
      refine lv_istore (lv' := [(15, .int (nI 1)), (14, .int (nI v)), (13, .int z), (0, .ref b), (1, .ref (cb 0)), (2, .ref (a 0)), (3, .ref (a 1)), (4, .ref (a 2)), (5, .ref (a 3)), (6, .ref (a 4)), (7, .ref (a 5)), (8, .ref (a 6)), (9, .ref (a 7)), (10, .ref (a 8)), (11, .ref (a 9)), (12, .int (nI i))]) hx hb dL_law_362 hl (by decide) rfl (fun ls hl => ?_)
      refine lv_goto (tgt := 452) hx hb dL_law_364 (by decide) ?_
      refine W.widen (k := k9 + 10) (n := n9 + 100) (by omega) (by omega) ?_
      exact kk H locs ls ⟨_, _, a, cb, cap, _, _, _, _, hP, hS, LI_tn (by omega) hI2, hcap, (lv_sub hl [0, 2, 3, 4, 5, 6, 7, 8, 9, 10, 11, 12, 13, 14, 15] rfl)⟩
