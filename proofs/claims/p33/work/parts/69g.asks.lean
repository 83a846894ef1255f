set_option maxHeartbeats 4000000 in
set_option maxRecDepth 100000 in
theorem lp_L_asks_1_81 {p : Program} {l : Launch} {e : Env} {u : State} {m : MethodId} {below : List Frame} {meth : Method} {c : Code} {D : va_G} {q : Nat → ClassId} {A : Nat → Prop} (hl0 : l.stackTraces = false) (a : Nat → Nat) (S : Nat → Nat → Int32) (cb : Nat → Nat) (cM : Nat → Nat → Int32) (cap nl : Nat) (z : Int32) (cN : Nat → Nat → Int32) (hcan : S 9 (18 + (lowN z 6)) >>> (nI (zS z) &&& 31) &&& nI 1 = 0) (hE : caE [eI, eS] (coAsk cM (nI (lowN z 6)) (nI (zS z)))) (hco : caV (coAsk cM (nI (lowN z 6)) (nI (zS z))) = yMy (yAM S (lowN z 6) (zS z)) (lowN z 6) 12) (hcN : outS cM (coAsk cM (nI (lowN z 6)) (nI (zS z))) = cN) (C0 : kAt p u m #[.ref (cb 0), .int (nI 0), .int (z), .ref (a 6), .ref (a 9), .ref (a 0)] meth c cL_asks 11 (some .boolean) RL wsL_asks) (hK : kK D q u) (hX : kX A u) (hA : ∀ z : Nat, u.heap.size ≤ z → A z) :
    ∀ (f : Nat) (k : Nat) (T : Nat → Nat → Int32) (x6 : Int32) (x7 : Int32) (x8 : Int32) (x9 : Int32) (x10 : Int32), 12 - k < f → k ≤ 12 → lowN z 6 < 6 → T = (yAM S (lowN z 6) (zS z)) → x6 = nI (lowN z 6) → x7 = nI (zS z) → x8 = nI 1 → x9 = yMy (yAM S (lowN z 6) (zS z)) (lowN z 6) k → x10 = nI k → ∀ (H : Heap) (locs : List Loc), kW D A (wL q a T ((wC q cb cM cap nl))) H → va_S A u.heap H locs → ∀ (ls : Array Slot), lv_has ls 11 [(0, .ref (cb 0)), (1, .int (nI 0)), (2, .int (z)), (3, .ref (a 6)), (4, .ref (a 9)), (5, .ref (a 0)), (6, .int x6), (7, .int x7), (8, .int x8), (9, .int x9), (10, .int x10)] → W p l e ({ frames := 9, cells := 3, slots := 18, locals := 271 } : Room) u m #[.ref (cb 0), .int (nI 0), .int (z), .ref (a 6), .ref (a 9), .ref (a 0)] below meth c H locs 0 0 (MQ below (kRi D A (nI 1) (wL q a ((yAM S (lowN z 6) (zS z))) ((wC q cb cN cap nl)))) #[.ref (cb 0), .int (nI 0), .int (z), .ref (a 6), .ref (a 9), .ref (a 0)] u 3 18 A) (F0 m 81 ls []) := by
  obtain ⟨hx, hb, hr, hml, hown, hts, hlocks⟩ := id C0
  intro f
  induction f with
  | zero =>
    intro k T x6 x7 x8 x9 x10 hf
    exact absurd hf (Nat.not_lt_zero _)
  | succ f ih =>
    intro k T x6 x7 x8 x9 x10 hf hk hl6 eT e6 e7 e8 e9 e10 H locs hP hS ls hl
    replace eT := eT.symm
    subst eT
    replace e6 := e6.symm
    subst e6
    replace e7 := e7.symm
    subst e7
    replace e8 := e8.symm
    subst e8
    replace e9 := e9.symm
    subst e9
    replace e10 := e10.symm
    subst e10
    refine lv_iload hx hb dL_asks_81 (lv_at hl 10 rfl) ?_
    refine lv_bipush (v := nI 12) hx hb dL_asks_83 (by decide) ?_
    refine k_icmp_ge (P := k < 12) (tgt := 112) hx hb dL_asks_85 (by decide) (nI_ltI (by omega) (by omega)) (fun c_1 => ?_) (fun c_1 => ?_)
    · skip
      obtain rfl : k = 12 := by omega
      refine lv_aload_n hx hb dL_asks_112 rfl (lv_at hl 0 rfl) ?_
      refine lv_iconst (v := nI 3) hx hb dL_asks_113 (by decide) ?_
      refine lv_iload hx hb dL_asks_114 (lv_at hl 6 rfl) ?_
      refine lv_iload hx hb dL_asks_116 (lv_at hl 7 rfl) ?_
      refine lv_iconst (v := nI 0) hx hb dL_asks_118 (by decide) ?_
      refine lv_iconst (v := nI 0) hx hb dL_asks_119 (by decide) ?_
      refine lv_iconst (v := nI 0) hx hb dL_asks_120 (by decide) ?_
      refine k_goW hP (fun z9 h9 => hA z9 h9) hS (vx_runSW (rest := []) ⟨hx, hb, hml, hown, hts⟩ (c_L_calls_ask l hl0 D q (va_A (wC q cb cM cap nl) H.size) cb cM cap nl (nI (lowN z 6)) (nI (zS z)) (nI 0) (nI 0) (nI 0) hE) (vx_cwSW 7 hts gL_asks_L_calls rfl rfl rfl (by decide +kernel) ⟨Nat.le_of_ble_eq_true rfl, Nat.le_of_ble_eq_true rfl⟩) ⟨kBL_blind, fun U hU hW => ⟨rfl, ⟨by rw [hU]; exact kW_cut hP, hK.warm hW, (hX.at hS hU hW).narrow (kW_sub hP (fun z9 h9 => hA z9 (Nat.le_trans hS.1 h9)))⟩, fun z9 h9 => Or.inr (by rw [← hU]; exact h9)⟩⟩ rfl rfl hl.1 rfl (lv_room (Nat.le_of_ble_eq_true rfl)) dL_asks_121 ⟨by show 0 + 3 ≤ 3; omega, by show 0 + 18 ≤ 18; omega⟩) (fun H locs hP hS => ?_)
      have hP : kW D A (wL q a ((yAM S (lowN z 6) (zS z))) ((wC q cb cN cap nl))) H := by rw [← hcN]; exact hP
      refine k_top (y := yMy (yAM S (lowN z 6) (zS z)) (lowN z 6) 12) hco ?_
      refine lv_iload hx hb dL_asks_124 (lv_at hl 8 rfl) ?_
      refine k_if_eq (P := False) (tgt := 134) hx hb dL_asks_126 (by decide) ⟨fun z => absurd z (by decide), False.elim⟩ (fun c_2 => ?_) (fun c_2 => ?_)
      · skip
        exact c_2.elim
      · skip
        refine lv_iload hx hb dL_asks_129 (lv_at hl 9 rfl) ?_
        refine lv_goto (tgt := 136) hx hb dL_asks_131 (by decide) ?_
        refine k_icmp_ne (P := True) (tgt := 143) hx hb dL_asks_136 (by decide) ⟨fun _ => trivial, fun _ => rfl⟩ (fun c_3 => ?_) (fun c_3 => ?_)
        · skip
          exact (c_3 trivial).elim
        · skip
          refine lv_iconst (v := nI 1) hx hb dL_asks_139 (by decide) ?_
          refine lv_goto (tgt := 144) hx hb dL_asks_140 (by decide) ?_
          refine W.widen (k := 3) (n := 18) (by first | exact Nat.le_of_ble_eq_true rfl | omega) (by first | exact Nat.le_of_ble_eq_true rfl | omega) ?_
          exact k_zretW hx hb hr hlocks rfl hP hS (by rfl) dL_asks_144
    · skip
      refine lv_iload hx hb dL_asks_88 (lv_at hl 9 rfl) ?_
      refine lv_aload hx hb dL_asks_90 (lv_at hl 4 rfl) ?_
      refine lv_bipush (v := nI 18) hx hb dL_asks_92 (by decide) ?_
      refine lv_iload hx hb dL_asks_94 (lv_at hl 6 rfl) ?_
      refine lv_iadd hx hb dL_asks_96 ?_
      refine k_top (y := nI (18 + (lowN z 6))) (nI_add _ _) ?_
      refine k_iald hx hb hK hP.1 9 rfl (18 + (lowN z 6)) rfl (by omega) (by decide) dL_asks_97 ?_
      refine lv_iload hx hb dL_asks_98 (lv_at hl 10 rfl) ?_
      refine lv_ishr hx hb dL_asks_100 ?_
      refine lv_iconst (v := nI 1) hx hb dL_asks_101 (by decide) ?_
      refine lv_iand hx hb dL_asks_102 ?_
      refine lv_iadd hx hb dL_asks_103 ?_
      refine lv_istore (lv' := [(9, .int ((yMy (yAM S (lowN z 6) (zS z)) (lowN z 6) k) + (((((yAM S (lowN z 6) (zS z))) 9 (18 + (lowN z 6))) >>> ((nI k) &&& 31)) &&& (nI 1)))), (0, .ref (cb 0)), (1, .int (nI 0)), (2, .int (z)), (3, .ref (a 6)), (4, .ref (a 9)), (5, .ref (a 0)), (6, .int (nI (lowN z 6))), (7, .int (nI (zS z))), (8, .int (nI 1)), (10, .int (nI k))]) hx hb dL_asks_104 hl (by decide) rfl (fun ls hl => ?_)
      refine lv_iinc (v := nI (k + 1)) (lv' := [(10, .int (nI (k + 1))), (9, .int ((yMy (yAM S (lowN z 6) (zS z)) (lowN z 6) k) + (((((yAM S (lowN z 6) (zS z))) 9 (18 + (lowN z 6))) >>> ((nI k) &&& 31)) &&& (nI 1)))), (0, .ref (cb 0)), (1, .int (nI 0)), (2, .int (z)), (3, .ref (a 6)), (4, .ref (a 9)), (5, .ref (a 0)), (6, .int (nI (lowN z 6))), (7, .int (nI (zS z))), (8, .int (nI 1))]) hx hb dL_asks_106 hl (k := 10) rfl (k_iinc _) (by decide) rfl (fun ls hl => ?_)
      refine lv_goto (tgt := 81) hx hb dL_asks_109 (by decide) ?_
      refine W.widen (k := 0) (n := 0) (by omega) (by omega) ?_
      exact ih (k + 1) ((yAM S (lowN z 6) (zS z))) (nI (lowN z 6)) (nI (zS z)) (nI 1) ((yMy (yAM S (lowN z 6) (zS z)) (lowN z 6) k) + (((((yAM S (lowN z 6) (zS z))) 9 (18 + (lowN z 6))) >>> ((nI k) &&& 31)) &&& (nI 1))) (nI (k + 1)) (by omega) (by first | omega | assumption) (by first | omega | assumption) rfl rfl rfl rfl (by rfl) rfl _ _ hP hS ls (lv_sub hl [2, 3, 4, 5, 6, 7, 8, 9, 10, 1, 0] rfl)
set_option maxHeartbeats 4000000 in
set_option maxRecDepth 100000 in
theorem c_L_asks_c (l : Launch) (hl0 : l.stackTraces = false) (D : va_G) (q : Nat → ClassId) (A : Nat → Prop) (a : Nat → Nat) (S : Nat → Nat → Int32) (cb : Nat → Nat) (cM : Nat → Nat → Int32) (cap nl : Nat) (z : Int32) (cN : Nat → Nat → Int32) (hcan : S 9 (18 + (lowN z 6)) >>> (nI (zS z) &&& 31) &&& nI 1 = 0) (hE : caE [eI, eS] (coAsk cM (nI (lowN z 6)) (nI (zS z)))) (hco : caV (coAsk cM (nI (lowN z 6)) (nI (zS z))) = yMy (yAM S (lowN z 6) (zS z)) (lowN z 6) 12) (hcN : outS cM (coAsk cM (nI (lowN z 6)) (nI (zS z))) = cN) : Met l yL_asks wsL_asks ({ frames := 9, cells := 3, slots := 18, locals := 271 } : Room) (va_Pc [.ref (cb 0), .int (nI 0), .int (z), .ref (a 6), .ref (a 9), .ref (a 0)] (kBL D q A (fun H => kW D A (wL q a S ((wC q cb cM cap nl))) H))) (kRi D A (nI 1) (wL q a ((yAM S (lowN z 6) (zS z))) ((wC q cb cN cap nl)))) 3 18 A := by
  refine Met.ofW (cc := cL_asks) (maxL := 11) (ret := (some .boolean)) (by decide) rfl ?_
  intro p e u m args below meth c s₁ B hml0 hv
  obtain ⟨rfl, ⟨hP, hK, hX⟩, hA⟩ := hv
  have C0 : kAt p u m #[.ref (cb 0), .int (nI 0), .int (z), .ref (a 6), .ref (a 9), .ref (a 0)] meth c cL_asks 11 (some .boolean) RL wsL_asks := kAt_of B hml0
  obtain ⟨hx, hb, hr, hml, hown, hts, hlocks⟩ := id C0
  have hS : va_S A u.heap u.heap [] := va_S.rf
  have hl := lv_entry ([.ref (cb 0), .int (nI 0), .int (z), .ref (a 6), .ref (a 9), .ref (a 0)]) (n := 11) (Nat.le_of_ble_eq_true rfl)
  rw [lg_entry_eq]
  generalize (lg_sl ([.ref (cb 0), .int (nI 0), .int (z), .ref (a 6), .ref (a 9), .ref (a 0)]) ++ List.replicate (11 - (lg_sl ([.ref (cb 0), .int (nI 0), .int (z), .ref (a 6), .ref (a 9), .ref (a 0)])).length) Slot.unset).toArray = ls at hl ⊢
  have hl : lv_has ls 11 [(0, .ref (cb 0)), (1, .int (nI 0)), (2, .int (z)), (3, .ref (a 6)), (4, .ref (a 9)), (5, .ref (a 0))] := hl
  refine lv_iload_n hx hb dL_asks_0 rfl (lv_at hl 1 rfl) ?_
  refine k_if_ne (P := True) (tgt := 145) hx hb dL_asks_1 (by decide) ⟨fun _ => trivial, fun _ => rfl⟩ (fun c_4 => ?_) (fun c_4 => ?_)
  · skip
    exact (c_4 trivial).elim
  · skip
    refine lv_iload_n hx hb dL_asks_4 rfl (lv_at hl 2 rfl) ?_
    refine lv_bipush (v := nI 6) hx hb dL_asks_5 (by decide) ?_
    refine k_callS (rest := []) (r := nI (lowN z 6)) ⟨hx, hb, hml, hown, hts⟩ (c_L_low l D q z 6 (by omega) (by omega)) (va_cwS 2 hts gL_asks_L_low rfl rfl rfl (by decide +kernel) ⟨Nat.le_of_ble_eq_true rfl, Nat.le_of_ble_eq_true rfl⟩) hK trivial rfl hl.1 rfl (Nat.le_of_ble_eq_true rfl) dL_asks_7 ⟨by show 0 ≤ 3; omega, by show 0 ≤ 18; omega⟩ (fun _ h => h) ?_
    have hlo : lowN z 6 < 6 := lowN_lt (by first | decide | omega | exact zif_p (by decide) (by decide))
    refine lv_istore (lv' := [(6, .int (nI (lowN z 6))), (0, .ref (cb 0)), (1, .int (nI 0)), (2, .int (z)), (3, .ref (a 6)), (4, .ref (a 9)), (5, .ref (a 0))]) hx hb dL_asks_10 hl (by decide) rfl (fun ls hl => ?_)
    refine lv_iload_n hx hb dL_asks_12 rfl (lv_at hl 3 rfl) ?_
    refine lv_iconst (v := nI 3) hx hb dL_asks_13 (by decide) ?_
    refine lv_ishr hx hb dL_asks_14 ?_
    refine lv_iload_n hx hb dL_asks_15 rfl (lv_at hl 3 rfl) ?_
    refine lv_bipush (v := nI 8) hx hb dL_asks_16 (by decide) ?_
    refine lv_ishr hx hb dL_asks_18 ?_
    refine lv_iconst (v := nI 2) hx hb dL_asks_19 (by decide) ?_
    refine k_callS (rest := [.int (z >>> ((nI 3) &&& 31))]) (r := nI (lowN (z >>> ((nI 8) &&& 31)) 2)) ⟨hx, hb, hml, hown, hts⟩ (c_L_low l D q (z >>> ((nI 8) &&& 31)) 2 (by omega) (by omega)) (va_cwS 2 hts gL_asks_L_low rfl rfl rfl (by decide +kernel) ⟨Nat.le_of_ble_eq_true rfl, Nat.le_of_ble_eq_true rfl⟩) hK trivial rfl hl.1 rfl (Nat.le_of_ble_eq_true rfl) dL_asks_20 ⟨by show 0 ≤ 3; omega, by show 0 ≤ 18; omega⟩ (fun _ h => h) ?_
    have hlo : lowN (z >>> ((nI 8) &&& 31)) 2 < 2 := lowN_lt (by first | decide | omega | exact zif_p (by decide) (by decide))
    refine k_cut (pcj := 32) (st9 := [.int (nI (if lowN (z >>> ((nI 8) &&& 31)) 2 = 0 then 12 else 3)), .int (z >>> ((nI 3) &&& 31))]) (n := 11) (lv9 := [(6, .int (nI (lowN z 6))), (0, .ref (cb 0)), (1, .int (nI 0)), (2, .int (z)), (3, .ref (a 6)), (4, .ref (a 9)), (5, .ref (a 0))]) (fun ls hl => ?_) (fun J32 => ?_)
    · skip
      refine k_callS (rest := []) (r := nI (lowN (z >>> ((nI 3) &&& 31)) (if lowN (z >>> ((nI 8) &&& 31)) 2 = 0 then 12 else 3))) ⟨hx, hb, hml, hown, hts⟩ (c_L_low l D q (z >>> ((nI 3) &&& 31)) (if lowN (z >>> ((nI 8) &&& 31)) 2 = 0 then 12 else 3) (zif_p (by decide) (by decide)) (zif_l (by decide) (by decide))) (va_cwS 2 hts gL_asks_L_low rfl rfl rfl (by decide +kernel) ⟨Nat.le_of_ble_eq_true rfl, Nat.le_of_ble_eq_true rfl⟩) hK trivial rfl hl.1 rfl (Nat.le_of_ble_eq_true rfl) dL_asks_32 ⟨by show 0 ≤ 3; omega, by show 0 ≤ 18; omega⟩ (fun _ h => h) ?_
      have hlo : lowN (z >>> ((nI 3) &&& 31)) (if lowN (z >>> ((nI 8) &&& 31)) 2 = 0 then 12 else 3) < (if lowN (z >>> ((nI 8) &&& 31)) 2 = 0 then 12 else 3) := lowN_lt (by first | decide | omega | exact zif_p (by decide) (by decide))
      refine k_top (y := nI (zS z)) rfl ?_
      refine lv_istore (lv' := [(7, .int (nI (zS z))), (6, .int (nI (lowN z 6))), (0, .ref (cb 0)), (1, .int (nI 0)), (2, .int (z)), (3, .ref (a 6)), (4, .ref (a 9)), (5, .ref (a 0))]) hx hb dL_asks_35 hl (by decide) rfl (fun ls hl => ?_)
      refine lv_aload hx hb dL_asks_37 (lv_at hl 6 rfl) ?_
      refine lv_bipush (v := nI 18) hx hb dL_asks_39 (by decide) ?_
      refine lv_iload hx hb dL_asks_41 (lv_at hl 1 rfl) ?_
      refine lv_iadd hx hb dL_asks_43 ?_
      refine k_top (y := nI (18 + (lowN z 6))) (nI_add _ _) ?_
      refine k_iald hx hb hK hP.1 9 rfl (18 + (lowN z 6)) rfl (by omega) (by decide) dL_asks_44 ?_
      refine lv_iload hx hb dL_asks_45 (lv_at hl 0 rfl) ?_
      refine lv_ishr hx hb dL_asks_47 ?_
      refine lv_iconst (v := nI 1) hx hb dL_asks_48 (by decide) ?_
      refine lv_iand hx hb dL_asks_49 ?_
      refine k_if_ne (P := ((S 9 (18 + (lowN z 6))) >>> ((nI (zS z)) &&& 31)) &&& (nI 1) = 0) (tgt := 57) hx hb dL_asks_50 (by decide) Iff.rfl (fun c_5 => ?_) (fun c_5 => ?_)
      · skip
        exact absurd hcan c_5
      · skip
        refine lv_iconst (v := nI 1) hx hb dL_asks_53 (by decide) ?_
        refine lv_goto (tgt := 58) hx hb dL_asks_54 (by decide) ?_
        refine lv_istore (lv' := [(8, .int (nI 1)), (7, .int (nI (zS z))), (6, .int (nI (lowN z 6))), (0, .ref (cb 0)), (1, .int (nI 0)), (2, .int (z)), (3, .ref (a 6)), (4, .ref (a 9)), (5, .ref (a 0))]) hx hb dL_asks_58 hl (by decide) rfl (fun ls hl => ?_)
        refine lv_aload hx hb dL_asks_60 (lv_at hl 7 rfl) ?_
        refine lv_bipush (v := nI 18) hx hb dL_asks_62 (by decide) ?_
        refine lv_iload hx hb dL_asks_64 (lv_at hl 2 rfl) ?_
        refine lv_iadd hx hb dL_asks_66 ?_
        refine k_top (y := nI (18 + (lowN z 6))) (nI_add _ _) ?_
        refine lv_dup2_11 hx hb dL_asks_67 rfl rfl ?_
        refine k_iald hx hb hK hP.1 9 rfl (18 + (lowN z 6)) rfl (by omega) (by decide) dL_asks_68 ?_
        refine lv_iconst (v := nI 1) hx hb dL_asks_69 (by decide) ?_
        refine lv_iload hx hb dL_asks_70 (lv_at hl 1 rfl) ?_
        refine lv_ishl hx hb dL_asks_72 ?_
        refine lv_ior hx hb dL_asks_73 ?_
        refine k_iast (wL q a ((up S 9 (18 + (lowN z 6)) ((S 9 (18 + (lowN z 6))) ||| ((nI 1) <<< ((nI (zS z)) &&& 31))))) ((wC q cb cM cap nl))) hx hb hK hP hS 9 rfl (18 + (lowN z 6)) rfl (by omega) (by decide) wL_s9 dL_asks_74 (fun H locs hP hS => ?_)
        refine lv_iconst (v := nI 0) hx hb dL_asks_75 (by decide) ?_
        refine lv_istore (lv' := [(9, .int (nI 0)), (8, .int (nI 1)), (7, .int (nI (zS z))), (6, .int (nI (lowN z 6))), (0, .ref (cb 0)), (1, .int (nI 0)), (2, .int (z)), (3, .ref (a 6)), (4, .ref (a 9)), (5, .ref (a 0))]) hx hb dL_asks_76 hl (by decide) rfl (fun ls hl => ?_)
        refine lv_iconst (v := nI 0) hx hb dL_asks_78 (by decide) ?_
        refine lv_istore (lv' := [(10, .int (nI 0)), (9, .int (nI 0)), (8, .int (nI 1)), (7, .int (nI (zS z))), (6, .int (nI (lowN z 6))), (0, .ref (cb 0)), (1, .int (nI 0)), (2, .int (z)), (3, .ref (a 6)), (4, .ref (a 9)), (5, .ref (a 0))]) hx hb dL_asks_79 hl (by decide) rfl (fun ls hl => ?_)
        refine W.widen (k := 0) (n := 0) (by omega) (by omega) ?_
        exact lp_L_asks_1_81 hl0 a S cb cM cap nl z cN hcan hE hco hcN C0 hK hX hA ((12 - 0) + 1) 0 ((up S 9 (18 + (lowN z 6)) ((S 9 (18 + (lowN z 6))) ||| ((nI 1) <<< ((nI (zS z)) &&& 31))))) (nI (lowN z 6)) (nI (zS z)) (nI 1) (nI 0) (nI 0) (by omega) (by first | omega | assumption) (by first | omega | assumption) (by rfl) rfl rfl rfl (by rfl) rfl _ _ hP hS ls (lv_sub hl [5, 6, 7, 8, 9, 10, 4, 3, 2, 1, 0] rfl)
    · skip
      refine k_if_ne (P := lowN (z >>> ((nI 8) &&& 31)) 2 = 0) (tgt := 31) hx hb dL_asks_23 (by decide) (k_n0 (by omega)) (fun c_6 => ?_) (fun c_6 => ?_)
      · skip
        refine lv_iconst (v := nI 3) hx hb dL_asks_31 (by decide) ?_
        refine k_top (y := nI (if lowN (z >>> ((nI 8) &&& 31)) 2 = 0 then 12 else 3)) (by first | rw [if_pos c_6] | rw [if_neg c_6]) ?_
        exact J32 ls (lv_sub hl [0, 1, 2, 3, 4, 5, 6] rfl)
      · skip
        refine lv_bipush (v := nI 12) hx hb dL_asks_26 (by decide) ?_
        refine lv_goto (tgt := 32) hx hb dL_asks_28 (by decide) ?_
        refine k_top (y := nI (if lowN (z >>> ((nI 8) &&& 31)) 2 = 0 then 12 else 3)) (by first | rw [if_pos c_6] | rw [if_neg c_6]) ?_
        exact J32 ls (lv_sub hl [0, 1, 2, 3, 4, 5, 6] rfl)
theorem cs_L_asks_36 : Cond.constant RL 36 (-2000000003) ∈ wsL_asks := by decide +kernel
set_option maxHeartbeats 4000000 in
set_option maxRecDepth 100000 in
theorem lp_L_asks_0_81 {p : Program} {l : Launch} {e : Env} {u : State} {m : MethodId} {below : List Frame} {meth : Method} {c : Code} {D : va_G} {q : Nat → ClassId} {A : Nat → Prop} (hl0 : l.stackTraces = false) (a : Nat → Nat) (S : Nat → Nat → Int32) (cb : Nat → Nat) (cM : Nat → Nat → Int32) (cap nl : Nat) (z : Int32) (cN : Nat → Nat → Int32) (hcan : ¬ S 9 (18 + (lowN z 6)) >>> (nI (zS z) &&& 31) &&& nI 1 = 0) (hE : caE [eI, eS] (coAsk cM (nI (lowN z 6)) (nI (zS z)))) (hco : caV (coAsk cM (nI (lowN z 6)) (nI (zS z))) = (-2000000003)) (hcN : outS cM (coAsk cM (nI (lowN z 6)) (nI (zS z))) = cN) (C0 : kAt p u m #[.ref (cb 0), .int (nI 0), .int (z), .ref (a 6), .ref (a 9), .ref (a 0)] meth c cL_asks 11 (some .boolean) RL wsL_asks) (hK : kK D q u) (hX : kX A u) (hA : ∀ z : Nat, u.heap.size ≤ z → A z) :
    ∀ (f : Nat) (k : Nat) (T : Nat → Nat → Int32) (x6 : Int32) (x7 : Int32) (x8 : Int32) (x9 : Int32) (x10 : Int32), 12 - k < f → k ≤ 12 → lowN z 6 < 6 → T = (yAM S (lowN z 6) (zS z)) → x6 = nI (lowN z 6) → x7 = nI (zS z) → x8 = nI 0 → x9 = yMy (yAM S (lowN z 6) (zS z)) (lowN z 6) k → x10 = nI k → ∀ (H : Heap) (locs : List Loc), kW D A (wL q a T ((wC q cb cM cap nl))) H → va_S A u.heap H locs → ∀ (ls : Array Slot), lv_has ls 11 [(0, .ref (cb 0)), (1, .int (nI 0)), (2, .int (z)), (3, .ref (a 6)), (4, .ref (a 9)), (5, .ref (a 0)), (6, .int x6), (7, .int x7), (8, .int x8), (9, .int x9), (10, .int x10)] → W p l e ({ frames := 9, cells := 3, slots := 18, locals := 271 } : Room) u m #[.ref (cb 0), .int (nI 0), .int (z), .ref (a 6), .ref (a 9), .ref (a 0)] below meth c H locs 0 0 (MQ below (kRi D A (nI 1) (wL q a ((yAM S (lowN z 6) (zS z))) ((wC q cb cN cap nl)))) #[.ref (cb 0), .int (nI 0), .int (z), .ref (a 6), .ref (a 9), .ref (a 0)] u 3 18 A) (F0 m 81 ls []) := by
  obtain ⟨hx, hb, hr, hml, hown, hts, hlocks⟩ := id C0
  intro f
  induction f with
  | zero =>
    intro k T x6 x7 x8 x9 x10 hf
    exact absurd hf (Nat.not_lt_zero _)
  | succ f ih =>
    intro k T x6 x7 x8 x9 x10 hf hk hl6 eT e6 e7 e8 e9 e10 H locs hP hS ls hl
    replace eT := eT.symm
    subst eT
    replace e6 := e6.symm
    subst e6
    replace e7 := e7.symm
    subst e7
    replace e8 := e8.symm
    subst e8
    replace e9 := e9.symm
    subst e9
    replace e10 := e10.symm
    subst e10
    refine lv_iload hx hb dL_asks_81 (lv_at hl 10 rfl) ?_
    refine lv_bipush (v := nI 12) hx hb dL_asks_83 (by decide) ?_
    refine k_icmp_ge (P := k < 12) (tgt := 112) hx hb dL_asks_85 (by decide) (nI_ltI (by omega) (by omega)) (fun c_1 => ?_) (fun c_1 => ?_)
    · skip
      obtain rfl : k = 12 := by omega
      refine lv_aload_n hx hb dL_asks_112 rfl (lv_at hl 0 rfl) ?_
      refine lv_iconst (v := nI 3) hx hb dL_asks_113 (by decide) ?_
      refine lv_iload hx hb dL_asks_114 (lv_at hl 6 rfl) ?_
      refine lv_iload hx hb dL_asks_116 (lv_at hl 7 rfl) ?_
      refine lv_iconst (v := nI 0) hx hb dL_asks_118 (by decide) ?_
      refine lv_iconst (v := nI 0) hx hb dL_asks_119 (by decide) ?_
      refine lv_iconst (v := nI 0) hx hb dL_asks_120 (by decide) ?_
      refine k_goW hP (fun z9 h9 => hA z9 h9) hS (vx_runSW (rest := []) ⟨hx, hb, hml, hown, hts⟩ (c_L_calls_ask l hl0 D q (va_A (wC q cb cM cap nl) H.size) cb cM cap nl (nI (lowN z 6)) (nI (zS z)) (nI 0) (nI 0) (nI 0) hE) (vx_cwSW 7 hts gL_asks_L_calls rfl rfl rfl (by decide +kernel) ⟨Nat.le_of_ble_eq_true rfl, Nat.le_of_ble_eq_true rfl⟩) ⟨kBL_blind, fun U hU hW => ⟨rfl, ⟨by rw [hU]; exact kW_cut hP, hK.warm hW, (hX.at hS hU hW).narrow (kW_sub hP (fun z9 h9 => hA z9 (Nat.le_trans hS.1 h9)))⟩, fun z9 h9 => Or.inr (by rw [← hU]; exact h9)⟩⟩ rfl rfl hl.1 rfl (lv_room (Nat.le_of_ble_eq_true rfl)) dL_asks_121 ⟨by show 0 + 3 ≤ 3; omega, by show 0 + 18 ≤ 18; omega⟩) (fun H locs hP hS => ?_)
      have hP : kW D A (wL q a ((yAM S (lowN z 6) (zS z))) ((wC q cb cN cap nl))) H := by rw [← hcN]; exact hP
      refine k_top (y := (-2000000003)) hco ?_
      refine lv_iload hx hb dL_asks_124 (lv_at hl 8 rfl) ?_
      refine k_if_eq (P := True) (tgt := 134) hx hb dL_asks_126 (by decide) ⟨fun _ => trivial, fun _ => rfl⟩ (fun c_2 => ?_) (fun c_2 => ?_)
      · skip
        refine lv_ldc (v := (-2000000003)) hx hb hown (hts _ cs_L_asks_36) dL_asks_134 ?_
        refine k_icmp_ne (P := True) (tgt := 143) hx hb dL_asks_136 (by decide) ⟨fun _ => trivial, fun _ => rfl⟩ (fun c_3 => ?_) (fun c_3 => ?_)
        · skip
          exact (c_3 trivial).elim
        · skip
          refine lv_iconst (v := nI 1) hx hb dL_asks_139 (by decide) ?_
          refine lv_goto (tgt := 144) hx hb dL_asks_140 (by decide) ?_
          refine W.widen (k := 3) (n := 18) (by first | exact Nat.le_of_ble_eq_true rfl | omega) (by first | exact Nat.le_of_ble_eq_true rfl | omega) ?_
          exact k_zretW hx hb hr hlocks rfl hP hS (by rfl) dL_asks_144
      · skip
        exact (c_2 trivial).elim
    · skip
      refine lv_iload hx hb dL_asks_88 (lv_at hl 9 rfl) ?_
      refine lv_aload hx hb dL_asks_90 (lv_at hl 4 rfl) ?_
      refine lv_bipush (v := nI 18) hx hb dL_asks_92 (by decide) ?_
      refine lv_iload hx hb dL_asks_94 (lv_at hl 6 rfl) ?_
      refine lv_iadd hx hb dL_asks_96 ?_
      refine k_top (y := nI (18 + (lowN z 6))) (nI_add _ _) ?_
      refine k_iald hx hb hK hP.1 9 rfl (18 + (lowN z 6)) rfl (by omega) (by decide) dL_asks_97 ?_
      refine lv_iload hx hb dL_asks_98 (lv_at hl 10 rfl) ?_
      refine lv_ishr hx hb dL_asks_100 ?_
      refine lv_iconst (v := nI 1) hx hb dL_asks_101 (by decide) ?_
      refine lv_iand hx hb dL_asks_102 ?_
      refine lv_iadd hx hb dL_asks_103 ?_
      refine lv_istore (lv' := [(9, .int ((yMy (yAM S (lowN z 6) (zS z)) (lowN z 6) k) + (((((yAM S (lowN z 6) (zS z))) 9 (18 + (lowN z 6))) >>> ((nI k) &&& 31)) &&& (nI 1)))), (0, .ref (cb 0)), (1, .int (nI 0)), (2, .int (z)), (3, .ref (a 6)), (4, .ref (a 9)), (5, .ref (a 0)), (6, .int (nI (lowN z 6))), (7, .int (nI (zS z))), (8, .int (nI 0)), (10, .int (nI k))]) hx hb dL_asks_104 hl (by decide) rfl (fun ls hl => ?_)
      refine lv_iinc (v := nI (k + 1)) (lv' := [(10, .int (nI (k + 1))), (9, .int ((yMy (yAM S (lowN z 6) (zS z)) (lowN z 6) k) + (((((yAM S (lowN z 6) (zS z))) 9 (18 + (lowN z 6))) >>> ((nI k) &&& 31)) &&& (nI 1)))), (0, .ref (cb 0)), (1, .int (nI 0)), (2, .int (z)), (3, .ref (a 6)), (4, .ref (a 9)), (5, .ref (a 0)), (6, .int (nI (lowN z 6))), (7, .int (nI (zS z))), (8, .int (nI 0))]) hx hb dL_asks_106 hl (k := 10) rfl (k_iinc _) (by decide) rfl (fun ls hl => ?_)
      refine lv_goto (tgt := 81) hx hb dL_asks_109 (by decide) ?_
      refine W.widen (k := 0) (n := 0) (by omega) (by omega) ?_
      exact ih (k + 1) ((yAM S (lowN z 6) (zS z))) (nI (lowN z 6)) (nI (zS z)) (nI 0) ((yMy (yAM S (lowN z 6) (zS z)) (lowN z 6) k) + (((((yAM S (lowN z 6) (zS z))) 9 (18 + (lowN z 6))) >>> ((nI k) &&& 31)) &&& (nI 1))) (nI (k + 1)) (by omega) (by first | omega | assumption) (by first | omega | assumption) rfl rfl rfl rfl (by rfl) rfl _ _ hP hS ls (lv_sub hl [2, 3, 4, 5, 6, 7, 8, 9, 10, 1, 0] rfl)
set_option maxHeartbeats 4000000 in
set_option maxRecDepth 100000 in
theorem c_L_asks_n (l : Launch) (hl0 : l.stackTraces = false) (D : va_G) (q : Nat → ClassId) (A : Nat → Prop) (a : Nat → Nat) (S : Nat → Nat → Int32) (cb : Nat → Nat) (cM : Nat → Nat → Int32) (cap nl : Nat) (z : Int32) (cN : Nat → Nat → Int32) (hcan : ¬ S 9 (18 + (lowN z 6)) >>> (nI (zS z) &&& 31) &&& nI 1 = 0) (hE : caE [eI, eS] (coAsk cM (nI (lowN z 6)) (nI (zS z)))) (hco : caV (coAsk cM (nI (lowN z 6)) (nI (zS z))) = (-2000000003)) (hcN : outS cM (coAsk cM (nI (lowN z 6)) (nI (zS z))) = cN) : Met l yL_asks wsL_asks ({ frames := 9, cells := 3, slots := 18, locals := 271 } : Room) (va_Pc [.ref (cb 0), .int (nI 0), .int (z), .ref (a 6), .ref (a 9), .ref (a 0)] (kBL D q A (fun H => kW D A (wL q a S ((wC q cb cM cap nl))) H))) (kRi D A (nI 1) (wL q a ((yAM S (lowN z 6) (zS z))) ((wC q cb cN cap nl)))) 3 18 A := by
  refine Met.ofW (cc := cL_asks) (maxL := 11) (ret := (some .boolean)) (by decide) rfl ?_
  intro p e u m args below meth c s₁ B hml0 hv
  obtain ⟨rfl, ⟨hP, hK, hX⟩, hA⟩ := hv
  have C0 : kAt p u m #[.ref (cb 0), .int (nI 0), .int (z), .ref (a 6), .ref (a 9), .ref (a 0)] meth c cL_asks 11 (some .boolean) RL wsL_asks := kAt_of B hml0
  obtain ⟨hx, hb, hr, hml, hown, hts, hlocks⟩ := id C0
  have hS : va_S A u.heap u.heap [] := va_S.rf
  have hl := lv_entry ([.ref (cb 0), .int (nI 0), .int (z), .ref (a 6), .ref (a 9), .ref (a 0)]) (n := 11) (Nat.le_of_ble_eq_true rfl)
  rw [lg_entry_eq]
  generalize (lg_sl ([.ref (cb 0), .int (nI 0), .int (z), .ref (a 6), .ref (a 9), .ref (a 0)]) ++ List.replicate (11 - (lg_sl ([.ref (cb 0), .int (nI 0), .int (z), .ref (a 6), .ref (a 9), .ref (a 0)])).length) Slot.unset).toArray = ls at hl ⊢
  have hl : lv_has ls 11 [(0, .ref (cb 0)), (1, .int (nI 0)), (2, .int (z)), (3, .ref (a 6)), (4, .ref (a 9)), (5, .ref (a 0))] := hl
  refine lv_iload_n hx hb dL_asks_0 rfl (lv_at hl 1 rfl) ?_
  refine k_if_ne (P := True) (tgt := 145) hx hb dL_asks_1 (by decide) ⟨fun _ => trivial, fun _ => rfl⟩ (fun c_4 => ?_) (fun c_4 => ?_)
  · skip
    exact (c_4 trivial).elim
  · skip
    refine lv_iload_n hx hb dL_asks_4 rfl (lv_at hl 2 rfl) ?_
    refine lv_bipush (v := nI 6) hx hb dL_asks_5 (by decide) ?_
    refine k_callS (rest := []) (r := nI (lowN z 6)) ⟨hx, hb, hml, hown, hts⟩ (c_L_low l D q z 6 (by omega) (by omega)) (va_cwS 2 hts gL_asks_L_low rfl rfl rfl (by decide +kernel) ⟨Nat.le_of_ble_eq_true rfl, Nat.le_of_ble_eq_true rfl⟩) hK trivial rfl hl.1 rfl (Nat.le_of_ble_eq_true rfl) dL_asks_7 ⟨by show 0 ≤ 3; omega, by show 0 ≤ 18; omega⟩ (fun _ h => h) ?_
    have hlo : lowN z 6 < 6 := lowN_lt (by first | decide | omega | exact zif_p (by decide) (by decide))
    refine lv_istore (lv' := [(6, .int (nI (lowN z 6))), (0, .ref (cb 0)), (1, .int (nI 0)), (2, .int (z)), (3, .ref (a 6)), (4, .ref (a 9)), (5, .ref (a 0))]) hx hb dL_asks_10 hl (by decide) rfl (fun ls hl => ?_)
    refine lv_iload_n hx hb dL_asks_12 rfl (lv_at hl 3 rfl) ?_
    refine lv_iconst (v := nI 3) hx hb dL_asks_13 (by decide) ?_
    refine lv_ishr hx hb dL_asks_14 ?_
    refine lv_iload_n hx hb dL_asks_15 rfl (lv_at hl 3 rfl) ?_
    refine lv_bipush (v := nI 8) hx hb dL_asks_16 (by decide) ?_
    refine lv_ishr hx hb dL_asks_18 ?_
    refine lv_iconst (v := nI 2) hx hb dL_asks_19 (by decide) ?_
    refine k_callS (rest := [.int (z >>> ((nI 3) &&& 31))]) (r := nI (lowN (z >>> ((nI 8) &&& 31)) 2)) ⟨hx, hb, hml, hown, hts⟩ (c_L_low l D q (z >>> ((nI 8) &&& 31)) 2 (by omega) (by omega)) (va_cwS 2 hts gL_asks_L_low rfl rfl rfl (by decide +kernel) ⟨Nat.le_of_ble_eq_true rfl, Nat.le_of_ble_eq_true rfl⟩) hK trivial rfl hl.1 rfl (Nat.le_of_ble_eq_true rfl) dL_asks_20 ⟨by show 0 ≤ 3; omega, by show 0 ≤ 18; omega⟩ (fun _ h => h) ?_
    have hlo : lowN (z >>> ((nI 8) &&& 31)) 2 < 2 := lowN_lt (by first | decide | omega | exact zif_p (by decide) (by decide))
    refine k_cut (pcj := 32) (st9 := [.int (nI (if lowN (z >>> ((nI 8) &&& 31)) 2 = 0 then 12 else 3)), .int (z >>> ((nI 3) &&& 31))]) (n := 11) (lv9 := [(6, .int (nI (lowN z 6))), (0, .ref (cb 0)), (1, .int (nI 0)), (2, .int (z)), (3, .ref (a 6)), (4, .ref (a 9)), (5, .ref (a 0))]) (fun ls hl => ?_) (fun J32 => ?_)
    · skip
      refine k_callS (rest := []) (r := nI (lowN (z >>> ((nI 3) &&& 31)) (if lowN (z >>> ((nI 8) &&& 31)) 2 = 0 then 12 else 3))) ⟨hx, hb, hml, hown, hts⟩ (c_L_low l D q (z >>> ((nI 3) &&& 31)) (if lowN (z >>> ((nI 8) &&& 31)) 2 = 0 then 12 else 3) (zif_p (by decide) (by decide)) (zif_l (by decide) (by decide))) (va_cwS 2 hts gL_asks_L_low rfl rfl rfl (by decide +kernel) ⟨Nat.le_of_ble_eq_true rfl, Nat.le_of_ble_eq_true rfl⟩) hK trivial rfl hl.1 rfl (Nat.le_of_ble_eq_true rfl) dL_asks_32 ⟨by show 0 ≤ 3; omega, by show 0 ≤ 18; omega⟩ (fun _ h => h) ?_
      have hlo : lowN (z >>> ((nI 3) &&& 31)) (if lowN (z >>> ((nI 8) &&& 31)) 2 = 0 then 12 else 3) < (if lowN (z >>> ((nI 8) &&& 31)) 2 = 0 then 12 else 3) := lowN_lt (by first | decide | omega | exact zif_p (by decide) (by decide))
      refine k_top (y := nI (zS z)) rfl ?_
      refine lv_istore (lv' := [(7, .int (nI (zS z))), (6, .int (nI (lowN z 6))), (0, .ref (cb 0)), (1, .int (nI 0)), (2, .int (z)), (3, .ref (a 6)), (4, .ref (a 9)), (5, .ref (a 0))]) hx hb dL_asks_35 hl (by decide) rfl (fun ls hl => ?_)
      refine lv_aload hx hb dL_asks_37 (lv_at hl 6 rfl) ?_
      refine lv_bipush (v := nI 18) hx hb dL_asks_39 (by decide) ?_
      refine lv_iload hx hb dL_asks_41 (lv_at hl 1 rfl) ?_
      refine lv_iadd hx hb dL_asks_43 ?_
      refine k_top (y := nI (18 + (lowN z 6))) (nI_add _ _) ?_
      refine k_iald hx hb hK hP.1 9 rfl (18 + (lowN z 6)) rfl (by omega) (by decide) dL_asks_44 ?_
      refine lv_iload hx hb dL_asks_45 (lv_at hl 0 rfl) ?_
      refine lv_ishr hx hb dL_asks_47 ?_
      refine lv_iconst (v := nI 1) hx hb dL_asks_48 (by decide) ?_
      refine lv_iand hx hb dL_asks_49 ?_
      refine k_if_ne (P := ((S 9 (18 + (lowN z 6))) >>> ((nI (zS z)) &&& 31)) &&& (nI 1) = 0) (tgt := 57) hx hb dL_asks_50 (by decide) Iff.rfl (fun c_5 => ?_) (fun c_5 => ?_)
      · skip
        refine lv_iconst (v := nI 0) hx hb dL_asks_57 (by decide) ?_
        refine lv_istore (lv' := [(8, .int (nI 0)), (7, .int (nI (zS z))), (6, .int (nI (lowN z 6))), (0, .ref (cb 0)), (1, .int (nI 0)), (2, .int (z)), (3, .ref (a 6)), (4, .ref (a 9)), (5, .ref (a 0))]) hx hb dL_asks_58 hl (by decide) rfl (fun ls hl => ?_)
        refine lv_aload hx hb dL_asks_60 (lv_at hl 7 rfl) ?_
        refine lv_bipush (v := nI 18) hx hb dL_asks_62 (by decide) ?_
        refine lv_iload hx hb dL_asks_64 (lv_at hl 2 rfl) ?_
        refine lv_iadd hx hb dL_asks_66 ?_
        refine k_top (y := nI (18 + (lowN z 6))) (nI_add _ _) ?_
        refine lv_dup2_11 hx hb dL_asks_67 rfl rfl ?_
        refine k_iald hx hb hK hP.1 9 rfl (18 + (lowN z 6)) rfl (by omega) (by decide) dL_asks_68 ?_
        refine lv_iconst (v := nI 1) hx hb dL_asks_69 (by decide) ?_
        refine lv_iload hx hb dL_asks_70 (lv_at hl 1 rfl) ?_
        refine lv_ishl hx hb dL_asks_72 ?_
        refine lv_ior hx hb dL_asks_73 ?_
        refine k_iast (wL q a ((up S 9 (18 + (lowN z 6)) ((S 9 (18 + (lowN z 6))) ||| ((nI 1) <<< ((nI (zS z)) &&& 31))))) ((wC q cb cM cap nl))) hx hb hK hP hS 9 rfl (18 + (lowN z 6)) rfl (by omega) (by decide) wL_s9 dL_asks_74 (fun H locs hP hS => ?_)
        refine lv_iconst (v := nI 0) hx hb dL_asks_75 (by decide) ?_
        refine lv_istore (lv' := [(9, .int (nI 0)), (8, .int (nI 0)), (7, .int (nI (zS z))), (6, .int (nI (lowN z 6))), (0, .ref (cb 0)), (1, .int (nI 0)), (2, .int (z)), (3, .ref (a 6)), (4, .ref (a 9)), (5, .ref (a 0))]) hx hb dL_asks_76 hl (by decide) rfl (fun ls hl => ?_)
        refine lv_iconst (v := nI 0) hx hb dL_asks_78 (by decide) ?_
        refine lv_istore (lv' := [(10, .int (nI 0)), (9, .int (nI 0)), (8, .int (nI 0)), (7, .int (nI (zS z))), (6, .int (nI (lowN z 6))), (0, .ref (cb 0)), (1, .int (nI 0)), (2, .int (z)), (3, .ref (a 6)), (4, .ref (a 9)), (5, .ref (a 0))]) hx hb dL_asks_79 hl (by decide) rfl (fun ls hl => ?_)
        refine W.widen (k := 0) (n := 0) (by omega) (by omega) ?_
        exact lp_L_asks_0_81 hl0 a S cb cM cap nl z cN hcan hE hco hcN C0 hK hX hA ((12 - 0) + 1) 0 ((up S 9 (18 + (lowN z 6)) ((S 9 (18 + (lowN z 6))) ||| ((nI 1) <<< ((nI (zS z)) &&& 31))))) (nI (lowN z 6)) (nI (zS z)) (nI 0) (nI 0) (nI 0) (by omega) (by first | omega | assumption) (by first | omega | assumption) (by rfl) rfl rfl rfl (by rfl) rfl _ _ hP hS ls (lv_sub hl [5, 6, 7, 8, 9, 10, 4, 3, 2, 1, 0] rfl)
      · skip
        exact absurd c_5 hcan
    · skip
      refine k_if_ne (P := lowN (z >>> ((nI 8) &&& 31)) 2 = 0) (tgt := 31) hx hb dL_asks_23 (by decide) (k_n0 (by omega)) (fun c_6 => ?_) (fun c_6 => ?_)
      · skip
        refine lv_iconst (v := nI 3) hx hb dL_asks_31 (by decide) ?_
        refine k_top (y := nI (if lowN (z >>> ((nI 8) &&& 31)) 2 = 0 then 12 else 3)) (by first | rw [if_pos c_6] | rw [if_neg c_6]) ?_
        exact J32 ls (lv_sub hl [0, 1, 2, 3, 4, 5, 6] rfl)
      · skip
        refine lv_bipush (v := nI 12) hx hb dL_asks_26 (by decide) ?_
        refine lv_goto (tgt := 32) hx hb dL_asks_28 (by decide) ?_
        refine k_top (y := nI (if lowN (z >>> ((nI 8) &&& 31)) 2 = 0 then 12 else 3)) (by first | rw [if_pos c_6] | rw [if_neg c_6]) ?_
        exact J32 ls (lv_sub hl [0, 1, 2, 3, 4, 5, 6] rfl)
set_option maxHeartbeats 4000000 in
set_option maxRecDepth 100000 in
theorem c_L_asks_f (l : Launch) (hl0 : l.stackTraces = false) (D : va_G) (q : Nat → ClassId) (A : Nat → Prop) (a : Nat → Nat) (S : Nat → Nat → Int32) (cb : Nat → Nat) (cM : Nat → Nat → Int32) (cap nl : Nat) (z : Int32) (L : Nat) (cN : Nat → Nat → Int32) (hL : S 0 3 = nI L) (hL20 : L ≤ 20) (hfull : L = 20) : Met l yL_asks wsL_asks ({ frames := 0, cells := 2, slots := 12, locals := 0 } : Room) (va_Pc [.ref (cb 0), .int (nI 1), .int (z), .ref (a 6), .ref (a 9), .ref (a 0)] (kBL D q A (fun H => kW D A (wL q a S ((wC q cb cM cap nl))) H))) (kRi D A (nI 1) (wL q a S ((wC q cb cM cap nl)))) 2 12 A := by
  refine Met.ofW (cc := cL_asks) (maxL := 11) (ret := (some .boolean)) (by decide) rfl ?_
  intro p e u m args below meth c s₁ B hml0 hv
  obtain ⟨rfl, ⟨hP, hK, hX⟩, hA⟩ := hv
  have C0 : kAt p u m #[.ref (cb 0), .int (nI 1), .int (z), .ref (a 6), .ref (a 9), .ref (a 0)] meth c cL_asks 11 (some .boolean) RL wsL_asks := kAt_of B hml0
  obtain ⟨hx, hb, hr, hml, hown, hts, hlocks⟩ := id C0
  have hS : va_S A u.heap u.heap [] := va_S.rf
  have hl := lv_entry ([.ref (cb 0), .int (nI 1), .int (z), .ref (a 6), .ref (a 9), .ref (a 0)]) (n := 11) (Nat.le_of_ble_eq_true rfl)
  rw [lg_entry_eq]
  generalize (lg_sl ([.ref (cb 0), .int (nI 1), .int (z), .ref (a 6), .ref (a 9), .ref (a 0)]) ++ List.replicate (11 - (lg_sl ([.ref (cb 0), .int (nI 1), .int (z), .ref (a 6), .ref (a 9), .ref (a 0)])).length) Slot.unset).toArray = ls at hl ⊢
  have hl : lv_has ls 11 [(0, .ref (cb 0)), (1, .int (nI 1)), (2, .int (z)), (3, .ref (a 6)), (4, .ref (a 9)), (5, .ref (a 0))] := hl
  refine lv_iload_n hx hb dL_asks_0 rfl (lv_at hl 1 rfl) ?_
  refine k_if_ne (P := False) (tgt := 145) hx hb dL_asks_1 (by decide) ⟨fun z => absurd z (by decide), False.elim⟩ (fun c_1 => ?_) (fun c_1 => ?_)
  · skip
    refine lv_aload hx hb dL_asks_145 (lv_at hl 5 rfl) ?_
    refine lv_iconst (v := nI 3) hx hb dL_asks_147 (by decide) ?_
    refine k_iald hx hb hK hP.1 0 rfl 3 rfl (by omega) (by decide) dL_asks_148 ?_
    refine k_top (y := nI L) hL ?_
    refine lv_bipush (v := nI 20) hx hb dL_asks_149 (by decide) ?_
    refine k_icmp_ne (P := L = 20) (tgt := 156) hx hb dL_asks_151 (by decide) (nI_eq (by omega) (by omega)) (fun c_2 => ?_) (fun c_2 => ?_)
    · skip
      exact absurd hfull c_2
    · skip
      refine lv_iconst (v := nI 1) hx hb dL_asks_154 (by decide) ?_
      refine W.widen (k := 2) (n := 12) (by first | exact Nat.le_of_ble_eq_true rfl | omega) (by first | exact Nat.le_of_ble_eq_true rfl | omega) ?_
      exact k_zretW hx hb hr hlocks rfl hP hS (by rfl) dL_asks_155
  · skip
    exact c_1.elim
set_option maxHeartbeats 4000000 in
set_option maxRecDepth 100000 in
theorem c_L_asks_l (l : Launch) (hl0 : l.stackTraces = false) (D : va_G) (q : Nat → ClassId) (A : Nat → Prop) (a : Nat → Nat) (S : Nat → Nat → Int32) (cb : Nat → Nat) (cM : Nat → Nat → Int32) (cap nl : Nat) (z : Int32) (L : Nat) (cN : Nat → Nat → Int32) (hL : S 0 3 = nI L) (hL20 : L ≤ 20) (hfull : ¬ L = 20) (hcL : cM 0 2 = nI L) (hE : caE [eA, eS] (coLot cM L (nI (lowN z 1001)))) (hco : caV (coLot cM L (nI (lowN z 1001))) = nI (L + 1)) (hcN : outS cM (coLot cM L (nI (lowN z 1001))) = cN) : Met l yL_asks wsL_asks ({ frames := 9, cells := 2, slots := 12, locals := 270 } : Room) (va_Pc [.ref (cb 0), .int (nI 1), .int (z), .ref (a 6), .ref (a 9), .ref (a 0)] (kBL D q A (fun H => kW D A (wL q a S ((wC q cb cM cap nl))) H))) (kRi D A (nI 1) (wL q a ((yLo S L (lowN z 1001))) ((wC q cb cN cap nl)))) 2 12 A := by
  refine Met.ofW (cc := cL_asks) (maxL := 11) (ret := (some .boolean)) (by decide) rfl ?_
  intro p e u m args below meth c s₁ B hml0 hv
  obtain ⟨rfl, ⟨hP, hK, hX⟩, hA⟩ := hv
  have C0 : kAt p u m #[.ref (cb 0), .int (nI 1), .int (z), .ref (a 6), .ref (a 9), .ref (a 0)] meth c cL_asks 11 (some .boolean) RL wsL_asks := kAt_of B hml0
  obtain ⟨hx, hb, hr, hml, hown, hts, hlocks⟩ := id C0
  have hS : va_S A u.heap u.heap [] := va_S.rf
  have hl := lv_entry ([.ref (cb 0), .int (nI 1), .int (z), .ref (a 6), .ref (a 9), .ref (a 0)]) (n := 11) (Nat.le_of_ble_eq_true rfl)
  rw [lg_entry_eq]
  generalize (lg_sl ([.ref (cb 0), .int (nI 1), .int (z), .ref (a 6), .ref (a 9), .ref (a 0)]) ++ List.replicate (11 - (lg_sl ([.ref (cb 0), .int (nI 1), .int (z), .ref (a 6), .ref (a 9), .ref (a 0)])).length) Slot.unset).toArray = ls at hl ⊢
  have hl : lv_has ls 11 [(0, .ref (cb 0)), (1, .int (nI 1)), (2, .int (z)), (3, .ref (a 6)), (4, .ref (a 9)), (5, .ref (a 0))] := hl
  refine lv_iload_n hx hb dL_asks_0 rfl (lv_at hl 1 rfl) ?_
  refine k_if_ne (P := False) (tgt := 145) hx hb dL_asks_1 (by decide) ⟨fun z => absurd z (by decide), False.elim⟩ (fun c_1 => ?_) (fun c_1 => ?_)
  · skip
    refine lv_aload hx hb dL_asks_145 (lv_at hl 5 rfl) ?_
    refine lv_iconst (v := nI 3) hx hb dL_asks_147 (by decide) ?_
    refine k_iald hx hb hK hP.1 0 rfl 3 rfl (by omega) (by decide) dL_asks_148 ?_
    refine k_top (y := nI L) hL ?_
    refine lv_bipush (v := nI 20) hx hb dL_asks_149 (by decide) ?_
    refine k_icmp_ne (P := L = 20) (tgt := 156) hx hb dL_asks_151 (by decide) (nI_eq (by omega) (by omega)) (fun c_2 => ?_) (fun c_2 => ?_)
    · skip
      refine lv_aload_n hx hb dL_asks_156 rfl (lv_at hl 3 rfl) ?_
      refine lv_bipush (v := nI 20) hx hb dL_asks_157 (by decide) ?_
      refine lv_aload hx hb dL_asks_159 (lv_at hl 5 rfl) ?_
      refine lv_iconst (v := nI 3) hx hb dL_asks_161 (by decide) ?_
      refine k_iald hx hb hK hP.1 0 rfl 3 rfl (by omega) (by decide) dL_asks_162 ?_
      refine k_top (y := nI L) hL ?_
      refine lv_iadd hx hb dL_asks_163 ?_
      refine k_top (y := nI (20 + L)) (nI_add _ _) ?_
      refine lv_iload_n hx hb dL_asks_164 rfl (lv_at hl 2 rfl) ?_
      refine lv_sipush (v := nI 1001) hx hb dL_asks_165 (by decide) ?_
      refine k_callS (rest := [.int (nI (20 + L)), .ref (a 6)]) (r := nI (lowN z 1001)) ⟨hx, hb, hml, hown, hts⟩ (c_L_low l D q z 1001 (by omega) (by omega)) (va_cwS 2 hts gL_asks_L_low rfl rfl rfl (by decide +kernel) ⟨Nat.le_of_ble_eq_true rfl, Nat.le_of_ble_eq_true rfl⟩) hK trivial rfl hl.1 rfl (Nat.le_of_ble_eq_true rfl) dL_asks_168 ⟨by show 0 ≤ 2; omega, by show 0 ≤ 12; omega⟩ (fun _ h => h) ?_
      have hlo : lowN z 1001 < 1001 := lowN_lt (by first | decide | omega | exact zif_p (by decide) (by decide))
      refine k_iast (wL q a ((up S 6 (20 + L) (nI (lowN z 1001)))) ((wC q cb cM cap nl))) hx hb hK hP hS 6 rfl (20 + L) rfl (by omega) (by decide) wL_s6 dL_asks_171 (fun H locs hP hS => ?_)
      refine lv_aload hx hb dL_asks_172 (lv_at hl 5 rfl) ?_
      refine lv_iconst (v := nI 3) hx hb dL_asks_174 (by decide) ?_
      refine lv_dup2_11 hx hb dL_asks_175 rfl rfl ?_
      refine k_iald hx hb hK hP.1 0 rfl 3 rfl (by omega) (by decide) dL_asks_176 ?_
      refine k_top (y := S 0 3) (congrFun (up_n (by decide)) _) ?_
      refine k_top (y := nI L) hL ?_
      refine lv_iconst (v := nI 1) hx hb dL_asks_177 (by decide) ?_
      refine lv_iadd hx hb dL_asks_178 ?_
      refine k_top (y := nI (L + 1)) (nI_add _ _) ?_
      refine k_iast (wL q a ((up (up S 6 (20 + L) (nI (lowN z 1001))) 0 3 (nI (L + 1)))) ((wC q cb cM cap nl))) hx hb hK hP hS 0 rfl 3 rfl (by omega) (by decide) wL_s0 dL_asks_179 (fun H locs hP hS => ?_)
      refine lv_aload_n hx hb dL_asks_180 rfl (lv_at hl 0 rfl) ?_
      refine lv_iconst (v := nI 4) hx hb dL_asks_181 (by decide) ?_
      refine lv_aload_n hx hb dL_asks_182 rfl (lv_at hl 3 rfl) ?_
      refine lv_bipush (v := nI 19) hx hb dL_asks_183 (by decide) ?_
      refine lv_aload hx hb dL_asks_185 (lv_at hl 5 rfl) ?_
      refine lv_iconst (v := nI 3) hx hb dL_asks_187 (by decide) ?_
      refine k_iald hx hb hK hP.1 0 rfl 3 rfl (by omega) (by decide) dL_asks_188 ?_
      refine k_top (y := nI (L + 1)) (up_si _ _ _ _) ?_
      refine lv_iadd hx hb dL_asks_189 ?_
      refine k_top (y := nI (19 + (L + 1))) (nI_add _ _) ?_
      refine k_iald hx hb hK hP.1 6 rfl (19 + (L + 1)) rfl (by omega) (by decide) dL_asks_190 ?_
      refine k_top (y := (up S 6 (20 + L) (nI (lowN z 1001))) 6 (19 + (L + 1))) (congrFun (up_n (by decide)) _) ?_
      refine k_top (y := nI (lowN z 1001)) (by rw [show 19 + (L + 1) = 20 + L from by omega]; exact up_si _ _ _ _) ?_
      refine lv_iconst (v := nI 0) hx hb dL_asks_191 (by decide) ?_
      refine lv_iconst (v := nI 0) hx hb dL_asks_192 (by decide) ?_
      refine lv_iconst (v := nI 0) hx hb dL_asks_193 (by decide) ?_
      refine lv_iconst (v := nI 0) hx hb dL_asks_194 (by decide) ?_
      refine k_goW hP (fun z9 h9 => hA z9 h9) hS (vx_runSW (rest := []) ⟨hx, hb, hml, hown, hts⟩ (c_L_calls_lot l hl0 D q (va_A (wC q cb cM cap nl) H.size) cb cM cap nl (nI (lowN z 1001)) L hcL (by omega) (nI 0) (nI 0) (nI 0) (nI 0) hE) (vx_cwSW 7 hts gL_asks_L_calls rfl rfl rfl (by decide +kernel) ⟨Nat.le_of_ble_eq_true rfl, Nat.le_of_ble_eq_true rfl⟩) ⟨kBL_blind, fun U hU hW => ⟨rfl, ⟨by rw [hU]; exact kW_cut hP, hK.warm hW, (hX.at hS hU hW).narrow (kW_sub hP (fun z9 h9 => hA z9 (Nat.le_trans hS.1 h9)))⟩, fun z9 h9 => Or.inr (by rw [← hU]; exact h9)⟩⟩ rfl rfl hl.1 rfl (lv_room (Nat.le_of_ble_eq_true rfl)) dL_asks_195 ⟨by show 0 + 2 ≤ 2; omega, by show 0 + 12 ≤ 12; omega⟩) (fun H locs hP hS => ?_)
      have hP : kW D A (wL q a ((up (up S 6 (20 + L) (nI (lowN z 1001))) 0 3 (nI (L + 1)))) ((wC q cb cN cap nl))) H := by rw [← hcN]; exact hP
      refine k_top (y := nI (L + 1)) hco ?_
      refine lv_aload hx hb dL_asks_198 (lv_at hl 5 rfl) ?_
      refine lv_iconst (v := nI 3) hx hb dL_asks_200 (by decide) ?_
      refine k_iald hx hb hK hP.1 0 rfl 3 rfl (by omega) (by decide) dL_asks_201 ?_
      refine k_top (y := nI (L + 1)) (up_si _ _ _ _) ?_
      refine k_icmp_ne (P := True) (tgt := 209) hx hb dL_asks_202 (by decide) ⟨fun _ => trivial, fun _ => rfl⟩ (fun c_3 => ?_) (fun c_3 => ?_)
      · skip
        exact (c_3 trivial).elim
      · skip
        refine lv_iconst (v := nI 1) hx hb dL_asks_205 (by decide) ?_
        refine lv_goto (tgt := 210) hx hb dL_asks_206 (by decide) ?_
        refine W.widen (k := 2) (n := 12) (by first | exact Nat.le_of_ble_eq_true rfl | omega) (by first | exact Nat.le_of_ble_eq_true rfl | omega) ?_
        have eM : wL q a ((up (up S 6 (20 + L) (nI (lowN z 1001))) 0 3 (nI (L + 1)))) ((wC q cb cN cap nl)) = wL q a ((yLo S L (lowN z 1001))) ((wC q cb cN cap nl)) := by first | (simp only [if_neg c_2]; done) | (simp only [if_neg c_2]; rfl) | (simp [if_neg c_2]; done) | rfl
        rw [eM] at hP
        exact k_zretW hx hb hr hlocks rfl hP hS (by rfl) dL_asks_210
    · skip
      exact absurd c_2 hfull
  · skip
    exact c_1.elim
