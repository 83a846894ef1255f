set_option maxHeartbeats 4000000 in
set_option maxRecDepth 100000 in
theorem lp_L_leases_107 {p : Program} {l : Launch} {e : Env} {u : State} {m : MethodId} {below : List Frame} {meth : Method} {c : Code} {D : va_G} {q : Nat → ClassId} {A : Nat → Prop} (hl0 : l.stackTraces = false) (a : Nat → Nat) (S : Nat → Nat → Int32) (cb : Nat → Nat) (cM : Nat → Nat → Int32) (cap nl : Nat) (z : Int32) (w0 : Nat) (hfull : nl = 10) (hw : S 0 0 = nI w0) (hw20 : w0 ≤ 20) (hO : yO S nl) (hnl10 : nl ≤ 10) (hnlq : S 0 2 = nI nl) (C0 : kAt p u m #[.ref (cb 0), .int (nI 0), .int (z), .ref (a 8), .ref (a 0)] meth c cL_leases 12 (some .boolean) RL wsL_leases) (hK : kK D q u) (hX : kX A u) (hA : ∀ z : Nat, u.heap.size ≤ z → A z) :
    ∀ (f : Nat) (k : Nat) (T : Nat → Nat → Int32) (x5 : Int32) (x9 : Int32) (x10 : Int32) (x11 : Int32), nl - k < f → k ≤ nl → T = S → x5 = nI (zD z) → x9 = nI (zH z) → x10 = nI 0 → x11 = nI k → ∀ (H : Heap) (locs : List Loc), kW D A (wL q a T ((wC q cb cM cap nl))) H → va_S A u.heap H locs → ∀ (ls : Array Slot), lv_has ls 12 [(0, .ref (cb 0)), (1, .int (nI 0)), (2, .int (z)), (3, .ref (a 8)), (4, .ref (a 0)), (5, .int x5), (9, .int x9), (10, .int x10), (11, .int x11)] → W p l e ({ frames := 1, cells := 0, slots := 0, locals := 21 } : Room) u m #[.ref (cb 0), .int (nI 0), .int (z), .ref (a 8), .ref (a 0)] below meth c H locs 0 0 (MQ below (kRi D A (nI 1) (wL q a S ((wC q cb cM cap nl)))) #[.ref (cb 0), .int (nI 0), .int (z), .ref (a 8), .ref (a 0)] u 0 0 A) (F0 m 107 ls []) := by
  obtain ⟨hx, hb, hr, hml, hown, hts, hlocks⟩ := id C0
  intro f
  induction f with
  | zero =>
    intro k T x5 x9 x10 x11 hf
    exact absurd hf (Nat.not_lt_zero _)
  | succ f ih =>
    intro k T x5 x9 x10 x11 hf hk eT e5 e9 e10 e11 H locs hP hS ls hl
    replace eT := eT.symm
    subst eT
    replace e5 := e5.symm
    subst e5
    replace e9 := e9.symm
    subst e9
    replace e10 := e10.symm
    subst e10
    replace e11 := e11.symm
    subst e11
    refine lv_iload hx hb dL_leases_107 (lv_at hl 8 rfl) ?_
    refine lv_aload hx hb dL_leases_109 (lv_at hl 4 rfl) ?_
    refine lv_iconst (v := nI 2) hx hb dL_leases_111 (by decide) ?_
    refine k_iald hx hb hK hP.1 0 rfl 2 rfl (by omega) (by decide) dL_leases_112 ?_
    refine k_top (y := nI nl) hnlq ?_
    refine k_icmp_ge (P := k < nl) (tgt := 184) hx hb dL_leases_113 (by decide) (nI_ltI (by omega) (by omega)) (fun c_1 => ?_) (fun c_1 => ?_)
    · skip
      refine lv_aload hx hb dL_leases_184 (lv_at hl 4 rfl) ?_
      refine lv_iconst (v := nI 2) hx hb dL_leases_186 (by decide) ?_
      refine k_iald hx hb hK hP.1 0 rfl 2 rfl (by omega) (by decide) dL_leases_187 ?_
      refine k_top (y := nI nl) hnlq ?_
      refine lv_bipush (v := nI 10) hx hb dL_leases_188 (by decide) ?_
      refine k_icmp_ne (P := nl = 10) (tgt := 195) hx hb dL_leases_190 (by decide) (nI_eq (by omega) (by omega)) (fun c_2 => ?_) (fun c_2 => ?_)
      · skip
        exact absurd hfull c_2
      · skip
        refine lv_iconst (v := nI 1) hx hb dL_leases_193 (by decide) ?_
        refine W.widen (k := 0) (n := 0) (by first | exact Nat.le_of_ble_eq_true rfl | omega) (by first | exact Nat.le_of_ble_eq_true rfl | omega) ?_
        exact k_zretW hx hb hr hlocks rfl hP hS (by rfl) dL_leases_194
    · skip
      obtain ⟨⟨-, ho1⟩, ⟨-, ho2⟩, ⟨-, ho3⟩⟩ := hO k (by omega)
      have hzd := zD_lt z
      have hzh := zH_in z
      refine lv_iload hx hb dL_leases_116 (lv_at hl 7 rfl) ?_
      refine k_if_eq (P := True) (tgt := 175) hx hb dL_leases_118 (by decide) ⟨fun _ => trivial, fun _ => rfl⟩ (fun c_3 => ?_) (fun c_3 => ?_)
      · skip
        refine lv_iconst (v := nI 0) hx hb dL_leases_175 (by decide) ?_
        refine lv_istore (lv' := [(10, .int (nI 0)), (0, .ref (cb 0)), (1, .int (nI 0)), (2, .int (z)), (3, .ref (a 8)), (4, .ref (a 0)), (5, .int (nI (zD z))), (9, .int (nI (zH z))), (11, .int (nI k))]) hx hb dL_leases_176 hl (by decide) rfl (fun ls hl => ?_)
        refine lv_iinc (v := nI (k + 1)) (lv' := [(11, .int (nI (k + 1))), (10, .int (nI 0)), (0, .ref (cb 0)), (1, .int (nI 0)), (2, .int (z)), (3, .ref (a 8)), (4, .ref (a 0)), (5, .int (nI (zD z))), (9, .int (nI (zH z)))]) hx hb dL_leases_178 hl (k := 8) rfl (k_iinc _) (by decide) rfl (fun ls hl => ?_)
        refine lv_goto (tgt := 107) hx hb dL_leases_181 (by decide) ?_
        refine W.widen (k := 0) (n := 0) (by omega) (by omega) ?_
        exact ih (k + 1) S (nI (zD z)) (nI (zH z)) (nI 0) (nI (k + 1)) (by omega) (by first | omega | assumption) rfl rfl rfl rfl rfl _ _ hP hS ls (lv_sub hl [2, 3, 4, 5, 6, 7, 8, 1, 0] rfl)
      · skip
        exact (c_3 trivial).elim
set_option maxHeartbeats 4000000 in
set_option maxRecDepth 100000 in
theorem c_L_leases_f (l : Launch) (hl0 : l.stackTraces = false) (D : va_G) (q : Nat → ClassId) (A : Nat → Prop) (a : Nat → Nat) (S : Nat → Nat → Int32) (cb : Nat → Nat) (cM : Nat → Nat → Int32) (cap nl : Nat) (z : Int32) (w0 : Nat) (hfull : nl = 10) (hw : S 0 0 = nI w0) (hw20 : w0 ≤ 20) (hO : yO S nl) (hnl10 : nl ≤ 10) (hnlq : S 0 2 = nI nl) : Met l yL_leases wsL_leases ({ frames := 1, cells := 0, slots := 0, locals := 21 } : Room) (va_Pc [.ref (cb 0), .int (nI 0), .int (z), .ref (a 8), .ref (a 0)] (kBL D q A (fun H => kW D A (wL q a S ((wC q cb cM cap nl))) H))) (kRi D A (nI 1) (wL q a S ((wC q cb cM cap nl)))) 0 0 A := by
  refine Met.ofW (cc := cL_leases) (maxL := 12) (ret := (some .boolean)) (by decide) rfl ?_
  intro p e u m args below meth c s₁ B hml0 hv
  obtain ⟨rfl, ⟨hP, hK, hX⟩, hA⟩ := hv
  have C0 : kAt p u m #[.ref (cb 0), .int (nI 0), .int (z), .ref (a 8), .ref (a 0)] meth c cL_leases 12 (some .boolean) RL wsL_leases := kAt_of B hml0
  obtain ⟨hx, hb, hr, hml, hown, hts, hlocks⟩ := id C0
  have hS : va_S A u.heap u.heap [] := va_S.rf
  have hl := lv_entry ([.ref (cb 0), .int (nI 0), .int (z), .ref (a 8), .ref (a 0)]) (n := 12) (Nat.le_of_ble_eq_true rfl)
  rw [lg_entry_eq]
  generalize (lg_sl ([.ref (cb 0), .int (nI 0), .int (z), .ref (a 8), .ref (a 0)]) ++ List.replicate (12 - (lg_sl ([.ref (cb 0), .int (nI 0), .int (z), .ref (a 8), .ref (a 0)])).length) Slot.unset).toArray = ls at hl ⊢
  have hl : lv_has ls 12 [(0, .ref (cb 0)), (1, .int (nI 0)), (2, .int (z)), (3, .ref (a 8)), (4, .ref (a 0))] := hl
  refine lv_iload_n hx hb dL_leases_0 rfl (lv_at hl 1 rfl) ?_
  refine k_if_ne (P := True) (tgt := 324) hx hb dL_leases_1 (by decide) ⟨fun _ => trivial, fun _ => rfl⟩ (fun c_4 => ?_) (fun c_4 => ?_)
  · skip
    exact (c_4 trivial).elim
  · skip
    refine lv_iload_n hx hb dL_leases_4 rfl (lv_at hl 2 rfl) ?_
    refine lv_iload_n hx hb dL_leases_5 rfl (lv_at hl 2 rfl) ?_
    refine lv_bipush (v := nI 9) hx hb dL_leases_6 (by decide) ?_
    refine lv_ishr hx hb dL_leases_8 ?_
    refine lv_iconst (v := nI 2) hx hb dL_leases_9 (by decide) ?_
    refine k_callS (rest := [.int (z)]) (r := nI (lowN (z >>> ((nI 9) &&& 31)) 2)) ⟨hx, hb, hml, hown, hts⟩ (c_L_low l D q (z >>> ((nI 9) &&& 31)) 2 (by omega) (by omega)) (va_cwS 2 hts gL_leases_L_low rfl rfl rfl (by decide +kernel) ⟨Nat.le_of_ble_eq_true rfl, Nat.le_of_ble_eq_true rfl⟩) hK trivial rfl hl.1 rfl (Nat.le_of_ble_eq_true rfl) dL_leases_10 ⟨by show 0 ≤ 0; omega, by show 0 ≤ 0; omega⟩ (fun _ h => h) ?_
    have hlo : lowN (z >>> ((nI 9) &&& 31)) 2 < 2 := lowN_lt (by first | decide | omega | exact zif_p (by decide) (by decide))
    refine k_cut (pcj := 23) (st9 := [.int (nI (if lowN (z >>> ((nI 9) &&& 31)) 2 = 0 then 36 else 8)), .int (z)]) (n := 12) (lv9 := [(0, .ref (cb 0)), (1, .int (nI 0)), (2, .int (z)), (3, .ref (a 8)), (4, .ref (a 0))]) (fun ls hl => ?_) (fun J23 => ?_)
    · skip
      refine k_callS (rest := []) (r := nI (lowN z (if lowN (z >>> ((nI 9) &&& 31)) 2 = 0 then 36 else 8))) ⟨hx, hb, hml, hown, hts⟩ (c_L_low l D q z (if lowN (z >>> ((nI 9) &&& 31)) 2 = 0 then 36 else 8) (zif_p (by decide) (by decide)) (zif_l (by decide) (by decide))) (va_cwS 2 hts gL_leases_L_low rfl rfl rfl (by decide +kernel) ⟨Nat.le_of_ble_eq_true rfl, Nat.le_of_ble_eq_true rfl⟩) hK trivial rfl hl.1 rfl (Nat.le_of_ble_eq_true rfl) dL_leases_23 ⟨by show 0 ≤ 0; omega, by show 0 ≤ 0; omega⟩ (fun _ h => h) ?_
      have hlo : lowN z (if lowN (z >>> ((nI 9) &&& 31)) 2 = 0 then 36 else 8) < (if lowN (z >>> ((nI 9) &&& 31)) 2 = 0 then 36 else 8) := lowN_lt (by first | decide | omega | exact zif_p (by decide) (by decide))
      refine k_top (y := nI (zD z)) rfl ?_
      refine lv_istore (lv' := [(5, .int (nI (zD z))), (0, .ref (cb 0)), (1, .int (nI 0)), (2, .int (z)), (3, .ref (a 8)), (4, .ref (a 0))]) hx hb dL_leases_26 hl (by decide) rfl (fun ls hl => ?_)
      refine lv_iload_n hx hb dL_leases_28 rfl (lv_at hl 3 rfl) ?_
      refine lv_iconst (v := nI 3) hx hb dL_leases_29 (by decide) ?_
      refine lv_ishr hx hb dL_leases_30 ?_
      refine lv_bipush (v := nI 6) hx hb dL_leases_31 (by decide) ?_
      refine k_callS (rest := []) (r := nI (lowN (z >>> ((nI 3) &&& 31)) 6)) ⟨hx, hb, hml, hown, hts⟩ (c_L_low l D q (z >>> ((nI 3) &&& 31)) 6 (by omega) (by omega)) (va_cwS 2 hts gL_leases_L_low rfl rfl rfl (by decide +kernel) ⟨Nat.le_of_ble_eq_true rfl, Nat.le_of_ble_eq_true rfl⟩) hK trivial rfl hl.1 rfl (Nat.le_of_ble_eq_true rfl) dL_leases_33 ⟨by show 0 ≤ 0; omega, by show 0 ≤ 0; omega⟩ (fun _ h => h) ?_
      have hlo : lowN (z >>> ((nI 3) &&& 31)) 6 < 6 := lowN_lt (by first | decide | omega | exact zif_p (by decide) (by decide))
      refine lv_istore (lv' := [(6, .int (nI (lowN (z >>> ((nI 3) &&& 31)) 6))), (5, .int (nI (zD z))), (0, .ref (cb 0)), (1, .int (nI 0)), (2, .int (z)), (3, .ref (a 8)), (4, .ref (a 0))]) hx hb dL_leases_36 hl (by decide) rfl (fun ls hl => ?_)
      refine lv_iload_n hx hb dL_leases_38 rfl (lv_at hl 4 rfl) ?_
      refine lv_iconst (v := nI 5) hx hb dL_leases_39 (by decide) ?_
      refine lv_ishr hx hb dL_leases_40 ?_
      refine lv_bipush (v := nI 51) hx hb dL_leases_41 (by decide) ?_
      refine k_callS (rest := []) (r := nI (lowN (z >>> ((nI 5) &&& 31)) 51)) ⟨hx, hb, hml, hown, hts⟩ (c_L_low l D q (z >>> ((nI 5) &&& 31)) 51 (by omega) (by omega)) (va_cwS 2 hts gL_leases_L_low rfl rfl rfl (by decide +kernel) ⟨Nat.le_of_ble_eq_true rfl, Nat.le_of_ble_eq_true rfl⟩) hK trivial rfl hl.1 rfl (Nat.le_of_ble_eq_true rfl) dL_leases_43 ⟨by show 0 ≤ 0; omega, by show 0 ≤ 0; omega⟩ (fun _ h => h) ?_
      have hlo : lowN (z >>> ((nI 5) &&& 31)) 51 < 51 := lowN_lt (by first | decide | omega | exact zif_p (by decide) (by decide))
      refine lv_istore (lv' := [(7, .int (nI (lowN (z >>> ((nI 5) &&& 31)) 51))), (6, .int (nI (lowN (z >>> ((nI 3) &&& 31)) 6))), (5, .int (nI (zD z))), (0, .ref (cb 0)), (1, .int (nI 0)), (2, .int (z)), (3, .ref (a 8)), (4, .ref (a 0))]) hx hb dL_leases_46 hl (by decide) rfl (fun ls hl => ?_)
      refine lv_iload_n hx hb dL_leases_48 rfl (lv_at hl 5 rfl) ?_
      refine lv_bipush (v := nI 7) hx hb dL_leases_49 (by decide) ?_
      refine lv_ishr hx hb dL_leases_51 ?_
      refine lv_bipush (v := nI 51) hx hb dL_leases_52 (by decide) ?_
      refine k_callS (rest := []) (r := nI (lowN (z >>> ((nI 7) &&& 31)) 51)) ⟨hx, hb, hml, hown, hts⟩ (c_L_low l D q (z >>> ((nI 7) &&& 31)) 51 (by omega) (by omega)) (va_cwS 2 hts gL_leases_L_low rfl rfl rfl (by decide +kernel) ⟨Nat.le_of_ble_eq_true rfl, Nat.le_of_ble_eq_true rfl⟩) hK trivial rfl hl.1 rfl (Nat.le_of_ble_eq_true rfl) dL_leases_54 ⟨by show 0 ≤ 0; omega, by show 0 ≤ 0; omega⟩ (fun _ h => h) ?_
      have hlo : lowN (z >>> ((nI 7) &&& 31)) 51 < 51 := lowN_lt (by first | decide | omega | exact zif_p (by decide) (by decide))
      refine lv_istore (lv' := [(8, .int (nI (lowN (z >>> ((nI 7) &&& 31)) 51))), (7, .int (nI (lowN (z >>> ((nI 5) &&& 31)) 51))), (6, .int (nI (lowN (z >>> ((nI 3) &&& 31)) 6))), (5, .int (nI (zD z))), (0, .ref (cb 0)), (1, .int (nI 0)), (2, .int (z)), (3, .ref (a 8)), (4, .ref (a 0))]) hx hb dL_leases_57 hl (by decide) rfl (fun ls hl => ?_)
      refine lv_iconst (v := nI 1) hx hb dL_leases_59 (by decide) ?_
      refine lv_iload_n hx hb dL_leases_60 rfl (lv_at hl 6 rfl) ?_
      refine lv_bipush (v := nI 9) hx hb dL_leases_61 (by decide) ?_
      refine lv_ishr hx hb dL_leases_63 ?_
      refine lv_iload_n hx hb dL_leases_64 rfl (lv_at hl 6 rfl) ?_
      refine lv_bipush (v := nI 11) hx hb dL_leases_65 (by decide) ?_
      refine lv_ishr hx hb dL_leases_67 ?_
      refine lv_iconst (v := nI 3) hx hb dL_leases_68 (by decide) ?_
      refine k_callS (rest := [.int (z >>> ((nI 9) &&& 31)), .int (nI 1)]) (r := nI (lowN (z >>> ((nI 11) &&& 31)) 3)) ⟨hx, hb, hml, hown, hts⟩ (c_L_low l D q (z >>> ((nI 11) &&& 31)) 3 (by omega) (by omega)) (va_cwS 2 hts gL_leases_L_low rfl rfl rfl (by decide +kernel) ⟨Nat.le_of_ble_eq_true rfl, Nat.le_of_ble_eq_true rfl⟩) hK trivial rfl hl.1 rfl (Nat.le_of_ble_eq_true rfl) dL_leases_69 ⟨by show 0 ≤ 0; omega, by show 0 ≤ 0; omega⟩ (fun _ h => h) ?_
      have hlo : lowN (z >>> ((nI 11) &&& 31)) 3 < 3 := lowN_lt (by first | decide | omega | exact zif_p (by decide) (by decide))
      refine k_cut (pcj := 82) (st9 := [.int (nI (if lowN (z >>> ((nI 11) &&& 31)) 3 = 0 then 100 else 6)), .int (z >>> ((nI 9) &&& 31)), .int (nI 1)]) (n := 12) (lv9 := [(8, .int (nI (lowN (z >>> ((nI 7) &&& 31)) 51))), (7, .int (nI (lowN (z >>> ((nI 5) &&& 31)) 51))), (6, .int (nI (lowN (z >>> ((nI 3) &&& 31)) 6))), (5, .int (nI (zD z))), (0, .ref (cb 0)), (1, .int (nI 0)), (2, .int (z)), (3, .ref (a 8)), (4, .ref (a 0))]) (fun ls hl => ?_) (fun J82 => ?_)
      · skip
        refine k_callS (rest := [.int (nI 1)]) (r := nI (lowN (z >>> ((nI 9) &&& 31)) (if lowN (z >>> ((nI 11) &&& 31)) 3 = 0 then 100 else 6))) ⟨hx, hb, hml, hown, hts⟩ (c_L_low l D q (z >>> ((nI 9) &&& 31)) (if lowN (z >>> ((nI 11) &&& 31)) 3 = 0 then 100 else 6) (zif_p (by decide) (by decide)) (zif_l (by decide) (by decide))) (va_cwS 2 hts gL_leases_L_low rfl rfl rfl (by decide +kernel) ⟨Nat.le_of_ble_eq_true rfl, Nat.le_of_ble_eq_true rfl⟩) hK trivial rfl hl.1 rfl (Nat.le_of_ble_eq_true rfl) dL_leases_82 ⟨by show 0 ≤ 0; omega, by show 0 ≤ 0; omega⟩ (fun _ h => h) ?_
        have hlo : lowN (z >>> ((nI 9) &&& 31)) (if lowN (z >>> ((nI 11) &&& 31)) 3 = 0 then 100 else 6) < (if lowN (z >>> ((nI 11) &&& 31)) 3 = 0 then 100 else 6) := lowN_lt (by first | decide | omega | exact zif_p (by decide) (by decide))
        refine lv_iadd hx hb dL_leases_85 ?_
        refine k_top (y := nI (1 + (lowN (z >>> ((nI 9) &&& 31)) (if lowN (z >>> ((nI 11) &&& 31)) 3 = 0 then 100 else 6)))) (nI_add _ _) ?_
        refine k_top (y := nI (zH z)) rfl ?_
        refine lv_istore (lv' := [(9, .int (nI (zH z))), (8, .int (nI (lowN (z >>> ((nI 7) &&& 31)) 51))), (7, .int (nI (lowN (z >>> ((nI 5) &&& 31)) 51))), (6, .int (nI (lowN (z >>> ((nI 3) &&& 31)) 6))), (5, .int (nI (zD z))), (0, .ref (cb 0)), (1, .int (nI 0)), (2, .int (z)), (3, .ref (a 8)), (4, .ref (a 0))]) hx hb dL_leases_86 hl (by decide) rfl (fun ls hl => ?_)
        refine lv_aload hx hb dL_leases_88 (lv_at hl 9 rfl) ?_
        refine lv_iconst (v := nI 2) hx hb dL_leases_90 (by decide) ?_
        refine k_iald hx hb hK hP.1 0 rfl 2 rfl (by omega) (by decide) dL_leases_91 ?_
        refine k_top (y := nI nl) hnlq ?_
        refine lv_bipush (v := nI 10) hx hb dL_leases_92 (by decide) ?_
        refine k_icmp_ge (P := nl < 10) (tgt := 101) hx hb dL_leases_94 (by decide) (nI_ltI (by omega) (by omega)) (fun c_5 => ?_) (fun c_5 => ?_)
        · skip
          refine lv_iconst (v := nI 0) hx hb dL_leases_101 (by decide) ?_
          refine lv_istore (lv' := [(10, .int (nI 0)), (9, .int (nI (zH z))), (8, .int (nI (lowN (z >>> ((nI 7) &&& 31)) 51))), (7, .int (nI (lowN (z >>> ((nI 5) &&& 31)) 51))), (6, .int (nI (lowN (z >>> ((nI 3) &&& 31)) 6))), (5, .int (nI (zD z))), (0, .ref (cb 0)), (1, .int (nI 0)), (2, .int (z)), (3, .ref (a 8)), (4, .ref (a 0))]) hx hb dL_leases_102 hl (by decide) rfl (fun ls hl => ?_)
          refine lv_iconst (v := nI 0) hx hb dL_leases_104 (by decide) ?_
          refine lv_istore (lv' := [(11, .int (nI 0)), (10, .int (nI 0)), (9, .int (nI (zH z))), (8, .int (nI (lowN (z >>> ((nI 7) &&& 31)) 51))), (7, .int (nI (lowN (z >>> ((nI 5) &&& 31)) 51))), (6, .int (nI (lowN (z >>> ((nI 3) &&& 31)) 6))), (5, .int (nI (zD z))), (0, .ref (cb 0)), (1, .int (nI 0)), (2, .int (z)), (3, .ref (a 8)), (4, .ref (a 0))]) hx hb dL_leases_105 hl (by decide) rfl (fun ls hl => ?_)
          refine W.widen (k := 0) (n := 0) (by omega) (by omega) ?_
          exact lp_L_leases_107 hl0 a S cb cM cap nl z w0 hfull hw hw20 hO hnl10 hnlq C0 hK hX hA ((nl - 0) + 1) 0 S (nI (zD z)) (nI (zH z)) (nI 0) (nI 0) (by omega) (by first | omega | assumption) rfl rfl rfl rfl rfl _ _ hP hS ls (lv_sub hl [7, 8, 9, 10, 11, 6, 2, 1, 0] rfl)
        · skip
          exact absurd c_5 (by omega)
      · skip
        refine k_if_ne (P := lowN (z >>> ((nI 11) &&& 31)) 3 = 0) (tgt := 80) hx hb dL_leases_72 (by decide) (k_n0 (by omega)) (fun c_6 => ?_) (fun c_6 => ?_)
        · skip
          refine lv_bipush (v := nI 6) hx hb dL_leases_80 (by decide) ?_
          refine k_top (y := nI (if lowN (z >>> ((nI 11) &&& 31)) 3 = 0 then 100 else 6)) (by first | rw [if_pos c_6] | rw [if_neg c_6]) ?_
          exact J82 ls (lv_sub hl [0, 1, 2, 3, 4, 5, 6, 7, 8] rfl)
        · skip
          refine lv_bipush (v := nI 100) hx hb dL_leases_75 (by decide) ?_
          refine lv_goto (tgt := 82) hx hb dL_leases_77 (by decide) ?_
          refine k_top (y := nI (if lowN (z >>> ((nI 11) &&& 31)) 3 = 0 then 100 else 6)) (by first | rw [if_pos c_6] | rw [if_neg c_6]) ?_
          exact J82 ls (lv_sub hl [0, 1, 2, 3, 4, 5, 6, 7, 8] rfl)
    · skip
      refine k_if_ne (P := lowN (z >>> ((nI 9) &&& 31)) 2 = 0) (tgt := 21) hx hb dL_leases_13 (by decide) (k_n0 (by omega)) (fun c_7 => ?_) (fun c_7 => ?_)
      · skip
        refine lv_bipush (v := nI 8) hx hb dL_leases_21 (by decide) ?_
        refine k_top (y := nI (if lowN (z >>> ((nI 9) &&& 31)) 2 = 0 then 36 else 8)) (by first | rw [if_pos c_7] | rw [if_neg c_7]) ?_
        exact J23 ls (lv_sub hl [0, 1, 2, 3, 4] rfl)
      · skip
        refine lv_bipush (v := nI 36) hx hb dL_leases_16 (by decide) ?_
        refine lv_goto (tgt := 23) hx hb dL_leases_18 (by decide) ?_
        refine k_top (y := nI (if lowN (z >>> ((nI 9) &&& 31)) 2 = 0 then 36 else 8)) (by first | rw [if_pos c_7] | rw [if_neg c_7]) ?_
        exact J23 ls (lv_sub hl [0, 1, 2, 3, 4] rfl)
set_option maxHeartbeats 4000000 in
set_option maxRecDepth 100000 in
theorem lp_L_leases_1_107 {p : Program} {l : Launch} {e : Env} {u : State} {m : MethodId} {below : List Frame} {meth : Method} {c : Code} {D : va_G} {q : Nat → ClassId} {A : Nat → Prop} (hl0 : l.stackTraces = false) (a : Nat → Nat) (S : Nat → Nat → Int32) (cb : Nat → Nat) (cM : Nat → Nat → Int32) (cap nl : Nat) (z : Int32) (w0 : Nat) (cN : Nat → Nat → Int32) (hcan : ¬ yCa S (zD z) w0 (zH z) nl = 0) (hnl9 : nl < 10) (hw : S 0 0 = nI w0) (hw20 : w0 ≤ 20) (hO : yO S nl) (hnl10 : nl ≤ 10) (hnlq : S 0 2 = nI nl) (hnow : cM 0 0 = nI w0) (hnl : nl ≤ cap ∧ cap ≤ 40 ∧ nl ≤ 30) (e0 : Nat) (hg : (cap = 0 ∧ cb 26 = e0) ∨ capP cap) (hE : caE [eI, eA, eS] (coLease cM w0 nl (nI (zD z)) (nI (lowN (z >>> (nI 3 &&& 31)) 6)) (nI (lowN (z >>> (nI 5 &&& 31)) 51)) (nI (lowN (z >>> (nI 7 &&& 31)) 51)) (nI (zH z)))) (hc0 : (coLease cM w0 nl (nI (zD z)) (nI (lowN (z >>> (nI 3 &&& 31)) 6)) (nI (lowN (z >>> (nI 5 &&& 31)) 51)) (nI (lowN (z >>> (nI 7 &&& 31)) 51)) (nI (zH z))).1 = nI 0) (hco : caV (coLease cM w0 nl (nI (zD z)) (nI (lowN (z >>> (nI 3 &&& 31)) 6)) (nI (lowN (z >>> (nI 5 &&& 31)) 51)) (nI (lowN (z >>> (nI 7 &&& 31)) 51)) (nI (zH z))) = nI nl) (hcN : outS cM (coLease cM w0 nl (nI (zD z)) (nI (lowN (z >>> (nI 3 &&& 31)) 6)) (nI (lowN (z >>> (nI 5 &&& 31)) 51)) (nI (lowN (z >>> (nI 7 &&& 31)) 51)) (nI (zH z))) = cN) (C0 : kAt p u m #[.ref (cb 0), .int (nI 0), .int (z), .ref (a 8), .ref (a 0)] meth c cL_leases 12 (some .boolean) RL wsL_leases) (hK : kK D q u) (hX : kX A u) (hA : ∀ z : Nat, u.heap.size ≤ z → A z) (hEE : kE e0 A u) :
    ∀ (f : Nat) (k : Nat) (T : Nat → Nat → Int32) (x5 : Int32) (x6 : Int32) (x7 : Int32) (x8 : Int32) (x9 : Int32) (x10 : Int32) (x11 : Int32), nl - k < f → k ≤ nl → T = S → x5 = nI (zD z) → x6 = nI (lowN (z >>> (nI 3 &&& 31)) 6) → x7 = nI (lowN (z >>> (nI 5 &&& 31)) 51) → x8 = nI (lowN (z >>> (nI 7 &&& 31)) 51) → x9 = nI (zH z) → x10 = yCa S (zD z) w0 (zH z) k → x11 = nI k → ∀ (H : Heap) (locs : List Loc), kW D A (wL q a T ((wC q cb cM cap nl))) H → va_S A u.heap H locs → ∀ (ls : Array Slot), lv_has ls 12 [(0, .ref (cb 0)), (1, .int (nI 0)), (2, .int (z)), (3, .ref (a 8)), (4, .ref (a 0)), (5, .int x5), (6, .int x6), (7, .int x7), (8, .int x8), (9, .int x9), (10, .int x10), (11, .int x11)] → W p l e ({ frames := 10, cells := 9, slots := 97, locals := 463 } : Room) u m #[.ref (cb 0), .int (nI 0), .int (z), .ref (a 8), .ref (a 0)] below meth c H locs 0 0 (MQ below (kRly D q A a ((yLM S w0 nl (zD z) (lowN (z >>> (nI 3 &&& 31)) 6) (lowN (z >>> (nI 5 &&& 31)) 51) (lowN (z >>> (nI 7 &&& 31)) 51) (zH z))) cb cN nl) #[.ref (cb 0), .int (nI 0), .int (z), .ref (a 8), .ref (a 0)] u 9 97 A) (F0 m 107 ls []) := by
  obtain ⟨hx, hb, hr, hml, hown, hts, hlocks⟩ := id C0
  intro f
  induction f with
  | zero =>
    intro k T x5 x6 x7 x8 x9 x10 x11 hf
    exact absurd hf (Nat.not_lt_zero _)
  | succ f ih =>
    intro k T x5 x6 x7 x8 x9 x10 x11 hf hk eT e5 e6 e7 e8 e9 e10 e11 H locs hP hS ls hl
    replace eT := eT.symm
    subst eT
    replace e5 := e5.symm
    subst e5
    replace e6 := e6.symm
    subst e6
    replace e7 := e7.symm
    subst e7
    replace e8 := e8.symm
    subst e8
    replace e9 := e9.symm
    subst e9
    replace e10 := e10.symm
    subst e10
    replace e11 := e11.symm
    subst e11
    refine lv_iload hx hb dL_leases_107 (lv_at hl 11 rfl) ?_
    refine lv_aload hx hb dL_leases_109 (lv_at hl 4 rfl) ?_
    refine lv_iconst (v := nI 2) hx hb dL_leases_111 (by decide) ?_
    refine k_iald hx hb hK hP.1 0 rfl 2 rfl (by omega) (by decide) dL_leases_112 ?_
    refine k_top (y := nI nl) hnlq ?_
    refine k_icmp_ge (P := k < nl) (tgt := 184) hx hb dL_leases_113 (by decide) (nI_ltI (by omega) (by omega)) (fun c_1 => ?_) (fun c_1 => ?_)
    · skip
      have ek : k = nl := by omega
      rw [ek] at hl
      refine lv_aload hx hb dL_leases_184 (lv_at hl 4 rfl) ?_
      refine lv_iconst (v := nI 2) hx hb dL_leases_186 (by decide) ?_
      refine k_iald hx hb hK hP.1 0 rfl 2 rfl (by omega) (by decide) dL_leases_187 ?_
      refine k_top (y := nI nl) hnlq ?_
      refine lv_bipush (v := nI 10) hx hb dL_leases_188 (by decide) ?_
      refine k_icmp_ne (P := nl = 10) (tgt := 195) hx hb dL_leases_190 (by decide) (nI_eq (by omega) (by omega)) (fun c_2 => ?_) (fun c_2 => ?_)
      · skip
        refine lv_iload hx hb dL_leases_195 (lv_at hl 10 rfl) ?_
        refine k_if_eq (P := yCa S (zD z) w0 (zH z) nl = 0) (tgt := 284) hx hb dL_leases_197 (by decide) Iff.rfl (fun c_3 => ?_) (fun c_3 => ?_)
        · skip
          exact absurd c_3 hcan
        · skip
          refine lv_aload_n hx hb dL_leases_200 rfl (lv_at hl 3 rfl) ?_
          refine lv_bipush (v := nI 6) hx hb dL_leases_201 (by decide) ?_
          refine lv_aload hx hb dL_leases_203 (lv_at hl 4 rfl) ?_
          refine lv_iconst (v := nI 2) hx hb dL_leases_205 (by decide) ?_
          refine k_iald hx hb hK hP.1 0 rfl 2 rfl (by omega) (by decide) dL_leases_206 ?_
          refine k_top (y := nI nl) hnlq ?_
          refine lv_imul hx hb dL_leases_207 ?_
          refine k_top (y := nI (6 * nl)) (pk_mul _ _) ?_
          refine lv_iload hx hb dL_leases_208 (lv_at hl 5 rfl) ?_
          refine lv_bipush (v := nI 36) hx hb dL_leases_210 (by decide) ?_
          refine lv_iload hx hb dL_leases_212 (lv_at hl 6 rfl) ?_
          refine lv_imul hx hb dL_leases_214 ?_
          refine k_top (y := nI (36 * (lowN (z >>> (nI 3 &&& 31)) 6))) (pk_mul _ _) ?_
          refine lv_iadd hx hb dL_leases_215 ?_
          refine k_top (y := nI (zD z + (36 * (lowN (z >>> (nI 3 &&& 31)) 6)))) (nI_add _ _) ?_
          refine k_iast (wL q a ((up S 8 (6 * nl) (nI (zD z + (36 * (lowN (z >>> (nI 3 &&& 31)) 6)))))) ((wC q cb cM cap nl))) hx hb hK hP hS 8 rfl (6 * nl) rfl (by omega) (by decide) wL_s8 dL_leases_216 (fun H locs hP hS => ?_)
          refine lv_aload_n hx hb dL_leases_217 rfl (lv_at hl 3 rfl) ?_
          refine lv_bipush (v := nI 6) hx hb dL_leases_218 (by decide) ?_
          refine lv_aload hx hb dL_leases_220 (lv_at hl 4 rfl) ?_
          refine lv_iconst (v := nI 2) hx hb dL_leases_222 (by decide) ?_
          refine k_iald hx hb hK hP.1 0 rfl 2 rfl (by omega) (by decide) dL_leases_223 ?_
          refine k_top (y := S 0 2) (congrFun (up_n (by decide)) _) ?_
          refine k_top (y := nI nl) hnlq ?_
          refine lv_imul hx hb dL_leases_224 ?_
          refine k_top (y := nI (6 * nl)) (pk_mul _ _) ?_
          refine lv_iconst (v := nI 1) hx hb dL_leases_225 (by decide) ?_
          refine lv_iadd hx hb dL_leases_226 ?_
          refine k_top (y := nI (6 * nl + 1)) (nI_add _ _) ?_
          refine lv_iload hx hb dL_leases_227 (lv_at hl 7 rfl) ?_
          refine k_iast (wL q a ((up (up S 8 (6 * nl) (nI (zD z + (36 * (lowN (z >>> (nI 3 &&& 31)) 6))))) 8 (6 * nl + 1) (nI (lowN (z >>> (nI 5 &&& 31)) 51)))) ((wC q cb cM cap nl))) hx hb hK hP hS 8 rfl (6 * nl + 1) rfl (by omega) (by decide) wL_s8 dL_leases_229 (fun H locs hP hS => ?_)
          refine lv_aload_n hx hb dL_leases_230 rfl (lv_at hl 3 rfl) ?_
          refine lv_bipush (v := nI 6) hx hb dL_leases_231 (by decide) ?_
          refine lv_aload hx hb dL_leases_233 (lv_at hl 4 rfl) ?_
          refine lv_iconst (v := nI 2) hx hb dL_leases_235 (by decide) ?_
          refine k_iald hx hb hK hP.1 0 rfl 2 rfl (by omega) (by decide) dL_leases_236 ?_
          refine k_top (y := S 0 2) ((congrFun (up_n (by decide)) _).trans (congrFun (up_n (by decide)) _)) ?_
          refine k_top (y := nI nl) hnlq ?_
          refine lv_imul hx hb dL_leases_237 ?_
          refine k_top (y := nI (6 * nl)) (pk_mul _ _) ?_
          refine lv_iconst (v := nI 2) hx hb dL_leases_238 (by decide) ?_
          refine lv_iadd hx hb dL_leases_239 ?_
          refine k_top (y := nI (6 * nl + 2)) (nI_add _ _) ?_
          refine lv_iload hx hb dL_leases_240 (lv_at hl 8 rfl) ?_
          refine k_iast (wL q a ((up (up (up S 8 (6 * nl) (nI (zD z + (36 * (lowN (z >>> (nI 3 &&& 31)) 6))))) 8 (6 * nl + 1) (nI (lowN (z >>> (nI 5 &&& 31)) 51))) 8 (6 * nl + 2) (nI (lowN (z >>> (nI 7 &&& 31)) 51)))) ((wC q cb cM cap nl))) hx hb hK hP hS 8 rfl (6 * nl + 2) rfl (by omega) (by decide) wL_s8 dL_leases_242 (fun H locs hP hS => ?_)
          refine lv_aload_n hx hb dL_leases_243 rfl (lv_at hl 3 rfl) ?_
          refine lv_bipush (v := nI 6) hx hb dL_leases_244 (by decide) ?_
          refine lv_aload hx hb dL_leases_246 (lv_at hl 4 rfl) ?_
          refine lv_iconst (v := nI 2) hx hb dL_leases_248 (by decide) ?_
          refine k_iald hx hb hK hP.1 0 rfl 2 rfl (by omega) (by decide) dL_leases_249 ?_
          refine k_top (y := S 0 2) ((congrFun (up_n (by decide)) _).trans ((congrFun (up_n (by decide)) _).trans (congrFun (up_n (by decide)) _))) ?_
          refine k_top (y := nI nl) hnlq ?_
          refine lv_imul hx hb dL_leases_250 ?_
          refine k_top (y := nI (6 * nl)) (pk_mul _ _) ?_
          refine lv_iconst (v := nI 3) hx hb dL_leases_251 (by decide) ?_
          refine lv_iadd hx hb dL_leases_252 ?_
          refine k_top (y := nI (6 * nl + 3)) (nI_add _ _) ?_
          refine lv_aload hx hb dL_leases_253 (lv_at hl 4 rfl) ?_
          refine lv_iconst (v := nI 0) hx hb dL_leases_255 (by decide) ?_
          refine k_iald hx hb hK hP.1 0 rfl 0 rfl (by omega) (by decide) dL_leases_256 ?_
          refine k_top (y := S 0 0) ((congrFun (up_n (by decide)) _).trans ((congrFun (up_n (by decide)) _).trans (congrFun (up_n (by decide)) _))) ?_
          refine k_top (y := nI w0) hw ?_
          refine k_iast (wL q a ((up (up (up (up S 8 (6 * nl) (nI (zD z + (36 * (lowN (z >>> (nI 3 &&& 31)) 6))))) 8 (6 * nl + 1) (nI (lowN (z >>> (nI 5 &&& 31)) 51))) 8 (6 * nl + 2) (nI (lowN (z >>> (nI 7 &&& 31)) 51))) 8 (6 * nl + 3) (nI w0))) ((wC q cb cM cap nl))) hx hb hK hP hS 8 rfl (6 * nl + 3) rfl (by omega) (by decide) wL_s8 dL_leases_257 (fun H locs hP hS => ?_)
          refine lv_aload_n hx hb dL_leases_258 rfl (lv_at hl 3 rfl) ?_
          refine lv_bipush (v := nI 6) hx hb dL_leases_259 (by decide) ?_
          refine lv_aload hx hb dL_leases_261 (lv_at hl 4 rfl) ?_
          refine lv_iconst (v := nI 2) hx hb dL_leases_263 (by decide) ?_
          refine k_iald hx hb hK hP.1 0 rfl 2 rfl (by omega) (by decide) dL_leases_264 ?_
          refine k_top (y := S 0 2) ((congrFun (up_n (by decide)) _).trans ((congrFun (up_n (by decide)) _).trans ((congrFun (up_n (by decide)) _).trans (congrFun (up_n (by decide)) _)))) ?_
          refine k_top (y := nI nl) hnlq ?_
          refine lv_imul hx hb dL_leases_265 ?_
          refine k_top (y := nI (6 * nl)) (pk_mul _ _) ?_
          refine lv_iconst (v := nI 4) hx hb dL_leases_266 (by decide) ?_
          refine lv_iadd hx hb dL_leases_267 ?_
          refine k_top (y := nI (6 * nl + 4)) (nI_add _ _) ?_
          refine lv_aload hx hb dL_leases_268 (lv_at hl 4 rfl) ?_
          refine lv_iconst (v := nI 0) hx hb dL_leases_270 (by decide) ?_
          refine k_iald hx hb hK hP.1 0 rfl 0 rfl (by omega) (by decide) dL_leases_271 ?_
          refine k_top (y := S 0 0) ((congrFun (up_n (by decide)) _).trans ((congrFun (up_n (by decide)) _).trans ((congrFun (up_n (by decide)) _).trans (congrFun (up_n (by decide)) _)))) ?_
          refine k_top (y := nI w0) hw ?_
          refine lv_iload hx hb dL_leases_272 (lv_at hl 9 rfl) ?_
          refine lv_iadd hx hb dL_leases_274 ?_
          refine k_top (y := nI (w0 + (zH z))) (nI_add _ _) ?_
          refine k_iast (wL q a ((up (up (up (up (up S 8 (6 * nl) (nI (zD z + (36 * (lowN (z >>> (nI 3 &&& 31)) 6))))) 8 (6 * nl + 1) (nI (lowN (z >>> (nI 5 &&& 31)) 51))) 8 (6 * nl + 2) (nI (lowN (z >>> (nI 7 &&& 31)) 51))) 8 (6 * nl + 3) (nI w0)) 8 (6 * nl + 4) (nI (w0 + (zH z))))) ((wC q cb cM cap nl))) hx hb hK hP hS 8 rfl (6 * nl + 4) rfl (by omega) (by decide) wL_s8 dL_leases_275 (fun H locs hP hS => ?_)
          refine lv_aload hx hb dL_leases_276 (lv_at hl 4 rfl) ?_
          refine lv_iconst (v := nI 2) hx hb dL_leases_278 (by decide) ?_
          refine lv_dup2_11 hx hb dL_leases_279 rfl rfl ?_
          refine k_iald hx hb hK hP.1 0 rfl 2 rfl (by omega) (by decide) dL_leases_280 ?_
          refine k_top (y := S 0 2) ((congrFun (up_n (by decide)) _).trans ((congrFun (up_n (by decide)) _).trans ((congrFun (up_n (by decide)) _).trans ((congrFun (up_n (by decide)) _).trans (congrFun (up_n (by decide)) _))))) ?_
          refine k_top (y := nI nl) hnlq ?_
          refine lv_iconst (v := nI 1) hx hb dL_leases_281 (by decide) ?_
          refine lv_iadd hx hb dL_leases_282 ?_
          refine k_top (y := nI (nl + 1)) (nI_add _ _) ?_
          refine k_iast (wL q a ((up (up (up (up (up (up S 8 (6 * nl) (nI (zD z + (36 * (lowN (z >>> (nI 3 &&& 31)) 6))))) 8 (6 * nl + 1) (nI (lowN (z >>> (nI 5 &&& 31)) 51))) 8 (6 * nl + 2) (nI (lowN (z >>> (nI 7 &&& 31)) 51))) 8 (6 * nl + 3) (nI w0)) 8 (6 * nl + 4) (nI (w0 + (zH z)))) 0 2 (nI (nl + 1)))) ((wC q cb cM cap nl))) hx hb hK hP hS 0 rfl 2 rfl (by omega) (by decide) wL_s0 dL_leases_283 (fun H locs hP hS => ?_)
          refine lv_aload_n hx hb dL_leases_284 rfl (lv_at hl 0 rfl) ?_
          refine lv_iconst (v := nI 1) hx hb dL_leases_285 (by decide) ?_
          refine lv_iload hx hb dL_leases_286 (lv_at hl 5 rfl) ?_
          refine lv_iload hx hb dL_leases_288 (lv_at hl 6 rfl) ?_
          refine lv_iload hx hb dL_leases_290 (lv_at hl 7 rfl) ?_
          refine lv_iload hx hb dL_leases_292 (lv_at hl 8 rfl) ?_
          refine lv_iload hx hb dL_leases_294 (lv_at hl 9 rfl) ?_
          refine k_goTi hP (fun z9 h9 => hA z9 h9) hS (vx_runSW (rest := []) ⟨hx, hb, hml, hown, hts⟩ (c_L_calls_lease l hl0 D q (va_A (wC q cb cM cap nl) H.size) cb cM cap nl (nI (zD z)) (nI (lowN (z >>> (nI 3 &&& 31)) 6)) (nI (lowN (z >>> (nI 5 &&& 31)) 51)) (nI (lowN (z >>> (nI 7 &&& 31)) 51)) (nI (zH z)) w0 e0 hnl hnow (by omega) hg hE) (vx_cwSW 7 hts gL_leases_L_calls rfl rfl rfl (by decide +kernel) ⟨Nat.le_of_ble_eq_true rfl, Nat.le_of_ble_eq_true rfl⟩) ⟨kBLe_blind, fun U hU hW => ⟨rfl, ⟨⟨by rw [hU]; exact kW_cut hP, hK.warm hW, (hX.at hS hU hW).narrow (kW_sub hP (fun z9 h9 => hA z9 (Nat.le_trans hS.1 h9)))⟩, fun z9 h9 => Or.inr (by rw [← hU]; exact h9)⟩, (hEE.at hS hU hW).narrow (kW_sub hP (fun z9 h9 => hA z9 (Nat.le_trans hS.1 h9)))⟩⟩ rfl rfl hl.1 rfl (lv_room (Nat.le_of_ble_eq_true rfl)) dL_leases_296 ⟨by show 0 + 9 ≤ 9; omega, by show 0 + 97 ≤ 97; omega⟩) (fun r9 x9 H locs hq9 hP hS => ?_)
          obtain ⟨hr9, hx9, -⟩ := hq9
          have hx9 := hx9 hc0
          rw [hcN] at hP
          have hP : kW D A (wL q a (yLM S w0 nl (zD z) (lowN (z >>> (nI 3 &&& 31)) 6) (lowN (z >>> (nI 5 &&& 31)) 51) (lowN (z >>> (nI 7 &&& 31)) 51) (zH z)) (wC q x9.1 cN x9.2.1 x9.2.2)) H := hP
          refine k_top (y := nI nl) (hr9.trans hco) ?_
          refine lv_iload hx hb dL_leases_299 (lv_at hl 10 rfl) ?_
          refine k_if_eq (P := yCa S (zD z) w0 (zH z) nl = 0) (tgt := 313) hx hb dL_leases_301 (by decide) Iff.rfl (fun c_4 => ?_) (fun c_4 => ?_)
          · skip
            exact absurd c_4 c_3
          · skip
            refine lv_aload hx hb dL_leases_304 (lv_at hl 4 rfl) ?_
            refine lv_iconst (v := nI 2) hx hb dL_leases_306 (by decide) ?_
            refine k_iald hx hb hK hP.1 0 rfl 2 rfl (by omega) (by decide) dL_leases_307 ?_
            refine k_top (y := nI (nl + 1)) (up_si _ _ _ _) ?_
            refine lv_iconst (v := nI 1) hx hb dL_leases_308 (by decide) ?_
            refine lv_isub hx hb dL_leases_309 ?_
            refine k_top (y := nI (nl + 1 - 1)) (pk_sub (by omega)) ?_
            refine lv_goto (tgt := 315) hx hb dL_leases_310 (by decide) ?_
            refine k_icmp_ne (P := nl = nl + 1 - 1) (tgt := 322) hx hb dL_leases_315 (by decide) (nI_eq (by omega) (by omega)) (fun c_5 => ?_) (fun c_5 => ?_)
            · skip
              exact absurd (by omega) c_5
            · skip
              refine lv_iconst (v := nI 1) hx hb dL_leases_318 (by decide) ?_
              refine lv_goto (tgt := 323) hx hb dL_leases_319 (by decide) ?_
              refine W.widen (k := 9) (n := 97) (by first | exact Nat.le_of_ble_eq_true rfl | omega) (by first | exact Nat.le_of_ble_eq_true rfl | omega) ?_
              exact k_zretY x9 hx hb hr hlocks hx9 hP hS dL_leases_323
      · skip
        exact absurd c_2 (by omega)
    · skip
      obtain ⟨⟨-, ho1⟩, ⟨-, ho2⟩, ⟨-, ho3⟩⟩ := hO k (by omega)
      have hzd := zD_lt z
      have hzh := zH_in z
      refine lv_iload hx hb dL_leases_116 (lv_at hl 10 rfl) ?_
      refine k_if_eq (P := yCa S (zD z) w0 (zH z) k = 0) (tgt := 175) hx hb dL_leases_118 (by decide) Iff.rfl (fun c_6 => ?_) (fun c_6 => ?_)
      · skip
        refine lv_iconst (v := nI 0) hx hb dL_leases_175 (by decide) ?_
        refine lv_istore (lv' := [(10, .int (nI 0)), (0, .ref (cb 0)), (1, .int (nI 0)), (2, .int (z)), (3, .ref (a 8)), (4, .ref (a 0)), (5, .int (nI (zD z))), (6, .int (nI (lowN (z >>> (nI 3 &&& 31)) 6))), (7, .int (nI (lowN (z >>> (nI 5 &&& 31)) 51))), (8, .int (nI (lowN (z >>> (nI 7 &&& 31)) 51))), (9, .int (nI (zH z))), (11, .int (nI k))]) hx hb dL_leases_176 hl (by decide) rfl (fun ls hl => ?_)
        refine lv_iinc (v := nI (k + 1)) (lv' := [(11, .int (nI (k + 1))), (10, .int (nI 0)), (0, .ref (cb 0)), (1, .int (nI 0)), (2, .int (z)), (3, .ref (a 8)), (4, .ref (a 0)), (5, .int (nI (zD z))), (6, .int (nI (lowN (z >>> (nI 3 &&& 31)) 6))), (7, .int (nI (lowN (z >>> (nI 5 &&& 31)) 51))), (8, .int (nI (lowN (z >>> (nI 7 &&& 31)) 51))), (9, .int (nI (zH z)))]) hx hb dL_leases_178 hl (k := 11) rfl (k_iinc _) (by decide) rfl (fun ls hl => ?_)
        refine lv_goto (tgt := 107) hx hb dL_leases_181 (by decide) ?_
        refine W.widen (k := 0) (n := 0) (by omega) (by omega) ?_
        exact ih (k + 1) S (nI (zD z)) (nI (lowN (z >>> (nI 3 &&& 31)) 6)) (nI (lowN (z >>> (nI 5 &&& 31)) 51)) (nI (lowN (z >>> (nI 7 &&& 31)) 51)) (nI (zH z)) (nI 0) (nI (k + 1)) (by omega) (by first | omega | assumption) rfl rfl rfl rfl rfl rfl (by simp only [yCa_s, if_pos c_6]) rfl _ _ hP hS ls (lv_sub hl [2, 3, 4, 5, 6, 7, 8, 9, 10, 11, 1, 0] rfl)
      · skip
        refine lv_aload_n hx hb dL_leases_121 rfl (lv_at hl 3 rfl) ?_
        refine lv_bipush (v := nI 6) hx hb dL_leases_122 (by decide) ?_
        refine lv_iload hx hb dL_leases_124 (lv_at hl 11 rfl) ?_
        refine lv_imul hx hb dL_leases_126 ?_
        refine k_top (y := nI (6 * k)) (pk_mul _ _) ?_
        refine k_iald hx hb hK hP.1 8 rfl (6 * k) rfl (by omega) (by decide) dL_leases_127 ?_
        refine k_top (y := nI (ix S 8 (6 * k))) (hO k (by omega)).1.1 ?_
        refine lv_bipush (v := nI 36) hx hb dL_leases_128 (by decide) ?_
        refine lv_irem hx hb dL_leases_130 (by decide) ?_
        refine k_top (y := nI ((ix S 8 (6 * k)) % 36)) (pk_rem (by omega) (by omega) (by omega)) ?_
        refine lv_iload hx hb dL_leases_131 (lv_at hl 5 rfl) ?_
        refine k_icmp_ne (P := (ix S 8 (6 * k)) % 36 = zD z) (tgt := 171) hx hb dL_leases_133 (by decide) (nI_eq (by omega) (by omega)) (fun c_7 => ?_) (fun c_7 => ?_)
        · skip
          refine lv_iconst (v := nI 1) hx hb dL_leases_171 (by decide) ?_
          refine lv_goto (tgt := 176) hx hb dL_leases_172 (by decide) ?_
          refine lv_istore (lv' := [(10, .int (nI 1)), (0, .ref (cb 0)), (1, .int (nI 0)), (2, .int (z)), (3, .ref (a 8)), (4, .ref (a 0)), (5, .int (nI (zD z))), (6, .int (nI (lowN (z >>> (nI 3 &&& 31)) 6))), (7, .int (nI (lowN (z >>> (nI 5 &&& 31)) 51))), (8, .int (nI (lowN (z >>> (nI 7 &&& 31)) 51))), (9, .int (nI (zH z))), (11, .int (nI k))]) hx hb dL_leases_176 hl (by decide) rfl (fun ls hl => ?_)
          refine lv_iinc (v := nI (k + 1)) (lv' := [(11, .int (nI (k + 1))), (10, .int (nI 1)), (0, .ref (cb 0)), (1, .int (nI 0)), (2, .int (z)), (3, .ref (a 8)), (4, .ref (a 0)), (5, .int (nI (zD z))), (6, .int (nI (lowN (z >>> (nI 3 &&& 31)) 6))), (7, .int (nI (lowN (z >>> (nI 5 &&& 31)) 51))), (8, .int (nI (lowN (z >>> (nI 7 &&& 31)) 51))), (9, .int (nI (zH z)))]) hx hb dL_leases_178 hl (k := 11) rfl (k_iinc _) (by decide) rfl (fun ls hl => ?_)
          refine lv_goto (tgt := 107) hx hb dL_leases_181 (by decide) ?_
          refine W.widen (k := 0) (n := 0) (by omega) (by omega) ?_
          exact ih (k + 1) S (nI (zD z)) (nI (lowN (z >>> (nI 3 &&& 31)) 6)) (nI (lowN (z >>> (nI 5 &&& 31)) 51)) (nI (lowN (z >>> (nI 7 &&& 31)) 51)) (nI (zH z)) (nI 1) (nI (k + 1)) (by omega) (by first | omega | assumption) rfl rfl rfl rfl rfl rfl (by simp only [yCa_s, if_neg c_6, if_neg c_7]) rfl _ _ hP hS ls (lv_sub hl [2, 3, 4, 5, 6, 7, 8, 9, 10, 11, 1, 0] rfl)
        · skip
          refine lv_aload_n hx hb dL_leases_136 rfl (lv_at hl 3 rfl) ?_
          refine lv_bipush (v := nI 6) hx hb dL_leases_137 (by decide) ?_
          refine lv_iload hx hb dL_leases_139 (lv_at hl 11 rfl) ?_
          refine lv_imul hx hb dL_leases_141 ?_
          refine k_top (y := nI (6 * k)) (pk_mul _ _) ?_
          refine lv_iconst (v := nI 4) hx hb dL_leases_142 (by decide) ?_
          refine lv_iadd hx hb dL_leases_143 ?_
          refine k_top (y := nI (6 * k + 4)) (nI_add _ _) ?_
          refine k_iald hx hb hK hP.1 8 rfl (6 * k + 4) rfl (by omega) (by decide) dL_leases_144 ?_
          refine k_top (y := nI (ix S 8 (6 * k + 4))) (hO k (by omega)).2.2.1 ?_
          refine lv_aload hx hb dL_leases_145 (lv_at hl 4 rfl) ?_
          refine lv_iconst (v := nI 0) hx hb dL_leases_147 (by decide) ?_
          refine k_iald hx hb hK hP.1 0 rfl 0 rfl (by omega) (by decide) dL_leases_148 ?_
          refine k_top (y := nI w0) hw ?_
          refine k_icmp_le (P := ix S 8 (6 * k + 4) ≤ w0) (tgt := 171) hx hb dL_leases_149 (by decide) (nI_leI (by omega) (by omega)) (fun c_8 => ?_) (fun c_8 => ?_)
          · skip
            refine lv_iconst (v := nI 1) hx hb dL_leases_171 (by decide) ?_
            refine lv_goto (tgt := 176) hx hb dL_leases_172 (by decide) ?_
            refine lv_istore (lv' := [(10, .int (nI 1)), (0, .ref (cb 0)), (1, .int (nI 0)), (2, .int (z)), (3, .ref (a 8)), (4, .ref (a 0)), (5, .int (nI (zD z))), (6, .int (nI (lowN (z >>> (nI 3 &&& 31)) 6))), (7, .int (nI (lowN (z >>> (nI 5 &&& 31)) 51))), (8, .int (nI (lowN (z >>> (nI 7 &&& 31)) 51))), (9, .int (nI (zH z))), (11, .int (nI k))]) hx hb dL_leases_176 hl (by decide) rfl (fun ls hl => ?_)
            refine lv_iinc (v := nI (k + 1)) (lv' := [(11, .int (nI (k + 1))), (10, .int (nI 1)), (0, .ref (cb 0)), (1, .int (nI 0)), (2, .int (z)), (3, .ref (a 8)), (4, .ref (a 0)), (5, .int (nI (zD z))), (6, .int (nI (lowN (z >>> (nI 3 &&& 31)) 6))), (7, .int (nI (lowN (z >>> (nI 5 &&& 31)) 51))), (8, .int (nI (lowN (z >>> (nI 7 &&& 31)) 51))), (9, .int (nI (zH z)))]) hx hb dL_leases_178 hl (k := 11) rfl (k_iinc _) (by decide) rfl (fun ls hl => ?_)
            refine lv_goto (tgt := 107) hx hb dL_leases_181 (by decide) ?_
            refine W.widen (k := 0) (n := 0) (by omega) (by omega) ?_
            exact ih (k + 1) S (nI (zD z)) (nI (lowN (z >>> (nI 3 &&& 31)) 6)) (nI (lowN (z >>> (nI 5 &&& 31)) 51)) (nI (lowN (z >>> (nI 7 &&& 31)) 51)) (nI (zH z)) (nI 1) (nI (k + 1)) (by omega) (by first | omega | assumption) rfl rfl rfl rfl rfl rfl (by simp only [yCa_s, if_neg c_6, if_pos c_7, if_pos c_8]) rfl _ _ hP hS ls (lv_sub hl [2, 3, 4, 5, 6, 7, 8, 9, 10, 11, 1, 0] rfl)
          · skip
            refine lv_aload_n hx hb dL_leases_152 rfl (lv_at hl 3 rfl) ?_
            refine lv_bipush (v := nI 6) hx hb dL_leases_153 (by decide) ?_
            refine lv_iload hx hb dL_leases_155 (lv_at hl 11 rfl) ?_
            refine lv_imul hx hb dL_leases_157 ?_
            refine k_top (y := nI (6 * k)) (pk_mul _ _) ?_
            refine lv_iconst (v := nI 3) hx hb dL_leases_158 (by decide) ?_
            refine lv_iadd hx hb dL_leases_159 ?_
            refine k_top (y := nI (6 * k + 3)) (nI_add _ _) ?_
            refine k_iald hx hb hK hP.1 8 rfl (6 * k + 3) rfl (by omega) (by decide) dL_leases_160 ?_
            refine k_top (y := nI (ix S 8 (6 * k + 3))) (hO k (by omega)).2.1.1 ?_
            refine lv_aload hx hb dL_leases_161 (lv_at hl 4 rfl) ?_
            refine lv_iconst (v := nI 0) hx hb dL_leases_163 (by decide) ?_
            refine k_iald hx hb hK hP.1 0 rfl 0 rfl (by omega) (by decide) dL_leases_164 ?_
            refine k_top (y := nI w0) hw ?_
            refine lv_iload hx hb dL_leases_165 (lv_at hl 9 rfl) ?_
            refine lv_iadd hx hb dL_leases_167 ?_
            refine k_top (y := nI (w0 + (zH z))) (nI_add _ _) ?_
            refine k_icmp_lt (P := ix S 8 (6 * k + 3) < w0 + (zH z)) (tgt := 175) hx hb dL_leases_168 (by decide) (nI_ltI (by omega) (by omega)) (fun c_9 => ?_) (fun c_9 => ?_)
            · skip
              refine lv_iconst (v := nI 0) hx hb dL_leases_175 (by decide) ?_
              refine lv_istore (lv' := [(10, .int (nI 0)), (0, .ref (cb 0)), (1, .int (nI 0)), (2, .int (z)), (3, .ref (a 8)), (4, .ref (a 0)), (5, .int (nI (zD z))), (6, .int (nI (lowN (z >>> (nI 3 &&& 31)) 6))), (7, .int (nI (lowN (z >>> (nI 5 &&& 31)) 51))), (8, .int (nI (lowN (z >>> (nI 7 &&& 31)) 51))), (9, .int (nI (zH z))), (11, .int (nI k))]) hx hb dL_leases_176 hl (by decide) rfl (fun ls hl => ?_)
              refine lv_iinc (v := nI (k + 1)) (lv' := [(11, .int (nI (k + 1))), (10, .int (nI 0)), (0, .ref (cb 0)), (1, .int (nI 0)), (2, .int (z)), (3, .ref (a 8)), (4, .ref (a 0)), (5, .int (nI (zD z))), (6, .int (nI (lowN (z >>> (nI 3 &&& 31)) 6))), (7, .int (nI (lowN (z >>> (nI 5 &&& 31)) 51))), (8, .int (nI (lowN (z >>> (nI 7 &&& 31)) 51))), (9, .int (nI (zH z)))]) hx hb dL_leases_178 hl (k := 11) rfl (k_iinc _) (by decide) rfl (fun ls hl => ?_)
              refine lv_goto (tgt := 107) hx hb dL_leases_181 (by decide) ?_
              refine W.widen (k := 0) (n := 0) (by omega) (by omega) ?_
              exact ih (k + 1) S (nI (zD z)) (nI (lowN (z >>> (nI 3 &&& 31)) 6)) (nI (lowN (z >>> (nI 5 &&& 31)) 51)) (nI (lowN (z >>> (nI 7 &&& 31)) 51)) (nI (zH z)) (nI 0) (nI (k + 1)) (by omega) (by first | omega | assumption) rfl rfl rfl rfl rfl rfl (by simp only [yCa_s, if_neg c_6, if_pos c_7, if_neg c_8, if_pos c_9]) rfl _ _ hP hS ls (lv_sub hl [2, 3, 4, 5, 6, 7, 8, 9, 10, 11, 1, 0] rfl)
            · skip
              refine lv_iconst (v := nI 1) hx hb dL_leases_171 (by decide) ?_
              refine lv_goto (tgt := 176) hx hb dL_leases_172 (by decide) ?_
              refine lv_istore (lv' := [(10, .int (nI 1)), (0, .ref (cb 0)), (1, .int (nI 0)), (2, .int (z)), (3, .ref (a 8)), (4, .ref (a 0)), (5, .int (nI (zD z))), (6, .int (nI (lowN (z >>> (nI 3 &&& 31)) 6))), (7, .int (nI (lowN (z >>> (nI 5 &&& 31)) 51))), (8, .int (nI (lowN (z >>> (nI 7 &&& 31)) 51))), (9, .int (nI (zH z))), (11, .int (nI k))]) hx hb dL_leases_176 hl (by decide) rfl (fun ls hl => ?_)
              refine lv_iinc (v := nI (k + 1)) (lv' := [(11, .int (nI (k + 1))), (10, .int (nI 1)), (0, .ref (cb 0)), (1, .int (nI 0)), (2, .int (z)), (3, .ref (a 8)), (4, .ref (a 0)), (5, .int (nI (zD z))), (6, .int (nI (lowN (z >>> (nI 3 &&& 31)) 6))), (7, .int (nI (lowN (z >>> (nI 5 &&& 31)) 51))), (8, .int (nI (lowN (z >>> (nI 7 &&& 31)) 51))), (9, .int (nI (zH z)))]) hx hb dL_leases_178 hl (k := 11) rfl (k_iinc _) (by decide) rfl (fun ls hl => ?_)
              refine lv_goto (tgt := 107) hx hb dL_leases_181 (by decide) ?_
              refine W.widen (k := 0) (n := 0) (by omega) (by omega) ?_
              exact ih (k + 1) S (nI (zD z)) (nI (lowN (z >>> (nI 3 &&& 31)) 6)) (nI (lowN (z >>> (nI 5 &&& 31)) 51)) (nI (lowN (z >>> (nI 7 &&& 31)) 51)) (nI (zH z)) (nI 1) (nI (k + 1)) (by omega) (by first | omega | assumption) rfl rfl rfl rfl rfl rfl (by simp only [yCa_s, if_neg c_6, if_pos c_7, if_neg c_8, if_neg c_9]) rfl _ _ hP hS ls (lv_sub hl [2, 3, 4, 5, 6, 7, 8, 9, 10, 11, 1, 0] rfl)
set_option maxHeartbeats 4000000 in
set_option maxRecDepth 100000 in
theorem c_L_leases_c (l : Launch) (hl0 : l.stackTraces = false) (D : va_G) (q : Nat → ClassId) (A : Nat → Prop) (a : Nat → Nat) (S : Nat → Nat → Int32) (cb : Nat → Nat) (cM : Nat → Nat → Int32) (cap nl : Nat) (z : Int32) (w0 : Nat) (cN : Nat → Nat → Int32) (hcan : ¬ yCa S (zD z) w0 (zH z) nl = 0) (hnl9 : nl < 10) (hw : S 0 0 = nI w0) (hw20 : w0 ≤ 20) (hO : yO S nl) (hnl10 : nl ≤ 10) (hnlq : S 0 2 = nI nl) (hnow : cM 0 0 = nI w0) (hnl : nl ≤ cap ∧ cap ≤ 40 ∧ nl ≤ 30) (e0 : Nat) (hg : (cap = 0 ∧ cb 26 = e0) ∨ capP cap) (hE : caE [eI, eA, eS] (coLease cM w0 nl (nI (zD z)) (nI (lowN (z >>> (nI 3 &&& 31)) 6)) (nI (lowN (z >>> (nI 5 &&& 31)) 51)) (nI (lowN (z >>> (nI 7 &&& 31)) 51)) (nI (zH z)))) (hc0 : (coLease cM w0 nl (nI (zD z)) (nI (lowN (z >>> (nI 3 &&& 31)) 6)) (nI (lowN (z >>> (nI 5 &&& 31)) 51)) (nI (lowN (z >>> (nI 7 &&& 31)) 51)) (nI (zH z))).1 = nI 0) (hco : caV (coLease cM w0 nl (nI (zD z)) (nI (lowN (z >>> (nI 3 &&& 31)) 6)) (nI (lowN (z >>> (nI 5 &&& 31)) 51)) (nI (lowN (z >>> (nI 7 &&& 31)) 51)) (nI (zH z))) = nI nl) (hcN : outS cM (coLease cM w0 nl (nI (zD z)) (nI (lowN (z >>> (nI 3 &&& 31)) 6)) (nI (lowN (z >>> (nI 5 &&& 31)) 51)) (nI (lowN (z >>> (nI 7 &&& 31)) 51)) (nI (zH z))) = cN) : Met l yL_leases wsL_leases ({ frames := 10, cells := 9, slots := 97, locals := 463 } : Room) (va_Pc [.ref (cb 0), .int (nI 0), .int (z), .ref (a 8), .ref (a 0)] (kBLe D q A e0 (fun H => kW D A (wL q a S ((wC q cb cM cap nl))) H))) (kRly D q A a ((yLM S w0 nl (zD z) (lowN (z >>> (nI 3 &&& 31)) 6) (lowN (z >>> (nI 5 &&& 31)) 51) (lowN (z >>> (nI 7 &&& 31)) 51) (zH z))) cb cN nl) 9 97 A := by
  refine Met.ofW (cc := cL_leases) (maxL := 12) (ret := (some .boolean)) (by decide) rfl ?_
  intro p e u m args below meth c s₁ B hml0 hv
  obtain ⟨rfl, ⟨⟨hP, hK, hX⟩, hA⟩, hEE⟩ := hv
  have C0 : kAt p u m #[.ref (cb 0), .int (nI 0), .int (z), .ref (a 8), .ref (a 0)] meth c cL_leases 12 (some .boolean) RL wsL_leases := kAt_of B hml0
  obtain ⟨hx, hb, hr, hml, hown, hts, hlocks⟩ := id C0
  have hS : va_S A u.heap u.heap [] := va_S.rf
  have hl := lv_entry ([.ref (cb 0), .int (nI 0), .int (z), .ref (a 8), .ref (a 0)]) (n := 12) (Nat.le_of_ble_eq_true rfl)
  rw [lg_entry_eq]
  generalize (lg_sl ([.ref (cb 0), .int (nI 0), .int (z), .ref (a 8), .ref (a 0)]) ++ List.replicate (12 - (lg_sl ([.ref (cb 0), .int (nI 0), .int (z), .ref (a 8), .ref (a 0)])).length) Slot.unset).toArray = ls at hl ⊢
  have hl : lv_has ls 12 [(0, .ref (cb 0)), (1, .int (nI 0)), (2, .int (z)), (3, .ref (a 8)), (4, .ref (a 0))] := hl
  refine lv_iload_n hx hb dL_leases_0 rfl (lv_at hl 1 rfl) ?_
  refine k_if_ne (P := True) (tgt := 324) hx hb dL_leases_1 (by decide) ⟨fun _ => trivial, fun _ => rfl⟩ (fun c_10 => ?_) (fun c_10 => ?_)
  · skip
    exact (c_10 trivial).elim
  · skip
    refine lv_iload_n hx hb dL_leases_4 rfl (lv_at hl 2 rfl) ?_
    refine lv_iload_n hx hb dL_leases_5 rfl (lv_at hl 2 rfl) ?_
    refine lv_bipush (v := nI 9) hx hb dL_leases_6 (by decide) ?_
    refine lv_ishr hx hb dL_leases_8 ?_
    refine lv_iconst (v := nI 2) hx hb dL_leases_9 (by decide) ?_
    refine k_callS (rest := [.int (z)]) (r := nI (lowN (z >>> ((nI 9) &&& 31)) 2)) ⟨hx, hb, hml, hown, hts⟩ (c_L_low l D q (z >>> ((nI 9) &&& 31)) 2 (by omega) (by omega)) (va_cwS 2 hts gL_leases_L_low rfl rfl rfl (by decide +kernel) ⟨Nat.le_of_ble_eq_true rfl, Nat.le_of_ble_eq_true rfl⟩) hK trivial rfl hl.1 rfl (Nat.le_of_ble_eq_true rfl) dL_leases_10 ⟨by show 0 ≤ 9; omega, by show 0 ≤ 97; omega⟩ (fun _ h => h) ?_
    have hlo : lowN (z >>> ((nI 9) &&& 31)) 2 < 2 := lowN_lt (by first | decide | omega | exact zif_p (by decide) (by decide))
    refine k_cut (pcj := 23) (st9 := [.int (nI (if lowN (z >>> ((nI 9) &&& 31)) 2 = 0 then 36 else 8)), .int (z)]) (n := 12) (lv9 := [(0, .ref (cb 0)), (1, .int (nI 0)), (2, .int (z)), (3, .ref (a 8)), (4, .ref (a 0))]) (fun ls hl => ?_) (fun J23 => ?_)
    · skip
      refine k_callS (rest := []) (r := nI (lowN z (if lowN (z >>> ((nI 9) &&& 31)) 2 = 0 then 36 else 8))) ⟨hx, hb, hml, hown, hts⟩ (c_L_low l D q z (if lowN (z >>> ((nI 9) &&& 31)) 2 = 0 then 36 else 8) (zif_p (by decide) (by decide)) (zif_l (by decide) (by decide))) (va_cwS 2 hts gL_leases_L_low rfl rfl rfl (by decide +kernel) ⟨Nat.le_of_ble_eq_true rfl, Nat.le_of_ble_eq_true rfl⟩) hK trivial rfl hl.1 rfl (Nat.le_of_ble_eq_true rfl) dL_leases_23 ⟨by show 0 ≤ 9; omega, by show 0 ≤ 97; omega⟩ (fun _ h => h) ?_
      have hlo : lowN z (if lowN (z >>> ((nI 9) &&& 31)) 2 = 0 then 36 else 8) < (if lowN (z >>> ((nI 9) &&& 31)) 2 = 0 then 36 else 8) := lowN_lt (by first | decide | omega | exact zif_p (by decide) (by decide))
      refine k_top (y := nI (zD z)) rfl ?_
      refine lv_istore (lv' := [(5, .int (nI (zD z))), (0, .ref (cb 0)), (1, .int (nI 0)), (2, .int (z)), (3, .ref (a 8)), (4, .ref (a 0))]) hx hb dL_leases_26 hl (by decide) rfl (fun ls hl => ?_)
      refine lv_iload_n hx hb dL_leases_28 rfl (lv_at hl 3 rfl) ?_
      refine lv_iconst (v := nI 3) hx hb dL_leases_29 (by decide) ?_
      refine lv_ishr hx hb dL_leases_30 ?_
      refine lv_bipush (v := nI 6) hx hb dL_leases_31 (by decide) ?_
      refine k_callS (rest := []) (r := nI (lowN (z >>> ((nI 3) &&& 31)) 6)) ⟨hx, hb, hml, hown, hts⟩ (c_L_low l D q (z >>> ((nI 3) &&& 31)) 6 (by omega) (by omega)) (va_cwS 2 hts gL_leases_L_low rfl rfl rfl (by decide +kernel) ⟨Nat.le_of_ble_eq_true rfl, Nat.le_of_ble_eq_true rfl⟩) hK trivial rfl hl.1 rfl (Nat.le_of_ble_eq_true rfl) dL_leases_33 ⟨by show 0 ≤ 9; omega, by show 0 ≤ 97; omega⟩ (fun _ h => h) ?_
      have hlo : lowN (z >>> ((nI 3) &&& 31)) 6 < 6 := lowN_lt (by first | decide | omega | exact zif_p (by decide) (by decide))
      refine lv_istore (lv' := [(6, .int (nI (lowN (z >>> ((nI 3) &&& 31)) 6))), (5, .int (nI (zD z))), (0, .ref (cb 0)), (1, .int (nI 0)), (2, .int (z)), (3, .ref (a 8)), (4, .ref (a 0))]) hx hb dL_leases_36 hl (by decide) rfl (fun ls hl => ?_)
      refine lv_iload_n hx hb dL_leases_38 rfl (lv_at hl 4 rfl) ?_
      refine lv_iconst (v := nI 5) hx hb dL_leases_39 (by decide) ?_
      refine lv_ishr hx hb dL_leases_40 ?_
      refine lv_bipush (v := nI 51) hx hb dL_leases_41 (by decide) ?_
      refine k_callS (rest := []) (r := nI (lowN (z >>> ((nI 5) &&& 31)) 51)) ⟨hx, hb, hml, hown, hts⟩ (c_L_low l D q (z >>> ((nI 5) &&& 31)) 51 (by omega) (by omega)) (va_cwS 2 hts gL_leases_L_low rfl rfl rfl (by decide +kernel) ⟨Nat.le_of_ble_eq_true rfl, Nat.le_of_ble_eq_true rfl⟩) hK trivial rfl hl.1 rfl (Nat.le_of_ble_eq_true rfl) dL_leases_43 ⟨by show 0 ≤ 9; omega, by show 0 ≤ 97; omega⟩ (fun _ h => h) ?_
      have hlo : lowN (z >>> ((nI 5) &&& 31)) 51 < 51 := lowN_lt (by first | decide | omega | exact zif_p (by decide) (by decide))
      refine lv_istore (lv' := [(7, .int (nI (lowN (z >>> ((nI 5) &&& 31)) 51))), (6, .int (nI (lowN (z >>> ((nI 3) &&& 31)) 6))), (5, .int (nI (zD z))), (0, .ref (cb 0)), (1, .int (nI 0)), (2, .int (z)), (3, .ref (a 8)), (4, .ref (a 0))]) hx hb dL_leases_46 hl (by decide) rfl (fun ls hl => ?_)
      refine lv_iload_n hx hb dL_leases_48 rfl (lv_at hl 5 rfl) ?_
      refine lv_bipush (v := nI 7) hx hb dL_leases_49 (by decide) ?_
      refine lv_ishr hx hb dL_leases_51 ?_
      refine lv_bipush (v := nI 51) hx hb dL_leases_52 (by decide) ?_
      refine k_callS (rest := []) (r := nI (lowN (z >>> ((nI 7) &&& 31)) 51)) ⟨hx, hb, hml, hown, hts⟩ (c_L_low l D q (z >>> ((nI 7) &&& 31)) 51 (by omega) (by omega)) (va_cwS 2 hts gL_leases_L_low rfl rfl rfl (by decide +kernel) ⟨Nat.le_of_ble_eq_true rfl, Nat.le_of_ble_eq_true rfl⟩) hK trivial rfl hl.1 rfl (Nat.le_of_ble_eq_true rfl) dL_leases_54 ⟨by show 0 ≤ 9; omega, by show 0 ≤ 97; omega⟩ (fun _ h => h) ?_
      have hlo : lowN (z >>> ((nI 7) &&& 31)) 51 < 51 := lowN_lt (by first | decide | omega | exact zif_p (by decide) (by decide))
      refine lv_istore (lv' := [(8, .int (nI (lowN (z >>> ((nI 7) &&& 31)) 51))), (7, .int (nI (lowN (z >>> ((nI 5) &&& 31)) 51))), (6, .int (nI (lowN (z >>> ((nI 3) &&& 31)) 6))), (5, .int (nI (zD z))), (0, .ref (cb 0)), (1, .int (nI 0)), (2, .int (z)), (3, .ref (a 8)), (4, .ref (a 0))]) hx hb dL_leases_57 hl (by decide) rfl (fun ls hl => ?_)
      refine lv_iconst (v := nI 1) hx hb dL_leases_59 (by decide) ?_
      refine lv_iload_n hx hb dL_leases_60 rfl (lv_at hl 6 rfl) ?_
      refine lv_bipush (v := nI 9) hx hb dL_leases_61 (by decide) ?_
      refine lv_ishr hx hb dL_leases_63 ?_
      refine lv_iload_n hx hb dL_leases_64 rfl (lv_at hl 6 rfl) ?_
      refine lv_bipush (v := nI 11) hx hb dL_leases_65 (by decide) ?_
      refine lv_ishr hx hb dL_leases_67 ?_
      refine lv_iconst (v := nI 3) hx hb dL_leases_68 (by decide) ?_
      refine k_callS (rest := [.int (z >>> ((nI 9) &&& 31)), .int (nI 1)]) (r := nI (lowN (z >>> ((nI 11) &&& 31)) 3)) ⟨hx, hb, hml, hown, hts⟩ (c_L_low l D q (z >>> ((nI 11) &&& 31)) 3 (by omega) (by omega)) (va_cwS 2 hts gL_leases_L_low rfl rfl rfl (by decide +kernel) ⟨Nat.le_of_ble_eq_true rfl, Nat.le_of_ble_eq_true rfl⟩) hK trivial rfl hl.1 rfl (Nat.le_of_ble_eq_true rfl) dL_leases_69 ⟨by show 0 ≤ 9; omega, by show 0 ≤ 97; omega⟩ (fun _ h => h) ?_
      have hlo : lowN (z >>> ((nI 11) &&& 31)) 3 < 3 := lowN_lt (by first | decide | omega | exact zif_p (by decide) (by decide))
      refine k_cut (pcj := 82) (st9 := [.int (nI (if lowN (z >>> ((nI 11) &&& 31)) 3 = 0 then 100 else 6)), .int (z >>> ((nI 9) &&& 31)), .int (nI 1)]) (n := 12) (lv9 := [(8, .int (nI (lowN (z >>> ((nI 7) &&& 31)) 51))), (7, .int (nI (lowN (z >>> ((nI 5) &&& 31)) 51))), (6, .int (nI (lowN (z >>> ((nI 3) &&& 31)) 6))), (5, .int (nI (zD z))), (0, .ref (cb 0)), (1, .int (nI 0)), (2, .int (z)), (3, .ref (a 8)), (4, .ref (a 0))]) (fun ls hl => ?_) (fun J82 => ?_)
      · skip
        refine k_callS (rest := [.int (nI 1)]) (r := nI (lowN (z >>> ((nI 9) &&& 31)) (if lowN (z >>> ((nI 11) &&& 31)) 3 = 0 then 100 else 6))) ⟨hx, hb, hml, hown, hts⟩ (c_L_low l D q (z >>> ((nI 9) &&& 31)) (if lowN (z >>> ((nI 11) &&& 31)) 3 = 0 then 100 else 6) (zif_p (by decide) (by decide)) (zif_l (by decide) (by decide))) (va_cwS 2 hts gL_leases_L_low rfl rfl rfl (by decide +kernel) ⟨Nat.le_of_ble_eq_true rfl, Nat.le_of_ble_eq_true rfl⟩) hK trivial rfl hl.1 rfl (Nat.le_of_ble_eq_true rfl) dL_leases_82 ⟨by show 0 ≤ 9; omega, by show 0 ≤ 97; omega⟩ (fun _ h => h) ?_
        have hlo : lowN (z >>> ((nI 9) &&& 31)) (if lowN (z >>> ((nI 11) &&& 31)) 3 = 0 then 100 else 6) < (if lowN (z >>> ((nI 11) &&& 31)) 3 = 0 then 100 else 6) := lowN_lt (by first | decide | omega | exact zif_p (by decide) (by decide))
        refine lv_iadd hx hb dL_leases_85 ?_
        refine k_top (y := nI (1 + (lowN (z >>> ((nI 9) &&& 31)) (if lowN (z >>> ((nI 11) &&& 31)) 3 = 0 then 100 else 6)))) (nI_add _ _) ?_
        refine k_top (y := nI (zH z)) rfl ?_
        refine lv_istore (lv' := [(9, .int (nI (zH z))), (8, .int (nI (lowN (z >>> ((nI 7) &&& 31)) 51))), (7, .int (nI (lowN (z >>> ((nI 5) &&& 31)) 51))), (6, .int (nI (lowN (z >>> ((nI 3) &&& 31)) 6))), (5, .int (nI (zD z))), (0, .ref (cb 0)), (1, .int (nI 0)), (2, .int (z)), (3, .ref (a 8)), (4, .ref (a 0))]) hx hb dL_leases_86 hl (by decide) rfl (fun ls hl => ?_)
        refine lv_aload hx hb dL_leases_88 (lv_at hl 9 rfl) ?_
        refine lv_iconst (v := nI 2) hx hb dL_leases_90 (by decide) ?_
        refine k_iald hx hb hK hP.1 0 rfl 2 rfl (by omega) (by decide) dL_leases_91 ?_
        refine k_top (y := nI nl) hnlq ?_
        refine lv_bipush (v := nI 10) hx hb dL_leases_92 (by decide) ?_
        refine k_icmp_ge (P := nl < 10) (tgt := 101) hx hb dL_leases_94 (by decide) (nI_ltI (by omega) (by omega)) (fun c_11 => ?_) (fun c_11 => ?_)
        · skip
          exact absurd c_11 (by omega)
        · skip
          refine lv_iconst (v := nI 1) hx hb dL_leases_97 (by decide) ?_
          refine lv_goto (tgt := 102) hx hb dL_leases_98 (by decide) ?_
          refine lv_istore (lv' := [(10, .int (nI 1)), (9, .int (nI (zH z))), (8, .int (nI (lowN (z >>> ((nI 7) &&& 31)) 51))), (7, .int (nI (lowN (z >>> ((nI 5) &&& 31)) 51))), (6, .int (nI (lowN (z >>> ((nI 3) &&& 31)) 6))), (5, .int (nI (zD z))), (0, .ref (cb 0)), (1, .int (nI 0)), (2, .int (z)), (3, .ref (a 8)), (4, .ref (a 0))]) hx hb dL_leases_102 hl (by decide) rfl (fun ls hl => ?_)
          refine lv_iconst (v := nI 0) hx hb dL_leases_104 (by decide) ?_
          refine lv_istore (lv' := [(11, .int (nI 0)), (10, .int (nI 1)), (9, .int (nI (zH z))), (8, .int (nI (lowN (z >>> ((nI 7) &&& 31)) 51))), (7, .int (nI (lowN (z >>> ((nI 5) &&& 31)) 51))), (6, .int (nI (lowN (z >>> ((nI 3) &&& 31)) 6))), (5, .int (nI (zD z))), (0, .ref (cb 0)), (1, .int (nI 0)), (2, .int (z)), (3, .ref (a 8)), (4, .ref (a 0))]) hx hb dL_leases_105 hl (by decide) rfl (fun ls hl => ?_)
          refine W.widen (k := 0) (n := 0) (by omega) (by omega) ?_
          exact lp_L_leases_1_107 hl0 a S cb cM cap nl z w0 cN hcan hnl9 hw hw20 hO hnl10 hnlq hnow hnl e0 hg hE hc0 hco hcN C0 hK hX hA hEE ((nl - 0) + 1) 0 S (nI (zD z)) (nI (lowN (z >>> ((nI 3) &&& 31)) 6)) (nI (lowN (z >>> ((nI 5) &&& 31)) 51)) (nI (lowN (z >>> ((nI 7) &&& 31)) 51)) (nI (zH z)) (nI 1) (nI 0) (by omega) (by first | omega | assumption) rfl rfl (by first | (simp only [if_pos c_11]; done) | (simp only [if_pos c_11]; rfl) | (simp [if_pos c_11]; done) | rfl) (by first | (simp only [if_pos c_11]; done) | (simp only [if_pos c_11]; rfl) | (simp [if_pos c_11]; done) | rfl) (by first | (simp only [if_pos c_11]; done) | (simp only [if_pos c_11]; rfl) | (simp [if_pos c_11]; done) | rfl) rfl (by rfl) rfl _ _ hP hS ls (lv_sub hl [7, 8, 9, 10, 11, 6, 5, 4, 3, 2, 1, 0] rfl)
      · skip
        refine k_if_ne (P := lowN (z >>> ((nI 11) &&& 31)) 3 = 0) (tgt := 80) hx hb dL_leases_72 (by decide) (k_n0 (by omega)) (fun c_12 => ?_) (fun c_12 => ?_)
        · skip
          refine lv_bipush (v := nI 6) hx hb dL_leases_80 (by decide) ?_
          refine k_top (y := nI (if lowN (z >>> ((nI 11) &&& 31)) 3 = 0 then 100 else 6)) (by first | rw [if_pos c_12] | rw [if_neg c_12]) ?_
          exact J82 ls (lv_sub hl [0, 1, 2, 3, 4, 5, 6, 7, 8] rfl)
        · skip
          refine lv_bipush (v := nI 100) hx hb dL_leases_75 (by decide) ?_
          refine lv_goto (tgt := 82) hx hb dL_leases_77 (by decide) ?_
          refine k_top (y := nI (if lowN (z >>> ((nI 11) &&& 31)) 3 = 0 then 100 else 6)) (by first | rw [if_pos c_12] | rw [if_neg c_12]) ?_
          exact J82 ls (lv_sub hl [0, 1, 2, 3, 4, 5, 6, 7, 8] rfl)
    · skip
      refine k_if_ne (P := lowN (z >>> ((nI 9) &&& 31)) 2 = 0) (tgt := 21) hx hb dL_leases_13 (by decide) (k_n0 (by omega)) (fun c_13 => ?_) (fun c_13 => ?_)
      · skip
        refine lv_bipush (v := nI 8) hx hb dL_leases_21 (by decide) ?_
        refine k_top (y := nI (if lowN (z >>> ((nI 9) &&& 31)) 2 = 0 then 36 else 8)) (by first | rw [if_pos c_13] | rw [if_neg c_13]) ?_
        exact J23 ls (lv_sub hl [0, 1, 2, 3, 4] rfl)
      · skip
        refine lv_bipush (v := nI 36) hx hb dL_leases_16 (by decide) ?_
        refine lv_goto (tgt := 23) hx hb dL_leases_18 (by decide) ?_
        refine k_top (y := nI (if lowN (z >>> ((nI 9) &&& 31)) 2 = 0 then 36 else 8)) (by first | rw [if_pos c_13] | rw [if_neg c_13]) ?_
        exact J23 ls (lv_sub hl [0, 1, 2, 3, 4] rfl)
theorem cs_L_leases_36 : Cond.constant RL 36 (-2000000003) ∈ wsL_leases := by decide +kernel
set_option maxHeartbeats 4000000 in
set_option maxRecDepth 100000 in
theorem lp_L_leases_0_107 {p : Program} {l : Launch} {e : Env} {u : State} {m : MethodId} {below : List Frame} {meth : Method} {c : Code} {D : va_G} {q : Nat → ClassId} {A : Nat → Prop} (hl0 : l.stackTraces = false) (a : Nat → Nat) (S : Nat → Nat → Int32) (cb : Nat → Nat) (cM : Nat → Nat → Int32) (cap nl : Nat) (z : Int32) (w0 : Nat) (hcan : yCa S (zD z) w0 (zH z) nl = 0) (hnl9 : nl < 10) (hw : S 0 0 = nI w0) (hw20 : w0 ≤ 20) (hO : yO S nl) (hnl10 : nl ≤ 10) (hnlq : S 0 2 = nI nl) (hnow : cM 0 0 = nI w0) (hnl : nl ≤ cap ∧ cap ≤ 40 ∧ nl ≤ 30) (e0 : Nat) (hg : (cap = 0 ∧ cb 26 = e0) ∨ capP cap) (hE : caE [eI, eA, eS] (coLease cM w0 nl (nI (zD z)) (nI (lowN (z >>> (nI 3 &&& 31)) 6)) (nI (lowN (z >>> (nI 5 &&& 31)) 51)) (nI (lowN (z >>> (nI 7 &&& 31)) 51)) (nI (zH z)))) (hc0 : ¬ (coLease cM w0 nl (nI (zD z)) (nI (lowN (z >>> (nI 3 &&& 31)) 6)) (nI (lowN (z >>> (nI 5 &&& 31)) 51)) (nI (lowN (z >>> (nI 7 &&& 31)) 51)) (nI (zH z))).1 = nI 0) (C0 : kAt p u m #[.ref (cb 0), .int (nI 0), .int (z), .ref (a 8), .ref (a 0)] meth c cL_leases 12 (some .boolean) RL wsL_leases) (hK : kK D q u) (hX : kX A u) (hA : ∀ z : Nat, u.heap.size ≤ z → A z) (hEE : kE e0 A u) :
    ∀ (f : Nat) (k : Nat) (T : Nat → Nat → Int32) (x5 : Int32) (x6 : Int32) (x7 : Int32) (x8 : Int32) (x9 : Int32) (x10 : Int32) (x11 : Int32), nl - k < f → k ≤ nl → T = S → x5 = nI (zD z) → x6 = nI (lowN (z >>> (nI 3 &&& 31)) 6) → x7 = nI (lowN (z >>> (nI 5 &&& 31)) 51) → x8 = nI (lowN (z >>> (nI 7 &&& 31)) 51) → x9 = nI (zH z) → x10 = yCa S (zD z) w0 (zH z) k → x11 = nI k → ∀ (H : Heap) (locs : List Loc), kW D A (wL q a T ((wC q cb cM cap nl))) H → va_S A u.heap H locs → ∀ (ls : Array Slot), lv_has ls 12 [(0, .ref (cb 0)), (1, .int (nI 0)), (2, .int (z)), (3, .ref (a 8)), (4, .ref (a 0)), (5, .int x5), (6, .int x6), (7, .int x7), (8, .int x8), (9, .int x9), (10, .int x10), (11, .int x11)] → W p l e ({ frames := 10, cells := 9, slots := 97, locals := 463 } : Room) u m #[.ref (cb 0), .int (nI 0), .int (z), .ref (a 8), .ref (a 0)] below meth c H locs 0 0 (MQ below (kRi D A (nI 1) (wL q a S ((wC q cb cM cap nl)))) #[.ref (cb 0), .int (nI 0), .int (z), .ref (a 8), .ref (a 0)] u 9 97 A) (F0 m 107 ls []) := by
  obtain ⟨hx, hb, hr, hml, hown, hts, hlocks⟩ := id C0
  intro f
  induction f with
  | zero =>
    intro k T x5 x6 x7 x8 x9 x10 x11 hf
    exact absurd hf (Nat.not_lt_zero _)
  | succ f ih =>
    intro k T x5 x6 x7 x8 x9 x10 x11 hf hk eT e5 e6 e7 e8 e9 e10 e11 H locs hP hS ls hl
    replace eT := eT.symm
    subst eT
    replace e5 := e5.symm
    subst e5
    replace e6 := e6.symm
    subst e6
    replace e7 := e7.symm
    subst e7
    replace e8 := e8.symm
    subst e8
    replace e9 := e9.symm
    subst e9
    replace e10 := e10.symm
    subst e10
    replace e11 := e11.symm
    subst e11
    refine lv_iload hx hb dL_leases_107 (lv_at hl 11 rfl) ?_
    refine lv_aload hx hb dL_leases_109 (lv_at hl 4 rfl) ?_
    refine lv_iconst (v := nI 2) hx hb dL_leases_111 (by decide) ?_
    refine k_iald hx hb hK hP.1 0 rfl 2 rfl (by omega) (by decide) dL_leases_112 ?_
    refine k_top (y := nI nl) hnlq ?_
    refine k_icmp_ge (P := k < nl) (tgt := 184) hx hb dL_leases_113 (by decide) (nI_ltI (by omega) (by omega)) (fun c_1 => ?_) (fun c_1 => ?_)
    · skip
      have ek : k = nl := by omega
      rw [ek] at hl
      refine lv_aload hx hb dL_leases_184 (lv_at hl 4 rfl) ?_
      refine lv_iconst (v := nI 2) hx hb dL_leases_186 (by decide) ?_
      refine k_iald hx hb hK hP.1 0 rfl 2 rfl (by omega) (by decide) dL_leases_187 ?_
      refine k_top (y := nI nl) hnlq ?_
      refine lv_bipush (v := nI 10) hx hb dL_leases_188 (by decide) ?_
      refine k_icmp_ne (P := nl = 10) (tgt := 195) hx hb dL_leases_190 (by decide) (nI_eq (by omega) (by omega)) (fun c_2 => ?_) (fun c_2 => ?_)
      · skip
        refine lv_iload hx hb dL_leases_195 (lv_at hl 10 rfl) ?_
        refine k_if_eq (P := yCa S (zD z) w0 (zH z) nl = 0) (tgt := 284) hx hb dL_leases_197 (by decide) Iff.rfl (fun c_3 => ?_) (fun c_3 => ?_)
        · skip
          refine lv_aload_n hx hb dL_leases_284 rfl (lv_at hl 0 rfl) ?_
          refine lv_iconst (v := nI 1) hx hb dL_leases_285 (by decide) ?_
          refine lv_iload hx hb dL_leases_286 (lv_at hl 5 rfl) ?_
          refine lv_iload hx hb dL_leases_288 (lv_at hl 6 rfl) ?_
          refine lv_iload hx hb dL_leases_290 (lv_at hl 7 rfl) ?_
          refine lv_iload hx hb dL_leases_292 (lv_at hl 8 rfl) ?_
          refine lv_iload hx hb dL_leases_294 (lv_at hl 9 rfl) ?_
          refine k_goTi hP (fun z9 h9 => hA z9 h9) hS (vx_runSW (rest := []) ⟨hx, hb, hml, hown, hts⟩ (c_L_calls_lease l hl0 D q (va_A (wC q cb cM cap nl) H.size) cb cM cap nl (nI (zD z)) (nI (lowN (z >>> (nI 3 &&& 31)) 6)) (nI (lowN (z >>> (nI 5 &&& 31)) 51)) (nI (lowN (z >>> (nI 7 &&& 31)) 51)) (nI (zH z)) w0 e0 hnl hnow (by omega) hg hE) (vx_cwSW 7 hts gL_leases_L_calls rfl rfl rfl (by decide +kernel) ⟨Nat.le_of_ble_eq_true rfl, Nat.le_of_ble_eq_true rfl⟩) ⟨kBLe_blind, fun U hU hW => ⟨rfl, ⟨⟨by rw [hU]; exact kW_cut hP, hK.warm hW, (hX.at hS hU hW).narrow (kW_sub hP (fun z9 h9 => hA z9 (Nat.le_trans hS.1 h9)))⟩, fun z9 h9 => Or.inr (by rw [← hU]; exact h9)⟩, (hEE.at hS hU hW).narrow (kW_sub hP (fun z9 h9 => hA z9 (Nat.le_trans hS.1 h9)))⟩⟩ rfl rfl hl.1 rfl (lv_room (Nat.le_of_ble_eq_true rfl)) dL_leases_296 ⟨by show 0 + 9 ≤ 9; omega, by show 0 + 97 ≤ 97; omega⟩) (fun r9 x9 H locs hq9 hP hS => ?_)
          obtain ⟨hr9, -, hx9⟩ := hq9
          obtain rfl := hx9 hc0
          rw [outS, if_neg hc0] at hP
          have hP : kW D A (wL q a S (wC q cb cM cap nl)) H := hP
          refine k_top (y := (-2000000003)) (hr9.trans (caV_n hc0)) ?_
          refine lv_iload hx hb dL_leases_299 (lv_at hl 10 rfl) ?_
          refine k_if_eq (P := yCa S (zD z) w0 (zH z) nl = 0) (tgt := 313) hx hb dL_leases_301 (by decide) Iff.rfl (fun c_4 => ?_) (fun c_4 => ?_)
          · skip
            refine lv_ldc (v := (-2000000003)) hx hb hown (hts _ cs_L_leases_36) dL_leases_313 ?_
            refine k_icmp_ne (P := True) (tgt := 322) hx hb dL_leases_315 (by decide) ⟨fun _ => trivial, fun _ => rfl⟩ (fun c_5 => ?_) (fun c_5 => ?_)
            · skip
              exact (c_5 trivial).elim
            · skip
              refine lv_iconst (v := nI 1) hx hb dL_leases_318 (by decide) ?_
              refine lv_goto (tgt := 323) hx hb dL_leases_319 (by decide) ?_
              refine W.widen (k := 9) (n := 97) (by first | exact Nat.le_of_ble_eq_true rfl | omega) (by first | exact Nat.le_of_ble_eq_true rfl | omega) ?_
              exact k_zretW hx hb hr hlocks rfl hP hS (by rfl) dL_leases_323
          · skip
            exact absurd c_3 c_4
        · skip
          exact absurd hcan c_3
      · skip
        exact absurd c_2 (by omega)
    · skip
      obtain ⟨⟨-, ho1⟩, ⟨-, ho2⟩, ⟨-, ho3⟩⟩ := hO k (by omega)
      have hzd := zD_lt z
      have hzh := zH_in z
      refine lv_iload hx hb dL_leases_116 (lv_at hl 10 rfl) ?_
      refine k_if_eq (P := yCa S (zD z) w0 (zH z) k = 0) (tgt := 175) hx hb dL_leases_118 (by decide) Iff.rfl (fun c_6 => ?_) (fun c_6 => ?_)
      · skip
        refine lv_iconst (v := nI 0) hx hb dL_leases_175 (by decide) ?_
        refine lv_istore (lv' := [(10, .int (nI 0)), (0, .ref (cb 0)), (1, .int (nI 0)), (2, .int (z)), (3, .ref (a 8)), (4, .ref (a 0)), (5, .int (nI (zD z))), (6, .int (nI (lowN (z >>> (nI 3 &&& 31)) 6))), (7, .int (nI (lowN (z >>> (nI 5 &&& 31)) 51))), (8, .int (nI (lowN (z >>> (nI 7 &&& 31)) 51))), (9, .int (nI (zH z))), (11, .int (nI k))]) hx hb dL_leases_176 hl (by decide) rfl (fun ls hl => ?_)
        refine lv_iinc (v := nI (k + 1)) (lv' := [(11, .int (nI (k + 1))), (10, .int (nI 0)), (0, .ref (cb 0)), (1, .int (nI 0)), (2, .int (z)), (3, .ref (a 8)), (4, .ref (a 0)), (5, .int (nI (zD z))), (6, .int (nI (lowN (z >>> (nI 3 &&& 31)) 6))), (7, .int (nI (lowN (z >>> (nI 5 &&& 31)) 51))), (8, .int (nI (lowN (z >>> (nI 7 &&& 31)) 51))), (9, .int (nI (zH z)))]) hx hb dL_leases_178 hl (k := 11) rfl (k_iinc _) (by decide) rfl (fun ls hl => ?_)
        refine lv_goto (tgt := 107) hx hb dL_leases_181 (by decide) ?_
        refine W.widen (k := 0) (n := 0) (by omega) (by omega) ?_
        exact ih (k + 1) S (nI (zD z)) (nI (lowN (z >>> (nI 3 &&& 31)) 6)) (nI (lowN (z >>> (nI 5 &&& 31)) 51)) (nI (lowN (z >>> (nI 7 &&& 31)) 51)) (nI (zH z)) (nI 0) (nI (k + 1)) (by omega) (by first | omega | assumption) rfl rfl rfl rfl rfl rfl (by simp only [yCa_s, if_pos c_6]) rfl _ _ hP hS ls (lv_sub hl [2, 3, 4, 5, 6, 7, 8, 9, 10, 11, 1, 0] rfl)
      · skip
        refine lv_aload_n hx hb dL_leases_121 rfl (lv_at hl 3 rfl) ?_
        refine lv_bipush (v := nI 6) hx hb dL_leases_122 (by decide) ?_
        refine lv_iload hx hb dL_leases_124 (lv_at hl 11 rfl) ?_
        refine lv_imul hx hb dL_leases_126 ?_
        refine k_top (y := nI (6 * k)) (pk_mul _ _) ?_
        refine k_iald hx hb hK hP.1 8 rfl (6 * k) rfl (by omega) (by decide) dL_leases_127 ?_
        refine k_top (y := nI (ix S 8 (6 * k))) (hO k (by omega)).1.1 ?_
        refine lv_bipush (v := nI 36) hx hb dL_leases_128 (by decide) ?_
        refine lv_irem hx hb dL_leases_130 (by decide) ?_
        refine k_top (y := nI ((ix S 8 (6 * k)) % 36)) (pk_rem (by omega) (by omega) (by omega)) ?_
        refine lv_iload hx hb dL_leases_131 (lv_at hl 5 rfl) ?_
        refine k_icmp_ne (P := (ix S 8 (6 * k)) % 36 = zD z) (tgt := 171) hx hb dL_leases_133 (by decide) (nI_eq (by omega) (by omega)) (fun c_7 => ?_) (fun c_7 => ?_)
        · skip
          refine lv_iconst (v := nI 1) hx hb dL_leases_171 (by decide) ?_
          refine lv_goto (tgt := 176) hx hb dL_leases_172 (by decide) ?_
          refine lv_istore (lv' := [(10, .int (nI 1)), (0, .ref (cb 0)), (1, .int (nI 0)), (2, .int (z)), (3, .ref (a 8)), (4, .ref (a 0)), (5, .int (nI (zD z))), (6, .int (nI (lowN (z >>> (nI 3 &&& 31)) 6))), (7, .int (nI (lowN (z >>> (nI 5 &&& 31)) 51))), (8, .int (nI (lowN (z >>> (nI 7 &&& 31)) 51))), (9, .int (nI (zH z))), (11, .int (nI k))]) hx hb dL_leases_176 hl (by decide) rfl (fun ls hl => ?_)
          refine lv_iinc (v := nI (k + 1)) (lv' := [(11, .int (nI (k + 1))), (10, .int (nI 1)), (0, .ref (cb 0)), (1, .int (nI 0)), (2, .int (z)), (3, .ref (a 8)), (4, .ref (a 0)), (5, .int (nI (zD z))), (6, .int (nI (lowN (z >>> (nI 3 &&& 31)) 6))), (7, .int (nI (lowN (z >>> (nI 5 &&& 31)) 51))), (8, .int (nI (lowN (z >>> (nI 7 &&& 31)) 51))), (9, .int (nI (zH z)))]) hx hb dL_leases_178 hl (k := 11) rfl (k_iinc _) (by decide) rfl (fun ls hl => ?_)
          refine lv_goto (tgt := 107) hx hb dL_leases_181 (by decide) ?_
          refine W.widen (k := 0) (n := 0) (by omega) (by omega) ?_
          exact ih (k + 1) S (nI (zD z)) (nI (lowN (z >>> (nI 3 &&& 31)) 6)) (nI (lowN (z >>> (nI 5 &&& 31)) 51)) (nI (lowN (z >>> (nI 7 &&& 31)) 51)) (nI (zH z)) (nI 1) (nI (k + 1)) (by omega) (by first | omega | assumption) rfl rfl rfl rfl rfl rfl (by simp only [yCa_s, if_neg c_6, if_neg c_7]) rfl _ _ hP hS ls (lv_sub hl [2, 3, 4, 5, 6, 7, 8, 9, 10, 11, 1, 0] rfl)
        · skip
          refine lv_aload_n hx hb dL_leases_136 rfl (lv_at hl 3 rfl) ?_
          refine lv_bipush (v := nI 6) hx hb dL_leases_137 (by decide) ?_
          refine lv_iload hx hb dL_leases_139 (lv_at hl 11 rfl) ?_
          refine lv_imul hx hb dL_leases_141 ?_
          refine k_top (y := nI (6 * k)) (pk_mul _ _) ?_
          refine lv_iconst (v := nI 4) hx hb dL_leases_142 (by decide) ?_
          refine lv_iadd hx hb dL_leases_143 ?_
          refine k_top (y := nI (6 * k + 4)) (nI_add _ _) ?_
          refine k_iald hx hb hK hP.1 8 rfl (6 * k + 4) rfl (by omega) (by decide) dL_leases_144 ?_
          refine k_top (y := nI (ix S 8 (6 * k + 4))) (hO k (by omega)).2.2.1 ?_
          refine lv_aload hx hb dL_leases_145 (lv_at hl 4 rfl) ?_
          refine lv_iconst (v := nI 0) hx hb dL_leases_147 (by decide) ?_
          refine k_iald hx hb hK hP.1 0 rfl 0 rfl (by omega) (by decide) dL_leases_148 ?_
          refine k_top (y := nI w0) hw ?_
          refine k_icmp_le (P := ix S 8 (6 * k + 4) ≤ w0) (tgt := 171) hx hb dL_leases_149 (by decide) (nI_leI (by omega) (by omega)) (fun c_8 => ?_) (fun c_8 => ?_)
          · skip
            refine lv_iconst (v := nI 1) hx hb dL_leases_171 (by decide) ?_
            refine lv_goto (tgt := 176) hx hb dL_leases_172 (by decide) ?_
            refine lv_istore (lv' := [(10, .int (nI 1)), (0, .ref (cb 0)), (1, .int (nI 0)), (2, .int (z)), (3, .ref (a 8)), (4, .ref (a 0)), (5, .int (nI (zD z))), (6, .int (nI (lowN (z >>> (nI 3 &&& 31)) 6))), (7, .int (nI (lowN (z >>> (nI 5 &&& 31)) 51))), (8, .int (nI (lowN (z >>> (nI 7 &&& 31)) 51))), (9, .int (nI (zH z))), (11, .int (nI k))]) hx hb dL_leases_176 hl (by decide) rfl (fun ls hl => ?_)
            refine lv_iinc (v := nI (k + 1)) (lv' := [(11, .int (nI (k + 1))), (10, .int (nI 1)), (0, .ref (cb 0)), (1, .int (nI 0)), (2, .int (z)), (3, .ref (a 8)), (4, .ref (a 0)), (5, .int (nI (zD z))), (6, .int (nI (lowN (z >>> (nI 3 &&& 31)) 6))), (7, .int (nI (lowN (z >>> (nI 5 &&& 31)) 51))), (8, .int (nI (lowN (z >>> (nI 7 &&& 31)) 51))), (9, .int (nI (zH z)))]) hx hb dL_leases_178 hl (k := 11) rfl (k_iinc _) (by decide) rfl (fun ls hl => ?_)
            refine lv_goto (tgt := 107) hx hb dL_leases_181 (by decide) ?_
            refine W.widen (k := 0) (n := 0) (by omega) (by omega) ?_
            exact ih (k + 1) S (nI (zD z)) (nI (lowN (z >>> (nI 3 &&& 31)) 6)) (nI (lowN (z >>> (nI 5 &&& 31)) 51)) (nI (lowN (z >>> (nI 7 &&& 31)) 51)) (nI (zH z)) (nI 1) (nI (k + 1)) (by omega) (by first | omega | assumption) rfl rfl rfl rfl rfl rfl (by simp only [yCa_s, if_neg c_6, if_pos c_7, if_pos c_8]) rfl _ _ hP hS ls (lv_sub hl [2, 3, 4, 5, 6, 7, 8, 9, 10, 11, 1, 0] rfl)
          · skip
            refine lv_aload_n hx hb dL_leases_152 rfl (lv_at hl 3 rfl) ?_
            refine lv_bipush (v := nI 6) hx hb dL_leases_153 (by decide) ?_
            refine lv_iload hx hb dL_leases_155 (lv_at hl 11 rfl) ?_
            refine lv_imul hx hb dL_leases_157 ?_
            refine k_top (y := nI (6 * k)) (pk_mul _ _) ?_
            refine lv_iconst (v := nI 3) hx hb dL_leases_158 (by decide) ?_
            refine lv_iadd hx hb dL_leases_159 ?_
            refine k_top (y := nI (6 * k + 3)) (nI_add _ _) ?_
            refine k_iald hx hb hK hP.1 8 rfl (6 * k + 3) rfl (by omega) (by decide) dL_leases_160 ?_
            refine k_top (y := nI (ix S 8 (6 * k + 3))) (hO k (by omega)).2.1.1 ?_
            refine lv_aload hx hb dL_leases_161 (lv_at hl 4 rfl) ?_
            refine lv_iconst (v := nI 0) hx hb dL_leases_163 (by decide) ?_
            refine k_iald hx hb hK hP.1 0 rfl 0 rfl (by omega) (by decide) dL_leases_164 ?_
            refine k_top (y := nI w0) hw ?_
            refine lv_iload hx hb dL_leases_165 (lv_at hl 9 rfl) ?_
            refine lv_iadd hx hb dL_leases_167 ?_
            refine k_top (y := nI (w0 + (zH z))) (nI_add _ _) ?_
            refine k_icmp_lt (P := ix S 8 (6 * k + 3) < w0 + (zH z)) (tgt := 175) hx hb dL_leases_168 (by decide) (nI_ltI (by omega) (by omega)) (fun c_9 => ?_) (fun c_9 => ?_)
            · skip
              refine lv_iconst (v := nI 0) hx hb dL_leases_175 (by decide) ?_
              refine lv_istore (lv' := [(10, .int (nI 0)), (0, .ref (cb 0)), (1, .int (nI 0)), (2, .int (z)), (3, .ref (a 8)), (4, .ref (a 0)), (5, .int (nI (zD z))), (6, .int (nI (lowN (z >>> (nI 3 &&& 31)) 6))), (7, .int (nI (lowN (z >>> (nI 5 &&& 31)) 51))), (8, .int (nI (lowN (z >>> (nI 7 &&& 31)) 51))), (9, .int (nI (zH z))), (11, .int (nI k))]) hx hb dL_leases_176 hl (by decide) rfl (fun ls hl => ?_)
              refine lv_iinc (v := nI (k + 1)) (lv' := [(11, .int (nI (k + 1))), (10, .int (nI 0)), (0, .ref (cb 0)), (1, .int (nI 0)), (2, .int (z)), (3, .ref (a 8)), (4, .ref (a 0)), (5, .int (nI (zD z))), (6, .int (nI (lowN (z >>> (nI 3 &&& 31)) 6))), (7, .int (nI (lowN (z >>> (nI 5 &&& 31)) 51))), (8, .int (nI (lowN (z >>> (nI 7 &&& 31)) 51))), (9, .int (nI (zH z)))]) hx hb dL_leases_178 hl (k := 11) rfl (k_iinc _) (by decide) rfl (fun ls hl => ?_)
              refine lv_goto (tgt := 107) hx hb dL_leases_181 (by decide) ?_
              refine W.widen (k := 0) (n := 0) (by omega) (by omega) ?_
              exact ih (k + 1) S (nI (zD z)) (nI (lowN (z >>> (nI 3 &&& 31)) 6)) (nI (lowN (z >>> (nI 5 &&& 31)) 51)) (nI (lowN (z >>> (nI 7 &&& 31)) 51)) (nI (zH z)) (nI 0) (nI (k + 1)) (by omega) (by first | omega | assumption) rfl rfl rfl rfl rfl rfl (by simp only [yCa_s, if_neg c_6, if_pos c_7, if_neg c_8, if_pos c_9]) rfl _ _ hP hS ls (lv_sub hl [2, 3, 4, 5, 6, 7, 8, 9, 10, 11, 1, 0] rfl)
            · skip
              refine lv_iconst (v := nI 1) hx hb dL_leases_171 (by decide) ?_
              refine lv_goto (tgt := 176) hx hb dL_leases_172 (by decide) ?_
              refine lv_istore (lv' := [(10, .int (nI 1)), (0, .ref (cb 0)), (1, .int (nI 0)), (2, .int (z)), (3, .ref (a 8)), (4, .ref (a 0)), (5, .int (nI (zD z))), (6, .int (nI (lowN (z >>> (nI 3 &&& 31)) 6))), (7, .int (nI (lowN (z >>> (nI 5 &&& 31)) 51))), (8, .int (nI (lowN (z >>> (nI 7 &&& 31)) 51))), (9, .int (nI (zH z))), (11, .int (nI k))]) hx hb dL_leases_176 hl (by decide) rfl (fun ls hl => ?_)
              refine lv_iinc (v := nI (k + 1)) (lv' := [(11, .int (nI (k + 1))), (10, .int (nI 1)), (0, .ref (cb 0)), (1, .int (nI 0)), (2, .int (z)), (3, .ref (a 8)), (4, .ref (a 0)), (5, .int (nI (zD z))), (6, .int (nI (lowN (z >>> (nI 3 &&& 31)) 6))), (7, .int (nI (lowN (z >>> (nI 5 &&& 31)) 51))), (8, .int (nI (lowN (z >>> (nI 7 &&& 31)) 51))), (9, .int (nI (zH z)))]) hx hb dL_leases_178 hl (k := 11) rfl (k_iinc _) (by decide) rfl (fun ls hl => ?_)
              refine lv_goto (tgt := 107) hx hb dL_leases_181 (by decide) ?_
              refine W.widen (k := 0) (n := 0) (by omega) (by omega) ?_
              exact ih (k + 1) S (nI (zD z)) (nI (lowN (z >>> (nI 3 &&& 31)) 6)) (nI (lowN (z >>> (nI 5 &&& 31)) 51)) (nI (lowN (z >>> (nI 7 &&& 31)) 51)) (nI (zH z)) (nI 1) (nI (k + 1)) (by omega) (by first | omega | assumption) rfl rfl rfl rfl rfl rfl (by simp only [yCa_s, if_neg c_6, if_pos c_7, if_neg c_8, if_neg c_9]) rfl _ _ hP hS ls (lv_sub hl [2, 3, 4, 5, 6, 7, 8, 9, 10, 11, 1, 0] rfl)
set_option maxHeartbeats 4000000 in
set_option maxRecDepth 100000 in
theorem c_L_leases_n (l : Launch) (hl0 : l.stackTraces = false) (D : va_G) (q : Nat → ClassId) (A : Nat → Prop) (a : Nat → Nat) (S : Nat → Nat → Int32) (cb : Nat → Nat) (cM : Nat → Nat → Int32) (cap nl : Nat) (z : Int32) (w0 : Nat) (hcan : yCa S (zD z) w0 (zH z) nl = 0) (hnl9 : nl < 10) (hw : S 0 0 = nI w0) (hw20 : w0 ≤ 20) (hO : yO S nl) (hnl10 : nl ≤ 10) (hnlq : S 0 2 = nI nl) (hnow : cM 0 0 = nI w0) (hnl : nl ≤ cap ∧ cap ≤ 40 ∧ nl ≤ 30) (e0 : Nat) (hg : (cap = 0 ∧ cb 26 = e0) ∨ capP cap) (hE : caE [eI, eA, eS] (coLease cM w0 nl (nI (zD z)) (nI (lowN (z >>> (nI 3 &&& 31)) 6)) (nI (lowN (z >>> (nI 5 &&& 31)) 51)) (nI (lowN (z >>> (nI 7 &&& 31)) 51)) (nI (zH z)))) (hc0 : ¬ (coLease cM w0 nl (nI (zD z)) (nI (lowN (z >>> (nI 3 &&& 31)) 6)) (nI (lowN (z >>> (nI 5 &&& 31)) 51)) (nI (lowN (z >>> (nI 7 &&& 31)) 51)) (nI (zH z))).1 = nI 0) : Met l yL_leases wsL_leases ({ frames := 10, cells := 9, slots := 97, locals := 463 } : Room) (va_Pc [.ref (cb 0), .int (nI 0), .int (z), .ref (a 8), .ref (a 0)] (kBLe D q A e0 (fun H => kW D A (wL q a S ((wC q cb cM cap nl))) H))) (kRi D A (nI 1) (wL q a S ((wC q cb cM cap nl)))) 9 97 A := by
  refine Met.ofW (cc := cL_leases) (maxL := 12) (ret := (some .boolean)) (by decide) rfl ?_
  intro p e u m args below meth c s₁ B hml0 hv
  obtain ⟨rfl, ⟨⟨hP, hK, hX⟩, hA⟩, hEE⟩ := hv
  have C0 : kAt p u m #[.ref (cb 0), .int (nI 0), .int (z), .ref (a 8), .ref (a 0)] meth c cL_leases 12 (some .boolean) RL wsL_leases := kAt_of B hml0
  obtain ⟨hx, hb, hr, hml, hown, hts, hlocks⟩ := id C0
  have hS : va_S A u.heap u.heap [] := va_S.rf
  have hl := lv_entry ([.ref (cb 0), .int (nI 0), .int (z), .ref (a 8), .ref (a 0)]) (n := 12) (Nat.le_of_ble_eq_true rfl)
  rw [lg_entry_eq]
  generalize (lg_sl ([.ref (cb 0), .int (nI 0), .int (z), .ref (a 8), .ref (a 0)]) ++ List.replicate (12 - (lg_sl ([.ref (cb 0), .int (nI 0), .int (z), .ref (a 8), .ref (a 0)])).length) Slot.unset).toArray = ls at hl ⊢
  have hl : lv_has ls 12 [(0, .ref (cb 0)), (1, .int (nI 0)), (2, .int (z)), (3, .ref (a 8)), (4, .ref (a 0))] := hl
  refine lv_iload_n hx hb dL_leases_0 rfl (lv_at hl 1 rfl) ?_
  refine k_if_ne (P := True) (tgt := 324) hx hb dL_leases_1 (by decide) ⟨fun _ => trivial, fun _ => rfl⟩ (fun c_10 => ?_) (fun c_10 => ?_)
  · skip
    exact (c_10 trivial).elim
  · skip
    refine lv_iload_n hx hb dL_leases_4 rfl (lv_at hl 2 rfl) ?_
    refine lv_iload_n hx hb dL_leases_5 rfl (lv_at hl 2 rfl) ?_
    refine lv_bipush (v := nI 9) hx hb dL_leases_6 (by decide) ?_
    refine lv_ishr hx hb dL_leases_8 ?_
    refine lv_iconst (v := nI 2) hx hb dL_leases_9 (by decide) ?_
    refine k_callS (rest := [.int (z)]) (r := nI (lowN (z >>> ((nI 9) &&& 31)) 2)) ⟨hx, hb, hml, hown, hts⟩ (c_L_low l D q (z >>> ((nI 9) &&& 31)) 2 (by omega) (by omega)) (va_cwS 2 hts gL_leases_L_low rfl rfl rfl (by decide +kernel) ⟨Nat.le_of_ble_eq_true rfl, Nat.le_of_ble_eq_true rfl⟩) hK trivial rfl hl.1 rfl (Nat.le_of_ble_eq_true rfl) dL_leases_10 ⟨by show 0 ≤ 9; omega, by show 0 ≤ 97; omega⟩ (fun _ h => h) ?_
    have hlo : lowN (z >>> ((nI 9) &&& 31)) 2 < 2 := lowN_lt (by first | decide | omega | exact zif_p (by decide) (by decide))
    refine k_cut (pcj := 23) (st9 := [.int (nI (if lowN (z >>> ((nI 9) &&& 31)) 2 = 0 then 36 else 8)), .int (z)]) (n := 12) (lv9 := [(0, .ref (cb 0)), (1, .int (nI 0)), (2, .int (z)), (3, .ref (a 8)), (4, .ref (a 0))]) (fun ls hl => ?_) (fun J23 => ?_)
    · skip
      refine k_callS (rest := []) (r := nI (lowN z (if lowN (z >>> ((nI 9) &&& 31)) 2 = 0 then 36 else 8))) ⟨hx, hb, hml, hown, hts⟩ (c_L_low l D q z (if lowN (z >>> ((nI 9) &&& 31)) 2 = 0 then 36 else 8) (zif_p (by decide) (by decide)) (zif_l (by decide) (by decide))) (va_cwS 2 hts gL_leases_L_low rfl rfl rfl (by decide +kernel) ⟨Nat.le_of_ble_eq_true rfl, Nat.le_of_ble_eq_true rfl⟩) hK trivial rfl hl.1 rfl (Nat.le_of_ble_eq_true rfl) dL_leases_23 ⟨by show 0 ≤ 9; omega, by show 0 ≤ 97; omega⟩ (fun _ h => h) ?_
      have hlo : lowN z (if lowN (z >>> ((nI 9) &&& 31)) 2 = 0 then 36 else 8) < (if lowN (z >>> ((nI 9) &&& 31)) 2 = 0 then 36 else 8) := lowN_lt (by first | decide | omega | exact zif_p (by decide) (by decide))
      refine k_top (y := nI (zD z)) rfl ?_
      refine lv_istore (lv' := [(5, .int (nI (zD z))), (0, .ref (cb 0)), (1, .int (nI 0)), (2, .int (z)), (3, .ref (a 8)), (4, .ref (a 0))]) hx hb dL_leases_26 hl (by decide) rfl (fun ls hl => ?_)
      refine lv_iload_n hx hb dL_leases_28 rfl (lv_at hl 3 rfl) ?_
      refine lv_iconst (v := nI 3) hx hb dL_leases_29 (by decide) ?_
      refine lv_ishr hx hb dL_leases_30 ?_
      refine lv_bipush (v := nI 6) hx hb dL_leases_31 (by decide) ?_
      refine k_callS (rest := []) (r := nI (lowN (z >>> ((nI 3) &&& 31)) 6)) ⟨hx, hb, hml, hown, hts⟩ (c_L_low l D q (z >>> ((nI 3) &&& 31)) 6 (by omega) (by omega)) (va_cwS 2 hts gL_leases_L_low rfl rfl rfl (by decide +kernel) ⟨Nat.le_of_ble_eq_true rfl, Nat.le_of_ble_eq_true rfl⟩) hK trivial rfl hl.1 rfl (Nat.le_of_ble_eq_true rfl) dL_leases_33 ⟨by show 0 ≤ 9; omega, by show 0 ≤ 97; omega⟩ (fun _ h => h) ?_
      have hlo : lowN (z >>> ((nI 3) &&& 31)) 6 < 6 := lowN_lt (by first | decide | omega | exact zif_p (by decide) (by decide))
      refine lv_istore (lv' := [(6, .int (nI (lowN (z >>> ((nI 3) &&& 31)) 6))), (5, .int (nI (zD z))), (0, .ref (cb 0)), (1, .int (nI 0)), (2, .int (z)), (3, .ref (a 8)), (4, .ref (a 0))]) hx hb dL_leases_36 hl (by decide) rfl (fun ls hl => ?_)
      refine lv_iload_n hx hb dL_leases_38 rfl (lv_at hl 4 rfl) ?_
      refine lv_iconst (v := nI 5) hx hb dL_leases_39 (by decide) ?_
      refine lv_ishr hx hb dL_leases_40 ?_
      refine lv_bipush (v := nI 51) hx hb dL_leases_41 (by decide) ?_
      refine k_callS (rest := []) (r := nI (lowN (z >>> ((nI 5) &&& 31)) 51)) ⟨hx, hb, hml, hown, hts⟩ (c_L_low l D q (z >>> ((nI 5) &&& 31)) 51 (by omega) (by omega)) (va_cwS 2 hts gL_leases_L_low rfl rfl rfl (by decide +kernel) ⟨Nat.le_of_ble_eq_true rfl, Nat.le_of_ble_eq_true rfl⟩) hK trivial rfl hl.1 rfl (Nat.le_of_ble_eq_true rfl) dL_leases_43 ⟨by show 0 ≤ 9; omega, by show 0 ≤ 97; omega⟩ (fun _ h => h) ?_
      have hlo : lowN (z >>> ((nI 5) &&& 31)) 51 < 51 := lowN_lt (by first | decide | omega | exact zif_p (by decide) (by decide))
      refine lv_istore (lv' := [(7, .int (nI (lowN (z >>> ((nI 5) &&& 31)) 51))), (6, .int (nI (lowN (z >>> ((nI 3) &&& 31)) 6))), (5, .int (nI (zD z))), (0, .ref (cb 0)), (1, .int (nI 0)), (2, .int (z)), (3, .ref (a 8)), (4, .ref (a 0))]) hx hb dL_leases_46 hl (by decide) rfl (fun ls hl => ?_)
      refine lv_iload_n hx hb dL_leases_48 rfl (lv_at hl 5 rfl) ?_
      refine lv_bipush (v := nI 7) hx hb dL_leases_49 (by decide) ?_
      refine lv_ishr hx hb dL_leases_51 ?_
      refine lv_bipush (v := nI 51) hx hb dL_leases_52 (by decide) ?_
      refine k_callS (rest := []) (r := nI (lowN (z >>> ((nI 7) &&& 31)) 51)) ⟨hx, hb, hml, hown, hts⟩ (c_L_low l D q (z >>> ((nI 7) &&& 31)) 51 (by omega) (by omega)) (va_cwS 2 hts gL_leases_L_low rfl rfl rfl (by decide +kernel) ⟨Nat.le_of_ble_eq_true rfl, Nat.le_of_ble_eq_true rfl⟩) hK trivial rfl hl.1 rfl (Nat.le_of_ble_eq_true rfl) dL_leases_54 ⟨by show 0 ≤ 9; omega, by show 0 ≤ 97; omega⟩ (fun _ h => h) ?_
      have hlo : lowN (z >>> ((nI 7) &&& 31)) 51 < 51 := lowN_lt (by first | decide | omega | exact zif_p (by decide) (by decide))
      refine lv_istore (lv' := [(8, .int (nI (lowN (z >>> ((nI 7) &&& 31)) 51))), (7, .int (nI (lowN (z >>> ((nI 5) &&& 31)) 51))), (6, .int (nI (lowN (z >>> ((nI 3) &&& 31)) 6))), (5, .int (nI (zD z))), (0, .ref (cb 0)), (1, .int (nI 0)), (2, .int (z)), (3, .ref (a 8)), (4, .ref (a 0))]) hx hb dL_leases_57 hl (by decide) rfl (fun ls hl => ?_)
      refine lv_iconst (v := nI 1) hx hb dL_leases_59 (by decide) ?_
      refine lv_iload_n hx hb dL_leases_60 rfl (lv_at hl 6 rfl) ?_
      refine lv_bipush (v := nI 9) hx hb dL_leases_61 (by decide) ?_
      refine lv_ishr hx hb dL_leases_63 ?_
      refine lv_iload_n hx hb dL_leases_64 rfl (lv_at hl 6 rfl) ?_
      refine lv_bipush (v := nI 11) hx hb dL_leases_65 (by decide) ?_
      refine lv_ishr hx hb dL_leases_67 ?_
      refine lv_iconst (v := nI 3) hx hb dL_leases_68 (by decide) ?_
      refine k_callS (rest := [.int (z >>> ((nI 9) &&& 31)), .int (nI 1)]) (r := nI (lowN (z >>> ((nI 11) &&& 31)) 3)) ⟨hx, hb, hml, hown, hts⟩ (c_L_low l D q (z >>> ((nI 11) &&& 31)) 3 (by omega) (by omega)) (va_cwS 2 hts gL_leases_L_low rfl rfl rfl (by decide +kernel) ⟨Nat.le_of_ble_eq_true rfl, Nat.le_of_ble_eq_true rfl⟩) hK trivial rfl hl.1 rfl (Nat.le_of_ble_eq_true rfl) dL_leases_69 ⟨by show 0 ≤ 9; omega, by show 0 ≤ 97; omega⟩ (fun _ h => h) ?_
      have hlo : lowN (z >>> ((nI 11) &&& 31)) 3 < 3 := lowN_lt (by first | decide | omega | exact zif_p (by decide) (by decide))
      refine k_cut (pcj := 82) (st9 := [.int (nI (if lowN (z >>> ((nI 11) &&& 31)) 3 = 0 then 100 else 6)), .int (z >>> ((nI 9) &&& 31)), .int (nI 1)]) (n := 12) (lv9 := [(8, .int (nI (lowN (z >>> ((nI 7) &&& 31)) 51))), (7, .int (nI (lowN (z >>> ((nI 5) &&& 31)) 51))), (6, .int (nI (lowN (z >>> ((nI 3) &&& 31)) 6))), (5, .int (nI (zD z))), (0, .ref (cb 0)), (1, .int (nI 0)), (2, .int (z)), (3, .ref (a 8)), (4, .ref (a 0))]) (fun ls hl => ?_) (fun J82 => ?_)
      · skip
        refine k_callS (rest := [.int (nI 1)]) (r := nI (lowN (z >>> ((nI 9) &&& 31)) (if lowN (z >>> ((nI 11) &&& 31)) 3 = 0 then 100 else 6))) ⟨hx, hb, hml, hown, hts⟩ (c_L_low l D q (z >>> ((nI 9) &&& 31)) (if lowN (z >>> ((nI 11) &&& 31)) 3 = 0 then 100 else 6) (zif_p (by decide) (by decide)) (zif_l (by decide) (by decide))) (va_cwS 2 hts gL_leases_L_low rfl rfl rfl (by decide +kernel) ⟨Nat.le_of_ble_eq_true rfl, Nat.le_of_ble_eq_true rfl⟩) hK trivial rfl hl.1 rfl (Nat.le_of_ble_eq_true rfl) dL_leases_82 ⟨by show 0 ≤ 9; omega, by show 0 ≤ 97; omega⟩ (fun _ h => h) ?_
        have hlo : lowN (z >>> ((nI 9) &&& 31)) (if lowN (z >>> ((nI 11) &&& 31)) 3 = 0 then 100 else 6) < (if lowN (z >>> ((nI 11) &&& 31)) 3 = 0 then 100 else 6) := lowN_lt (by first | decide | omega | exact zif_p (by decide) (by decide))
        refine lv_iadd hx hb dL_leases_85 ?_
        refine k_top (y := nI (1 + (lowN (z >>> ((nI 9) &&& 31)) (if lowN (z >>> ((nI 11) &&& 31)) 3 = 0 then 100 else 6)))) (nI_add _ _) ?_
        refine k_top (y := nI (zH z)) rfl ?_
        refine lv_istore (lv' := [(9, .int (nI (zH z))), (8, .int (nI (lowN (z >>> ((nI 7) &&& 31)) 51))), (7, .int (nI (lowN (z >>> ((nI 5) &&& 31)) 51))), (6, .int (nI (lowN (z >>> ((nI 3) &&& 31)) 6))), (5, .int (nI (zD z))), (0, .ref (cb 0)), (1, .int (nI 0)), (2, .int (z)), (3, .ref (a 8)), (4, .ref (a 0))]) hx hb dL_leases_86 hl (by decide) rfl (fun ls hl => ?_)
        refine lv_aload hx hb dL_leases_88 (lv_at hl 9 rfl) ?_
        refine lv_iconst (v := nI 2) hx hb dL_leases_90 (by decide) ?_
        refine k_iald hx hb hK hP.1 0 rfl 2 rfl (by omega) (by decide) dL_leases_91 ?_
        refine k_top (y := nI nl) hnlq ?_
        refine lv_bipush (v := nI 10) hx hb dL_leases_92 (by decide) ?_
        refine k_icmp_ge (P := nl < 10) (tgt := 101) hx hb dL_leases_94 (by decide) (nI_ltI (by omega) (by omega)) (fun c_11 => ?_) (fun c_11 => ?_)
        · skip
          exact absurd c_11 (by omega)
        · skip
          refine lv_iconst (v := nI 1) hx hb dL_leases_97 (by decide) ?_
          refine lv_goto (tgt := 102) hx hb dL_leases_98 (by decide) ?_
          refine lv_istore (lv' := [(10, .int (nI 1)), (9, .int (nI (zH z))), (8, .int (nI (lowN (z >>> ((nI 7) &&& 31)) 51))), (7, .int (nI (lowN (z >>> ((nI 5) &&& 31)) 51))), (6, .int (nI (lowN (z >>> ((nI 3) &&& 31)) 6))), (5, .int (nI (zD z))), (0, .ref (cb 0)), (1, .int (nI 0)), (2, .int (z)), (3, .ref (a 8)), (4, .ref (a 0))]) hx hb dL_leases_102 hl (by decide) rfl (fun ls hl => ?_)
          refine lv_iconst (v := nI 0) hx hb dL_leases_104 (by decide) ?_
          refine lv_istore (lv' := [(11, .int (nI 0)), (10, .int (nI 1)), (9, .int (nI (zH z))), (8, .int (nI (lowN (z >>> ((nI 7) &&& 31)) 51))), (7, .int (nI (lowN (z >>> ((nI 5) &&& 31)) 51))), (6, .int (nI (lowN (z >>> ((nI 3) &&& 31)) 6))), (5, .int (nI (zD z))), (0, .ref (cb 0)), (1, .int (nI 0)), (2, .int (z)), (3, .ref (a 8)), (4, .ref (a 0))]) hx hb dL_leases_105 hl (by decide) rfl (fun ls hl => ?_)
          refine W.widen (k := 0) (n := 0) (by omega) (by omega) ?_
          exact lp_L_leases_0_107 hl0 a S cb cM cap nl z w0 hcan hnl9 hw hw20 hO hnl10 hnlq hnow hnl e0 hg hE hc0 C0 hK hX hA hEE ((nl - 0) + 1) 0 S (nI (zD z)) (nI (lowN (z >>> ((nI 3) &&& 31)) 6)) (nI (lowN (z >>> ((nI 5) &&& 31)) 51)) (nI (lowN (z >>> ((nI 7) &&& 31)) 51)) (nI (zH z)) (nI 1) (nI 0) (by omega) (by first | omega | assumption) rfl rfl (by first | (simp only [if_pos c_11]; done) | (simp only [if_pos c_11]; rfl) | (simp [if_pos c_11]; done) | rfl) (by first | (simp only [if_pos c_11]; done) | (simp only [if_pos c_11]; rfl) | (simp [if_pos c_11]; done) | rfl) (by first | (simp only [if_pos c_11]; done) | (simp only [if_pos c_11]; rfl) | (simp [if_pos c_11]; done) | rfl) rfl (by rfl) rfl _ _ hP hS ls (lv_sub hl [7, 8, 9, 10, 11, 6, 5, 4, 3, 2, 1, 0] rfl)
      · skip
        refine k_if_ne (P := lowN (z >>> ((nI 11) &&& 31)) 3 = 0) (tgt := 80) hx hb dL_leases_72 (by decide) (k_n0 (by omega)) (fun c_12 => ?_) (fun c_12 => ?_)
        · skip
          refine lv_bipush (v := nI 6) hx hb dL_leases_80 (by decide) ?_
          refine k_top (y := nI (if lowN (z >>> ((nI 11) &&& 31)) 3 = 0 then 100 else 6)) (by first | rw [if_pos c_12] | rw [if_neg c_12]) ?_
          exact J82 ls (lv_sub hl [0, 1, 2, 3, 4, 5, 6, 7, 8] rfl)
        · skip
          refine lv_bipush (v := nI 100) hx hb dL_leases_75 (by decide) ?_
          refine lv_goto (tgt := 82) hx hb dL_leases_77 (by decide) ?_
          refine k_top (y := nI (if lowN (z >>> ((nI 11) &&& 31)) 3 = 0 then 100 else 6)) (by first | rw [if_pos c_12] | rw [if_neg c_12]) ?_
          exact J82 ls (lv_sub hl [0, 1, 2, 3, 4, 5, 6, 7, 8] rfl)
    · skip
      refine k_if_ne (P := lowN (z >>> ((nI 9) &&& 31)) 2 = 0) (tgt := 21) hx hb dL_leases_13 (by decide) (k_n0 (by omega)) (fun c_13 => ?_) (fun c_13 => ?_)
      · skip
        refine lv_bipush (v := nI 8) hx hb dL_leases_21 (by decide) ?_
        refine k_top (y := nI (if lowN (z >>> ((nI 9) &&& 31)) 2 = 0 then 36 else 8)) (by first | rw [if_pos c_13] | rw [if_neg c_13]) ?_
        exact J23 ls (lv_sub hl [0, 1, 2, 3, 4] rfl)
      · skip
        refine lv_bipush (v := nI 36) hx hb dL_leases_16 (by decide) ?_
        refine lv_goto (tgt := 23) hx hb dL_leases_18 (by decide) ?_
        refine k_top (y := nI (if lowN (z >>> ((nI 9) &&& 31)) 2 = 0 then 36 else 8)) (by first | rw [if_pos c_13] | rw [if_neg c_13]) ?_
        exact J23 ls (lv_sub hl [0, 1, 2, 3, 4] rfl)
set_option maxHeartbeats 4000000 in
set_option maxRecDepth 100000 in
theorem c_L_leases_0 (l : Launch) (hl0 : l.stackTraces = false) (D : va_G) (q : Nat → ClassId) (A : Nat → Prop) (a : Nat → Nat) (S : Nat → Nat → Int32) (cb : Nat → Nat) (cM : Nat → Nat → Int32) (cap nl : Nat) (z : Int32) (h0 : nl = 0) (hnlq : S 0 2 = nI nl) : Met l yL_leases wsL_leases ({ frames := 0, cells := 0, slots := 0, locals := 0 } : Room) (va_Pc [.ref (cb 0), .int (nI 1), .int (z), .ref (a 8), .ref (a 0)] (kBL D q A (fun H => kW D A (wL q a S ((wC q cb cM cap nl))) H))) (kRi D A (nI 1) (wL q a S ((wC q cb cM cap nl)))) 0 0 A := by
  refine Met.ofW (cc := cL_leases) (maxL := 12) (ret := (some .boolean)) (by decide) rfl ?_
  intro p e u m args below meth c s₁ B hml0 hv
  obtain ⟨rfl, ⟨hP, hK, hX⟩, hA⟩ := hv
  have C0 : kAt p u m #[.ref (cb 0), .int (nI 1), .int (z), .ref (a 8), .ref (a 0)] meth c cL_leases 12 (some .boolean) RL wsL_leases := kAt_of B hml0
  obtain ⟨hx, hb, hr, hml, hown, hts, hlocks⟩ := id C0
  have hS : va_S A u.heap u.heap [] := va_S.rf
  have hl := lv_entry ([.ref (cb 0), .int (nI 1), .int (z), .ref (a 8), .ref (a 0)]) (n := 12) (Nat.le_of_ble_eq_true rfl)
  rw [lg_entry_eq]
  generalize (lg_sl ([.ref (cb 0), .int (nI 1), .int (z), .ref (a 8), .ref (a 0)]) ++ List.replicate (12 - (lg_sl ([.ref (cb 0), .int (nI 1), .int (z), .ref (a 8), .ref (a 0)])).length) Slot.unset).toArray = ls at hl ⊢
  have hl : lv_has ls 12 [(0, .ref (cb 0)), (1, .int (nI 1)), (2, .int (z)), (3, .ref (a 8)), (4, .ref (a 0))] := hl
  refine lv_iload_n hx hb dL_leases_0 rfl (lv_at hl 1 rfl) ?_
  refine k_if_ne (P := False) (tgt := 324) hx hb dL_leases_1 (by decide) ⟨fun z => absurd z (by decide), False.elim⟩ (fun c_1 => ?_) (fun c_1 => ?_)
  · skip
    refine lv_aload hx hb dL_leases_324 (lv_at hl 4 rfl) ?_
    refine lv_iconst (v := nI 2) hx hb dL_leases_326 (by decide) ?_
    refine k_iald hx hb hK hP.1 0 rfl 2 rfl (by omega) (by decide) dL_leases_327 ?_
    refine k_top (y := nI nl) hnlq ?_
    refine k_if_ne (P := nl = 0) (tgt := 333) hx hb dL_leases_328 (by decide) (k_n0 (by omega)) (fun c_2 => ?_) (fun c_2 => ?_)
    · skip
      exact absurd h0 c_2
    · skip
      refine lv_iconst (v := nI 1) hx hb dL_leases_331 (by decide) ?_
      refine W.widen (k := 0) (n := 0) (by first | exact Nat.le_of_ble_eq_true rfl | omega) (by first | exact Nat.le_of_ble_eq_true rfl | omega) ?_
      exact k_zretW hx hb hr hlocks rfl hP hS (by rfl) dL_leases_332
  · skip
    exact c_1.elim
set_option maxHeartbeats 4000000 in
set_option maxRecDepth 100000 in
theorem c_L_leases_q (l : Launch) (hl0 : l.stackTraces = false) (D : va_G) (q : Nat → ClassId) (A : Nat → Prop) (a : Nat → Nat) (S : Nat → Nat → Int32) (cb : Nat → Nat) (cM : Nat → Nat → Int32) (cap nl : Nat) (z : Int32) (w0 : Nat) (cN : Nat → Nat → Int32) (h0 : ¬ nl = 0) (hcan : (S 0 4 >>> (nI (lowN z nl) &&& 31) &&& nI 1 = 0 ∧ ¬ ix S 8 (6 * (lowN z nl) + 4) ≤ w0)) (hst : ix S 8 (6 * (lowN z nl) + 3) ≤ w0) (hw : S 0 0 = nI w0) (hw20 : w0 ≤ 20) (hO : yO S nl) (hnl10 : nl ≤ 10) (hnlq : S 0 2 = nI nl) (hnow : cM 0 0 = nI w0) (hnl : nl ≤ cap ∧ cap ≤ 40 ∧ nl ≤ 30) (hE : caE [eI, eS] (coQuit cM w0 nl (nI (lowN z nl)))) (hco : caV (coQuit cM w0 nl (nI (lowN z nl))) = nI (w0 - ix S 8 (6 * (lowN z nl) + 3))) (hcN : outS cM (coQuit cM w0 nl (nI (lowN z nl))) = cN) : Met l yL_leases wsL_leases ({ frames := 9, cells := 2, slots := 12, locals := 270 } : Room) (va_Pc [.ref (cb 0), .int (nI 1), .int (z), .ref (a 8), .ref (a 0)] (kBL D q A (fun H => kW D A (wL q a S ((wC q cb cM cap nl))) H))) (kRi D A (nI 1) (wL q a ((yQM S w0 (lowN z nl))) ((wC q cb cN cap nl)))) 2 12 A := by
  refine Met.ofW (cc := cL_leases) (maxL := 12) (ret := (some .boolean)) (by decide) rfl ?_
  intro p e u m args below meth c s₁ B hml0 hv
  obtain ⟨rfl, ⟨hP, hK, hX⟩, hA⟩ := hv
  have C0 : kAt p u m #[.ref (cb 0), .int (nI 1), .int (z), .ref (a 8), .ref (a 0)] meth c cL_leases 12 (some .boolean) RL wsL_leases := kAt_of B hml0
  obtain ⟨hx, hb, hr, hml, hown, hts, hlocks⟩ := id C0
  have hS : va_S A u.heap u.heap [] := va_S.rf
  have hl := lv_entry ([.ref (cb 0), .int (nI 1), .int (z), .ref (a 8), .ref (a 0)]) (n := 12) (Nat.le_of_ble_eq_true rfl)
  rw [lg_entry_eq]
  generalize (lg_sl ([.ref (cb 0), .int (nI 1), .int (z), .ref (a 8), .ref (a 0)]) ++ List.replicate (12 - (lg_sl ([.ref (cb 0), .int (nI 1), .int (z), .ref (a 8), .ref (a 0)])).length) Slot.unset).toArray = ls at hl ⊢
  have hl : lv_has ls 12 [(0, .ref (cb 0)), (1, .int (nI 1)), (2, .int (z)), (3, .ref (a 8)), (4, .ref (a 0))] := hl
  refine lv_iload_n hx hb dL_leases_0 rfl (lv_at hl 1 rfl) ?_
  refine k_if_ne (P := False) (tgt := 324) hx hb dL_leases_1 (by decide) ⟨fun z => absurd z (by decide), False.elim⟩ (fun c_1 => ?_) (fun c_1 => ?_)
  · skip
    refine lv_aload hx hb dL_leases_324 (lv_at hl 4 rfl) ?_
    refine lv_iconst (v := nI 2) hx hb dL_leases_326 (by decide) ?_
    refine k_iald hx hb hK hP.1 0 rfl 2 rfl (by omega) (by decide) dL_leases_327 ?_
    refine k_top (y := nI nl) hnlq ?_
    refine k_if_ne (P := nl = 0) (tgt := 333) hx hb dL_leases_328 (by decide) (k_n0 (by omega)) (fun c_2 => ?_) (fun c_2 => ?_)
    · skip
      refine lv_iload_n hx hb dL_leases_333 rfl (lv_at hl 2 rfl) ?_
      refine lv_aload hx hb dL_leases_334 (lv_at hl 4 rfl) ?_
      refine lv_iconst (v := nI 2) hx hb dL_leases_336 (by decide) ?_
      refine k_iald hx hb hK hP.1 0 rfl 2 rfl (by omega) (by decide) dL_leases_337 ?_
      refine k_top (y := nI nl) hnlq ?_
      refine k_callS (rest := []) (r := nI (lowN z nl)) ⟨hx, hb, hml, hown, hts⟩ (c_L_low l D q z nl (by omega) (by omega)) (va_cwS 2 hts gL_leases_L_low rfl rfl rfl (by decide +kernel) ⟨Nat.le_of_ble_eq_true rfl, Nat.le_of_ble_eq_true rfl⟩) hK trivial rfl hl.1 rfl (Nat.le_of_ble_eq_true rfl) dL_leases_338 ⟨by show 0 ≤ 2; omega, by show 0 ≤ 12; omega⟩ (fun _ h => h) ?_
      have hlo : lowN z nl < nl := lowN_lt (by first | decide | omega | exact zif_p (by decide) (by decide))
      refine lv_istore (lv' := [(5, .int (nI (lowN z nl))), (0, .ref (cb 0)), (1, .int (nI 1)), (2, .int (z)), (3, .ref (a 8)), (4, .ref (a 0))]) hx hb dL_leases_341 hl (by decide) rfl (fun ls hl => ?_)
      have hk9 : lowN z nl < nl := lowN_lt (by omega)
      obtain ⟨⟨-, ho1⟩, ⟨-, ho2⟩, ⟨-, ho3⟩⟩ := hO (lowN z nl) hk9
      refine lv_aload hx hb dL_leases_343 (lv_at hl 5 rfl) ?_
      refine lv_iconst (v := nI 4) hx hb dL_leases_345 (by decide) ?_
      refine k_iald hx hb hK hP.1 0 rfl 4 rfl (by omega) (by decide) dL_leases_346 ?_
      refine lv_iload hx hb dL_leases_347 (lv_at hl 0 rfl) ?_
      refine lv_ishr hx hb dL_leases_349 ?_
      refine lv_iconst (v := nI 1) hx hb dL_leases_350 (by decide) ?_
      refine lv_iand hx hb dL_leases_351 ?_
      refine k_if_ne (P := ((S 0 4) >>> ((nI (lowN z nl)) &&& 31)) &&& (nI 1) = 0) (tgt := 375) hx hb dL_leases_352 (by decide) Iff.rfl (fun c_3 => ?_) (fun c_3 => ?_)
      · skip
        exact absurd hcan.1 c_3
      · skip
        refine lv_aload_n hx hb dL_leases_355 rfl (lv_at hl 4 rfl) ?_
        refine lv_bipush (v := nI 6) hx hb dL_leases_356 (by decide) ?_
        refine lv_iload hx hb dL_leases_358 (lv_at hl 0 rfl) ?_
        refine lv_imul hx hb dL_leases_360 ?_
        refine k_top (y := nI (6 * (lowN z nl))) (pk_mul _ _) ?_
        refine lv_iconst (v := nI 4) hx hb dL_leases_361 (by decide) ?_
        refine lv_iadd hx hb dL_leases_362 ?_
        refine k_top (y := nI (6 * (lowN z nl) + 4)) (nI_add _ _) ?_
        refine k_iald hx hb hK hP.1 8 rfl (6 * (lowN z nl) + 4) rfl (by omega) (by decide) dL_leases_363 ?_
        refine k_top (y := nI (ix S 8 (6 * (lowN z nl) + 4))) (hO (lowN z nl) hk9).2.2.1 ?_
        refine lv_aload hx hb dL_leases_364 (lv_at hl 5 rfl) ?_
        refine lv_iconst (v := nI 0) hx hb dL_leases_366 (by decide) ?_
        refine k_iald hx hb hK hP.1 0 rfl 0 rfl (by omega) (by decide) dL_leases_367 ?_
        refine k_top (y := nI w0) hw ?_
        refine k_icmp_le (P := ix S 8 (6 * (lowN z nl) + 4) ≤ w0) (tgt := 375) hx hb dL_leases_368 (by decide) (nI_leI (by omega) (by omega)) (fun c_4 => ?_) (fun c_4 => ?_)
        · skip
          exact absurd c_4 hcan.2
        · skip
          refine lv_iconst (v := nI 1) hx hb dL_leases_371 (by decide) ?_
          refine lv_goto (tgt := 376) hx hb dL_leases_372 (by decide) ?_
          refine lv_istore (lv' := [(6, .int (nI 1)), (5, .int (nI (lowN z nl))), (0, .ref (cb 0)), (1, .int (nI 1)), (2, .int (z)), (3, .ref (a 8)), (4, .ref (a 0))]) hx hb dL_leases_376 hl (by decide) rfl (fun ls hl => ?_)
          refine lv_aload_n hx hb dL_leases_378 rfl (lv_at hl 5 rfl) ?_
          refine lv_bipush (v := nI 6) hx hb dL_leases_379 (by decide) ?_
          refine lv_iload hx hb dL_leases_381 (lv_at hl 1 rfl) ?_
          refine lv_imul hx hb dL_leases_383 ?_
          refine k_top (y := nI (6 * (lowN z nl))) (pk_mul _ _) ?_
          refine lv_iconst (v := nI 4) hx hb dL_leases_384 (by decide) ?_
          refine lv_iadd hx hb dL_leases_385 ?_
          refine k_top (y := nI (6 * (lowN z nl) + 4)) (nI_add _ _) ?_
          refine lv_iload hx hb dL_leases_386 (lv_at hl 0 rfl) ?_
          refine k_if_eq (P := False) (tgt := 398) hx hb dL_leases_388 (by decide) ⟨fun z => absurd z (by decide), False.elim⟩ (fun c_5 => ?_) (fun c_5 => ?_)
          · skip
            exact c_5.elim
          · skip
            refine lv_aload hx hb dL_leases_391 (lv_at hl 6 rfl) ?_
            refine lv_iconst (v := nI 0) hx hb dL_leases_393 (by decide) ?_
            refine k_iald hx hb hK hP.1 0 rfl 0 rfl (by omega) (by decide) dL_leases_394 ?_
            refine k_top (y := nI w0) hw ?_
            refine lv_goto (tgt := 407) hx hb dL_leases_395 (by decide) ?_
            refine k_iast (wL q a ((up S 8 (6 * (lowN z nl) + 4) (nI w0))) ((wC q cb cM cap nl))) hx hb hK hP hS 8 rfl (6 * (lowN z nl) + 4) rfl (by omega) (by decide) wL_s8 dL_leases_407 (fun H locs hP hS => ?_)
            refine lv_aload hx hb dL_leases_408 (lv_at hl 6 rfl) ?_
            refine lv_iconst (v := nI 4) hx hb dL_leases_410 (by decide) ?_
            refine lv_dup2_11 hx hb dL_leases_411 rfl rfl ?_
            refine k_iald hx hb hK hP.1 0 rfl 4 rfl (by omega) (by decide) dL_leases_412 ?_
            refine k_top (y := S 0 4) (congrFun (up_n (by decide)) _) ?_
            refine lv_iload hx hb dL_leases_413 (lv_at hl 0 rfl) ?_
            refine k_if_eq (P := False) (tgt := 425) hx hb dL_leases_415 (by decide) ⟨fun z => absurd z (by decide), False.elim⟩ (fun c_6 => ?_) (fun c_6 => ?_)
            · skip
              exact c_6.elim
            · skip
              refine lv_iconst (v := nI 1) hx hb dL_leases_418 (by decide) ?_
              refine lv_iload hx hb dL_leases_419 (lv_at hl 1 rfl) ?_
              refine lv_ishl hx hb dL_leases_421 ?_
              refine lv_goto (tgt := 426) hx hb dL_leases_422 (by decide) ?_
              refine lv_ior hx hb dL_leases_426 ?_
              refine k_iast (wL q a ((up (up S 8 (6 * (lowN z nl) + 4) (nI w0)) 0 4 ((S 0 4) ||| ((nI 1) <<< ((nI (lowN z nl)) &&& 31))))) ((wC q cb cM cap nl))) hx hb hK hP hS 0 rfl 4 rfl (by omega) (by decide) wL_s0 dL_leases_427 (fun H locs hP hS => ?_)
              refine lv_aload_n hx hb dL_leases_428 rfl (lv_at hl 2 rfl) ?_
              refine lv_iconst (v := nI 2) hx hb dL_leases_429 (by decide) ?_
              refine lv_iload hx hb dL_leases_430 (lv_at hl 1 rfl) ?_
              refine lv_iconst (v := nI 0) hx hb dL_leases_432 (by decide) ?_
              refine lv_iconst (v := nI 0) hx hb dL_leases_433 (by decide) ?_
              refine lv_iconst (v := nI 0) hx hb dL_leases_434 (by decide) ?_
              refine lv_iconst (v := nI 0) hx hb dL_leases_435 (by decide) ?_
              refine k_goW hP (fun z9 h9 => hA z9 h9) hS (vx_runSW (rest := []) ⟨hx, hb, hml, hown, hts⟩ (c_L_calls_quit l hl0 D q (va_A (wC q cb cM cap nl) H.size) cb cM cap nl (nI (lowN z nl)) w0 hnl hnow (by omega) (nI 0) (nI 0) (nI 0) (nI 0) hE) (vx_cwSW 7 hts gL_leases_L_calls rfl rfl rfl (by decide +kernel) ⟨Nat.le_of_ble_eq_true rfl, Nat.le_of_ble_eq_true rfl⟩) ⟨kBL_blind, fun U hU hW => ⟨rfl, ⟨by rw [hU]; exact kW_cut hP, hK.warm hW, (hX.at hS hU hW).narrow (kW_sub hP (fun z9 h9 => hA z9 (Nat.le_trans hS.1 h9)))⟩, fun z9 h9 => Or.inr (by rw [← hU]; exact h9)⟩⟩ rfl rfl hl.1 rfl (lv_room (Nat.le_of_ble_eq_true rfl)) dL_leases_436 ⟨by show 0 + 2 ≤ 2; omega, by show 0 + 12 ≤ 12; omega⟩) (fun H locs hP hS => ?_)
              have hP : kW D A (wL q a ((up (up S 8 (6 * (lowN z nl) + 4) (nI w0)) 0 4 ((S 0 4) ||| ((nI 1) <<< ((nI (lowN z nl)) &&& 31))))) ((wC q cb cN cap nl))) H := by rw [← hcN]; exact hP
              refine k_top (y := nI (w0 - ix S 8 (6 * (lowN z nl) + 3))) hco ?_
              refine lv_iload hx hb dL_leases_439 (lv_at hl 0 rfl) ?_
              refine k_if_eq (P := False) (tgt := 461) hx hb dL_leases_441 (by decide) ⟨fun z => absurd z (by decide), False.elim⟩ (fun c_7 => ?_) (fun c_7 => ?_)
              · skip
                exact c_7.elim
              · skip
                refine lv_aload hx hb dL_leases_444 (lv_at hl 6 rfl) ?_
                refine lv_iconst (v := nI 0) hx hb dL_leases_446 (by decide) ?_
                refine k_iald hx hb hK hP.1 0 rfl 0 rfl (by omega) (by decide) dL_leases_447 ?_
                refine k_top (y := S 0 0) ((up_sn (by decide)).trans (congrFun (up_n (by decide)) _)) ?_
                refine k_top (y := nI w0) hw ?_
                refine lv_aload_n hx hb dL_leases_448 rfl (lv_at hl 5 rfl) ?_
                refine lv_bipush (v := nI 6) hx hb dL_leases_449 (by decide) ?_
                refine lv_iload hx hb dL_leases_451 (lv_at hl 1 rfl) ?_
                refine lv_imul hx hb dL_leases_453 ?_
                refine k_top (y := nI (6 * (lowN z nl))) (pk_mul _ _) ?_
                refine lv_iconst (v := nI 3) hx hb dL_leases_454 (by decide) ?_
                refine lv_iadd hx hb dL_leases_455 ?_
                refine k_top (y := nI (6 * (lowN z nl) + 3)) (nI_add _ _) ?_
                refine k_iald hx hb hK hP.1 8 rfl (6 * (lowN z nl) + 3) rfl (by omega) (by decide) dL_leases_456 ?_
                refine k_top (y := (up S 8 (6 * (lowN z nl) + 4) (nI w0)) 8 (6 * (lowN z nl) + 3)) (congrFun (up_n (by decide)) _) ?_
                refine k_top (y := nI (ix S 8 (6 * (lowN z nl) + 3))) ((up_sn (by omega)).trans (hO (lowN z nl) hk9).2.1.1) ?_
                refine lv_isub hx hb dL_leases_457 ?_
                refine k_top (y := nI (w0 - (ix S 8 (6 * (lowN z nl) + 3)))) (pk_sub (by omega)) ?_
                refine lv_goto (tgt := 463) hx hb dL_leases_458 (by decide) ?_
                refine k_icmp_ne (P := True) (tgt := 470) hx hb dL_leases_463 (by decide) ⟨fun _ => trivial, fun _ => rfl⟩ (fun c_8 => ?_) (fun c_8 => ?_)
                · skip
                  exact (c_8 trivial).elim
                · skip
                  refine lv_iconst (v := nI 1) hx hb dL_leases_466 (by decide) ?_
                  refine lv_goto (tgt := 471) hx hb dL_leases_467 (by decide) ?_
                  refine W.widen (k := 2) (n := 12) (by first | exact Nat.le_of_ble_eq_true rfl | omega) (by first | exact Nat.le_of_ble_eq_true rfl | omega) ?_
                  have eM : wL q a ((up (up S 8 (6 * (lowN z nl) + 4) (nI w0)) 0 4 ((S 0 4) ||| ((nI 1) <<< ((nI (lowN z nl)) &&& 31))))) ((wC q cb cN cap nl)) = wL q a ((yQM S w0 (lowN z nl))) ((wC q cb cN cap nl)) := by rfl
                  rw [eM] at hP
                  exact k_zretW hx hb hr hlocks rfl hP hS (by rfl) dL_leases_471
    · skip
      exact absurd c_2 h0
  · skip
    exact c_1.elim
set_option maxHeartbeats 4000000 in
set_option maxRecDepth 100000 in
theorem c_L_leases_r (l : Launch) (hl0 : l.stackTraces = false) (D : va_G) (q : Nat → ClassId) (A : Nat → Prop) (a : Nat → Nat) (S : Nat → Nat → Int32) (cb : Nat → Nat) (cM : Nat → Nat → Int32) (cap nl : Nat) (z : Int32) (w0 : Nat) (cN : Nat → Nat → Int32) (h0 : ¬ nl = 0) (hcan : ¬ (S 0 4 >>> (nI (lowN z nl) &&& 31) &&& nI 1 = 0 ∧ ¬ ix S 8 (6 * (lowN z nl) + 4) ≤ w0)) (hst : True) (hw : S 0 0 = nI w0) (hw20 : w0 ≤ 20) (hO : yO S nl) (hnl10 : nl ≤ 10) (hnlq : S 0 2 = nI nl) (hnow : cM 0 0 = nI w0) (hnl : nl ≤ cap ∧ cap ≤ 40 ∧ nl ≤ 30) (hE : caE [eI, eS] (coQuit cM w0 nl (nI (lowN z nl)))) (hco : caV (coQuit cM w0 nl (nI (lowN z nl))) = (-2000000003)) (hcN : outS cM (coQuit cM w0 nl (nI (lowN z nl))) = cN) : Met l yL_leases wsL_leases ({ frames := 9, cells := 2, slots := 12, locals := 270 } : Room) (va_Pc [.ref (cb 0), .int (nI 1), .int (z), .ref (a 8), .ref (a 0)] (kBL D q A (fun H => kW D A (wL q a S ((wC q cb cM cap nl))) H))) (kRi D A (nI 1) (wL q a ((yQN S (lowN z nl))) ((wC q cb cN cap nl)))) 2 12 A := by
  refine Met.ofW (cc := cL_leases) (maxL := 12) (ret := (some .boolean)) (by decide) rfl ?_
  intro p e u m args below meth c s₁ B hml0 hv
  obtain ⟨rfl, ⟨hP, hK, hX⟩, hA⟩ := hv
  have C0 : kAt p u m #[.ref (cb 0), .int (nI 1), .int (z), .ref (a 8), .ref (a 0)] meth c cL_leases 12 (some .boolean) RL wsL_leases := kAt_of B hml0
  obtain ⟨hx, hb, hr, hml, hown, hts, hlocks⟩ := id C0
  have hS : va_S A u.heap u.heap [] := va_S.rf
  have hl := lv_entry ([.ref (cb 0), .int (nI 1), .int (z), .ref (a 8), .ref (a 0)]) (n := 12) (Nat.le_of_ble_eq_true rfl)
  rw [lg_entry_eq]
  generalize (lg_sl ([.ref (cb 0), .int (nI 1), .int (z), .ref (a 8), .ref (a 0)]) ++ List.replicate (12 - (lg_sl ([.ref (cb 0), .int (nI 1), .int (z), .ref (a 8), .ref (a 0)])).length) Slot.unset).toArray = ls at hl ⊢
  have hl : lv_has ls 12 [(0, .ref (cb 0)), (1, .int (nI 1)), (2, .int (z)), (3, .ref (a 8)), (4, .ref (a 0))] := hl
  refine lv_iload_n hx hb dL_leases_0 rfl (lv_at hl 1 rfl) ?_
  refine k_if_ne (P := False) (tgt := 324) hx hb dL_leases_1 (by decide) ⟨fun z => absurd z (by decide), False.elim⟩ (fun c_1 => ?_) (fun c_1 => ?_)
  · skip
    refine lv_aload hx hb dL_leases_324 (lv_at hl 4 rfl) ?_
    refine lv_iconst (v := nI 2) hx hb dL_leases_326 (by decide) ?_
    refine k_iald hx hb hK hP.1 0 rfl 2 rfl (by omega) (by decide) dL_leases_327 ?_
    refine k_top (y := nI nl) hnlq ?_
    refine k_if_ne (P := nl = 0) (tgt := 333) hx hb dL_leases_328 (by decide) (k_n0 (by omega)) (fun c_2 => ?_) (fun c_2 => ?_)
    · skip
      refine lv_iload_n hx hb dL_leases_333 rfl (lv_at hl 2 rfl) ?_
      refine lv_aload hx hb dL_leases_334 (lv_at hl 4 rfl) ?_
      refine lv_iconst (v := nI 2) hx hb dL_leases_336 (by decide) ?_
      refine k_iald hx hb hK hP.1 0 rfl 2 rfl (by omega) (by decide) dL_leases_337 ?_
      refine k_top (y := nI nl) hnlq ?_
      refine k_callS (rest := []) (r := nI (lowN z nl)) ⟨hx, hb, hml, hown, hts⟩ (c_L_low l D q z nl (by omega) (by omega)) (va_cwS 2 hts gL_leases_L_low rfl rfl rfl (by decide +kernel) ⟨Nat.le_of_ble_eq_true rfl, Nat.le_of_ble_eq_true rfl⟩) hK trivial rfl hl.1 rfl (Nat.le_of_ble_eq_true rfl) dL_leases_338 ⟨by show 0 ≤ 2; omega, by show 0 ≤ 12; omega⟩ (fun _ h => h) ?_
      have hlo : lowN z nl < nl := lowN_lt (by first | decide | omega | exact zif_p (by decide) (by decide))
      refine lv_istore (lv' := [(5, .int (nI (lowN z nl))), (0, .ref (cb 0)), (1, .int (nI 1)), (2, .int (z)), (3, .ref (a 8)), (4, .ref (a 0))]) hx hb dL_leases_341 hl (by decide) rfl (fun ls hl => ?_)
      have hk9 : lowN z nl < nl := lowN_lt (by omega)
      obtain ⟨⟨-, ho1⟩, ⟨-, ho2⟩, ⟨-, ho3⟩⟩ := hO (lowN z nl) hk9
      refine lv_aload hx hb dL_leases_343 (lv_at hl 5 rfl) ?_
      refine lv_iconst (v := nI 4) hx hb dL_leases_345 (by decide) ?_
      refine k_iald hx hb hK hP.1 0 rfl 4 rfl (by omega) (by decide) dL_leases_346 ?_
      refine lv_iload hx hb dL_leases_347 (lv_at hl 0 rfl) ?_
      refine lv_ishr hx hb dL_leases_349 ?_
      refine lv_iconst (v := nI 1) hx hb dL_leases_350 (by decide) ?_
      refine lv_iand hx hb dL_leases_351 ?_
      refine k_if_ne (P := ((S 0 4) >>> ((nI (lowN z nl)) &&& 31)) &&& (nI 1) = 0) (tgt := 375) hx hb dL_leases_352 (by decide) Iff.rfl (fun c_3 => ?_) (fun c_3 => ?_)
      · skip
        refine lv_iconst (v := nI 0) hx hb dL_leases_375 (by decide) ?_
        refine lv_istore (lv' := [(6, .int (nI 0)), (5, .int (nI (lowN z nl))), (0, .ref (cb 0)), (1, .int (nI 1)), (2, .int (z)), (3, .ref (a 8)), (4, .ref (a 0))]) hx hb dL_leases_376 hl (by decide) rfl (fun ls hl => ?_)
        refine lv_aload_n hx hb dL_leases_378 rfl (lv_at hl 5 rfl) ?_
        refine lv_bipush (v := nI 6) hx hb dL_leases_379 (by decide) ?_
        refine lv_iload hx hb dL_leases_381 (lv_at hl 1 rfl) ?_
        refine lv_imul hx hb dL_leases_383 ?_
        refine k_top (y := nI (6 * (lowN z nl))) (pk_mul _ _) ?_
        refine lv_iconst (v := nI 4) hx hb dL_leases_384 (by decide) ?_
        refine lv_iadd hx hb dL_leases_385 ?_
        refine k_top (y := nI (6 * (lowN z nl) + 4)) (nI_add _ _) ?_
        refine lv_iload hx hb dL_leases_386 (lv_at hl 0 rfl) ?_
        refine k_if_eq (P := True) (tgt := 398) hx hb dL_leases_388 (by decide) ⟨fun _ => trivial, fun _ => rfl⟩ (fun c_4 => ?_) (fun c_4 => ?_)
        · skip
          refine lv_aload_n hx hb dL_leases_398 rfl (lv_at hl 5 rfl) ?_
          refine lv_bipush (v := nI 6) hx hb dL_leases_399 (by decide) ?_
          refine lv_iload hx hb dL_leases_401 (lv_at hl 1 rfl) ?_
          refine lv_imul hx hb dL_leases_403 ?_
          refine k_top (y := nI (6 * (lowN z nl))) (pk_mul _ _) ?_
          refine lv_iconst (v := nI 4) hx hb dL_leases_404 (by decide) ?_
          refine lv_iadd hx hb dL_leases_405 ?_
          refine k_top (y := nI (6 * (lowN z nl) + 4)) (nI_add _ _) ?_
          refine k_iald hx hb hK hP.1 8 rfl (6 * (lowN z nl) + 4) rfl (by omega) (by decide) dL_leases_406 ?_
          refine k_iast (wL q a ((up S 8 (6 * (lowN z nl) + 4) (S 8 (6 * (lowN z nl) + 4)))) ((wC q cb cM cap nl))) hx hb hK hP hS 8 rfl (6 * (lowN z nl) + 4) rfl (by omega) (by decide) wL_s8 dL_leases_407 (fun H locs hP hS => ?_)
          refine lv_aload hx hb dL_leases_408 (lv_at hl 6 rfl) ?_
          refine lv_iconst (v := nI 4) hx hb dL_leases_410 (by decide) ?_
          refine lv_dup2_11 hx hb dL_leases_411 rfl rfl ?_
          refine k_iald hx hb hK hP.1 0 rfl 4 rfl (by omega) (by decide) dL_leases_412 ?_
          refine k_top (y := S 0 4) (congrFun (up_n (by decide)) _) ?_
          refine lv_iload hx hb dL_leases_413 (lv_at hl 0 rfl) ?_
          refine k_if_eq (P := True) (tgt := 425) hx hb dL_leases_415 (by decide) ⟨fun _ => trivial, fun _ => rfl⟩ (fun c_5 => ?_) (fun c_5 => ?_)
          · skip
            refine lv_iconst (v := nI 0) hx hb dL_leases_425 (by decide) ?_
            refine lv_ior hx hb dL_leases_426 ?_
            refine k_iast (wL q a ((up (up S 8 (6 * (lowN z nl) + 4) (S 8 (6 * (lowN z nl) + 4))) 0 4 ((S 0 4) ||| (nI 0)))) ((wC q cb cM cap nl))) hx hb hK hP hS 0 rfl 4 rfl (by omega) (by decide) wL_s0 dL_leases_427 (fun H locs hP hS => ?_)
            refine lv_aload_n hx hb dL_leases_428 rfl (lv_at hl 2 rfl) ?_
            refine lv_iconst (v := nI 2) hx hb dL_leases_429 (by decide) ?_
            refine lv_iload hx hb dL_leases_430 (lv_at hl 1 rfl) ?_
            refine lv_iconst (v := nI 0) hx hb dL_leases_432 (by decide) ?_
            refine lv_iconst (v := nI 0) hx hb dL_leases_433 (by decide) ?_
            refine lv_iconst (v := nI 0) hx hb dL_leases_434 (by decide) ?_
            refine lv_iconst (v := nI 0) hx hb dL_leases_435 (by decide) ?_
            refine k_goW hP (fun z9 h9 => hA z9 h9) hS (vx_runSW (rest := []) ⟨hx, hb, hml, hown, hts⟩ (c_L_calls_quit l hl0 D q (va_A (wC q cb cM cap nl) H.size) cb cM cap nl (nI (lowN z nl)) w0 hnl hnow (by omega) (nI 0) (nI 0) (nI 0) (nI 0) hE) (vx_cwSW 7 hts gL_leases_L_calls rfl rfl rfl (by decide +kernel) ⟨Nat.le_of_ble_eq_true rfl, Nat.le_of_ble_eq_true rfl⟩) ⟨kBL_blind, fun U hU hW => ⟨rfl, ⟨by rw [hU]; exact kW_cut hP, hK.warm hW, (hX.at hS hU hW).narrow (kW_sub hP (fun z9 h9 => hA z9 (Nat.le_trans hS.1 h9)))⟩, fun z9 h9 => Or.inr (by rw [← hU]; exact h9)⟩⟩ rfl rfl hl.1 rfl (lv_room (Nat.le_of_ble_eq_true rfl)) dL_leases_436 ⟨by show 0 + 2 ≤ 2; omega, by show 0 + 12 ≤ 12; omega⟩) (fun H locs hP hS => ?_)
            have hP : kW D A (wL q a ((up (up S 8 (6 * (lowN z nl) + 4) (S 8 (6 * (lowN z nl) + 4))) 0 4 ((S 0 4) ||| (nI 0)))) ((wC q cb cN cap nl))) H := by rw [← hcN]; exact hP
            refine k_top (y := (-2000000003)) hco ?_
            refine lv_iload hx hb dL_leases_439 (lv_at hl 0 rfl) ?_
            refine k_if_eq (P := True) (tgt := 461) hx hb dL_leases_441 (by decide) ⟨fun _ => trivial, fun _ => rfl⟩ (fun c_6 => ?_) (fun c_6 => ?_)
            · skip
              refine lv_ldc (v := (-2000000003)) hx hb hown (hts _ cs_L_leases_36) dL_leases_461 ?_
              refine k_icmp_ne (P := True) (tgt := 470) hx hb dL_leases_463 (by decide) ⟨fun _ => trivial, fun _ => rfl⟩ (fun c_7 => ?_) (fun c_7 => ?_)
              · skip
                exact (c_7 trivial).elim
              · skip
                refine lv_iconst (v := nI 1) hx hb dL_leases_466 (by decide) ?_
                refine lv_goto (tgt := 471) hx hb dL_leases_467 (by decide) ?_
                refine W.widen (k := 2) (n := 12) (by first | exact Nat.le_of_ble_eq_true rfl | omega) (by first | exact Nat.le_of_ble_eq_true rfl | omega) ?_
                have eM : wL q a ((up (up S 8 (6 * (lowN z nl) + 4) (S 8 (6 * (lowN z nl) + 4))) 0 4 ((S 0 4) ||| (nI 0)))) ((wC q cb cN cap nl)) = wL q a ((yQN S (lowN z nl))) ((wC q cb cN cap nl)) := by rfl
                rw [eM] at hP
                exact k_zretW hx hb hr hlocks rfl hP hS (by rfl) dL_leases_471
            · skip
              exact (c_6 trivial).elim
          · skip
            exact (c_5 trivial).elim
        · skip
          exact (c_4 trivial).elim
      · skip
        refine lv_aload_n hx hb dL_leases_355 rfl (lv_at hl 4 rfl) ?_
        refine lv_bipush (v := nI 6) hx hb dL_leases_356 (by decide) ?_
        refine lv_iload hx hb dL_leases_358 (lv_at hl 0 rfl) ?_
        refine lv_imul hx hb dL_leases_360 ?_
        refine k_top (y := nI (6 * (lowN z nl))) (pk_mul _ _) ?_
        refine lv_iconst (v := nI 4) hx hb dL_leases_361 (by decide) ?_
        refine lv_iadd hx hb dL_leases_362 ?_
        refine k_top (y := nI (6 * (lowN z nl) + 4)) (nI_add _ _) ?_
        refine k_iald hx hb hK hP.1 8 rfl (6 * (lowN z nl) + 4) rfl (by omega) (by decide) dL_leases_363 ?_
        refine k_top (y := nI (ix S 8 (6 * (lowN z nl) + 4))) (hO (lowN z nl) hk9).2.2.1 ?_
        refine lv_aload hx hb dL_leases_364 (lv_at hl 5 rfl) ?_
        refine lv_iconst (v := nI 0) hx hb dL_leases_366 (by decide) ?_
        refine k_iald hx hb hK hP.1 0 rfl 0 rfl (by omega) (by decide) dL_leases_367 ?_
        refine k_top (y := nI w0) hw ?_
        refine k_icmp_le (P := ix S 8 (6 * (lowN z nl) + 4) ≤ w0) (tgt := 375) hx hb dL_leases_368 (by decide) (nI_leI (by omega) (by omega)) (fun c_8 => ?_) (fun c_8 => ?_)
        · skip
          refine lv_iconst (v := nI 0) hx hb dL_leases_375 (by decide) ?_
          refine lv_istore (lv' := [(6, .int (nI 0)), (5, .int (nI (lowN z nl))), (0, .ref (cb 0)), (1, .int (nI 1)), (2, .int (z)), (3, .ref (a 8)), (4, .ref (a 0))]) hx hb dL_leases_376 hl (by decide) rfl (fun ls hl => ?_)
          refine lv_aload_n hx hb dL_leases_378 rfl (lv_at hl 5 rfl) ?_
          refine lv_bipush (v := nI 6) hx hb dL_leases_379 (by decide) ?_
          refine lv_iload hx hb dL_leases_381 (lv_at hl 1 rfl) ?_
          refine lv_imul hx hb dL_leases_383 ?_
          refine k_top (y := nI (6 * (lowN z nl))) (pk_mul _ _) ?_
          refine lv_iconst (v := nI 4) hx hb dL_leases_384 (by decide) ?_
          refine lv_iadd hx hb dL_leases_385 ?_
          refine k_top (y := nI (6 * (lowN z nl) + 4)) (nI_add _ _) ?_
          refine lv_iload hx hb dL_leases_386 (lv_at hl 0 rfl) ?_
          refine k_if_eq (P := True) (tgt := 398) hx hb dL_leases_388 (by decide) ⟨fun _ => trivial, fun _ => rfl⟩ (fun c_9 => ?_) (fun c_9 => ?_)
          · skip
            refine lv_aload_n hx hb dL_leases_398 rfl (lv_at hl 5 rfl) ?_
            refine lv_bipush (v := nI 6) hx hb dL_leases_399 (by decide) ?_
            refine lv_iload hx hb dL_leases_401 (lv_at hl 1 rfl) ?_
            refine lv_imul hx hb dL_leases_403 ?_
            refine k_top (y := nI (6 * (lowN z nl))) (pk_mul _ _) ?_
            refine lv_iconst (v := nI 4) hx hb dL_leases_404 (by decide) ?_
            refine lv_iadd hx hb dL_leases_405 ?_
            refine k_top (y := nI (6 * (lowN z nl) + 4)) (nI_add _ _) ?_
            refine k_iald hx hb hK hP.1 8 rfl (6 * (lowN z nl) + 4) rfl (by omega) (by decide) dL_leases_406 ?_
            refine k_iast (wL q a ((up S 8 (6 * (lowN z nl) + 4) (S 8 (6 * (lowN z nl) + 4)))) ((wC q cb cM cap nl))) hx hb hK hP hS 8 rfl (6 * (lowN z nl) + 4) rfl (by omega) (by decide) wL_s8 dL_leases_407 (fun H locs hP hS => ?_)
            refine lv_aload hx hb dL_leases_408 (lv_at hl 6 rfl) ?_
            refine lv_iconst (v := nI 4) hx hb dL_leases_410 (by decide) ?_
            refine lv_dup2_11 hx hb dL_leases_411 rfl rfl ?_
            refine k_iald hx hb hK hP.1 0 rfl 4 rfl (by omega) (by decide) dL_leases_412 ?_
            refine k_top (y := S 0 4) (congrFun (up_n (by decide)) _) ?_
            refine lv_iload hx hb dL_leases_413 (lv_at hl 0 rfl) ?_
            refine k_if_eq (P := True) (tgt := 425) hx hb dL_leases_415 (by decide) ⟨fun _ => trivial, fun _ => rfl⟩ (fun c_10 => ?_) (fun c_10 => ?_)
            · skip
              refine lv_iconst (v := nI 0) hx hb dL_leases_425 (by decide) ?_
              refine lv_ior hx hb dL_leases_426 ?_
              refine k_iast (wL q a ((up (up S 8 (6 * (lowN z nl) + 4) (S 8 (6 * (lowN z nl) + 4))) 0 4 ((S 0 4) ||| (nI 0)))) ((wC q cb cM cap nl))) hx hb hK hP hS 0 rfl 4 rfl (by omega) (by decide) wL_s0 dL_leases_427 (fun H locs hP hS => ?_)
              refine lv_aload_n hx hb dL_leases_428 rfl (lv_at hl 2 rfl) ?_
              refine lv_iconst (v := nI 2) hx hb dL_leases_429 (by decide) ?_
              refine lv_iload hx hb dL_leases_430 (lv_at hl 1 rfl) ?_
              refine lv_iconst (v := nI 0) hx hb dL_leases_432 (by decide) ?_
              refine lv_iconst (v := nI 0) hx hb dL_leases_433 (by decide) ?_
              refine lv_iconst (v := nI 0) hx hb dL_leases_434 (by decide) ?_
              refine lv_iconst (v := nI 0) hx hb dL_leases_435 (by decide) ?_
              refine k_goW hP (fun z9 h9 => hA z9 h9) hS (vx_runSW (rest := []) ⟨hx, hb, hml, hown, hts⟩ (c_L_calls_quit l hl0 D q (va_A (wC q cb cM cap nl) H.size) cb cM cap nl (nI (lowN z nl)) w0 hnl hnow (by omega) (nI 0) (nI 0) (nI 0) (nI 0) hE) (vx_cwSW 7 hts gL_leases_L_calls rfl rfl rfl (by decide +kernel) ⟨Nat.le_of_ble_eq_true rfl, Nat.le_of_ble_eq_true rfl⟩) ⟨kBL_blind, fun U hU hW => ⟨rfl, ⟨by rw [hU]; exact kW_cut hP, hK.warm hW, (hX.at hS hU hW).narrow (kW_sub hP (fun z9 h9 => hA z9 (Nat.le_trans hS.1 h9)))⟩, fun z9 h9 => Or.inr (by rw [← hU]; exact h9)⟩⟩ rfl rfl hl.1 rfl (lv_room (Nat.le_of_ble_eq_true rfl)) dL_leases_436 ⟨by show 0 + 2 ≤ 2; omega, by show 0 + 12 ≤ 12; omega⟩) (fun H locs hP hS => ?_)
              have hP : kW D A (wL q a ((up (up S 8 (6 * (lowN z nl) + 4) (S 8 (6 * (lowN z nl) + 4))) 0 4 ((S 0 4) ||| (nI 0)))) ((wC q cb cN cap nl))) H := by rw [← hcN]; exact hP
              refine k_top (y := (-2000000003)) hco ?_
              refine lv_iload hx hb dL_leases_439 (lv_at hl 0 rfl) ?_
              refine k_if_eq (P := True) (tgt := 461) hx hb dL_leases_441 (by decide) ⟨fun _ => trivial, fun _ => rfl⟩ (fun c_11 => ?_) (fun c_11 => ?_)
              · skip
                refine lv_ldc (v := (-2000000003)) hx hb hown (hts _ cs_L_leases_36) dL_leases_461 ?_
                refine k_icmp_ne (P := True) (tgt := 470) hx hb dL_leases_463 (by decide) ⟨fun _ => trivial, fun _ => rfl⟩ (fun c_12 => ?_) (fun c_12 => ?_)
                · skip
                  exact (c_12 trivial).elim
                · skip
                  refine lv_iconst (v := nI 1) hx hb dL_leases_466 (by decide) ?_
                  refine lv_goto (tgt := 471) hx hb dL_leases_467 (by decide) ?_
                  refine W.widen (k := 2) (n := 12) (by first | exact Nat.le_of_ble_eq_true rfl | omega) (by first | exact Nat.le_of_ble_eq_true rfl | omega) ?_
                  have eM : wL q a ((up (up S 8 (6 * (lowN z nl) + 4) (S 8 (6 * (lowN z nl) + 4))) 0 4 ((S 0 4) ||| (nI 0)))) ((wC q cb cN cap nl)) = wL q a ((yQN S (lowN z nl))) ((wC q cb cN cap nl)) := by rfl
                  rw [eM] at hP
                  exact k_zretW hx hb hr hlocks rfl hP hS (by rfl) dL_leases_471
              · skip
                exact (c_11 trivial).elim
            · skip
              exact (c_10 trivial).elim
          · skip
            exact (c_9 trivial).elim
        · skip
          exact absurd ⟨c_3, c_8⟩ hcan
    · skip
      exact absurd c_2 h0
  · skip
    exact c_1.elim
