set_option maxHeartbeats 4000000 in
set_option maxRecDepth 100000 in
theorem lp_L_hour_250 {p : Program} {l : Launch} {e : Env} {u : State} {m : MethodId} {below : List Frame} {meth : Method} {c : Code} {D : va_G} {q : Nat → ClassId} {A : Nat → Prop} (a : Nat → Nat) (S : Nat → Nat → Int32) (w : va_W) (h : Nat) (hw : S 0 0 = nI h) (hh : h < 20) (hrow : ∀ x : Nat, (yHf S h x).2.2.2 0 0 = nI h) (hk : ∀ x, x < 12 → yHk h x (yHf S h x)) (C0 : kAt p u m #[.ref (a 1), .ref (a 2), .ref (a 3), .ref (a 4), .ref (a 5), .ref (a 6), .ref (a 9), .ref (a 0)] meth c cL_hour 17 (some .int) RL wsL_hour) (hK : kK D q u) :
    ∀ (f : Nat) (b : Nat) (T : Nat → Nat → Int32) (x8 : Int32) (x10 : Int32) (x11 : Int32) (x12 : Int32), 6 - b < f → b ≤ 6 → T = (yAs (yHf S h 12).2.2.2 b) → x8 = nI h → x10 = (yHf S h 12).2.1 → x11 = (yHf S h 12).2.2.1 → x12 = nI b → ∀ (H : Heap) (locs : List Loc), kW D A (wL q a T w) H → va_S A u.heap H locs → ∀ (ls : Array Slot), lv_has ls 17 [(0, .ref (a 1)), (1, .ref (a 2)), (2, .ref (a 3)), (3, .ref (a 4)), (4, .ref (a 5)), (5, .ref (a 6)), (6, .ref (a 9)), (7, .ref (a 0)), (8, .int x8), (10, .int x10), (11, .int x11), (12, .int x12)] → W p l e ({ frames := 1, cells := 0, slots := 0, locals := 30 } : Room) u m #[.ref (a 1), .ref (a 2), .ref (a 3), .ref (a 4), .ref (a 5), .ref (a 6), .ref (a 9), .ref (a 0)] below meth c H locs 0 0 (MQ below (kRi D A ((yHf S h 12).2.2.1) (wL q a ((yHM2 S h)) w)) #[.ref (a 1), .ref (a 2), .ref (a 3), .ref (a 4), .ref (a 5), .ref (a 6), .ref (a 9), .ref (a 0)] u 0 0 A) (F0 m 250 ls []) := by
  obtain ⟨hx, hb, hr, hml, hown, hts, hlocks⟩ := id C0
  intro f
  induction f with
  | zero =>
    intro b T x8 x10 x11 x12 hf
    exact absurd hf (Nat.not_lt_zero _)
  | succ f ih =>
    intro b T x8 x10 x11 x12 hf hbb eT e8 e10 e11 e12 H locs hP hS ls hl
    replace eT := eT.symm
    subst eT
    replace e8 := e8.symm
    subst e8
    replace e10 := e10.symm
    subst e10
    replace e11 := e11.symm
    subst e11
    replace e12 := e12.symm
    subst e12
    refine lv_iload hx hb dL_hour_250 (lv_at hl 11 rfl) ?_
    refine lv_bipush (v := nI 6) hx hb dL_hour_252 (by decide) ?_
    refine k_icmp_ge (P := b < 6) (tgt := 272) hx hb dL_hour_254 (by decide) (nI_ltI (by omega) (by omega)) (fun c_1 => ?_) (fun c_1 => ?_)
    · skip
      obtain rfl : b = 6 := by omega
      refine lv_aload hx hb dL_hour_272 (lv_at hl 5 rfl) ?_
      refine lv_iload hx hb dL_hour_274 (lv_at hl 8 rfl) ?_
      refine lv_iload hx hb dL_hour_276 (lv_at hl 9 rfl) ?_
      refine k_iast (wL q a ((up ((yAs (yHf S h 12).2.2.2 6)) 6 h ((yHf S h 12).2.1))) w) hx hb hK hP hS 6 rfl h rfl (by omega) (by decide) wL_s6 dL_hour_278 (fun H locs hP hS => ?_)
      refine lv_aload hx hb dL_hour_279 (lv_at hl 7 rfl) ?_
      refine lv_iconst (v := nI 0) hx hb dL_hour_281 (by decide) ?_
      refine lv_dup2_11 hx hb dL_hour_282 rfl rfl ?_
      refine k_iald hx hb hK hP.1 0 rfl 0 rfl (by omega) (by decide) dL_hour_283 ?_
      refine k_top (y := ((yAs (yHf S h 12).2.2.2 6)) 0 0) (congrFun (up_n (by decide)) _) ?_
      refine k_top (y := nI h) ((congrFun (yAs_n (by decide) 6) 0).trans (hrow 12)) ?_
      refine lv_iconst (v := nI 1) hx hb dL_hour_284 (by decide) ?_
      refine lv_iadd hx hb dL_hour_285 ?_
      refine k_top (y := nI (h + 1)) (nI_add _ _) ?_
      refine k_iast (wL q a ((up (up ((yAs (yHf S h 12).2.2.2 6)) 6 h ((yHf S h 12).2.1)) 0 0 (nI (h + 1)))) w) hx hb hK hP hS 0 rfl 0 rfl (by omega) (by decide) wL_s0 dL_hour_286 (fun H locs hP hS => ?_)
      refine lv_iload hx hb dL_hour_287 (lv_at hl 10 rfl) ?_
      have eM : (up (up ((yAs (yHf S h 12).2.2.2 6)) 6 h ((yHf S h 12).2.1)) 0 0 (nI (h + 1))) = (yHM2 S h) := by rfl
      rw [eM] at hP
      exact k_iretW hx hb hr hlocks hP hS (by rfl) dL_hour_289
    · skip
      refine lv_aload hx hb dL_hour_257 (lv_at hl 6 rfl) ?_
      refine lv_bipush (v := nI 18) hx hb dL_hour_259 (by decide) ?_
      refine lv_iload hx hb dL_hour_261 (lv_at hl 11 rfl) ?_
      refine lv_iadd hx hb dL_hour_263 ?_
      refine k_top (y := nI (18 + b)) (nI_add _ _) ?_
      refine lv_iconst (v := nI 0) hx hb dL_hour_264 (by decide) ?_
      refine k_iast (wL q a ((up ((yAs (yHf S h 12).2.2.2 b)) 9 (18 + b) (nI 0))) w) hx hb hK hP hS 9 rfl (18 + b) rfl (by omega) (by decide) wL_s9 dL_hour_265 (fun H locs hP hS => ?_)
      refine lv_iinc (v := nI (b + 1)) (lv' := [(12, .int (nI (b + 1))), (0, .ref (a 1)), (1, .ref (a 2)), (2, .ref (a 3)), (3, .ref (a 4)), (4, .ref (a 5)), (5, .ref (a 6)), (6, .ref (a 9)), (7, .ref (a 0)), (8, .int (nI h)), (10, .int ((yHf S h 12).2.1)), (11, .int ((yHf S h 12).2.2.1))]) hx hb dL_hour_266 hl (k := 11) rfl (k_iinc _) (by decide) rfl (fun ls hl => ?_)
      refine lv_goto (tgt := 250) hx hb dL_hour_269 (by decide) ?_
      exact ih (b + 1) ((up ((yAs (yHf S h 12).2.2.2 b)) 9 (18 + b) (nI 0))) (nI h) ((yHf S h 12).2.1) ((yHf S h 12).2.2.1) (nI (b + 1)) (by omega) (by first | omega | assumption) (by rfl) rfl rfl rfl rfl _ _ hP hS ls (lv_sub hl [1, 2, 3, 4, 5, 6, 7, 8, 9, 10, 11, 0] rfl)

set_option maxHeartbeats 4000000 in
set_option maxRecDepth 100000 in
theorem lp_L_hour_18 {p : Program} {l : Launch} {e : Env} {u : State} {m : MethodId} {below : List Frame} {meth : Method} {c : Code} {D : va_G} {q : Nat → ClassId} {A : Nat → Prop} (a : Nat → Nat) (S : Nat → Nat → Int32) (w : va_W) (h : Nat) (hw : S 0 0 = nI h) (hh : h < 20) (hrow : ∀ x : Nat, (yHf S h x).2.2.2 0 0 = nI h) (hk : ∀ x, x < 12 → yHk h x (yHf S h x)) (C0 : kAt p u m #[.ref (a 1), .ref (a 2), .ref (a 3), .ref (a 4), .ref (a 5), .ref (a 6), .ref (a 9), .ref (a 0)] meth c cL_hour 17 (some .int) RL wsL_hour) (hK : kK D q u) :
    ∀ (f : Nat) (x : Nat) (T : Nat → Nat → Int32) (x8 : Int32) (x9 : Int32) (x10 : Int32) (x11 : Int32) (x12 : Int32), 12 - x < f → x ≤ 12 → T = (yHf S h x).2.2.2 → x8 = nI h → x9 = (yHf S h x).1 → x10 = (yHf S h x).2.1 → x11 = (yHf S h x).2.2.1 → x12 = nI x → ∀ (H : Heap) (locs : List Loc), kW D A (wL q a T w) H → va_S A u.heap H locs → ∀ (ls : Array Slot), lv_has ls 17 [(0, .ref (a 1)), (1, .ref (a 2)), (2, .ref (a 3)), (3, .ref (a 4)), (4, .ref (a 5)), (5, .ref (a 6)), (6, .ref (a 9)), (7, .ref (a 0)), (8, .int x8), (9, .int x9), (10, .int x10), (11, .int x11), (12, .int x12)] → W p l e ({ frames := 1, cells := 0, slots := 0, locals := 30 } : Room) u m #[.ref (a 1), .ref (a 2), .ref (a 3), .ref (a 4), .ref (a 5), .ref (a 6), .ref (a 9), .ref (a 0)] below meth c H locs 0 0 (MQ below (kRi D A ((yHf S h 12).2.2.1) (wL q a ((yHM2 S h)) w)) #[.ref (a 1), .ref (a 2), .ref (a 3), .ref (a 4), .ref (a 5), .ref (a 6), .ref (a 9), .ref (a 0)] u 0 0 A) (F0 m 18 ls []) := by
  obtain ⟨hx, hb, hr, hml, hown, hts, hlocks⟩ := id C0
  intro f
  induction f with
  | zero =>
    intro x T x8 x9 x10 x11 x12 hf
    exact absurd hf (Nat.not_lt_zero _)
  | succ f ih =>
    intro x T x8 x9 x10 x11 x12 hf hx9 eT e8 e9 e10 e11 e12 H locs hP hS ls hl
    replace eT := eT.symm
    subst eT
    replace e8 := e8.symm
    subst e8
    replace e9 := e9.symm
    subst e9
    replace e10 := e10.symm
    subst e10
    replace e11 := e11.symm
    subst e11
    replace e12 := e12.symm
    subst e12
    refine lv_iload hx hb dL_hour_18 (lv_at hl 12 rfl) ?_
    refine lv_bipush (v := nI 12) hx hb dL_hour_20 (by decide) ?_
    refine k_icmp_ge (P := x < 12) (tgt := 247) hx hb dL_hour_22 (by decide) (nI_ltI (by omega) (by omega)) (fun c_2 => ?_) (fun c_2 => ?_)
    · skip
      obtain rfl : x = 12 := by omega
      refine lv_iconst (v := nI 0) hx hb dL_hour_247 (by decide) ?_
      refine lv_istore (lv' := [(12, .int (nI 0)), (0, .ref (a 1)), (1, .ref (a 2)), (2, .ref (a 3)), (3, .ref (a 4)), (4, .ref (a 5)), (5, .ref (a 6)), (6, .ref (a 9)), (7, .ref (a 0)), (8, .int (nI h)), (9, .int ((yHf S h 12).1)), (10, .int ((yHf S h 12).2.1)), (11, .int ((yHf S h 12).2.2.1))]) hx hb dL_hour_248 hl (by decide) rfl (fun ls hl => ?_)
      exact lp_L_hour_250 a S w h hw hh hrow hk C0 hK ((6 - 0) + 1) 0 ((yHf S h 12).2.2.2) (nI h) ((yHf S h 12).2.1) ((yHf S h 12).2.2.1) (nI 0) (by omega) (by first | omega | assumption) (by rfl) rfl rfl rfl rfl _ _ hP hS ls (lv_sub hl [1, 2, 3, 4, 5, 6, 7, 8, 9, 11, 12, 0] rfl)
    · skip
      have hx12 : x < 12 := by omega
      have hk9 := hk x hx12
      have hr9 := hrow x
      generalize et : yHf S h x = t9 at hP hl hk9 hr9
      obtain ⟨⟨kb5, kz5, kL, kz2, kz3, kz4⟩, k2⟩ := hk9
      refine lv_iload hx hb dL_hour_25 (lv_at hl 12 rfl) ?_
      refine lv_iload hx hb dL_hour_27 (lv_at hl 9 rfl) ?_
      refine lv_aload hx hb dL_hour_29 (lv_at hl 5 rfl) ?_
      refine lv_aload hx hb dL_hour_31 (lv_at hl 6 rfl) ?_
      refine lv_aload hx hb dL_hour_33 (lv_at hl 7 rfl) ?_
      refine k_goRi hS (va_runS (rest := []) ⟨hx, hb, hml, hown, hts⟩ (c_L_plays l D q A a t9.2.2.2 w x t9.1 (yLN t9.2.2.2) (by omega) kL) (va_cwS 5 hts gL_hour_L_plays rfl rfl rfl (by decide +kernel) ⟨Nat.le_of_ble_eq_true rfl, Nat.le_of_ble_eq_true rfl⟩) ⟨kB_blind, fun U hU hW => ⟨rfl, by rw [hU]; exact hP, hK.warm hW⟩⟩ rfl rfl hl.1 rfl (lv_room (Nat.le_of_ble_eq_true rfl)) dL_hour_35 ⟨Nat.zero_le _, Nat.zero_le _⟩) (fun H locs hP hS => ?_)
      refine lv_istore (lv' := [(13, .int (nI (yPv t9.2.2.2 x t9.1 (yLN t9.2.2.2)))), (0, .ref (a 1)), (1, .ref (a 2)), (2, .ref (a 3)), (3, .ref (a 4)), (4, .ref (a 5)), (5, .ref (a 6)), (6, .ref (a 9)), (7, .ref (a 0)), (8, .int (nI h)), (9, .int (t9.1)), (10, .int (t9.2.1)), (11, .int (t9.2.2.1)), (12, .int (nI x))]) hx hb dL_hour_38 hl (by decide) rfl (fun ls hl => ?_)
      refine lv_aload hx hb dL_hour_40 (lv_at hl 5 rfl) ?_
      refine lv_iload hx hb dL_hour_42 (lv_at hl 9 rfl) ?_
      refine lv_dup2_11 hx hb dL_hour_44 rfl rfl ?_
      refine k_lald hx hb hK hP.1 5 rfl h rfl (by omega) (by decide) dL_hour_45 ?_
      refine lv_iload hx hb dL_hour_46 (lv_at hl 0 rfl) ?_
      refine lv_i2l (v := (nI (yPv t9.2.2.2 x t9.1 (yLN t9.2.2.2))).toInt64) hx hb dL_hour_48 rfl ?_
      refine lv_iconst (v := nI 3) hx hb dL_hour_49 (by decide) ?_
      refine lv_iload hx hb dL_hour_50 (lv_at hl 13 rfl) ?_
      refine lv_imul hx hb dL_hour_52 ?_
      refine k_top (y := nI (3 * x)) (pk_mul _ _) ?_
      refine lv_lshl (v := (nI (yPv t9.2.2.2 x t9.1 (yLN t9.2.2.2))).toInt64 <<< ((nI (3 * x)).toInt64 &&& 63)) hx hb dL_hour_53 rfl ?_
      refine lv_lor hx hb dL_hour_54 ?_
      have e5 : ((yPm t9.2.2.2 x t9.1 (yLN t9.2.2.2))) 5 = t9.2.2.2 5 := yPm_n (by decide) (by decide)
      have ew := put3 (v := ((yPm t9.2.2.2 x t9.1 (yLN t9.2.2.2))) 5) (by rw [e5]; exact kb5) (h := h) (x := x) (z := yPv t9.2.2.2 x t9.1 (yLN t9.2.2.2)) (by omega) (Nat.le_trans yPv_le (by decide)) (by rw [e5]; exact kz5)
      refine k_last (wL q a (up ((yPm t9.2.2.2 x t9.1 (yLN t9.2.2.2))) 5 (h * 12 + x) (nI (yPv t9.2.2.2 x t9.1 (yLN t9.2.2.2)))) w) hx hb hK hP hS 5 rfl h rfl (by omega) (by decide) (by rw [ew]; exact wL_l5) dL_hour_55 (fun H locs hP hS => ?_)
      have hP : kW D A (wL q a (yHM h x t9) w) H := hP
      have eM2 : yHM h x t9 2 (h * 12 + x) = nI 0 := (congrFun ((up_n (by decide)).trans (yPm_n (by decide) (by decide))) _).trans kz2
      have eM3 : yHM h x t9 3 (h * 12 + x) = nI 0 := (congrFun ((up_n (by decide)).trans (yPm_n (by decide) (by decide))) _).trans kz3
      have eM4 : yHM h x t9 4 (h * 12 + x) = nI 0 := (congrFun ((up_n (by decide)).trans (yPm_n (by decide) (by decide))) _).trans kz4
      have hb6 : yHb x t9 ≤ 6 := yPv_le
      rw [show yPv t9.2.2.2 x t9.1 (yLN t9.2.2.2) = yHb x t9 from rfl] at hl
      have et2 : yHf S h (x + 1) = yH1 h x t9 (yHb x t9) (yHM h x t9) := by rw [yHf_s, et]; rfl
      generalize yHM h x t9 = M9 at hP eM2 eM3 eM4 k2 et2
      generalize yHb x t9 = b9 at hl hb6 k2 et2
      refine lv_iload hx hb dL_hour_56 (lv_at hl 10 rfl) ?_
      refine lv_iload hx hb dL_hour_58 (lv_at hl 0 rfl) ?_
      refine k_if_le (P := b9 = 0) (tgt := 72) hx hb dL_hour_60 (by decide) (k_nle0 (by omega)) (fun c_3 => ?_) (fun c_3 => ?_)
      · skip
        refine lv_iconst (v := nI 0) hx hb dL_hour_72 (by decide) ?_
        refine lv_ior hx hb dL_hour_73 ?_
        refine lv_istore (lv' := [(9, .int (t9.1 ||| (nI 0))), (13, .int (nI b9)), (0, .ref (a 1)), (1, .ref (a 2)), (2, .ref (a 3)), (3, .ref (a 4)), (4, .ref (a 5)), (5, .ref (a 6)), (6, .ref (a 9)), (7, .ref (a 0)), (8, .int (nI h)), (10, .int (t9.2.1)), (11, .int (t9.2.2.1)), (12, .int (nI x))]) hx hb dL_hour_74 hl (by decide) rfl (fun ls hl => ?_)
        refine lv_iload hx hb dL_hour_76 (lv_at hl 11 rfl) ?_
        refine lv_aload_n hx hb dL_hour_78 rfl (lv_at hl 2 rfl) ?_
        refine lv_iload hx hb dL_hour_79 (lv_at hl 13 rfl) ?_
        refine k_iald hx hb hK hP.1 1 rfl x rfl (by omega) (by decide) dL_hour_81 ?_
        refine lv_iadd hx hb dL_hour_82 ?_
        refine lv_istore (lv' := [(10, .int (t9.2.1 + (M9 1 x))), (9, .int (t9.1 ||| (nI 0))), (13, .int (nI b9)), (0, .ref (a 1)), (1, .ref (a 2)), (2, .ref (a 3)), (3, .ref (a 4)), (4, .ref (a 5)), (5, .ref (a 6)), (6, .ref (a 9)), (7, .ref (a 0)), (8, .int (nI h)), (11, .int (t9.2.2.1)), (12, .int (nI x))]) hx hb dL_hour_83 hl (by decide) rfl (fun ls hl => ?_)
        refine lv_iload hx hb dL_hour_85 (lv_at hl 2 rfl) ?_
        refine k_if_le (P := b9 = 0) (tgt := 106) hx hb dL_hour_87 (by decide) (k_nle0 (by omega)) (fun c_4 => ?_) (fun c_4 => ?_)
        · skip
          refine lv_iconst (v := nI 0) hx hb dL_hour_106 (by decide) ?_
          refine lv_istore (lv' := [(14, .int (nI 0)), (10, .int (t9.2.1 + (M9 1 x))), (9, .int (t9.1 ||| (nI 0))), (13, .int (nI b9)), (0, .ref (a 1)), (1, .ref (a 2)), (2, .ref (a 3)), (3, .ref (a 4)), (4, .ref (a 5)), (5, .ref (a 6)), (6, .ref (a 9)), (7, .ref (a 0)), (8, .int (nI h)), (11, .int (t9.2.2.1)), (12, .int (nI x))]) hx hb dL_hour_107 hl (by decide) rfl (fun ls hl => ?_)
          refine lv_iload hx hb dL_hour_109 (lv_at hl 1 rfl) ?_
          refine lv_iload hx hb dL_hour_111 (lv_at hl 0 rfl) ?_
          refine lv_iadd hx hb dL_hour_113 ?_
          refine lv_istore (lv' := [(15, .int ((t9.2.1 + (M9 1 x)) + (nI 0))), (14, .int (nI 0)), (10, .int (t9.2.1 + (M9 1 x))), (9, .int (t9.1 ||| (nI 0))), (13, .int (nI b9)), (0, .ref (a 1)), (1, .ref (a 2)), (2, .ref (a 3)), (3, .ref (a 4)), (4, .ref (a 5)), (5, .ref (a 6)), (6, .ref (a 9)), (7, .ref (a 0)), (8, .int (nI h)), (11, .int (t9.2.2.1)), (12, .int (nI x))]) hx hb dL_hour_114 hl (by decide) rfl (fun ls hl => ?_)
          refine lv_iload hx hb dL_hour_116 (lv_at hl 4 rfl) ?_
          refine k_if_le (P := b9 = 0) (tgt := 148) hx hb dL_hour_118 (by decide) (k_nle0 (by omega)) (fun c_5 => ?_) (fun c_5 => ?_)
          · skip
            obtain ⟨⟨z1, bz1, ez1⟩, ⟨z2, bz2, ez2⟩, ⟨z3, bz3, ez3⟩⟩ := k2
            have ec : yHc (t9.2.1 + M9 1 x) b9 M9 = nI 0 := by unfold yHc; rw [if_pos c_3]
            rw [ec] at ez1 ez2 ez3
            rw [ez1] at hl ez3
            refine lv_aload_n hx hb dL_hour_148 rfl (lv_at hl 6 rfl) ?_
            refine lv_iload hx hb dL_hour_149 (lv_at hl 15 rfl) ?_
            refine lv_iload hx hb dL_hour_151 (lv_at hl 13 rfl) ?_
            refine lv_iload hx hb dL_hour_153 (lv_at hl 0 rfl) ?_
            refine k_goRv hS (va_runS (rest := []) ⟨hx, hb, hml, hown, hts⟩ (c_L_put_2 l D q A a M9 w x h z1 (by omega) (by omega) bz1 eM2) (va_cwS 4 hts gL_hour_L_put rfl rfl rfl (by decide +kernel) ⟨Nat.le_of_ble_eq_true rfl, Nat.le_of_ble_eq_true rfl⟩) ⟨kB_blind, fun U hU hW => ⟨rfl, by rw [hU]; exact hP, hK.warm hW⟩⟩ rfl rfl hl.1 rfl (lv_room (Nat.le_of_ble_eq_true rfl)) dL_hour_155 ⟨Nat.zero_le _, Nat.zero_le _⟩) (fun H locs hP hS => ?_)
            refine lv_aload_n hx hb dL_hour_158 rfl (lv_at hl 7 rfl) ?_
            refine lv_iload hx hb dL_hour_159 (lv_at hl 15 rfl) ?_
            refine lv_iload hx hb dL_hour_161 (lv_at hl 13 rfl) ?_
            refine lv_iload hx hb dL_hour_163 (lv_at hl 1 rfl) ?_
            refine k_goRv hS (va_runS (rest := []) ⟨hx, hb, hml, hown, hts⟩ (c_L_put_3 l D q A a ((up M9 2 (h * 12 + x) (nI z1))) w x h 0 (by omega) (by omega) (by decide) ((congrFun (up_n (by decide)) _).trans eM3)) (va_cwS 4 hts gL_hour_L_put rfl rfl rfl (by decide +kernel) ⟨Nat.le_of_ble_eq_true rfl, Nat.le_of_ble_eq_true rfl⟩) ⟨kB_blind, fun U hU hW => ⟨rfl, by rw [hU]; exact hP, hK.warm hW⟩⟩ rfl rfl hl.1 rfl (lv_room (Nat.le_of_ble_eq_true rfl)) dL_hour_165 ⟨Nat.zero_le _, Nat.zero_le _⟩) (fun H locs hP hS => ?_)
            refine lv_aload_n hx hb dL_hour_168 rfl (lv_at hl 5 rfl) ?_
            refine lv_bipush (v := nI 24) hx hb dL_hour_169 (by decide) ?_
            refine lv_iload hx hb dL_hour_171 (lv_at hl 15 rfl) ?_
            refine lv_iadd hx hb dL_hour_173 ?_
            refine k_top (y := nI (24 + x)) (nI_add _ _) ?_
            refine k_iald hx hb hK hP.1 1 rfl (24 + x) rfl (by omega) (by decide) dL_hour_174 ?_
            refine k_top (y := M9 1 (24 + x)) ((congrFun (up_n (by decide)) _).trans (congrFun (up_n (by decide)) _)) ?_
            refine lv_istore (lv' := [(16, .int (M9 1 (24 + x))), (15, .int (nI z1)), (14, .int (nI 0)), (10, .int (t9.2.1 + (M9 1 x))), (9, .int (t9.1 ||| (nI 0))), (13, .int (nI b9)), (0, .ref (a 1)), (1, .ref (a 2)), (2, .ref (a 3)), (3, .ref (a 4)), (4, .ref (a 5)), (5, .ref (a 6)), (6, .ref (a 9)), (7, .ref (a 0)), (8, .int (nI h)), (11, .int (t9.2.2.1)), (12, .int (nI x))]) hx hb dL_hour_175 hl (by decide) rfl (fun ls hl => ?_)
            refine lv_aload_n hx hb dL_hour_177 rfl (lv_at hl 9 rfl) ?_
            refine lv_iload hx hb dL_hour_178 (lv_at hl 16 rfl) ?_
            refine lv_iload hx hb dL_hour_180 (lv_at hl 14 rfl) ?_
            refine lv_iload hx hb dL_hour_182 (lv_at hl 0 rfl) ?_
            refine lv_bipush (v := nI 100) hx hb dL_hour_184 (by decide) ?_
            refine k_icmp_lt (P := M9 1 (24 + x) < nI 100) (tgt := 193) hx hb dL_hour_186 (by decide) Iff.rfl (fun c_6 => ?_) (fun c_6 => ?_)
            · skip
              refine lv_iconst (v := nI 1) hx hb dL_hour_193 (by decide) ?_
              refine lv_iload hx hb dL_hour_194 (lv_at hl 1 rfl) ?_
              refine lv_iadd hx hb dL_hour_196 ?_
              refine k_top (y := nI (1 + z1)) (nI_add _ _) ?_
              refine lv_iload hx hb dL_hour_197 (lv_at hl 1 rfl) ?_
              refine lv_iload hx hb dL_hour_199 (lv_at hl 0 rfl) ?_
              refine lv_imul hx hb dL_hour_201 ?_
              refine lv_bipush (v := nI 100) hx hb dL_hour_202 (by decide) ?_
              refine lv_idiv hx hb dL_hour_204 (by decide) ?_
              refine lv_isub hx hb dL_hour_205 ?_
              have ez3b : nI (1 + z1) - nI z1 * M9 1 (24 + x) / nI 100 = nI z3 := by rw [← nI_add, ← ez3]; unfold yRe; rw [if_pos c_6]
              refine k_top (y := nI z3) ez3b ?_
              refine k_goRv hS (va_runS (rest := []) ⟨hx, hb, hml, hown, hts⟩ (c_L_put_4 l D q A a ((up (up M9 2 (h * 12 + x) (nI z1)) 3 (h * 12 + x) (nI 0))) w x h z3 (by omega) (by omega) bz3 ((congrFun (up_n (by decide)) _).trans ((congrFun (up_n (by decide)) _).trans eM4))) (va_cwS 4 hts gL_hour_L_put rfl rfl rfl (by decide +kernel) ⟨Nat.le_of_ble_eq_true rfl, Nat.le_of_ble_eq_true rfl⟩) ⟨kB_blind, fun U hU hW => ⟨rfl, by rw [hU]; exact hP, hK.warm hW⟩⟩ rfl rfl hl.1 rfl (lv_room (Nat.le_of_ble_eq_true rfl)) dL_hour_206 ⟨Nat.zero_le _, Nat.zero_le _⟩) (fun H locs hP hS => ?_)
              refine lv_iload hx hb dL_hour_209 (lv_at hl 3 rfl) ?_
              refine lv_iload hx hb dL_hour_211 (lv_at hl 2 rfl) ?_
              refine lv_isub hx hb dL_hour_213 ?_
              refine lv_istore (lv' := [(10, .int ((t9.2.1 + (M9 1 x)) - (nI 0))), (16, .int (M9 1 (24 + x))), (15, .int (nI z1)), (14, .int (nI 0)), (9, .int (t9.1 ||| (nI 0))), (13, .int (nI b9)), (0, .ref (a 1)), (1, .ref (a 2)), (2, .ref (a 3)), (3, .ref (a 4)), (4, .ref (a 5)), (5, .ref (a 6)), (6, .ref (a 9)), (7, .ref (a 0)), (8, .int (nI h)), (11, .int (t9.2.2.1)), (12, .int (nI x))]) hx hb dL_hour_214 hl (by decide) rfl (fun ls hl => ?_)
              refine lv_iload hx hb dL_hour_216 (lv_at hl 0 rfl) ?_
              refine lv_iload hx hb dL_hour_218 (lv_at hl 0 rfl) ?_
              refine lv_aload_n hx hb dL_hour_220 rfl (lv_at hl 6 rfl) ?_
              refine lv_bipush (v := nI 12) hx hb dL_hour_221 (by decide) ?_
              refine lv_iload hx hb dL_hour_223 (lv_at hl 16 rfl) ?_
              refine lv_iadd hx hb dL_hour_225 ?_
              refine k_top (y := nI (12 + x)) (nI_add _ _) ?_
              refine k_iald hx hb hK hP.1 1 rfl (12 + x) rfl (by omega) (by decide) dL_hour_226 ?_
              refine k_top (y := M9 1 (12 + x)) ((congrFun (up_n (by decide)) _).trans ((congrFun (up_n (by decide)) _).trans (congrFun (up_n (by decide)) _))) ?_
              refine lv_imul hx hb dL_hour_227 ?_
              refine lv_bipush (v := nI 100) hx hb dL_hour_228 (by decide) ?_
              refine lv_idiv hx hb dL_hour_230 (by decide) ?_
              refine lv_isub hx hb dL_hour_231 ?_
              refine lv_istore (lv' := [(10, .int (((t9.2.1 + (M9 1 x)) - (nI 0)) - ((((t9.2.1 + (M9 1 x)) - (nI 0)) * (M9 1 (12 + x))) / (nI 100)))), (16, .int (M9 1 (24 + x))), (15, .int (nI z1)), (14, .int (nI 0)), (9, .int (t9.1 ||| (nI 0))), (13, .int (nI b9)), (0, .ref (a 1)), (1, .ref (a 2)), (2, .ref (a 3)), (3, .ref (a 4)), (4, .ref (a 5)), (5, .ref (a 6)), (6, .ref (a 9)), (7, .ref (a 0)), (8, .int (nI h)), (11, .int (t9.2.2.1)), (12, .int (nI x))]) hx hb dL_hour_232 hl (by decide) rfl (fun ls hl => ?_)
              refine lv_iload hx hb dL_hour_234 (lv_at hl 15 rfl) ?_
              refine lv_iload hx hb dL_hour_236 (lv_at hl 2 rfl) ?_
              refine lv_iadd hx hb dL_hour_238 ?_
              refine lv_istore (lv' := [(11, .int (t9.2.2.1 + (nI z1))), (10, .int (((t9.2.1 + (M9 1 x)) - (nI 0)) - ((((t9.2.1 + (M9 1 x)) - (nI 0)) * (M9 1 (12 + x))) / (nI 100)))), (16, .int (M9 1 (24 + x))), (15, .int (nI z1)), (14, .int (nI 0)), (9, .int (t9.1 ||| (nI 0))), (13, .int (nI b9)), (0, .ref (a 1)), (1, .ref (a 2)), (2, .ref (a 3)), (3, .ref (a 4)), (4, .ref (a 5)), (5, .ref (a 6)), (6, .ref (a 9)), (7, .ref (a 0)), (8, .int (nI h)), (12, .int (nI x))]) hx hb dL_hour_239 hl (by decide) rfl (fun ls hl => ?_)
              refine lv_iinc (v := nI (x + 1)) (lv' := [(12, .int (nI (x + 1))), (11, .int (t9.2.2.1 + (nI z1))), (10, .int (((t9.2.1 + (M9 1 x)) - (nI 0)) - ((((t9.2.1 + (M9 1 x)) - (nI 0)) * (M9 1 (12 + x))) / (nI 100)))), (16, .int (M9 1 (24 + x))), (15, .int (nI z1)), (14, .int (nI 0)), (9, .int (t9.1 ||| (nI 0))), (13, .int (nI b9)), (0, .ref (a 1)), (1, .ref (a 2)), (2, .ref (a 3)), (3, .ref (a 4)), (4, .ref (a 5)), (5, .ref (a 6)), (6, .ref (a 9)), (7, .ref (a 0)), (8, .int (nI h))]) hx hb dL_hour_241 hl (k := 16) rfl (k_iinc _) (by decide) rfl (fun ls hl => ?_)
              refine lv_goto (tgt := 18) hx hb dL_hour_244 (by decide) ?_
              exact ih (x + 1) ((up (up (up M9 2 (h * 12 + x) (nI z1)) 3 (h * 12 + x) (nI 0)) 4 (h * 12 + x) (nI z3))) (nI h) (t9.1 ||| (nI 0)) (((t9.2.1 + (M9 1 x)) - (nI 0)) - ((((t9.2.1 + (M9 1 x)) - (nI 0)) * (M9 1 (12 + x))) / (nI 100))) (t9.2.2.1 + (nI z1)) (nI (x + 1)) (by omega) (by first | omega | assumption) (by rw [et2]; unfold yH1; dsimp only; unfold yPut yHu; rw [ec, ez1, ez3, if_pos c_3]) rfl (by rw [et2]; unfold yH1; dsimp only; rw [if_pos c_3]) (by rw [et2]; unfold yH1; dsimp only; rw [ec]) (by rw [et2]; unfold yH1; dsimp only; rw [ec, ez1]) rfl _ _ hP hS ls (lv_sub hl [8, 9, 10, 11, 12, 13, 14, 15, 16, 6, 2, 1, 0] rfl)
            · skip
              refine lv_iconst (v := nI 0) hx hb dL_hour_189 (by decide) ?_
              refine lv_goto (tgt := 206) hx hb dL_hour_190 (by decide) ?_
              refine k_goRv hS (va_runS (rest := []) ⟨hx, hb, hml, hown, hts⟩ (c_L_put_4 l D q A a ((up (up M9 2 (h * 12 + x) (nI z1)) 3 (h * 12 + x) (nI 0))) w x h 0 (by omega) (by omega) (by decide) ((congrFun (up_n (by decide)) _).trans ((congrFun (up_n (by decide)) _).trans eM4))) (va_cwS 4 hts gL_hour_L_put rfl rfl rfl (by decide +kernel) ⟨Nat.le_of_ble_eq_true rfl, Nat.le_of_ble_eq_true rfl⟩) ⟨kB_blind, fun U hU hW => ⟨rfl, by rw [hU]; exact hP, hK.warm hW⟩⟩ rfl rfl hl.1 rfl (lv_room (Nat.le_of_ble_eq_true rfl)) dL_hour_206 ⟨Nat.zero_le _, Nat.zero_le _⟩) (fun H locs hP hS => ?_)
              refine lv_iload hx hb dL_hour_209 (lv_at hl 3 rfl) ?_
              refine lv_iload hx hb dL_hour_211 (lv_at hl 2 rfl) ?_
              refine lv_isub hx hb dL_hour_213 ?_
              refine lv_istore (lv' := [(10, .int ((t9.2.1 + (M9 1 x)) - (nI 0))), (16, .int (M9 1 (24 + x))), (15, .int (nI z1)), (14, .int (nI 0)), (9, .int (t9.1 ||| (nI 0))), (13, .int (nI b9)), (0, .ref (a 1)), (1, .ref (a 2)), (2, .ref (a 3)), (3, .ref (a 4)), (4, .ref (a 5)), (5, .ref (a 6)), (6, .ref (a 9)), (7, .ref (a 0)), (8, .int (nI h)), (11, .int (t9.2.2.1)), (12, .int (nI x))]) hx hb dL_hour_214 hl (by decide) rfl (fun ls hl => ?_)
              refine lv_iload hx hb dL_hour_216 (lv_at hl 0 rfl) ?_
              refine lv_iload hx hb dL_hour_218 (lv_at hl 0 rfl) ?_
              refine lv_aload_n hx hb dL_hour_220 rfl (lv_at hl 6 rfl) ?_
              refine lv_bipush (v := nI 12) hx hb dL_hour_221 (by decide) ?_
              refine lv_iload hx hb dL_hour_223 (lv_at hl 16 rfl) ?_
              refine lv_iadd hx hb dL_hour_225 ?_
              refine k_top (y := nI (12 + x)) (nI_add _ _) ?_
              refine k_iald hx hb hK hP.1 1 rfl (12 + x) rfl (by omega) (by decide) dL_hour_226 ?_
              refine k_top (y := M9 1 (12 + x)) ((congrFun (up_n (by decide)) _).trans ((congrFun (up_n (by decide)) _).trans (congrFun (up_n (by decide)) _))) ?_
              refine lv_imul hx hb dL_hour_227 ?_
              refine lv_bipush (v := nI 100) hx hb dL_hour_228 (by decide) ?_
              refine lv_idiv hx hb dL_hour_230 (by decide) ?_
              refine lv_isub hx hb dL_hour_231 ?_
              refine lv_istore (lv' := [(10, .int (((t9.2.1 + (M9 1 x)) - (nI 0)) - ((((t9.2.1 + (M9 1 x)) - (nI 0)) * (M9 1 (12 + x))) / (nI 100)))), (16, .int (M9 1 (24 + x))), (15, .int (nI z1)), (14, .int (nI 0)), (9, .int (t9.1 ||| (nI 0))), (13, .int (nI b9)), (0, .ref (a 1)), (1, .ref (a 2)), (2, .ref (a 3)), (3, .ref (a 4)), (4, .ref (a 5)), (5, .ref (a 6)), (6, .ref (a 9)), (7, .ref (a 0)), (8, .int (nI h)), (11, .int (t9.2.2.1)), (12, .int (nI x))]) hx hb dL_hour_232 hl (by decide) rfl (fun ls hl => ?_)
              refine lv_iload hx hb dL_hour_234 (lv_at hl 15 rfl) ?_
              refine lv_iload hx hb dL_hour_236 (lv_at hl 2 rfl) ?_
              refine lv_iadd hx hb dL_hour_238 ?_
              refine lv_istore (lv' := [(11, .int (t9.2.2.1 + (nI z1))), (10, .int (((t9.2.1 + (M9 1 x)) - (nI 0)) - ((((t9.2.1 + (M9 1 x)) - (nI 0)) * (M9 1 (12 + x))) / (nI 100)))), (16, .int (M9 1 (24 + x))), (15, .int (nI z1)), (14, .int (nI 0)), (9, .int (t9.1 ||| (nI 0))), (13, .int (nI b9)), (0, .ref (a 1)), (1, .ref (a 2)), (2, .ref (a 3)), (3, .ref (a 4)), (4, .ref (a 5)), (5, .ref (a 6)), (6, .ref (a 9)), (7, .ref (a 0)), (8, .int (nI h)), (12, .int (nI x))]) hx hb dL_hour_239 hl (by decide) rfl (fun ls hl => ?_)
              refine lv_iinc (v := nI (x + 1)) (lv' := [(12, .int (nI (x + 1))), (11, .int (t9.2.2.1 + (nI z1))), (10, .int (((t9.2.1 + (M9 1 x)) - (nI 0)) - ((((t9.2.1 + (M9 1 x)) - (nI 0)) * (M9 1 (12 + x))) / (nI 100)))), (16, .int (M9 1 (24 + x))), (15, .int (nI z1)), (14, .int (nI 0)), (9, .int (t9.1 ||| (nI 0))), (13, .int (nI b9)), (0, .ref (a 1)), (1, .ref (a 2)), (2, .ref (a 3)), (3, .ref (a 4)), (4, .ref (a 5)), (5, .ref (a 6)), (6, .ref (a 9)), (7, .ref (a 0)), (8, .int (nI h))]) hx hb dL_hour_241 hl (k := 16) rfl (k_iinc _) (by decide) rfl (fun ls hl => ?_)
              refine lv_goto (tgt := 18) hx hb dL_hour_244 (by decide) ?_
              exact ih (x + 1) ((up (up (up M9 2 (h * 12 + x) (nI z1)) 3 (h * 12 + x) (nI 0)) 4 (h * 12 + x) (nI 0))) (nI h) (t9.1 ||| (nI 0)) (((t9.2.1 + (M9 1 x)) - (nI 0)) - ((((t9.2.1 + (M9 1 x)) - (nI 0)) * (M9 1 (12 + x))) / (nI 100))) (t9.2.2.1 + (nI z1)) (nI (x + 1)) (by omega) (by first | omega | assumption) (by rw [et2]; unfold yH1; dsimp only; unfold yPut yHu; rw [ec, ez1, show yRe (nI z1) (M9 1 (24 + x)) = nI 0 from if_neg c_6, if_pos c_3]) rfl (by rw [et2]; unfold yH1; dsimp only; rw [if_pos c_3]) (by rw [et2]; unfold yH1; dsimp only; rw [ec]) (by rw [et2]; unfold yH1; dsimp only; rw [ec, ez1]) rfl _ _ hP hS ls (lv_sub hl [8, 9, 10, 11, 12, 13, 14, 15, 16, 6, 2, 1, 0] rfl)
          · skip
            exact absurd c_3 c_5
        · skip
          exact absurd c_3 c_4
      · skip
        have hb1 : ¬ b9 = 0 := c_3
        refine lv_iconst (v := nI 1) hx hb dL_hour_63 (by decide) ?_
        refine lv_iload hx hb dL_hour_64 (lv_at hl 0 rfl) ?_
        refine lv_iconst (v := nI 1) hx hb dL_hour_66 (by decide) ?_
        refine lv_isub hx hb dL_hour_67 ?_
        refine k_top (y := nI (b9 - 1)) (pk_sub (by omega)) ?_
        refine lv_ishl hx hb dL_hour_68 ?_
        refine lv_goto (tgt := 73) hx hb dL_hour_69 (by decide) ?_
        refine lv_ior hx hb dL_hour_73 ?_
        refine lv_istore (lv' := [(9, .int (t9.1 ||| ((nI 1) <<< ((nI (b9 - 1)) &&& 31)))), (13, .int (nI b9)), (0, .ref (a 1)), (1, .ref (a 2)), (2, .ref (a 3)), (3, .ref (a 4)), (4, .ref (a 5)), (5, .ref (a 6)), (6, .ref (a 9)), (7, .ref (a 0)), (8, .int (nI h)), (10, .int (t9.2.1)), (11, .int (t9.2.2.1)), (12, .int (nI x))]) hx hb dL_hour_74 hl (by decide) rfl (fun ls hl => ?_)
        refine lv_iload hx hb dL_hour_76 (lv_at hl 11 rfl) ?_
        refine lv_aload_n hx hb dL_hour_78 rfl (lv_at hl 2 rfl) ?_
        refine lv_iload hx hb dL_hour_79 (lv_at hl 13 rfl) ?_
        refine k_iald hx hb hK hP.1 1 rfl x rfl (by omega) (by decide) dL_hour_81 ?_
        refine lv_iadd hx hb dL_hour_82 ?_
        refine lv_istore (lv' := [(10, .int (t9.2.1 + (M9 1 x))), (9, .int (t9.1 ||| ((nI 1) <<< ((nI (b9 - 1)) &&& 31)))), (13, .int (nI b9)), (0, .ref (a 1)), (1, .ref (a 2)), (2, .ref (a 3)), (3, .ref (a 4)), (4, .ref (a 5)), (5, .ref (a 6)), (6, .ref (a 9)), (7, .ref (a 0)), (8, .int (nI h)), (11, .int (t9.2.2.1)), (12, .int (nI x))]) hx hb dL_hour_83 hl (by decide) rfl (fun ls hl => ?_)
        refine lv_iload hx hb dL_hour_85 (lv_at hl 2 rfl) ?_
        refine k_if_le (P := b9 = 0) (tgt := 106) hx hb dL_hour_87 (by decide) (k_nle0 (by omega)) (fun c_7 => ?_) (fun c_7 => ?_)
        · skip
          exact absurd c_7 c_3
        · skip
          refine lv_iload hx hb dL_hour_90 (lv_at hl 0 rfl) ?_
          refine lv_aload hx hb dL_hour_92 (lv_at hl 9 rfl) ?_
          refine lv_iload hx hb dL_hour_94 (lv_at hl 2 rfl) ?_
          refine lv_iconst (v := nI 1) hx hb dL_hour_96 (by decide) ?_
          refine lv_isub hx hb dL_hour_97 ?_
          refine k_top (y := nI (b9 - 1)) (pk_sub (by omega)) ?_
          refine k_iald hx hb hK hP.1 9 rfl (b9 - 1) rfl (by omega) (by decide) dL_hour_98 ?_
          refine lv_imul hx hb dL_hour_99 ?_
          refine lv_bipush (v := nI 100) hx hb dL_hour_100 (by decide) ?_
          refine lv_idiv hx hb dL_hour_102 (by decide) ?_
          refine lv_goto (tgt := 107) hx hb dL_hour_103 (by decide) ?_
          refine lv_istore (lv' := [(14, .int (((t9.2.1 + (M9 1 x)) * (M9 9 (b9 - 1))) / (nI 100))), (10, .int (t9.2.1 + (M9 1 x))), (9, .int (t9.1 ||| ((nI 1) <<< ((nI (b9 - 1)) &&& 31)))), (13, .int (nI b9)), (0, .ref (a 1)), (1, .ref (a 2)), (2, .ref (a 3)), (3, .ref (a 4)), (4, .ref (a 5)), (5, .ref (a 6)), (6, .ref (a 9)), (7, .ref (a 0)), (8, .int (nI h)), (11, .int (t9.2.2.1)), (12, .int (nI x))]) hx hb dL_hour_107 hl (by decide) rfl (fun ls hl => ?_)
          refine lv_iload hx hb dL_hour_109 (lv_at hl 1 rfl) ?_
          refine lv_iload hx hb dL_hour_111 (lv_at hl 0 rfl) ?_
          refine lv_iadd hx hb dL_hour_113 ?_
          refine lv_istore (lv' := [(15, .int ((t9.2.1 + (M9 1 x)) + (((t9.2.1 + (M9 1 x)) * (M9 9 (b9 - 1))) / (nI 100)))), (14, .int (((t9.2.1 + (M9 1 x)) * (M9 9 (b9 - 1))) / (nI 100))), (10, .int (t9.2.1 + (M9 1 x))), (9, .int (t9.1 ||| ((nI 1) <<< ((nI (b9 - 1)) &&& 31)))), (13, .int (nI b9)), (0, .ref (a 1)), (1, .ref (a 2)), (2, .ref (a 3)), (3, .ref (a 4)), (4, .ref (a 5)), (5, .ref (a 6)), (6, .ref (a 9)), (7, .ref (a 0)), (8, .int (nI h)), (11, .int (t9.2.2.1)), (12, .int (nI x))]) hx hb dL_hour_114 hl (by decide) rfl (fun ls hl => ?_)
          refine lv_iload hx hb dL_hour_116 (lv_at hl 4 rfl) ?_
          refine k_if_le (P := b9 = 0) (tgt := 148) hx hb dL_hour_118 (by decide) (k_nle0 (by omega)) (fun c_8 => ?_) (fun c_8 => ?_)
          · skip
            exact absurd c_8 c_3
          · skip
            refine lv_aload hx hb dL_hour_121 (lv_at hl 11 rfl) ?_
            refine lv_iconst (v := nI 5) hx hb dL_hour_123 (by decide) ?_
            refine lv_iload hx hb dL_hour_124 (lv_at hl 4 rfl) ?_
            refine lv_iadd hx hb dL_hour_126 ?_
            refine k_top (y := nI (5 + b9)) (nI_add _ _) ?_
            refine lv_dup2_11 hx hb dL_hour_127 rfl rfl ?_
            refine k_iald hx hb hK hP.1 9 rfl (5 + b9) rfl (by omega) (by decide) dL_hour_128 ?_
            refine lv_iconst (v := nI 1) hx hb dL_hour_129 (by decide) ?_
            refine lv_iadd hx hb dL_hour_130 ?_
            refine k_iast (wL q a ((up M9 9 (5 + b9) ((M9 9 (5 + b9)) + (nI 1)))) w) hx hb hK hP hS 9 rfl (5 + b9) rfl (by omega) (by decide) wL_s9 dL_hour_131 (fun H locs hP hS => ?_)
            refine lv_aload hx hb dL_hour_132 (lv_at hl 11 rfl) ?_
            refine lv_bipush (v := nI 11) hx hb dL_hour_134 (by decide) ?_
            refine lv_iload hx hb dL_hour_136 (lv_at hl 4 rfl) ?_
            refine lv_iadd hx hb dL_hour_138 ?_
            refine k_top (y := nI (11 + b9)) (nI_add _ _) ?_
            refine lv_dup2_11 hx hb dL_hour_139 rfl rfl ?_
            refine k_iald hx hb hK hP.1 9 rfl (11 + b9) rfl (by omega) (by decide) dL_hour_140 ?_
            refine lv_iload hx hb dL_hour_141 (lv_at hl 1 rfl) ?_
            refine lv_bipush (v := nI 10) hx hb dL_hour_143 (by decide) ?_
            refine lv_idiv hx hb dL_hour_145 (by decide) ?_
            refine lv_iadd hx hb dL_hour_146 ?_
            refine k_iast (wL q a ((up (up M9 9 (5 + b9) ((M9 9 (5 + b9)) + (nI 1))) 9 (11 + b9) (((up M9 9 (5 + b9) ((M9 9 (5 + b9)) + (nI 1))) 9 (11 + b9)) + ((((t9.2.1 + (M9 1 x)) * (M9 9 (b9 - 1))) / (nI 100)) / (nI 10))))) w) hx hb hK hP hS 9 rfl (11 + b9) rfl (by omega) (by decide) wL_s9 dL_hour_147 (fun H locs hP hS => ?_)
            obtain ⟨⟨z1, bz1, ez1⟩, ⟨z2, bz2, ez2⟩, ⟨z3, bz3, ez3⟩⟩ := k2
            have ec : yHc (t9.2.1 + M9 1 x) b9 M9 = ((t9.2.1 + (M9 1 x)) * (M9 9 (b9 - 1))) / (nI 100) := by unfold yHc; rw [if_neg c_3]
            rw [ec] at ez1 ez2 ez3
            rw [ez1] at hl ez3
            have ez2r := ez2
            rw [ez2] at hl
            refine lv_aload_n hx hb dL_hour_148 rfl (lv_at hl 6 rfl) ?_
            refine lv_iload hx hb dL_hour_149 (lv_at hl 15 rfl) ?_
            refine lv_iload hx hb dL_hour_151 (lv_at hl 13 rfl) ?_
            refine lv_iload hx hb dL_hour_153 (lv_at hl 0 rfl) ?_
            refine k_goRv hS (va_runS (rest := []) ⟨hx, hb, hml, hown, hts⟩ (c_L_put_2 l D q A a ((up (up M9 9 (5 + b9) ((M9 9 (5 + b9)) + (nI 1))) 9 (11 + b9) (((up M9 9 (5 + b9) ((M9 9 (5 + b9)) + (nI 1))) 9 (11 + b9)) + ((((t9.2.1 + (M9 1 x)) * (M9 9 (b9 - 1))) / (nI 100)) / (nI 10))))) w x h z1 (by omega) (by omega) bz1 ((congrFun (up_n (by decide)) _).trans ((congrFun (up_n (by decide)) _).trans eM2))) (va_cwS 4 hts gL_hour_L_put rfl rfl rfl (by decide +kernel) ⟨Nat.le_of_ble_eq_true rfl, Nat.le_of_ble_eq_true rfl⟩) ⟨kB_blind, fun U hU hW => ⟨rfl, by rw [hU]; exact hP, hK.warm hW⟩⟩ rfl rfl hl.1 rfl (lv_room (Nat.le_of_ble_eq_true rfl)) dL_hour_155 ⟨Nat.zero_le _, Nat.zero_le _⟩) (fun H locs hP hS => ?_)
            refine lv_aload_n hx hb dL_hour_158 rfl (lv_at hl 7 rfl) ?_
            refine lv_iload hx hb dL_hour_159 (lv_at hl 15 rfl) ?_
            refine lv_iload hx hb dL_hour_161 (lv_at hl 13 rfl) ?_
            refine lv_iload hx hb dL_hour_163 (lv_at hl 1 rfl) ?_
            refine k_goRv hS (va_runS (rest := []) ⟨hx, hb, hml, hown, hts⟩ (c_L_put_3 l D q A a ((up (up (up M9 9 (5 + b9) ((M9 9 (5 + b9)) + (nI 1))) 9 (11 + b9) (((up M9 9 (5 + b9) ((M9 9 (5 + b9)) + (nI 1))) 9 (11 + b9)) + ((((t9.2.1 + (M9 1 x)) * (M9 9 (b9 - 1))) / (nI 100)) / (nI 10)))) 2 (h * 12 + x) (nI z1))) w x h z2 (by omega) (by omega) bz2 ((congrFun (up_n (by decide)) _).trans ((congrFun (up_n (by decide)) _).trans ((congrFun (up_n (by decide)) _).trans eM3)))) (va_cwS 4 hts gL_hour_L_put rfl rfl rfl (by decide +kernel) ⟨Nat.le_of_ble_eq_true rfl, Nat.le_of_ble_eq_true rfl⟩) ⟨kB_blind, fun U hU hW => ⟨rfl, by rw [hU]; exact hP, hK.warm hW⟩⟩ rfl rfl hl.1 rfl (lv_room (Nat.le_of_ble_eq_true rfl)) dL_hour_165 ⟨Nat.zero_le _, Nat.zero_le _⟩) (fun H locs hP hS => ?_)
            refine lv_aload_n hx hb dL_hour_168 rfl (lv_at hl 5 rfl) ?_
            refine lv_bipush (v := nI 24) hx hb dL_hour_169 (by decide) ?_
            refine lv_iload hx hb dL_hour_171 (lv_at hl 15 rfl) ?_
            refine lv_iadd hx hb dL_hour_173 ?_
            refine k_top (y := nI (24 + x)) (nI_add _ _) ?_
            refine k_iald hx hb hK hP.1 1 rfl (24 + x) rfl (by omega) (by decide) dL_hour_174 ?_
            refine k_top (y := M9 1 (24 + x)) ((congrFun (up_n (by decide)) _).trans ((congrFun (up_n (by decide)) _).trans ((congrFun (up_n (by decide)) _).trans (congrFun (up_n (by decide)) _)))) ?_
            refine lv_istore (lv' := [(16, .int (M9 1 (24 + x))), (15, .int (nI z1)), (14, .int (nI z2)), (10, .int (t9.2.1 + (M9 1 x))), (9, .int (t9.1 ||| ((nI 1) <<< ((nI (b9 - 1)) &&& 31)))), (13, .int (nI b9)), (0, .ref (a 1)), (1, .ref (a 2)), (2, .ref (a 3)), (3, .ref (a 4)), (4, .ref (a 5)), (5, .ref (a 6)), (6, .ref (a 9)), (7, .ref (a 0)), (8, .int (nI h)), (11, .int (t9.2.2.1)), (12, .int (nI x))]) hx hb dL_hour_175 hl (by decide) rfl (fun ls hl => ?_)
            refine lv_aload_n hx hb dL_hour_177 rfl (lv_at hl 9 rfl) ?_
            refine lv_iload hx hb dL_hour_178 (lv_at hl 16 rfl) ?_
            refine lv_iload hx hb dL_hour_180 (lv_at hl 14 rfl) ?_
            refine lv_iload hx hb dL_hour_182 (lv_at hl 0 rfl) ?_
            refine lv_bipush (v := nI 100) hx hb dL_hour_184 (by decide) ?_
            refine k_icmp_lt (P := M9 1 (24 + x) < nI 100) (tgt := 193) hx hb dL_hour_186 (by decide) Iff.rfl (fun c_9 => ?_) (fun c_9 => ?_)
            · skip
              refine lv_iconst (v := nI 1) hx hb dL_hour_193 (by decide) ?_
              refine lv_iload hx hb dL_hour_194 (lv_at hl 1 rfl) ?_
              refine lv_iadd hx hb dL_hour_196 ?_
              refine k_top (y := nI (1 + z1)) (nI_add _ _) ?_
              refine lv_iload hx hb dL_hour_197 (lv_at hl 1 rfl) ?_
              refine lv_iload hx hb dL_hour_199 (lv_at hl 0 rfl) ?_
              refine lv_imul hx hb dL_hour_201 ?_
              refine lv_bipush (v := nI 100) hx hb dL_hour_202 (by decide) ?_
              refine lv_idiv hx hb dL_hour_204 (by decide) ?_
              refine lv_isub hx hb dL_hour_205 ?_
              have ez3b : nI (1 + z1) - nI z1 * M9 1 (24 + x) / nI 100 = nI z3 := by rw [← nI_add, ← ez3]; unfold yRe; rw [if_pos c_9]
              refine k_top (y := nI z3) ez3b ?_
              refine k_goRv hS (va_runS (rest := []) ⟨hx, hb, hml, hown, hts⟩ (c_L_put_4 l D q A a ((up (up (up (up M9 9 (5 + b9) ((M9 9 (5 + b9)) + (nI 1))) 9 (11 + b9) (((up M9 9 (5 + b9) ((M9 9 (5 + b9)) + (nI 1))) 9 (11 + b9)) + ((((t9.2.1 + (M9 1 x)) * (M9 9 (b9 - 1))) / (nI 100)) / (nI 10)))) 2 (h * 12 + x) (nI z1)) 3 (h * 12 + x) (nI z2))) w x h z3 (by omega) (by omega) bz3 ((congrFun (up_n (by decide)) _).trans ((congrFun (up_n (by decide)) _).trans ((congrFun (up_n (by decide)) _).trans ((congrFun (up_n (by decide)) _).trans eM4))))) (va_cwS 4 hts gL_hour_L_put rfl rfl rfl (by decide +kernel) ⟨Nat.le_of_ble_eq_true rfl, Nat.le_of_ble_eq_true rfl⟩) ⟨kB_blind, fun U hU hW => ⟨rfl, by rw [hU]; exact hP, hK.warm hW⟩⟩ rfl rfl hl.1 rfl (lv_room (Nat.le_of_ble_eq_true rfl)) dL_hour_206 ⟨Nat.zero_le _, Nat.zero_le _⟩) (fun H locs hP hS => ?_)
              refine lv_iload hx hb dL_hour_209 (lv_at hl 3 rfl) ?_
              refine lv_iload hx hb dL_hour_211 (lv_at hl 2 rfl) ?_
              refine lv_isub hx hb dL_hour_213 ?_
              refine lv_istore (lv' := [(10, .int ((t9.2.1 + (M9 1 x)) - (nI z2))), (16, .int (M9 1 (24 + x))), (15, .int (nI z1)), (14, .int (nI z2)), (9, .int (t9.1 ||| ((nI 1) <<< ((nI (b9 - 1)) &&& 31)))), (13, .int (nI b9)), (0, .ref (a 1)), (1, .ref (a 2)), (2, .ref (a 3)), (3, .ref (a 4)), (4, .ref (a 5)), (5, .ref (a 6)), (6, .ref (a 9)), (7, .ref (a 0)), (8, .int (nI h)), (11, .int (t9.2.2.1)), (12, .int (nI x))]) hx hb dL_hour_214 hl (by decide) rfl (fun ls hl => ?_)
              refine lv_iload hx hb dL_hour_216 (lv_at hl 0 rfl) ?_
              refine lv_iload hx hb dL_hour_218 (lv_at hl 0 rfl) ?_
              refine lv_aload_n hx hb dL_hour_220 rfl (lv_at hl 6 rfl) ?_
              refine lv_bipush (v := nI 12) hx hb dL_hour_221 (by decide) ?_
              refine lv_iload hx hb dL_hour_223 (lv_at hl 16 rfl) ?_
              refine lv_iadd hx hb dL_hour_225 ?_
              refine k_top (y := nI (12 + x)) (nI_add _ _) ?_
              refine k_iald hx hb hK hP.1 1 rfl (12 + x) rfl (by omega) (by decide) dL_hour_226 ?_
              refine k_top (y := M9 1 (12 + x)) ((congrFun (up_n (by decide)) _).trans ((congrFun (up_n (by decide)) _).trans ((congrFun (up_n (by decide)) _).trans ((congrFun (up_n (by decide)) _).trans (congrFun (up_n (by decide)) _))))) ?_
              refine lv_imul hx hb dL_hour_227 ?_
              refine lv_bipush (v := nI 100) hx hb dL_hour_228 (by decide) ?_
              refine lv_idiv hx hb dL_hour_230 (by decide) ?_
              refine lv_isub hx hb dL_hour_231 ?_
              refine lv_istore (lv' := [(10, .int (((t9.2.1 + (M9 1 x)) - (nI z2)) - ((((t9.2.1 + (M9 1 x)) - (nI z2)) * (M9 1 (12 + x))) / (nI 100)))), (16, .int (M9 1 (24 + x))), (15, .int (nI z1)), (14, .int (nI z2)), (9, .int (t9.1 ||| ((nI 1) <<< ((nI (b9 - 1)) &&& 31)))), (13, .int (nI b9)), (0, .ref (a 1)), (1, .ref (a 2)), (2, .ref (a 3)), (3, .ref (a 4)), (4, .ref (a 5)), (5, .ref (a 6)), (6, .ref (a 9)), (7, .ref (a 0)), (8, .int (nI h)), (11, .int (t9.2.2.1)), (12, .int (nI x))]) hx hb dL_hour_232 hl (by decide) rfl (fun ls hl => ?_)
              refine lv_iload hx hb dL_hour_234 (lv_at hl 15 rfl) ?_
              refine lv_iload hx hb dL_hour_236 (lv_at hl 2 rfl) ?_
              refine lv_iadd hx hb dL_hour_238 ?_
              refine lv_istore (lv' := [(11, .int (t9.2.2.1 + (nI z1))), (10, .int (((t9.2.1 + (M9 1 x)) - (nI z2)) - ((((t9.2.1 + (M9 1 x)) - (nI z2)) * (M9 1 (12 + x))) / (nI 100)))), (16, .int (M9 1 (24 + x))), (15, .int (nI z1)), (14, .int (nI z2)), (9, .int (t9.1 ||| ((nI 1) <<< ((nI (b9 - 1)) &&& 31)))), (13, .int (nI b9)), (0, .ref (a 1)), (1, .ref (a 2)), (2, .ref (a 3)), (3, .ref (a 4)), (4, .ref (a 5)), (5, .ref (a 6)), (6, .ref (a 9)), (7, .ref (a 0)), (8, .int (nI h)), (12, .int (nI x))]) hx hb dL_hour_239 hl (by decide) rfl (fun ls hl => ?_)
              refine lv_iinc (v := nI (x + 1)) (lv' := [(12, .int (nI (x + 1))), (11, .int (t9.2.2.1 + (nI z1))), (10, .int (((t9.2.1 + (M9 1 x)) - (nI z2)) - ((((t9.2.1 + (M9 1 x)) - (nI z2)) * (M9 1 (12 + x))) / (nI 100)))), (16, .int (M9 1 (24 + x))), (15, .int (nI z1)), (14, .int (nI z2)), (9, .int (t9.1 ||| ((nI 1) <<< ((nI (b9 - 1)) &&& 31)))), (13, .int (nI b9)), (0, .ref (a 1)), (1, .ref (a 2)), (2, .ref (a 3)), (3, .ref (a 4)), (4, .ref (a 5)), (5, .ref (a 6)), (6, .ref (a 9)), (7, .ref (a 0)), (8, .int (nI h))]) hx hb dL_hour_241 hl (k := 16) rfl (k_iinc _) (by decide) rfl (fun ls hl => ?_)
              refine lv_goto (tgt := 18) hx hb dL_hour_244 (by decide) ?_
              exact ih (x + 1) ((up (up (up (up (up M9 9 (5 + b9) ((M9 9 (5 + b9)) + (nI 1))) 9 (11 + b9) (((up M9 9 (5 + b9) ((M9 9 (5 + b9)) + (nI 1))) 9 (11 + b9)) + ((((t9.2.1 + (M9 1 x)) * (M9 9 (b9 - 1))) / (nI 100)) / (nI 10)))) 2 (h * 12 + x) (nI z1)) 3 (h * 12 + x) (nI z2)) 4 (h * 12 + x) (nI z3))) (nI h) (t9.1 ||| ((nI 1) <<< ((nI (b9 - 1)) &&& 31))) (((t9.2.1 + (M9 1 x)) - (nI z2)) - ((((t9.2.1 + (M9 1 x)) - (nI z2)) * (M9 1 (12 + x))) / (nI 100))) (t9.2.2.1 + (nI z1)) (nI (x + 1)) (by omega) (by first | omega | assumption) (by rw [et2]; unfold yH1; dsimp only; unfold yPut yHu; rw [ec, ez1, ez3, if_neg c_3]; rw [ez2]) rfl (by rw [et2]; unfold yH1; dsimp only; rw [if_neg c_3]) (by rw [et2]; unfold yH1; dsimp only; rw [ec, ez2]) (by rw [et2]; unfold yH1; dsimp only; rw [ec, ez1]) rfl _ _ hP hS ls (lv_sub hl [8, 9, 10, 11, 12, 13, 14, 15, 16, 6, 2, 1, 0] rfl)
            · skip
              refine lv_iconst (v := nI 0) hx hb dL_hour_189 (by decide) ?_
              refine lv_goto (tgt := 206) hx hb dL_hour_190 (by decide) ?_
              refine k_goRv hS (va_runS (rest := []) ⟨hx, hb, hml, hown, hts⟩ (c_L_put_4 l D q A a ((up (up (up (up M9 9 (5 + b9) ((M9 9 (5 + b9)) + (nI 1))) 9 (11 + b9) (((up M9 9 (5 + b9) ((M9 9 (5 + b9)) + (nI 1))) 9 (11 + b9)) + ((((t9.2.1 + (M9 1 x)) * (M9 9 (b9 - 1))) / (nI 100)) / (nI 10)))) 2 (h * 12 + x) (nI z1)) 3 (h * 12 + x) (nI z2))) w x h 0 (by omega) (by omega) (by decide) ((congrFun (up_n (by decide)) _).trans ((congrFun (up_n (by decide)) _).trans ((congrFun (up_n (by decide)) _).trans ((congrFun (up_n (by decide)) _).trans eM4))))) (va_cwS 4 hts gL_hour_L_put rfl rfl rfl (by decide +kernel) ⟨Nat.le_of_ble_eq_true rfl, Nat.le_of_ble_eq_true rfl⟩) ⟨kB_blind, fun U hU hW => ⟨rfl, by rw [hU]; exact hP, hK.warm hW⟩⟩ rfl rfl hl.1 rfl (lv_room (Nat.le_of_ble_eq_true rfl)) dL_hour_206 ⟨Nat.zero_le _, Nat.zero_le _⟩) (fun H locs hP hS => ?_)
              refine lv_iload hx hb dL_hour_209 (lv_at hl 3 rfl) ?_
              refine lv_iload hx hb dL_hour_211 (lv_at hl 2 rfl) ?_
              refine lv_isub hx hb dL_hour_213 ?_
              refine lv_istore (lv' := [(10, .int ((t9.2.1 + (M9 1 x)) - (nI z2))), (16, .int (M9 1 (24 + x))), (15, .int (nI z1)), (14, .int (nI z2)), (9, .int (t9.1 ||| ((nI 1) <<< ((nI (b9 - 1)) &&& 31)))), (13, .int (nI b9)), (0, .ref (a 1)), (1, .ref (a 2)), (2, .ref (a 3)), (3, .ref (a 4)), (4, .ref (a 5)), (5, .ref (a 6)), (6, .ref (a 9)), (7, .ref (a 0)), (8, .int (nI h)), (11, .int (t9.2.2.1)), (12, .int (nI x))]) hx hb dL_hour_214 hl (by decide) rfl (fun ls hl => ?_)
              refine lv_iload hx hb dL_hour_216 (lv_at hl 0 rfl) ?_
              refine lv_iload hx hb dL_hour_218 (lv_at hl 0 rfl) ?_
              refine lv_aload_n hx hb dL_hour_220 rfl (lv_at hl 6 rfl) ?_
              refine lv_bipush (v := nI 12) hx hb dL_hour_221 (by decide) ?_
              refine lv_iload hx hb dL_hour_223 (lv_at hl 16 rfl) ?_
              refine lv_iadd hx hb dL_hour_225 ?_
              refine k_top (y := nI (12 + x)) (nI_add _ _) ?_
              refine k_iald hx hb hK hP.1 1 rfl (12 + x) rfl (by omega) (by decide) dL_hour_226 ?_
              refine k_top (y := M9 1 (12 + x)) ((congrFun (up_n (by decide)) _).trans ((congrFun (up_n (by decide)) _).trans ((congrFun (up_n (by decide)) _).trans ((congrFun (up_n (by decide)) _).trans (congrFun (up_n (by decide)) _))))) ?_
              refine lv_imul hx hb dL_hour_227 ?_
              refine lv_bipush (v := nI 100) hx hb dL_hour_228 (by decide) ?_
              refine lv_idiv hx hb dL_hour_230 (by decide) ?_
              refine lv_isub hx hb dL_hour_231 ?_
              refine lv_istore (lv' := [(10, .int (((t9.2.1 + (M9 1 x)) - (nI z2)) - ((((t9.2.1 + (M9 1 x)) - (nI z2)) * (M9 1 (12 + x))) / (nI 100)))), (16, .int (M9 1 (24 + x))), (15, .int (nI z1)), (14, .int (nI z2)), (9, .int (t9.1 ||| ((nI 1) <<< ((nI (b9 - 1)) &&& 31)))), (13, .int (nI b9)), (0, .ref (a 1)), (1, .ref (a 2)), (2, .ref (a 3)), (3, .ref (a 4)), (4, .ref (a 5)), (5, .ref (a 6)), (6, .ref (a 9)), (7, .ref (a 0)), (8, .int (nI h)), (11, .int (t9.2.2.1)), (12, .int (nI x))]) hx hb dL_hour_232 hl (by decide) rfl (fun ls hl => ?_)
              refine lv_iload hx hb dL_hour_234 (lv_at hl 15 rfl) ?_
              refine lv_iload hx hb dL_hour_236 (lv_at hl 2 rfl) ?_
              refine lv_iadd hx hb dL_hour_238 ?_
              refine lv_istore (lv' := [(11, .int (t9.2.2.1 + (nI z1))), (10, .int (((t9.2.1 + (M9 1 x)) - (nI z2)) - ((((t9.2.1 + (M9 1 x)) - (nI z2)) * (M9 1 (12 + x))) / (nI 100)))), (16, .int (M9 1 (24 + x))), (15, .int (nI z1)), (14, .int (nI z2)), (9, .int (t9.1 ||| ((nI 1) <<< ((nI (b9 - 1)) &&& 31)))), (13, .int (nI b9)), (0, .ref (a 1)), (1, .ref (a 2)), (2, .ref (a 3)), (3, .ref (a 4)), (4, .ref (a 5)), (5, .ref (a 6)), (6, .ref (a 9)), (7, .ref (a 0)), (8, .int (nI h)), (12, .int (nI x))]) hx hb dL_hour_239 hl (by decide) rfl (fun ls hl => ?_)
              refine lv_iinc (v := nI (x + 1)) (lv' := [(12, .int (nI (x + 1))), (11, .int (t9.2.2.1 + (nI z1))), (10, .int (((t9.2.1 + (M9 1 x)) - (nI z2)) - ((((t9.2.1 + (M9 1 x)) - (nI z2)) * (M9 1 (12 + x))) / (nI 100)))), (16, .int (M9 1 (24 + x))), (15, .int (nI z1)), (14, .int (nI z2)), (9, .int (t9.1 ||| ((nI 1) <<< ((nI (b9 - 1)) &&& 31)))), (13, .int (nI b9)), (0, .ref (a 1)), (1, .ref (a 2)), (2, .ref (a 3)), (3, .ref (a 4)), (4, .ref (a 5)), (5, .ref (a 6)), (6, .ref (a 9)), (7, .ref (a 0)), (8, .int (nI h))]) hx hb dL_hour_241 hl (k := 16) rfl (k_iinc _) (by decide) rfl (fun ls hl => ?_)
              refine lv_goto (tgt := 18) hx hb dL_hour_244 (by decide) ?_
              exact ih (x + 1) ((up (up (up (up (up M9 9 (5 + b9) ((M9 9 (5 + b9)) + (nI 1))) 9 (11 + b9) (((up M9 9 (5 + b9) ((M9 9 (5 + b9)) + (nI 1))) 9 (11 + b9)) + ((((t9.2.1 + (M9 1 x)) * (M9 9 (b9 - 1))) / (nI 100)) / (nI 10)))) 2 (h * 12 + x) (nI z1)) 3 (h * 12 + x) (nI z2)) 4 (h * 12 + x) (nI 0))) (nI h) (t9.1 ||| ((nI 1) <<< ((nI (b9 - 1)) &&& 31))) (((t9.2.1 + (M9 1 x)) - (nI z2)) - ((((t9.2.1 + (M9 1 x)) - (nI z2)) * (M9 1 (12 + x))) / (nI 100))) (t9.2.2.1 + (nI z1)) (nI (x + 1)) (by omega) (by first | omega | assumption) (by rw [et2]; unfold yH1; dsimp only; unfold yPut yHu; rw [ec, ez1, show yRe (nI z1) (M9 1 (24 + x)) = nI 0 from if_neg c_9, if_neg c_3]; rw [ez2]) rfl (by rw [et2]; unfold yH1; dsimp only; rw [if_neg c_3]) (by rw [et2]; unfold yH1; dsimp only; rw [ec, ez2]) (by rw [et2]; unfold yH1; dsimp only; rw [ec, ez1]) rfl _ _ hP hS ls (lv_sub hl [8, 9, 10, 11, 12, 13, 14, 15, 16, 6, 2, 1, 0] rfl)
set_option maxHeartbeats 4000000 in
set_option maxRecDepth 100000 in
theorem c_L_hour (l : Launch) (D : va_G) (q : Nat → ClassId) (A : Nat → Prop) (a : Nat → Nat) (S : Nat → Nat → Int32) (w : va_W) (h : Nat) (hw : S 0 0 = nI h) (hh : h < 20) (hrow : ∀ x : Nat, (yHf S h x).2.2.2 0 0 = nI h) (hk : ∀ x, x < 12 → yHk h x (yHf S h x)) : Met l yL_hour wsL_hour ({ frames := 1, cells := 0, slots := 0, locals := 30 } : Room) (va_Pc [.ref (a 1), .ref (a 2), .ref (a 3), .ref (a 4), .ref (a 5), .ref (a 6), .ref (a 9), .ref (a 0)] (kB D q (fun H => kW D A (wL q a S w) H))) (kRi D A ((yHf S h 12).2.2.1) (wL q a ((yHM2 S h)) w)) 0 0 A := by
  refine Met.ofW (cc := cL_hour) (maxL := 17) (ret := (some .int)) (by decide) rfl ?_
  intro p e u m args below meth c s₁ B hml0 hv
  obtain ⟨rfl, hP, hK⟩ := hv
  have C0 : kAt p u m #[.ref (a 1), .ref (a 2), .ref (a 3), .ref (a 4), .ref (a 5), .ref (a 6), .ref (a 9), .ref (a 0)] meth c cL_hour 17 (some .int) RL wsL_hour := kAt_of B hml0
  obtain ⟨hx, hb, hr, hml, hown, hts, hlocks⟩ := id C0
  have hS : va_S A u.heap u.heap [] := va_S.rf
  have hl := lv_entry ([.ref (a 1), .ref (a 2), .ref (a 3), .ref (a 4), .ref (a 5), .ref (a 6), .ref (a 9), .ref (a 0)]) (n := 17) (Nat.le_of_ble_eq_true rfl)
  rw [lg_entry_eq]
  generalize (lg_sl ([.ref (a 1), .ref (a 2), .ref (a 3), .ref (a 4), .ref (a 5), .ref (a 6), .ref (a 9), .ref (a 0)]) ++ List.replicate (17 - (lg_sl ([.ref (a 1), .ref (a 2), .ref (a 3), .ref (a 4), .ref (a 5), .ref (a 6), .ref (a 9), .ref (a 0)])).length) Slot.unset).toArray = ls at hl ⊢
  have hl : lv_has ls 17 [(0, .ref (a 1)), (1, .ref (a 2)), (2, .ref (a 3)), (3, .ref (a 4)), (4, .ref (a 5)), (5, .ref (a 6)), (6, .ref (a 9)), (7, .ref (a 0))] := hl
  refine lv_aload hx hb dL_hour_0 (lv_at hl 7 rfl) ?_
  refine lv_iconst (v := nI 0) hx hb dL_hour_2 (by decide) ?_
  refine k_iald hx hb hK hP.1 0 rfl 0 rfl (by omega) (by decide) dL_hour_3 ?_
  refine k_top (y := nI h) hw ?_
  refine lv_istore (lv' := [(8, .int (nI h)), (0, .ref (a 1)), (1, .ref (a 2)), (2, .ref (a 3)), (3, .ref (a 4)), (4, .ref (a 5)), (5, .ref (a 6)), (6, .ref (a 9)), (7, .ref (a 0))]) hx hb dL_hour_4 hl (by decide) rfl (fun ls hl => ?_)
  refine lv_iconst (v := nI 0) hx hb dL_hour_6 (by decide) ?_
  refine lv_istore (lv' := [(9, .int (nI 0)), (8, .int (nI h)), (0, .ref (a 1)), (1, .ref (a 2)), (2, .ref (a 3)), (3, .ref (a 4)), (4, .ref (a 5)), (5, .ref (a 6)), (6, .ref (a 9)), (7, .ref (a 0))]) hx hb dL_hour_7 hl (by decide) rfl (fun ls hl => ?_)
  refine lv_iconst (v := nI 0) hx hb dL_hour_9 (by decide) ?_
  refine lv_istore (lv' := [(10, .int (nI 0)), (9, .int (nI 0)), (8, .int (nI h)), (0, .ref (a 1)), (1, .ref (a 2)), (2, .ref (a 3)), (3, .ref (a 4)), (4, .ref (a 5)), (5, .ref (a 6)), (6, .ref (a 9)), (7, .ref (a 0))]) hx hb dL_hour_10 hl (by decide) rfl (fun ls hl => ?_)
  refine lv_iconst (v := nI 0) hx hb dL_hour_12 (by decide) ?_
  refine lv_istore (lv' := [(11, .int (nI 0)), (10, .int (nI 0)), (9, .int (nI 0)), (8, .int (nI h)), (0, .ref (a 1)), (1, .ref (a 2)), (2, .ref (a 3)), (3, .ref (a 4)), (4, .ref (a 5)), (5, .ref (a 6)), (6, .ref (a 9)), (7, .ref (a 0))]) hx hb dL_hour_13 hl (by decide) rfl (fun ls hl => ?_)
  refine lv_iconst (v := nI 0) hx hb dL_hour_15 (by decide) ?_
  refine lv_istore (lv' := [(12, .int (nI 0)), (11, .int (nI 0)), (10, .int (nI 0)), (9, .int (nI 0)), (8, .int (nI h)), (0, .ref (a 1)), (1, .ref (a 2)), (2, .ref (a 3)), (3, .ref (a 4)), (4, .ref (a 5)), (5, .ref (a 6)), (6, .ref (a 9)), (7, .ref (a 0))]) hx hb dL_hour_16 hl (by decide) rfl (fun ls hl => ?_)
  exact lp_L_hour_18 a S w h hw hh hrow hk C0 hK ((12 - 0) + 1) 0 S (nI h) (nI 0) (nI 0) (nI 0) (nI 0) (by omega) (by first | omega | assumption) (by rfl) rfl (by rfl) (by rfl) (by rfl) rfl _ _ hP hS ls (lv_sub hl [5, 6, 7, 8, 9, 10, 11, 12, 4, 3, 2, 1, 0] rfl)
