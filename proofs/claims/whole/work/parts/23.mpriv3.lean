theorem fl_X5_places_32 : Cond.fieldLink RX5 32 "LampCountsModel" "player" "[I" ∈ wsX5_places := by decide +kernel
theorem fl_X5_places_80 : Cond.fieldLink RX5 80 "LampCountsModel" "played" "[I" ∈ wsX5_places := by decide +kernel
theorem fl_X5_places_86 : Cond.fieldLink RX5 86 "LampCountsModel" "asks" "[I" ∈ wsX5_places := by decide +kernel
theorem fl_X5_places_89 : Cond.fieldLink RX5 89 "LampCountsModel" "playedThen" "[I" ∈ wsX5_places := by decide +kernel
theorem fl_X5_places_103 : Cond.fieldLink RX5 103 "LampCountsModel" "now" "I" ∈ wsX5_places := by decide +kernel
theorem in_X5_places_X5 : ∀ w ∈ u_ws RX5 TX5 33, w ∈ wsX5_places := by decide +kernel
set_option maxHeartbeats 4000000 in
set_option maxRecDepth 100000 in
theorem lp_X5_places_86 {p : Program} {l : Launch} {e : Env} {u : State} {m : MethodId} {below : List Frame} {meth : Method} {c : Code} {D : va_G} {q : Nat → ClassId} {A : Nat → Prop} (a : Nat → Nat) (S : Nat → Nat → Int32) (w0 : Nat) (hw : S 0 1 = nI w0) (hw200 : w0 < 200) (hok : okML S) (C0 : kAt p u m #[.ref (a 0)] meth c cX5_places 4 none RX5 wsX5_places) (hK : kK D q u) :
    ∀ (f : Nat) (b : Nat) (T : Nat → Nat → Int32) (x2 : Int32), 6 - b < f → b ≤ 6 → T = paF (ppF (pcF S 6) w0 12).2 b → x2 = nI b → ∀ (H : Heap) (locs : List Loc), kW D A (wM q a T) H → va_S A u.heap H locs → ∀ (ls : Array Slot), lv_has ls 4 [(0, .ref (a 0)), (2, .int x2)] → W p l e ({ frames := 2, cells := 0, slots := 0, locals := 50 } : Room) u m #[.ref (a 0)] below meth c H locs 0 0 (MQ below (kRv D A (wM q a (placesM S w0))) #[.ref (a 0)] u 0 0 A) (F0 m 86 ls []) := by
  obtain ⟨hx, hb, hr, hml, hown, hts, hlocks⟩ := id C0
  intro f
  induction f with
  | zero =>
    intro b T x2 hf
    exact absurd hf (Nat.not_lt_zero _)
  | succ f ih =>
    intro b T x2 hf hb6 eT e2 H locs hP hS ls hl
    replace eT := eT.symm
    subst eT
    replace e2 := e2.symm
    subst e2
    refine lv_iload_n hx hb dX5_places_86 rfl (lv_at hl 1 rfl) ?_
    refine lv_bipush (v := nI 6) hx hb dX5_places_87 (by decide) ?_
    refine k_icmp_ge (P := b < 6) (tgt := 105) hx hb dX5_places_89 (by decide) (nI_ltI (by omega) (by omega)) (fun c_1 => ?_) (fun c_1 => ?_)
    · skip
      have eM : paF (ppF (pcF S 6) w0 12).2 b = placesM S w0 := by rw [show b = 6 from by omega]; rfl
      rw [eM] at hP
      exact k_vretW hx hb hr hlocks hP hS dX5_places_105
    · skip
      refine lv_aload_n hx hb dX5_places_92 rfl (lv_at hl 0 rfl) ?_
      refine va_get (D := D) (ci := 6) (v := .ref (a 29)) (C := RX5) (T := TX5) (N := 33) hx hb hts in_X5_places_X5 hown hK.1 hP.1 0 rfl rfl 29 (by decide) (hts _ fl_X5_places_86) (fun _ h9 => h9) rfl dX5_places_93 ?_
      refine lv_iload_n hx hb dX5_places_96 rfl (lv_at hl 1 rfl) ?_
      refine lv_iconst (v := nI 0) hx hb dX5_places_97 (by decide) ?_
      refine k_iast (wM q a ((up (paF (ppF (pcF S 6) w0 12).2 b) 29 b (nI 0)))) hx hb hK hP hS 26 rfl b rfl (by omega) (by decide) wM_s26 dX5_places_98 (fun H locs hP hS => ?_)
      refine lv_iinc (v := nI (b + 1)) (lv' := [(2, .int (nI (b + 1))), (0, .ref (a 0))]) hx hb dX5_places_99 hl (k := 1) rfl (k_iinc _) (by decide) rfl (fun ls hl => ?_)
      refine lv_goto (tgt := 86) hx hb dX5_places_102 (by decide) ?_
      exact ih (b + 1) ((up (paF (ppF (pcF S 6) w0 12).2 b) 29 b (nI 0))) (nI (b + 1)) (by omega) (by first | omega | assumption) (by rfl) rfl _ _ hP hS ls (lv_sub hl [1, 0] rfl)

set_option maxHeartbeats 4000000 in
set_option maxRecDepth 100000 in
theorem lp_X5_places_30 {p : Program} {l : Launch} {e : Env} {u : State} {m : MethodId} {below : List Frame} {meth : Method} {c : Code} {D : va_G} {q : Nat → ClassId} {A : Nat → Prop} (a : Nat → Nat) (S : Nat → Nat → Int32) (w0 : Nat) (hw : S 0 1 = nI w0) (hw200 : w0 < 200) (hok : okML S) (C0 : kAt p u m #[.ref (a 0)] meth c cX5_places 4 none RX5 wsX5_places) (hK : kK D q u) :
    ∀ (f : Nat) (x : Nat) (T : Nat → Nat → Int32) (x1 : Int32) (x2 : Int32), 12 - x < f → x ≤ 12 → T = (ppF (pcF S 6) w0 x).2 → x1 = (ppF (pcF S 6) w0 x).1 → x2 = nI x → ∀ (H : Heap) (locs : List Loc), kW D A (wM q a T) H → va_S A u.heap H locs → ∀ (ls : Array Slot), lv_has ls 4 [(0, .ref (a 0)), (1, .int x1), (2, .int x2)] → W p l e ({ frames := 2, cells := 0, slots := 0, locals := 50 } : Room) u m #[.ref (a 0)] below meth c H locs 0 0 (MQ below (kRv D A (wM q a (placesM S w0))) #[.ref (a 0)] u 0 0 A) (F0 m 30 ls []) := by
  obtain ⟨hx, hb, hr, hml, hown, hts, hlocks⟩ := id C0
  intro f
  induction f with
  | zero =>
    intro x T x1 x2 hf
    exact absurd hf (Nat.not_lt_zero _)
  | succ f ih =>
    intro x T x1 x2 hf hx12 eT e1 e2 H locs hP hS ls hl
    replace eT := eT.symm
    subst eT
    replace e1 := e1.symm
    subst e1
    replace e2 := e2.symm
    subst e2
    refine lv_iload_n hx hb dX5_places_30 rfl (lv_at hl 2 rfl) ?_
    refine lv_bipush (v := nI 12) hx hb dX5_places_31 (by decide) ?_
    refine k_icmp_ge (P := x < 12) (tgt := 84) hx hb dX5_places_33 (by decide) (nI_ltI (by omega) (by omega)) (fun c_2 => ?_) (fun c_2 => ?_)
    · skip
      refine lv_iconst (v := nI 0) hx hb dX5_places_84 (by decide) ?_
      refine lv_istore_n (lv' := [(2, .int (nI 0)), (0, .ref (a 0)), (1, .int ((ppF (pcF S 6) w0 x).1))]) hx hb dX5_places_85 rfl hl (by decide) rfl (fun ls hl => ?_)
      exact lp_X5_places_86 a S w0 hw hw200 hok C0 hK ((6 - 0) + 1) 0 ((ppF (pcF S 6) w0 x).2) (nI 0) (by omega) (by first | omega | assumption) (by rw [show x = 12 from by omega]; rfl) rfl _ _ hP hS ls (lv_sub hl [1, 0] rfl)
    · skip
      refine lv_aload_n hx hb dX5_places_36 rfl (lv_at hl 0 rfl) ?_
      refine lv_iload_n hx hb dX5_places_37 rfl (lv_at hl 2 rfl) ?_
      refine lv_iload_n hx hb dX5_places_38 rfl (lv_at hl 1 rfl) ?_
      refine k_goRi hS (va_runV (rest := []) ⟨hx, hb, hml, hown, hts⟩ (c_X5_plays l D q A a ((ppF (pcF S 6) w0 x).2) x ((ppF (pcF S 6) w0 x).1) (by omega) (okML_ppF hok x)) (cwV 2 hts gX5_places_X5_plays rfl rfl rfl (by decide +kernel) ⟨Nat.le_of_ble_eq_true rfl, Nat.le_of_ble_eq_true rfl⟩) ⟨kB_blind, (va_recv hK.1 hP.1 (ci := 6) (q0 := 0) rfl rfl), fun U hU hW => ⟨rfl, by rw [hU]; exact hP, hK.warm hW⟩⟩ rfl rfl hl.1 rfl (lv_room (Nat.le_of_ble_eq_true rfl)) dX5_places_39 ⟨Nat.zero_le _, Nat.zero_le _⟩) (fun H locs hP hS => ?_)
      refine lv_istore_n (lv' := [(3, .int (plV ((ppF (pcF S 6) w0 x).2) x ((ppF (pcF S 6) w0 x).1))), (0, .ref (a 0)), (1, .int ((ppF (pcF S 6) w0 x).1)), (2, .int (nI x))]) hx hb dX5_places_42 rfl hl (by decide) rfl (fun ls hl => ?_)
      refine lv_aload_n hx hb dX5_places_43 rfl (lv_at hl 1 rfl) ?_
      refine va_get (D := D) (ci := 6) (v := .ref (a 9)) (C := RX5) (T := TX5) (N := 33) hx hb hts in_X5_places_X5 hown hK.1 hP.1 0 rfl rfl 9 (by decide) (hts _ fl_X5_places_32) (fun _ h9 => h9) rfl dX5_places_44 ?_
      refine lv_iload_n hx hb dX5_places_47 rfl (lv_at hl 3 rfl) ?_
      refine lv_aload_n hx hb dX5_places_48 rfl (lv_at hl 1 rfl) ?_
      refine va_get (D := D) (ci := 6) (v := .int (((plM ((ppF (pcF S 6) w0 x).2) x ((ppF (pcF S 6) w0 x).1))) 0 1)) (C := RX5) (T := TX5) (N := 33) hx hb hts in_X5_places_X5 hown hK.1 hP.1 0 rfl rfl 1 (by decide) (hts _ fl_X5_places_103) (fun _ h9 => h9) rfl dX5_places_49 ?_
      refine k_top (y := nI w0) ((plM_n0 (by decide)).trans ((ppF_n0 (by decide) _).trans ((congrFun (pcF_n (by decide) 6) 1).trans hw))) ?_
      refine k_callS (rest := [.ref (a 9)]) (r := nI (w0 * 12 + x)) ⟨hx, hb, hml, hown, hts⟩ (c_X5_cell l D q x w0) (va_cwS 2 hts gX5_places_X5_cell rfl rfl rfl (by decide +kernel) ⟨Nat.le_of_ble_eq_true rfl, Nat.le_of_ble_eq_true rfl⟩) hK trivial rfl hl.1 rfl (Nat.le_of_ble_eq_true rfl) dX5_places_52 ⟨Nat.zero_le _, Nat.zero_le _⟩ (fun _ h => h) ?_
      refine lv_iload_n hx hb dX5_places_55 rfl (lv_at hl 0 rfl) ?_
      refine k_iast (wM q a ((up ((plM ((ppF (pcF S 6) w0 x).2) x ((ppF (pcF S 6) w0 x).1))) 9 (w0 * 12 + x) (plV ((ppF (pcF S 6) w0 x).2) x ((ppF (pcF S 6) w0 x).1))))) hx hb hK hP hS 8 rfl (w0 * 12 + x) rfl (by omega) (by decide) wM_s8 dX5_places_56 (fun H locs hP hS => ?_)
      refine lv_iload_n hx hb dX5_places_57 rfl (lv_at hl 0 rfl) ?_
      refine lv_iconst (v := (-1)) hx hb dX5_places_58 (by decide) ?_
      refine k_icmp_eq (P := plV ((ppF (pcF S 6) w0 x).2) x ((ppF (pcF S 6) w0 x).1) = (-1)) (tgt := 78) hx hb dX5_places_59 (by decide) Iff.rfl (fun c_3 => ?_) (fun c_3 => ?_)
      · skip
        refine lv_iinc (v := nI (x + 1)) (lv' := [(2, .int (nI (x + 1))), (3, .int (plV ((ppF (pcF S 6) w0 x).2) x ((ppF (pcF S 6) w0 x).1))), (0, .ref (a 0)), (1, .int ((ppF (pcF S 6) w0 x).1))]) hx hb dX5_places_78 hl (k := 3) rfl (k_iinc _) (by decide) rfl (fun ls hl => ?_)
        refine lv_goto (tgt := 30) hx hb dX5_places_81 (by decide) ?_
        exact ih (x + 1) ((up ((plM ((ppF (pcF S 6) w0 x).2) x ((ppF (pcF S 6) w0 x).1))) 9 (w0 * 12 + x) (plV ((ppF (pcF S 6) w0 x).2) x ((ppF (pcF S 6) w0 x).1)))) ((ppF (pcF S 6) w0 x).1) (nI (x + 1)) (by omega) (by first | omega | assumption) (by rw [ppF_s]; unfold ppS; rw [if_pos c_3]) (by rw [ppF_s]; unfold ppS; rw [if_pos c_3]) rfl _ _ hP hS ls (lv_sub hl [2, 3, 0] rfl)
      · skip
        obtain ⟨en, hn6⟩ := k_nat plV_ok c_3
        refine lv_iload_n hx hb dX5_places_62 rfl (lv_at hl 2 rfl) ?_
        refine lv_iconst (v := nI 1) hx hb dX5_places_63 (by decide) ?_
        refine lv_iload_n hx hb dX5_places_64 rfl (lv_at hl 0 rfl) ?_
        refine lv_ishl hx hb dX5_places_65 ?_
        refine lv_ior hx hb dX5_places_66 ?_
        refine lv_istore_n (lv' := [(1, .int (((ppF (pcF S 6) w0 x).1) ||| ((nI 1) <<< ((plV ((ppF (pcF S 6) w0 x).2) x ((ppF (pcF S 6) w0 x).1)) &&& 31)))), (3, .int (plV ((ppF (pcF S 6) w0 x).2) x ((ppF (pcF S 6) w0 x).1))), (0, .ref (a 0)), (2, .int (nI x))]) hx hb dX5_places_67 rfl hl (by decide) rfl (fun ls hl => ?_)
        refine lv_aload_n hx hb dX5_places_68 rfl (lv_at hl 2 rfl) ?_
        refine va_get (D := D) (ci := 6) (v := .ref (a 27)) (C := RX5) (T := TX5) (N := 33) hx hb hts in_X5_places_X5 hown hK.1 hP.1 0 rfl rfl 27 (by decide) (hts _ fl_X5_places_80) (fun _ h9 => h9) rfl dX5_places_69 ?_
        refine lv_iload_n hx hb dX5_places_72 rfl (lv_at hl 1 rfl) ?_
        refine lv_dup2_11 hx hb dX5_places_73 rfl rfl ?_
        refine k_iald hx hb hK hP.1 24 rfl ((plV (ppF (pcF S 6) w0 x).2 x (ppF (pcF S 6) w0 x).1).toNatClampNeg) en (by omega) (by decide) dX5_places_74 ?_
        refine k_top (y := ((plM ((ppF (pcF S 6) w0 x).2) x ((ppF (pcF S 6) w0 x).1))) 27 ((plV (ppF (pcF S 6) w0 x).2 x (ppF (pcF S 6) w0 x).1).toNatClampNeg)) (congrFun (up_n (by decide)) _) ?_
        refine lv_iconst (v := nI 1) hx hb dX5_places_75 (by decide) ?_
        refine lv_iadd hx hb dX5_places_76 ?_
        refine k_iast (wM q a ((up (up ((plM ((ppF (pcF S 6) w0 x).2) x ((ppF (pcF S 6) w0 x).1))) 9 (w0 * 12 + x) (plV ((ppF (pcF S 6) w0 x).2) x ((ppF (pcF S 6) w0 x).1))) 27 ((plV (ppF (pcF S 6) w0 x).2 x (ppF (pcF S 6) w0 x).1).toNatClampNeg) ((((plM ((ppF (pcF S 6) w0 x).2) x ((ppF (pcF S 6) w0 x).1))) 27 ((plV (ppF (pcF S 6) w0 x).2 x (ppF (pcF S 6) w0 x).1).toNatClampNeg)) + (nI 1))))) hx hb hK hP hS 24 rfl ((plV (ppF (pcF S 6) w0 x).2 x (ppF (pcF S 6) w0 x).1).toNatClampNeg) en (by omega) (by decide) wM_s24 dX5_places_77 (fun H locs hP hS => ?_)
        refine lv_iinc (v := nI (x + 1)) (lv' := [(2, .int (nI (x + 1))), (1, .int (((ppF (pcF S 6) w0 x).1) ||| ((nI 1) <<< ((plV ((ppF (pcF S 6) w0 x).2) x ((ppF (pcF S 6) w0 x).1)) &&& 31)))), (3, .int (plV ((ppF (pcF S 6) w0 x).2) x ((ppF (pcF S 6) w0 x).1))), (0, .ref (a 0))]) hx hb dX5_places_78 hl (k := 3) rfl (k_iinc _) (by decide) rfl (fun ls hl => ?_)
        refine lv_goto (tgt := 30) hx hb dX5_places_81 (by decide) ?_
        exact ih (x + 1) ((up (up ((plM ((ppF (pcF S 6) w0 x).2) x ((ppF (pcF S 6) w0 x).1))) 9 (w0 * 12 + x) (plV ((ppF (pcF S 6) w0 x).2) x ((ppF (pcF S 6) w0 x).1))) 27 ((plV (ppF (pcF S 6) w0 x).2 x (ppF (pcF S 6) w0 x).1).toNatClampNeg) ((((plM ((ppF (pcF S 6) w0 x).2) x ((ppF (pcF S 6) w0 x).1))) 27 ((plV (ppF (pcF S 6) w0 x).2 x (ppF (pcF S 6) w0 x).1).toNatClampNeg)) + (nI 1)))) (((ppF (pcF S 6) w0 x).1) ||| ((nI 1) <<< ((plV ((ppF (pcF S 6) w0 x).2) x ((ppF (pcF S 6) w0 x).1)) &&& 31))) (nI (x + 1)) (by omega) (by first | omega | assumption) (by rw [ppF_s]; unfold ppS; rw [if_neg c_3]) (by rw [ppF_s]; unfold ppS; rw [if_neg c_3]) rfl _ _ hP hS ls (lv_sub hl [3, 1, 0] rfl)

set_option maxHeartbeats 4000000 in
set_option maxRecDepth 100000 in
theorem lp_X5_places_2 {p : Program} {l : Launch} {e : Env} {u : State} {m : MethodId} {below : List Frame} {meth : Method} {c : Code} {D : va_G} {q : Nat → ClassId} {A : Nat → Prop} (a : Nat → Nat) (S : Nat → Nat → Int32) (w0 : Nat) (hw : S 0 1 = nI w0) (hw200 : w0 < 200) (hok : okML S) (C0 : kAt p u m #[.ref (a 0)] meth c cX5_places 4 none RX5 wsX5_places) (hK : kK D q u) :
    ∀ (f : Nat) (b : Nat) (T : Nat → Nat → Int32) (x1 : Int32), 6 - b < f → b ≤ 6 → T = pcF S b → x1 = nI b → ∀ (H : Heap) (locs : List Loc), kW D A (wM q a T) H → va_S A u.heap H locs → ∀ (ls : Array Slot), lv_has ls 4 [(0, .ref (a 0)), (1, .int x1)] → W p l e ({ frames := 2, cells := 0, slots := 0, locals := 50 } : Room) u m #[.ref (a 0)] below meth c H locs 0 0 (MQ below (kRv D A (wM q a (placesM S w0))) #[.ref (a 0)] u 0 0 A) (F0 m 2 ls []) := by
  obtain ⟨hx, hb, hr, hml, hown, hts, hlocks⟩ := id C0
  intro f
  induction f with
  | zero =>
    intro b T x1 hf
    exact absurd hf (Nat.not_lt_zero _)
  | succ f ih =>
    intro b T x1 hf hb6 eT e1 H locs hP hS ls hl
    replace eT := eT.symm
    subst eT
    replace e1 := e1.symm
    subst e1
    refine lv_iload_n hx hb dX5_places_2 rfl (lv_at hl 1 rfl) ?_
    refine lv_bipush (v := nI 6) hx hb dX5_places_3 (by decide) ?_
    refine k_icmp_ge (P := b < 6) (tgt := 26) hx hb dX5_places_5 (by decide) (nI_ltI (by omega) (by omega)) (fun c_4 => ?_) (fun c_4 => ?_)
    · skip
      refine lv_iconst (v := nI 0) hx hb dX5_places_26 (by decide) ?_
      refine lv_istore_n (lv' := [(1, .int (nI 0)), (0, .ref (a 0))]) hx hb dX5_places_27 rfl hl (by decide) rfl (fun ls hl => ?_)
      refine lv_iconst (v := nI 0) hx hb dX5_places_28 (by decide) ?_
      refine lv_istore_n (lv' := [(2, .int (nI 0)), (1, .int (nI 0)), (0, .ref (a 0))]) hx hb dX5_places_29 rfl hl (by decide) rfl (fun ls hl => ?_)
      exact lp_X5_places_30 a S w0 hw hw200 hok C0 hK ((12 - 0) + 1) 0 (pcF S b) (nI 0) (nI 0) (by omega) (by first | omega | assumption) (by rw [show b = 6 from by omega]; rfl) (by rfl) rfl _ _ hP hS ls (lv_sub hl [2, 1, 0] rfl)
    · skip
      refine lv_aload_n hx hb dX5_places_8 rfl (lv_at hl 0 rfl) ?_
      refine va_get (D := D) (ci := 6) (v := .ref (a 30)) (C := RX5) (T := TX5) (N := 33) hx hb hts in_X5_places_X5 hown hK.1 hP.1 0 rfl rfl 30 (by decide) (hts _ fl_X5_places_89) (fun _ h9 => h9) rfl dX5_places_9 ?_
      refine lv_iload_n hx hb dX5_places_12 rfl (lv_at hl 1 rfl) ?_
      refine lv_aload_n hx hb dX5_places_13 rfl (lv_at hl 0 rfl) ?_
      refine va_get (D := D) (ci := 6) (v := .ref (a 27)) (C := RX5) (T := TX5) (N := 33) hx hb hts in_X5_places_X5 hown hK.1 hP.1 0 rfl rfl 27 (by decide) (hts _ fl_X5_places_80) (fun _ h9 => h9) rfl dX5_places_14 ?_
      refine lv_iload_n hx hb dX5_places_17 rfl (lv_at hl 1 rfl) ?_
      refine k_iald hx hb hK hP.1 24 rfl b rfl (by omega) (by decide) dX5_places_18 ?_
      refine k_iast (wM q a ((up (pcF S b) 30 b ((pcF S b) 27 b)))) hx hb hK hP hS 27 rfl b rfl (by omega) (by decide) wM_s27 dX5_places_19 (fun H locs hP hS => ?_)
      refine lv_iinc (v := nI (b + 1)) (lv' := [(1, .int (nI (b + 1))), (0, .ref (a 0))]) hx hb dX5_places_20 hl (k := 1) rfl (k_iinc _) (by decide) rfl (fun ls hl => ?_)
      refine lv_goto (tgt := 2) hx hb dX5_places_23 (by decide) ?_
      exact ih (b + 1) ((up (pcF S b) 30 b ((pcF S b) 27 b))) (nI (b + 1)) (by omega) (by first | omega | assumption) (by rfl) rfl _ _ hP hS ls (lv_sub hl [1, 0] rfl)
set_option maxHeartbeats 4000000 in
set_option maxRecDepth 100000 in
theorem c_X5_places (l : Launch) (D : va_G) (q : Nat → ClassId) (A : Nat → Prop) (a : Nat → Nat) (S : Nat → Nat → Int32) (w0 : Nat) (hw : S 0 1 = nI w0) (hw200 : w0 < 200) (hok : okML S) : Met l yX5_places wsX5_places ({ frames := 2, cells := 0, slots := 0, locals := 50 } : Room) (va_Pc [.ref (a 0)] (kB D q (fun H => kW D A (wM q a S) H))) (kRv D A (wM q a (placesM S w0))) 0 0 A := by
  refine Met.ofW (cc := cX5_places) (maxL := 4) (ret := none) (by decide) rfl ?_
  intro p e u m args below meth c s₁ B hml0 hv
  obtain ⟨rfl, hP, hK⟩ := hv
  have C0 : kAt p u m #[.ref (a 0)] meth c cX5_places 4 none RX5 wsX5_places := kAt_of B hml0
  obtain ⟨hx, hb, hr, hml, hown, hts, hlocks⟩ := id C0
  have hS : va_S A u.heap u.heap [] := va_S.rf
  have hl := lv_entry ([.ref (a 0)]) (n := 4) (Nat.le_of_ble_eq_true rfl)
  rw [lg_entry_eq]
  generalize (lg_sl ([.ref (a 0)]) ++ List.replicate (4 - (lg_sl ([.ref (a 0)])).length) Slot.unset).toArray = ls at hl ⊢
  have hl : lv_has ls 4 [(0, .ref (a 0))] := hl
  refine lv_iconst (v := nI 0) hx hb dX5_places_0 (by decide) ?_
  refine lv_istore_n (lv' := [(1, .int (nI 0)), (0, .ref (a 0))]) hx hb dX5_places_1 rfl hl (by decide) rfl (fun ls hl => ?_)
  exact lp_X5_places_2 a S w0 hw hw200 hok C0 hK ((6 - 0) + 1) 0 S (nI 0) (by omega) (by first | omega | assumption) (by rfl) rfl _ _ hP hS ls (lv_sub hl [1, 0] rfl)
theorem fl_X5_ends_7 : Cond.fieldLink RX5 7 "LampCountsModel" "comes" "[I" ∈ wsX5_ends := by decide +kernel
theorem fl_X5_ends_13 : Cond.fieldLink RX5 13 "LampCountsModel" "share" "[I" ∈ wsX5_ends := by decide +kernel
theorem fl_X5_ends_16 : Cond.fieldLink RX5 16 "LampCountsModel" "broken" "[Z" ∈ wsX5_ends := by decide +kernel
theorem fl_X5_ends_20 : Cond.fieldLink RX5 20 "LampCountsModel" "blind" "[I" ∈ wsX5_ends := by decide +kernel
theorem fl_X5_ends_23 : Cond.fieldLink RX5 23 "LampCountsModel" "steps" "[I" ∈ wsX5_ends := by decide +kernel
theorem fl_X5_ends_26 : Cond.fieldLink RX5 26 "LampCountsModel" "crowd" "[I" ∈ wsX5_ends := by decide +kernel
theorem fl_X5_ends_29 : Cond.fieldLink RX5 29 "LampCountsModel" "reading" "[I" ∈ wsX5_ends := by decide +kernel
theorem fl_X5_ends_32 : Cond.fieldLink RX5 32 "LampCountsModel" "player" "[I" ∈ wsX5_ends := by decide +kernel
theorem fl_X5_ends_35 : Cond.fieldLink RX5 35 "LampCountsModel" "through" "[I" ∈ wsX5_ends := by decide +kernel
theorem fl_X5_ends_77 : Cond.fieldLink RX5 77 "LampCountsModel" "skill" "[I" ∈ wsX5_ends := by decide +kernel
theorem fl_X5_ends_83 : Cond.fieldLink RX5 83 "LampCountsModel" "coins" "[I" ∈ wsX5_ends := by decide +kernel
theorem fl_X5_ends_103 : Cond.fieldLink RX5 103 "LampCountsModel" "now" "I" ∈ wsX5_ends := by decide +kernel
theorem in_X5_ends_X5 : ∀ w ∈ u_ws RX5 TX5 33, w ∈ wsX5_ends := by decide +kernel
set_option maxHeartbeats 4000000 in
set_option maxRecDepth 100000 in
theorem lp_X5_ends_10 {p : Program} {l : Launch} {e : Env} {u : State} {m : MethodId} {below : List Frame} {meth : Method} {c : Code} {D : va_G} {q : Nat → ClassId} {A : Nat → Prop} (a : Nat → Nat) (S : Nat → Nat → Int32) (w0 : Nat) (hw : S 0 1 = nI w0) (hw200 : w0 < 200) (hok : okML S) (C0 : kAt p u m #[.ref (a 0)] meth c cX5_ends 7 (some .int) RX5 wsX5_ends) (hK : kK D q u) :
    ∀ (f : Nat) (x : Nat) (T : Nat → Nat → Int32) (x1 : Int32) (x2 : Int32) (x3 : Int32), 12 - x < f → x ≤ 12 → T = (enF (placesM S w0) w0 x).2.2 → x1 = (enF (placesM S w0) w0 x).1 → x2 = (enF (placesM S w0) w0 x).2.1 → x3 = nI x → ∀ (H : Heap) (locs : List Loc), kW D A (wM q a T) H → va_S A u.heap H locs → ∀ (ls : Array Slot), lv_has ls 7 [(0, .ref (a 0)), (1, .int x1), (2, .int x2), (3, .int x3)] → W p l e ({ frames := 3, cells := 0, slots := 0, locals := 73 } : Room) u m #[.ref (a 0)] below meth c H locs 0 0 (MQ below (kRi D A (endsV S w0) (wM q a (endsM S w0))) #[.ref (a 0)] u 0 0 A) (F0 m 10 ls []) := by
  obtain ⟨hx, hb, hr, hml, hown, hts, hlocks⟩ := id C0
  intro f
  induction f with
  | zero =>
    intro x T x1 x2 x3 hf
    exact absurd hf (Nat.not_lt_zero _)
  | succ f ih =>
    intro x T x1 x2 x3 hf hx12 eT e1 e2 e3 H locs hP hS ls hl
    replace eT := eT.symm
    subst eT
    replace e1 := e1.symm
    subst e1
    replace e2 := e2.symm
    subst e2
    replace e3 := e3.symm
    subst e3
    refine lv_iload_n hx hb dX5_ends_10 rfl (lv_at hl 3 rfl) ?_
    refine lv_bipush (v := nI 12) hx hb dX5_ends_11 (by decide) ?_
    refine k_icmp_ge (P := x < 12) (tgt := 202) hx hb dX5_ends_13 (by decide) (nI_ltI (by omega) (by omega)) (fun c_1 => ?_) (fun c_1 => ?_)
    · skip
      obtain rfl : x = 12 := by omega
      refine lv_aload_n hx hb dX5_ends_202 rfl (lv_at hl 0 rfl) ?_
      refine va_get (D := D) (ci := 6) (v := .ref (a 10)) (C := RX5) (T := TX5) (N := 33) hx hb hts in_X5_ends_X5 hown hK.1 hP.1 0 rfl rfl 10 (by decide) (hts _ fl_X5_ends_35) (fun _ h9 => h9) rfl dX5_ends_203 ?_
      refine lv_aload_n hx hb dX5_ends_206 rfl (lv_at hl 0 rfl) ?_
      refine va_get (D := D) (ci := 6) (v := .int (((enF (placesM S w0) w0 12).2.2) 0 1)) (C := RX5) (T := TX5) (N := 33) hx hb hts in_X5_ends_X5 hown hK.1 hP.1 0 rfl rfl 1 (by decide) (hts _ fl_X5_ends_103) (fun _ h9 => h9) rfl dX5_ends_207 ?_
      refine k_top (y := nI w0) ((congrFun (enF_n (by decide) (by decide) (by decide) (by decide) _) 1).trans ((placesM_n0 (by decide)).trans hw)) ?_
      refine lv_iload_n hx hb dX5_ends_210 rfl (lv_at hl 2 rfl) ?_
      refine k_iast (wM q a ((up ((enF (placesM S w0) w0 12).2.2) 10 w0 ((enF (placesM S w0) w0 12).2.1)))) hx hb hK hP hS 9 rfl w0 rfl (by omega) (by decide) wM_s9 dX5_ends_211 (fun H locs hP hS => ?_)
      refine lv_aload_n hx hb dX5_ends_212 rfl (lv_at hl 0 rfl) ?_
      refine lv_dup hx hb dX5_ends_213 rfl ?_
      refine va_get (D := D) (ci := 6) (v := .int (((up ((enF (placesM S w0) w0 12).2.2) 10 w0 ((enF (placesM S w0) w0 12).2.1))) 0 1)) (C := RX5) (T := TX5) (N := 33) hx hb hts in_X5_ends_X5 hown hK.1 hP.1 0 rfl rfl 1 (by decide) (hts _ fl_X5_ends_103) (fun _ h9 => h9) rfl dX5_ends_214 ?_
      refine k_top (y := ((enF (placesM S w0) w0 12).2.2) 0 1) (congrFun (up_n (by decide)) _) ?_
      refine k_top (y := nI w0) ((congrFun (enF_n (by decide) (by decide) (by decide) (by decide) _) 1).trans ((placesM_n0 (by decide)).trans hw)) ?_
      refine lv_iconst (v := nI 1) hx hb dX5_ends_217 (by decide) ?_
      refine lv_iadd hx hb dX5_ends_218 ?_
      refine k_top (y := nI (w0 + 1)) (nI_add _ _) ?_
      refine k_puti (wM q a ((up (up ((enF (placesM S w0) w0 12).2.2) 10 w0 ((enF (placesM S w0) w0 12).2.1)) 0 1 (nI (w0 + 1))))) hx hb hts in_X5_ends_X5 tyX5 tyX5_ok nmX5 hown hK hP hS 0 rfl rfl 1 (by decide) (hts _ fl_X5_ends_103) (fun _ h9 => h9) rfl (by decide +kernel) (Nat.le_of_ble_eq_true rfl) wM_f0_1 dX5_ends_219 (fun H locs hP hS => ?_)
      refine lv_iload_n hx hb dX5_ends_222 rfl (lv_at hl 1 rfl) ?_
      have eM : (up (up ((enF (placesM S w0) w0 12).2.2) 10 w0 ((enF (placesM S w0) w0 12).2.1)) 0 1 (nI (w0 + 1))) = endsM S w0 := by rfl
      rw [eM] at hP
      exact k_iretW hx hb hr hlocks hP hS (by rfl) dX5_ends_223
    · skip
      refine lv_iload_n hx hb dX5_ends_16 rfl (lv_at hl 3 rfl) ?_
      refine lv_aload_n hx hb dX5_ends_17 rfl (lv_at hl 0 rfl) ?_
      refine va_get (D := D) (ci := 6) (v := .int (((enF (placesM S w0) w0 x).2.2) 0 1)) (C := RX5) (T := TX5) (N := 33) hx hb hts in_X5_ends_X5 hown hK.1 hP.1 0 rfl rfl 1 (by decide) (hts _ fl_X5_ends_103) (fun _ h9 => h9) rfl dX5_ends_18 ?_
      refine k_top (y := nI w0) ((congrFun (enF_n (by decide) (by decide) (by decide) (by decide) _) 1).trans ((placesM_n0 (by decide)).trans hw)) ?_
      refine k_callS (rest := []) (r := nI (w0 * 12 + x)) ⟨hx, hb, hml, hown, hts⟩ (c_X5_cell l D q x w0) (va_cwS 2 hts gX5_ends_X5_cell rfl rfl rfl (by decide +kernel) ⟨Nat.le_of_ble_eq_true rfl, Nat.le_of_ble_eq_true rfl⟩) hK trivial rfl hl.1 rfl (Nat.le_of_ble_eq_true rfl) dX5_ends_21 ⟨Nat.zero_le _, Nat.zero_le _⟩ (fun _ h => h) ?_
      refine lv_istore (lv' := [(4, .int (nI (w0 * 12 + x))), (0, .ref (a 0)), (1, .int ((enF (placesM S w0) w0 x).1)), (2, .int ((enF (placesM S w0) w0 x).2.1)), (3, .int (nI x))]) hx hb dX5_ends_24 hl (by decide) rfl (fun ls hl => ?_)
      refine lv_aload_n hx hb dX5_ends_26 rfl (lv_at hl 1 rfl) ?_
      refine va_get (D := D) (ci := 6) (v := .ref (a 9)) (C := RX5) (T := TX5) (N := 33) hx hb hts in_X5_ends_X5 hown hK.1 hP.1 0 rfl rfl 9 (by decide) (hts _ fl_X5_ends_32) (fun _ h9 => h9) rfl dX5_ends_27 ?_
      refine lv_iload hx hb dX5_ends_30 (lv_at hl 0 rfl) ?_
      refine k_iald hx hb hK hP.1 8 rfl (w0 * 12 + x) rfl (by omega) (by decide) dX5_ends_32 ?_
      refine lv_istore (lv' := [(5, .int (((enF (placesM S w0) w0 x).2.2) 9 (w0 * 12 + x))), (4, .int (nI (w0 * 12 + x))), (0, .ref (a 0)), (1, .int ((enF (placesM S w0) w0 x).1)), (2, .int ((enF (placesM S w0) w0 x).2.1)), (3, .int (nI x))]) hx hb dX5_ends_33 hl (by decide) rfl (fun ls hl => ?_)
      refine lv_iload_n hx hb dX5_ends_35 rfl (lv_at hl 4 rfl) ?_
      refine lv_aload_n hx hb dX5_ends_36 rfl (lv_at hl 2 rfl) ?_
      refine va_get (D := D) (ci := 6) (v := .ref (a 2)) (C := RX5) (T := TX5) (N := 33) hx hb hts in_X5_ends_X5 hown hK.1 hP.1 0 rfl rfl 2 (by decide) (hts _ fl_X5_ends_7) (fun _ h9 => h9) rfl dX5_ends_37 ?_
      refine lv_iload_n hx hb dX5_ends_40 rfl (lv_at hl 5 rfl) ?_
      refine k_iald hx hb hK hP.1 1 rfl x rfl (by omega) (by decide) dX5_ends_41 ?_
      refine lv_iadd hx hb dX5_ends_42 ?_
      refine lv_istore (lv' := [(6, .int (((enF (placesM S w0) w0 x).2.1) + (((enF (placesM S w0) w0 x).2.2) 2 x))), (5, .int (((enF (placesM S w0) w0 x).2.2) 9 (w0 * 12 + x))), (4, .int (nI (w0 * 12 + x))), (0, .ref (a 0)), (1, .int ((enF (placesM S w0) w0 x).1)), (2, .int ((enF (placesM S w0) w0 x).2.1)), (3, .int (nI x))]) hx hb dX5_ends_43 hl (by decide) rfl (fun ls hl => ?_)
      refine lv_aload_n hx hb dX5_ends_45 rfl (lv_at hl 3 rfl) ?_
      refine va_get (D := D) (ci := 6) (v := .ref (a 7)) (C := RX5) (T := TX5) (N := 33) hx hb hts in_X5_ends_X5 hown hK.1 hP.1 0 rfl rfl 7 (by decide) (hts _ fl_X5_ends_26) (fun _ h9 => h9) rfl dX5_ends_46 ?_
      refine lv_iload hx hb dX5_ends_49 (lv_at hl 2 rfl) ?_
      refine lv_iload hx hb dX5_ends_51 (lv_at hl 1 rfl) ?_
      refine lv_iconst (v := (-1)) hx hb dX5_ends_53 (by decide) ?_
      refine k_icmp_ne (P := ((enF (placesM S w0) w0 x).2.2) 9 (w0 * 12 + x) = (-1)) (tgt := 61) hx hb dX5_ends_54 (by decide) Iff.rfl (fun c_2 => ?_) (fun c_2 => ?_)
      · skip
        have hpl : ((enF (placesM S w0) w0 x).2.2) 9 (w0 * 12 + x) = -1 ∨ ∃ k, k < 6 ∧ ((enF (placesM S w0) w0 x).2.2) 9 (w0 * 12 + x) = nI k := by rw [enF_n (by decide) (by decide) (by decide) (by decide)]; exact okPl_places x (by omega)
        obtain ⟨en, hn6⟩ := k_nat hpl c_2
        refine lv_iload hx hb dX5_ends_61 (lv_at hl 0 rfl) ?_
        refine lv_aload_n hx hb dX5_ends_63 rfl (lv_at hl 3 rfl) ?_
        refine va_get (D := D) (ci := 6) (v := .ref (a 26)) (C := RX5) (T := TX5) (N := 33) hx hb hts in_X5_ends_X5 hown hK.1 hP.1 0 rfl rfl 26 (by decide) (hts _ fl_X5_ends_77) (fun _ h9 => h9) rfl dX5_ends_64 ?_
        refine lv_iload hx hb dX5_ends_67 (lv_at hl 1 rfl) ?_
        refine k_iald hx hb hK hP.1 23 rfl ((((enF (placesM S w0) w0 x).2.2) 9 (w0 * 12 + x)).toNatClampNeg) en (by omega) (by decide) dX5_ends_69 ?_
        refine lv_imul hx hb dX5_ends_70 ?_
        refine lv_bipush (v := nI 100) hx hb dX5_ends_71 (by decide) ?_
        refine lv_idiv hx hb dX5_ends_73 (by decide) ?_
        refine k_iast (wM q a ((up ((enF (placesM S w0) w0 x).2.2) 7 (w0 * 12 + x) (((((enF (placesM S w0) w0 x).2.1) + (((enF (placesM S w0) w0 x).2.2) 2 x)) * (((enF (placesM S w0) w0 x).2.2) 26 ((((enF (placesM S w0) w0 x).2.2) 9 (w0 * 12 + x)).toNatClampNeg))) / (nI 100))))) hx hb hK hP hS 6 rfl (w0 * 12 + x) rfl (by omega) (by decide) wM_s6 dX5_ends_74 (fun H locs hP hS => ?_)
        refine lv_aload_n hx hb dX5_ends_75 rfl (lv_at hl 3 rfl) ?_
        refine va_get (D := D) (ci := 6) (v := .ref (a 6)) (C := RX5) (T := TX5) (N := 33) hx hb hts in_X5_ends_X5 hown hK.1 hP.1 0 rfl rfl 6 (by decide) (hts _ fl_X5_ends_23) (fun _ h9 => h9) rfl dX5_ends_76 ?_
        refine lv_iload hx hb dX5_ends_79 (lv_at hl 2 rfl) ?_
        refine lv_iload hx hb dX5_ends_81 (lv_at hl 0 rfl) ?_
        refine lv_aload_n hx hb dX5_ends_83 rfl (lv_at hl 3 rfl) ?_
        refine va_get (D := D) (ci := 6) (v := .ref (a 7)) (C := RX5) (T := TX5) (N := 33) hx hb hts in_X5_ends_X5 hown hK.1 hP.1 0 rfl rfl 7 (by decide) (hts _ fl_X5_ends_26) (fun _ h9 => h9) rfl dX5_ends_84 ?_
        refine lv_iload hx hb dX5_ends_87 (lv_at hl 2 rfl) ?_
        refine k_iald hx hb hK hP.1 6 rfl (w0 * 12 + x) rfl (by omega) (by decide) dX5_ends_89 ?_
        refine k_top (y := ((((enF (placesM S w0) w0 x).2.1) + (((enF (placesM S w0) w0 x).2.2) 2 x)) * (((enF (placesM S w0) w0 x).2.2) 26 ((((enF (placesM S w0) w0 x).2.2) 9 (w0 * 12 + x)).toNatClampNeg))) / (nI 100)) (up_si _ _ _ _) ?_
        refine lv_iadd hx hb dX5_ends_90 ?_
        refine k_iast (wM q a ((up (up ((enF (placesM S w0) w0 x).2.2) 7 (w0 * 12 + x) (((((enF (placesM S w0) w0 x).2.1) + (((enF (placesM S w0) w0 x).2.2) 2 x)) * (((enF (placesM S w0) w0 x).2.2) 26 ((((enF (placesM S w0) w0 x).2.2) 9 (w0 * 12 + x)).toNatClampNeg))) / (nI 100))) 6 (w0 * 12 + x) ((((enF (placesM S w0) w0 x).2.1) + (((enF (placesM S w0) w0 x).2.2) 2 x)) + (((((enF (placesM S w0) w0 x).2.1) + (((enF (placesM S w0) w0 x).2.2) 2 x)) * (((enF (placesM S w0) w0 x).2.2) 26 ((((enF (placesM S w0) w0 x).2.2) 9 (w0 * 12 + x)).toNatClampNeg))) / (nI 100)))))) hx hb hK hP hS 5 rfl (w0 * 12 + x) rfl (by omega) (by decide) wM_s5 dX5_ends_91 (fun H locs hP hS => ?_)
        refine lv_iload hx hb dX5_ends_92 (lv_at hl 1 rfl) ?_
        refine lv_iconst (v := (-1)) hx hb dX5_ends_94 (by decide) ?_
        refine k_icmp_eq (P := ((enF (placesM S w0) w0 x).2.2) 9 (w0 * 12 + x) = (-1)) (tgt := 118) hx hb dX5_ends_95 (by decide) Iff.rfl (fun c_3 => ?_) (fun c_3 => ?_)
        · skip
          exact absurd c_3 c_2
        · skip
          refine lv_aload_n hx hb dX5_ends_98 rfl (lv_at hl 3 rfl) ?_
          refine va_get (D := D) (ci := 6) (v := .ref (a 28)) (C := RX5) (T := TX5) (N := 33) hx hb hts in_X5_ends_X5 hown hK.1 hP.1 0 rfl rfl 28 (by decide) (hts _ fl_X5_ends_83) (fun _ h9 => h9) rfl dX5_ends_99 ?_
          refine lv_iload hx hb dX5_ends_102 (lv_at hl 1 rfl) ?_
          refine lv_dup2_11 hx hb dX5_ends_104 rfl rfl ?_
          refine k_iald hx hb hK hP.1 25 rfl ((((enF (placesM S w0) w0 x).2.2) 9 (w0 * 12 + x)).toNatClampNeg) en (by omega) (by decide) dX5_ends_105 ?_
          refine k_top (y := ((enF (placesM S w0) w0 x).2.2) 28 ((((enF (placesM S w0) w0 x).2.2) 9 (w0 * 12 + x)).toNatClampNeg)) ((congrFun (up_n (by decide)) _).trans (congrFun (up_n (by decide)) _)) ?_
          refine lv_aload_n hx hb dX5_ends_106 rfl (lv_at hl 3 rfl) ?_
          refine va_get (D := D) (ci := 6) (v := .ref (a 7)) (C := RX5) (T := TX5) (N := 33) hx hb hts in_X5_ends_X5 hown hK.1 hP.1 0 rfl rfl 7 (by decide) (hts _ fl_X5_ends_26) (fun _ h9 => h9) rfl dX5_ends_107 ?_
          refine lv_iload hx hb dX5_ends_110 (lv_at hl 2 rfl) ?_
          refine k_iald hx hb hK hP.1 6 rfl (w0 * 12 + x) rfl (by omega) (by decide) dX5_ends_112 ?_
          refine k_top (y := ((((enF (placesM S w0) w0 x).2.1) + (((enF (placesM S w0) w0 x).2.2) 2 x)) * (((enF (placesM S w0) w0 x).2.2) 26 ((((enF (placesM S w0) w0 x).2.2) 9 (w0 * 12 + x)).toNatClampNeg))) / (nI 100)) ((congrFun (up_n (by decide)) _).trans (up_si _ _ _ _)) ?_
          refine lv_bipush (v := nI 10) hx hb dX5_ends_113 (by decide) ?_
          refine lv_idiv hx hb dX5_ends_115 (by decide) ?_
          refine lv_iadd hx hb dX5_ends_116 ?_
          refine k_iast (wM q a ((up (up (up ((enF (placesM S w0) w0 x).2.2) 7 (w0 * 12 + x) (((((enF (placesM S w0) w0 x).2.1) + (((enF (placesM S w0) w0 x).2.2) 2 x)) * (((enF (placesM S w0) w0 x).2.2) 26 ((((enF (placesM S w0) w0 x).2.2) 9 (w0 * 12 + x)).toNatClampNeg))) / (nI 100))) 6 (w0 * 12 + x) ((((enF (placesM S w0) w0 x).2.1) + (((enF (placesM S w0) w0 x).2.2) 2 x)) + (((((enF (placesM S w0) w0 x).2.1) + (((enF (placesM S w0) w0 x).2.2) 2 x)) * (((enF (placesM S w0) w0 x).2.2) 26 ((((enF (placesM S w0) w0 x).2.2) 9 (w0 * 12 + x)).toNatClampNeg))) / (nI 100)))) 28 ((((enF (placesM S w0) w0 x).2.2) 9 (w0 * 12 + x)).toNatClampNeg) ((((enF (placesM S w0) w0 x).2.2) 28 ((((enF (placesM S w0) w0 x).2.2) 9 (w0 * 12 + x)).toNatClampNeg)) + ((((((enF (placesM S w0) w0 x).2.1) + (((enF (placesM S w0) w0 x).2.2) 2 x)) * (((enF (placesM S w0) w0 x).2.2) 26 ((((enF (placesM S w0) w0 x).2.2) 9 (w0 * 12 + x)).toNatClampNeg))) / (nI 100)) / (nI 10)))))) hx hb hK hP hS 25 rfl ((((enF (placesM S w0) w0 x).2.2) 9 (w0 * 12 + x)).toNatClampNeg) en (by omega) (by decide) wM_s25 dX5_ends_117 (fun H locs hP hS => ?_)
          refine lv_aload_n hx hb dX5_ends_118 rfl (lv_at hl 3 rfl) ?_
          refine va_get (D := D) (ci := 6) (v := .ref (a 8)) (C := RX5) (T := TX5) (N := 33) hx hb hts in_X5_ends_X5 hown hK.1 hP.1 0 rfl rfl 8 (by decide) (hts _ fl_X5_ends_29) (fun _ h9 => h9) rfl dX5_ends_119 ?_
          refine lv_iload hx hb dX5_ends_122 (lv_at hl 2 rfl) ?_
          refine lv_aload_n hx hb dX5_ends_124 rfl (lv_at hl 3 rfl) ?_
          refine va_get (D := D) (ci := 6) (v := .ref (a 4)) (C := RX5) (T := TX5) (N := 33) hx hb hts in_X5_ends_X5 hown hK.1 hP.1 0 rfl rfl 4 (by decide) (hts _ fl_X5_ends_16) (fun _ h9 => h9) rfl dX5_ends_125 ?_
          refine lv_iload_n hx hb dX5_ends_128 rfl (lv_at hl 6 rfl) ?_
          refine k_zald hx hb hK hP.1 3 rfl x rfl (by omega) (by decide) dX5_ends_129 ?_
          refine k_top (y := ((enF (placesM S w0) w0 x).2.2) 4 x) ((congrFun (up_n (by decide)) _).trans ((congrFun (up_n (by decide)) _).trans (congrFun (up_n (by decide)) _))) ?_
          refine k_if_eq (P := ((enF (placesM S w0) w0 x).2.2) 4 x = 0) (tgt := 137) hx hb dX5_ends_130 (by decide) Iff.rfl (fun c_4 => ?_) (fun c_4 => ?_)
          · skip
            refine lv_aload_n hx hb dX5_ends_137 rfl (lv_at hl 3 rfl) ?_
            refine va_get (D := D) (ci := 6) (v := .ref (a 6)) (C := RX5) (T := TX5) (N := 33) hx hb hts in_X5_ends_X5 hown hK.1 hP.1 0 rfl rfl 6 (by decide) (hts _ fl_X5_ends_23) (fun _ h9 => h9) rfl dX5_ends_138 ?_
            refine lv_iload hx hb dX5_ends_141 (lv_at hl 2 rfl) ?_
            refine k_iald hx hb hK hP.1 5 rfl (w0 * 12 + x) rfl (by omega) (by decide) dX5_ends_143 ?_
            refine k_top (y := (((enF (placesM S w0) w0 x).2.1) + (((enF (placesM S w0) w0 x).2.2) 2 x)) + (((((enF (placesM S w0) w0 x).2.1) + (((enF (placesM S w0) w0 x).2.2) 2 x)) * (((enF (placesM S w0) w0 x).2.2) 26 ((((enF (placesM S w0) w0 x).2.2) 9 (w0 * 12 + x)).toNatClampNeg))) / (nI 100))) ((congrFun (up_n (by decide)) _).trans (up_si _ _ _ _)) ?_
            refine lv_aload_n hx hb dX5_ends_144 rfl (lv_at hl 3 rfl) ?_
            refine va_get (D := D) (ci := 6) (v := .ref (a 5)) (C := RX5) (T := TX5) (N := 33) hx hb hts in_X5_ends_X5 hown hK.1 hP.1 0 rfl rfl 5 (by decide) (hts _ fl_X5_ends_20) (fun _ h9 => h9) rfl dX5_ends_145 ?_
            refine lv_iload_n hx hb dX5_ends_148 rfl (lv_at hl 6 rfl) ?_
            refine k_iald hx hb hK hP.1 4 rfl x rfl (by omega) (by decide) dX5_ends_149 ?_
            refine k_top (y := ((enF (placesM S w0) w0 x).2.2) 5 x) ((congrFun (up_n (by decide)) _).trans ((congrFun (up_n (by decide)) _).trans (congrFun (up_n (by decide)) _))) ?_
            refine k_callS (rest := [.int (nI (w0 * 12 + x)), .ref (a 8)]) (r := rsM ((((enF (placesM S w0) w0 x).2.1) + (((enF (placesM S w0) w0 x).2.2) 2 x)) + (((((enF (placesM S w0) w0 x).2.1) + (((enF (placesM S w0) w0 x).2.2) 2 x)) * (((enF (placesM S w0) w0 x).2.2) 26 ((((enF (placesM S w0) w0 x).2.2) 9 (w0 * 12 + x)).toNatClampNeg))) / (nI 100))) (((enF (placesM S w0) w0 x).2.2) 5 x)) ⟨hx, hb, hml, hown, hts⟩ (c_X5_reads l D q ((((enF (placesM S w0) w0 x).2.1) + (((enF (placesM S w0) w0 x).2.2) 2 x)) + (((((enF (placesM S w0) w0 x).2.1) + (((enF (placesM S w0) w0 x).2.2) 2 x)) * (((enF (placesM S w0) w0 x).2.2) 26 ((((enF (placesM S w0) w0 x).2.2) 9 (w0 * 12 + x)).toNatClampNeg))) / (nI 100))) (((enF (placesM S w0) w0 x).2.2) 5 x)) (va_cwS 2 hts gX5_ends_X5_reads rfl rfl rfl (by decide +kernel) ⟨Nat.le_of_ble_eq_true rfl, Nat.le_of_ble_eq_true rfl⟩) hK trivial rfl hl.1 rfl (Nat.le_of_ble_eq_true rfl) dX5_ends_150 ⟨Nat.zero_le _, Nat.zero_le _⟩ (fun _ h => h) ?_
            refine k_iast (wM q a ((up (up (up (up ((enF (placesM S w0) w0 x).2.2) 7 (w0 * 12 + x) (((((enF (placesM S w0) w0 x).2.1) + (((enF (placesM S w0) w0 x).2.2) 2 x)) * (((enF (placesM S w0) w0 x).2.2) 26 ((((enF (placesM S w0) w0 x).2.2) 9 (w0 * 12 + x)).toNatClampNeg))) / (nI 100))) 6 (w0 * 12 + x) ((((enF (placesM S w0) w0 x).2.1) + (((enF (placesM S w0) w0 x).2.2) 2 x)) + (((((enF (placesM S w0) w0 x).2.1) + (((enF (placesM S w0) w0 x).2.2) 2 x)) * (((enF (placesM S w0) w0 x).2.2) 26 ((((enF (placesM S w0) w0 x).2.2) 9 (w0 * 12 + x)).toNatClampNeg))) / (nI 100)))) 28 ((((enF (placesM S w0) w0 x).2.2) 9 (w0 * 12 + x)).toNatClampNeg) ((((enF (placesM S w0) w0 x).2.2) 28 ((((enF (placesM S w0) w0 x).2.2) 9 (w0 * 12 + x)).toNatClampNeg)) + ((((((enF (placesM S w0) w0 x).2.1) + (((enF (placesM S w0) w0 x).2.2) 2 x)) * (((enF (placesM S w0) w0 x).2.2) 26 ((((enF (placesM S w0) w0 x).2.2) 9 (w0 * 12 + x)).toNatClampNeg))) / (nI 100)) / (nI 10)))) 8 (w0 * 12 + x) (rsM ((((enF (placesM S w0) w0 x).2.1) + (((enF (placesM S w0) w0 x).2.2) 2 x)) + (((((enF (placesM S w0) w0 x).2.1) + (((enF (placesM S w0) w0 x).2.2) 2 x)) * (((enF (placesM S w0) w0 x).2.2) 26 ((((enF (placesM S w0) w0 x).2.2) 9 (w0 * 12 + x)).toNatClampNeg))) / (nI 100))) (((enF (placesM S w0) w0 x).2.2) 5 x))))) hx hb hK hP hS 7 rfl (w0 * 12 + x) rfl (by omega) (by decide) wM_s7 dX5_ends_153 (fun H locs hP hS => ?_)
            refine lv_iload hx hb dX5_ends_154 (lv_at hl 0 rfl) ?_
            refine lv_aload_n hx hb dX5_ends_156 rfl (lv_at hl 3 rfl) ?_
            refine va_get (D := D) (ci := 6) (v := .ref (a 7)) (C := RX5) (T := TX5) (N := 33) hx hb hts in_X5_ends_X5 hown hK.1 hP.1 0 rfl rfl 7 (by decide) (hts _ fl_X5_ends_26) (fun _ h9 => h9) rfl dX5_ends_157 ?_
            refine lv_iload hx hb dX5_ends_160 (lv_at hl 2 rfl) ?_
            refine k_iald hx hb hK hP.1 6 rfl (w0 * 12 + x) rfl (by omega) (by decide) dX5_ends_162 ?_
            refine k_top (y := ((((enF (placesM S w0) w0 x).2.1) + (((enF (placesM S w0) w0 x).2.2) 2 x)) * (((enF (placesM S w0) w0 x).2.2) 26 ((((enF (placesM S w0) w0 x).2.2) 9 (w0 * 12 + x)).toNatClampNeg))) / (nI 100)) ((congrFun (up_n (by decide)) _).trans ((congrFun (up_n (by decide)) _).trans ((congrFun (up_n (by decide)) _).trans (up_si _ _ _ _)))) ?_
            refine lv_isub hx hb dX5_ends_163 ?_
            refine lv_iload hx hb dX5_ends_164 (lv_at hl 0 rfl) ?_
            refine lv_aload_n hx hb dX5_ends_166 rfl (lv_at hl 3 rfl) ?_
            refine va_get (D := D) (ci := 6) (v := .ref (a 7)) (C := RX5) (T := TX5) (N := 33) hx hb hts in_X5_ends_X5 hown hK.1 hP.1 0 rfl rfl 7 (by decide) (hts _ fl_X5_ends_26) (fun _ h9 => h9) rfl dX5_ends_167 ?_
            refine lv_iload hx hb dX5_ends_170 (lv_at hl 2 rfl) ?_
            refine k_iald hx hb hK hP.1 6 rfl (w0 * 12 + x) rfl (by omega) (by decide) dX5_ends_172 ?_
            refine k_top (y := ((((enF (placesM S w0) w0 x).2.1) + (((enF (placesM S w0) w0 x).2.2) 2 x)) * (((enF (placesM S w0) w0 x).2.2) 26 ((((enF (placesM S w0) w0 x).2.2) 9 (w0 * 12 + x)).toNatClampNeg))) / (nI 100)) ((congrFun (up_n (by decide)) _).trans ((congrFun (up_n (by decide)) _).trans ((congrFun (up_n (by decide)) _).trans (up_si _ _ _ _)))) ?_
            refine lv_isub hx hb dX5_ends_173 ?_
            refine lv_aload_n hx hb dX5_ends_174 rfl (lv_at hl 3 rfl) ?_
            refine va_get (D := D) (ci := 6) (v := .ref (a 3)) (C := RX5) (T := TX5) (N := 33) hx hb hts in_X5_ends_X5 hown hK.1 hP.1 0 rfl rfl 3 (by decide) (hts _ fl_X5_ends_13) (fun _ h9 => h9) rfl dX5_ends_175 ?_
            refine lv_iload_n hx hb dX5_ends_178 rfl (lv_at hl 6 rfl) ?_
            refine k_iald hx hb hK hP.1 2 rfl x rfl (by omega) (by decide) dX5_ends_179 ?_
            refine k_top (y := ((enF (placesM S w0) w0 x).2.2) 3 x) ((congrFun (up_n (by decide)) _).trans ((congrFun (up_n (by decide)) _).trans ((congrFun (up_n (by decide)) _).trans (congrFun (up_n (by decide)) _)))) ?_
            refine lv_imul hx hb dX5_ends_180 ?_
            refine lv_bipush (v := nI 100) hx hb dX5_ends_181 (by decide) ?_
            refine lv_idiv hx hb dX5_ends_183 (by decide) ?_
            refine lv_isub hx hb dX5_ends_184 ?_
            refine lv_istore_n (lv' := [(2, .int (((((enF (placesM S w0) w0 x).2.1) + (((enF (placesM S w0) w0 x).2.2) 2 x)) - (((((enF (placesM S w0) w0 x).2.1) + (((enF (placesM S w0) w0 x).2.2) 2 x)) * (((enF (placesM S w0) w0 x).2.2) 26 ((((enF (placesM S w0) w0 x).2.2) 9 (w0 * 12 + x)).toNatClampNeg))) / (nI 100))) - ((((((enF (placesM S w0) w0 x).2.1) + (((enF (placesM S w0) w0 x).2.2) 2 x)) - (((((enF (placesM S w0) w0 x).2.1) + (((enF (placesM S w0) w0 x).2.2) 2 x)) * (((enF (placesM S w0) w0 x).2.2) 26 ((((enF (placesM S w0) w0 x).2.2) 9 (w0 * 12 + x)).toNatClampNeg))) / (nI 100))) * (((enF (placesM S w0) w0 x).2.2) 3 x)) / (nI 100)))), (6, .int (((enF (placesM S w0) w0 x).2.1) + (((enF (placesM S w0) w0 x).2.2) 2 x))), (5, .int (((enF (placesM S w0) w0 x).2.2) 9 (w0 * 12 + x))), (4, .int (nI (w0 * 12 + x))), (0, .ref (a 0)), (1, .int ((enF (placesM S w0) w0 x).1)), (3, .int (nI x))]) hx hb dX5_ends_185 rfl hl (by decide) rfl (fun ls hl => ?_)
            refine lv_iload_n hx hb dX5_ends_186 rfl (lv_at hl 5 rfl) ?_
            refine lv_aload_n hx hb dX5_ends_187 rfl (lv_at hl 4 rfl) ?_
            refine va_get (D := D) (ci := 6) (v := .ref (a 6)) (C := RX5) (T := TX5) (N := 33) hx hb hts in_X5_ends_X5 hown hK.1 hP.1 0 rfl rfl 6 (by decide) (hts _ fl_X5_ends_23) (fun _ h9 => h9) rfl dX5_ends_188 ?_
            refine lv_iload hx hb dX5_ends_191 (lv_at hl 3 rfl) ?_
            refine k_iald hx hb hK hP.1 5 rfl (w0 * 12 + x) rfl (by omega) (by decide) dX5_ends_193 ?_
            refine k_top (y := (((enF (placesM S w0) w0 x).2.1) + (((enF (placesM S w0) w0 x).2.2) 2 x)) + (((((enF (placesM S w0) w0 x).2.1) + (((enF (placesM S w0) w0 x).2.2) 2 x)) * (((enF (placesM S w0) w0 x).2.2) 26 ((((enF (placesM S w0) w0 x).2.2) 9 (w0 * 12 + x)).toNatClampNeg))) / (nI 100))) ((congrFun (up_n (by decide)) _).trans ((congrFun (up_n (by decide)) _).trans (up_si _ _ _ _))) ?_
            refine lv_iadd hx hb dX5_ends_194 ?_
            refine lv_istore_n (lv' := [(1, .int (((enF (placesM S w0) w0 x).1) + ((((enF (placesM S w0) w0 x).2.1) + (((enF (placesM S w0) w0 x).2.2) 2 x)) + (((((enF (placesM S w0) w0 x).2.1) + (((enF (placesM S w0) w0 x).2.2) 2 x)) * (((enF (placesM S w0) w0 x).2.2) 26 ((((enF (placesM S w0) w0 x).2.2) 9 (w0 * 12 + x)).toNatClampNeg))) / (nI 100))))), (2, .int (((((enF (placesM S w0) w0 x).2.1) + (((enF (placesM S w0) w0 x).2.2) 2 x)) - (((((enF (placesM S w0) w0 x).2.1) + (((enF (placesM S w0) w0 x).2.2) 2 x)) * (((enF (placesM S w0) w0 x).2.2) 26 ((((enF (placesM S w0) w0 x).2.2) 9 (w0 * 12 + x)).toNatClampNeg))) / (nI 100))) - ((((((enF (placesM S w0) w0 x).2.1) + (((enF (placesM S w0) w0 x).2.2) 2 x)) - (((((enF (placesM S w0) w0 x).2.1) + (((enF (placesM S w0) w0 x).2.2) 2 x)) * (((enF (placesM S w0) w0 x).2.2) 26 ((((enF (placesM S w0) w0 x).2.2) 9 (w0 * 12 + x)).toNatClampNeg))) / (nI 100))) * (((enF (placesM S w0) w0 x).2.2) 3 x)) / (nI 100)))), (6, .int (((enF (placesM S w0) w0 x).2.1) + (((enF (placesM S w0) w0 x).2.2) 2 x))), (5, .int (((enF (placesM S w0) w0 x).2.2) 9 (w0 * 12 + x))), (4, .int (nI (w0 * 12 + x))), (0, .ref (a 0)), (3, .int (nI x))]) hx hb dX5_ends_195 rfl hl (by decide) rfl (fun ls hl => ?_)
            refine lv_iinc (v := nI (x + 1)) (lv' := [(3, .int (nI (x + 1))), (1, .int (((enF (placesM S w0) w0 x).1) + ((((enF (placesM S w0) w0 x).2.1) + (((enF (placesM S w0) w0 x).2.2) 2 x)) + (((((enF (placesM S w0) w0 x).2.1) + (((enF (placesM S w0) w0 x).2.2) 2 x)) * (((enF (placesM S w0) w0 x).2.2) 26 ((((enF (placesM S w0) w0 x).2.2) 9 (w0 * 12 + x)).toNatClampNeg))) / (nI 100))))), (2, .int (((((enF (placesM S w0) w0 x).2.1) + (((enF (placesM S w0) w0 x).2.2) 2 x)) - (((((enF (placesM S w0) w0 x).2.1) + (((enF (placesM S w0) w0 x).2.2) 2 x)) * (((enF (placesM S w0) w0 x).2.2) 26 ((((enF (placesM S w0) w0 x).2.2) 9 (w0 * 12 + x)).toNatClampNeg))) / (nI 100))) - ((((((enF (placesM S w0) w0 x).2.1) + (((enF (placesM S w0) w0 x).2.2) 2 x)) - (((((enF (placesM S w0) w0 x).2.1) + (((enF (placesM S w0) w0 x).2.2) 2 x)) * (((enF (placesM S w0) w0 x).2.2) 26 ((((enF (placesM S w0) w0 x).2.2) 9 (w0 * 12 + x)).toNatClampNeg))) / (nI 100))) * (((enF (placesM S w0) w0 x).2.2) 3 x)) / (nI 100)))), (6, .int (((enF (placesM S w0) w0 x).2.1) + (((enF (placesM S w0) w0 x).2.2) 2 x))), (5, .int (((enF (placesM S w0) w0 x).2.2) 9 (w0 * 12 + x))), (4, .int (nI (w0 * 12 + x))), (0, .ref (a 0))]) hx hb dX5_ends_196 hl (k := 6) rfl (k_iinc _) (by decide) rfl (fun ls hl => ?_)
            refine lv_goto (tgt := 10) hx hb dX5_ends_199 (by decide) ?_
            exact ih (x + 1) ((up (up (up (up ((enF (placesM S w0) w0 x).2.2) 7 (w0 * 12 + x) (((((enF (placesM S w0) w0 x).2.1) + (((enF (placesM S w0) w0 x).2.2) 2 x)) * (((enF (placesM S w0) w0 x).2.2) 26 ((((enF (placesM S w0) w0 x).2.2) 9 (w0 * 12 + x)).toNatClampNeg))) / (nI 100))) 6 (w0 * 12 + x) ((((enF (placesM S w0) w0 x).2.1) + (((enF (placesM S w0) w0 x).2.2) 2 x)) + (((((enF (placesM S w0) w0 x).2.1) + (((enF (placesM S w0) w0 x).2.2) 2 x)) * (((enF (placesM S w0) w0 x).2.2) 26 ((((enF (placesM S w0) w0 x).2.2) 9 (w0 * 12 + x)).toNatClampNeg))) / (nI 100)))) 28 ((((enF (placesM S w0) w0 x).2.2) 9 (w0 * 12 + x)).toNatClampNeg) ((((enF (placesM S w0) w0 x).2.2) 28 ((((enF (placesM S w0) w0 x).2.2) 9 (w0 * 12 + x)).toNatClampNeg)) + ((((((enF (placesM S w0) w0 x).2.1) + (((enF (placesM S w0) w0 x).2.2) 2 x)) * (((enF (placesM S w0) w0 x).2.2) 26 ((((enF (placesM S w0) w0 x).2.2) 9 (w0 * 12 + x)).toNatClampNeg))) / (nI 100)) / (nI 10)))) 8 (w0 * 12 + x) (rsM ((((enF (placesM S w0) w0 x).2.1) + (((enF (placesM S w0) w0 x).2.2) 2 x)) + (((((enF (placesM S w0) w0 x).2.1) + (((enF (placesM S w0) w0 x).2.2) 2 x)) * (((enF (placesM S w0) w0 x).2.2) 26 ((((enF (placesM S w0) w0 x).2.2) 9 (w0 * 12 + x)).toNatClampNeg))) / (nI 100))) (((enF (placesM S w0) w0 x).2.2) 5 x)))) (((enF (placesM S w0) w0 x).1) + ((((enF (placesM S w0) w0 x).2.1) + (((enF (placesM S w0) w0 x).2.2) 2 x)) + (((((enF (placesM S w0) w0 x).2.1) + (((enF (placesM S w0) w0 x).2.2) 2 x)) * (((enF (placesM S w0) w0 x).2.2) 26 ((((enF (placesM S w0) w0 x).2.2) 9 (w0 * 12 + x)).toNatClampNeg))) / (nI 100)))) (((((enF (placesM S w0) w0 x).2.1) + (((enF (placesM S w0) w0 x).2.2) 2 x)) - (((((enF (placesM S w0) w0 x).2.1) + (((enF (placesM S w0) w0 x).2.2) 2 x)) * (((enF (placesM S w0) w0 x).2.2) 26 ((((enF (placesM S w0) w0 x).2.2) 9 (w0 * 12 + x)).toNatClampNeg))) / (nI 100))) - ((((((enF (placesM S w0) w0 x).2.1) + (((enF (placesM S w0) w0 x).2.2) 2 x)) - (((((enF (placesM S w0) w0 x).2.1) + (((enF (placesM S w0) w0 x).2.2) 2 x)) * (((enF (placesM S w0) w0 x).2.2) 26 ((((enF (placesM S w0) w0 x).2.2) 9 (w0 * 12 + x)).toNatClampNeg))) / (nI 100))) * (((enF (placesM S w0) w0 x).2.2) 3 x)) / (nI 100))) (nI (x + 1)) (by omega) (by first | omega | assumption) (by rw [enF_s]; unfold enS; first | (simp only [if_neg c_2, if_pos c_4]; done) | (simp only [if_neg c_2, if_pos c_4]; rfl)) (by rw [enF_s]; unfold enS; first | (simp only [if_neg c_2, if_pos c_4]; done) | (simp only [if_neg c_2, if_pos c_4]; rfl)) (by rw [enF_s]; unfold enS; first | (simp only [if_neg c_2, if_pos c_4]; done) | (simp only [if_neg c_2, if_pos c_4]; rfl)) rfl _ _ hP hS ls (lv_sub hl [6, 1, 2, 0] rfl)
          · skip
            refine lv_iconst (v := (-1)) hx hb dX5_ends_133 (by decide) ?_
            refine lv_goto (tgt := 153) hx hb dX5_ends_134 (by decide) ?_
            refine k_iast (wM q a ((up (up (up (up ((enF (placesM S w0) w0 x).2.2) 7 (w0 * 12 + x) (((((enF (placesM S w0) w0 x).2.1) + (((enF (placesM S w0) w0 x).2.2) 2 x)) * (((enF (placesM S w0) w0 x).2.2) 26 ((((enF (placesM S w0) w0 x).2.2) 9 (w0 * 12 + x)).toNatClampNeg))) / (nI 100))) 6 (w0 * 12 + x) ((((enF (placesM S w0) w0 x).2.1) + (((enF (placesM S w0) w0 x).2.2) 2 x)) + (((((enF (placesM S w0) w0 x).2.1) + (((enF (placesM S w0) w0 x).2.2) 2 x)) * (((enF (placesM S w0) w0 x).2.2) 26 ((((enF (placesM S w0) w0 x).2.2) 9 (w0 * 12 + x)).toNatClampNeg))) / (nI 100)))) 28 ((((enF (placesM S w0) w0 x).2.2) 9 (w0 * 12 + x)).toNatClampNeg) ((((enF (placesM S w0) w0 x).2.2) 28 ((((enF (placesM S w0) w0 x).2.2) 9 (w0 * 12 + x)).toNatClampNeg)) + ((((((enF (placesM S w0) w0 x).2.1) + (((enF (placesM S w0) w0 x).2.2) 2 x)) * (((enF (placesM S w0) w0 x).2.2) 26 ((((enF (placesM S w0) w0 x).2.2) 9 (w0 * 12 + x)).toNatClampNeg))) / (nI 100)) / (nI 10)))) 8 (w0 * 12 + x) ((-1))))) hx hb hK hP hS 7 rfl (w0 * 12 + x) rfl (by omega) (by decide) wM_s7 dX5_ends_153 (fun H locs hP hS => ?_)
            refine lv_iload hx hb dX5_ends_154 (lv_at hl 0 rfl) ?_
            refine lv_aload_n hx hb dX5_ends_156 rfl (lv_at hl 3 rfl) ?_
            refine va_get (D := D) (ci := 6) (v := .ref (a 7)) (C := RX5) (T := TX5) (N := 33) hx hb hts in_X5_ends_X5 hown hK.1 hP.1 0 rfl rfl 7 (by decide) (hts _ fl_X5_ends_26) (fun _ h9 => h9) rfl dX5_ends_157 ?_
            refine lv_iload hx hb dX5_ends_160 (lv_at hl 2 rfl) ?_
            refine k_iald hx hb hK hP.1 6 rfl (w0 * 12 + x) rfl (by omega) (by decide) dX5_ends_162 ?_
            refine k_top (y := ((((enF (placesM S w0) w0 x).2.1) + (((enF (placesM S w0) w0 x).2.2) 2 x)) * (((enF (placesM S w0) w0 x).2.2) 26 ((((enF (placesM S w0) w0 x).2.2) 9 (w0 * 12 + x)).toNatClampNeg))) / (nI 100)) ((congrFun (up_n (by decide)) _).trans ((congrFun (up_n (by decide)) _).trans ((congrFun (up_n (by decide)) _).trans (up_si _ _ _ _)))) ?_
            refine lv_isub hx hb dX5_ends_163 ?_
            refine lv_iload hx hb dX5_ends_164 (lv_at hl 0 rfl) ?_
            refine lv_aload_n hx hb dX5_ends_166 rfl (lv_at hl 3 rfl) ?_
            refine va_get (D := D) (ci := 6) (v := .ref (a 7)) (C := RX5) (T := TX5) (N := 33) hx hb hts in_X5_ends_X5 hown hK.1 hP.1 0 rfl rfl 7 (by decide) (hts _ fl_X5_ends_26) (fun _ h9 => h9) rfl dX5_ends_167 ?_
            refine lv_iload hx hb dX5_ends_170 (lv_at hl 2 rfl) ?_
            refine k_iald hx hb hK hP.1 6 rfl (w0 * 12 + x) rfl (by omega) (by decide) dX5_ends_172 ?_
            refine k_top (y := ((((enF (placesM S w0) w0 x).2.1) + (((enF (placesM S w0) w0 x).2.2) 2 x)) * (((enF (placesM S w0) w0 x).2.2) 26 ((((enF (placesM S w0) w0 x).2.2) 9 (w0 * 12 + x)).toNatClampNeg))) / (nI 100)) ((congrFun (up_n (by decide)) _).trans ((congrFun (up_n (by decide)) _).trans ((congrFun (up_n (by decide)) _).trans (up_si _ _ _ _)))) ?_
            refine lv_isub hx hb dX5_ends_173 ?_
            refine lv_aload_n hx hb dX5_ends_174 rfl (lv_at hl 3 rfl) ?_
            refine va_get (D := D) (ci := 6) (v := .ref (a 3)) (C := RX5) (T := TX5) (N := 33) hx hb hts in_X5_ends_X5 hown hK.1 hP.1 0 rfl rfl 3 (by decide) (hts _ fl_X5_ends_13) (fun _ h9 => h9) rfl dX5_ends_175 ?_
            refine lv_iload_n hx hb dX5_ends_178 rfl (lv_at hl 6 rfl) ?_
            refine k_iald hx hb hK hP.1 2 rfl x rfl (by omega) (by decide) dX5_ends_179 ?_
            refine k_top (y := ((enF (placesM S w0) w0 x).2.2) 3 x) ((congrFun (up_n (by decide)) _).trans ((congrFun (up_n (by decide)) _).trans ((congrFun (up_n (by decide)) _).trans (congrFun (up_n (by decide)) _)))) ?_
            refine lv_imul hx hb dX5_ends_180 ?_
            refine lv_bipush (v := nI 100) hx hb dX5_ends_181 (by decide) ?_
            refine lv_idiv hx hb dX5_ends_183 (by decide) ?_
            refine lv_isub hx hb dX5_ends_184 ?_
            refine lv_istore_n (lv' := [(2, .int (((((enF (placesM S w0) w0 x).2.1) + (((enF (placesM S w0) w0 x).2.2) 2 x)) - (((((enF (placesM S w0) w0 x).2.1) + (((enF (placesM S w0) w0 x).2.2) 2 x)) * (((enF (placesM S w0) w0 x).2.2) 26 ((((enF (placesM S w0) w0 x).2.2) 9 (w0 * 12 + x)).toNatClampNeg))) / (nI 100))) - ((((((enF (placesM S w0) w0 x).2.1) + (((enF (placesM S w0) w0 x).2.2) 2 x)) - (((((enF (placesM S w0) w0 x).2.1) + (((enF (placesM S w0) w0 x).2.2) 2 x)) * (((enF (placesM S w0) w0 x).2.2) 26 ((((enF (placesM S w0) w0 x).2.2) 9 (w0 * 12 + x)).toNatClampNeg))) / (nI 100))) * (((enF (placesM S w0) w0 x).2.2) 3 x)) / (nI 100)))), (6, .int (((enF (placesM S w0) w0 x).2.1) + (((enF (placesM S w0) w0 x).2.2) 2 x))), (5, .int (((enF (placesM S w0) w0 x).2.2) 9 (w0 * 12 + x))), (4, .int (nI (w0 * 12 + x))), (0, .ref (a 0)), (1, .int ((enF (placesM S w0) w0 x).1)), (3, .int (nI x))]) hx hb dX5_ends_185 rfl hl (by decide) rfl (fun ls hl => ?_)
            refine lv_iload_n hx hb dX5_ends_186 rfl (lv_at hl 5 rfl) ?_
            refine lv_aload_n hx hb dX5_ends_187 rfl (lv_at hl 4 rfl) ?_
            refine va_get (D := D) (ci := 6) (v := .ref (a 6)) (C := RX5) (T := TX5) (N := 33) hx hb hts in_X5_ends_X5 hown hK.1 hP.1 0 rfl rfl 6 (by decide) (hts _ fl_X5_ends_23) (fun _ h9 => h9) rfl dX5_ends_188 ?_
            refine lv_iload hx hb dX5_ends_191 (lv_at hl 3 rfl) ?_
            refine k_iald hx hb hK hP.1 5 rfl (w0 * 12 + x) rfl (by omega) (by decide) dX5_ends_193 ?_
            refine k_top (y := (((enF (placesM S w0) w0 x).2.1) + (((enF (placesM S w0) w0 x).2.2) 2 x)) + (((((enF (placesM S w0) w0 x).2.1) + (((enF (placesM S w0) w0 x).2.2) 2 x)) * (((enF (placesM S w0) w0 x).2.2) 26 ((((enF (placesM S w0) w0 x).2.2) 9 (w0 * 12 + x)).toNatClampNeg))) / (nI 100))) ((congrFun (up_n (by decide)) _).trans ((congrFun (up_n (by decide)) _).trans (up_si _ _ _ _))) ?_
            refine lv_iadd hx hb dX5_ends_194 ?_
            refine lv_istore_n (lv' := [(1, .int (((enF (placesM S w0) w0 x).1) + ((((enF (placesM S w0) w0 x).2.1) + (((enF (placesM S w0) w0 x).2.2) 2 x)) + (((((enF (placesM S w0) w0 x).2.1) + (((enF (placesM S w0) w0 x).2.2) 2 x)) * (((enF (placesM S w0) w0 x).2.2) 26 ((((enF (placesM S w0) w0 x).2.2) 9 (w0 * 12 + x)).toNatClampNeg))) / (nI 100))))), (2, .int (((((enF (placesM S w0) w0 x).2.1) + (((enF (placesM S w0) w0 x).2.2) 2 x)) - (((((enF (placesM S w0) w0 x).2.1) + (((enF (placesM S w0) w0 x).2.2) 2 x)) * (((enF (placesM S w0) w0 x).2.2) 26 ((((enF (placesM S w0) w0 x).2.2) 9 (w0 * 12 + x)).toNatClampNeg))) / (nI 100))) - ((((((enF (placesM S w0) w0 x).2.1) + (((enF (placesM S w0) w0 x).2.2) 2 x)) - (((((enF (placesM S w0) w0 x).2.1) + (((enF (placesM S w0) w0 x).2.2) 2 x)) * (((enF (placesM S w0) w0 x).2.2) 26 ((((enF (placesM S w0) w0 x).2.2) 9 (w0 * 12 + x)).toNatClampNeg))) / (nI 100))) * (((enF (placesM S w0) w0 x).2.2) 3 x)) / (nI 100)))), (6, .int (((enF (placesM S w0) w0 x).2.1) + (((enF (placesM S w0) w0 x).2.2) 2 x))), (5, .int (((enF (placesM S w0) w0 x).2.2) 9 (w0 * 12 + x))), (4, .int (nI (w0 * 12 + x))), (0, .ref (a 0)), (3, .int (nI x))]) hx hb dX5_ends_195 rfl hl (by decide) rfl (fun ls hl => ?_)
            refine lv_iinc (v := nI (x + 1)) (lv' := [(3, .int (nI (x + 1))), (1, .int (((enF (placesM S w0) w0 x).1) + ((((enF (placesM S w0) w0 x).2.1) + (((enF (placesM S w0) w0 x).2.2) 2 x)) + (((((enF (placesM S w0) w0 x).2.1) + (((enF (placesM S w0) w0 x).2.2) 2 x)) * (((enF (placesM S w0) w0 x).2.2) 26 ((((enF (placesM S w0) w0 x).2.2) 9 (w0 * 12 + x)).toNatClampNeg))) / (nI 100))))), (2, .int (((((enF (placesM S w0) w0 x).2.1) + (((enF (placesM S w0) w0 x).2.2) 2 x)) - (((((enF (placesM S w0) w0 x).2.1) + (((enF (placesM S w0) w0 x).2.2) 2 x)) * (((enF (placesM S w0) w0 x).2.2) 26 ((((enF (placesM S w0) w0 x).2.2) 9 (w0 * 12 + x)).toNatClampNeg))) / (nI 100))) - ((((((enF (placesM S w0) w0 x).2.1) + (((enF (placesM S w0) w0 x).2.2) 2 x)) - (((((enF (placesM S w0) w0 x).2.1) + (((enF (placesM S w0) w0 x).2.2) 2 x)) * (((enF (placesM S w0) w0 x).2.2) 26 ((((enF (placesM S w0) w0 x).2.2) 9 (w0 * 12 + x)).toNatClampNeg))) / (nI 100))) * (((enF (placesM S w0) w0 x).2.2) 3 x)) / (nI 100)))), (6, .int (((enF (placesM S w0) w0 x).2.1) + (((enF (placesM S w0) w0 x).2.2) 2 x))), (5, .int (((enF (placesM S w0) w0 x).2.2) 9 (w0 * 12 + x))), (4, .int (nI (w0 * 12 + x))), (0, .ref (a 0))]) hx hb dX5_ends_196 hl (k := 6) rfl (k_iinc _) (by decide) rfl (fun ls hl => ?_)
            refine lv_goto (tgt := 10) hx hb dX5_ends_199 (by decide) ?_
            exact ih (x + 1) ((up (up (up (up ((enF (placesM S w0) w0 x).2.2) 7 (w0 * 12 + x) (((((enF (placesM S w0) w0 x).2.1) + (((enF (placesM S w0) w0 x).2.2) 2 x)) * (((enF (placesM S w0) w0 x).2.2) 26 ((((enF (placesM S w0) w0 x).2.2) 9 (w0 * 12 + x)).toNatClampNeg))) / (nI 100))) 6 (w0 * 12 + x) ((((enF (placesM S w0) w0 x).2.1) + (((enF (placesM S w0) w0 x).2.2) 2 x)) + (((((enF (placesM S w0) w0 x).2.1) + (((enF (placesM S w0) w0 x).2.2) 2 x)) * (((enF (placesM S w0) w0 x).2.2) 26 ((((enF (placesM S w0) w0 x).2.2) 9 (w0 * 12 + x)).toNatClampNeg))) / (nI 100)))) 28 ((((enF (placesM S w0) w0 x).2.2) 9 (w0 * 12 + x)).toNatClampNeg) ((((enF (placesM S w0) w0 x).2.2) 28 ((((enF (placesM S w0) w0 x).2.2) 9 (w0 * 12 + x)).toNatClampNeg)) + ((((((enF (placesM S w0) w0 x).2.1) + (((enF (placesM S w0) w0 x).2.2) 2 x)) * (((enF (placesM S w0) w0 x).2.2) 26 ((((enF (placesM S w0) w0 x).2.2) 9 (w0 * 12 + x)).toNatClampNeg))) / (nI 100)) / (nI 10)))) 8 (w0 * 12 + x) ((-1)))) (((enF (placesM S w0) w0 x).1) + ((((enF (placesM S w0) w0 x).2.1) + (((enF (placesM S w0) w0 x).2.2) 2 x)) + (((((enF (placesM S w0) w0 x).2.1) + (((enF (placesM S w0) w0 x).2.2) 2 x)) * (((enF (placesM S w0) w0 x).2.2) 26 ((((enF (placesM S w0) w0 x).2.2) 9 (w0 * 12 + x)).toNatClampNeg))) / (nI 100)))) (((((enF (placesM S w0) w0 x).2.1) + (((enF (placesM S w0) w0 x).2.2) 2 x)) - (((((enF (placesM S w0) w0 x).2.1) + (((enF (placesM S w0) w0 x).2.2) 2 x)) * (((enF (placesM S w0) w0 x).2.2) 26 ((((enF (placesM S w0) w0 x).2.2) 9 (w0 * 12 + x)).toNatClampNeg))) / (nI 100))) - ((((((enF (placesM S w0) w0 x).2.1) + (((enF (placesM S w0) w0 x).2.2) 2 x)) - (((((enF (placesM S w0) w0 x).2.1) + (((enF (placesM S w0) w0 x).2.2) 2 x)) * (((enF (placesM S w0) w0 x).2.2) 26 ((((enF (placesM S w0) w0 x).2.2) 9 (w0 * 12 + x)).toNatClampNeg))) / (nI 100))) * (((enF (placesM S w0) w0 x).2.2) 3 x)) / (nI 100))) (nI (x + 1)) (by omega) (by first | omega | assumption) (by rw [enF_s]; unfold enS; first | (simp only [if_neg c_2, if_neg c_4]; done) | (simp only [if_neg c_2, if_neg c_4]; rfl)) (by rw [enF_s]; unfold enS; first | (simp only [if_neg c_2, if_neg c_4]; done) | (simp only [if_neg c_2, if_neg c_4]; rfl)) (by rw [enF_s]; unfold enS; first | (simp only [if_neg c_2, if_neg c_4]; done) | (simp only [if_neg c_2, if_neg c_4]; rfl)) rfl _ _ hP hS ls (lv_sub hl [6, 1, 2, 0] rfl)
      · skip
        refine lv_iconst (v := nI 0) hx hb dX5_ends_57 (by decide) ?_
        refine lv_goto (tgt := 74) hx hb dX5_ends_58 (by decide) ?_
        refine k_iast (wM q a ((up ((enF (placesM S w0) w0 x).2.2) 7 (w0 * 12 + x) (nI 0)))) hx hb hK hP hS 6 rfl (w0 * 12 + x) rfl (by omega) (by decide) wM_s6 dX5_ends_74 (fun H locs hP hS => ?_)
        refine lv_aload_n hx hb dX5_ends_75 rfl (lv_at hl 3 rfl) ?_
        refine va_get (D := D) (ci := 6) (v := .ref (a 6)) (C := RX5) (T := TX5) (N := 33) hx hb hts in_X5_ends_X5 hown hK.1 hP.1 0 rfl rfl 6 (by decide) (hts _ fl_X5_ends_23) (fun _ h9 => h9) rfl dX5_ends_76 ?_
        refine lv_iload hx hb dX5_ends_79 (lv_at hl 2 rfl) ?_
        refine lv_iload hx hb dX5_ends_81 (lv_at hl 0 rfl) ?_
        refine lv_aload_n hx hb dX5_ends_83 rfl (lv_at hl 3 rfl) ?_
        refine va_get (D := D) (ci := 6) (v := .ref (a 7)) (C := RX5) (T := TX5) (N := 33) hx hb hts in_X5_ends_X5 hown hK.1 hP.1 0 rfl rfl 7 (by decide) (hts _ fl_X5_ends_26) (fun _ h9 => h9) rfl dX5_ends_84 ?_
        refine lv_iload hx hb dX5_ends_87 (lv_at hl 2 rfl) ?_
        refine k_iald hx hb hK hP.1 6 rfl (w0 * 12 + x) rfl (by omega) (by decide) dX5_ends_89 ?_
        refine k_top (y := nI 0) (up_si _ _ _ _) ?_
        refine lv_iadd hx hb dX5_ends_90 ?_
        refine k_iast (wM q a ((up (up ((enF (placesM S w0) w0 x).2.2) 7 (w0 * 12 + x) (nI 0)) 6 (w0 * 12 + x) ((((enF (placesM S w0) w0 x).2.1) + (((enF (placesM S w0) w0 x).2.2) 2 x)) + (nI 0))))) hx hb hK hP hS 5 rfl (w0 * 12 + x) rfl (by omega) (by decide) wM_s5 dX5_ends_91 (fun H locs hP hS => ?_)
        refine lv_iload hx hb dX5_ends_92 (lv_at hl 1 rfl) ?_
        refine lv_iconst (v := (-1)) hx hb dX5_ends_94 (by decide) ?_
        refine k_icmp_eq (P := ((enF (placesM S w0) w0 x).2.2) 9 (w0 * 12 + x) = (-1)) (tgt := 118) hx hb dX5_ends_95 (by decide) Iff.rfl (fun c_5 => ?_) (fun c_5 => ?_)
        · skip
          refine lv_aload_n hx hb dX5_ends_118 rfl (lv_at hl 3 rfl) ?_
          refine va_get (D := D) (ci := 6) (v := .ref (a 8)) (C := RX5) (T := TX5) (N := 33) hx hb hts in_X5_ends_X5 hown hK.1 hP.1 0 rfl rfl 8 (by decide) (hts _ fl_X5_ends_29) (fun _ h9 => h9) rfl dX5_ends_119 ?_
          refine lv_iload hx hb dX5_ends_122 (lv_at hl 2 rfl) ?_
          refine lv_aload_n hx hb dX5_ends_124 rfl (lv_at hl 3 rfl) ?_
          refine va_get (D := D) (ci := 6) (v := .ref (a 4)) (C := RX5) (T := TX5) (N := 33) hx hb hts in_X5_ends_X5 hown hK.1 hP.1 0 rfl rfl 4 (by decide) (hts _ fl_X5_ends_16) (fun _ h9 => h9) rfl dX5_ends_125 ?_
          refine lv_iload_n hx hb dX5_ends_128 rfl (lv_at hl 6 rfl) ?_
          refine k_zald hx hb hK hP.1 3 rfl x rfl (by omega) (by decide) dX5_ends_129 ?_
          refine k_top (y := ((enF (placesM S w0) w0 x).2.2) 4 x) ((congrFun (up_n (by decide)) _).trans (congrFun (up_n (by decide)) _)) ?_
          refine k_if_eq (P := ((enF (placesM S w0) w0 x).2.2) 4 x = 0) (tgt := 137) hx hb dX5_ends_130 (by decide) Iff.rfl (fun c_6 => ?_) (fun c_6 => ?_)
          · skip
            refine lv_aload_n hx hb dX5_ends_137 rfl (lv_at hl 3 rfl) ?_
            refine va_get (D := D) (ci := 6) (v := .ref (a 6)) (C := RX5) (T := TX5) (N := 33) hx hb hts in_X5_ends_X5 hown hK.1 hP.1 0 rfl rfl 6 (by decide) (hts _ fl_X5_ends_23) (fun _ h9 => h9) rfl dX5_ends_138 ?_
            refine lv_iload hx hb dX5_ends_141 (lv_at hl 2 rfl) ?_
            refine k_iald hx hb hK hP.1 5 rfl (w0 * 12 + x) rfl (by omega) (by decide) dX5_ends_143 ?_
            refine k_top (y := (((enF (placesM S w0) w0 x).2.1) + (((enF (placesM S w0) w0 x).2.2) 2 x)) + (nI 0)) (up_si _ _ _ _) ?_
            refine lv_aload_n hx hb dX5_ends_144 rfl (lv_at hl 3 rfl) ?_
            refine va_get (D := D) (ci := 6) (v := .ref (a 5)) (C := RX5) (T := TX5) (N := 33) hx hb hts in_X5_ends_X5 hown hK.1 hP.1 0 rfl rfl 5 (by decide) (hts _ fl_X5_ends_20) (fun _ h9 => h9) rfl dX5_ends_145 ?_
            refine lv_iload_n hx hb dX5_ends_148 rfl (lv_at hl 6 rfl) ?_
            refine k_iald hx hb hK hP.1 4 rfl x rfl (by omega) (by decide) dX5_ends_149 ?_
            refine k_top (y := ((enF (placesM S w0) w0 x).2.2) 5 x) ((congrFun (up_n (by decide)) _).trans (congrFun (up_n (by decide)) _)) ?_
            refine k_callS (rest := [.int (nI (w0 * 12 + x)), .ref (a 8)]) (r := rsM ((((enF (placesM S w0) w0 x).2.1) + (((enF (placesM S w0) w0 x).2.2) 2 x)) + (nI 0)) (((enF (placesM S w0) w0 x).2.2) 5 x)) ⟨hx, hb, hml, hown, hts⟩ (c_X5_reads l D q ((((enF (placesM S w0) w0 x).2.1) + (((enF (placesM S w0) w0 x).2.2) 2 x)) + (nI 0)) (((enF (placesM S w0) w0 x).2.2) 5 x)) (va_cwS 2 hts gX5_ends_X5_reads rfl rfl rfl (by decide +kernel) ⟨Nat.le_of_ble_eq_true rfl, Nat.le_of_ble_eq_true rfl⟩) hK trivial rfl hl.1 rfl (Nat.le_of_ble_eq_true rfl) dX5_ends_150 ⟨Nat.zero_le _, Nat.zero_le _⟩ (fun _ h => h) ?_
            refine k_iast (wM q a ((up (up (up ((enF (placesM S w0) w0 x).2.2) 7 (w0 * 12 + x) (nI 0)) 6 (w0 * 12 + x) ((((enF (placesM S w0) w0 x).2.1) + (((enF (placesM S w0) w0 x).2.2) 2 x)) + (nI 0))) 8 (w0 * 12 + x) (rsM ((((enF (placesM S w0) w0 x).2.1) + (((enF (placesM S w0) w0 x).2.2) 2 x)) + (nI 0)) (((enF (placesM S w0) w0 x).2.2) 5 x))))) hx hb hK hP hS 7 rfl (w0 * 12 + x) rfl (by omega) (by decide) wM_s7 dX5_ends_153 (fun H locs hP hS => ?_)
            refine lv_iload hx hb dX5_ends_154 (lv_at hl 0 rfl) ?_
            refine lv_aload_n hx hb dX5_ends_156 rfl (lv_at hl 3 rfl) ?_
            refine va_get (D := D) (ci := 6) (v := .ref (a 7)) (C := RX5) (T := TX5) (N := 33) hx hb hts in_X5_ends_X5 hown hK.1 hP.1 0 rfl rfl 7 (by decide) (hts _ fl_X5_ends_26) (fun _ h9 => h9) rfl dX5_ends_157 ?_
            refine lv_iload hx hb dX5_ends_160 (lv_at hl 2 rfl) ?_
            refine k_iald hx hb hK hP.1 6 rfl (w0 * 12 + x) rfl (by omega) (by decide) dX5_ends_162 ?_
            refine k_top (y := nI 0) ((congrFun (up_n (by decide)) _).trans ((congrFun (up_n (by decide)) _).trans (up_si _ _ _ _))) ?_
            refine lv_isub hx hb dX5_ends_163 ?_
            refine lv_iload hx hb dX5_ends_164 (lv_at hl 0 rfl) ?_
            refine lv_aload_n hx hb dX5_ends_166 rfl (lv_at hl 3 rfl) ?_
            refine va_get (D := D) (ci := 6) (v := .ref (a 7)) (C := RX5) (T := TX5) (N := 33) hx hb hts in_X5_ends_X5 hown hK.1 hP.1 0 rfl rfl 7 (by decide) (hts _ fl_X5_ends_26) (fun _ h9 => h9) rfl dX5_ends_167 ?_
            refine lv_iload hx hb dX5_ends_170 (lv_at hl 2 rfl) ?_
            refine k_iald hx hb hK hP.1 6 rfl (w0 * 12 + x) rfl (by omega) (by decide) dX5_ends_172 ?_
            refine k_top (y := nI 0) ((congrFun (up_n (by decide)) _).trans ((congrFun (up_n (by decide)) _).trans (up_si _ _ _ _))) ?_
            refine lv_isub hx hb dX5_ends_173 ?_
            refine lv_aload_n hx hb dX5_ends_174 rfl (lv_at hl 3 rfl) ?_
            refine va_get (D := D) (ci := 6) (v := .ref (a 3)) (C := RX5) (T := TX5) (N := 33) hx hb hts in_X5_ends_X5 hown hK.1 hP.1 0 rfl rfl 3 (by decide) (hts _ fl_X5_ends_13) (fun _ h9 => h9) rfl dX5_ends_175 ?_
            refine lv_iload_n hx hb dX5_ends_178 rfl (lv_at hl 6 rfl) ?_
            refine k_iald hx hb hK hP.1 2 rfl x rfl (by omega) (by decide) dX5_ends_179 ?_
            refine k_top (y := ((enF (placesM S w0) w0 x).2.2) 3 x) ((congrFun (up_n (by decide)) _).trans ((congrFun (up_n (by decide)) _).trans (congrFun (up_n (by decide)) _))) ?_
            refine lv_imul hx hb dX5_ends_180 ?_
            refine lv_bipush (v := nI 100) hx hb dX5_ends_181 (by decide) ?_
            refine lv_idiv hx hb dX5_ends_183 (by decide) ?_
            refine lv_isub hx hb dX5_ends_184 ?_
            refine lv_istore_n (lv' := [(2, .int (((((enF (placesM S w0) w0 x).2.1) + (((enF (placesM S w0) w0 x).2.2) 2 x)) - (nI 0)) - ((((((enF (placesM S w0) w0 x).2.1) + (((enF (placesM S w0) w0 x).2.2) 2 x)) - (nI 0)) * (((enF (placesM S w0) w0 x).2.2) 3 x)) / (nI 100)))), (6, .int (((enF (placesM S w0) w0 x).2.1) + (((enF (placesM S w0) w0 x).2.2) 2 x))), (5, .int (((enF (placesM S w0) w0 x).2.2) 9 (w0 * 12 + x))), (4, .int (nI (w0 * 12 + x))), (0, .ref (a 0)), (1, .int ((enF (placesM S w0) w0 x).1)), (3, .int (nI x))]) hx hb dX5_ends_185 rfl hl (by decide) rfl (fun ls hl => ?_)
            refine lv_iload_n hx hb dX5_ends_186 rfl (lv_at hl 5 rfl) ?_
            refine lv_aload_n hx hb dX5_ends_187 rfl (lv_at hl 4 rfl) ?_
            refine va_get (D := D) (ci := 6) (v := .ref (a 6)) (C := RX5) (T := TX5) (N := 33) hx hb hts in_X5_ends_X5 hown hK.1 hP.1 0 rfl rfl 6 (by decide) (hts _ fl_X5_ends_23) (fun _ h9 => h9) rfl dX5_ends_188 ?_
            refine lv_iload hx hb dX5_ends_191 (lv_at hl 3 rfl) ?_
            refine k_iald hx hb hK hP.1 5 rfl (w0 * 12 + x) rfl (by omega) (by decide) dX5_ends_193 ?_
            refine k_top (y := (((enF (placesM S w0) w0 x).2.1) + (((enF (placesM S w0) w0 x).2.2) 2 x)) + (nI 0)) ((congrFun (up_n (by decide)) _).trans (up_si _ _ _ _)) ?_
            refine lv_iadd hx hb dX5_ends_194 ?_
            refine lv_istore_n (lv' := [(1, .int (((enF (placesM S w0) w0 x).1) + ((((enF (placesM S w0) w0 x).2.1) + (((enF (placesM S w0) w0 x).2.2) 2 x)) + (nI 0)))), (2, .int (((((enF (placesM S w0) w0 x).2.1) + (((enF (placesM S w0) w0 x).2.2) 2 x)) - (nI 0)) - ((((((enF (placesM S w0) w0 x).2.1) + (((enF (placesM S w0) w0 x).2.2) 2 x)) - (nI 0)) * (((enF (placesM S w0) w0 x).2.2) 3 x)) / (nI 100)))), (6, .int (((enF (placesM S w0) w0 x).2.1) + (((enF (placesM S w0) w0 x).2.2) 2 x))), (5, .int (((enF (placesM S w0) w0 x).2.2) 9 (w0 * 12 + x))), (4, .int (nI (w0 * 12 + x))), (0, .ref (a 0)), (3, .int (nI x))]) hx hb dX5_ends_195 rfl hl (by decide) rfl (fun ls hl => ?_)
            refine lv_iinc (v := nI (x + 1)) (lv' := [(3, .int (nI (x + 1))), (1, .int (((enF (placesM S w0) w0 x).1) + ((((enF (placesM S w0) w0 x).2.1) + (((enF (placesM S w0) w0 x).2.2) 2 x)) + (nI 0)))), (2, .int (((((enF (placesM S w0) w0 x).2.1) + (((enF (placesM S w0) w0 x).2.2) 2 x)) - (nI 0)) - ((((((enF (placesM S w0) w0 x).2.1) + (((enF (placesM S w0) w0 x).2.2) 2 x)) - (nI 0)) * (((enF (placesM S w0) w0 x).2.2) 3 x)) / (nI 100)))), (6, .int (((enF (placesM S w0) w0 x).2.1) + (((enF (placesM S w0) w0 x).2.2) 2 x))), (5, .int (((enF (placesM S w0) w0 x).2.2) 9 (w0 * 12 + x))), (4, .int (nI (w0 * 12 + x))), (0, .ref (a 0))]) hx hb dX5_ends_196 hl (k := 6) rfl (k_iinc _) (by decide) rfl (fun ls hl => ?_)
            refine lv_goto (tgt := 10) hx hb dX5_ends_199 (by decide) ?_
            exact ih (x + 1) ((up (up (up ((enF (placesM S w0) w0 x).2.2) 7 (w0 * 12 + x) (nI 0)) 6 (w0 * 12 + x) ((((enF (placesM S w0) w0 x).2.1) + (((enF (placesM S w0) w0 x).2.2) 2 x)) + (nI 0))) 8 (w0 * 12 + x) (rsM ((((enF (placesM S w0) w0 x).2.1) + (((enF (placesM S w0) w0 x).2.2) 2 x)) + (nI 0)) (((enF (placesM S w0) w0 x).2.2) 5 x)))) (((enF (placesM S w0) w0 x).1) + ((((enF (placesM S w0) w0 x).2.1) + (((enF (placesM S w0) w0 x).2.2) 2 x)) + (nI 0))) (((((enF (placesM S w0) w0 x).2.1) + (((enF (placesM S w0) w0 x).2.2) 2 x)) - (nI 0)) - ((((((enF (placesM S w0) w0 x).2.1) + (((enF (placesM S w0) w0 x).2.2) 2 x)) - (nI 0)) * (((enF (placesM S w0) w0 x).2.2) 3 x)) / (nI 100))) (nI (x + 1)) (by omega) (by first | omega | assumption) (by rw [enF_s]; unfold enS; first | (simp only [if_pos c_2, if_pos c_6]; done) | (simp only [if_pos c_2, if_pos c_6]; rfl)) (by rw [enF_s]; unfold enS; first | (simp only [if_pos c_2, if_pos c_6]; done) | (simp only [if_pos c_2, if_pos c_6]; rfl)) (by rw [enF_s]; unfold enS; first | (simp only [if_pos c_2, if_pos c_6]; done) | (simp only [if_pos c_2, if_pos c_6]; rfl)) rfl _ _ hP hS ls (lv_sub hl [6, 1, 2, 0] rfl)
          · skip
            refine lv_iconst (v := (-1)) hx hb dX5_ends_133 (by decide) ?_
            refine lv_goto (tgt := 153) hx hb dX5_ends_134 (by decide) ?_
            refine k_iast (wM q a ((up (up (up ((enF (placesM S w0) w0 x).2.2) 7 (w0 * 12 + x) (nI 0)) 6 (w0 * 12 + x) ((((enF (placesM S w0) w0 x).2.1) + (((enF (placesM S w0) w0 x).2.2) 2 x)) + (nI 0))) 8 (w0 * 12 + x) ((-1))))) hx hb hK hP hS 7 rfl (w0 * 12 + x) rfl (by omega) (by decide) wM_s7 dX5_ends_153 (fun H locs hP hS => ?_)
            refine lv_iload hx hb dX5_ends_154 (lv_at hl 0 rfl) ?_
            refine lv_aload_n hx hb dX5_ends_156 rfl (lv_at hl 3 rfl) ?_
            refine va_get (D := D) (ci := 6) (v := .ref (a 7)) (C := RX5) (T := TX5) (N := 33) hx hb hts in_X5_ends_X5 hown hK.1 hP.1 0 rfl rfl 7 (by decide) (hts _ fl_X5_ends_26) (fun _ h9 => h9) rfl dX5_ends_157 ?_
            refine lv_iload hx hb dX5_ends_160 (lv_at hl 2 rfl) ?_
            refine k_iald hx hb hK hP.1 6 rfl (w0 * 12 + x) rfl (by omega) (by decide) dX5_ends_162 ?_
            refine k_top (y := nI 0) ((congrFun (up_n (by decide)) _).trans ((congrFun (up_n (by decide)) _).trans (up_si _ _ _ _))) ?_
            refine lv_isub hx hb dX5_ends_163 ?_
            refine lv_iload hx hb dX5_ends_164 (lv_at hl 0 rfl) ?_
            refine lv_aload_n hx hb dX5_ends_166 rfl (lv_at hl 3 rfl) ?_
            refine va_get (D := D) (ci := 6) (v := .ref (a 7)) (C := RX5) (T := TX5) (N := 33) hx hb hts in_X5_ends_X5 hown hK.1 hP.1 0 rfl rfl 7 (by decide) (hts _ fl_X5_ends_26) (fun _ h9 => h9) rfl dX5_ends_167 ?_
            refine lv_iload hx hb dX5_ends_170 (lv_at hl 2 rfl) ?_
            refine k_iald hx hb hK hP.1 6 rfl (w0 * 12 + x) rfl (by omega) (by decide) dX5_ends_172 ?_
            refine k_top (y := nI 0) ((congrFun (up_n (by decide)) _).trans ((congrFun (up_n (by decide)) _).trans (up_si _ _ _ _))) ?_
            refine lv_isub hx hb dX5_ends_173 ?_
            refine lv_aload_n hx hb dX5_ends_174 rfl (lv_at hl 3 rfl) ?_
            refine va_get (D := D) (ci := 6) (v := .ref (a 3)) (C := RX5) (T := TX5) (N := 33) hx hb hts in_X5_ends_X5 hown hK.1 hP.1 0 rfl rfl 3 (by decide) (hts _ fl_X5_ends_13) (fun _ h9 => h9) rfl dX5_ends_175 ?_
            refine lv_iload_n hx hb dX5_ends_178 rfl (lv_at hl 6 rfl) ?_
            refine k_iald hx hb hK hP.1 2 rfl x rfl (by omega) (by decide) dX5_ends_179 ?_
            refine k_top (y := ((enF (placesM S w0) w0 x).2.2) 3 x) ((congrFun (up_n (by decide)) _).trans ((congrFun (up_n (by decide)) _).trans (congrFun (up_n (by decide)) _))) ?_
            refine lv_imul hx hb dX5_ends_180 ?_
            refine lv_bipush (v := nI 100) hx hb dX5_ends_181 (by decide) ?_
            refine lv_idiv hx hb dX5_ends_183 (by decide) ?_
            refine lv_isub hx hb dX5_ends_184 ?_
            refine lv_istore_n (lv' := [(2, .int (((((enF (placesM S w0) w0 x).2.1) + (((enF (placesM S w0) w0 x).2.2) 2 x)) - (nI 0)) - ((((((enF (placesM S w0) w0 x).2.1) + (((enF (placesM S w0) w0 x).2.2) 2 x)) - (nI 0)) * (((enF (placesM S w0) w0 x).2.2) 3 x)) / (nI 100)))), (6, .int (((enF (placesM S w0) w0 x).2.1) + (((enF (placesM S w0) w0 x).2.2) 2 x))), (5, .int (((enF (placesM S w0) w0 x).2.2) 9 (w0 * 12 + x))), (4, .int (nI (w0 * 12 + x))), (0, .ref (a 0)), (1, .int ((enF (placesM S w0) w0 x).1)), (3, .int (nI x))]) hx hb dX5_ends_185 rfl hl (by decide) rfl (fun ls hl => ?_)
            refine lv_iload_n hx hb dX5_ends_186 rfl (lv_at hl 5 rfl) ?_
            refine lv_aload_n hx hb dX5_ends_187 rfl (lv_at hl 4 rfl) ?_
            refine va_get (D := D) (ci := 6) (v := .ref (a 6)) (C := RX5) (T := TX5) (N := 33) hx hb hts in_X5_ends_X5 hown hK.1 hP.1 0 rfl rfl 6 (by decide) (hts _ fl_X5_ends_23) (fun _ h9 => h9) rfl dX5_ends_188 ?_
            refine lv_iload hx hb dX5_ends_191 (lv_at hl 3 rfl) ?_
            refine k_iald hx hb hK hP.1 5 rfl (w0 * 12 + x) rfl (by omega) (by decide) dX5_ends_193 ?_
            refine k_top (y := (((enF (placesM S w0) w0 x).2.1) + (((enF (placesM S w0) w0 x).2.2) 2 x)) + (nI 0)) ((congrFun (up_n (by decide)) _).trans (up_si _ _ _ _)) ?_
            refine lv_iadd hx hb dX5_ends_194 ?_
            refine lv_istore_n (lv' := [(1, .int (((enF (placesM S w0) w0 x).1) + ((((enF (placesM S w0) w0 x).2.1) + (((enF (placesM S w0) w0 x).2.2) 2 x)) + (nI 0)))), (2, .int (((((enF (placesM S w0) w0 x).2.1) + (((enF (placesM S w0) w0 x).2.2) 2 x)) - (nI 0)) - ((((((enF (placesM S w0) w0 x).2.1) + (((enF (placesM S w0) w0 x).2.2) 2 x)) - (nI 0)) * (((enF (placesM S w0) w0 x).2.2) 3 x)) / (nI 100)))), (6, .int (((enF (placesM S w0) w0 x).2.1) + (((enF (placesM S w0) w0 x).2.2) 2 x))), (5, .int (((enF (placesM S w0) w0 x).2.2) 9 (w0 * 12 + x))), (4, .int (nI (w0 * 12 + x))), (0, .ref (a 0)), (3, .int (nI x))]) hx hb dX5_ends_195 rfl hl (by decide) rfl (fun ls hl => ?_)
            refine lv_iinc (v := nI (x + 1)) (lv' := [(3, .int (nI (x + 1))), (1, .int (((enF (placesM S w0) w0 x).1) + ((((enF (placesM S w0) w0 x).2.1) + (((enF (placesM S w0) w0 x).2.2) 2 x)) + (nI 0)))), (2, .int (((((enF (placesM S w0) w0 x).2.1) + (((enF (placesM S w0) w0 x).2.2) 2 x)) - (nI 0)) - ((((((enF (placesM S w0) w0 x).2.1) + (((enF (placesM S w0) w0 x).2.2) 2 x)) - (nI 0)) * (((enF (placesM S w0) w0 x).2.2) 3 x)) / (nI 100)))), (6, .int (((enF (placesM S w0) w0 x).2.1) + (((enF (placesM S w0) w0 x).2.2) 2 x))), (5, .int (((enF (placesM S w0) w0 x).2.2) 9 (w0 * 12 + x))), (4, .int (nI (w0 * 12 + x))), (0, .ref (a 0))]) hx hb dX5_ends_196 hl (k := 6) rfl (k_iinc _) (by decide) rfl (fun ls hl => ?_)
            refine lv_goto (tgt := 10) hx hb dX5_ends_199 (by decide) ?_
            exact ih (x + 1) ((up (up (up ((enF (placesM S w0) w0 x).2.2) 7 (w0 * 12 + x) (nI 0)) 6 (w0 * 12 + x) ((((enF (placesM S w0) w0 x).2.1) + (((enF (placesM S w0) w0 x).2.2) 2 x)) + (nI 0))) 8 (w0 * 12 + x) ((-1)))) (((enF (placesM S w0) w0 x).1) + ((((enF (placesM S w0) w0 x).2.1) + (((enF (placesM S w0) w0 x).2.2) 2 x)) + (nI 0))) (((((enF (placesM S w0) w0 x).2.1) + (((enF (placesM S w0) w0 x).2.2) 2 x)) - (nI 0)) - ((((((enF (placesM S w0) w0 x).2.1) + (((enF (placesM S w0) w0 x).2.2) 2 x)) - (nI 0)) * (((enF (placesM S w0) w0 x).2.2) 3 x)) / (nI 100))) (nI (x + 1)) (by omega) (by first | omega | assumption) (by rw [enF_s]; unfold enS; first | (simp only [if_pos c_2, if_neg c_6]; done) | (simp only [if_pos c_2, if_neg c_6]; rfl)) (by rw [enF_s]; unfold enS; first | (simp only [if_pos c_2, if_neg c_6]; done) | (simp only [if_pos c_2, if_neg c_6]; rfl)) (by rw [enF_s]; unfold enS; first | (simp only [if_pos c_2, if_neg c_6]; done) | (simp only [if_pos c_2, if_neg c_6]; rfl)) rfl _ _ hP hS ls (lv_sub hl [6, 1, 2, 0] rfl)
        · skip
          exact absurd c_2 c_5
set_option maxHeartbeats 4000000 in
set_option maxRecDepth 100000 in
theorem c_X5_ends (l : Launch) (D : va_G) (q : Nat → ClassId) (A : Nat → Prop) (a : Nat → Nat) (S : Nat → Nat → Int32) (w0 : Nat) (hw : S 0 1 = nI w0) (hw200 : w0 < 200) (hok : okML S) : Met l yX5_ends wsX5_ends ({ frames := 3, cells := 0, slots := 0, locals := 73 } : Room) (va_Pc [.ref (a 0)] (kB D q (fun H => kW D A (wM q a S) H))) (kRi D A (endsV S w0) (wM q a (endsM S w0))) 0 0 A := by
  refine Met.ofW (cc := cX5_ends) (maxL := 7) (ret := (some .int)) (by decide) rfl ?_
  intro p e u m args below meth c s₁ B hml0 hv
  obtain ⟨rfl, hP, hK⟩ := hv
  have C0 : kAt p u m #[.ref (a 0)] meth c cX5_ends 7 (some .int) RX5 wsX5_ends := kAt_of B hml0
  obtain ⟨hx, hb, hr, hml, hown, hts, hlocks⟩ := id C0
  have hS : va_S A u.heap u.heap [] := va_S.rf
  have hl := lv_entry ([.ref (a 0)]) (n := 7) (Nat.le_of_ble_eq_true rfl)
  rw [lg_entry_eq]
  generalize (lg_sl ([.ref (a 0)]) ++ List.replicate (7 - (lg_sl ([.ref (a 0)])).length) Slot.unset).toArray = ls at hl ⊢
  have hl : lv_has ls 7 [(0, .ref (a 0))] := hl
  refine lv_iconst (v := nI 0) hx hb dX5_ends_0 (by decide) ?_
  refine lv_istore_n (lv' := [(1, .int (nI 0)), (0, .ref (a 0))]) hx hb dX5_ends_1 rfl hl (by decide) rfl (fun ls hl => ?_)
  refine lv_iconst (v := nI 0) hx hb dX5_ends_2 (by decide) ?_
  refine lv_istore_n (lv' := [(2, .int (nI 0)), (1, .int (nI 0)), (0, .ref (a 0))]) hx hb dX5_ends_3 rfl hl (by decide) rfl (fun ls hl => ?_)
  refine lv_aload_n hx hb dX5_ends_4 rfl (lv_at hl 2 rfl) ?_
  refine k_goRv hS (va_runV (rest := []) ⟨hx, hb, hml, hown, hts⟩ (c_X5_places l D q A a S w0 hw hw200 hok) (cwV 0 hts gX5_ends_X5_places rfl rfl rfl (by decide +kernel) ⟨Nat.le_of_ble_eq_true rfl, Nat.le_of_ble_eq_true rfl⟩) ⟨kB_blind, (va_recv hK.1 hP.1 (ci := 6) (q0 := 0) rfl rfl), fun U hU hW => ⟨rfl, by rw [hU]; exact hP, hK.warm hW⟩⟩ rfl rfl hl.1 rfl (lv_room (Nat.le_of_ble_eq_true rfl)) dX5_ends_5 ⟨Nat.zero_le _, Nat.zero_le _⟩) (fun H locs hP hS => ?_)
  refine lv_iconst (v := nI 0) hx hb dX5_ends_8 (by decide) ?_
  refine lv_istore_n (lv' := [(3, .int (nI 0)), (2, .int (nI 0)), (1, .int (nI 0)), (0, .ref (a 0))]) hx hb dX5_ends_9 rfl hl (by decide) rfl (fun ls hl => ?_)
  exact lp_X5_ends_10 a S w0 hw hw200 hok C0 hK ((12 - 0) + 1) 0 ((placesM S w0)) (nI 0) (nI 0) (nI 0) (by omega) (by first | omega | assumption) (by rfl) (by rfl) (by rfl) rfl _ _ hP hS ls (lv_sub hl [3, 2, 1, 0] rfl)
section KZ
variable {p : Program} {l : Launch} {e : Env} {R : Room} {s : State} {m : MethodId} {args : Array Value} {below : List Frame} {meth : Method} {c : Code} {H : Heap} {locs : List Loc} {cells slots : Nat}
theorem k_zretW {pc : Nat} {ls : Array Slot} {cc : ByteArray} {D : va_G} {A : Nat → Prop} {ws : va_W} {y v : Int32} (hexec : p.tables.exec = Jvm.exec) (hb : c.code = cc) (hr : meth.sig.returnType = some .boolean) (hlocks : meth.locks = false) (hn : narrow .boolean (.int v) = .int v) (hP : kW D A ws H) (hS : va_S A s.heap H locs) (hv : v = y) (hdg : decode cc pc = .ok (.ireturn, 1)) : W p l e R s m args below meth c H locs cells slots (MQ below (kRi D A y ws) args s cells slots A) (F0 m pc ls [.int v]) :=
  W.zret hexec hb hr hn (fun t ht _ => ⟨⟨v, (), rfl, hv, by show kW D A ws t.heap; rw [ht]; exact hP⟩, hS.F ht⟩) hS.2.2 hdg hlocks
end KZ
theorem fl_X5_isAsked_95 : Cond.fieldLink RX5 95 "LampCountsModel" "thrown" "I" ∈ wsX5_isAsked := by decide +kernel
theorem in_X5_isAsked_X5 : ∀ w ∈ u_ws RX5 TX5 33, w ∈ wsX5_isAsked := by decide +kernel
set_option maxHeartbeats 4000000 in
set_option maxRecDepth 100000 in
theorem c_X5_isAsked (l : Launch) (D : va_G) (q : Nat → ClassId) (A : Nat → Prop) (a : Nat → Nat) (S : Nat → Nat → Int32) (s h : Int32)  : Met l yX5_isAsked wsX5_isAsked ({ frames := 2, cells := 0, slots := 0, locals := 43 } : Room) (va_Pc [.ref (a 0), .int (s), .int (h)] (kB D q (fun H => kW D A (wM q a S) H))) (kRi D A (bI (iaP S s h)) (wM q a (up S 0 0 (iaV S s h)))) 0 0 A := by
  refine Met.ofW (cc := cX5_isAsked) (maxL := 3) (ret := (some .boolean)) (by decide) rfl ?_
  intro p e u m args below meth c s₁ B hml0 hv
  obtain ⟨rfl, hP, hK⟩ := hv
  have C0 : kAt p u m #[.ref (a 0), .int (s), .int (h)] meth c cX5_isAsked 3 (some .boolean) RX5 wsX5_isAsked := kAt_of B hml0
  obtain ⟨hx, hb, hr, hml, hown, hts, hlocks⟩ := id C0
  have hS : va_S A u.heap u.heap [] := va_S.rf
  have hl := lv_entry ([.ref (a 0), .int (s), .int (h)]) (n := 3) (Nat.le_of_ble_eq_true rfl)
  rw [lg_entry_eq]
  generalize (lg_sl ([.ref (a 0), .int (s), .int (h)]) ++ List.replicate (3 - (lg_sl ([.ref (a 0), .int (s), .int (h)])).length) Slot.unset).toArray = ls at hl ⊢
  have hl : lv_has ls 3 [(0, .ref (a 0)), (1, .int (s)), (2, .int (h))] := hl
  refine lv_aload_n hx hb dX5_isAsked_0 rfl (lv_at hl 0 rfl) ?_
  refine lv_iload_n hx hb dX5_isAsked_1 rfl (lv_at hl 1 rfl) ?_
  refine k_callS (rest := [.ref (a 0)]) (r := bI (inP s (nI 0) (nI 11))) ⟨hx, hb, hml, hown, hts⟩ (c_X5_isSection l D q s) (va_cwS 1 hts gX5_isAsked_X5_isSection rfl rfl rfl (by decide +kernel) ⟨Nat.le_of_ble_eq_true rfl, Nat.le_of_ble_eq_true rfl⟩) hK trivial rfl hl.1 rfl (Nat.le_of_ble_eq_true rfl) dX5_isAsked_2 ⟨Nat.zero_le _, Nat.zero_le _⟩ (fun _ h => h) ?_
  refine k_if_ne (P := ¬ (inP s (nI 0) (nI 11))) (tgt := 12) hx hb dX5_isAsked_5 (by decide) bI_0 (fun c_1 => ?_) (fun c_1 => ?_)
  · skip
    have c_1 : inP s (nI 0) (nI 11) := Classical.not_not.mp c_1
    refine lv_aload_n hx hb dX5_isAsked_12 rfl (lv_at hl 0 rfl) ?_
    refine lv_iload_n hx hb dX5_isAsked_13 rfl (lv_at hl 2 rfl) ?_
    refine k_callV (rest := [.ref (a 0)]) (r := bI (inP h (nI 0) (S 0 1 - nI 1))) ⟨hx, hb, hml, hown, hts⟩ (c_X5_isOver l D q a S h) (cwV 1 hts gX5_isAsked_X5_isOver rfl rfl rfl (by decide +kernel) ⟨Nat.le_of_ble_eq_true rfl, Nat.le_of_ble_eq_true rfl⟩) hK hP.1 (va_recv hK.1 hP.1 (ci := 6) (q0 := 0) rfl rfl) rfl hl.1 rfl (Nat.le_of_ble_eq_true rfl) dX5_isAsked_14 ⟨Nat.zero_le _, Nat.zero_le _⟩ (fun _ h => h) ?_
    refine k_if_eq (P := ¬ (inP h (nI 0) (S 0 1 - nI 1))) (tgt := 24) hx hb dX5_isAsked_17 (by decide) bI_0 (fun c_2 => ?_) (fun c_2 => ?_)
    · skip
      refine lv_iconst (v := nI 2) hx hb dX5_isAsked_24 (by decide) ?_
      refine k_puti (wM q a ((up S 0 0 (nI 2)))) hx hb hts in_X5_isAsked_X5 tyX5 tyX5_ok nmX5 hown hK hP hS 0 rfl rfl 0 (by decide) (hts _ fl_X5_isAsked_95) (fun _ h9 => h9) rfl (by decide +kernel) (Nat.le_of_ble_eq_true rfl) wM_f0_0 dX5_isAsked_25 (fun H locs hP hS => ?_)
      refine lv_aload_n hx hb dX5_isAsked_28 rfl (lv_at hl 0 rfl) ?_
      refine va_get (D := D) (ci := 6) (v := .int (((up S 0 0 (nI 2))) 0 0)) (C := RX5) (T := TX5) (N := 33) hx hb hts in_X5_isAsked_X5 hown hK.1 hP.1 0 rfl rfl 0 (by decide) (hts _ fl_X5_isAsked_95) (fun _ h9 => h9) rfl dX5_isAsked_29 ?_
      refine k_top (y := nI 2) (up_si _ _ _ _) ?_
      refine k_if_ne (P := False) (tgt := 39) hx hb dX5_isAsked_32 (by decide) ⟨fun z => absurd z (by decide), False.elim⟩ (fun c_3 => ?_) (fun c_3 => ?_)
      · skip
        refine lv_iconst (v := nI 0) hx hb dX5_isAsked_39 (by decide) ?_
        have eM : (up S 0 0 (nI 2)) = up S 0 0 (iaV S s h) := by unfold iaV; rw [if_pos c_1, if_neg c_2]
        rw [eM] at hP
        exact k_zretW hx hb hr hlocks rfl hP hS (by exact (bI_f (fun z => c_2 z.2)).symm) dX5_isAsked_40
      · skip
        exact c_3.elim
    · skip
      have c_2 : inP h (nI 0) (S 0 1 - nI 1) := Classical.not_not.mp c_2
      refine lv_iconst (v := nI 0) hx hb dX5_isAsked_20 (by decide) ?_
      refine lv_goto (tgt := 25) hx hb dX5_isAsked_21 (by decide) ?_
      refine k_puti (wM q a ((up S 0 0 (nI 0)))) hx hb hts in_X5_isAsked_X5 tyX5 tyX5_ok nmX5 hown hK hP hS 0 rfl rfl 0 (by decide) (hts _ fl_X5_isAsked_95) (fun _ h9 => h9) rfl (by decide +kernel) (Nat.le_of_ble_eq_true rfl) wM_f0_0 dX5_isAsked_25 (fun H locs hP hS => ?_)
      refine lv_aload_n hx hb dX5_isAsked_28 rfl (lv_at hl 0 rfl) ?_
      refine va_get (D := D) (ci := 6) (v := .int (((up S 0 0 (nI 0))) 0 0)) (C := RX5) (T := TX5) (N := 33) hx hb hts in_X5_isAsked_X5 hown hK.1 hP.1 0 rfl rfl 0 (by decide) (hts _ fl_X5_isAsked_95) (fun _ h9 => h9) rfl dX5_isAsked_29 ?_
      refine k_top (y := nI 0) (up_si _ _ _ _) ?_
      refine k_if_ne (P := True) (tgt := 39) hx hb dX5_isAsked_32 (by decide) ⟨fun _ => trivial, fun _ => rfl⟩ (fun c_4 => ?_) (fun c_4 => ?_)
      · skip
        exact (c_4 trivial).elim
      · skip
        refine lv_iconst (v := nI 1) hx hb dX5_isAsked_35 (by decide) ?_
        refine lv_goto (tgt := 40) hx hb dX5_isAsked_36 (by decide) ?_
        have eM : (up S 0 0 (nI 0)) = up S 0 0 (iaV S s h) := by unfold iaV; rw [if_pos c_1, if_pos c_2]
        rw [eM] at hP
        exact k_zretW hx hb hr hlocks rfl hP hS (by exact (bI_t ⟨c_1, c_2⟩).symm) dX5_isAsked_40
  · skip
    refine lv_iconst (v := nI 1) hx hb dX5_isAsked_8 (by decide) ?_
    refine lv_goto (tgt := 25) hx hb dX5_isAsked_9 (by decide) ?_
    refine k_puti (wM q a ((up S 0 0 (nI 1)))) hx hb hts in_X5_isAsked_X5 tyX5 tyX5_ok nmX5 hown hK hP hS 0 rfl rfl 0 (by decide) (hts _ fl_X5_isAsked_95) (fun _ h9 => h9) rfl (by decide +kernel) (Nat.le_of_ble_eq_true rfl) wM_f0_0 dX5_isAsked_25 (fun H locs hP hS => ?_)
    refine lv_aload_n hx hb dX5_isAsked_28 rfl (lv_at hl 0 rfl) ?_
    refine va_get (D := D) (ci := 6) (v := .int (((up S 0 0 (nI 1))) 0 0)) (C := RX5) (T := TX5) (N := 33) hx hb hts in_X5_isAsked_X5 hown hK.1 hP.1 0 rfl rfl 0 (by decide) (hts _ fl_X5_isAsked_95) (fun _ h9 => h9) rfl dX5_isAsked_29 ?_
    refine k_top (y := nI 1) (up_si _ _ _ _) ?_
    refine k_if_ne (P := False) (tgt := 39) hx hb dX5_isAsked_32 (by decide) ⟨fun z => absurd z (by decide), False.elim⟩ (fun c_5 => ?_) (fun c_5 => ?_)
    · skip
      refine lv_iconst (v := nI 0) hx hb dX5_isAsked_39 (by decide) ?_
      have eM : (up S 0 0 (nI 1)) = up S 0 0 (iaV S s h) := by unfold iaV; rw [if_neg c_1]
      rw [eM] at hP
      exact k_zretW hx hb hr hlocks rfl hP hS (by exact (bI_f (fun z => c_1 z.1)).symm) dX5_isAsked_40
    · skip
      exact c_5.elim
