set_option maxHeartbeats 4000000 in
set_option maxRecDepth 100000 in
theorem c_J7_copyOf_6403c (l : Launch) (D : va_G) (q : Nat → ClassId) (A : Nat → Prop) (a : Nat → Nat) (S : Nat → Nat → Int32) (cap nl N e0 mi : Nat) (hcap : cap ≠ 0) (hnl : nl ≤ cap) (hN : cap ≤ N) (hN2 : N ≤ 40) : Met l yJ7_copyOf_6403c wsJ7_copyOf_6403c ({ frames := 1, cells := 1, slots := 40, locals := 64 } : Room) (va_Pc [.ref (a 26), .int (nI N), .ref mi] (fun U => kBF D q A e0 (fun H => kW D A (wT q a S cap nl) H) U ∧ va_Mi "[Ljava/lang/Object;" mi U)) (kRr D A (fun z => wT q (upA a 26 z) S N nl)) 1 40 A := by
  refine Met.ofW (cc := cJ7_copyOf_6403c) (maxL := 4) (ret := (some (.array (.object "java/lang/Object")))) (by decide) rfl ?_
  intro p e u m args below meth c s₁ B hml0 hv
  obtain ⟨rfl, ⟨⟨⟨hP, hK⟩, hA⟩, hE⟩, hM⟩ := hv
  have C0 : kAt p u m #[.ref (a 26), .int (nI N), .ref mi] meth c cJ7_copyOf_6403c 4 (some (.array (.object "java/lang/Object"))) RJ7 wsJ7_copyOf_6403c := kAt_of B hml0
  obtain ⟨hx, hb, hr, hml, hown, hts, hlocks⟩ := id C0
  have hS : va_S A u.heap u.heap [] := va_S.rf
  have hl := lv_entry ([.ref (a 26), .int (nI N), .ref mi]) (n := 4) (Nat.le_of_ble_eq_true rfl)
  rw [lg_entry_eq]
  generalize (lg_sl ([.ref (a 26), .int (nI N), .ref mi]) ++ List.replicate (4 - (lg_sl ([.ref (a 26), .int (nI N), .ref mi])).length) Slot.unset).toArray = ls at hl ⊢
  have hl : lv_has ls 4 [(0, .ref (a 26)), (1, .int (nI N)), (2, .ref mi)] := hl
  refine lv_aload_n hx hb dJ7_copyOf_6403c_0 rfl (lv_at hl 2 rfl) ?_
  refine va_ldcM hx hb hown (hts (.classLink RJ7 110 "[Ljava/lang/Object;") (by decide +kernel)) hM dJ7_copyOf_6403c_1 ?_
  refine lv_acmp_ne (rx := some mi) (ry := some mi) (tgt := 13) hx hb dJ7_copyOf_6403c_3 (by decide) (fun h => absurd rfl h) (fun _ => ?_)
  refine lv_iload_n hx hb dJ7_copyOf_6403c_6 rfl (lv_at hl 1 rfl) ?_
  refine k_newq hx hb hown (hts (.classLink RJ7 2 "java/lang/Object") (by decide +kernel)) hE.2.2.2.2.1 hK hP hS hA (by omega) (Nat.le_of_ble_eq_true rfl) (by show 0 + N ≤ 40; omega) dJ7_copyOf_6403c_7 (fun z H hP hS => ?_)
  replace hP := kW_comm hP
  refine lv_goto (tgt := 24) hx hb dJ7_copyOf_6403c_10 (by decide) ?_
  refine lv_astore_n (lv' := [(3, .ref z), (0, .ref (a 26)), (1, .int (nI N)), (2, .ref mi)]) hx hb dJ7_copyOf_6403c_24 rfl hl (by decide) rfl (fun ls hl => ?_)
  refine lv_aload_n hx hb dJ7_copyOf_6403c_25 rfl (lv_at hl 1 rfl) ?_
  refine lv_iconst (v := nI 0) hx hb dJ7_copyOf_6403c_26 (by decide) ?_
  refine lv_aload_n hx hb dJ7_copyOf_6403c_27 rfl (lv_at hl 0 rfl) ?_
  refine lv_iconst (v := nI 0) hx hb dJ7_copyOf_6403c_28 (by decide) ?_
  refine lv_aload_n hx hb dJ7_copyOf_6403c_29 rfl (lv_at hl 1 rfl) ?_
  refine va_alen hx hb hK.1 hP.1 1 2 (x := (cap, .inr (.inr (.inr (.inr (wEl a nl)))))) rfl rfl (v := nI cap) rfl dJ7_copyOf_6403c_30 ?_
  refine lv_iload_n hx hb dJ7_copyOf_6403c_31 rfl (lv_at hl 2 rfl) ?_
  refine va_mmin hx hb (hml.trans hl.1.symm) hown (hts (.methodLink RJ7 304 Lib.Math.min.name) (by decide +kernel)) (hts (.static Lib.Math.min.name) (by decide +kernel)) (hts (.initialized "java/lang/Math") (by decide +kernel)) (hts _ (List.mem_of_getElem? (i := 6) rfl)) (Nat.le_of_ble_eq_true rfl) (Nat.le_of_ble_eq_true rfl) (Nat.le_of_ble_eq_true rfl) (by show 0 + N ≤ 40; omega) dJ7_copyOf_6403c_32 ?_
  rw [show (if nI N < nI cap then nI N else nI cap) = nI cap from if_neg (fun z9 => by have := (nI_ltI (by omega) (by omega)).mp z9; omega)]
  refine va_copyq hx hb (hml.trans hl.1.symm) hown (hts (.methodLink RJ7 150 arraycopyName) (by decide +kernel)) (hts (.native arraycopyName) (by decide +kernel)) (hts (.static arraycopyName) (by decide +kernel)) (hts (.initialized "java/lang/System") (by decide +kernel)) hK.1 hP.1 hP.2 hS 1 0 2 2 (E0 := "java/lang/Object") (E1 := "java/lang/Object") (C := "LampCounts$Lease") rfl rfl rfl rfl (by decide) (by decide) (nI_pos (by omega)) (by rw [nI_clamp (by omega : cap < 2 ^ 31)]; exact Nat.le_of_eq (Nat.zero_add _)) (by rw [nI_clamp (by omega : cap < 2 ^ 31)]; show 0 + cap ≤ N; omega) ?_ ?_ (Nat.le_of_ble_eq_true rfl) (Nat.le_of_ble_eq_true rfl) dJ7_copyOf_6403c_35 (fun H locs hP9 hD9 hS => ?_)
  · intro i hi y hy
    rw [show (nI 0).toNatClampNeg + i = i from Nat.zero_add _] at hy
    unfold wEl at hy
    by_cases c9 : i < nl
    · rw [if_pos c9] at hy
      cases hy
      exact k_lcell hK hP (k_lix (q := q) c9)
    · rw [if_neg c9] at hy
      cases hy
  · intro comp c0 h1 h2
    obtain ⟨c3, c4, hc3, hc4, hasg⟩ := Cond.castable_spec (va_Nw.use (A := #[]) rfl hE.2.2.2.2.2)
    cases Option.some.inj (hc3.symm.trans h2)
    cases Option.some.inj (hc4.symm.trans h1)
    exact hasg
  rw [wCpy hnl (by omega)] at hP9 hD9
  have hQ : kW D A ([(z, .inl (q 2, N, .inr (.inr (.inr (.inr (wEl a nl))))))] ++ ([(a 26, .inl (q 2, cap, .inr (.inr (.inr (.inr (wEl a nl))))))] ++ (List.range nl).map (wLs a S))) H := ⟨hP9, hD9⟩
  refine lv_aload_n hx hb dJ7_copyOf_6403c_38 rfl (lv_at hl 0 rfl) ?_
  refine W.widen (k := 1) (n := 40) (Nat.le_of_ble_eq_true rfl) (by show 0 + N ≤ 40; omega) ?_
  exact k_aretN hx hb hr (Or.inr ⟨_, rfl⟩) hlocks (by rw [wT_upA]; exact kW_drop hQ) hS dJ7_copyOf_6403c_39
set_option maxHeartbeats 4000000 in
set_option maxRecDepth 100000 in
theorem c_J7_copyOf_1904c (l : Launch) (D : va_G) (q : Nat → ClassId) (A : Nat → Prop) (a : Nat → Nat) (S : Nat → Nat → Int32) (cap nl N e0 : Nat) (hcap : cap ≠ 0) (hnl : nl ≤ cap) (hN : cap ≤ N) (hN2 : N ≤ 40) : Met l yJ7_copyOf_1904c wsJ7_copyOf_1904c ({ frames := 2, cells := 1, slots := 40, locals := 128 } : Room) (va_Pc [.ref (a 26), .int (nI N)] (kBF D q A e0 (fun H => kW D A (wT q a S cap nl) H))) (kRr D A (fun z => wT q (upA a 26 z) S N nl)) 1 40 A := by
  refine Met.ofW (cc := cJ7_copyOf_1904c) (maxL := 2) (ret := (some (.array (.object "java/lang/Object")))) (by decide) rfl ?_
  intro p e u m args below meth c s₁ B hml0 hv
  obtain ⟨rfl, ⟨⟨hP, hK⟩, hA⟩, hE⟩ := hv
  obtain ⟨mi, hM⟩ := hE.2.2.1
  have C0 : kAt p u m #[.ref (a 26), .int (nI N)] meth c cJ7_copyOf_1904c 2 (some (.array (.object "java/lang/Object"))) RJ7 wsJ7_copyOf_1904c := kAt_of B hml0
  obtain ⟨hx, hb, hr, hml, hown, hts, hlocks⟩ := id C0
  have hS : va_S A u.heap u.heap [] := va_S.rf
  have hl := lv_entry ([.ref (a 26), .int (nI N)]) (n := 2) (Nat.le_of_ble_eq_true rfl)
  rw [lg_entry_eq]
  generalize (lg_sl ([.ref (a 26), .int (nI N)]) ++ List.replicate (2 - (lg_sl ([.ref (a 26), .int (nI N)])).length) Slot.unset).toArray = ls at hl ⊢
  have hl : lv_has ls 2 [(0, .ref (a 26)), (1, .int (nI N))] := hl
  refine lv_aload_n hx hb dJ7_copyOf_1904c_0 rfl (lv_at hl 0 rfl) ?_
  refine lv_iload_n hx hb dJ7_copyOf_1904c_1 rfl (lv_at hl 1 rfl) ?_
  refine lv_aload_n hx hb dJ7_copyOf_1904c_2 rfl (lv_at hl 0 rfl) ?_
  refine va_getC (C := "[Ljava/lang/Object;") hx hb (hml.trans hl.1.symm) hown (hts (.methodLink RJ7 86 ⟨"java/lang/Object", "getClass", "()Ljava/lang/Class;"⟩) (by decide +kernel)) hE.2.2.2.1.use (hts (.selects "[Ljava/lang/Object;" ⟨"java/lang/Object", "getClass", "()Ljava/lang/Class;"⟩ ⟨"java/lang/Object", "getClass", "()Ljava/lang/Class;"⟩) (by decide +kernel)) (hts (.instanceMethod ⟨"java/lang/Object", "getClass", "()Ljava/lang/Class;"⟩) (by decide +kernel)) (hts (.native ⟨"java/lang/Object", "getClass", "()Ljava/lang/Class;"⟩) (by decide +kernel)) hM ⟨_, hP.1 0 _ rfl, rfl, va_nmO (hK.1.2 2 _ rfl).2 rfl⟩ (Nat.le_of_ble_eq_true rfl) (Nat.le_of_ble_eq_true rfl) dJ7_copyOf_1904c_3 ?_
  refine k_goRr (wo := []) (w := wT q a S cap nl) hP hA hS (va_runS (rest := []) ⟨hx, hb, hml, hown, hts⟩ (c_J7_copyOf_6403c l D q (va_A (wT q a S cap nl) u.heap.size) a S cap nl N e0 mi hcap hnl hN hN2) (va_cwS 3 hts gJ7_copyOf_1904c_J7_copyOf_6403c rfl rfl rfl (by decide +kernel) ⟨Nat.le_of_ble_eq_true rfl, Nat.le_of_ble_eq_true rfl⟩) ⟨fun a9 U g9 mk h => ⟨h.1, (kBF_blind a9 U g9 mk ⟨h.1, h.2.1⟩).2, va_Mi.moved (u := U) (U := U.calling g9 mk a9) (Vm.Alike.refl U.vm) h.2.2⟩, fun U hU hW => ⟨rfl, ⟨⟨⟨by rw [hU]; exact kW_cut (wo := []) hP, hK.warm hW⟩, fun z9 h9 => Or.inr (by rw [← hU]; exact h9)⟩, (hE.at hS hU hW).narrow (kW_sub (wo := []) hP hA)⟩, hM.moved hW.alike⟩⟩ rfl rfl hl.1 rfl (lv_room (Nat.le_of_ble_eq_true rfl)) dJ7_copyOf_1904c_6 ⟨Nat.le_of_ble_eq_true rfl, Nat.le_of_ble_eq_true rfl⟩) (fun z H locs hP hS => ?_)
  exact k_aretN hx hb hr (Or.inr ⟨_, rfl⟩) hlocks hP hS dJ7_copyOf_1904c_9
