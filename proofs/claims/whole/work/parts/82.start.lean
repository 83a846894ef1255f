theorem k_newL {p : Program} {l : Launch} {e : Env} {R : Room} {s : State} {m : MethodId} {args : Array Value} {below : List Frame} {meth : Method} {c : Code} {H : Heap} {locs : List Loc} {cells slots : Nat} {Q : State → Prop} {pc : Nat} {ls : Array Slot} {rest : List Value} {cc : ByteArray} {D : va_G} {A : Nat → Prop} {q : Nat → ClassId} {ws : va_W} {H0 : Heap} (hexec : p.tables.exec = Jvm.exec) (hb : c.code = cc) (harr : (Cond.arrayClass .long).before args s = true) (hK : kK D q s) (hP : kW D A ws H) (hS : va_S A H0 H locs) (hA : ∀ z : Nat, H0.size ≤ z → A z) (hc : cells + 1 ≤ R.cells) (hs : slots + 1 ≤ R.slots) (hdg : decode cc pc = .ok (.newarray .long, 2))
    (kk : ∀ (z : Nat) (H1 : Heap), kW D A (ws ++ [(z, .inl (q 3, 1, .inr (.inl (fun _ => 0))))]) H1 → va_S A H0 H1 locs → W p l e R s m args below meth c H1 locs (cells + 1) (slots + 1) Q (F0 m (pc + 2) ls (.ref z :: rest))) : W p l e R s m args below meth c H locs cells slots Q (F0 m pc ls (.int (nI 1) :: rest)) :=
  va_newa (atype := .long) hexec hb harr rfl hK.1 hP.1 hP.2 hS hA (N' := 1) (a0 := (1, .inr (.inl (fun _ => 0)))) (fun cA => rfl) (nI_pos (by decide)) (nI_clamp (by decide)) (by decide) hc hs hdg (fun z cA H1 hK1 hP1 hD1 hS1 => by
    have e1 := (hK1.2 4 (cA, .long) rfl).2
    have e2 := (hK.1.2 3 (q 3, .long) rfl).2
    cases Option.some.inj (e1.symm.trans e2)
    exact kk z H1 ⟨hP1, hD1⟩ hS1)
theorem wN5_M {q : Nat → ClassId} {z : Nat} {f : Nat → Nat} : wN5 q z f = wM q (fun j => if j = 0 then z else f j) TI := rfl
set_option maxHeartbeats 4000000 in
set_option maxRecDepth 100000 in
theorem whole_start {p : Program} {e : Env} {s : State} {m : MethodId} {below : List Frame} {meth : Method} {c : Code} (l : Launch) (hflags : l.flags = flags0) {b L : Nat} {xs : Nat → Int32} (hL : L ≤ 3072) (C0 : lw_At p s m meth c b L xs) : W p l e room_1 s m #[Value.ref b] below meth c s.heap [] 0 0 (lw_Z below #[Value.ref b] s) (entryFrame m ([Value.ref b] : List Value).toArray 7) := by
  obtain ⟨D, q, e0, E⟩ := env_of l hflags C0
  obtain ⟨⟨hx, hb, hr, hml, hown, hts0, hX0, hbl, hlocks, -⟩, hK, hX, hE, hl0⟩ := id E
  have hts := lEnv_hts hts0
  have hZ := hE.1
  have hA : ∀ z : Nat, s.heap.size ≤ z → lA s z := fun _ h => h
  have hS : va_S (lA s) s.heap s.heap [] := va_S.rf
  have hP : va_P D vwCl [] s.heap := fun k q h => by simp at h
  have hD : va_D (lA s) [] := ⟨fun i j p q h => by simp at h, fun k q h => by simp at h⟩
  have hl := lv_entry ([.ref b]) (n := 7) (Nat.le_of_ble_eq_true rfl)
  rw [lg_entry_eq]
  generalize (lg_sl ([.ref b]) ++ List.replicate (7 - (lg_sl ([.ref b])).length) Slot.unset).toArray = ls at hl ⊢
  have hl : lv_has ls 7 [(0, .ref b)] := hl
  refine va_new (ci := 5) (fs := [.null, .null, .null, .null, .null, .int 0]) (C := RX4) (T := TX4) (N := 6) hx hb hts inlX4 tyX4 tyX4_ok hown (hts (.classLink RL 8 RX4) (by decide +kernel)) (hts (.instantiable RX4 6) (by decide +kernel)) (hts (.initialized RX4) (by decide +kernel)) hK.1 hP hD hS hA rfl (fun j hj => by rcases (show j = 0 ∨ j = 1 ∨ j = 2 ∨ j = 3 ∨ j = 4 ∨ j = 5 by omega) with rfl | rfl | rfl | rfl | rfl | rfl <;> rfl) (Nat.le_of_ble_eq_true rfl) (Nat.le_of_ble_eq_true rfl) dL_law_0 (fun z4 H hP hD hS => ?_)
  have hP4 : kW D (lA s) ([] ++ [(z4, .inr (5, [.null, .null, .null, .null, .null, .int 0]))]) H := ⟨hP, hD⟩
  refine lv_dup hx hb dL_law_3 rfl ?_
  refine k_goT (T := Nat → Nat) (wo := []) (w := [(z4, .inr (5, [.null, .null, .null, .null, .null, .int 0]))]) (post := fun f => f 26 = e0 ∧ f 0 = z4) (w' := fun f => wC q f S0 0 0) hP4 hA hS (va_runI (As := []) (rest := [.ref z4]) ⟨hx, hb, hml, hown, hts⟩ (c_X4_init l D q (va_A [(z4, .inr (5, [.null, .null, .null, .null, .null, .int 0]))] H.size) z4 e0) (cwI 0 hts gL_law_X4_init rfl rfl rfl (hts (.initialized RX4) (by decide +kernel)) (hts (.methodLink RL 102 yX4_init) (by decide +kernel)) (hts (.instanceMethod yX4_init) (by decide +kernel)) rfl (by decide +kernel) ⟨Nat.le_of_ble_eq_true rfl, Nat.le_of_ble_eq_true rfl⟩) ⟨kBE_blind, fun U hU hW => ⟨rfl, ⟨⟨by rw [hU]; exact kW_cut hP4, hK.warm hW⟩, fun z9 h9 => Or.inr (by rw [← hU]; exact h9)⟩, by rw [hU]; exact ((hZ.kept hS.2.1).moved hW.alike).narrow (kW_sub hP4 (fun z9 h9 => hA z9 (Nat.le_trans hS.1 h9)))⟩⟩ rfl rfl hl.1 rfl (lv_room (Nat.le_of_ble_eq_true rfl)) dL_law_4 ⟨Nat.le_of_ble_eq_true rfl, Nat.le_of_ble_eq_true rfl⟩) (fun f4 H locs hf4 hP hS => ?_)
  have hP : kW D (lA s) (wC q f4 S0 0 0) H := hP
  refine lv_astore_n (lv' := [(1, .ref z4), (0, .ref b)]) hx hb dL_law_7 rfl hl (by decide) rfl (fun ls hl => ?_)
  refine va_new (ci := 6) (fs := [.int 0, .int 0, .null, .null, .null, .null, .null, .null, .null, .null, .null, .int 0, .null, .null, .null, .int 0, .null, .null, .null, .null, .null, .null, .null, .null, .null, .null, .null, .null, .null, .null, .null, .int 0, .null]) (C := RX5) (T := TX5) (N := 33) hx hb hts inlX5 tyX5 tyX5_ok hown (hts (.classLink RL 103 RX5) (by decide +kernel)) (hts (.instantiable RX5 33) (by decide +kernel)) (hts (.initialized RX5) (by decide +kernel)) hK.1 hP.1 hP.2 hS hA rfl (fun j hj => by rcases (show j = 0 ∨ j = 1 ∨ j = 2 ∨ j = 3 ∨ j = 4 ∨ j = 5 ∨ j = 6 ∨ j = 7 ∨ j = 8 ∨ j = 9 ∨ j = 10 ∨ j = 11 ∨ j = 12 ∨ j = 13 ∨ j = 14 ∨ j = 15 ∨ j = 16 ∨ j = 17 ∨ j = 18 ∨ j = 19 ∨ j = 20 ∨ j = 21 ∨ j = 22 ∨ j = 23 ∨ j = 24 ∨ j = 25 ∨ j = 26 ∨ j = 27 ∨ j = 28 ∨ j = 29 ∨ j = 30 ∨ j = 31 ∨ j = 32 by omega) with rfl | rfl | rfl | rfl | rfl | rfl | rfl | rfl | rfl | rfl | rfl | rfl | rfl | rfl | rfl | rfl | rfl | rfl | rfl | rfl | rfl | rfl | rfl | rfl | rfl | rfl | rfl | rfl | rfl | rfl | rfl | rfl | rfl <;> rfl) (Nat.le_of_ble_eq_true rfl) (Nat.le_of_ble_eq_true rfl) dL_law_8 (fun z5 H hP hD hS => ?_)
  have hP5 : kW D (lA s) (wC q f4 S0 0 0 ++ [(z5, .inr (6, [.int 0, .int 0, .null, .null, .null, .null, .null, .null, .null, .null, .null, .int 0, .null, .null, .null, .int 0, .null, .null, .null, .null, .null, .null, .null, .null, .null, .null, .null, .null, .null, .null, .null, .int 0, .null]))]) H := ⟨hP, hD⟩
  refine lv_dup hx hb dL_law_11 rfl ?_
  refine k_goNv (wo := wC q f4 S0 0 0) (w := [(z5, .inr (6, [.int 0, .int 0, .null, .null, .null, .null, .null, .null, .null, .null, .null, .int 0, .null, .null, .null, .int 0, .null, .null, .null, .null, .null, .null, .null, .null, .null, .null, .null, .null, .null, .null, .null, .int 0, .null]))]) (w' := fun f => wN5 q z5 f) hP5 hA hS (va_runI (As := []) (rest := [.ref z5]) ⟨hx, hb, hml, hown, hts⟩ (c_X5_init l D q (va_A [(z5, .inr (6, [.int 0, .int 0, .null, .null, .null, .null, .null, .null, .null, .null, .null, .int 0, .null, .null, .null, .int 0, .null, .null, .null, .null, .null, .null, .null, .null, .null, .null, .null, .null, .null, .null, .null, .int 0, .null]))] H.size) z5) (cwI 0 hts gL_law_X5_init rfl rfl rfl (hts (.initialized RX5) (by decide +kernel)) (hts (.methodLink RL 105 yX5_init) (by decide +kernel)) (hts (.instanceMethod yX5_init) (by decide +kernel)) rfl (by decide +kernel) ⟨Nat.le_of_ble_eq_true rfl, Nat.le_of_ble_eq_true rfl⟩) ⟨kBN_blind, fun U hU hW => ⟨rfl, ⟨by rw [hU]; exact kW_cut hP5, hK.warm hW⟩, fun z9 h9 => Or.inr (by rw [← hU]; exact h9)⟩⟩ rfl rfl hl.1 rfl (lv_room (Nat.le_of_ble_eq_true rfl)) dL_law_12 ⟨Nat.le_of_ble_eq_true rfl, Nat.le_of_ble_eq_true rfl⟩) (fun f5 H locs hP hS => ?_)
  rw [wN5_M] at hP
  refine lv_astore_n (lv' := [(2, .ref z5), (1, .ref z4), (0, .ref b)]) hx hb dL_law_15 rfl hl (by decide) rfl (fun ls hl => ?_)
  refine lv_iconst (v := nI 1) hx hb dL_law_16 (by decide) ?_
  refine k_newL hx hb (hts (.arrayClass .long) (by decide +kernel)) hK hP hS hA (Nat.le_of_ble_eq_true rfl) (Nat.le_of_ble_eq_true rfl) dL_law_17 (fun o H hP hS => ?_)
  refine lv_astore_n (lv' := [(3, .ref o), (2, .ref z5), (1, .ref z4), (0, .ref b)]) hx hb dL_law_19 rfl hl (by decide) rfl (fun ls hl => ?_)
  refine lv_iconst (v := nI 0) hx hb dL_law_20 (by decide) ?_
  refine lv_istore (lv' := [(4, .int (nI 0)), (3, .ref o), (2, .ref z5), (1, .ref z4), (0, .ref b)]) hx hb dL_law_21 hl (by decide) rfl (fun ls hl => ?_)
  refine W.widen (k := 60) (n := 24000) (Nat.le_of_ble_eq_true rfl) (Nat.le_of_ble_eq_true rfl) ?_
  rw [List.append_assoc] at hP
  have hP := kW_comm hP
  rw [List.append_assoc] at hP
  obtain ⟨hf26, hf0⟩ := hf4
  exact law_loop E hL 600 0 0 60 24000 rfl rfl rfl (by decide) (by omega) H locs ls ⟨S0, TI, f4, (fun j => if j = 0 then z5 else f5 j), o, fun _ => 0, 0, 0, 0, 0, 0, hP, hS, Rel2_init, ⟨Or.inl ⟨rfl, hf26⟩, Nat.le_refl 0⟩, by rw [hf0]; exact lv_sub hl [4, 3, 2, 1, 0] rfl⟩
