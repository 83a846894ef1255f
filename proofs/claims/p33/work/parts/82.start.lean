/-! the law's start -/
theorem k_newLn {p : Program} {l : Launch} {e : Env} {R : Room} {s : State} {m : MethodId} {args : Array Value} {below : List Frame} {meth : Method} {c : Code} {H : Heap} {locs : List Loc} {cells slots : Nat} {Q : State → Prop} {pc : Nat} {ls : Array Slot} {rest : List Value} {cc : ByteArray} {D : va_G} {A : Nat → Prop} {q : Nat → ClassId} {ws : va_W} {H0 : Heap} (hexec : p.tables.exec = Jvm.exec) (hb : c.code = cc) (harr : (Cond.arrayClass .long).before args s = true) (hK : kK D q s) (hP : kW D A ws H) (hS : va_S A H0 H locs) (hA : ∀ z : Nat, H0.size ≤ z → A z) {N : Nat} (hN : N ≤ 1000) (hc : cells + 1 ≤ R.cells) (hs : slots + N ≤ R.slots) (hdg : decode cc pc = .ok (.newarray .long, 2))
    (kk : ∀ (z : Nat) (H1 : Heap), kW D A (ws ++ [(z, .inl (q 3, N, .inr (.inl (fun _ => 0))))]) H1 → va_S A H0 H1 locs → W p l e R s m args below meth c H1 locs (cells + 1) (slots + N) Q (F0 m (pc + 2) ls (.ref z :: rest))) : W p l e R s m args below meth c H locs cells slots Q (F0 m pc ls (.int (nI N) :: rest)) :=
  va_newa (atype := .long) hexec hb harr rfl hK.1 hP.1 hP.2 hS hA (N' := N) (a0 := (N, .inr (.inl (fun _ => 0)))) (fun cA => rfl) (nI_pos (by omega)) (nI_clamp (by omega)) (by show N * 8 ≤ 536870912; omega) hc hs hdg (fun z cA H1 hK1 hP1 hD1 hS1 => by
    have e1 := (hK1.2 4 (cA, .long) rfl).2
    have e2 := (hK.1.2 3 (q 3, .long) rfl).2
    cases Option.some.inj (e1.symm.trans e2)
    exact kk z H1 ⟨hP1, hD1⟩ hS1)
theorem pk16_0 : pk16 zR = fun _ => 0 := funext fun i => by
  show lN (pkN zR i) = 0
  have e : pkN zR i = 0 := by
    unfold pkN zR
    rw [nI_clamp (by decide)]
  rw [e]
  decide
theorem p3_0 : ∀ (h k : Nat), p3N zR h k = 0
  | _, 0 => rfl
  | h, k + 1 => by
    show p3N zR h k + _ = 0
    rw [p3_0 h k]
    show 0 + 8 ^ k * (nI 0).toNatClampNeg = 0
    rw [nI_clamp (by decide), Nat.mul_zero]
theorem pk3_0 : pk3 zR = fun _ => 0 := funext fun h => by
  show lN (p3N zR h 12) = 0
  rw [p3_0]
  decide
/-- the law's rows at the start: ten in each purse -/
def SL : Nat → Nat → Int32 := fun k => if k = 9 then flR zR (nI 10) 6 else zR
theorem LI_init : LI SL SI 0 0 0 0 0 := by
  have f1 : ∀ k j, k ≠ 9 → SL k j = nI 0 := fun k j h => by show (if k = 9 then flR zR (nI 10) 6 else zR) j = _; rw [if_neg h]
  have f2 : ∀ k j, k ≠ 18 → SI k j = nI 0 := fun k j h => by show (if k = 18 then flR zR (nI 10) 6 else zR) j = _; rw [if_neg h]
  have e9 : SL 9 = flR zR (nI 10) 6 := if_pos rfl
  have e18 : SI 18 = flR zR (nI 10) 6 := (show S0 18 = _ from if_pos rfl)
  refine ⟨⟨⟨⟨f1 0 0 (by decide), by omega⟩, ⟨f1 0 1 (by decide), by omega⟩, ⟨f1 0 2 (by decide), by omega⟩, ⟨f1 0 3 (by decide), by omega⟩, fun k hk => Or.inl ?_⟩, fun x hx => ⟨?_, ?_, ?_⟩, ⟨fun i hi => absurd hi (by omega), fun i _ => ⟨f1 2 i (by decide), f1 3 i (by decide), f1 4 i (by decide), f1 5 i (by decide)⟩, ⟨fun j => ⟨0, by omega, f1 2 j (by decide)⟩, fun j => ⟨0, by omega, f1 3 j (by decide)⟩, fun j => ⟨0, by omega, f1 4 j (by decide)⟩, fun j => ⟨0, by omega, f1 5 j (by decide)⟩⟩⟩, ⟨fun h hh => absurd hh (Nat.not_lt_zero _), fun i hi => absurd hi (Nat.not_lt_zero _)⟩, fun k hk => absurd hk (Nat.not_lt_zero _), ⟨fun k hk => absurd hk (Nat.not_lt_zero _), fun k _ => f1 8 _ (by decide)⟩, fun b hb => ⟨⟨?_, ?_, ?_, ?_⟩, ⟨0, by omega, f2 5 b (by decide)⟩, fun x hx => ?_⟩⟩, TI, Rel2_init⟩
  · rw [f1 0 4 (by decide)]
    exact (show ∀ k, k < 32 → yb (nI 0) k = nI 0 by decide +kernel) k hk
  · rw [f1 1 x (by decide), f2 6 x (by decide)]
  · rw [f1 1 _ (by decide), f2 7 x (by decide)]
  · rw [f1 1 _ (by decide), f2 11 x (by decide), f2 12 x (by decide), if_pos (by decide)]
  · rw [e9, e18]
  · rw [e9, f2 19 b (by decide)]
    rcases (show b = 0 ∨ b = 1 ∨ b = 2 ∨ b = 3 ∨ b = 4 ∨ b = 5 by omega) with rfl | rfl | rfl | rfl | rfl | rfl <;> decide
  · rw [e9, f2 20 b (by decide)]
    rcases (show b = 0 ∨ b = 1 ∨ b = 2 ∨ b = 3 ∨ b = 4 ∨ b = 5 by omega) with rfl | rfl | rfl | rfl | rfl | rfl <;> decide
  · rw [e9, f2 5 b (by decide)]
    rcases (show b = 0 ∨ b = 1 ∨ b = 2 ∨ b = 3 ∨ b = 4 ∨ b = 5 by omega) with rfl | rfl | rfl | rfl | rfl | rfl <;> decide
  · rw [f2 21 _ (by decide), if_pos (by decide)]
    have e : SL 9 (18 + b) = nI 0 := by
      rw [e9]
      rcases (show b = 0 ∨ b = 1 ∨ b = 2 ∨ b = 3 ∨ b = 4 ∨ b = 5 by omega) with rfl | rfl | rfl | rfl | rfl | rfl <;> decide
    rw [e]
    exact bit0 x (by omega)
/-- the rows while the purses are filled -/
def SLk (k : Nat) : Nat → Nat → Int32 := fun j => if j = 9 then flR zR (nI 10) k else zR
theorem SLk_s (k : Nat) : up (SLk k) 9 k (nI 10) = SLk (k + 1) := by
  funext j
  unfold up SLk
  by_cases c : j = 9
  · subst c
    rw [if_pos rfl, if_pos rfl, if_pos rfl]
    rfl
  · rw [if_neg c, if_neg c, if_neg c]
set_option maxHeartbeats 4000000 in
set_option maxRecDepth 100000 in
theorem law_fill {p : Program} {l : Launch} {e : Env} {s : State} {m : MethodId} {below : List Frame} {meth : Method} {c : Code} {b L : Nat} {xs : Nat → Int32} {D : va_G} {q : Nat → ClassId} {e0 : Nat} (E : lEnv p l s m meth c b L xs D q e0) (hL : L ≤ 260) {cb a : Nat → Nat} (h26 : cb 26 = e0) : ∀ (f k : Nat), 6 - k < f → k ≤ 6 → ∀ (H : Heap) (locs : List Loc) (ls : Array Slot), kW D (lA s) (wL q a (SLk k) (wC q cb S0 0 0)) H → va_S (lA s) s.heap H locs → lv_has ls 19 [(12, .int (nI k)), (0, .ref b), (1, .ref (cb 0)), (2, .ref (a 0)), (3, .ref (a 1)), (4, .ref (a 2)), (5, .ref (a 3)), (6, .ref (a 4)), (7, .ref (a 5)), (8, .ref (a 6)), (9, .ref (a 7)), (10, .ref (a 8)), (11, .ref (a 9))] → W p l e room_1 s m #[Value.ref b] below meth c H locs 100 20000 (lw_Z below #[Value.ref b] s) (F0 m 68 ls []) := by
  obtain ⟨⟨hx, hb, hr, hml, hown, hts0, hX0, hbl, hlocks, -⟩, hK, hX, hE, hl0⟩ := id E
  have hts := lEnv_hts hts0
  intro f
  induction f with
  | zero => exact fun k h => absurd h (Nat.not_lt_zero _)
  | succ f ih =>
    intro k hf hk H locs ls hP hS hl
    refine lv_iload hx hb dL_law_68 (lv_at hl 0 rfl) ?_
    refine lv_bipush (v := nI 6) hx hb dL_law_70 (by decide) ?_
    refine k_icmp_ge (P := k < 6) (tgt := 88) hx hb dL_law_72 (by decide) (nI_ltI (by omega) (by omega)) (fun c1 => ?_) (fun c1 => ?_)
    · obtain rfl : k = 6 := by omega
      refine lv_iconst (v := nI 0) hx hb dL_law_88 (by decide) ?_
      refine lv_istore (lv' := [(12, .int (nI 0)), (0, .ref b), (1, .ref (cb 0)), (2, .ref (a 0)), (3, .ref (a 1)), (4, .ref (a 2)), (5, .ref (a 3)), (6, .ref (a 4)), (7, .ref (a 5)), (8, .ref (a 6)), (9, .ref (a 7)), (10, .ref (a 8)), (11, .ref (a 9))]) hx hb dL_law_89 hl (by decide) rfl (fun ls hl => ?_)
      have hP : kW D (lA s) (wL q a SL (wC q cb SI 0 0)) H := hP
      exact law_loop E hL 81 0 100 20000 (by omega) (by omega) (by omega) (by omega) H locs ls ⟨SL, SI, a, cb, 0, 0, 0, 0, 0, hP, hS, LI_init, ⟨Or.inl ⟨rfl, h26⟩, Nat.le_refl 0⟩, lv_sub hl [1, 2, 3, 4, 5, 6, 7, 8, 9, 10, 11, 12, 0] rfl⟩
    · refine lv_aload hx hb dL_law_75 (lv_at hl 12 rfl) ?_
      refine lv_iload hx hb dL_law_77 (lv_at hl 0 rfl) ?_
      refine lv_bipush (v := nI 10) hx hb dL_law_79 (by decide) ?_
      refine k_iast (wL q a (up (SLk k) 9 k (nI 10)) (wC q cb S0 0 0)) hx hb hK hP hS 9 rfl k rfl (by omega) (by decide) wL_s9 dL_law_81 (fun H locs hP hS => ?_)
      rw [SLk_s] at hP
      refine lv_iinc (v := nI (k + 1)) (lv' := [(12, .int (nI (k + 1))), (0, .ref b), (1, .ref (cb 0)), (2, .ref (a 0)), (3, .ref (a 1)), (4, .ref (a 2)), (5, .ref (a 3)), (6, .ref (a 4)), (7, .ref (a 5)), (8, .ref (a 6)), (9, .ref (a 7)), (10, .ref (a 8)), (11, .ref (a 9))]) hx hb dL_law_82 hl (k := 0) rfl (nI_add k 1) (by decide) rfl (fun ls hl => ?_)
      refine lv_goto (tgt := 68) hx hb dL_law_85 (by decide) ?_
      exact ih (k + 1) (by omega) (by omega) H locs ls hP hS hl
set_option maxHeartbeats 4000000 in
set_option maxRecDepth 100000 in
theorem whole_start {p : Program} {e : Env} {s : State} {m : MethodId} {below : List Frame} {meth : Method} {c : Code} (l : Launch) (hflags : l.flags = flags0) {b L : Nat} {xs : Nat → Int32} (hL : L ≤ 260) (C0 : lw_At p s m meth c b L xs) : W p l e room_1 s m #[Value.ref b] below meth c s.heap [] 0 0 (lw_Z below #[Value.ref b] s) (entryFrame m ([Value.ref b] : List Value).toArray 19) := by
  obtain ⟨D, q, e0, E⟩ := env_of l hflags C0
  obtain ⟨⟨hx, hb, hr, hml, hown, hts0, hX0, hbl, hlocks, -⟩, hK, hX, hE, hl0⟩ := id E
  have hts := lEnv_hts hts0
  have hZ := hE.1
  have hA : ∀ z : Nat, s.heap.size ≤ z → lA s z := fun _ h => h
  have hS : va_S (lA s) s.heap s.heap [] := va_S.rf
  have hP : va_P D vwCl [] s.heap := fun k q h => by simp at h
  have hD : va_D (lA s) [] := ⟨fun i j p q h => by simp at h, fun k q h => by simp at h⟩
  have hl := lv_entry ([.ref b]) (n := 19) (Nat.le_of_ble_eq_true rfl)
  rw [lg_entry_eq]
  generalize (lg_sl ([.ref b]) ++ List.replicate (19 - (lg_sl ([.ref b])).length) Slot.unset).toArray = ls at hl ⊢
  have hl : lv_has ls 19 [(0, .ref b)] := hl
  refine va_new (ci := 5) (fs := [.null, .null, .null, .null, .null, .int 0]) (C := RX4) (T := TX4) (N := 6) hx hb hts inlX4 tyX4 tyX4_ok hown (hts (.classLink RL 11 RX4) (by decide +kernel)) (hts (.instantiable RX4 6) (by decide +kernel)) (hts (.initialized RX4) (by decide +kernel)) hK.1 hP hD hS hA rfl (fun j hj => by rcases (show j = 0 ∨ j = 1 ∨ j = 2 ∨ j = 3 ∨ j = 4 ∨ j = 5 by omega) with rfl | rfl | rfl | rfl | rfl | rfl <;> rfl) (Nat.le_of_ble_eq_true rfl) (Nat.le_of_ble_eq_true rfl) dL_law_0 (fun z4 H hP hD hS => ?_)
  have hP4 : kW D (lA s) ([] ++ [(z4, .inr (5, [.null, .null, .null, .null, .null, .int 0]))]) H := ⟨hP, hD⟩
  refine lv_dup hx hb dL_law_3 rfl ?_
  refine k_goT (T := Nat → Nat) (wo := []) (w := [(z4, .inr (5, [.null, .null, .null, .null, .null, .int 0]))]) (post := fun f => f 26 = e0 ∧ f 0 = z4) (w' := fun f => wC q f S0 0 0) hP4 hA hS (va_runI (As := []) (rest := [.ref z4]) ⟨hx, hb, hml, hown, hts⟩ (c_X4_init l D q (va_A [(z4, .inr (5, [.null, .null, .null, .null, .null, .int 0]))] H.size) z4 e0) (cwI 0 hts gL_law_X4_init rfl rfl rfl (hts (.initialized RX4) (by decide +kernel)) (hts (.methodLink RL 151 yX4_init) (by decide +kernel)) (hts (.instanceMethod yX4_init) (by decide +kernel)) rfl (by decide +kernel) ⟨Nat.le_of_ble_eq_true rfl, Nat.le_of_ble_eq_true rfl⟩) ⟨kBE_blind, fun U hU hW => ⟨rfl, ⟨⟨by rw [hU]; exact kW_cut hP4, hK.warm hW⟩, fun z9 h9 => Or.inr (by rw [← hU]; exact h9)⟩, by rw [hU]; exact ((hZ.kept hS.2.1).moved hW.alike).narrow (kW_sub hP4 (fun z9 h9 => hA z9 (Nat.le_trans hS.1 h9)))⟩⟩ rfl rfl hl.1 rfl (lv_room (Nat.le_of_ble_eq_true rfl)) dL_law_4 ⟨Nat.le_of_ble_eq_true rfl, Nat.le_of_ble_eq_true rfl⟩) (fun f4 H locs hf4 hP hS => ?_)
  have hP : kW D (lA s) (wC q f4 S0 0 0) H := hP
  obtain ⟨hf26, hf0⟩ := hf4
  refine lv_astore_n (lv' := [(1, .ref z4), (0, .ref b)]) hx hb dL_law_7 rfl hl (by decide) rfl (fun ls hl => ?_)
  refine lv_iconst (v := nI 5) hx hb dL_law_8 (by decide) ?_
  refine k_newi (N := 5) hx hb (hts (.arrayClass .int) (by decide +kernel)) hK hP hS hA (Nat.le_of_ble_eq_true rfl) (Nat.le_of_ble_eq_true rfl) (Nat.le_of_ble_eq_true rfl) dL_law_9 (fun r2 H hP hS => ?_)
  refine lv_astore_n (lv' := [(2, .ref r2), (1, .ref z4), (0, .ref b)]) hx hb dL_law_11 rfl hl (by decide) rfl (fun ls hl => ?_)
  refine lv_bipush (v := nI 36) hx hb dL_law_12 (by decide) ?_
  refine k_newi (N := 36) hx hb (hts (.arrayClass .int) (by decide +kernel)) hK hP hS hA (Nat.le_of_ble_eq_true rfl) (Nat.le_of_ble_eq_true rfl) (Nat.le_of_ble_eq_true rfl) dL_law_14 (fun r3 H hP hS => ?_)
  refine lv_astore_n (lv' := [(3, .ref r3), (2, .ref r2), (1, .ref z4), (0, .ref b)]) hx hb dL_law_16 rfl hl (by decide) rfl (fun ls hl => ?_)
  refine lv_bipush (v := nI 60) hx hb dL_law_17 (by decide) ?_
  refine k_newLn (N := 60) hx hb (hts (.arrayClass .long) (by decide +kernel)) hK hP hS hA (Nat.le_of_ble_eq_true rfl) (Nat.le_of_ble_eq_true rfl) (Nat.le_of_ble_eq_true rfl) dL_law_19 (fun r4 H hP hS => ?_)
  refine lv_astore (lv' := [(4, .ref r4), (3, .ref r3), (2, .ref r2), (1, .ref z4), (0, .ref b)]) hx hb dL_law_21 hl (by decide) rfl (fun ls hl => ?_)
  refine lv_bipush (v := nI 60) hx hb dL_law_23 (by decide) ?_
  refine k_newLn (N := 60) hx hb (hts (.arrayClass .long) (by decide +kernel)) hK hP hS hA (Nat.le_of_ble_eq_true rfl) (Nat.le_of_ble_eq_true rfl) (Nat.le_of_ble_eq_true rfl) dL_law_25 (fun r5 H hP hS => ?_)
  refine lv_astore (lv' := [(5, .ref r5), (4, .ref r4), (3, .ref r3), (2, .ref r2), (1, .ref z4), (0, .ref b)]) hx hb dL_law_27 hl (by decide) rfl (fun ls hl => ?_)
  refine lv_bipush (v := nI 60) hx hb dL_law_29 (by decide) ?_
  refine k_newLn (N := 60) hx hb (hts (.arrayClass .long) (by decide +kernel)) hK hP hS hA (Nat.le_of_ble_eq_true rfl) (Nat.le_of_ble_eq_true rfl) (Nat.le_of_ble_eq_true rfl) dL_law_31 (fun r6 H hP hS => ?_)
  refine lv_astore (lv' := [(6, .ref r6), (5, .ref r5), (4, .ref r4), (3, .ref r3), (2, .ref r2), (1, .ref z4), (0, .ref b)]) hx hb dL_law_33 hl (by decide) rfl (fun ls hl => ?_)
  refine lv_bipush (v := nI 20) hx hb dL_law_35 (by decide) ?_
  refine k_newLn (N := 20) hx hb (hts (.arrayClass .long) (by decide +kernel)) hK hP hS hA (Nat.le_of_ble_eq_true rfl) (Nat.le_of_ble_eq_true rfl) (Nat.le_of_ble_eq_true rfl) dL_law_37 (fun r7 H hP hS => ?_)
  refine lv_astore (lv' := [(7, .ref r7), (6, .ref r6), (5, .ref r5), (4, .ref r4), (3, .ref r3), (2, .ref r2), (1, .ref z4), (0, .ref b)]) hx hb dL_law_39 hl (by decide) rfl (fun ls hl => ?_)
  refine lv_bipush (v := nI 41) hx hb dL_law_41 (by decide) ?_
  refine k_newi (N := 41) hx hb (hts (.arrayClass .int) (by decide +kernel)) hK hP hS hA (Nat.le_of_ble_eq_true rfl) (Nat.le_of_ble_eq_true rfl) (Nat.le_of_ble_eq_true rfl) dL_law_43 (fun r8 H hP hS => ?_)
  refine lv_astore (lv' := [(8, .ref r8), (7, .ref r7), (6, .ref r6), (5, .ref r5), (4, .ref r4), (3, .ref r3), (2, .ref r2), (1, .ref z4), (0, .ref b)]) hx hb dL_law_45 hl (by decide) rfl (fun ls hl => ?_)
  refine lv_bipush (v := nI 36) hx hb dL_law_47 (by decide) ?_
  refine k_newi (N := 36) hx hb (hts (.arrayClass .int) (by decide +kernel)) hK hP hS hA (Nat.le_of_ble_eq_true rfl) (Nat.le_of_ble_eq_true rfl) (Nat.le_of_ble_eq_true rfl) dL_law_49 (fun r9 H hP hS => ?_)
  refine lv_astore (lv' := [(9, .ref r9), (8, .ref r8), (7, .ref r7), (6, .ref r6), (5, .ref r5), (4, .ref r4), (3, .ref r3), (2, .ref r2), (1, .ref z4), (0, .ref b)]) hx hb dL_law_51 hl (by decide) rfl (fun ls hl => ?_)
  refine lv_bipush (v := nI 60) hx hb dL_law_53 (by decide) ?_
  refine k_newi (N := 60) hx hb (hts (.arrayClass .int) (by decide +kernel)) hK hP hS hA (Nat.le_of_ble_eq_true rfl) (Nat.le_of_ble_eq_true rfl) (Nat.le_of_ble_eq_true rfl) dL_law_55 (fun r10 H hP hS => ?_)
  refine lv_astore (lv' := [(10, .ref r10), (9, .ref r9), (8, .ref r8), (7, .ref r7), (6, .ref r6), (5, .ref r5), (4, .ref r4), (3, .ref r3), (2, .ref r2), (1, .ref z4), (0, .ref b)]) hx hb dL_law_57 hl (by decide) rfl (fun ls hl => ?_)
  refine lv_bipush (v := nI 30) hx hb dL_law_59 (by decide) ?_
  refine k_newi (N := 30) hx hb (hts (.arrayClass .int) (by decide +kernel)) hK hP hS hA (Nat.le_of_ble_eq_true rfl) (Nat.le_of_ble_eq_true rfl) (Nat.le_of_ble_eq_true rfl) dL_law_61 (fun r11 H hP hS => ?_)
  refine lv_astore (lv' := [(11, .ref r11), (10, .ref r10), (9, .ref r9), (8, .ref r8), (7, .ref r7), (6, .ref r6), (5, .ref r5), (4, .ref r4), (3, .ref r3), (2, .ref r2), (1, .ref z4), (0, .ref b)]) hx hb dL_law_63 hl (by decide) rfl (fun ls hl => ?_)
  refine lv_iconst (v := nI 0) hx hb dL_law_65 (by decide) ?_
  refine lv_istore (lv' := [(12, .int (nI 0)), (11, .ref r11), (10, .ref r10), (9, .ref r9), (8, .ref r8), (7, .ref r7), (6, .ref r6), (5, .ref r5), (4, .ref r4), (3, .ref r3), (2, .ref r2), (1, .ref z4), (0, .ref b)]) hx hb dL_law_66 hl (by decide) rfl (fun ls hl => ?_)
  refine W.widen (k := 100) (n := 20000) (Nat.le_of_ble_eq_true rfl) (Nat.le_of_ble_eq_true rfl) ?_
  simp only [List.append_assoc] at hP
  have hP := kW_comm hP
  have hP : kW D (lA s) ([(r2, .inl (q 0, 5, .inl zR)), (r3, .inl (q 0, 36, .inl zR)), (r4, .inl (q 3, 60, .inr (.inl (fun _ => 0)))), (r5, .inl (q 3, 60, .inr (.inl (fun _ => 0)))), (r6, .inl (q 3, 60, .inr (.inl (fun _ => 0)))), (r7, .inl (q 3, 20, .inr (.inl (fun _ => 0)))), (r8, .inl (q 0, 41, .inl zR)), (r9, .inl (q 0, 36, .inl zR)), (r10, .inl (q 0, 60, .inl zR)), (r11, .inl (q 0, 30, .inl zR))] ++ wC q f4 S0 0 0) H := hP
  have e16 := pk16_0.symm
  have e3 := pk3_0.symm
  have hP : kW D (lA s) ([(r2, .inl (q 0, 5, .inl zR)), (r3, .inl (q 0, 36, .inl zR)), (r4, .inl (q 3, 60, .inr (.inl (pk16 zR)))), (r5, .inl (q 3, 60, .inr (.inl (pk16 zR)))), (r6, .inl (q 3, 60, .inr (.inl (pk16 zR)))), (r7, .inl (q 3, 20, .inr (.inl (pk3 zR)))), (r8, .inl (q 0, 41, .inl zR)), (r9, .inl (q 0, 36, .inl zR)), (r10, .inl (q 0, 60, .inl zR)), (r11, .inl (q 0, 30, .inl zR))] ++ wC q f4 S0 0 0) H := by rw [pk16_0, pk3_0]; exact hP
  have e0k : SLk 0 = fun _ => zR := by funext j; unfold SLk; split <;> rfl
  have hP : kW D (lA s) (wL q (fun j => match j with | 0 => r2 | 1 => r3 | 2 => r4 | 3 => r5 | 4 => r6 | 5 => r7 | 6 => r8 | 7 => r9 | 8 => r10 | _ => r11) (SLk 0) (wC q f4 S0 0 0)) H := by rw [e0k]; exact hP
  exact law_fill E hL (a := (fun j => match j with | 0 => r2 | 1 => r3 | 2 => r4 | 3 => r5 | 4 => r6 | 5 => r7 | 6 => r8 | 7 => r9 | 8 => r10 | _ => r11)) (cb := f4) hf26 7 0 (by omega) (by omega) H locs ls hP hS (by rw [hf0]; exact lv_sub hl [0, 12, 11, 10, 9, 8, 7, 6, 5, 4, 3, 2, 1] rfl)
