/-! what the Statement gives, in this claim's words -/
theorem arr_p {args : Array Value} {s : State} {ty : FieldType} (h : (Cond.arrayClass ty).before args s = true) : ∃ cA : ClassId, ArrOfT s cA ty ∧ s.vm.findClass ("[" ++ ty.toString) = some cA := by
  obtain ⟨cA, kA, comp, h1, h2, h3⟩ := Cond.arrayClass_spec h
  exact ⟨cA, fun n z => ⟨fun k h => (by cases h), kA, h2, comp, h3⟩, h1⟩
theorem arr_o {args : Array Value} {s : State} (h : (Cond.arrayOver (.object "java/lang/Object")).before args s = true) : ∃ cA : ClassId, ArrOfT s cA (.object "java/lang/Object") ∧ va_RA s cA (.object "java/lang/Object") := by
  obtain ⟨comp, cA, kA, h1, h2, h3, h4, h5⟩ := Cond.arrayOver_spec h
  exact ⟨cA, fun n z => ⟨fun k h => (by cases h), kA, h3, comp, h4⟩, kA, comp, h3, h4, h1, h5⟩
set_option maxHeartbeats 4000000 in
set_option maxRecDepth 100000 in
theorem env_K {s : State} {args : Array Value} (hts : ∀ w ∈ lw_tbl, w.before args s = true) : ∃ (D : va_G) (q : Nat → ClassId), kK D q s := by
  obtain ⟨c0, i0, k0⟩ := u_known (C := RJx4a65c) (T := TJx4a65c) (N := 3) (n := 3) hts inJx4a65c (hts (.instantiable RJx4a65c 3) (by decide +kernel))
  obtain ⟨c1, i1, k1⟩ := u_known (C := RX0) (T := TX0) (N := 9) (n := 9) hts inX0 (hts (.instantiable RX0 9) (by decide +kernel))
  obtain ⟨c2, i2, k2⟩ := u_known (C := RX1) (T := TX1) (N := 8) (n := 8) hts inX1 (hts (.instantiable RX1 8) (by decide +kernel))
  obtain ⟨c3, i3, k3⟩ := u_known (C := RX2) (T := TX2) (N := 9) (n := 9) hts inX2 (hts (.instantiable RX2 9) (by decide +kernel))
  obtain ⟨c4, i4, k4⟩ := u_known (C := RX3) (T := TX3) (N := 5) (n := 5) hts inX3 (hts (.instantiable RX3 5) (by decide +kernel))
  obtain ⟨c5, i5, k5⟩ := u_known (C := RX4) (T := TX4) (N := 6) (n := 6) hts inX4 (hts (.instantiable RX4 6) (by decide +kernel))
  obtain ⟨t0, a0, r0⟩ := arr_p (ty := .int) (hts (.arrayClass .int) (by decide +kernel))
  obtain ⟨t1, a1, r1⟩ := arr_p (ty := .boolean) (hts (.arrayClass .boolean) (by decide +kernel))
  obtain ⟨t2, a2, r2⟩ := arr_o (hts (.arrayOver (.object "java/lang/Object")) (by decide +kernel))
  obtain ⟨t3, a3, r3⟩ := arr_p (ty := .long) (hts (.arrayClass .long) (by decide +kernel))
  refine ⟨(fun k => match k with | 0 => c0 | 1 => c1 | 2 => c2 | 3 => c3 | 4 => c4 | _ => c5, fun k => match k with | 0 => i0 | 1 => i1 | 2 => i2 | 3 => i3 | 4 => i4 | _ => i5), (fun k => match k with | 0 => t0 | 1 => t1 | 2 => t2 | _ => t3), ⟨fun k x hx => ?_, fun k x hx => ?_⟩, ?_⟩
  · match k, hx with
    | 0, hx => cases hx; exact k0
    | 1, hx => cases hx; exact k1
    | 2, hx => cases hx; exact k2
    | 3, hx => cases hx; exact k3
    | 4, hx => cases hx; exact k4
    | 5, hx => cases hx; exact k5
    | k + 6, hx => simp at hx
  · match k, hx with
    | 0, hx => cases hx; exact ⟨a0, r0⟩
    | 1, hx => cases hx; exact ⟨a1, r1⟩
    | 2, hx => cases hx; exact ⟨a2, r2⟩
    | 3, hx => cases hx; exact ⟨a3, r3⟩
    | k + 4, hx => simp [kTY] at hx
  · exact ⟨va_any rfl (hts (.methodLinkNest "LampCounts$Buskers" 55 ⟨"LampCounts", "cell", "(II)I"⟩ "LampCounts") (by decide +kernel)), va_any rfl (hts (.methodLinkNest "LampCounts$Street" 27 ⟨"LampCounts", "cell", "(II)I"⟩ "LampCounts") (by decide +kernel)), va_any rfl (hts (.methodLinkNest "LampCounts$Lamps" 38 ⟨"LampCounts", "cell", "(II)I"⟩ "LampCounts") (by decide +kernel)), va_any rfl (hts (.methodLinkNest "LampCounts" 11 ⟨"LampCounts$Street", "<init>", "()V"⟩ "LampCounts") (by decide +kernel)), va_any rfl (hts (.methodLinkNest "LampCounts" 18 ⟨"LampCounts$Lamps", "<init>", "()V"⟩ "LampCounts") (by decide +kernel))⟩
theorem env_str {s : State} {args : Array Value} {k : Nat} {tx : String} (h1 : (Cond.stringRef RX4 k tx).before args s = true) (h2 : (Cond.exactly (.string RX4 k) "java/lang/String").before args s = true) : ∃ z, vk_R RX4 k tx z s := by
  obtain ⟨a, c, cA, kA, q1, -⟩ := Cond.exactly_spec (args := args) (first := s) (o := none) (s := s) (idx := []) (t := .string RX4 k) (cls := "java/lang/String") h2
  exact ⟨a, vk_R.of h1 q1⟩
set_option maxHeartbeats 4000000 in
set_option maxRecDepth 100000 in
theorem env_X {s : State} {b : Nat} (hts : ∀ w ∈ lw_tbl, w.before #[Value.ref b] s = true) (hgv : (Jvm.Cond.and given_1 narrow_1).before #[Value.ref b] s = true) : kX (lA s) s := by
  have hs := flat_of_before _ hgv
  have hA : ∀ a : Nat, a < s.heap.size → ¬ lA s a := fun a h => Nat.not_le.mpr h
  refine ⟨vx_Zqof (hts (.laysStatic "java/lang/Throwable" "UNASSIGNED_STACK" "[Ljava/lang/StackTraceElement;") (by decide +kernel)) (hts (.initialized "java/lang/Throwable") (by decide +kernel)) (hs (.isRef (.static "java/lang/Throwable" "UNASSIGNED_STACK" "[Ljava/lang/StackTraceElement;")) (by decide +kernel)) hA, vx_Zqof (hts (.laysStatic "java/lang/Throwable" "SUPPRESSED_SENTINEL" "Ljava/util/List;") (by decide +kernel)) (hts (.initialized "java/lang/Throwable") (by decide +kernel)) (hs (.isRef (.static "java/lang/Throwable" "SUPPRESSED_SENTINEL" "Ljava/util/List;")) (by decide +kernel)) hA, env_str (hts (.stringRef RX4 201 "there is no such one") (by decide +kernel)) (hs (.exactly (.string RX4 201) "java/lang/String") (by decide +kernel)), env_str (hts (.stringRef RX4 208 "out of range") (by decide +kernel)) (hs (.exactly (.string RX4 208) "java/lang/String") (by decide +kernel)), env_str (hts (.stringRef RX4 213 "not as things are") (by decide +kernel)) (hs (.exactly (.string RX4 213) "java/lang/String") (by decide +kernel)), ⟨?_, ?_, ?_⟩, ⟨?_, ?_, ?_⟩, trivial⟩
  · exact va_any rfl (hts (.declares (Bundle.initS "java/lang/RuntimeException")) (by decide +kernel))
  · exact va_any rfl (hts (.declares (Bundle.initS "java/lang/Exception")) (by decide +kernel))
  · exact va_any rfl (hts (.declares (Bundle.initS Bundle.tN)) (by decide +kernel))
  · exact va_any rfl (hts (.castable eI eI) (by decide +kernel))
  · exact va_any rfl (hts (.castable eA eA) (by decide +kernel))
  · exact va_any rfl (hts (.castable eS eS) (by decide +kernel))
set_option maxHeartbeats 4000000 in
set_option maxRecDepth 100000 in
theorem env_E {s : State} {b : Nat} (hts : ∀ w ∈ lw_tbl, w.before #[Value.ref b] s = true) (hgv : (Jvm.Cond.and given_1 narrow_1).before #[Value.ref b] s = true) : ∃ e0, kE e0 (lA s) s := by
  have hs := flat_of_before _ hgv
  have hA : ∀ a : Nat, a < s.heap.size → ¬ lA s a := fun a h => Nat.not_le.mpr h
  obtain ⟨e0, hev, hT⟩ := va_Tof (N := 0) (f := fun _ => .null) (A := lA s) (tm := .static "java/util/ArrayList" "DEFAULTCAPACITY_EMPTY_ELEMENTDATA" "[Ljava/lang/Object;") (ty := .object "java/lang/Object") (by decide) (hs (.arrayOf (.static "java/util/ArrayList" "DEFAULTCAPACITY_EMPTY_ELEMENTDATA" "[Ljava/lang/Object;") (.object "java/lang/Object")) (by decide +kernel)) (va_eqt (hs (.eq (.length (.static "java/util/ArrayList" "DEFAULTCAPACITY_EMPTY_ELEMENTDATA" "[Ljava/lang/Object;")) (.int 0)) (by decide +kernel))) (fun j hj => absurd hj (Nat.not_lt_zero j)) hA
  refine ⟨e0, va_Zof (hts (.laysStatic "java/util/ArrayList" "DEFAULTCAPACITY_EMPTY_ELEMENTDATA" "[Ljava/lang/Object;") (by decide +kernel)) (hts (.initialized "java/util/ArrayList") (by decide +kernel)) hev hA, hT, va_Mi.of (hs (.isRef (.mirror "[Ljava/lang/Object;")) (by decide +kernel)), va_Dc.of (hts (.declares ⟨"java/lang/Object", "getClass", "()Ljava/lang/Class;"⟩) (by decide +kernel)), va_AO.of (hts (.arrayOver (.object "java/lang/Object")) (by decide +kernel)), ?_⟩
  exact va_any rfl (hts (.castable "LampCounts$Lease" "java/lang/Object") (by decide +kernel))
theorem env_of {p : Program} {s : State} {m : MethodId} {meth : Method} {c : Code} (l : Launch) (hflags : l.flags = flags0) {b L : Nat} {xs : Nat → Int32} (C0 : lw_At p s m meth c b L xs) : ∃ D q e0, lEnv p l s m meth c b L xs D q e0 := by
  obtain ⟨-, -, -, -, -, hts, -, -, -, hgv⟩ := id C0
  obtain ⟨D, q, hK⟩ := env_K hts
  obtain ⟨e0, hE⟩ := env_E hts hgv
  refine ⟨D, q, e0, C0, hK, env_X hts hgv, hE, ?_⟩
  unfold Launch.stackTraces
  rw [hflags]
  decide +kernel
