/-! the rows that every module of this claim uses: a world is a list of cells, its change another list -/
/-- the array classes of this claim: of int, of boolean, of Object, of long -/
def kTY (q : Nat → ClassId) : List (ClassId × FieldType) := [(q 0, .int), (q 1, .boolean), (q 2, .object "java/lang/Object"), (q 3, .long)]
/-- the links between nest mates that the Statement gives -/
def kNest (U : State) : Prop := va_Nw (.methodLinkNest "LampCounts$Buskers" 55 ⟨"LampCounts", "cell", "(II)I"⟩ "LampCounts") U ∧ va_Nw (.methodLinkNest "LampCounts$Street" 27 ⟨"LampCounts", "cell", "(II)I"⟩ "LampCounts") U ∧ va_Nw (.methodLinkNest "LampCounts$Lamps" 38 ⟨"LampCounts", "cell", "(II)I"⟩ "LampCounts") U ∧ va_Nw (.methodLinkNest "LampCounts" 11 ⟨"LampCounts$Street", "<init>", "()V"⟩ "LampCounts") U ∧ va_Nw (.methodLinkNest "LampCounts" 18 ⟨"LampCounts$Lamps", "<init>", "()V"⟩ "LampCounts") U
theorem kNest.warm {s U : State} (hW : s.WarmedH U.vm) (h : kNest s) : kNest U := ⟨va_Nw.warmM hW h.1, va_Nw.warmM hW h.2.1, va_Nw.warmM hW h.2.2.1, va_Nw.warmM hW h.2.2.2.1, va_Nw.warmM hW h.2.2.2.2⟩
theorem kNest.same {u U : State} (hv : u.vm = U.vm) (h : kNest u) : kNest U := ⟨va_Nw.same rfl hv h.1, va_Nw.same rfl hv h.2.1, va_Nw.same rfl hv h.2.2.1, va_Nw.same rfl hv h.2.2.2.1, va_Nw.same rfl hv h.2.2.2.2⟩
/-- the tables' part of a contract's start -/
def kK (D : va_G) (q : Nat → ClassId) (U : State) : Prop := va_K D vwCl (kTY q) U ∧ kNest U
theorem kK.warm {D : va_G} {q : Nat → ClassId} {s U : State} (hW : s.WarmedH U.vm) (h : kK D q s) : kK D q U := ⟨va_K.moved hW.alike h.1, kNest.warm hW h.2⟩
/-- what a contract's start says of the heap -/
def kB (D : va_G) (q : Nat → ClassId) (P : Heap → Prop) : State → Prop := fun U => P U.heap ∧ kK D q U
theorem kB_blind {av : List Value} {D : va_G} {q : Nat → ClassId} {P : Heap → Prop} : FrameBlind (va_Pc av (kB D q P)) := fun a U g mk h => ⟨h.1, h.2.1, va_K.moved (u := U) (U := U.calling g mk a) (Vm.Alike.refl U.vm) h.2.2.1, kNest.same (u := U) (U := U.calling g mk a) rfl h.2.2.2⟩
/-- the heap holds a world whose cells are apart and of A -/
def kW (D : va_G) (A : Nat → Prop) (ws : va_W) (H : Heap) : Prop := va_P D vwCl ws H ∧ va_D A ws
/-- ends of a method that writes: its answer, and the world behind it -/
def kRi (D : va_G) (A : Nat → Prop) (v : Int32) (ws : va_W) : Array Value → State → Outcome → State → Prop := va_Qi (fun (r : Int32) (_ : Unit) => r = v) (fun _ t => kW D A ws t.heap) A
def kRv (D : va_G) (A : Nat → Prop) (ws : va_W) : Array Value → State → Outcome → State → Prop := va_Qv (fun _ : Unit => True) (fun _ t => kW D A ws t.heap) A
/-- ends of a method that only reads -/
def kSi (v : Int32) : Array Value → State → Outcome → State → Prop := vp_Si (fun r => r = v)
/-- what holds in a method's body: the machine, its code, its words -/
def kAt (p : Program) (s : State) (m : MethodId) (args : Array Value) (meth : Method) (c : Code) (cc : ByteArray) (nL : Nat) (ret : Option FieldType) (own : String) (ws : List Cond) : Prop :=
  p.tables.exec = Jvm.exec ∧ c.code = cc ∧ meth.sig.returnType = ret ∧ c.maxLocals = nL ∧ s.vm.findClass own = some m.cls ∧ (∀ w ∈ ws, w.before args s = true) ∧ meth.locks = false
theorem kAt_of {p : Program} {l : Launch} {y : MethodName} {ws : List Cond} {rm : Room} {cc : ByteArray} {maxL : Nat} {ret : Option FieldType} {e : Env} {s : State} {m : MethodId} {args : Array Value} {below : List Frame} {meth : Method} {c : Code} {s₁ : State}
    (B : BodyLoose p l y (headSpec ws rm) cc maxL ret e s m args below meth c s₁) (hml : c.maxLocals = maxL) : kAt p s m args meth c cc maxL ret y.cls ws :=
  ⟨B.exec, B.bytes, B.returns, hml, findClass_of_methodNamed B.named, atoms_spec (ws := ws) B.pre, B.notSynchronized⟩
section KB
variable {p : Program} {l : Launch} {e : Env} {R : Room} {s : State} {m : MethodId} {args : Array Value} {below : List Frame} {meth : Method} {c : Code} {H : Heap} {locs : List Loc} {cells slots : Nat} {Q : State → Prop}
variable {pc : Nat} {ls : Array Slot} {rest : List Value} {cc : ByteArray}
/-- another word for the number on top -/
theorem k_top {x y : Int32} (h : x = y) (k : W p l e R s m args below meth c H locs cells slots Q (F0 m pc ls (.int y :: rest))) : W p l e R s m args below meth c H locs cells slots Q (F0 m pc ls (.int x :: rest)) := by rw [h]; exact k
theorem k_if_eq (hexec : p.tables.exec = Jvm.exec) (hb : c.code = cc) {x : Int32} {off : Int} {tgt : Nat} {P : Prop} (hdg : decode cc pc = .ok (.ifCond .eq off, 3)) (ht : (pc : Int) + off = (tgt : Int)) (hP : x = 0 ↔ P)
    (kt : P → W p l e R s m args below meth c H locs cells slots Q (F0 m tgt ls rest)) (kf : ¬ P → W p l e R s m args below meth c H locs cells slots Q (F0 m (pc + 3) ls rest)) : W p l e R s m args below meth c H locs cells slots Q (F0 m pc ls (.int x :: rest)) :=
  lv_if_eq hexec hb hdg ht (fun h => kt (hP.mp h)) (fun h => kf (fun z => h (hP.mpr z)))
theorem k_if_ne (hexec : p.tables.exec = Jvm.exec) (hb : c.code = cc) {x : Int32} {off : Int} {tgt : Nat} {P : Prop} (hdg : decode cc pc = .ok (.ifCond .ne off, 3)) (ht : (pc : Int) + off = (tgt : Int)) (hP : x = 0 ↔ P)
    (kt : ¬ P → W p l e R s m args below meth c H locs cells slots Q (F0 m tgt ls rest)) (kf : P → W p l e R s m args below meth c H locs cells slots Q (F0 m (pc + 3) ls rest)) : W p l e R s m args below meth c H locs cells slots Q (F0 m pc ls (.int x :: rest)) :=
  lv_if_ne hexec hb hdg ht (fun h => kt (fun z => h (hP.mpr z))) (fun h => kf (hP.mp h))
theorem k_if_lt (hexec : p.tables.exec = Jvm.exec) (hb : c.code = cc) {x : Int32} {off : Int} {tgt : Nat} {P : Prop} (hdg : decode cc pc = .ok (.ifCond .lt off, 3)) (ht : (pc : Int) + off = (tgt : Int)) (hP : x < 0 ↔ P)
    (kt : P → W p l e R s m args below meth c H locs cells slots Q (F0 m tgt ls rest)) (kf : ¬ P → W p l e R s m args below meth c H locs cells slots Q (F0 m (pc + 3) ls rest)) : W p l e R s m args below meth c H locs cells slots Q (F0 m pc ls (.int x :: rest)) :=
  lv_if_lt hexec hb hdg ht (fun h => kt (hP.mp h)) (fun h => kf (fun z => h (hP.mpr z)))
theorem k_if_ge (hexec : p.tables.exec = Jvm.exec) (hb : c.code = cc) {x : Int32} {off : Int} {tgt : Nat} {P : Prop} (hdg : decode cc pc = .ok (.ifCond .ge off, 3)) (ht : (pc : Int) + off = (tgt : Int)) (hP : x < 0 ↔ P)
    (kt : ¬ P → W p l e R s m args below meth c H locs cells slots Q (F0 m tgt ls rest)) (kf : P → W p l e R s m args below meth c H locs cells slots Q (F0 m (pc + 3) ls rest)) : W p l e R s m args below meth c H locs cells slots Q (F0 m pc ls (.int x :: rest)) :=
  lv_if_ge hexec hb hdg ht (fun h => kt (fun z => Int32.not_lt.mpr h (hP.mpr z))) (fun h => kf (hP.mp (Int32.not_le.mp h)))
theorem k_if_gt (hexec : p.tables.exec = Jvm.exec) (hb : c.code = cc) {x : Int32} {off : Int} {tgt : Nat} {P : Prop} (hdg : decode cc pc = .ok (.ifCond .gt off, 3)) (ht : (pc : Int) + off = (tgt : Int)) (hP : x ≤ 0 ↔ P)
    (kt : ¬ P → W p l e R s m args below meth c H locs cells slots Q (F0 m tgt ls rest)) (kf : P → W p l e R s m args below meth c H locs cells slots Q (F0 m (pc + 3) ls rest)) : W p l e R s m args below meth c H locs cells slots Q (F0 m pc ls (.int x :: rest)) :=
  lv_if_gt hexec hb hdg ht (fun h => kt (fun z => Int32.not_le.mpr h (hP.mpr z))) (fun h => kf (hP.mp (Int32.not_lt.mp h)))
theorem k_if_le (hexec : p.tables.exec = Jvm.exec) (hb : c.code = cc) {x : Int32} {off : Int} {tgt : Nat} {P : Prop} (hdg : decode cc pc = .ok (.ifCond .le off, 3)) (ht : (pc : Int) + off = (tgt : Int)) (hP : x ≤ 0 ↔ P)
    (kt : P → W p l e R s m args below meth c H locs cells slots Q (F0 m tgt ls rest)) (kf : ¬ P → W p l e R s m args below meth c H locs cells slots Q (F0 m (pc + 3) ls rest)) : W p l e R s m args below meth c H locs cells slots Q (F0 m pc ls (.int x :: rest)) :=
  lv_if_le hexec hb hdg ht (fun h => kt (hP.mp h)) (fun h => kf (fun z => h (hP.mpr z)))
theorem k_icmp_eq (hexec : p.tables.exec = Jvm.exec) (hb : c.code = cc) {x y : Int32} {off : Int} {tgt : Nat} {P : Prop} (hdg : decode cc pc = .ok (.if_icmp .eq off, 3)) (ht : (pc : Int) + off = (tgt : Int)) (hP : x = y ↔ P)
    (kt : P → W p l e R s m args below meth c H locs cells slots Q (F0 m tgt ls rest)) (kf : ¬ P → W p l e R s m args below meth c H locs cells slots Q (F0 m (pc + 3) ls rest)) : W p l e R s m args below meth c H locs cells slots Q (F0 m pc ls (.int y :: .int x :: rest)) :=
  lv_icmp_eq hexec hb hdg ht (fun h => kt (hP.mp h)) (fun h => kf (fun z => h (hP.mpr z)))
theorem k_icmp_ne (hexec : p.tables.exec = Jvm.exec) (hb : c.code = cc) {x y : Int32} {off : Int} {tgt : Nat} {P : Prop} (hdg : decode cc pc = .ok (.if_icmp .ne off, 3)) (ht : (pc : Int) + off = (tgt : Int)) (hP : x = y ↔ P)
    (kt : ¬ P → W p l e R s m args below meth c H locs cells slots Q (F0 m tgt ls rest)) (kf : P → W p l e R s m args below meth c H locs cells slots Q (F0 m (pc + 3) ls rest)) : W p l e R s m args below meth c H locs cells slots Q (F0 m pc ls (.int y :: .int x :: rest)) :=
  lv_icmp_ne hexec hb hdg ht (fun h => kt (fun z => h (hP.mpr z))) (fun h => kf (hP.mp h))
theorem k_icmp_lt (hexec : p.tables.exec = Jvm.exec) (hb : c.code = cc) {x y : Int32} {off : Int} {tgt : Nat} {P : Prop} (hdg : decode cc pc = .ok (.if_icmp .lt off, 3)) (ht : (pc : Int) + off = (tgt : Int)) (hP : x < y ↔ P)
    (kt : P → W p l e R s m args below meth c H locs cells slots Q (F0 m tgt ls rest)) (kf : ¬ P → W p l e R s m args below meth c H locs cells slots Q (F0 m (pc + 3) ls rest)) : W p l e R s m args below meth c H locs cells slots Q (F0 m pc ls (.int y :: .int x :: rest)) :=
  lv_icmp_lt hexec hb hdg ht (fun h => kt (hP.mp h)) (fun h => kf (fun z => h (hP.mpr z)))
theorem k_icmp_ge (hexec : p.tables.exec = Jvm.exec) (hb : c.code = cc) {x y : Int32} {off : Int} {tgt : Nat} {P : Prop} (hdg : decode cc pc = .ok (.if_icmp .ge off, 3)) (ht : (pc : Int) + off = (tgt : Int)) (hP : x < y ↔ P)
    (kt : ¬ P → W p l e R s m args below meth c H locs cells slots Q (F0 m tgt ls rest)) (kf : P → W p l e R s m args below meth c H locs cells slots Q (F0 m (pc + 3) ls rest)) : W p l e R s m args below meth c H locs cells slots Q (F0 m pc ls (.int y :: .int x :: rest)) :=
  lv_icmp_ge hexec hb hdg ht (fun h => kt (fun z => Int32.not_lt.mpr h (hP.mpr z))) (fun h => kf (hP.mp (Int32.not_le.mp h)))
theorem k_icmp_gt (hexec : p.tables.exec = Jvm.exec) (hb : c.code = cc) {x y : Int32} {off : Int} {tgt : Nat} {P : Prop} (hdg : decode cc pc = .ok (.if_icmp .gt off, 3)) (ht : (pc : Int) + off = (tgt : Int)) (hP : x ≤ y ↔ P)
    (kt : ¬ P → W p l e R s m args below meth c H locs cells slots Q (F0 m tgt ls rest)) (kf : P → W p l e R s m args below meth c H locs cells slots Q (F0 m (pc + 3) ls rest)) : W p l e R s m args below meth c H locs cells slots Q (F0 m pc ls (.int y :: .int x :: rest)) :=
  lv_icmp_gt hexec hb hdg ht (fun h => kt (fun z => Int32.not_le.mpr h (hP.mpr z))) (fun h => kf (hP.mp (Int32.not_lt.mp h)))
theorem k_icmp_le (hexec : p.tables.exec = Jvm.exec) (hb : c.code = cc) {x y : Int32} {off : Int} {tgt : Nat} {P : Prop} (hdg : decode cc pc = .ok (.if_icmp .le off, 3)) (ht : (pc : Int) + off = (tgt : Int)) (hP : x ≤ y ↔ P)
    (kt : P → W p l e R s m args below meth c H locs cells slots Q (F0 m tgt ls rest)) (kf : ¬ P → W p l e R s m args below meth c H locs cells slots Q (F0 m (pc + 3) ls rest)) : W p l e R s m args below meth c H locs cells slots Q (F0 m pc ls (.int y :: .int x :: rest)) :=
  lv_icmp_le hexec hb hdg ht (fun h => kt (hP.mp h)) (fun h => kf (fun z => h (hP.mpr z)))
/-- a load out of an array of ints, its place a natural number -/
theorem k_iald {D : va_G} {q : Nat → ClassId} {ws : va_W} {a : Nat} (hexec : p.tables.exec = Jvm.exec) (hb : c.code = cc) (hK : kK D q s) (hP : va_P D vwCl ws H) (q0 : Nat) {N : Nat} {f : Nat → Int32} (ha : ws[q0]? = some (a, .inl (q 0, N, .inl f))) {i : Int32} (n : Nat) (hi : i = nI n) (hn : n < N) (hN : N < 2 ^ 31) (hdg : decode cc pc = .ok (.iaload, 1))
    (kk : W p l e R s m args below meth c H locs cells slots Q (F0 m (pc + 1) ls (.int (f n) :: rest))) : W p l e R s m args below meth c H locs cells slots Q (F0 m pc ls (.int i :: .ref a :: rest)) := by
  subst hi
  refine va_iald hexec hb hK.1 hP q0 0 ha rfl (vp_in_nI hn hN) hdg ?_
  rw [nI_clamp (Nat.lt_trans hn hN)]; exact kk
theorem k_zald {D : va_G} {q : Nat → ClassId} {ws : va_W} {a : Nat} (hexec : p.tables.exec = Jvm.exec) (hb : c.code = cc) (hK : kK D q s) (hP : va_P D vwCl ws H) (q0 : Nat) {N : Nat} {f : Nat → Int32} (ha : ws[q0]? = some (a, .inl (q 1, N, .inl f))) {i : Int32} (n : Nat) (hi : i = nI n) (hn : n < N) (hN : N < 2 ^ 31) (hdg : decode cc pc = .ok (.baload, 1))
    (kk : W p l e R s m args below meth c H locs cells slots Q (F0 m (pc + 1) ls (.int (f n) :: rest))) : W p l e R s m args below meth c H locs cells slots Q (F0 m pc ls (.int i :: .ref a :: rest)) := by
  subst hi
  refine va_zald hexec hb hK.1 hP q0 1 ha rfl (vp_in_nI hn hN) hdg ?_
  rw [nI_clamp (Nat.lt_trans hn hN)]; exact kk
/-- a store into an array of ints: the world behind it is said -/
theorem k_iast {D : va_G} {A : Nat → Prop} {q : Nat → ClassId} {ws : va_W} (ws' : va_W) {a : Nat} {H0 : Heap} (hexec : p.tables.exec = Jvm.exec) (hb : c.code = cc) (hK : kK D q s) (hP : kW D A ws H) (hS : va_S A H0 H locs) (q0 : Nat) {N : Nat} {f : Nat → Int32} (ha : ws[q0]? = some (a, .inl (q 0, N, .inl f))) {i x : Int32} (n : Nat) (hi : i = nI n) (hn : n < N) (hN : N < 2 ^ 31) (hw : ws.set q0 (a, .inl (q 0, N, .inl (upd f n x))) = ws') (hdg : decode cc pc = .ok (.iastore, 1))
    (kk : ∀ (H1 : Heap) (locs1 : List Loc), kW D A ws' H1 → va_S A H0 H1 locs1 → W p l e R s m args below meth c H1 locs1 cells slots Q (F0 m (pc + 1) ls rest)) : W p l e R s m args below meth c H locs cells slots Q (F0 m pc ls (.int x :: .int i :: .ref a :: rest)) := by
  subst hi
  subst hw
  refine va_iast hexec hb hK.1 hP.1 hP.2 hS q0 0 ha rfl (vp_in_nI hn hN) hdg (fun H1 locs1 h1 h2 h3 => ?_)
  rw [nI_clamp (Nat.lt_trans hn hN)] at h1 h2
  exact kk H1 locs1 ⟨h1, h2⟩ h3
/-- a store into an array of booleans, of 0 or 1 -/
theorem k_zast {D : va_G} {A : Nat → Prop} {q : Nat → ClassId} {ws : va_W} (ws' : va_W) {a : Nat} {H0 : Heap} (hexec : p.tables.exec = Jvm.exec) (hb : c.code = cc) (hK : kK D q s) (hP : kW D A ws H) (hS : va_S A H0 H locs) (q0 : Nat) {N : Nat} {f : Nat → Int32} (ha : ws[q0]? = some (a, .inl (q 1, N, .inl f))) {i x : Int32} (n : Nat) (hi : i = nI n) (hn : n < N) (hN : N < 2 ^ 31) (hx1 : vp_nar .boolean x = x) (hw : ws.set q0 (a, .inl (q 1, N, .inl (upd f n x))) = ws') (hdg : decode cc pc = .ok (.bastore, 1))
    (kk : ∀ (H1 : Heap) (locs1 : List Loc), kW D A ws' H1 → va_S A H0 H1 locs1 → W p l e R s m args below meth c H1 locs1 cells slots Q (F0 m (pc + 1) ls rest)) : W p l e R s m args below meth c H locs cells slots Q (F0 m pc ls (.int x :: .int i :: .ref a :: rest)) := by
  subst hi
  subst hw
  refine va_zast hexec hb hK.1 hP.1 hP.2 hS q0 1 ha rfl (vp_in_nI hn hN) hdg (fun H1 locs1 h1 h2 h3 => ?_)
  rw [nI_clamp (Nat.lt_trans hn hN), hx1] at h1 h2
  exact kk H1 locs1 ⟨h1, h2⟩ h3
/-- a store into a field that holds an int -/
theorem k_puti {D : va_G} {A : Nat → Prop} {q : Nat → ClassId} {ws : va_W} (ws' : va_W) {a : Nat} {H0 : Heap} (hexec : p.tables.exec = Jvm.exec) (hb : c.code = cc) {own ref C : String} {T : u_T} {N ci index : Nat} {Ts : List Cond} (hts : ∀ w ∈ Ts, w.before args s = true) (hin : ∀ w ∈ u_ws C T N, w ∈ Ts) (ty0 : Nat → FieldType) (hty : ∀ k, k < N → parseFieldDescriptor (T k).2.2.1 = some (ty0 k)) (hnm : ∀ a, a < N → ∀ b, b < N → a ≠ b → (T a).2.1 ≠ (T b).2.1) (hown : s.vm.findClass own = some m.cls) (hK : kK D q s) (hP : kW D A ws H) (hS : va_S A H0 H locs) (q0 : Nat) {fs : List Value} (he : ws[q0]? = some (a, .inr (ci, fs))) (hc : vwCl[ci]? = some (C, T, N)) (k : Nat) (hk : k < N) (hlink : (Cond.fieldLink own index ref (T k).2.1 (T k).2.2.1).before args s = true) (hsame : ∀ x, s.fieldFound? (T k).1 (T k).2.1 (T k).2.2.1 = some x → s.fieldFound? ref (T k).2.1 (T k).2.2.1 = some x) (hfin : (T k).2.2.2 = false) {v : Int32} (hd : parseFieldDescriptor (T k).2.2.1 = some .int) (hl : k < fs.length) (hw : ws.set q0 (a, .inr (ci, fs.set k (.int v))) = ws')
    (hdg : decode cc pc = .ok (.putfield index, 3)) (kk : ∀ (H1 : Heap) (locs1 : List Loc), kW D A ws' H1 → va_S A H0 H1 locs1 → W p l e R s m args below meth c H1 locs1 cells slots Q (F0 m (pc + 3) ls rest)) : W p l e R s m args below meth c H locs cells slots Q (F0 m pc ls (.int v :: .ref a :: rest)) := by
  subst hw
  exact va_put hexec hb hts hin ty0 hty hnm hown hK.1 hP.1 hP.2 hS q0 he hc k hk hlink hsame hfin hd rfl rfl hl hdg (fun H1 locs1 h1 h2 h3 => kk H1 locs1 ⟨h1, h2⟩ h3)
/-- ends -/
theorem k_iretS {y : Int32} {v : Int32} (hexec : p.tables.exec = Jvm.exec) (hb : c.code = cc) (hr : meth.sig.returnType = some .int) (hlocks : meth.locks = false) (hh : s.heap = H) (hl0 : locs = []) (hv : v = y) (hdg : decode cc pc = .ok (.ireturn, 1)) : W p l e R s m args below meth c H locs cells slots (MQ below (kSi y) args s cells slots (fun _ => False)) (F0 m pc ls [.int v]) := by
  subst hl0
  exact W.iret hexec hb hr (fun t ht _ => ⟨v, rfl, hv, ht.trans hh.symm⟩) (fun q h => by cases h) hdg hlocks
theorem k_zretS {y : Int32} {v : Int32} (hexec : p.tables.exec = Jvm.exec) (hb : c.code = cc) (hr : meth.sig.returnType = some .boolean) (hlocks : meth.locks = false) (hn : narrow .boolean (.int v) = .int v) (hh : s.heap = H) (hl0 : locs = []) (hv : v = y) (hdg : decode cc pc = .ok (.ireturn, 1)) : W p l e R s m args below meth c H locs cells slots (MQ below (kSi y) args s cells slots (fun _ => False)) (F0 m pc ls [.int v]) := by
  subst hl0
  exact W.zret hexec hb hr hn (fun t ht _ => ⟨v, rfl, hv, ht.trans hh.symm⟩) (fun q h => by cases h) hdg hlocks
theorem k_iretW {D : va_G} {A : Nat → Prop} {ws : va_W} {y v : Int32} (hexec : p.tables.exec = Jvm.exec) (hb : c.code = cc) (hr : meth.sig.returnType = some .int) (hlocks : meth.locks = false) (hP : kW D A ws H) (hS : va_S A s.heap H locs) (hv : v = y) (hdg : decode cc pc = .ok (.ireturn, 1)) : W p l e R s m args below meth c H locs cells slots (MQ below (kRi D A y ws) args s cells slots A) (F0 m pc ls [.int v]) :=
  W.iret hexec hb hr (fun t ht _ => ⟨⟨v, (), rfl, hv, by show kW D A ws t.heap; rw [ht]; exact hP⟩, hS.F ht⟩) hS.2.2 hdg hlocks
theorem k_vretW {D : va_G} {A : Nat → Prop} {ws : va_W} (hexec : p.tables.exec = Jvm.exec) (hb : c.code = cc) (hr : meth.sig.returnType = none) (hlocks : meth.locks = false) (hP : kW D A ws H) (hS : va_S A s.heap H locs) (hdg : decode cc pc = .ok (.return_, 1)) : W p l e R s m args below meth c H locs cells slots (MQ below (kRv D A ws) args s cells slots A) (F0 m pc ls []) :=
  W.vret hexec hb hr (fun t ht _ => ⟨⟨(), rfl, trivial, by show kW D A ws t.heap; rw [ht]; exact hP⟩, hS.F ht⟩) hS.2.2 hdg hlocks
/-- calls of methods that only read: a virtual one, a static one, a private static one of a nest mate -/
theorem k_callV {D : va_G} {q : Nat → ClassId} {P : Heap → Prop} {r : Int32} {y : MethodName} {bytes : ByteArray} {maxL nL n index : Nat} {ret : Option FieldType} {ws : List Cond} {rm : Room} {Ts : List Cond} {own C : String} {b : Addr} {As st0 : List Value} {ce : Int32 → Prop}
    (S : CallFix p m c cc nL s args Ts own) (hM : Met l y ws rm (va_Pc (.ref b :: As) (kB D q P)) (vp_Si ce) 0 0 (fun _ => False)) (cw : CallW R s args own C index y bytes maxL ret ws rm 0 0 n) (hK : kK D q s) (hH : P H) (hrecv : ∃ cellB : Cell, H[b]? = some cellB ∧ cellB.vm.isStatics = false ∧ s.vm.findClass C = some cellB.cls)
    (hn : As.length = n) (hsize : ls.size = nL) (hstack : st0 = As.reverse ++ .ref b :: rest) (hW : (rest.map fun v => v.category).sum ≤ 8) (hdg : decode cc pc = .ok (.invokevirtual index, 3)) (hroom : cells ≤ R.cells ∧ slots ≤ R.slots) (hce : ∀ z, ce z → z = r)
    (kk : W p l e R s m args below meth c H locs cells slots Q (F0 m (pc + 3) ls (.int r :: rest))) : W p l e R s m args below meth c H locs cells slots Q (F0 m pc ls st0) :=
  vp_callSi (W.runV S hM cw ⟨kB_blind, hrecv, fun U hU hW => ⟨rfl, by rw [hU]; exact hH, hK.warm hW⟩⟩ rfl hn hsize hstack (lv_room hW) hdg hroom) (fun z hz => by rw [hce z hz]; exact kk)
theorem k_callS {D : va_G} {q : Nat → ClassId} {P : Heap → Prop} {r : Int32} {y : MethodName} {bytes : ByteArray} {maxL nL n index : Nat} {ret : Option FieldType} {ws : List Cond} {rm : Room} {Ts : List Cond} {own : String} {As st0 : List Value} {ce : Int32 → Prop}
    (S : CallFix p m c cc nL s args Ts own) (hM : Met l y ws rm (va_Pc As (kB D q P)) (vp_Si ce) 0 0 (fun _ => False)) (cw : CallB R s args own index y bytes maxL ret ws rm 0 0 n ∧ (Cond.static y).before args s = true) (hK : kK D q s) (hH : P H)
    (hn : As.length = n) (hsize : ls.size = nL) (hstack : st0 = As.reverse ++ rest) (hW : (rest.map fun v => v.category).sum ≤ 8) (hdg : decode cc pc = .ok (.invokestatic index, 3)) (hroom : cells ≤ R.cells ∧ slots ≤ R.slots) (hce : ∀ z, ce z → z = r)
    (kk : W p l e R s m args below meth c H locs cells slots Q (F0 m (pc + 3) ls (.int r :: rest))) : W p l e R s m args below meth c H locs cells slots Q (F0 m pc ls st0) :=
  vp_callSi (W.runS S hM cw ⟨kB_blind, fun U hU hW => ⟨rfl, by rw [hU]; exact hH, hK.warm hW⟩⟩ rfl hn hsize hstack (lv_room hW) hdg hroom) (fun z hz => by rw [hce z hz]; exact kk)
theorem k_callSN {D : va_G} {q : Nat → ClassId} {P : Heap → Prop} {r : Int32} {y : MethodName} {bytes : ByteArray} {maxL nL n index : Nat} {ret : Option FieldType} {ws : List Cond} {rm : Room} {Ts : List Cond} {own host : String} {As st0 : List Value} {ce : Int32 → Prop}
    (S : CallFix p m c cc nL s args Ts own) (hM : Met l y ws rm (va_Pc As (kB D q P)) (vp_Si ce) 0 0 (fun _ => False)) (cw : va_CN R s args own index y host bytes maxL ret ws rm 0 0 n ∧ (Cond.static y).before args s = true ∧ True) (hK : kK D q s) (hH : P H)
    (hn : As.length = n) (hsize : ls.size = nL) (hstack : st0 = As.reverse ++ rest) (hW : (rest.map fun v => v.category).sum ≤ 8) (hdg : decode cc pc = .ok (.invokestatic index, 3)) (hroom : cells ≤ R.cells ∧ slots ≤ R.slots) (hce : ∀ z, ce z → z = r)
    (kk : W p l e R s m args below meth c H locs cells slots Q (F0 m (pc + 3) ls (.int r :: rest))) : W p l e R s m args below meth c H locs cells slots Q (F0 m pc ls st0) := by
  have hr : va_Run p l e R s m args below meth c H locs cells slots 0 0 (F0 m pc ls st0) rest (vp_Si ce As.toArray) (fun _ => False) := va_runSN S hM cw ⟨kB_blind, fun U hU hW => ⟨rfl, by rw [hU]; exact hH, hK.warm hW⟩⟩ rfl hn hsize hstack (lv_room hW) hdg hroom
  refine vp_callSi (post := ce) (a := As.toArray) (fun T hT X => ?_) (fun z hz => by rw [hce z hz]; exact kk)
  obtain ⟨v, st₀, t, T', L, h0, X', hL, e1, e2, hq, st⟩ := hr T hT X
  exact ⟨v, st₀, t, T', L, h0, X', hL, e1, hq, st⟩
/-- calls of methods that write: the world behind them is said -/
theorem k_goRi {D : va_G} {A : Nat → Prop} {H0 : Heap} {ws : va_W} {r : Int32} {a : Array Value} {st0 : List Value} {mc ms : Nat} (hS : va_S A H0 H locs) (hr : va_Run p l e R s m args below meth c H locs cells slots mc ms (F0 m pc ls st0) rest (kRi D A r ws a) A)
    (kk : ∀ (H1 : Heap) (locs1 : List Loc), kW D A ws H1 → va_S A H0 H1 locs1 → W p l e R s m args below meth c H1 locs1 (cells + mc) (slots + ms) Q (F0 m (pc + 3) ls (.int r :: rest))) : W p l e R s m args below meth c H locs cells slots Q (F0 m pc ls st0) :=
  va_calli hr hS (fun _ _ h => h) (fun _ h => h) (fun r1 _ t H1 locs1 ht _ hp hB _ _ hS1 => by rw [hp]; exact kk H1 locs1 (by rw [← ht]; exact hB) hS1)
theorem k_goRv {D : va_G} {A : Nat → Prop} {H0 : Heap} {ws : va_W} {a : Array Value} {st0 : List Value} {mc ms : Nat} (hS : va_S A H0 H locs) (hr : va_Run p l e R s m args below meth c H locs cells slots mc ms (F0 m pc ls st0) rest (kRv D A ws a) A)
    (kk : ∀ (H1 : Heap) (locs1 : List Loc), kW D A ws H1 → va_S A H0 H1 locs1 → W p l e R s m args below meth c H1 locs1 (cells + mc) (slots + ms) Q (F0 m (pc + 3) ls rest)) : W p l e R s m args below meth c H locs cells slots Q (F0 m pc ls st0) :=
  va_callv hr hS (fun _ _ h => h) (fun _ h => h) (fun _ t H1 locs1 ht _ _ hB _ _ hS1 => kk H1 locs1 (by rw [← ht]; exact hB) hS1)
end KB
/-- numbers -/
theorem k_iinc (a : Nat) : nI a + Int32.ofInt 1 = nI (a + 1) := nI_1 a
theorem k_idec (a : Nat) : nI (a + 1) + Int32.ofInt (-1) = nI a := pk_m1 a
theorem k_pred (a : Nat) : nI (a + 1) - nI 1 = nI a := nI_pred a
theorem k_n0 {a : Nat} (h : a < 2 ^ 31) : nI a = 0 ↔ a = 0 := nI_eq (a := a) (b := 0) h (by decide)
theorem k_nlt0 {a : Nat} (h : a < 2 ^ 31) : nI a < 0 ↔ False := ⟨fun z => absurd z (nI_pos h), False.elim⟩
theorem k_nle0 {a : Nat} (h : a < 2 ^ 31) : nI a ≤ 0 ↔ a = 0 := by
  have k := nI_leI (a := a) (b := 0) h (by decide)
  rw [nI_0] at k
  exact k.trans Nat.le_zero
/-- a truth value as the machine has it -/
def bI (P : Prop) [Decidable P] : Int32 := if P then nI 1 else nI 0
theorem bI_0 {P : Prop} [Decidable P] : bI P = 0 ↔ ¬ P := by
  unfold bI
  by_cases h : P
  · rw [if_pos h]; exact ⟨fun z => absurd z (by decide), fun z => absurd h z⟩
  · rw [if_neg h]; exact ⟨fun _ => h, fun _ => rfl⟩
theorem bI_t {P : Prop} [Decidable P] (h : P) : bI P = nI 1 := if_pos h
theorem bI_f {P : Prop} [Decidable P] (h : ¬ P) : bI P = nI 0 := if_neg h
theorem bI_nar {P : Prop} [Decidable P] : narrow .boolean (.int (bI P)) = .int (bI P) := by
  by_cases h : P
  · rw [bI_t h]; rfl
  · rw [bI_f h]; rfl
theorem bI_vnar {P : Prop} [Decidable P] : vp_nar .boolean (bI P) = bI P := by
  by_cases h : P
  · rw [bI_t h]; rfl
  · rw [bI_f h]; rfl
