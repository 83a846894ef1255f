/-! makings: rows of numbers and of truths, and what a constructor's contract starts from -/
def kBN (D : va_G) (q : Nat → ClassId) (A : Nat → Prop) (P : Heap → Prop) : State → Prop := fun U => kB D q P U ∧ ∀ z : Nat, U.heap.size ≤ z → A z
theorem kBN_blind {av : List Value} {D : va_G} {q : Nat → ClassId} {A : Nat → Prop} {P : Heap → Prop} : FrameBlind (va_Pc av (kBN D q A P)) := fun a U g mk h => ⟨h.1, (kB_blind a U g mk ⟨h.1, h.2.1⟩).2, h.2.2⟩
abbrev zR : Nat → Int32 := fun _ => nI 0
/-- a row with its first n places laid -/
def flR (f : Nat → Int32) (v : Int32) : Nat → Nat → Int32
  | 0 => f
  | n + 1 => upd (flR f v n) n v
/-- ends of a constructor: where its rows lie, and the world -/
def kRn (D : va_G) (A : Nat → Prop) (w : (Nat → Nat) → va_W) : Array Value → State → Outcome → State → Prop := va_Qv (fun _ : Nat → Nat => True) (fun f t => kW D A (w f) t.heap) A
section KN
variable {p : Program} {l : Launch} {e : Env} {R : Room} {s : State} {m : MethodId} {args : Array Value} {below : List Frame} {meth : Method} {c : Code} {H : Heap} {locs : List Loc} {cells slots : Nat} {Q : State → Prop}
variable {pc : Nat} {ls : Array Slot} {rest : List Value} {cc : ByteArray}
theorem k_newi {D : va_G} {A : Nat → Prop} {q : Nat → ClassId} {ws : va_W} {H0 : Heap} (hexec : p.tables.exec = Jvm.exec) (hb : c.code = cc) (harr : (Cond.arrayClass .int).before args s = true) (hK : kK D q s) (hP : kW D A ws H) (hS : va_S A H0 H locs) (hA : ∀ z : Nat, H0.size ≤ z → A z) {N : Nat} (hN : N ≤ 100000) (hc : cells + 1 ≤ R.cells) (hs : slots + N ≤ R.slots) (hdg : decode cc pc = .ok (.newarray .int, 2))
    (kk : ∀ (z : Nat) (H1 : Heap), kW D A (ws ++ [(z, .inl (q 0, N, .inl zR))]) H1 → va_S A H0 H1 locs → W p l e R s m args below meth c H1 locs (cells + 1) (slots + N) Q (F0 m (pc + 2) ls (.ref z :: rest))) : W p l e R s m args below meth c H locs cells slots Q (F0 m pc ls (.int (nI N) :: rest)) :=
  va_newa (atype := .int) hexec hb harr rfl hK.1 hP.1 hP.2 hS hA (N' := N) (a0 := (N, .inl zR)) (fun cA => rfl) (nI_pos (by omega)) (nI_clamp (by omega)) (by show N * 4 ≤ 536870912; omega) hc hs hdg (fun z cA H1 hK1 hP1 hD1 hS1 => by
    have e1 := (hK1.2 4 (cA, .int) rfl).2
    have e2 := (hK.1.2 0 (q 0, .int) rfl).2
    cases Option.some.inj (e1.symm.trans e2)
    exact kk z H1 ⟨hP1, hD1⟩ hS1)
theorem k_newz {D : va_G} {A : Nat → Prop} {q : Nat → ClassId} {ws : va_W} {H0 : Heap} (hexec : p.tables.exec = Jvm.exec) (hb : c.code = cc) (harr : (Cond.arrayClass .boolean).before args s = true) (hK : kK D q s) (hP : kW D A ws H) (hS : va_S A H0 H locs) (hA : ∀ z : Nat, H0.size ≤ z → A z) {N : Nat} (hN : N ≤ 100000) (hc : cells + 1 ≤ R.cells) (hs : slots + N ≤ R.slots) (hdg : decode cc pc = .ok (.newarray .boolean, 2))
    (kk : ∀ (z : Nat) (H1 : Heap), kW D A (ws ++ [(z, .inl (q 1, N, .inl zR))]) H1 → va_S A H0 H1 locs → W p l e R s m args below meth c H1 locs (cells + 1) (slots + N) Q (F0 m (pc + 2) ls (.ref z :: rest))) : W p l e R s m args below meth c H locs cells slots Q (F0 m pc ls (.int (nI N) :: rest)) :=
  va_newa (atype := .boolean) hexec hb harr rfl hK.1 hP.1 hP.2 hS hA (N' := N) (a0 := (N, .inl zR)) (fun cA => rfl) (nI_pos (by omega)) (nI_clamp (by omega)) (by show N * 1 ≤ 536870912; omega) hc hs hdg (fun z cA H1 hK1 hP1 hD1 hS1 => by
    have e1 := (hK1.2 4 (cA, .boolean) rfl).2
    have e2 := (hK.1.2 1 (q 1, .boolean) rfl).2
    cases Option.some.inj (e1.symm.trans e2)
    exact kk z H1 ⟨hP1, hD1⟩ hS1)
/-- a constructor of a new object is called: its cell is cut out, what comes back is put behind the rest -/
theorem k_goNv {D : va_G} {A : Nat → Prop} {H0 : Heap} {wo w : va_W} {w' : (Nat → Nat) → va_W} {a : Array Value} {st0 : List Value} {mc ms : Nat} (hP : kW D A (wo ++ w) H) (hA : ∀ z : Nat, H0.size ≤ z → A z) (hS : va_S A H0 H locs)
    (hr : va_Run p l e R s m args below meth c H locs cells slots mc ms (F0 m pc ls st0) rest (kRn D (va_A w H.size) w' a) (va_A w H.size))
    (kk : ∀ (f : Nat → Nat) (H1 : Heap) (locs1 : List Loc), kW D A (wo ++ w' f) H1 → va_S A H0 H1 locs1 → W p l e R s m args below meth c H1 locs1 (cells + mc) (slots + ms) Q (F0 m (pc + 3) ls rest)) : W p l e R s m args below meth c H locs cells slots Q (F0 m pc ls st0) :=
  have hA2 : ∀ z : Nat, H.size ≤ z → A z := fun z hz => hA z (Nat.le_trans hS.1 hz)
  have hw := kW_sub hP hA2
  va_callv hr hS (fun z _ h => hw z h) hw (fun f t H1 locs1 ht _ _ hB _ hk hS1 => kk f H1 locs1 (kW_put hP (by rw [← ht]; exact hB) hk hA2) hS1)
theorem k_vretN {D : va_G} {A : Nat → Prop} {w : (Nat → Nat) → va_W} (f : Nat → Nat) (hexec : p.tables.exec = Jvm.exec) (hb : c.code = cc) (hr : meth.sig.returnType = none) (hlocks : meth.locks = false) (hP : kW D A (w f) H) (hS : va_S A s.heap H locs) (hdg : decode cc pc = .ok (.return_, 1)) : W p l e R s m args below meth c H locs cells slots (MQ below (kRn D A w) args s cells slots A) (F0 m pc ls []) :=
  W.vret hexec hb hr (fun t ht _ => ⟨⟨f, rfl, trivial, by show kW D A (w f) t.heap; rw [ht]; exact hP⟩, hS.F ht⟩) hS.2.2 hdg hlocks
end KN
/-- what the Statement gives of the list's empty row -/
def kE (e0 : Nat) (A : Nat → Prop) (U : State) : Prop := va_Z "java/util/ArrayList" "DEFAULTCAPACITY_EMPTY_ELEMENTDATA" "[Ljava/lang/Object;" (.ref e0) A U U.heap ∧ va_T (.object "java/lang/Object") e0 0 (fun _ => .null) A U U.heap ∧ (∃ mi, va_Mi "[Ljava/lang/Object;" mi U) ∧ va_Dc U ∧ va_AO "java/lang/Object" U ∧ va_Nw (.castable "LampCounts$Lease" "java/lang/Object") U
def kBE (D : va_G) (q : Nat → ClassId) (A : Nat → Prop) (e0 : Nat) (P : Heap → Prop) : State → Prop := fun U => kBN D q A P U ∧ va_Z "java/util/ArrayList" "DEFAULTCAPACITY_EMPTY_ELEMENTDATA" "[Ljava/lang/Object;" (.ref e0) A U U.heap
theorem kBE_blind {av : List Value} {D : va_G} {q : Nat → ClassId} {A : Nat → Prop} {e0 : Nat} {P : Heap → Prop} : FrameBlind (va_Pc av (kBE D q A e0 P)) := fun a U g mk h => ⟨h.1, (kBN_blind a U g mk ⟨h.1, h.2.1⟩).2, va_Z.moved (u := U) (U := U.calling g mk a) (Vm.Alike.refl U.vm) h.2.2⟩
def kRc (D : va_G) (A : Nat → Prop) (e0 : Nat) (w : (Nat → Nat) → va_W) : Array Value → State → Outcome → State → Prop := va_Qv (fun f : Nat → Nat => f 26 = e0) (fun f t => kW D A (w f) t.heap) A
def S0 : Nat → Nat → Int32 := fun k => if k = 18 then flR zR (nI 10) 6 else zR
