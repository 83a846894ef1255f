/-! exceptions: what a contract of a method that may throw starts from, and its calls -/
abbrev eI : String := "java/lang/IndexOutOfBoundsException"
abbrev eA : String := "java/lang/IllegalArgumentException"
abbrev eS : String := "java/lang/IllegalStateException"
abbrev kUp : List String := ["java/lang/RuntimeException", "java/lang/Exception"]
/-- the premises of the Statement that a throw or a catch asks for -/
def kX (A : Nat → Prop) (U : State) : Prop :=
  vx_Zq Bundle.tN "UNASSIGNED_STACK" Bundle.steD A U U.heap ∧ vx_Zq Bundle.tN "SUPPRESSED_SENTINEL" Bundle.listD A U U.heap ∧
  (∃ z, vk_R RX4 201 "there is no such one" z U) ∧ (∃ z, vk_R RX4 208 "out of range" z U) ∧ (∃ z, vk_R RX4 213 "not as things are" z U) ∧
  (va_Nw (.declares (Bundle.initS "java/lang/RuntimeException")) U ∧ va_Nw (.declares (Bundle.initS "java/lang/Exception")) U ∧ va_Nw (.declares (Bundle.initS Bundle.tN)) U) ∧
  (va_Nw (.castable eI eI) U ∧ va_Nw (.castable eA eA) U ∧ va_Nw (.castable eS eS) U) ∧
  True
theorem kX.at {A : Nat → Prop} {s U : State} {H : Heap} {locs : List Loc} (h : kX A s) (hS : va_S A s.heap H locs) (hU : U.heap = H) (hW : s.WarmedH U.vm) : kX A U := by
  obtain ⟨h1, h2, ⟨z1, h3⟩, ⟨z2, h4⟩, ⟨z3, h5⟩, ⟨d1, d2, d3⟩, ⟨k1, k2, k3⟩, -⟩ := h
  refine ⟨?_, ?_, ⟨z1, vk_R.warm hW h3⟩, ⟨z2, vk_R.warm hW h4⟩, ⟨z3, vk_R.warm hW h5⟩, ⟨va_Nw.warmD hW d1, va_Nw.warmD hW d2, va_Nw.warmD hW d3⟩, ⟨va_Nw.warmC hW k1, va_Nw.warmC hW k2, va_Nw.warmC hW k3⟩, trivial⟩
  · rw [hU]; exact vx_Zq.moved hW.alike (h1.kept hS.2.1)
  · rw [hU]; exact vx_Zq.moved hW.alike (h2.kept hS.2.1)
theorem kX.same {A : Nat → Prop} {u U : State} (hv : U.vm = u.vm) (hh : U.heap = u.heap) (h : kX A u) : kX A U := by
  have hal : u.vm.Alike U.vm := by rw [hv]; exact Vm.Alike.refl _
  obtain ⟨h1, h2, ⟨z1, h3⟩, ⟨z2, h4⟩, ⟨z3, h5⟩, ⟨d1, d2, d3⟩, ⟨k1, k2, k3⟩, -⟩ := h
  refine ⟨?_, ?_, ⟨z1, vk_R.same hv h3⟩, ⟨z2, vk_R.same hv h4⟩, ⟨z3, vk_R.same hv h5⟩, ⟨va_Nw.same rfl hv.symm d1, va_Nw.same rfl hv.symm d2, va_Nw.same rfl hv.symm d3⟩, ⟨va_Nw.same rfl hv.symm k1, va_Nw.same rfl hv.symm k2, va_Nw.same rfl hv.symm k3⟩, trivial⟩
  · rw [hh]; exact vx_Zq.moved hal h1
  · rw [hh]; exact vx_Zq.moved hal h2
def kBX (D : va_G) (q : Nat → ClassId) (A : Nat → Prop) (P : Heap → Prop) : State → Prop := fun U => P U.heap ∧ kK D q U ∧ kX A U
theorem kBX_blind {av : List Value} {D : va_G} {q : Nat → ClassId} {A : Nat → Prop} {P : Heap → Prop} : FrameBlind (va_Pc av (kBX D q A P)) := fun a U g mk h => ⟨h.1, h.2.1, ⟨va_K.moved (u := U) (U := U.calling g mk a) (Vm.Alike.refl U.vm) h.2.2.1.1, kNest.same (u := U) (U := U.calling g mk a) rfl h.2.2.1.2⟩, kX.same (u := U) (U := U.calling g mk a) rfl rfl h.2.2.2⟩
/-- a throw that leaves the world as it was -/
def kXC (D : va_G) (A : Nat → Prop) (ws : va_W) (Pe : String → Prop) : String → State → State → Prop := vx_X (fun _ : Unit => True) (fun E _ t => Pe E ∧ kW D A ws t.heap) A
/-- the exception that belongs to a code -/
def exC (L : List String) (E : String) (k : Int32) : Prop := ∃ i, L[i]? = some E ∧ k = nI (i + 1)
def kXv (D : va_G) (A : Nat → Prop) (post : Prop) (ws : va_W) : Array Value → State → Outcome → State → Prop := va_Qv (fun _ : Unit => post) (fun _ t => kW D A ws t.heap) A
def kXi (D : va_G) (A : Nat → Prop) (post : Int32 → Prop) (ws : va_W) : Array Value → State → Outcome → State → Prop := va_Qi (fun (r : Int32) (_ : Unit) => post r) (fun _ t => kW D A ws t.heap) A
section KX
variable {p : Program} {l : Launch} {e : Env} {R : Room} {s : State} {m : MethodId} {args : Array Value} {below : List Frame} {meth : Method} {c : Code} {H : Heap} {locs : List Loc} {cells slots : Nat} {Q : State → Prop}
variable {pc : Nat} {ls : Array Slot} {rest : List Value} {cc : ByteArray}
theorem k_goXv {D : va_G} {A : Nat → Prop} {H0 : Heap} {ws : va_W} {post : Prop} {Pe : String → Prop} {a : Array Value} {st0 : List Value} {mc ms : Nat} (hS : va_S A H0 H locs) (hr : vx_Run p l e R s m args below meth c H locs cells slots mc ms (F0 m pc ls st0) rest (kXv D A post ws a) (kXC D A ws Pe) A)
    (kx : ∀ (E : String) (ce : Cell) (q9 : Addr) (H1 : Heap) (locs1 : List Loc), Pe E → kW D A ws H1 → va_S A H0 H1 locs1 → H1[q9]? = some ce → ce.vm = .none → s.vm.findClass E = some ce.cls → vx_W p l e R s m args below meth c H1 locs1 (cells + mc) (slots + ms) Q (F0 m pc ls rest) q9)
    (kk : ∀ (H1 : Heap) (locs1 : List Loc), post → kW D A ws H1 → va_S A H0 H1 locs1 → W p l e R s m args below meth c H1 locs1 (cells + mc) (slots + ms) Q (F0 m (pc + 3) ls rest)) : W p l e R s m args below meth c H locs cells slots Q (F0 m pc ls st0) :=
  vx_callv hr hS (fun _ _ h => h) (fun _ h => h) (fun _ _ h => h) (fun E ce q9 _ t H1 locs1 ht _ _ hB _ _ hS1 h1 h2 h3 => kx E ce q9 H1 locs1 hB.1 (by rw [← ht]; exact hB.2) hS1 h1 h2 h3) (fun _ t H1 locs1 ht _ hp hB _ _ hS1 => kk H1 locs1 hp (by rw [← ht]; exact hB) hS1)
theorem k_goXi {D : va_G} {A : Nat → Prop} {H0 : Heap} {ws w0 : va_W} {post : Int32 → Prop} {Pe : String → Prop} {a : Array Value} {st0 : List Value} {mc ms : Nat} (hS : va_S A H0 H locs) (hr : vx_Run p l e R s m args below meth c H locs cells slots mc ms (F0 m pc ls st0) rest (kXi D A post ws a) (kXC D A w0 Pe) A)
    (kx : ∀ (E : String) (ce : Cell) (q9 : Addr) (H1 : Heap) (locs1 : List Loc), Pe E → kW D A w0 H1 → va_S A H0 H1 locs1 → H1[q9]? = some ce → ce.vm = .none → s.vm.findClass E = some ce.cls → vx_W p l e R s m args below meth c H1 locs1 (cells + mc) (slots + ms) Q (F0 m pc ls rest) q9)
    (kk : ∀ (r : Int32) (H1 : Heap) (locs1 : List Loc), post r → kW D A ws H1 → va_S A H0 H1 locs1 → W p l e R s m args below meth c H1 locs1 (cells + mc) (slots + ms) Q (F0 m (pc + 3) ls (.int r :: rest))) : W p l e R s m args below meth c H locs cells slots Q (F0 m pc ls st0) :=
  vx_calli hr hS (fun _ _ h => h) (fun _ h => h) (fun _ _ h => h) (fun E ce q9 _ t H1 locs1 ht _ _ hB _ _ hS1 h1 h2 h3 => kx E ce q9 H1 locs1 hB.1 (by rw [← ht]; exact hB.2) hS1 h1 h2 h3) (fun r _ t H1 locs1 ht _ hp hB _ _ hS1 => kk r H1 locs1 hp (by rw [← ht]; exact hB) hS1)
theorem k_outX {D : va_G} {A : Nat → Prop} {ws : va_W} {Pe : String → Prop} {Qc : Array Value → State → Outcome → State → Prop} {E : String} {ce : Cell} {q : Addr} {mc ms : Nat} (hout : ∀ x ∈ c.exceptionTable.toList, False) (hlocks : meth.locks = false) (hcell : H[q]? = some ce) (hv : ce.vm = .none) (hcl : s.vm.findClass E = some ce.cls) (hPe : Pe E) (hP : kW D A ws H) (hS : va_S A s.heap H locs) (hc : cells ≤ mc) (hs : slots ≤ ms) :
    vx_W p l e R s m args below meth c H locs cells slots (vx_MQ below Qc (kXC D A ws Pe) args s mc ms A) (F0 m pc ls rest) q :=
  vx_out (fun x hx => (hout x hx).elim) hlocks hcell hv hcl (fun t ht _ => ⟨(), trivial, ⟨hPe, by rw [ht]; exact hP⟩, hS.F ht⟩) hS.2.2 hc hs
theorem k_vretX {D : va_G} {A : Nat → Prop} {ws : va_W} {post : Prop} {XC : String → State → State → Prop} {mc ms : Nat} (hexec : p.tables.exec = Jvm.exec) (hb : c.code = cc) (hr : meth.sig.returnType = none) (hlocks : meth.locks = false) (hP : kW D A ws H) (hS : va_S A s.heap H locs) (hp : post) (hc : cells ≤ mc) (hs : slots ≤ ms) (hdg : decode cc pc = .ok (.return_, 1)) : W p l e R s m args below meth c H locs cells slots (vx_MQ below (kXv D A post ws) XC args s mc ms A) (F0 m pc ls []) :=
  vx_ret (W.widen hc hs (W.vret hexec hb hr (fun t ht _ => ⟨⟨(), rfl, hp, by show kW D A ws t.heap; rw [ht]; exact hP⟩, hS.F ht⟩) hS.2.2 hdg hlocks))
theorem k_iretX {D : va_G} {A : Nat → Prop} {ws : va_W} {post : Int32 → Prop} {v : Int32} {XC : String → State → State → Prop} {mc ms : Nat} (hexec : p.tables.exec = Jvm.exec) (hb : c.code = cc) (hr : meth.sig.returnType = some .int) (hlocks : meth.locks = false) (hP : kW D A ws H) (hS : va_S A s.heap H locs) (hp : post v) (hc : cells ≤ mc) (hs : slots ≤ ms) (hdg : decode cc pc = .ok (.ireturn, 1)) : W p l e R s m args below meth c H locs cells slots (vx_MQ below (kXi D A post ws) XC args s mc ms A) (F0 m pc ls [.int v]) :=
  vx_ret (W.widen hc hs (W.iret hexec hb hr (fun t ht _ => ⟨⟨v, (), rfl, hp, by show kW D A ws t.heap; rw [ht]; exact hP⟩, hS.F ht⟩) hS.2.2 hdg hlocks))
theorem k_zretX {D : va_G} {A : Nat → Prop} {ws : va_W} {post : Int32 → Prop} {v : Int32} {XC : String → State → State → Prop} {mc ms : Nat} (hexec : p.tables.exec = Jvm.exec) (hb : c.code = cc) (hr : meth.sig.returnType = some .boolean) (hn : narrow .boolean (.int v) = .int v) (hlocks : meth.locks = false) (hP : kW D A ws H) (hS : va_S A s.heap H locs) (hp : post v) (hc : cells ≤ mc) (hs : slots ≤ ms) (hdg : decode cc pc = .ok (.ireturn, 1)) : W p l e R s m args below meth c H locs cells slots (vx_MQ below (kXi D A post ws) XC args s mc ms A) (F0 m pc ls [.int v]) :=
  vx_ret (W.widen hc hs (W.zret hexec hb hr hn (fun t ht _ => ⟨⟨v, (), rfl, hp, by show kW D A ws t.heap; rw [ht]; exact hP⟩, hS.F ht⟩) hS.2.2 hdg hlocks))
end KX
/-- what a throw's words are, but those of the Statement's premises -/
theorem kX_hat {A : Nat → Prop} {s : State} {args : Array Value} {own X : String} {ic : Nat} (hX : kX A s) (hc : va_Nw (.castable X X) s) (h1 : ∀ w ∈ (vx_atS own ic X kUp).filter goodWord, w.before args s = true) (h2 : ∀ w ∈ (vx_atS own ic X kUp).filter (fun w => !goodWord w), w ∈ ([.declares (Bundle.initS "java/lang/RuntimeException"), .declares (Bundle.initS "java/lang/Exception"), .declares (Bundle.initS Bundle.tN), .castable X X] : List Cond)) : ∀ w ∈ vx_atS own ic X kUp, w.before args s = true :=
  vx_hat h1 h2 (vx_c (va_Nw.use rfl hX.2.2.2.2.2.1.1) (vx_c (va_Nw.use rfl hX.2.2.2.2.2.1.2.1) (vx_c (va_Nw.use rfl hX.2.2.2.2.2.1.2.2) (vx_c (va_Nw.use rfl hc) vx_n))))
abbrev ixP (i n : Int32) : Prop := ¬ i < 0 ∧ i < n
abbrev inP (v lo hi : Int32) : Prop := ¬ v < lo ∧ v ≤ hi
theorem inP_lt {v z : Int32} {m : Nat} (hz : z = nI m) (h : inP v (nI 0) (z - nI 1)) (hm : m < 2 ^ 31) : v = nI v.toNatClampNeg ∧ v.toNatClampNeg < m := by
  subst hz
  have h0 : ∃ j : Nat, j < 2 ^ 31 ∧ v = nI j := nI_of (x := v) (by have := h.1; rw [nI_0] at this; exact this)
  cases m with
  | zero =>
    obtain ⟨j, hj, rfl⟩ := h0
    exact absurd h.2 (fun z => by
      have e := Int32.le_iff_toInt_le.mp z
      rw [nI_toInt hj, show (nI 0 - nI 1).toInt = -1 from by decide] at e
      omega)
  | succ k =>
    rw [k_pred] at h
    obtain ⟨j, hj, rfl⟩ := h0
    rw [nI_clamp hj]
    have := (nI_leI hj (by omega)).mp h.2
    exact ⟨rfl, by omega⟩
theorem inP_nat {v : Int32} {m : Nat} (h : inP v (nI 0) (nI m)) (hm : m < 2 ^ 31) : v = nI v.toNatClampNeg ∧ v.toNatClampNeg ≤ m := by
  obtain ⟨j, hj, rfl⟩ := nI_of (x := v) (by have := h.1; rw [nI_0] at this; exact this)
  rw [nI_clamp hj]
  exact ⟨rfl, (nI_leI hj hm).mp h.2⟩
theorem ixP_nat {v : Int32} {m : Nat} (h : ixP v (nI m)) (hm : m < 2 ^ 31) : v = nI v.toNatClampNeg ∧ v.toNatClampNeg < m := by
  obtain ⟨j, hj, rfl⟩ := nI_of (x := v) h.1
  rw [nI_clamp hj]
  exact ⟨rfl, (nI_ltI hj hm).mp h.2⟩
theorem inP_nat1 {v : Int32} {m : Nat} (h : inP v (nI 1) (nI m)) (hm : m < 2 ^ 31) : v = nI v.toNatClampNeg ∧ 1 ≤ v.toNatClampNeg ∧ v.toNatClampNeg ≤ m := by
  have h0 : ¬ v < 0 := fun z => h.1 (by
    have e := Int32.lt_iff_toInt_lt.mp z
    exact Int32.lt_iff_toInt_lt.mpr (by rw [show (nI 1).toInt = 1 from by decide]; rw [show (0 : Int32).toInt = 0 from by decide] at e; omega))
  obtain ⟨j, hj, rfl⟩ := nI_of (x := v) h0
  rw [nI_clamp hj]
  refine ⟨rfl, ?_, (nI_leI hj hm).mp h.2⟩
  rcases Nat.lt_or_ge j 1 with k | k
  · exact absurd ((nI_ltI hj (by decide)).mpr k) h.1
  · exact k
abbrev ix (S : Nat → Nat → Int32) (k l : Nat) : Nat := (S k l).toNatClampNeg
