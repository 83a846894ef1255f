/-! the list grows: worlds of the list alone -/
theorem kW_app {D : va_G} {A : Nat → Prop} {w1 w2 : va_W} {H : Heap} (h1 : kW D A w1 H) (h2 : kW D A w2 H) (hd : ∀ (i j : Nat) (x y : Nat × va_E), w1[i]? = some x → w2[j]? = some y → x.1 ≠ y.1) : kW D A (w1 ++ w2) H := ⟨va_P.app h1.1 h2.1, va_D.app h1.2 h2.2 hd⟩
theorem kW_l {D : va_G} {A : Nat → Prop} {w1 w2 : va_W} {H : Heap} (h : kW D A (w1 ++ w2) H) : kW D A w1 H := ⟨fun k x hk => h.1 k x (kW_il hk).2, fun i j x y hi hj e => h.2.1 i j x y (kW_il hi).2 (kW_il hj).2 e, fun k x hk => h.2.2 k x (kW_il hk).2⟩
theorem kW_r {D : va_G} {A : Nat → Prop} {w1 w2 : va_W} {H : Heap} (h : kW D A (w1 ++ w2) H) : kW D A w2 H := ⟨fun k x hk => h.1 _ x (kW_ix hk), fun i j x y hi hj e => by
  have := h.2.1 _ _ x y (kW_ix (wo := w1) hi) (kW_ix (wo := w1) hj) e
  omega, fun k x hk => h.2.2 _ x (kW_ix (wo := w1) hk)⟩
theorem kW_dis {D : va_G} {A : Nat → Prop} {w1 w2 : va_W} {H : Heap} (h : kW D A (w1 ++ w2) H) (i j : Nat) (x y : Nat × va_E) (hi : w1[i]? = some x) (hj : w2[j]? = some y) : x.1 ≠ y.1 := fun e => by
  have := h.2.1 _ _ x y (kW_il hi).2 (kW_ix (wo := w1) hj) e
  have := (kW_il (w := w2) hi).1
  omega
theorem kW_comm {D : va_G} {A : Nat → Prop} {w1 w2 : va_W} {H : Heap} (h : kW D A (w1 ++ w2) H) : kW D A (w2 ++ w1) H := kW_app (kW_r h) (kW_l h) (fun i j x y hi hj e => kW_dis h j i y x hj hi e.symm)
/-- the middle is let go -/
theorem kW_drop {D : va_G} {A : Nat → Prop} {w1 w2 w3 : va_W} {H : Heap} (h : kW D A (w1 ++ (w2 ++ w3)) H) : kW D A (w1 ++ w3) H := kW_app (kW_l h) (kW_r (kW_r h)) (fun i j x y hi hj => kW_dis h i (w2.length + j) x y hi (kW_ix hj))
def upA (a : Nat → Nat) (k z : Nat) : Nat → Nat := fun j => if j = k then z else a j
def wT (q : Nat → ClassId) (a : Nat → Nat) (S : Nat → Nat → Int32) (cap nl : Nat) : va_W := [(a 26, .inl (q 2, cap, .inr (.inr (.inr (.inr (wEl a nl))))))] ++ (List.range nl).map (wLs a S)
theorem wCt_0 {q : Nat → ClassId} {a : Nat → Nat} {S : Nat → Nat → Int32} {nl : Nat} : wCt q a S 0 nl = [] := if_pos rfl
theorem wCt_T {q : Nat → ClassId} {a : Nat → Nat} {S : Nat → Nat → Int32} {cap nl : Nat} (h : cap ≠ 0) : wCt q a S cap nl = wT q a S cap nl := if_neg h
theorem wLs_upA {a : Nat → Nat} {S : Nat → Nat → Int32} {z : Nat} : wLs (upA a 26 z) S = wLs a S := funext fun i => by
  unfold wLs
  rw [show upA a 26 z (100 + i) = a (100 + i) from if_neg (by omega)]
theorem wEl_upA {a : Nat → Nat} {nl z : Nat} : wEl (upA a 26 z) nl = wEl a nl := funext fun i => by
  unfold wEl
  rw [show upA a 26 z (100 + i) = a (100 + i) from if_neg (by omega)]
theorem wT_upA {q : Nat → ClassId} {a : Nat → Nat} {S : Nat → Nat → Int32} {cap nl z : Nat} : wT q (upA a 26 z) S cap nl = [(z, .inl (q 2, cap, .inr (.inr (.inr (.inr (wEl a nl))))))] ++ (List.range nl).map (wLs a S) := by
  unfold wT
  rw [wLs_upA, wEl_upA]
  rfl
theorem wCpy {a : Nat → Nat} {cap nl : Nat} (h : nl ≤ cap) (hc : cap < 2 ^ 31) : va_cpy (wEl a nl) (fun _ => none) (nI 0).toNatClampNeg (nI 0).toNatClampNeg (nI cap).toNatClampNeg = wEl a nl := funext fun k => by
  rw [nI_clamp hc, nI_clamp (by decide)]
  unfold va_cpy wEl
  by_cases h1 : k < cap
  · rw [if_pos ⟨by omega, by omega⟩, show 0 + (k - 0) = k from by omega]
  · rw [if_neg (by omega), if_neg (by omega)]
theorem kE.moved {e0 : Nat} {A : Nat → Prop} {u U : State} (hvm : u.vm.Alike U.vm) (hh : U.heap = u.heap) (hn : va_Nw (.castable "LampCounts$Lease" "java/lang/Object") U) (h : kE e0 A u) : kE e0 A U := by
  obtain ⟨h1, h2, ⟨mi, h3⟩, h4, h5, _⟩ := h
  exact ⟨by rw [hh]; exact h1.moved hvm, by rw [hh]; exact h2.moved hvm, ⟨mi, h3.moved hvm⟩, h4.moved hvm, h5.moved hvm, hn⟩
theorem kE.at {e0 : Nat} {A : Nat → Prop} {s U : State} {H : Heap} {locs : List Loc} (h : kE e0 A s) (hS : va_S A s.heap H locs) (hU : U.heap = H) (hW : s.WarmedH U.vm) : kE e0 A U := by
  obtain ⟨h1, h2, ⟨mi, h3⟩, h4, h5, h6⟩ := h
  exact ⟨by rw [hU]; exact (h1.kept hS.2.1).moved hW.alike, by rw [hU]; exact (h2.kept hS.2.1).moved hW.alike, ⟨mi, h3.moved hW.alike⟩, h4.moved hW.alike, h5.moved hW.alike, va_Nw.warmC hW h6⟩
theorem kE.narrow {e0 : Nat} {A B : Nat → Prop} {U : State} (h : kE e0 A U) (hAB : ∀ z, B z → A z) : kE e0 B U := ⟨h.1.narrow hAB, h.2.1.narrow hAB, h.2.2⟩
def kBF (D : va_G) (q : Nat → ClassId) (A : Nat → Prop) (e0 : Nat) (P : Heap → Prop) : State → Prop := fun U => kBN D q A P U ∧ kE e0 A U
theorem kBF_blind {av : List Value} {D : va_G} {q : Nat → ClassId} {A : Nat → Prop} {e0 : Nat} {P : Heap → Prop} : FrameBlind (va_Pc av (kBF D q A e0 P)) := fun a U g mk h => ⟨h.1, (kBN_blind a U g mk ⟨h.1, h.2.1⟩).2, kE.moved (u := U) (U := U.calling g mk a) (Vm.Alike.refl U.vm) rfl (va_Nw.same (u := U) (U := U.calling g mk a) rfl rfl h.2.2.2.2.2.2.2) h.2.2⟩
/-- ends that answer a new row's address -/
def kRr (D : va_G) (A : Nat → Prop) (w : Nat → va_W) : Array Value → State → Outcome → State → Prop := va_Qr (fun _ : Unit => True) (fun _ z t => kW D A (w z) t.heap) A
section KA
variable {p : Program} {l : Launch} {e : Env} {R : Room} {s : State} {m : MethodId} {args : Array Value} {below : List Frame} {meth : Method} {c : Code} {H : Heap} {locs : List Loc} {cells slots : Nat} {Q : State → Prop}
variable {pc : Nat} {ls : Array Slot} {rest : List Value} {cc : ByteArray}
theorem k_newq {D : va_G} {A : Nat → Prop} {q : Nat → ClassId} {ws : va_W} {H0 : Heap} (hexec : p.tables.exec = Jvm.exec) (hb : c.code = cc) {own : String} {index : Nat} (hown : s.vm.findClass own = some m.cls) (hlink : (Cond.classLink own index "java/lang/Object").before args s = true) (hO : va_AO "java/lang/Object" s) (hK : kK D q s) (hP : kW D A ws H) (hS : va_S A H0 H locs) (hA : ∀ z : Nat, H0.size ≤ z → A z) {N : Nat} (hN : N ≤ 100000) (hc : cells + 1 ≤ R.cells) (hs : slots + N ≤ R.slots) (hdg : decode cc pc = .ok (.anewarray index, 3))
    (kk : ∀ (z : Nat) (H1 : Heap), kW D A (ws ++ [(z, .inl (q 2, N, .inr (.inr (.inr (.inr (fun _ => none))))))]) H1 → va_S A H0 H1 locs → W p l e R s m args below meth c H1 locs (cells + 1) (slots + N) Q (F0 m (pc + 3) ls (.ref z :: rest))) : W p l e R s m args below meth c H locs cells slots Q (F0 m pc ls (.int (nI N) :: rest)) :=
  va_newq hexec hb hown hlink hO hK.1 hP.1 hP.2 hS hA (N' := N) (nI_pos (by omega)) (nI_clamp (by omega)) (by omega) hc hs hdg (fun z cA H1 hK1 hP1 hD1 hS1 => by
    obtain ⟨_, _, _, _, _, e1⟩ := (hK1.2 4 (cA, .object "java/lang/Object") rfl).2
    obtain ⟨_, _, _, _, _, e2⟩ := (hK.1.2 2 (q 2, .object "java/lang/Object") rfl).2
    cases Option.some.inj (e1.symm.trans e2)
    exact kk z H1 ⟨hP1, hD1⟩ hS1)
theorem k_goRr {D : va_G} {A : Nat → Prop} {H0 : Heap} {wo w : va_W} {w' : Nat → va_W} {a : Array Value} {st0 : List Value} {mc ms : Nat} (hP : kW D A (wo ++ w) H) (hA : ∀ z : Nat, H0.size ≤ z → A z) (hS : va_S A H0 H locs)
    (hr : va_Run p l e R s m args below meth c H locs cells slots mc ms (F0 m pc ls st0) rest (kRr D (va_A w H.size) w' a) (va_A w H.size))
    (kk : ∀ (z : Nat) (H1 : Heap) (locs1 : List Loc), kW D A (wo ++ w' z) H1 → va_S A H0 H1 locs1 → W p l e R s m args below meth c H1 locs1 (cells + mc) (slots + ms) Q (F0 m (pc + 3) ls (.ref z :: rest))) : W p l e R s m args below meth c H locs cells slots Q (F0 m pc ls st0) :=
  have hA2 : ∀ z : Nat, H.size ≤ z → A z := fun z hz => hA z (Nat.le_trans hS.1 hz)
  have hw := kW_sub hP hA2
  va_callr hr hS (fun z _ h => hw z h) hw (fun _ z t H1 locs1 ht _ _ hB _ hk hS1 => kk z H1 locs1 (kW_put hP (by rw [← ht]; exact hB) hk hA2) hS1)
theorem k_aretN {D : va_G} {A : Nat → Prop} {w : Nat → va_W} {z : Nat} {rt : FieldType} (hexec : p.tables.exec = Jvm.exec) (hb : c.code = cc) (hr : meth.sig.returnType = some rt) (hrt : (∃ n, rt = .object n) ∨ ∃ t, rt = .array t) (hlocks : meth.locks = false) (hP : kW D A (w z) H) (hS : va_S A s.heap H locs) (hdg : decode cc pc = .ok (.areturn, 1)) : W p l e R s m args below meth c H locs cells slots (MQ below (kRr D A w) args s cells slots A) (F0 m pc ls [.ref z]) :=
  W.aret hexec hb hr hrt (Or.inr ⟨z, rfl⟩) (fun t ht _ => ⟨⟨(), z, rfl, trivial, by show kW D A (w z) t.heap; rw [ht]; exact hP⟩, hS.F ht⟩) hS.2.2 hdg hlocks
/-- what a lease's cell is, to the machine -/
theorem k_lcell {D : va_G} {A : Nat → Prop} {q : Nat → ClassId} {ws : va_W} {k z : Nat} {vs : List Value} (hK : kK D q s) (hP : kW D A ws H) (hk : ws[k]? = some (z, .inr (3, vs))) : ∃ cellV : Cell, H[z]? = some cellV ∧ cellV.vm.isStatics = false ∧ s.vm.findClass "LampCounts$Lease" = some cellV.cls := by
  obtain ⟨r, k1, cell, g1, g2, g3, _⟩ := hP.1 k _ hk
  cases k1
  exact ⟨cell, g1, by rw [g3]; rfl, by rw [g2]; exact (hK.1.1 3 _ rfl).2.1⟩
end KA
theorem k_lix {q : Nat → ClassId} {a : Nat → Nat} {S : Nat → Nat → Int32} {nl i : Nat} {x y : Nat × va_E} (h : i < nl) : ([x] ++ ([y] ++ (List.range nl).map (wLs a S)))[2 + i]? = some (wLs a S i) := by
  have e : ((List.range nl).map (wLs a S))[i]? = some (wLs a S i) := by
    rw [List.getElem?_map, List.getElem?_range h]
    rfl
  rw [show 2 + i = i + 1 + 1 from by omega]
  exact e
def ncap (c : Nat) : Nat := if c = 0 then 10 else c + c / 2
def capP (c : Nat) : Prop := c = 10 ∨ c = 15 ∨ c = 22 ∨ c = 33
/-- the list's cell, its row and the leases -/
def wA (q : Nat → ClassId) (a : Nat → Nat) (S : Nat → Nat → Int32) (cap nl : Nat) : va_W := [(a 4, .inr (0, [.int (S 0 3), .ref (a 26), .int (nI nl)]))] ++ wCt q a S cap nl
theorem wA_T {q : Nat → ClassId} {a : Nat → Nat} {S : Nat → Nat → Int32} {cap nl : Nat} (h : cap ≠ 0) : wA q a S cap nl = [(a 4, .inr (0, [.int (S 0 3), .ref (a 26), .int (nI nl)]))] ++ wT q a S cap nl := by
  unfold wA
  rw [wCt_T h]
theorem wA_up {q : Nat → ClassId} {a : Nat → Nat} {S : Nat → Nat → Int32} {cap nl z : Nat} (h : cap ≠ 0) : wA q (upA a 26 z) S cap nl = [(a 4, .inr (0, [.int (S 0 3), .ref z, .int (nI nl)]))] ++ ([(z, .inl (q 2, cap, .inr (.inr (.inr (.inr (wEl a nl))))))] ++ (List.range nl).map (wLs a S)) := by
  rw [wA_T h, wT_upA]
  rfl
theorem wEl_0 {a : Nat → Nat} : wEl a 0 = fun _ => none := funext fun i => if_neg (Nat.not_lt_zero i)
theorem wEl_s {a : Nat → Nat} {nl : Nat} (h : nl < 2 ^ 31) : va_up (wEl a nl) (nI nl).toNatClampNeg (some (a (100 + nl))) = wEl a (nl + 1) := funext fun i => by
  rw [nI_clamp h]
  unfold va_up wEl
  by_cases c : i = nl
  · subst c
    rw [if_pos rfl, if_pos (by omega)]
  · rw [if_neg c]
    by_cases c2 : i < nl
    · rw [if_pos c2, if_pos (by omega)]
    · rw [if_neg c2, if_neg (by omega)]
theorem k_shr1 : ∀ c : Nat, c < 40 → nI c >>> (nI 1 &&& 31) = nI (c / 2) := by decide +kernel
theorem nI_s1 (c : Nat) : nI (c + 1) - nI c = nI 1 := by rw [Nat.add_comm, ← nI_add, Int32.add_sub_cancel]
theorem upA_id {a : Nat → Nat} : upA a 26 (a 26) = a := funext fun j => by
  unfold upA
  by_cases c : j = 26
  · rw [if_pos c, c]
  · rw [if_neg c]
theorem wA_next {q : Nat → ClassId} {a : Nat → Nat} {S : Nat → Nat → Int32} {cap nl z : Nat} (h : cap ≠ 0) : ([(a 4, .inr (0, [.int (S 0 3), .ref z, .int (nI (nl + 1))]))] ++ ([(z, .inl (q 2, cap, .inr (.inr (.inr (.inr (wEl a (nl + 1)))))))] ++ (List.range nl).map (wLs a S))) ++ [wLs a S nl] = wA q (upA a 26 z) S cap (nl + 1) := by
  rw [wA_up h, List.range_succ, List.map_append, List.append_assoc, List.append_assoc]
  rfl
/-- ends of the adding: the row's place and length behind it -/
def kRa (D : va_G) (q : Nat → ClassId) (A : Nat → Prop) (a : Nat → Nat) (S : Nat → Nat → Int32) (nl : Nat) : Array Value → State → Outcome → State → Prop := va_Qv (fun x : Nat × Nat => nl + 1 ≤ x.2 ∧ capP x.2) (fun x t => kW D A (wA q (upA a 26 x.1) S x.2 (nl + 1)) t.heap) A
def kRz (D : va_G) (q : Nat → ClassId) (A : Nat → Prop) (a : Nat → Nat) (S : Nat → Nat → Int32) (nl : Nat) : Array Value → State → Outcome → State → Prop := va_Qi (fun (r : Int32) (x : Nat × Nat) => r = nI 1 ∧ nl + 1 ≤ x.2 ∧ capP x.2) (fun x t => kW D A (wA q (upA a 26 x.1) S x.2 (nl + 1)) t.heap) A
