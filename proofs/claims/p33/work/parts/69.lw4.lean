/-! calls of the class out of the law's helpers -/
/-- what 'calls' tells -/
def caV (R : R3) : Int32 := if R.1 = nI 0 then R.2.1 else (-2000000003)
theorem caV_0 {R : R3} (h : R.1 = nI 0) : caV R = R.2.1 := if_pos h
theorem caV_n {R : R3} (h : ¬ R.1 = nI 0) : caV R = (-2000000003) := if_neg h
/-- nothing but what is not possible -/
def caE (L : List String) (R : R3) : Prop := ∀ E, exC L E R.1 → E = eS
section KLC
variable {p : Program} {l : Launch} {e : Env} {R : Room} {s : State} {m : MethodId} {args : Array Value} {below : List Frame} {meth : Method} {c : Code} {H : Heap} {locs : List Loc} {cells slots : Nat} {Q : State → Prop}
variable {pc : Nat} {ls : Array Slot} {rest : List Value} {cc : ByteArray}
/-- a call that leaves a world, beside another -/
theorem k_goW {D : va_G} {A : Nat → Prop} {H0 : Heap} {wo w w' : va_W} {v : Int32} {a : Array Value} {st0 : List Value} {mc ms : Nat} (hP : kW D A (wo ++ w) H) (hA : ∀ z : Nat, H0.size ≤ z → A z) (hS : va_S A H0 H locs)
    (hr : va_Run p l e R s m args below meth c H locs cells slots mc ms (F0 m pc ls st0) rest (kRi D (va_A w H.size) v w' a) (va_A w H.size))
    (kk : ∀ (H1 : Heap) (locs1 : List Loc), kW D A (wo ++ w') H1 → va_S A H0 H1 locs1 → W p l e R s m args below meth c H1 locs1 (cells + mc) (slots + ms) Q (F0 m (pc + 3) ls (.int v :: rest))) : W p l e R s m args below meth c H locs cells slots Q (F0 m pc ls st0) :=
  k_goTi (T := Unit) (post := fun r _ => r = v) (w' := fun _ => w') hP hA hS hr (fun r _ H1 locs1 h h1 h2 => by rw [h]; exact kk H1 locs1 h1 h2)
/-- the answer of a lease that is made, and where things lie then -/
def kPc (a : Nat → Nat) (cap nl : Nat) (R : R3) (r : Int32) (x : (Nat → Nat) × Nat × Nat) : Prop := r = caV R ∧ (R.1 = nI 0 → ((∀ j, j < 26 → x.1 j = a j) ∧ nl + 1 ≤ x.2.1 ∧ capP x.2.1) ∧ x.2.2 = nl + 1) ∧ (¬ R.1 = nI 0 → x = (a, cap, nl))
def kRlc (D : va_G) (q : Nat → ClassId) (A : Nat → Prop) (a : Nat → Nat) (S : Nat → Nat → Int32) (cap nl : Nat) (R : R3) : Array Value → State → Outcome → State → Prop := va_Qi (kPc a cap nl R) (fun x t => kW D A (wC q x.1 (outS S R) x.2.1 x.2.2) t.heap) A
def kBLe (D : va_G) (q : Nat → ClassId) (A : Nat → Prop) (e0 : Nat) (P : Heap → Prop) : State → Prop := fun U => kBL D q A P U ∧ kE e0 A U
theorem kBLe_blind {av : List Value} {D : va_G} {q : Nat → ClassId} {A : Nat → Prop} {e0 : Nat} {P : Heap → Prop} : FrameBlind (va_Pc av (kBLe D q A e0 P)) := fun a U g mk h => ⟨h.1, (kBL_blind a U g mk ⟨h.1, h.2.1⟩).2, kE.moved (u := U) (U := U.calling g mk a) (Vm.Alike.refl U.vm) rfl (va_Nw.same (u := U) (U := U.calling g mk a) rfl rfl h.2.2.2.2.2.2.2) h.2.2⟩
theorem k_iretC {D : va_G} {A : Nat → Prop} {q : Nat → ClassId} {a : Nat → Nat} {S : Nat → Nat → Int32} {cap nl : Nat} {R9 : R3} {v : Int32} (x : (Nat → Nat) × Nat × Nat) (hexec : p.tables.exec = Jvm.exec) (hb : c.code = cc) (hr : meth.sig.returnType = some .int) (hlocks : meth.locks = false) (hp : kPc a cap nl R9 v x) (hP : kW D A (wC q x.1 (outS S R9) x.2.1 x.2.2) H) (hS : va_S A s.heap H locs) (hdg : decode cc pc = .ok (.ireturn, 1)) : W p l e R s m args below meth c H locs cells slots (MQ below (kRlc D q A a S cap nl R9) args s cells slots A) (F0 m pc ls [.int v]) :=
  W.iret hexec hb hr (fun t ht _ => ⟨⟨v, x, rfl, hp, by show kW D A (wC q x.1 (outS S R9) x.2.1 x.2.2) t.heap; rw [ht]; exact hP⟩, hS.F ht⟩) hS.2.2 hdg hlocks
def kRly (D : va_G) (q : Nat → ClassId) (A : Nat → Prop) (a : Nat → Nat) (S : Nat → Nat → Int32) (cb : Nat → Nat) (cN : Nat → Nat → Int32) (nl : Nat) : Array Value → State → Outcome → State → Prop := va_Qi (fun (r : Int32) (x : (Nat → Nat) × Nat × Nat) => r = nI 1 ∧ ((∀ j, j < 26 → x.1 j = cb j) ∧ nl + 1 ≤ x.2.1 ∧ capP x.2.1) ∧ x.2.2 = nl + 1) (fun x t => kW D A (wL q a S (wC q x.1 cN x.2.1 x.2.2)) t.heap) A
theorem k_zretY {D : va_G} {A : Nat → Prop} {q : Nat → ClassId} {a : Nat → Nat} {S : Nat → Nat → Int32} {cb : Nat → Nat} {cN : Nat → Nat → Int32} {nl : Nat} (x : (Nat → Nat) × Nat × Nat) (hexec : p.tables.exec = Jvm.exec) (hb : c.code = cc) (hr : meth.sig.returnType = some .boolean) (hlocks : meth.locks = false) (hp : ((∀ j, j < 26 → x.1 j = cb j) ∧ nl + 1 ≤ x.2.1 ∧ capP x.2.1) ∧ x.2.2 = nl + 1) (hP : kW D A (wL q a S (wC q x.1 cN x.2.1 x.2.2)) H) (hS : va_S A s.heap H locs) (hdg : decode cc pc = .ok (.ireturn, 1)) : W p l e R s m args below meth c H locs cells slots (MQ below (kRly D q A a S cb cN nl) args s cells slots A) (F0 m pc ls [.int (nI 1)]) :=
  W.zret hexec hb hr rfl (fun t ht _ => ⟨⟨nI 1, x, rfl, ⟨rfl, hp⟩, by show kW D A (wL q a S (wC q x.1 cN x.2.1 x.2.2)) t.heap; rw [ht]; exact hP⟩, hS.F ht⟩) hS.2.2 hdg hlocks
end KLC
/-- how far counts miss -/
def yMs (S : Nat → Nat → Int32) (n h : Nat) : Nat → Int32
  | 0 => nI 0
  | x + 1 => yMs S n h x + (if yCn S n h x ≤ S 2 (h * 12 + x) then S 2 (h * 12 + x) - yCn S n h x else yCn S n h x - S 2 (h * 12 + x))
/-- what a tenant owes, of the first k leases -/
def yOw (S : Nat → Nat → Int32) (n w b : Nat) : Nat → Int32
  | 0 => - S 9 (24 + b)
  | k + 1 => yOw S n w b k + (if ix S 8 (6 * k) / 36 = b then yB S n w k else nI 0)
/-- the answers of an hour -/
def yHA (S cM : Nat → Nat → Int32) (n h : Nat) : Prop := coThrough cM (nI h) = (nI 0, S 6 h, cM) ∧ coMissed cM (nI h) = (nI 0, yMs S n h 12, cM) ∧ ∀ x, x < 12 → coRow cM 8 (nI x) (nI h) = (nI 0, S 2 (h * 12 + x), cM) ∧ coRow cM 9 (nI x) (nI h) = (nI 0, S 3 (h * 12 + x), cM) ∧ coRow cM 13 (nI x) (nI h) = (nI 0, S 4 (h * 12 + x) - nI 1, cM) ∧ coRow cM 14 (nI x) (nI h) = (nI 0, yCn S n h x, cM) ∧ coAnew cM n (nI x) (nI h) = (nI 0, yCn S n h x, cM) ∧ coRow cM 24 (nI x) (nI h) = (nI 0, S 5 (h * 12 + x) - nI 1, cM)
/-- the answers of all else -/
def ySA (S cM : Nat → Nat → Int32) (n w nl : Nat) : Prop := (cM 0 0 = S 0 0 ∧ cM 0 2 = S 0 3) ∧ (∀ x h, x < 12 → h < 200 → coTaken cM n (nI x) (nI h) = (nI 0, ySp S n (nI x) (nI h), cM)) ∧ (∀ b, b < 6 → coBusker cM 19 (nI b) = (nI 0, S 9 (6 + b), cM) ∧ coBusker cM 20 (nI b) = (nI 0, S 9 (12 + b), cM) ∧ coOwes cM nl (nI b) = (nI 0, yOw S n w b nl, cM)) ∧ (∀ k, k < nl → coLs cM 37 nl (nI k) = (nI 0, yB S n w k, cM) ∧ coBilledAnew cM n w nl (nI k) = (nI 0, yB S n w k, cM) ∧ coLs cM 38 nl (nI k) = (nI 0, S 8 (6 * k + 5), cM) ∧ ∀ d, d < 200 → coIsOf cM nl (nI k) (nI d) = (nI 0, bI (ix S 8 (6 * k + 3) ≤ d ∧ d < ix S 8 (6 * k + 4)), cM))
