/-! the law's helpers: the row that takes the answer stands ahead of the class's world; what a call writes is cut out and put back -/
def wO (q : Nat → ClassId) (o : Nat) (g : Nat → Int64) (w : va_W) : va_W := [(o, .inl (q 3, 1, .inr (.inl g)))] ++ w
def outG (g : Nat → Int64) (R : R3) : Nat → Int64 := if R.1 = nI 0 then vp_updL g 0 R.2.1.toInt64 else g
/-- the code that a helper answers -/
abbrev outC (R : R3) : Int32 := R.1
def outS (S : Nat → Nat → Int32) (R : R3) : Nat → Nat → Int32 := if R.1 = nI 0 then R.2.2 else S
def kBL (D : va_G) (q : Nat → ClassId) (A : Nat → Prop) (P : Heap → Prop) : State → Prop := fun U => kBX D q A P U ∧ ∀ z : Nat, U.heap.size ≤ z → A z
theorem kBL_blind {av : List Value} {D : va_G} {q : Nat → ClassId} {A : Nat → Prop} {P : Heap → Prop} : FrameBlind (va_Pc av (kBL D q A P)) := fun a U g mk h => ⟨h.1, (kBX_blind a U g mk ⟨h.1, h.2.1⟩).2, h.2.2⟩
theorem kX.narrow {A B : Nat → Prop} {U : State} (h : kX A U) (hAB : ∀ z, B z → A z) : kX B U := ⟨h.1.narrow hAB, h.2.1.narrow hAB, h.2.2⟩
theorem kW_ix {wo w : va_W} {k : Nat} {x : Nat × va_E} (h : w[k]? = some x) : (wo ++ w)[wo.length + k]? = some x := by
  rw [List.getElem?_append_right (Nat.le_add_right _ _), Nat.add_sub_cancel_left]
  exact h
theorem kW_il {wo w : va_W} {k : Nat} {x : Nat × va_E} (h : wo[k]? = some x) : k < wo.length ∧ (wo ++ w)[k]? = some x := by
  have hk : k < wo.length := (List.getElem?_eq_some_iff.mp h).1
  exact ⟨hk, by rw [List.getElem?_append_left hk]; exact h⟩
theorem kW_cut {D : va_G} {A : Nat → Prop} {wo w : va_W} {H : Heap} (h : kW D A (wo ++ w) H) : kW D (va_A w H.size) w H :=
  ⟨fun k x hk => h.1 _ x (kW_ix hk), ⟨fun i j x y hi hj e => by
    have := h.2.1 _ _ x y (kW_ix (wo := wo) hi) (kW_ix (wo := wo) hj) e
    omega, fun k x hk => va_A.in hk⟩⟩
theorem kW_sub {D : va_G} {A : Nat → Prop} {wo w : va_W} {H : Heap} (h : kW D A (wo ++ w) H) (hA : ∀ z : Nat, H.size ≤ z → A z) : ∀ z, va_A w H.size z → A z := fun z hz => by
  rcases hz with ⟨k, e, hk⟩ | hz
  · exact h.2.2 _ _ (kW_ix (wo := wo) hk)
  · exact hA z hz
theorem kW_put {D : va_G} {A : Nat → Prop} {wo w w' : va_W} {H H1 : Heap} (h : kW D A (wo ++ w) H) (h' : kW D (va_A w H.size) w' H1) (hk : ∀ q : Nat, q < H.size → ¬ va_A w H.size q → H1[q]? = H[q]?) (hA : ∀ z : Nat, H.size ≤ z → A z) : kW D A (wo ++ w') H1 := by
  have hn : ∀ (i : Nat) (x : Nat × va_E), wo[i]? = some x → x.1 < H.size ∧ ¬ va_A w H.size x.1 := fun i x hi => by
    have hl := (h.1 i x (kW_il hi).2).lt
    refine ⟨hl, fun z => ?_⟩
    rcases z with ⟨j, e, hj⟩ | z
    · have := h.2.1 _ _ x (x.1, e) (kW_il hi).2 (kW_ix (wo := wo) hj) rfl
      have := (kW_il (w := w) hi).1
      omega
    · omega
  refine ⟨va_P.app (fun i x hi => (h.1 i x (kW_il hi).2).kept (hk _ (hn i x hi).1 (hn i x hi).2)) h'.1, va_D.app ⟨fun i j x y hi hj e => h.2.1 i j x y (kW_il hi).2 (kW_il hj).2 e, fun i x hi => h.2.2 i x (kW_il hi).2⟩ ⟨h'.2.1, fun i x hi => kW_sub h hA _ (h'.2.2 i x hi)⟩ (fun i j x y hi hj e => (hn i x hi).2 (by rw [e]; exact h'.2.2 j y hj))⟩
section KL
variable {p : Program} {l : Launch} {e : Env} {R : Room} {s : State} {m : MethodId} {args : Array Value} {below : List Frame} {meth : Method} {c : Code} {H : Heap} {locs : List Loc} {cells slots : Nat} {Q : State → Prop}
variable {pc : Nat} {ls : Array Slot} {rest : List Value} {cc : ByteArray}
theorem k_goLi {D : va_G} {A : Nat → Prop} {H0 : Heap} {wo w w' : va_W} {post : Int32 → Prop} {Pe : String → Prop} {a : Array Value} {st0 : List Value} {mc ms : Nat} (hP : kW D A (wo ++ w) H) (hA : ∀ z : Nat, H0.size ≤ z → A z) (hS : va_S A H0 H locs)
    (hr : vx_Run p l e R s m args below meth c H locs cells slots mc ms (F0 m pc ls st0) rest (kXi D (va_A w H.size) post w' a) (kXC D (va_A w H.size) w Pe) (va_A w H.size))
    (kx : ∀ (E : String) (ce : Cell) (q9 : Addr) (H1 : Heap) (locs1 : List Loc), Pe E → kW D A (wo ++ w) H1 → va_S A H0 H1 locs1 → H1[q9]? = some ce → ce.vm = .none → s.vm.findClass E = some ce.cls → vx_W p l e R s m args below meth c H1 locs1 (cells + mc) (slots + ms) Q (F0 m pc ls rest) q9)
    (kk : ∀ (r : Int32) (H1 : Heap) (locs1 : List Loc), post r → kW D A (wo ++ w') H1 → va_S A H0 H1 locs1 → W p l e R s m args below meth c H1 locs1 (cells + mc) (slots + ms) Q (F0 m (pc + 3) ls (.int r :: rest))) : W p l e R s m args below meth c H locs cells slots Q (F0 m pc ls st0) :=
  have hA2 : ∀ z : Nat, H.size ≤ z → A z := fun z hz => hA z (Nat.le_trans hS.1 hz)
  have hw := kW_sub hP hA2
  vx_calli hr hS (fun z _ h => hw z h) hw (fun z _ h => hw z h) (fun E ce q9 _ t H1 locs1 ht _ _ hB _ hk hS1 h1 h2 h3 => kx E ce q9 H1 locs1 hB.1 (kW_put hP (by rw [← ht]; exact hB.2) hk hA2) hS1 h1 h2 h3) (fun r _ t H1 locs1 ht _ hp hB _ hk hS1 => kk r H1 locs1 hp (kW_put hP (by rw [← ht]; exact hB) hk hA2) hS1)
/-- the answer is laid into the row -/
theorem k_lastO {D : va_G} {A : Nat → Prop} {q : Nat → ClassId} {o : Nat} {g : Nat → Int64} {w : va_W} {H0 : Heap} {x : Int64} (hexec : p.tables.exec = Jvm.exec) (hb : c.code = cc) (hK : kK D q s) (hP : kW D A (wO q o g w) H) (hS : va_S A H0 H locs) (hdg : decode cc pc = .ok (.lastore, 1))
    (kk : ∀ (H1 : Heap) (locs1 : List Loc), kW D A (wO q o (vp_updL g 0 x) w) H1 → va_S A H0 H1 locs1 → W p l e R s m args below meth c H1 locs1 cells slots Q (F0 m (pc + 1) ls rest)) : W p l e R s m args below meth c H locs cells slots Q (F0 m pc ls (.long x :: .int (nI 0) :: .ref o :: rest)) :=
  va_last hexec hb hK.1 hP.1 hP.2 hS 0 3 rfl rfl (i := nI 0) (by show ¬ (nI 0 < 0 ∨ 1 ≤ (nI 0).toNatClampNeg); decide) hdg (fun H1 locs1 h1 h2 h3 => kk H1 locs1 ⟨h1, h2⟩ h3)
end KL
theorem k_is1 {S : Nat → Nat → Int32} {nl : Nat} {y h r : Int32} (e : r = (coIsOf S nl y h).2.1) (h0 : ¬ r = 0) : r = nI 1 := by
  unfold coIsOf at e
  rw [e] at h0 ⊢
  split at h0 <;> rename_i c
  · rw [if_pos c]
    exact bI_t (Classical.not_not.mp (fun z => h0 (bI_f z)))
  · exact absurd rfl h0
