/-! the law's own walk: what holds between its calls -/
def kBc (D : va_G) (q : Nat → ClassId) (b L : Nat) (xs : Nat → Int32) : State → Prop := fun U => (va_X b L xs U U.heap ∧ b < U.heap.size) ∧ kK D q U
theorem kBc_blind {av : List Value} {D : va_G} {q : Nat → ClassId} {b L : Nat} {xs : Nat → Int32} : FrameBlind (va_Pc av (kBc D q b L xs)) := fun a U g mk h => ⟨h.1, ⟨va_X.moved (u := U) (U := U.calling g mk a) (Vm.Alike.refl U.vm) h.2.1.1, h.2.1.2⟩, va_K.moved (u := U) (U := U.calling g mk a) (Vm.Alike.refl U.vm) h.2.2.1, kNest.same (u := U) (U := U.calling g mk a) rfl h.2.2.2⟩
theorem cs_L_cell_7 : Cond.constant RL 7 (nI 53327) ∈ wsL_cell := by decide +kernel
theorem cs_L_cell_8 : Cond.constant RL 8 (nI 1929899) ∈ wsL_cell := by decide +kernel
/-- the script's int at a place, and what stands for it past its end -/
def cellV (L : Nat) (xs : Nat → Int32) (k : Nat) : Int32 := if k < L then xs k else nI 53327 * (nI k + nI 21) + nI 1929899
set_option maxHeartbeats 4000000 in
set_option maxRecDepth 100000 in
theorem c_L_cell (l : Launch) (D : va_G) (q : Nat → ClassId) (b L : Nat) (xs : Nat → Int32) (k : Nat) (hk : k < 80) (hL : L ≤ 260) : Met l yL_cell wsL_cell ({ frames := 0, cells := 0, slots := 0, locals := 0 } : Room) (va_Pc [.ref b, .int (nI k)] (kBc D q b L xs)) (kSi (cellV L xs k)) 0 0 (fun _ => False) := by
  refine Met.ofW (cc := cL_cell) (maxL := 2) (ret := (some .int)) (by decide) rfl ?_
  intro p e u m args below meth c s₁ B hml0 hv
  obtain ⟨rfl, ⟨hX0, hbl⟩, hK⟩ := hv
  have C0 : kAt p u m #[.ref b, .int (nI k)] meth c cL_cell 2 (some .int) RL wsL_cell := kAt_of B hml0
  obtain ⟨hx, hb, hr, hml, hown, hts, hlocks⟩ := id C0
  have hS : va_S (fun _ : Nat => False) u.heap u.heap [] := va_S.rf
  have hl := lv_entry ([.ref b, .int (nI k)]) (n := 2) (Nat.le_of_ble_eq_true rfl)
  rw [lg_entry_eq]
  generalize (lg_sl ([.ref b, .int (nI k)]) ++ List.replicate (2 - (lg_sl ([.ref b, .int (nI k)])).length) Slot.unset).toArray = ls at hl ⊢
  have hl : lv_has ls 2 [(0, .ref b), (1, .int (nI k))] := hl
  refine lv_iload_n hx hb dL_cell_0 rfl (lv_at hl 1 rfl) ?_
  refine lv_aload_n hx hb dL_cell_1 rfl (lv_at hl 0 rfl) ?_
  refine va_slen hx hb hX0 hbl (fun h => h) hS dL_cell_2 ?_
  refine k_icmp_ge (P := k < L) (tgt := 12) hx hb dL_cell_3 (by decide) (nI_ltI (by omega) (by omega)) (fun c1 => ?_) (fun c1 => ?_)
  · refine lv_ldc (v := nI 53327) hx hb hown (hts _ cs_L_cell_7) dL_cell_12 ?_
    refine lv_iload_n hx hb dL_cell_14 rfl (lv_at hl 1 rfl) ?_
    refine lv_bipush (v := nI 21) hx hb dL_cell_15 (by decide) ?_
    refine lv_iadd hx hb dL_cell_17 ?_
    refine lv_imul hx hb dL_cell_18 ?_
    refine lv_ldc (v := nI 1929899) hx hb hown (hts _ cs_L_cell_8) dL_cell_19 ?_
    refine lv_iadd hx hb dL_cell_21 ?_
    exact k_iretS hx hb hr hlocks rfl rfl (if_neg c1).symm dL_cell_22
  · refine lv_aload_n hx hb dL_cell_6 rfl (lv_at hl 0 rfl) ?_
    refine lv_iload_n hx hb dL_cell_7 rfl (lv_at hl 1 rfl) ?_
    refine va_sld hx hb hX0 hbl (fun h => h) hS (vp_in_nI c1 (by omega)) dL_cell_8 ?_
    refine lv_goto (tgt := 22) hx hb dL_cell_9 (by decide) ?_
    exact k_iretS hx hb hr hlocks rfl rfl (by rw [nI_clamp (by omega)]; exact (if_pos c1).symm) dL_cell_22
abbrev lA (s : State) : Nat → Prop := fun z => s.heap.size ≤ z
def lcap (a26 e0 cap nl : Nat) : Prop := ((cap = 0 ∧ a26 = e0) ∨ capP cap) ∧ nl ≤ cap
theorem lcap.le {a26 e0 cap nl : Nat} (h : lcap a26 e0 cap nl) : cap ≤ 40 := by
  have := h.1
  unfold capP at this
  omega
/-- what the Statement gives, as the law's body uses it -/
def lEnv (p : Program) (l : Launch) (s : State) (m : MethodId) (meth : Method) (c : Code) (b L : Nat) (xs : Nat → Int32) (D : va_G) (q : Nat → ClassId) (e0 : Nat) : Prop := lw_At p s m meth c b L xs ∧ kK D q s ∧ kX (lA s) s ∧ kE e0 (lA s) s ∧ l.stackTraces = false
theorem lEnv_hts {s : State} {args : Array Value} (h : ∀ w ∈ lw_tbl, w.before args s = true) : ∀ w ∈ wsL_law, w.before args s = true := fun w hw => h w (wsL_law_in w hw)
/-- at a turn: the law's rows beside the class's object -/
def lSt (s : State) (D : va_G) (q : Nat → ClassId) (e0 tn : Nat) (P : (Nat → Nat) → (Nat → Nat) → List (Nat × Value)) (H : Heap) (locs : List Loc) (ls : Array Slot) : Prop := ∃ (S C : Nat → Nat → Int32) (a cb : Nat → Nat) (cap n w nl L9 : Nat), kW D (lA s) (wL q a S (wC q cb C cap nl)) H ∧ va_S (lA s) s.heap H locs ∧ LI S C n w nl L9 tn ∧ lcap (cb 26) e0 cap nl ∧ lv_has ls 19 (P a cb)
/-- from there on the law comes to its end -/
def lK (p : Program) (l : Launch) (e : Env) (s : State) (m : MethodId) (below : List Frame) (meth : Method) (c : Code) (b : Nat) (D : va_G) (q : Nat → ClassId) (e0 tn : Nat) (P : (Nat → Nat) → (Nat → Nat) → List (Nat × Value)) (k9 n9 pc : Nat) : Prop := ∀ (H : Heap) (locs : List Loc) (ls : Array Slot), lSt s D q e0 tn P H locs ls → W p l e room_1 s m #[Value.ref b] below meth c H locs k9 n9 (lw_Z below #[Value.ref b] s) (F0 m pc ls [])
abbrev pT (b i : Nat) : (Nat → Nat) → (Nat → Nat) → List (Nat × Value) := fun a cb => [(0, .ref b), (1, .ref (cb 0)), (2, .ref (a 0)), (3, .ref (a 1)), (4, .ref (a 2)), (5, .ref (a 3)), (6, .ref (a 4)), (7, .ref (a 5)), (8, .ref (a 6)), (9, .ref (a 7)), (10, .ref (a 8)), (11, .ref (a 9)), (12, .int (nI i))]
abbrev pJ (b i : Nat) (z : Int32) : (Nat → Nat) → (Nat → Nat) → List (Nat × Value) := fun a cb => [(15, .int (nI 1)), (13, .int z), (0, .ref b), (1, .ref (cb 0)), (2, .ref (a 0)), (3, .ref (a 1)), (4, .ref (a 2)), (5, .ref (a 3)), (6, .ref (a 4)), (7, .ref (a 5)), (8, .ref (a 6)), (9, .ref (a 7)), (10, .ref (a 8)), (11, .ref (a 9)), (12, .int (nI i))]
abbrev pF (b i v : Nat) (z : Int32) : (Nat → Nat) → (Nat → Nat) → List (Nat × Value) := fun a cb => [(15, .int (nI 1)), (14, .int (nI v)), (13, .int z), (0, .ref b), (1, .ref (cb 0)), (2, .ref (a 0)), (3, .ref (a 1)), (4, .ref (a 2)), (5, .ref (a 3)), (6, .ref (a 4)), (7, .ref (a 5)), (8, .ref (a 6)), (9, .ref (a 7)), (10, .ref (a 8)), (11, .ref (a 9)), (12, .int (nI i))]
