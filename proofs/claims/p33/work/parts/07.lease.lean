/-! leases in the world: behind the list's array, one cell each -/
theorem k_get_tail {α : Type} {l : List α} {x : α} {n i : Nat} {g : Nat → α} (hi : i < n) : (l ++ (x :: (List.range n).map g))[l.length + 1 + i]? = some (g i) := by
  rw [List.getElem?_append_right (by omega), show l.length + 1 + i - l.length = i + 1 from by omega, List.getElem?_cons_succ, List.getElem?_map, List.getElem?_range hi]
  rfl
theorem k_set_tail {α : Type} {l : List α} {x y : α} {n i : Nat} {g g' : Nat → α} (hi : i < n) (hy : g' i = y) (ho : ∀ j, j ≠ i → g' j = g j) : (l ++ (x :: (List.range n).map g)).set (l.length + 1 + i) y = l ++ (x :: (List.range n).map g') := by
  rw [List.set_append_right _ _ (by omega), show l.length + 1 + i - l.length = i + 1 from by omega, List.set_cons_succ]
  congr 2
  apply List.ext_getElem?
  intro j
  rw [List.getElem?_set, List.getElem?_map, List.getElem?_map, List.length_map, List.length_range]
  by_cases hj : j < n
  · rw [List.getElem?_range hj]
    by_cases hij : i = j
    · subst hij
      rw [if_pos rfl, if_pos hi, ← hy]
      rfl
    · rw [if_neg hij]
      show some (g j) = some (g' j)
      rw [ho j (fun z => hij z.symm)]
  · have e1 : (List.range n)[j]? = none := List.getElem?_eq_none (by rw [List.length_range]; omega)
    rw [e1, if_neg (by omega)]
    rfl
section
theorem wC_ls {q : Nat → ClassId} {a : Nat → Nat} {S : Nat → Nat → Int32} {cap nl i : Nat} (hcap : cap ≠ 0) (hi : i < nl) : (wC q a S cap nl)[27 + i]? = some (wLs a S i) := by
  unfold wC wCt
  rw [if_neg hcap]
  exact k_get_tail (l := wCf q a S nl) (g := wLs a S) hi
theorem wC_el {q : Nat → ClassId} {a : Nat → Nat} {S : Nat → Nat → Int32} {cap nl : Nat} (hcap : cap ≠ 0) : (wC q a S cap nl)[26]? = some (a 26, .inl (q 2, cap, .inr (.inr (.inr (.inr (wEl a nl)))))) := by
  unfold wC wCt
  rw [if_neg hcap]
  rfl
theorem wC_lset {q : Nat → ClassId} {a : Nat → Nat} {S : Nat → Nat → Int32} {cap nl i f : Nat} {v : Int32} (hf : f < 9) (hcap : cap ≠ 0) (hi : i < nl) {y : Nat × va_E} (hy : wLs a (up S (30 + f) i v) i = y) : (wC q a S cap nl).set (27 + i) y = wC q a (up S (30 + f) i v) cap nl := by
  have e : wCf q a (up S (30 + f) i v) nl = wCf q a S nl := by
    unfold wCf
    rw [@up_n S (30 + f) i 0 v (by omega), @up_n S (30 + f) i 5 v (by omega), @up_n S (30 + f) i 6 v (by omega), @up_n S (30 + f) i 7 v (by omega), @up_n S (30 + f) i 8 v (by omega), @up_n S (30 + f) i 9 v (by omega), @up_n S (30 + f) i 10 v (by omega), @up_n S (30 + f) i 11 v (by omega), @up_n S (30 + f) i 12 v (by omega), @up_n S (30 + f) i 13 v (by omega), @up_n S (30 + f) i 14 v (by omega), @up_n S (30 + f) i 15 v (by omega), @up_n S (30 + f) i 16 v (by omega), @up_n S (30 + f) i 17 v (by omega), @up_n S (30 + f) i 18 v (by omega), @up_n S (30 + f) i 19 v (by omega), @up_n S (30 + f) i 20 v (by omega), @up_n S (30 + f) i 21 v (by omega), @up_n S (30 + f) i 22 v (by omega), @up_n S (30 + f) i 23 v (by omega), @up_n S (30 + f) i 24 v (by omega), @up_n S (30 + f) i 25 v (by omega)]
  unfold wC wCt
  rw [if_neg hcap, if_neg hcap, e]
  refine k_set_tail (l := wCf q a S nl) (g := wLs a S) (g' := wLs a (up S (30 + f) i v)) hi hy (fun j hj => ?_)
  have k : ∀ r : Nat, up S (30 + f) i v r j = S r j := fun r => by
    unfold up
    by_cases c : r = 30 + f
    · rw [if_pos c, c]; exact pk_un hj
    · rw [if_neg c]
  unfold wLs
  rw [k 30, k 31, k 32, k 33, k 34, k 35, k 36, k 37, k 38]
theorem wC_lset6 {q : Nat → ClassId} {a : Nat → Nat} {S : Nat → Nat → Int32} {cap nl i : Nat} {v : Int32} (hcap : cap ≠ 0) (hi : i < nl) : (wC q a S cap nl).set (27 + i) (a (100 + i), .inr (3, [.int (S 30 i), .int (S 31 i), .int (S 32 i), .int (S 33 i), .int (S 34 i), .int (S 35 i), .int (S 36 i), .int (S 37 i), .int (S 38 i)].set 6 (.int v))) = wC q a (up S 36 i v) cap nl :=
  wC_lset (f := 6) (by decide) hcap hi (by unfold wLs; rw [@up_n S (30 + 6) i 30 v (by omega), @up_n S (30 + 6) i 31 v (by omega), @up_n S (30 + 6) i 32 v (by omega), @up_n S (30 + 6) i 33 v (by omega), @up_n S (30 + 6) i 34 v (by omega), @up_n S (30 + 6) i 35 v (by omega), up_si S 36 i v, @up_n S (30 + 6) i 37 v (by omega), @up_n S (30 + 6) i 38 v (by omega)]; rfl)
theorem wC_lset7 {q : Nat → ClassId} {a : Nat → Nat} {S : Nat → Nat → Int32} {cap nl i : Nat} {v : Int32} (hcap : cap ≠ 0) (hi : i < nl) : (wC q a S cap nl).set (27 + i) (a (100 + i), .inr (3, [.int (S 30 i), .int (S 31 i), .int (S 32 i), .int (S 33 i), .int (S 34 i), .int (S 35 i), .int (S 36 i), .int (S 37 i), .int (S 38 i)].set 7 (.int v))) = wC q a (up S 37 i v) cap nl :=
  wC_lset (f := 7) (by decide) hcap hi (by unfold wLs; rw [@up_n S (30 + 7) i 30 v (by omega), @up_n S (30 + 7) i 31 v (by omega), @up_n S (30 + 7) i 32 v (by omega), @up_n S (30 + 7) i 33 v (by omega), @up_n S (30 + 7) i 34 v (by omega), @up_n S (30 + 7) i 35 v (by omega), @up_n S (30 + 7) i 36 v (by omega), up_si S 37 i v, @up_n S (30 + 7) i 38 v (by omega)]; rfl)
theorem wC_lset8 {q : Nat → ClassId} {a : Nat → Nat} {S : Nat → Nat → Int32} {cap nl i : Nat} {v : Int32} (hcap : cap ≠ 0) (hi : i < nl) : (wC q a S cap nl).set (27 + i) (a (100 + i), .inr (3, [.int (S 30 i), .int (S 31 i), .int (S 32 i), .int (S 33 i), .int (S 34 i), .int (S 35 i), .int (S 36 i), .int (S 37 i), .int (S 38 i)].set 8 (.int v))) = wC q a (up S 38 i v) cap nl :=
  wC_lset (f := 8) (by decide) hcap hi (by unfold wLs; rw [@up_n S (30 + 8) i 30 v (by omega), @up_n S (30 + 8) i 31 v (by omega), @up_n S (30 + 8) i 32 v (by omega), @up_n S (30 + 8) i 33 v (by omega), @up_n S (30 + 8) i 34 v (by omega), @up_n S (30 + 8) i 35 v (by omega), @up_n S (30 + 8) i 36 v (by omega), @up_n S (30 + 8) i 37 v (by omega), up_si S 38 i v]; rfl)
end
/-! ends and calls of methods that only read and answer a cell that is there -/
def kSr (v : Nat) : Array Value → State → Outcome → State → Prop := fun _ st oc t => oc = .returned (some (.ref v)) ∧ t.heap = st.heap
section KR
variable {p : Program} {l : Launch} {e : Env} {R : Room} {s : State} {m : MethodId} {args : Array Value} {below : List Frame} {meth : Method} {c : Code} {H : Heap} {locs : List Loc} {cells slots : Nat} {Q : State → Prop}
variable {pc : Nat} {ls : Array Slot} {rest : List Value} {cc : ByteArray}
/-- the list's array answers a lease -/
theorem k_aald {D : va_G} {q : Nat → ClassId} {a : Nat → Nat} {S : Nat → Nat → Int32} {cap nl i : Nat} (hexec : p.tables.exec = Jvm.exec) (hb : c.code = cc) (hK : kK D q s) (hP : va_P D vwCl (wC q a S cap nl) H) (hi : i < nl) (hn : nl ≤ cap) (hc : cap ≤ 40) (hdg : decode cc pc = .ok (.aaload, 1))
    (kk : W p l e R s m args below meth c H locs cells slots Q (F0 m (pc + 1) ls (.ref (a (100 + i)) :: rest))) : W p l e R s m args below meth c H locs cells slots Q (F0 m pc ls (.int (nI i) :: .ref (a 26) :: rest)) := by
  refine va_aldq hexec hb hK.1 hP 26 2 (wC_el (by omega)) rfl (vp_in_nI (show i < cap by omega) (by omega)) hdg ?_
  have e : va_rf (wEl a nl (nI i).toNatClampNeg) = .ref (a (100 + i)) := by
    rw [nI_clamp (by omega)]
    unfold wEl
    rw [if_pos hi]
    rfl
  rw [e]
  exact kk
theorem k_aretS {v y : Nat} {rt : FieldType} (hexec : p.tables.exec = Jvm.exec) (hb : c.code = cc) (hr : meth.sig.returnType = some rt) (hrt : (∃ n, rt = .object n) ∨ ∃ t, rt = .array t) (hlocks : meth.locks = false) (hh : s.heap = H) (hl0 : locs = []) (hv : v = y) (hdg : decode cc pc = .ok (.areturn, 1)) : W p l e R s m args below meth c H locs cells slots (MQ below (kSr y) args s cells slots (fun _ => False)) (F0 m pc ls [.ref v]) := by
  subst hl0
  subst hv
  exact W.aret hexec hb hr hrt (Or.inr ⟨v, rfl⟩) (fun t ht _ => ⟨rfl, ht.trans hh.symm⟩) (fun q h => by cases h) hdg hlocks
theorem k_callVr {D : va_G} {q : Nat → ClassId} {P : Heap → Prop} {r : Nat} {y : MethodName} {bytes : ByteArray} {maxL nL n index : Nat} {ret : Option FieldType} {ws : List Cond} {rm : Room} {Ts : List Cond} {own C : String} {b : Addr} {As st0 : List Value}
    (S : CallFix p m c cc nL s args Ts own) (hM : Met l y ws rm (va_Pc (.ref b :: As) (kB D q P)) (kSr r) 0 0 (fun _ => False)) (cw : CallW R s args own C index y bytes maxL ret ws rm 0 0 n) (hK : kK D q s) (hH : P H) (hrecv : ∃ cellB : Cell, H[b]? = some cellB ∧ cellB.vm.isStatics = false ∧ s.vm.findClass C = some cellB.cls)
    (hn : As.length = n) (hsize : ls.size = nL) (hstack : st0 = As.reverse ++ .ref b :: rest) (hW : (rest.map fun v => v.category).sum ≤ 8) (hdg : decode cc pc = .ok (.invokevirtual index, 3)) (hroom : cells ≤ R.cells ∧ slots ≤ R.slots)
    (kk : W p l e R s m args below meth c H locs cells slots Q (F0 m (pc + 3) ls (.ref r :: rest))) : W p l e R s m args below meth c H locs cells slots Q (F0 m pc ls st0) := by
  have hr := W.runV (H := H) (locs := locs) (cells := cells) (slots := slots) (below := below) (meth := meth) (e := e) S hM cw ⟨kB_blind, hrecv, fun U hU hW => ⟨rfl, by rw [hU]; exact hH, hK.warm hW⟩⟩ (g := F0 m pc ls st0) rfl hn hsize hstack (lv_room hW) hdg hroom
  intro T hT X
  obtain ⟨v, st₀, t, T', L, h0, X', hL, e1, ⟨hv, hh⟩, st⟩ := hr T hT X
  cases hv
  obtain ⟨t2, a1, b1⟩ := kk T' (by rw [e1, hh, h0]) (Stand.forget X' (fun q h => (hL q h).elim))
  exact ⟨t2, st t2 a1, b1⟩
end KR
