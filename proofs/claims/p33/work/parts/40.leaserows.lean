/-! the class's leases: the new one stands beside the world at the next number -/
def wZ (q : Nat → ClassId) (a : Nat → Nat) (S : Nat → Nat → Int32) (cap nl : Nat) : va_W := wC q a S cap nl ++ [wLs a S nl]
theorem wZ_C {q : Nat → ClassId} {a : Nat → Nat} {S : Nat → Nat → Int32} {cap nl : Nat} {D : va_G} {H : Heap} (h : va_P D vwCl (wZ q a S cap nl) H) : va_P D vwCl (wC q a S cap nl) H := fun k x hk => h k x (kW_il hk).2
theorem wC_len {q : Nat → ClassId} {a : Nat → Nat} {S : Nat → Nat → Int32} {cap nl : Nat} (hcap : cap ≠ 0) : (wC q a S cap nl).length = 27 + nl := by
  unfold wC wCt
  rw [if_neg hcap, List.length_append, List.length_cons, List.length_map, List.length_range]
  show 26 + (nl + 1) = 27 + nl
  omega
theorem wZ_ls {q : Nat → ClassId} {a : Nat → Nat} {S : Nat → Nat → Int32} {cap nl i : Nat} (hcap : cap ≠ 0) (hi : i ≤ nl) : (wZ q a S cap nl)[27 + i]? = some (wLs a S i) := by
  unfold wZ
  by_cases c : i < nl
  · exact (kW_il (wC_ls hcap c)).2
  · have e : i = nl := by omega
    subst e
    have := kW_ix (wo := wC q a S cap i) (w := [wLs a S i]) (k := 0) (x := wLs a S i) rfl
    rw [wC_len hcap] at this
    exact this
abbrev clP (S : Nat → Nat → Int32) (y z : Nat) : Prop := S 30 y = S 30 z ∧ S 35 y < S 36 z ∧ S 35 z < S 36 y
def dhC (S : Nat → Nat → Int32) (z : Nat) : Nat → Bool
  | 0 => false
  | k + 1 => dhC S z k || decide (clP S k z)
theorem dhC_t {S : Nat → Nat → Int32} {z k : Nat} (h : clP S k z) : ∀ n, k < n → dhC S z n = true
  | 0, h0 => absurd h0 (Nat.not_lt_zero k)
  | n + 1, h0 => by
    unfold dhC
    by_cases c : k = n
    · subst c
      rw [decide_eq_true h, Bool.or_true]
    · rw [dhC_t h n (by omega), Bool.true_or]
theorem dhC_f {S : Nat → Nat → Int32} {z k : Nat} (h : dhC S z k = false) (hc : ¬ clP S k z) : dhC S z (k + 1) = false := by
  unfold dhC
  rw [h, decide_eq_false hc]
  rfl
/-- the new lease is laid -/
def lnew (S : Nat → Nat → Int32) (nl : Nat) (d t b r f e : Int32) : Nat → Nat → Int32 := up (up (up (up (up (up (up (up (up S 30 nl d) 31 nl (d / nI 3)) 32 nl t) 33 nl b) 34 nl r) 35 nl f) 36 nl e) 37 nl (nI 0)) 38 nl (nI 0)
def coLease (S : Nat → Nat → Int32) (w0 nl : Nat) (d t b r h : Int32) : R3 := if ixP d (nI 36) then if ixP t (nI 6) then if inP b (nI 0) (nI 50) then if inP r (nI 0) (nI 50) then if inP h (nI 1) (nI 100) then if nl < 30 then if dhC (lnew S nl d t b r (nI w0) (nI (w0 + h.toNatClampNeg))) nl nl = true then flC S 3 else (nI 0, nI nl, up (lnew S nl d t b r (nI w0) (nI (w0 + h.toNatClampNeg))) 0 3 (S 0 3 + nI 1)) else flC S 3 else flC S 2 else flC S 2 else flC S 2 else flC S 1 else flC S 1
theorem lnew_n {S : Nat → Nat → Int32} {nl k : Nat} {d t b r f e : Int32} (h : k < 30) : lnew S nl d t b r f e k = S k :=
  (up_n (by omega)).trans ((up_n (by omega)).trans ((up_n (by omega)).trans ((up_n (by omega)).trans ((up_n (by omega)).trans ((up_n (by omega)).trans ((up_n (by omega)).trans ((up_n (by omega)).trans (up_n (by omega)))))))))
theorem up_o {S : Nat → Nat → Int32} {k i j : Nat} {v : Int32} (h : j ≠ i) (r : Nat) : up S k i v r j = S r j := by
  by_cases c : r = k
  · subst c
    exact up_sn h
  · rw [up_n c]
theorem lnew_o {S : Nat → Nat → Int32} {nl j : Nat} {d t b r f e : Int32} (h : j ≠ nl) (k : Nat) : lnew S nl d t b r f e k j = S k j :=
  (up_o h k).trans ((up_o h k).trans ((up_o h k).trans ((up_o h k).trans ((up_o h k).trans ((up_o h k).trans ((up_o h k).trans ((up_o h k).trans (up_o h k))))))))
theorem lnew_ls {a : Nat → Nat} {S : Nat → Nat → Int32} {nl z : Nat} {d t b r f e : Int32} : wLs (upA a (100 + nl) z) (lnew S nl d t b r f e) nl = (z, .inr (3, [.int d, .int (d / nI 3), .int t, .int b, .int r, .int f, .int e, .int (nI 0), .int (nI 0)])) := by
  unfold wLs lnew
  rw [show upA a (100 + nl) z (100 + nl) = z from if_pos rfl]
  simp [up, upd]
theorem wLs_o {a : Nat → Nat} {S T : Nat → Nat → Int32} {nl z i : Nat} (hi : i ≠ nl) (h : ∀ k, T k i = S k i) : wLs (upA a (100 + nl) z) T i = wLs a S i := by
  unfold wLs
  rw [show upA a (100 + nl) z (100 + i) = a (100 + i) from if_neg (by omega), h, h, h, h, h, h, h, h, h]
theorem wC_lnew {q : Nat → ClassId} {a : Nat → Nat} {S : Nat → Nat → Int32} {cap nl z : Nat} {d t b r f e : Int32} : wC q (upA a (100 + nl) z) (lnew S nl d t b r f e) cap nl = wC q a S cap nl := by
  have ha : ∀ j, j < 100 → upA a (100 + nl) z j = a j := fun j hj => if_neg (by omega)
  have e1 : wCf q (upA a (100 + nl) z) (lnew S nl d t b r f e) nl = wCf q a S nl := by
    unfold wCf
    simp only [ha 0 (by decide), ha 1 (by decide), ha 2 (by decide), ha 3 (by decide), ha 4 (by decide), ha 5 (by decide), ha 6 (by decide), ha 7 (by decide), ha 8 (by decide), ha 9 (by decide), ha 10 (by decide), ha 11 (by decide), ha 12 (by decide), ha 13 (by decide), ha 14 (by decide), ha 15 (by decide), ha 16 (by decide), ha 17 (by decide), ha 18 (by decide), ha 19 (by decide), ha 20 (by decide), ha 21 (by decide), ha 22 (by decide), ha 23 (by decide), ha 24 (by decide), ha 25 (by decide), ha 26 (by decide), lnew_n (show 0 < 30 by decide), lnew_n (show 5 < 30 by decide), lnew_n (show 6 < 30 by decide), lnew_n (show 7 < 30 by decide), lnew_n (show 8 < 30 by decide), lnew_n (show 9 < 30 by decide), lnew_n (show 10 < 30 by decide), lnew_n (show 11 < 30 by decide), lnew_n (show 12 < 30 by decide), lnew_n (show 13 < 30 by decide), lnew_n (show 14 < 30 by decide), lnew_n (show 15 < 30 by decide), lnew_n (show 16 < 30 by decide), lnew_n (show 17 < 30 by decide), lnew_n (show 18 < 30 by decide), lnew_n (show 19 < 30 by decide), lnew_n (show 20 < 30 by decide), lnew_n (show 21 < 30 by decide), lnew_n (show 22 < 30 by decide), lnew_n (show 23 < 30 by decide), lnew_n (show 24 < 30 by decide), lnew_n (show 25 < 30 by decide)]
  have e2 : wEl (upA a (100 + nl) z) nl = wEl a nl := funext fun i => by
    unfold wEl
    by_cases c : i < nl
    · rw [if_pos c, if_pos c, show upA a (100 + nl) z (100 + i) = a (100 + i) from if_neg (by omega)]
    · rw [if_neg c, if_neg c]
  have e3 : (List.range nl).map (wLs (upA a (100 + nl) z) (lnew S nl d t b r f e)) = (List.range nl).map (wLs a S) := List.map_congr_left (fun i hi => wLs_o (by have := List.mem_range.mp hi; omega) (fun k => lnew_o (by have := List.mem_range.mp hi; omega) k))
  unfold wC wCt
  rw [e1, e2, e3, ha 26 (by decide)]
/-- the world but for the list -/
def wCg (q : Nat → ClassId) (a : Nat → Nat) (S : Nat → Nat → Int32) : va_W := [(a 0, .inr (5, [.ref (a 1), .ref (a 2), .ref (a 3), .ref (a 4), .ref (a 5), .int (S 0 0)])),
  (a 1, .inr (4, [.ref (a 6), .ref (a 7), .ref (a 8), .ref (a 9), .ref (a 10)])),
  (a 2, .inr (2, [.ref (a 11), .ref (a 12), .ref (a 13), .ref (a 14), .ref (a 15), .ref (a 16), .ref (a 17), .int (S 0 1)])),
  (a 3, .inr (1, [.ref (a 18), .ref (a 19), .ref (a 20), .ref (a 21), .ref (a 22), .ref (a 23), .ref (a 24), .ref (a 25), .int (S 0 2)])),
  (a 5, .inl (q 0, 6, .inl (S 5))),
  (a 6, .inl (q 0, 12, .inl (S 6))),
  (a 7, .inl (q 0, 12, .inl (S 7))),
  (a 8, .inl (q 0, 2400, .inl (S 8))),
  (a 9, .inl (q 0, 2400, .inl (S 9))),
  (a 10, .inl (q 0, 200, .inl (S 10))),
  (a 11, .inl (q 1, 12, .inl (S 11))),
  (a 12, .inl (q 0, 12, .inl (S 12))),
  (a 13, .inl (q 0, 2400, .inl (S 13))),
  (a 14, .inl (q 0, 2400, .inl (S 14))),
  (a 15, .inl (q 0, 60, .inl (S 15))),
  (a 16, .inl (q 0, 60, .inl (S 16))),
  (a 17, .inl (q 0, 60, .inl (S 17))),
  (a 18, .inl (q 0, 6, .inl (S 18))),
  (a 19, .inl (q 0, 6, .inl (S 19))),
  (a 20, .inl (q 0, 6, .inl (S 20))),
  (a 21, .inl (q 1, 72, .inl (S 21))),
  (a 22, .inl (q 1, 6, .inl (S 22))),
  (a 23, .inl (q 0, 6, .inl (S 23))),
  (a 24, .inl (q 0, 2400, .inl (S 24))),
  (a 25, .inl (q 0, 50, .inl (S 25)))]
theorem kW_permL {D : va_G} {A : Nat → Prop} {w1 w1' w2 : va_W} {H : Heap} (is : List Nat) (h1 : is.filterMap (fun i => w1[i]?) = w1') (h2 : va_nd is = true) (h3 : is.map (fun i => w1[i]?) = w1'.map some) (h : kW D A (w1 ++ w2) H) : kW D A (w1' ++ w2) H := by
  refine kW_app ⟨(kW_l h).1.sub is h1, (kW_l h).2.sub is h2 h3⟩ (kW_r h) (fun i j x y hi hj => ?_)
  have e : (w1'.map some)[i]? = some (some x) := by rw [List.getElem?_map, hi]; rfl
  rw [← h3, List.getElem?_map] at e
  cases hk : is[i]? with
  | none => rw [hk] at e; cases e
  | some k =>
    rw [hk] at e
    exact kW_dis h k j x y (Option.some.inj e) hj
theorem kW_split {D : va_G} {A : Nat → Prop} {q : Nat → ClassId} {a : Nat → Nat} {S : Nat → Nat → Int32} {nl : Nat} {w : va_W} {H : Heap} (h : kW D A (wCf q a S nl ++ w) H) : kW D A (wCg q a S ++ ([(a 4, .inr (0, [.int (S 0 3), .ref (a 26), .int (nI nl)]))] ++ w)) H := by
  have := kW_permL (w1' := wCg q a S ++ [(a 4, .inr (0, [.int (S 0 3), .ref (a 26), .int (nI nl)]))]) [0, 1, 2, 3, 5, 6, 7, 8, 9, 10, 11, 12, 13, 14, 15, 16, 17, 18, 19, 20, 21, 22, 23, 24, 25, 4] rfl rfl rfl h
  rw [List.append_assoc] at this
  exact this
theorem kW_merge {D : va_G} {A : Nat → Prop} {q : Nat → ClassId} {a : Nat → Nat} {S : Nat → Nat → Int32} {nl : Nat} {w : va_W} {H : Heap} (h : kW D A (wCg q a S ++ ([(a 4, .inr (0, [.int (S 0 3), .ref (a 26), .int (nI nl)]))] ++ w)) H) : kW D A (wCf q a S nl ++ w) H := by
  rw [← List.append_assoc] at h
  exact kW_permL (w1' := wCf q a S nl) [0, 1, 2, 3, 25, 4, 5, 6, 7, 8, 9, 10, 11, 12, 13, 14, 15, 16, 17, 18, 19, 20, 21, 22, 23, 24] rfl rfl rfl h
theorem wCg_m {q : Nat → ClassId} {a : Nat → Nat} {S : Nat → Nat → Int32} {z : Nat} {v : Int32} : wCg q (upA a 26 z) (up S 0 3 v) = wCg q a S := by
  unfold wCg
  simp only [show upA a 26 z 0 = a 0 from rfl, show upA a 26 z 1 = a 1 from rfl, show upA a 26 z 2 = a 2 from rfl, show upA a 26 z 3 = a 3 from rfl, show upA a 26 z 4 = a 4 from rfl, show upA a 26 z 5 = a 5 from rfl, show upA a 26 z 6 = a 6 from rfl, show upA a 26 z 7 = a 7 from rfl, show upA a 26 z 8 = a 8 from rfl, show upA a 26 z 9 = a 9 from rfl, show upA a 26 z 10 = a 10 from rfl, show upA a 26 z 11 = a 11 from rfl, show upA a 26 z 12 = a 12 from rfl, show upA a 26 z 13 = a 13 from rfl, show upA a 26 z 14 = a 14 from rfl, show upA a 26 z 15 = a 15 from rfl, show upA a 26 z 16 = a 16 from rfl, show upA a 26 z 17 = a 17 from rfl, show upA a 26 z 18 = a 18 from rfl, show upA a 26 z 19 = a 19 from rfl, show upA a 26 z 20 = a 20 from rfl, show upA a 26 z 21 = a 21 from rfl, show upA a 26 z 22 = a 22 from rfl, show upA a 26 z 23 = a 23 from rfl, show upA a 26 z 24 = a 24 from rfl, show upA a 26 z 25 = a 25 from rfl, show up S 0 3 v 0 0 = S 0 0 from up_sn (by decide), show up S 0 3 v 0 1 = S 0 1 from up_sn (by decide), show up S 0 3 v 0 2 = S 0 2 from up_sn (by decide), show up S 0 3 v 5 = S 5 from up_n (by decide), show up S 0 3 v 6 = S 6 from up_n (by decide), show up S 0 3 v 7 = S 7 from up_n (by decide), show up S 0 3 v 8 = S 8 from up_n (by decide), show up S 0 3 v 9 = S 9 from up_n (by decide), show up S 0 3 v 10 = S 10 from up_n (by decide), show up S 0 3 v 11 = S 11 from up_n (by decide), show up S 0 3 v 12 = S 12 from up_n (by decide), show up S 0 3 v 13 = S 13 from up_n (by decide), show up S 0 3 v 14 = S 14 from up_n (by decide), show up S 0 3 v 15 = S 15 from up_n (by decide), show up S 0 3 v 16 = S 16 from up_n (by decide), show up S 0 3 v 17 = S 17 from up_n (by decide), show up S 0 3 v 18 = S 18 from up_n (by decide), show up S 0 3 v 19 = S 19 from up_n (by decide), show up S 0 3 v 20 = S 20 from up_n (by decide), show up S 0 3 v 21 = S 21 from up_n (by decide), show up S 0 3 v 22 = S 22 from up_n (by decide), show up S 0 3 v 23 = S 23 from up_n (by decide), show up S 0 3 v 24 = S 24 from up_n (by decide), show up S 0 3 v 25 = S 25 from up_n (by decide)]
theorem wLs_m {a : Nat → Nat} {S : Nat → Nat → Int32} {v : Int32} {i : Nat} : wLs a (up S 0 3 v) i = wLs a S i := by
  unfold wLs
  simp only [show up S 0 3 v 30 = S 30 from up_n (by decide), show up S 0 3 v 31 = S 31 from up_n (by decide), show up S 0 3 v 32 = S 32 from up_n (by decide), show up S 0 3 v 33 = S 33 from up_n (by decide), show up S 0 3 v 34 = S 34 from up_n (by decide), show up S 0 3 v 35 = S 35 from up_n (by decide), show up S 0 3 v 36 = S 36 from up_n (by decide), show up S 0 3 v 37 = S 37 from up_n (by decide), show up S 0 3 v 38 = S 38 from up_n (by decide)]
theorem wA_m {q : Nat → ClassId} {a : Nat → Nat} {S : Nat → Nat → Int32} {cap nl : Nat} {v : Int32} : wA q a (up S 0 3 v) cap nl = [(a 4, .inr (0, [.int v, .ref (a 26), .int (nI nl)]))] ++ wCt q a S cap nl := by
  unfold wA
  rw [up_si, wCt_up (by decide)]
theorem wZ_split {q : Nat → ClassId} {a : Nat → Nat} {S : Nat → Nat → Int32} {cap nl : Nat} {D : va_G} {A : Nat → Prop} {H : Heap} (h : kW D A (wZ q a S cap nl) H) : kW D A (wCg q a S ++ (wA q a S cap nl ++ [wLs a S nl])) H := by
  unfold wZ wC at h
  rw [List.append_assoc] at h
  have := kW_split h
  rw [← List.append_assoc [_]] at this
  exact this
theorem wC_merge {q : Nat → ClassId} {a : Nat → Nat} {S : Nat → Nat → Int32} {cap nl : Nat} {D : va_G} {A : Nat → Prop} {H : Heap} (h : kW D A (wCg q a S ++ wA q a S cap nl) H) : kW D A (wC q a S cap nl) H := kW_merge h
def kBXE (D : va_G) (q : Nat → ClassId) (A : Nat → Prop) (e0 : Nat) (P : Heap → Prop) : State → Prop := fun U => kBX D q A P U ∧ kE e0 A U ∧ ∀ z : Nat, U.heap.size ≤ z → A z
theorem kBXE_blind {av : List Value} {D : va_G} {q : Nat → ClassId} {A : Nat → Prop} {e0 : Nat} {P : Heap → Prop} : FrameBlind (va_Pc av (kBXE D q A e0 P)) := fun a U g mk h => ⟨h.1, (kBX_blind a U g mk ⟨h.1, h.2.1⟩).2, kE.moved (u := U) (U := U.calling g mk a) (Vm.Alike.refl U.vm) rfl (va_Nw.same (u := U) (U := U.calling g mk a) rfl rfl h.2.2.1.2.2.2.2.2) h.2.2.1, h.2.2.2⟩
/-- ends of leasing: where things lie behind it, and the list's room -/
def kRl (D : va_G) (q : Nat → ClassId) (A : Nat → Prop) (a : Nat → Nat) (nl : Nat) (R : R3) : Array Value → State → Outcome → State → Prop := va_Qi (fun (r : Int32) (x : (Nat → Nat) × Nat) => (R.1 = nI 0 ∧ r = R.2.1) ∧ (∀ j, j < 26 → x.1 j = a j) ∧ nl + 1 ≤ x.2 ∧ capP x.2) (fun x t => kW D A (wC q x.1 R.2.2 x.2 (nl + 1)) t.heap) A
section KZ
variable {p : Program} {l : Launch} {e : Env} {R : Room} {s : State} {m : MethodId} {args : Array Value} {below : List Frame} {meth : Method} {c : Code} {H : Heap} {locs : List Loc} {cells slots : Nat} {Q : State → Prop}
variable {pc : Nat} {ls : Array Slot} {rest : List Value} {cc : ByteArray}
theorem k_topR {x y : Nat} (h : x = y) (k : W p l e R s m args below meth c H locs cells slots Q (F0 m pc ls (.ref y :: rest))) : W p l e R s m args below meth c H locs cells slots Q (F0 m pc ls (.ref x :: rest)) := by rw [h]; exact k
theorem k_goT {D : va_G} {A : Nat → Prop} {H0 : Heap} {T : Type} {wo w : va_W} {post : T → Prop} {w' : T → va_W} {a : Array Value} {st0 : List Value} {mc ms : Nat} (hP : kW D A (wo ++ w) H) (hA : ∀ z : Nat, H0.size ≤ z → A z) (hS : va_S A H0 H locs)
    (hr : va_Run p l e R s m args below meth c H locs cells slots mc ms (F0 m pc ls st0) rest (va_Qv post (fun x t => kW D (va_A w H.size) (w' x) t.heap) (va_A w H.size) a) (va_A w H.size))
    (kk : ∀ (x : T) (H1 : Heap) (locs1 : List Loc), post x → kW D A (wo ++ w' x) H1 → va_S A H0 H1 locs1 → W p l e R s m args below meth c H1 locs1 (cells + mc) (slots + ms) Q (F0 m (pc + 3) ls rest)) : W p l e R s m args below meth c H locs cells slots Q (F0 m pc ls st0) :=
  have hA2 : ∀ z : Nat, H.size ≤ z → A z := fun z hz => hA z (Nat.le_trans hS.1 hz)
  have hw := kW_sub hP hA2
  va_callv hr hS (fun z _ h => hw z h) hw (fun x t H1 locs1 ht _ hp hB _ hk hS1 => kk x H1 locs1 hp (kW_put hP (by rw [← ht]; exact hB) hk hA2) hS1)
theorem k_goTi {D : va_G} {A : Nat → Prop} {H0 : Heap} {T : Type} {wo w : va_W} {post : Int32 → T → Prop} {w' : T → va_W} {a : Array Value} {st0 : List Value} {mc ms : Nat} (hP : kW D A (wo ++ w) H) (hA : ∀ z : Nat, H0.size ≤ z → A z) (hS : va_S A H0 H locs)
    (hr : va_Run p l e R s m args below meth c H locs cells slots mc ms (F0 m pc ls st0) rest (va_Qi post (fun x t => kW D (va_A w H.size) (w' x) t.heap) (va_A w H.size) a) (va_A w H.size))
    (kk : ∀ (r : Int32) (x : T) (H1 : Heap) (locs1 : List Loc), post r x → kW D A (wo ++ w' x) H1 → va_S A H0 H1 locs1 → W p l e R s m args below meth c H1 locs1 (cells + mc) (slots + ms) Q (F0 m (pc + 3) ls (.int r :: rest))) : W p l e R s m args below meth c H locs cells slots Q (F0 m pc ls st0) :=
  have hA2 : ∀ z : Nat, H.size ≤ z → A z := fun z hz => hA z (Nat.le_trans hS.1 hz)
  have hw := kW_sub hP hA2
  va_calli hr hS (fun z _ h => hw z h) hw (fun r x t H1 locs1 ht _ hp hB _ hk hS1 => kk r x H1 locs1 hp (kW_put hP (by rw [← ht]; exact hB) hk hA2) hS1)
end KZ
