/-! the class's leases: the new one stands beside the world at the next number -/
def wZ (q : Nat → ClassId) (a : Nat → Nat) (S : Nat → Nat → Int32) (cap nl : Nat) : va_W := wC q a S cap nl ++ [wLs a S nl]
theorem wZ_C {q : Nat → ClassId} {a : Nat → Nat} {S : Nat → Nat → Int32} {cap nl : Nat} {D : va_G} {H : Heap} (h : va_P D vwCl (wZ q a S cap nl) H) : va_P D vwCl (wC q a S cap nl) H := fun k x hk => h k x (kW_il hk).2
theorem wC_len {q : Nat → ClassId} {a : Nat → Nat} {S : Nat → Nat → Int32} {cap nl : Nat} (hcap : cap ≠ 0) : (wC q a S cap nl).length = 27 + nl := by
  unfold wC wCt
  rw [if_neg hcap, List.length_append, List.length_cons, List.length_map, List.length_range]
  show 26 + (nl + 1) = 27 + nl
  omega
theorem wZ_ls {q : Nat → ClassId} {a : Nat → Nat} {S : Nat → Nat → Int32} {cap nl i : Nat} (hcap : cap ≠ 0) (hi : i ≤ nl) : (wZ q a S cap nl)[27 + i]? = some (wLs a S i) := by
  unfold wZ
  by_cases c : i < nl
  · exact (kW_il (wC_ls hcap c)).2
  · have e : i = nl := by omega
    subst e
    have := kW_ix (wo := wC q a S cap i) (w := [wLs a S i]) (k := 0) (x := wLs a S i) rfl
    rw [wC_len hcap] at this
    exact this
abbrev clP (S : Nat → Nat → Int32) (y z : Nat) : Prop := S 30 y = S 30 z ∧ S 35 y < S 36 z ∧ S 35 z < S 36 y
def dhC (S : Nat → Nat → Int32) (z : Nat) : Nat → Bool
  | 0 => false
  | k + 1 => dhC S z k || decide (clP S k z)
theorem dhC_t {S : Nat → Nat → Int32} {z k : Nat} (h : clP S k z) : ∀ n, k < n → dhC S z n = true
  | 0, h0 => absurd h0 (Nat.not_lt_zero k)
  | n + 1, h0 => by
    unfold dhC
    by_cases c : k = n
    · subst c
      rw [decide_eq_true h, Bool.or_true]
    · rw [dhC_t h n (by omega), Bool.true_or]
theorem dhC_f {S : Nat → Nat → Int32} {z k : Nat} (h : dhC S z k = false) (hc : ¬ clP S k z) : dhC S z (k + 1) = false := by
  unfold dhC
  rw [h, decide_eq_false hc]
  rfl
/-- the new lease is laid -/
def lnew (S : Nat → Nat → Int32) (nl : Nat) (d t b r f e : Int32) : Nat → Nat → Int32 := up (up (up (up (up (up (up (up (up S 30 nl d) 31 nl (d / nI 3)) 32 nl t) 33 nl b) 34 nl r) 35 nl f) 36 nl e) 37 nl (nI 0)) 38 nl (nI 0)
def coLease (S : Nat → Nat → Int32) (w0 nl : Nat) (d t b r h : Int32) : R3 := if ixP d (nI 36) then if ixP t (nI 6) then if inP b (nI 0) (nI 50) then if inP r (nI 0) (nI 50) then if inP h (nI 1) (nI 100) then if nl < 30 then if dhC (lnew S nl d t b r (nI w0) (nI (w0 + h.toNatClampNeg))) nl nl = true then flC S 3 else (nI 0, nI nl, up (lnew S nl d t b r (nI w0) (nI (w0 + h.toNatClampNeg))) 0 3 (S 0 3 + nI 1)) else flC S 3 else flC S 2 else flC S 2 else flC S 2 else flC S 1 else flC S 1
theorem lnew_n {S : Nat → Nat → Int32} {nl k : Nat} {d t b r f e : Int32} (h : k < 30) : lnew S nl d t b r f e k = S k :=
  (up_n (by omega)).trans ((up_n (by omega)).trans ((up_n (by omega)).trans ((up_n (by omega)).trans ((up_n (by omega)).trans ((up_n (by omega)).trans ((up_n (by omega)).trans ((up_n (by omega)).trans (up_n (by omega)))))))))
theorem up_o {S : Nat → Nat → Int32} {k i j : Nat} {v : Int32} (h : j ≠ i) (r : Nat) : up S k i v r j = S r j := by
  by_cases c : r = k
  · subst c
    exact up_sn h
  · rw [up_n c]
theorem lnew_o {S : Nat → Nat → Int32} {nl j : Nat} {d t b r f e : Int32} (h : j ≠ nl) (k : Nat) : lnew S nl d t b r f e k j = S k j :=
  (up_o h k).trans ((up_o h k).trans ((up_o h k).trans ((up_o h k).trans ((up_o h k).trans ((up_o h k).trans ((up_o h k).trans ((up_o h k).trans (up_o h k))))))))
theorem lnew_ls {a : Nat → Nat} {S : Nat → Nat → Int32} {nl z : Nat} {d t b r f e : Int32} : wLs (upA a (100 + nl) z) (lnew S nl d t b r f e) nl = (z, .inr (3, [.int d, .int (d / nI 3), .int t, .int b, .int r, .int f, .int e, .int (nI 0), .int (nI 0)])) := by
  unfold wLs lnew
  rw [show upA a (100 + nl) z (100 + nl) = z from if_pos rfl]
  simp [up, upd]
theorem wLs_o {a : Nat → Nat} {S T : Nat → Nat → Int32} {nl z i : Nat} (hi : i ≠ nl) (h : ∀ k, T k i = S k i) : wLs (upA a (100 + nl) z) T i = wLs a S i := by
  unfold wLs
  rw [show upA a (100 + nl) z (100 + i) = a (100 + i) from if_neg (by omega), h, h, h, h, h, h, h, h, h]
theorem wC_lnew {q : Nat → ClassId} {a : Nat → Nat} {S : Nat → Nat → Int32} {cap nl z : Nat} {d t b r f e : Int32} : wC q (upA a (100 + nl) z) (lnew S nl d t b r f e) cap nl = wC q a S cap nl := by
  have ha : ∀ j, j < 100 → upA a (100 + nl) z j = a j := fun j hj => if_neg (by omega)
  have e1 : wCf q (upA a (100 + nl) z) (lnew S nl d t b r f e) nl = wCf q a S nl := by
    unfold wCf
    simp only [ha 0 (by decide), ha 1 (by decide), ha 2 (by decide), ha 3 (by decide), ha 4 (by decide), ha 5 (by decide), ha 6 (by decide), ha 7 (by decide), ha 8 (by decide), ha 9 (by decide), ha 10 (by decide), ha 11 (by decide), ha 12 (by decide), ha 13 (by decide), ha 14 (by decide), ha 15 (by decide), ha 16 (by decide), ha 17 (by decide), ha 18 (by decide), ha 19 (by decide), ha 20 (by decide), ha 21 (by decide), ha 22 (by decide), ha 23 (by decide), ha 24 (by decide), ha 25 (by decide), ha 26 (by decide), lnew_n (show 0 < 30 by decide), lnew_n (show 5 < 30 by decide), lnew_n (show 6 < 30 by decide), lnew_n (show 7 < 30 by decide), lnew_n (show 8 < 30 by decide), lnew_n (show 9 < 30 by decide), lnew_n (show 10 < 30 by decide), lnew_n (show 11 < 30 by decide), lnew_n (show 12 < 30 by decide), lnew_n (show 13 < 30 by decide), lnew_n (show 14 < 30 by decide), lnew_n (show 15 < 30 by decide), lnew_n (show 16 < 30 by decide), lnew_n (show 17 < 30 by decide), lnew_n (show 18 < 30 by decide), lnew_n (show 19 < 30 by decide), lnew_n (show 20 < 30 by decide), lnew_n (show 21 < 30 by decide), lnew_n (show 22 < 30 by decide), lnew_n (show 23 < 30 by decide), lnew_n (show 24 < 30 by decide), lnew_n (show 25 < 30 by decide)]
  have e2 : wEl (upA a (100 + nl) z) nl = wEl a nl := funext fun i => by
    unfold wEl
    by_cases c : i < nl
    · rw [if_pos c, if_pos c, show upA a (100 + nl) z (100 + i) = a (100 + i) from if_neg (by omega)]
    · rw [if_neg c, if_neg c]
  have e3 : (List.range nl).map (wLs (upA a (100 + nl) z) (lnew S nl d t b r f e)) = (List.range nl).map (wLs a S) := List.map_congr_left (fun i hi => wLs_o (by have := List.mem_range.mp hi; omega) (fun k => lnew_o (by have := List.mem_range.mp hi; omega) k))
  unfold wC wCt
  rw [e1, e2, e3, ha 26 (by decide)]
