/-! the worlds: an object of the class and one of the reference; what their cells hold is a memory S: row, place -/
def up (S : Nat → Nat → Int32) (k i : Nat) (v : Int32) : Nat → Nat → Int32 := fun j => if j = k then upd (S k) i v else S j
theorem up_s (S : Nat → Nat → Int32) (k i : Nat) (v : Int32) : up S k i v k = upd (S k) i v := by simp [up]
theorem up_n {S : Nat → Nat → Int32} {k i j : Nat} {v : Int32} (h : j ≠ k) : up S k i v j = S j := by simp [up, h]
theorem up_si (S : Nat → Nat → Int32) (k i : Nat) (v : Int32) : up S k i v k i = v := by rw [up_s]; exact pk_us
theorem up_sn {S : Nat → Nat → Int32} {k i j : Nat} {v : Int32} (h : j ≠ i) : up S k i v k j = S k j := by rw [up_s]; exact pk_un h
def wCf (q : Nat → ClassId) (a : Nat → Nat) (S : Nat → Nat → Int32) (nl : Nat) : va_W := [(a 0, .inr (5, [.ref (a 1), .ref (a 2), .ref (a 3), .ref (a 4), .ref (a 5), .int (S 0 0)])),
  (a 1, .inr (4, [.ref (a 6), .ref (a 7), .ref (a 8), .ref (a 9), .ref (a 10)])),
  (a 2, .inr (2, [.ref (a 11), .ref (a 12), .ref (a 13), .ref (a 14), .ref (a 15), .ref (a 16), .ref (a 17), .int (S 0 1)])),
  (a 3, .inr (1, [.ref (a 18), .ref (a 19), .ref (a 20), .ref (a 21), .ref (a 22), .ref (a 23), .ref (a 24), .ref (a 25), .int (S 0 2)])),
  (a 4, .inr (0, [.int (S 0 3), .ref (a 26), .int (nI nl)])),
  (a 5, .inl (q 0, 6, .inl (S 5))),
  (a 6, .inl (q 0, 12, .inl (S 6))),
  (a 7, .inl (q 0, 12, .inl (S 7))),
  (a 8, .inl (q 0, 2400, .inl (S 8))),
  (a 9, .inl (q 0, 2400, .inl (S 9))),
  (a 10, .inl (q 0, 200, .inl (S 10))),
  (a 11, .inl (q 1, 12, .inl (S 11))),
  (a 12, .inl (q 0, 12, .inl (S 12))),
  (a 13, .inl (q 0, 2400, .inl (S 13))),
  (a 14, .inl (q 0, 2400, .inl (S 14))),
  (a 15, .inl (q 0, 60, .inl (S 15))),
  (a 16, .inl (q 0, 60, .inl (S 16))),
  (a 17, .inl (q 0, 60, .inl (S 17))),
  (a 18, .inl (q 0, 6, .inl (S 18))),
  (a 19, .inl (q 0, 6, .inl (S 19))),
  (a 20, .inl (q 0, 6, .inl (S 20))),
  (a 21, .inl (q 1, 72, .inl (S 21))),
  (a 22, .inl (q 1, 6, .inl (S 22))),
  (a 23, .inl (q 0, 6, .inl (S 23))),
  (a 24, .inl (q 0, 2400, .inl (S 24))),
  (a 25, .inl (q 0, 50, .inl (S 25)))]
/-- a lease: its cells are the rows 30 to 38 at its number -/
def wLs (a : Nat → Nat) (S : Nat → Nat → Int32) (i : Nat) : Nat × va_E := (a (100 + i), .inr (3, [.int (S 30 i), .int (S 31 i), .int (S 32 i), .int (S 33 i), .int (S 34 i), .int (S 35 i), .int (S 36 i), .int (S 37 i), .int (S 38 i)]))
def wEl (a : Nat → Nat) (nl : Nat) : Nat → Option Nat := fun i => if i < nl then some (a (100 + i)) else none
def wCt (q : Nat → ClassId) (a : Nat → Nat) (S : Nat → Nat → Int32) (cap nl : Nat) : va_W := if cap = 0 then [] else (a 26, .inl (q 2, cap, .inr (.inr (.inr (.inr (wEl a nl)))))) :: (List.range nl).map (wLs a S)
def wC (q : Nat → ClassId) (a : Nat → Nat) (S : Nat → Nat → Int32) (cap nl : Nat) : va_W := wCf q a S nl ++ wCt q a S cap nl
theorem wCt_up {q : Nat → ClassId} {a : Nat → Nat} {S : Nat → Nat → Int32} {cap nl : Nat} {k i : Nat} {v : Int32} (h : k < 30) : wCt q a (up S k i v) cap nl = wCt q a S cap nl := by
  have e : wLs a (up S k i v) = wLs a S := by
    funext j
    unfold wLs
    rw [up_n (S := S) (k := k) (i := i) (v := v) (j := 30) (by omega), up_n (S := S) (k := k) (i := i) (v := v) (j := 31) (by omega), up_n (S := S) (k := k) (i := i) (v := v) (j := 32) (by omega), up_n (S := S) (k := k) (i := i) (v := v) (j := 33) (by omega), up_n (S := S) (k := k) (i := i) (v := v) (j := 34) (by omega), up_n (S := S) (k := k) (i := i) (v := v) (j := 35) (by omega), up_n (S := S) (k := k) (i := i) (v := v) (j := 36) (by omega), up_n (S := S) (k := k) (i := i) (v := v) (j := 37) (by omega), up_n (S := S) (k := k) (i := i) (v := v) (j := 38) (by omega)]
  unfold wCt
  rw [e]
theorem wC_s5 {q : Nat → ClassId} {a : Nat → Nat} {S : Nat → Nat → Int32} {cap nl : Nat} {i : Nat} {v : Int32} : (wC q a S cap nl).set 5 (a 5, .inl (q 0, 6, .inl (upd (S 5) i v))) = wC q a (up S 5 i v) cap nl := by
  show wCf q a (up S 5 i v) nl ++ wCt q a S cap nl = _
  rw [← wCt_up (k := 5) (i := i) (v := v) (by omega)]
  rfl
theorem wC_s6 {q : Nat → ClassId} {a : Nat → Nat} {S : Nat → Nat → Int32} {cap nl : Nat} {i : Nat} {v : Int32} : (wC q a S cap nl).set 6 (a 6, .inl (q 0, 12, .inl (upd (S 6) i v))) = wC q a (up S 6 i v) cap nl := by
  show wCf q a (up S 6 i v) nl ++ wCt q a S cap nl = _
  rw [← wCt_up (k := 6) (i := i) (v := v) (by omega)]
  rfl
theorem wC_s7 {q : Nat → ClassId} {a : Nat → Nat} {S : Nat → Nat → Int32} {cap nl : Nat} {i : Nat} {v : Int32} : (wC q a S cap nl).set 7 (a 7, .inl (q 0, 12, .inl (upd (S 7) i v))) = wC q a (up S 7 i v) cap nl := by
  show wCf q a (up S 7 i v) nl ++ wCt q a S cap nl = _
  rw [← wCt_up (k := 7) (i := i) (v := v) (by omega)]
  rfl
theorem wC_s8 {q : Nat → ClassId} {a : Nat → Nat} {S : Nat → Nat → Int32} {cap nl : Nat} {i : Nat} {v : Int32} : (wC q a S cap nl).set 8 (a 8, .inl (q 0, 2400, .inl (upd (S 8) i v))) = wC q a (up S 8 i v) cap nl := by
  show wCf q a (up S 8 i v) nl ++ wCt q a S cap nl = _
  rw [← wCt_up (k := 8) (i := i) (v := v) (by omega)]
  rfl
theorem wC_s9 {q : Nat → ClassId} {a : Nat → Nat} {S : Nat → Nat → Int32} {cap nl : Nat} {i : Nat} {v : Int32} : (wC q a S cap nl).set 9 (a 9, .inl (q 0, 2400, .inl (upd (S 9) i v))) = wC q a (up S 9 i v) cap nl := by
  show wCf q a (up S 9 i v) nl ++ wCt q a S cap nl = _
  rw [← wCt_up (k := 9) (i := i) (v := v) (by omega)]
  rfl
theorem wC_s10 {q : Nat → ClassId} {a : Nat → Nat} {S : Nat → Nat → Int32} {cap nl : Nat} {i : Nat} {v : Int32} : (wC q a S cap nl).set 10 (a 10, .inl (q 0, 200, .inl (upd (S 10) i v))) = wC q a (up S 10 i v) cap nl := by
  show wCf q a (up S 10 i v) nl ++ wCt q a S cap nl = _
  rw [← wCt_up (k := 10) (i := i) (v := v) (by omega)]
  rfl
theorem wC_s11 {q : Nat → ClassId} {a : Nat → Nat} {S : Nat → Nat → Int32} {cap nl : Nat} {i : Nat} {v : Int32} : (wC q a S cap nl).set 11 (a 11, .inl (q 1, 12, .inl (upd (S 11) i v))) = wC q a (up S 11 i v) cap nl := by
  show wCf q a (up S 11 i v) nl ++ wCt q a S cap nl = _
  rw [← wCt_up (k := 11) (i := i) (v := v) (by omega)]
  rfl
theorem wC_s12 {q : Nat → ClassId} {a : Nat → Nat} {S : Nat → Nat → Int32} {cap nl : Nat} {i : Nat} {v : Int32} : (wC q a S cap nl).set 12 (a 12, .inl (q 0, 12, .inl (upd (S 12) i v))) = wC q a (up S 12 i v) cap nl := by
  show wCf q a (up S 12 i v) nl ++ wCt q a S cap nl = _
  rw [← wCt_up (k := 12) (i := i) (v := v) (by omega)]
  rfl
theorem wC_s13 {q : Nat → ClassId} {a : Nat → Nat} {S : Nat → Nat → Int32} {cap nl : Nat} {i : Nat} {v : Int32} : (wC q a S cap nl).set 13 (a 13, .inl (q 0, 2400, .inl (upd (S 13) i v))) = wC q a (up S 13 i v) cap nl := by
  show wCf q a (up S 13 i v) nl ++ wCt q a S cap nl = _
  rw [← wCt_up (k := 13) (i := i) (v := v) (by omega)]
  rfl
theorem wC_s14 {q : Nat → ClassId} {a : Nat → Nat} {S : Nat → Nat → Int32} {cap nl : Nat} {i : Nat} {v : Int32} : (wC q a S cap nl).set 14 (a 14, .inl (q 0, 2400, .inl (upd (S 14) i v))) = wC q a (up S 14 i v) cap nl := by
  show wCf q a (up S 14 i v) nl ++ wCt q a S cap nl = _
  rw [← wCt_up (k := 14) (i := i) (v := v) (by omega)]
  rfl
theorem wC_s15 {q : Nat → ClassId} {a : Nat → Nat} {S : Nat → Nat → Int32} {cap nl : Nat} {i : Nat} {v : Int32} : (wC q a S cap nl).set 15 (a 15, .inl (q 0, 60, .inl (upd (S 15) i v))) = wC q a (up S 15 i v) cap nl := by
  show wCf q a (up S 15 i v) nl ++ wCt q a S cap nl = _
  rw [← wCt_up (k := 15) (i := i) (v := v) (by omega)]
  rfl
theorem wC_s16 {q : Nat → ClassId} {a : Nat → Nat} {S : Nat → Nat → Int32} {cap nl : Nat} {i : Nat} {v : Int32} : (wC q a S cap nl).set 16 (a 16, .inl (q 0, 60, .inl (upd (S 16) i v))) = wC q a (up S 16 i v) cap nl := by
  show wCf q a (up S 16 i v) nl ++ wCt q a S cap nl = _
  rw [← wCt_up (k := 16) (i := i) (v := v) (by omega)]
  rfl
theorem wC_s17 {q : Nat → ClassId} {a : Nat → Nat} {S : Nat → Nat → Int32} {cap nl : Nat} {i : Nat} {v : Int32} : (wC q a S cap nl).set 17 (a 17, .inl (q 0, 60, .inl (upd (S 17) i v))) = wC q a (up S 17 i v) cap nl := by
  show wCf q a (up S 17 i v) nl ++ wCt q a S cap nl = _
  rw [← wCt_up (k := 17) (i := i) (v := v) (by omega)]
  rfl
theorem wC_s18 {q : Nat → ClassId} {a : Nat → Nat} {S : Nat → Nat → Int32} {cap nl : Nat} {i : Nat} {v : Int32} : (wC q a S cap nl).set 18 (a 18, .inl (q 0, 6, .inl (upd (S 18) i v))) = wC q a (up S 18 i v) cap nl := by
  show wCf q a (up S 18 i v) nl ++ wCt q a S cap nl = _
  rw [← wCt_up (k := 18) (i := i) (v := v) (by omega)]
  rfl
theorem wC_s19 {q : Nat → ClassId} {a : Nat → Nat} {S : Nat → Nat → Int32} {cap nl : Nat} {i : Nat} {v : Int32} : (wC q a S cap nl).set 19 (a 19, .inl (q 0, 6, .inl (upd (S 19) i v))) = wC q a (up S 19 i v) cap nl := by
  show wCf q a (up S 19 i v) nl ++ wCt q a S cap nl = _
  rw [← wCt_up (k := 19) (i := i) (v := v) (by omega)]
  rfl
theorem wC_s20 {q : Nat → ClassId} {a : Nat → Nat} {S : Nat → Nat → Int32} {cap nl : Nat} {i : Nat} {v : Int32} : (wC q a S cap nl).set 20 (a 20, .inl (q 0, 6, .inl (upd (S 20) i v))) = wC q a (up S 20 i v) cap nl := by
  show wCf q a (up S 20 i v) nl ++ wCt q a S cap nl = _
  rw [← wCt_up (k := 20) (i := i) (v := v) (by omega)]
  rfl
theorem wC_s21 {q : Nat → ClassId} {a : Nat → Nat} {S : Nat → Nat → Int32} {cap nl : Nat} {i : Nat} {v : Int32} : (wC q a S cap nl).set 21 (a 21, .inl (q 1, 72, .inl (upd (S 21) i v))) = wC q a (up S 21 i v) cap nl := by
  show wCf q a (up S 21 i v) nl ++ wCt q a S cap nl = _
  rw [← wCt_up (k := 21) (i := i) (v := v) (by omega)]
  rfl
theorem wC_s22 {q : Nat → ClassId} {a : Nat → Nat} {S : Nat → Nat → Int32} {cap nl : Nat} {i : Nat} {v : Int32} : (wC q a S cap nl).set 22 (a 22, .inl (q 1, 6, .inl (upd (S 22) i v))) = wC q a (up S 22 i v) cap nl := by
  show wCf q a (up S 22 i v) nl ++ wCt q a S cap nl = _
  rw [← wCt_up (k := 22) (i := i) (v := v) (by omega)]
  rfl
theorem wC_s23 {q : Nat → ClassId} {a : Nat → Nat} {S : Nat → Nat → Int32} {cap nl : Nat} {i : Nat} {v : Int32} : (wC q a S cap nl).set 23 (a 23, .inl (q 0, 6, .inl (upd (S 23) i v))) = wC q a (up S 23 i v) cap nl := by
  show wCf q a (up S 23 i v) nl ++ wCt q a S cap nl = _
  rw [← wCt_up (k := 23) (i := i) (v := v) (by omega)]
  rfl
theorem wC_s24 {q : Nat → ClassId} {a : Nat → Nat} {S : Nat → Nat → Int32} {cap nl : Nat} {i : Nat} {v : Int32} : (wC q a S cap nl).set 24 (a 24, .inl (q 0, 2400, .inl (upd (S 24) i v))) = wC q a (up S 24 i v) cap nl := by
  show wCf q a (up S 24 i v) nl ++ wCt q a S cap nl = _
  rw [← wCt_up (k := 24) (i := i) (v := v) (by omega)]
  rfl
theorem wC_s25 {q : Nat → ClassId} {a : Nat → Nat} {S : Nat → Nat → Int32} {cap nl : Nat} {i : Nat} {v : Int32} : (wC q a S cap nl).set 25 (a 25, .inl (q 0, 50, .inl (upd (S 25) i v))) = wC q a (up S 25 i v) cap nl := by
  show wCf q a (up S 25 i v) nl ++ wCt q a S cap nl = _
  rw [← wCt_up (k := 25) (i := i) (v := v) (by omega)]
  rfl
theorem wC_f0_5 {q : Nat → ClassId} {a : Nat → Nat} {S : Nat → Nat → Int32} {cap nl : Nat} {v : Int32} : (wC q a S cap nl).set 0 (a 0, .inr (5, [.ref (a 1), .ref (a 2), .ref (a 3), .ref (a 4), .ref (a 5), .int (S 0 0)].set 5 (.int v))) = wC q a (up S 0 0 v) cap nl := by
  show wCf q a (up S 0 0 v) nl ++ wCt q a S cap nl = _
  rw [← wCt_up (k := 0) (i := 0) (v := v) (by omega)]
  rfl
theorem wC_f2_7 {q : Nat → ClassId} {a : Nat → Nat} {S : Nat → Nat → Int32} {cap nl : Nat} {v : Int32} : (wC q a S cap nl).set 2 (a 2, .inr (2, [.ref (a 11), .ref (a 12), .ref (a 13), .ref (a 14), .ref (a 15), .ref (a 16), .ref (a 17), .int (S 0 1)].set 7 (.int v))) = wC q a (up S 0 1 v) cap nl := by
  show wCf q a (up S 0 1 v) nl ++ wCt q a S cap nl = _
  rw [← wCt_up (k := 0) (i := 1) (v := v) (by omega)]
  rfl
theorem wC_f3_8 {q : Nat → ClassId} {a : Nat → Nat} {S : Nat → Nat → Int32} {cap nl : Nat} {v : Int32} : (wC q a S cap nl).set 3 (a 3, .inr (1, [.ref (a 18), .ref (a 19), .ref (a 20), .ref (a 21), .ref (a 22), .ref (a 23), .ref (a 24), .ref (a 25), .int (S 0 2)].set 8 (.int v))) = wC q a (up S 0 2 v) cap nl := by
  show wCf q a (up S 0 2 v) nl ++ wCt q a S cap nl = _
  rw [← wCt_up (k := 0) (i := 2) (v := v) (by omega)]
  rfl
theorem wC_f4_0 {q : Nat → ClassId} {a : Nat → Nat} {S : Nat → Nat → Int32} {cap nl : Nat} {v : Int32} : (wC q a S cap nl).set 4 (a 4, .inr (0, [.int (S 0 3), .ref (a 26), .int (nI nl)].set 0 (.int v))) = wC q a (up S 0 3 v) cap nl := by
  show wCf q a (up S 0 3 v) nl ++ wCt q a S cap nl = _
  rw [← wCt_up (k := 0) (i := 3) (v := v) (by omega)]
  rfl
