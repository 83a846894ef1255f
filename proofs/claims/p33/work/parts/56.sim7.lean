/-! asks: a bit of a number -/
theorem q_sm : ∀ x : Nat, x < 32 → ((nI x &&& 31).toBitVec.smod 32).toNat = x := by decide +kernel
theorem q_1s (j : Nat) : (1#32).getLsbD (j + 1) = false := by simp
theorem q_0s (j : Nat) : (0#32).getLsbD j = false := by simp
theorem q_bit (a : Int32) {x : Nat} (hx : x < 32) : a >>> (nI x &&& 31) &&& nI 1 = if a.toBitVec.getLsbD x = true then nI 1 else nI 0 := by
  have h1 : (nI 1).toBitVec = 1#32 := rfl
  have h0 : (nI 0).toBitVec = 0#32 := rfl
  refine Int32.toBitVec_inj.mp (BitVec.eq_of_getLsbD_eq (fun i hi => ?_))
  rw [Int32.toBitVec_and, Int32.toBitVec_shiftRight, BitVec.sshiftRight', q_sm x hx, BitVec.getLsbD_and, BitVec.getLsbD_sshiftRight, h1]
  cases i with
  | zero =>
    rw [if_pos (show x + 0 < 32 by omega), Nat.add_zero]
    by_cases c : a.toBitVec.getLsbD x = true
    · rw [if_pos c, c]; rfl
    · rw [if_neg c, Bool.eq_false_iff.mpr c]; rfl
  | succ j =>
    rw [q_1s, Bool.and_false]
    by_cases c : a.toBitVec.getLsbD x = true
    · rw [if_pos c, h1, q_1s]
    · rw [if_neg c, h0, q_0s]
theorem q_tp : ∀ s : Nat, s < 32 → (nI 1 <<< (nI s &&& 31)).toBitVec = BitVec.twoPow 32 s := by decide +kernel
theorem q_tb : ∀ s : Nat, s < 32 → ∀ x : Nat, x < 32 → (BitVec.twoPow 32 s).getLsbD x = decide (x = s) := by decide +kernel
theorem q_or (a : Int32) {x s : Nat} (hx : x < 32) (hs : s < 32) : (a ||| nI 1 <<< (nI s &&& 31)).toBitVec.getLsbD x = (a.toBitVec.getLsbD x || decide (x = s)) := by
  rw [Int32.toBitVec_or, q_tp s hs, BitVec.getLsbD_or, q_tb s hs x hx]
theorem q_set (a : Int32) {x s : Nat} (hx : x < 32) (hs : s < 32) : (a ||| nI 1 <<< (nI s &&& 31)) >>> (nI x &&& 31) &&& nI 1 = if x = s then nI 1 else a >>> (nI x &&& 31) &&& nI 1 := by
  rw [q_bit _ hx, q_bit _ hx, q_or a hx hs]
  by_cases c : x = s
  · rw [if_pos c, decide_eq_true c, Bool.or_true, if_pos rfl]
  · rw [if_neg c, decide_eq_false c, Bool.or_false]
