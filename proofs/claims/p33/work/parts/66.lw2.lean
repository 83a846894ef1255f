/-! what the law's helpers answer and do, as functions of its rows: 0 q, 1 a, 2 p, 3 c, 4 r, 5 y, 6 t, 7 f, 8 l, 9 u -/
/-- the blind spot that was found last -/
def ySp (S : Nat → Nat → Int32) (n : Nat) (x h : Int32) : Int32 := takenF (fun k => S 7 (3 * k)) (fun k => S 7 (3 * k + 1)) (fun k => S 7 (3 * k + 2)) x h n
theorem ySp_t {S : Nat → Nat → Int32} {n : Nat} {x h : Int32} (c : S 7 (3 * n) = x) (d : S 7 (3 * n + 1) ≤ h) : ySp S (n + 1) x h = S 7 (3 * n + 2) := by
  unfold ySp takenF
  rw [if_pos c, if_pos d]
theorem ySp_h {S : Nat → Nat → Int32} {n : Nat} {x h : Int32} (c : S 7 (3 * n) = x) (d : ¬ S 7 (3 * n + 1) ≤ h) : ySp S (n + 1) x h = ySp S n x h := by
  unfold ySp
  show takenF _ _ _ x h (n + 1) = _
  unfold takenF
  rw [if_pos c, if_neg d]
  cases n <;> rfl
theorem ySp_f {S : Nat → Nat → Int32} {n : Nat} {x h : Int32} (c : ¬ S 7 (3 * n) = x) : ySp S (n + 1) x h = ySp S n x h := by
  unfold ySp
  show takenF _ _ _ x h (n + 1) = _
  unfold takenF
  rw [if_neg c]
  cases n <;> rfl
/-- what was found is a blind spot -/
def yT (S : Nat → Nat → Int32) (n : Nat) : Prop := ∀ k, k < n → ∃ v, v ≤ 60 ∧ S 7 (3 * k + 2) = nI v
theorem ySp_nz {S : Nat → Nat → Int32} {n : Nat} {x h : Int32} (k : yT S n) : ¬ nI 100 - ySp S n x h = 0 := taken_nz k
/-- the count by a reading; -1 without one -/
def yRd (S : Nat → Nat → Int32) (n h x : Nat) : Int32 := if S 4 (h * 12 + x) = 0 then -1 else (S 4 (h * 12 + x) - nI 1) * nI 100 / (nI 100 - ySp S n (nI x) (nI h))
/-- also beyond the street -/
def yRx (S : Nat → Nat → Int32) (n h : Nat) (x : Int32) : Int32 := if x < 0 then -1 else if x ≤ nI 11 then yRd S n h x.toNatClampNeg else -1
theorem z_ix {x : Int32} (c : ¬ x < 0) (d : x ≤ nI 11) : x = nI x.toNatClampNeg ∧ x.toNatClampNeg < 12 := by
  obtain ⟨j, hj, rfl⟩ := nI_of c
  rw [nI_clamp hj]
  exact ⟨rfl, by have := (nI_leI hj (by decide)).mp d; omega⟩
def yLf (S : Nat → Nat → Int32) (n h x : Nat) : Nat → Int32
  | 0 => -1
  | m + 1 => if yRx S n h (nI x - nI (11 - m)) < 0 then yLf S n h x m else yRx S n h (nI x - nI (11 - m))
def yRt (S : Nat → Nat → Int32) (n h x : Nat) : Nat → Int32
  | 0 => -1
  | m + 1 => if yRx S n h (nI (x + (11 - m))) < 0 then yRt S n h x m else yRx S n h (nI (x + (11 - m)))
theorem yLf_s (S : Nat → Nat → Int32) (n h x m : Nat) : yLf S n h x (m + 1) = if yRx S n h (nI x - nI (11 - m)) < 0 then yLf S n h x m else yRx S n h (nI x - nI (11 - m)) := rfl
theorem yRt_s (S : Nat → Nat → Int32) (n h x m : Nat) : yRt S n h x (m + 1) = if yRx S n h (nI (x + (11 - m))) < 0 then yRt S n h x m else yRx S n h (nI (x + (11 - m))) := rfl
/-- a count -/
def yCn (S : Nat → Nat → Int32) (n h x : Nat) : Int32 := if yRx S n h (nI x) < 0 then (if yLf S n h x 11 < 0 then (if yRt S n h x 11 < 0 then nI 0 else yRt S n h x 11) else (if yRt S n h x 11 < 0 then yLf S n h x 11 else (yLf S n h x 11 + yRt S n h x 11) / nI 2)) else yRx S n h (nI x)
/-- leases are in order -/
def yO (S : Nat → Nat → Int32) (nl : Nat) : Prop := ∀ k, k < nl → (S 8 (6 * k) = nI (ix S 8 (6 * k)) ∧ ix S 8 (6 * k) < 216) ∧ (S 8 (6 * k + 3) = nI (ix S 8 (6 * k + 3)) ∧ ix S 8 (6 * k + 3) ≤ 20) ∧ (S 8 (6 * k + 4) = nI (ix S 8 (6 * k + 4)) ∧ ix S 8 (6 * k + 4) ≤ 200)
/-- the rent of an hour -/
def yRn (S : Nat → Nat → Int32) (n k h : Nat) : Int32 := if h < ix S 8 (6 * k + 4) then S 8 (6 * k + 1) + S 8 (6 * k + 2) * yCn S n h (ix S 8 (6 * k) % 36 / 3) / nI 100 else nI 0
/-- rents, from the last hour down -/
def yBl (S : Nat → Nat → Int32) (n w k : Nat) : Nat → Int32
  | 0 => nI 0
  | m + 1 => yBl S n w k m + yRn S n k (w - 1 - m)
def yB (S : Nat → Nat → Int32) (n w k : Nat) : Int32 := yBl S n w k (w - ix S 8 (6 * k + 3))
theorem k_prlt {j t : Nat} (hj : j < 2 ^ 31) (ht : t < 2 ^ 31) : nI j - nI 1 < nI t ↔ j ≤ t := by
  cases j with
  | zero => exact ⟨fun _ => Nat.zero_le _, fun _ => Int32.lt_of_lt_of_le (show nI 0 - nI 1 < nI 0 by decide) ((nI_leI (by decide) ht).mpr (Nat.zero_le _))⟩
  | succ i => rw [k_pred, nI_ltI (by omega) ht]; omega
/-- corrections take what is billed on -/
def yBi (S : Nat → Nat → Int32) (n w : Nat) (sg : Int32) : Nat → Int32 × (Nat → Nat → Int32)
  | 0 => (nI 0, S)
  | k + 1 => ((yBi S n w sg k).1 + sg * yB (yBi S n w sg k).2 n w k, up (yBi S n w sg k).2 8 (6 * k + 5) ((yBi S n w sg k).2 8 (6 * k + 5) + sg * yB (yBi S n w sg k).2 n w k))
theorem yBi_n {S : Nat → Nat → Int32} {n w r : Nat} {sg : Int32} (hr : r ≠ 8) : ∀ k, (yBi S n w sg k).2 r = S r
  | 0 => rfl
  | k + 1 => (up_n hr).trans (yBi_n hr k)
theorem yBi_8 {S : Nat → Nat → Int32} {n w i : Nat} {sg : Int32} (hi : i % 6 ≠ 5) : ∀ k, (yBi S n w sg k).2 8 i = S 8 i
  | 0 => rfl
  | k + 1 => (up_sn (by omega)).trans (yBi_8 hi k)
theorem yO_congr {S S' : Nat → Nat → Int32} {nl : Nat} (h : ∀ i, i % 6 ≠ 5 → S' 8 i = S 8 i) (k : yO S nl) : yO S' nl := fun j hj => by
  unfold ix
  rw [h (6 * j) (by omega), h (6 * j + 3) (by omega), h (6 * j + 4) (by omega)]
  exact k j hj
theorem yT_congr {S S' : Nat → Nat → Int32} {n : Nat} (h : S' 7 = S 7) (k : yT S n) : yT S' n := by
  unfold yT at *
  rw [h]
  exact k
/-- who plays: a bit of a set -/
abbrev yb (m : Int32) (k : Nat) : Int32 := m >>> (nI k &&& 31) &&& nI 1
/-- none who asks has played less -/
def yLs (S : Nat → Nat → Int32) (x : Nat) (set : Int32) (b : Nat) : Nat → Int32
  | 0 => nI 1
  | o + 1 => if yLs S x set b o = 0 then nI 0 else if yb (S 9 (18 + o)) x = 0 then nI 1 else if yb set o = nI 1 then nI 1 else if S 9 (6 + o) < S 9 (6 + b) then nI 0 else nI 1
theorem yLs_s (S : Nat → Nat → Int32) (x : Nat) (set : Int32) (b o : Nat) : yLs S x set b (o + 1) = if yLs S x set b o = 0 then nI 0 else if yb (S 9 (18 + o)) x = 0 then nI 1 else if yb set o = nI 1 then nI 1 else if S 9 (6 + o) < S 9 (6 + b) then nI 0 else nI 1 := rfl
abbrev yA (S : Nat → Nat → Int32) (x : Nat) (set : Int32) (b : Nat) : Prop := yb (S 9 (18 + b)) x = nI 1 ∧ yb set b = 0
/-- those who remain: as a set, and how many -/
def yWh (S : Nat → Nat → Int32) (x : Nat) (set : Int32) : Nat → Int32 × Nat
  | 0 => (nI 0, 0)
  | b + 1 => if yA S x set b ∧ ¬ yLs S x set b 6 = 0 then ((yWh S x set b).1 ||| nI 1 <<< (nI b &&& 31), (yWh S x set b).2 + 1) else ((yWh S x set b).1 ||| nI 0, (yWh S x set b).2)
theorem yWh_s (S : Nat → Nat → Int32) (x : Nat) (set : Int32) (b : Nat) : yWh S x set (b + 1) = if yA S x set b ∧ ¬ yLs S x set b 6 = 0 then ((yWh S x set b).1 ||| nI 1 <<< (nI b &&& 31), (yWh S x set b).2 + 1) else ((yWh S x set b).1 ||| nI 0, (yWh S x set b).2) := rfl
theorem yWh_le {S : Nat → Nat → Int32} {x : Nat} {set : Int32} : ∀ b, (yWh S x set b).2 ≤ b
  | 0 => Nat.le_refl 0
  | b + 1 => by
    have k := yWh_le (S := S) (x := x) (set := set) b
    rw [yWh_s]
    split
    · show (yWh S x set b).2 + 1 ≤ b + 1; omega
    · show (yWh S x set b).2 ≤ b + 1; omega
/-- lots are in order: at most 20, small -/
def yK (S : Nat → Nat → Int32) (L : Nat) : Prop := S 0 3 = nI L ∧ L ≤ 20 ∧ ∀ i, i < L → ∃ v, v ≤ 1000 ∧ S 6 (20 + i) = nI v
def ySh (S : Nat → Nat → Int32) : Nat → Nat → Nat → Int32
  | 0 => S
  | j + 1 => up (ySh S j) 6 (20 + j) (ySh S j 6 (20 + j + 1))
theorem ySh_n {S : Nat → Nat → Int32} {k : Nat} (hk : k ≠ 6) : ∀ j, ySh S j k = S k
  | 0 => rfl
  | j + 1 => (up_n hk).trans (ySh_n hk j)
/-- the left-th of a set, from b on, f of them looked at -/
def yPk (who : Int32) : Nat → Nat → Nat → Nat
  | 0, _, _ => 0
  | f + 1, b, lf => if yb who b = nI 1 then (if lf = 0 then b + 1 else yPk who f (b + 1) (lf - 1)) else yPk who f (b + 1) lf
theorem yPk_le {who : Int32} : ∀ f b lf, yPk who f b lf ≤ b + f
  | 0, _, _ => Nat.zero_le _
  | f + 1, b, lf => by
    unfold yPk
    have h1 := yPk_le (who := who) f (b + 1) (lf - 1)
    have h2 := yPk_le (who := who) f (b + 1) lf
    split
    · split <;> omega
    · omega
def yLe (S : Nat → Nat → Int32) (x : Nat) (set : Int32) (L : Nat) : Nat := if (yWh S x set 6).2 ≤ 1 then 0 else if L = 0 then 0 else ix S 6 20 % (yWh S x set 6).2
def yPv (S : Nat → Nat → Int32) (x : Nat) (set : Int32) (L : Nat) : Nat := yPk (yWh S x set 6).1 6 0 (yLe S x set L)
def yPm (S : Nat → Nat → Int32) (x : Nat) (set : Int32) (L : Nat) : Nat → Nat → Int32 := if (yWh S x set 6).2 ≤ 1 then S else if L = 0 then S else ySh (up S 0 3 (nI (L - 1))) (L - 1)
theorem yPv_le {S : Nat → Nat → Int32} {x L : Nat} {set : Int32} : yPv S x set L ≤ 6 := yPk_le 6 0 _
theorem yPm_n {S : Nat → Nat → Int32} {x L k : Nat} {set : Int32} (h0 : k ≠ 0) (h6 : k ≠ 6) : yPm S x set L k = S k := by
  unfold yPm
  split
  · rfl
  · split
    · rfl
    · exact (ySh_n h6 _).trans (up_n h0)
