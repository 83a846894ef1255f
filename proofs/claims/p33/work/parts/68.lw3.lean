/-! an hour of the law -/
theorem k_dec1 {f : Nat} (h : ¬ f = 0) : nI f + Int32.ofInt (-1) = nI (f - 1) := by
  rw [show f = (f - 1) + 1 from by omega]
  exact pk_m1 _
theorem yPk_r {who : Int32} {b lf : Nat} (hb : b < 6) (h : yb who b = nI 1) (h0 : lf = 0) : yPk who (6 - b) b lf = b + 1 := by
  rw [show 6 - b = (6 - (b + 1)) + 1 from by omega]
  unfold yPk
  rw [if_pos h, if_pos h0]
theorem yPk_d {who : Int32} {b lf : Nat} (hb : b < 6) (h : yb who b = nI 1) (h0 : ¬ lf = 0) : yPk who (6 - b) b lf = yPk who (6 - (b + 1)) (b + 1) (lf - 1) := by
  rw [show 6 - b = (6 - (b + 1)) + 1 from by omega]
  show (if yb who b = nI 1 then (if lf = 0 then b + 1 else yPk who (6 - (b + 1)) (b + 1) (lf - 1)) else yPk who (6 - (b + 1)) (b + 1) lf) = _
  rw [if_pos h, if_neg h0]
theorem yPk_f {who : Int32} {b lf : Nat} (hb : b < 6) (h : ¬ yb who b = nI 1) : yPk who (6 - b) b lf = yPk who (6 - (b + 1)) (b + 1) lf := by
  rw [show 6 - b = (6 - (b + 1)) + 1 from by omega]
  show (if yb who b = nI 1 then (if lf = 0 then b + 1 else yPk who (6 - (b + 1)) (b + 1) (lf - 1)) else yPk who (6 - (b + 1)) (b + 1) lf) = _
  rw [if_neg h]
abbrev yQ : Type := Int32 × Int32 × Int32 × (Nat → Nat → Int32)
def yLN (S : Nat → Nat → Int32) : Nat := (S 0 3).toNatClampNeg
def yHb (x : Nat) (t : yQ) : Nat := yPv t.2.2.2 x t.1 (yLN t.2.2.2)
def yHM (h x : Nat) (t : yQ) : Nat → Nat → Int32 := up (yPm t.2.2.2 x t.1 (yLN t.2.2.2)) 5 (h * 12 + x) (nI (yHb x t))
/-- who stops -/
def yHc (go : Int32) (b : Nat) (M : Nat → Nat → Int32) : Int32 := if b = 0 then nI 0 else go * M 9 (b - 1) / nI 100
def yHu (go : Int32) (b : Nat) (M : Nat → Nat → Int32) : Nat → Nat → Int32 := if b = 0 then M else up (up M 9 (5 + b) (M 9 (5 + b) + nI 1)) 9 (11 + b) (up M 9 (5 + b) (M 9 (5 + b) + nI 1) 9 (11 + b) + yHc go b M / nI 10)
/-- a reading, and 1 -/
def yRe (st sp : Int32) : Int32 := if sp < nI 100 then nI 1 + st - st * sp / nI 100 else nI 0
def yPut (h x : Nat) (M : Nat → Nat → Int32) (st c sp : Int32) : Nat → Nat → Int32 := up (up (up M 2 (h * 12 + x) st) 3 (h * 12 + x) c) 4 (h * 12 + x) (yRe st sp)
def yH1 (h x : Nat) (t : yQ) (b : Nat) (M : Nat → Nat → Int32) : yQ :=
  (t.1 ||| (if b = 0 then nI 0 else nI 1 <<< (nI (b - 1) &&& 31)),
   t.2.1 + M 1 x - yHc (t.2.1 + M 1 x) b M - (t.2.1 + M 1 x - yHc (t.2.1 + M 1 x) b M) * M 1 (12 + x) / nI 100,
   t.2.2.1 + (t.2.1 + M 1 x + yHc (t.2.1 + M 1 x) b M),
   yPut h x (yHu (t.2.1 + M 1 x) b M) (t.2.1 + M 1 x + yHc (t.2.1 + M 1 x) b M) (yHc (t.2.1 + M 1 x) b M) (M 1 (24 + x)))
def yHs (h x : Nat) (t : yQ) : yQ := yH1 h x t (yHb x t) (yHM h x t)
def yHf (S : Nat → Nat → Int32) (h : Nat) : Nat → yQ
  | 0 => (nI 0, nI 0, nI 0, S)
  | x + 1 => yHs h x (yHf S h x)
theorem yHf_s (S : Nat → Nat → Int32) (h x : Nat) : yHf S h (x + 1) = yHs h x (yHf S h x) := rfl
def yAs (M : Nat → Nat → Int32) : Nat → Nat → Nat → Int32
  | 0 => M
  | b + 1 => up (yAs M b) 9 (18 + b) (nI 0)
theorem yAs_n {M : Nat → Nat → Int32} {k : Nat} (hk : k ≠ 9) : ∀ b, yAs M b k = M k
  | 0 => rfl
  | b + 1 => (up_n hk).trans (yAs_n hk b)
def yHM2 (S : Nat → Nat → Int32) (h : Nat) : Nat → Nat → Int32 := up (up (yAs (yHf S h 12).2.2.2 6) 6 h (yHf S h 12).2.1) 0 0 (nI (h + 1))
/-- what the walk asks of a section: small numbers, places still empty -/
def yHk1 (h x : Nat) (t : yQ) : Prop := bd (t.2.2.2 5) 7 ∧ (∀ j, x ≤ j → j < 12 → t.2.2.2 5 (h * 12 + j) = nI 0) ∧ yK t.2.2.2 (yLN t.2.2.2) ∧ t.2.2.2 2 (h * 12 + x) = nI 0 ∧ t.2.2.2 3 (h * 12 + x) = nI 0 ∧ t.2.2.2 4 (h * 12 + x) = nI 0
def yHk2 (x : Nat) (t : yQ) (b : Nat) (M : Nat → Nat → Int32) : Prop := (∃ z, z ≤ 32767 ∧ t.2.1 + M 1 x + yHc (t.2.1 + M 1 x) b M = nI z) ∧ (∃ z, z ≤ 32767 ∧ yHc (t.2.1 + M 1 x) b M = nI z) ∧ (∃ z, z ≤ 32767 ∧ yRe (t.2.1 + M 1 x + yHc (t.2.1 + M 1 x) b M) (M 1 (24 + x)) = nI z)
def yHk (h x : Nat) (t : yQ) : Prop := yHk1 h x t ∧ yHk2 x t (yHb x t) (yHM h x t)
theorem yK_20 {S : Nat → Nat → Int32} {L : Nat} (h : yK S L) (hL : ¬ L = 0) : S 6 20 = nI (ix S 6 20) ∧ ix S 6 20 ≤ 1000 := by
  obtain ⟨v, h1, h2⟩ := h.2.2 0 (by omega)
  have h3 : S 6 20 = nI v := h2
  unfold ix
  rw [h3, nI_clamp (by omega)]
  exact ⟨rfl, h1⟩
