/-! what the buskers and the street do, as functions of the memory -/
/-- a whole row is set -/
def rw1 (S : Nat → Nat → Int32) (k : Nat) (f : Nat → Int32) : Nat → Nat → Int32 := fun j => if j = k then f else S j
theorem rw1_s (S : Nat → Nat → Int32) (k : Nat) (f : Nat → Int32) : rw1 S k f k = f := by simp [rw1]
theorem rw1_n {S : Nat → Nat → Int32} {k j : Nat} {f : Nat → Int32} (h : j ≠ k) : rw1 S k f j = S j := by simp [rw1, h]
/-- for how many of the first n sections a busker asks -/
def akF (S : Nat → Nat → Int32) (b : Nat) : Nat → Int32
  | 0 => nI 0
  | i + 1 => akF S b i + (if S 21 (b * 12 + i) = 0 then nI 0 else nI 1)
/-- a busker asks for a section, and does not play yet -/
abbrev wantP (S : Nat → Nat → Int32) (b x : Nat) : Prop := ¬ S 21 (b * 12 + x) = 0 ∧ S 22 b = 0
/-- the fewest hours played, of the first n buskers who want it -/
def fhF (S : Nat → Nat → Int32) (x : Nat) : Nat → Int32
  | 0 => nI 200
  | b + 1 => if wantP S b x then (if S 19 b < fhF S x b then S 19 b else fhF S x b) else fhF S x b
/-- those with the fewest: how many, and the memory with them -/
def tdF (S : Nat → Nat → Int32) (x : Nat) (fw : Int32) : Nat → Nat × (Nat → Nat → Int32)
  | 0 => (0, S)
  | b + 1 => if wantP (tdF S x fw b).2 b x then (if (tdF S x fw b).2 19 b = fw then ((tdF S x fw b).1 + 1, up (tdF S x fw b).2 23 (tdF S x fw b).1 (nI b)) else tdF S x fw b) else tdF S x fw b
theorem tdF_le {S : Nat → Nat → Int32} {x : Nat} {fw : Int32} : ∀ b, (tdF S x fw b).1 ≤ b
  | 0 => Nat.le_refl 0
  | b + 1 => by
    have k := tdF_le (S := S) (x := x) (fw := fw) b
    unfold tdF
    by_cases c : wantP (tdF S x fw b).2 b x
    · rw [if_pos c]
      by_cases d : (tdF S x fw b).2 19 b = fw
      · rw [if_pos d]; show (tdF S x fw b).1 + 1 ≤ b + 1; omega
      · rw [if_neg d]; omega
    · rw [if_neg c]; omega
theorem tdF_n {S : Nat → Nat → Int32} {x k : Nat} {fw : Int32} (hk : k ≠ 23) : ∀ b, (tdF S x fw b).2 k = S k
  | 0 => rfl
  | b + 1 => by
    have h := tdF_n (S := S) (x := x) (fw := fw) hk b
    unfold tdF
    by_cases c : wantP (tdF S x fw b).2 b x
    · rw [if_pos c]
      by_cases d : (tdF S x fw b).2 19 b = fw
      · rw [if_pos d]; exact (up_n hk).trans h
      · rw [if_neg d]; exact h
    · rw [if_neg c]; exact h
/-- a lot is used up -/
def ltV (S : Nat → Nat → Int32) (L : Nat) : Int32 := if L = 0 then nI 0 else S 25 0
def ltM (S : Nat → Nat → Int32) (L : Nat) : Nat → Nat → Int32 := if L = 0 then S else rw1 (up S 0 2 (nI (L - 1))) 25 (va_cpy (S 25) (S 25) 1 0 (L - 1))
/-- how many lots are left -/
abbrev ltN (S : Nat → Nat → Int32) : Nat := (S 0 2).toNatClampNeg
/-- lots are in order -/
def okL (S : Nat → Nat → Int32) : Prop := S 0 2 = nI (ltN S) ∧ ltN S ≤ 50 ∧ ∀ i, i < ltN S → ∃ v, v ≤ 1000 ∧ S 25 i = nI v
/-- who plays, of those who remain: t is how many, with the memory -/
def chV (t : Nat × (Nat → Nat → Int32)) : Int32 := if t.1 = 0 then -1 else if t.1 = 1 then t.2 23 0 else ltM t.2 (ltN t.2) 23 ((ltV t.2 (ltN t.2)).toNatClampNeg % t.1)
def chM (t : Nat × (Nat → Nat → Int32)) : Nat → Nat → Int32 := if t.1 = 0 then t.2 else if t.1 = 1 then t.2 else ltM t.2 (ltN t.2)
def chT (S : Nat → Nat → Int32) (x : Nat) : Nat × (Nat → Nat → Int32) := tdF S x (fhF S x 6) 6
/-- one section gets its busker -/
def tpS (S : Nat → Nat → Int32) (h x : Nat) : Nat → Nat → Int32 :=
  if chV (chT S x) < 0 then up (chM (chT S x)) 24 (h * 12 + x) (chV (chT S x))
  else if chV (chT S x) < nI 6 then up (up (up (chM (chT S x)) 24 (h * 12 + x) (chV (chT S x))) 22 (chV (chT S x)).toNatClampNeg (nI 1)) 19 (chV (chT S x)).toNatClampNeg (chM (chT S x) 19 (chV (chT S x)).toNatClampNeg + nI 1)
  else up (chM (chT S x)) 24 (h * 12 + x) (chV (chT S x))
def tpF (S : Nat → Nat → Int32) (h : Nat) : Nat → Nat → Nat → Int32
  | 0 => S
  | x + 1 => tpS (tpF S h x) h x
/-- all asking is over -/
def eaI (S : Nat → Nat → Int32) (b : Nat) : Nat → Nat → Nat → Int32
  | 0 => S
  | x + 1 => up (eaI S b x) 21 (b * 12 + x) (nI 0)
def eaF (S : Nat → Nat → Int32) : Nat → Nat → Nat → Int32
  | 0 => S
  | b + 1 => eaI (up (eaF S b) 22 b (nI 0)) b 12
/-- a busker plays to those who pass -/
def ptV (S : Nat → Nat → Int32) (ps b : Int32) : Int32 := if b < 0 then nI 0 else if b < nI 6 then ps * S 18 b.toNatClampNeg / nI 100 else nI 0
def ptM (S : Nat → Nat → Int32) (ps b : Int32) : Nat → Nat → Int32 := if b < 0 then S else if b < nI 6 then up S 20 b.toNatClampNeg (S 20 b.toNatClampNeg + ps * S 18 b.toNatClampNeg / nI 100 / nI 10) else S
/-- people walk through a section: the sum, who arrives, the memory -/
def wkS (t : Int32 × Int32 × (Nat → Nat → Int32)) (h x : Nat) : Int32 × Int32 × (Nat → Nat → Int32) :=
  let ps := t.2.1 + t.2.2 6 x
  let cr := ptV t.2.2 ps (t.2.2 24 (h * 12 + x))
  let M := ptM t.2.2 ps (t.2.2 24 (h * 12 + x))
  let M2 := up (up M 9 (h * 12 + x) cr) 8 (h * 12 + x) (ps + cr)
  (t.1 + (ps + cr), ps - cr - (ps - cr) * M2 7 x / nI 100, M2)
def wkF (S : Nat → Nat → Int32) (h : Nat) : Nat → Int32 × Int32 × (Nat → Nat → Int32)
  | 0 => (nI 0, nI 0, S)
  | x + 1 => wkS (wkF S h x) h x
def walkM (S : Nat → Nat → Int32) (h : Nat) : Nat → Nat → Int32 := up (wkF S h 12).2.2 10 h (wkF S h 12).2.1
theorem tdF_s (S : Nat → Nat → Int32) (x : Nat) (fw : Int32) (b : Nat) : tdF S x fw (b + 1) = if wantP (tdF S x fw b).2 b x then (if (tdF S x fw b).2 19 b = fw then ((tdF S x fw b).1 + 1, up (tdF S x fw b).2 23 (tdF S x fw b).1 (nI b)) else tdF S x fw b) else tdF S x fw b := rfl
theorem okL_congr {S T : Nat → Nat → Int32} (h0 : T 0 = S 0) (h25 : T 25 = S 25) (h : okL S) : okL T := by
  unfold okL ltN at *
  rw [h0, h25]
  exact h
theorem okL_td {S : Nat → Nat → Int32} {x b : Nat} {fw : Int32} (h : okL S) : okL (tdF S x fw b).2 := okL_congr (tdF_n (by decide) b) (tdF_n (by decide) b) h
theorem okL_lt {S : Nat → Nat → Int32} (h : okL S) : ∃ v, v ≤ 1000 ∧ ltV S (ltN S) = nI v := by
  unfold ltV
  by_cases c : ltN S = 0
  · exact ⟨0, by omega, by rw [if_pos c]⟩
  · obtain ⟨v, h1, h2⟩ := h.2.2 0 (by omega)
    exact ⟨v, h1, by rw [if_neg c]; exact h2⟩
theorem okL_ltM {S : Nat → Nat → Int32} (h : okL S) : okL (ltM S (ltN S)) := by
  unfold ltM
  by_cases c : ltN S = 0
  · rw [if_pos c]; exact h
  · rw [if_neg c]
    have e0 : rw1 (up S 0 2 (nI (ltN S - 1))) 25 (va_cpy (S 25) (S 25) 1 0 (ltN S - 1)) 0 2 = nI (ltN S - 1) := by rw [rw1_n (by decide)]; exact up_si _ _ _ _
    have e25 : rw1 (up S 0 2 (nI (ltN S - 1))) 25 (va_cpy (S 25) (S 25) 1 0 (ltN S - 1)) 25 = va_cpy (S 25) (S 25) 1 0 (ltN S - 1) := rw1_s _ _ _
    have hl : ltN (rw1 (up S 0 2 (nI (ltN S - 1))) 25 (va_cpy (S 25) (S 25) 1 0 (ltN S - 1))) = ltN S - 1 := by
      show (rw1 (up S 0 2 (nI (ltN S - 1))) 25 (va_cpy (S 25) (S 25) 1 0 (ltN S - 1)) 0 2).toNatClampNeg = ltN S - 1
      rw [e0]
      exact nI_clamp (by have := h.2.1; omega)
    refine ⟨by rw [hl]; exact e0, by rw [hl]; have := h.2.1; omega, fun i hi => ?_⟩
    rw [hl] at hi
    rw [e25, pk_cpy_in (by omega) (by omega)]
    exact h.2.2 (1 + (i - 0)) (by omega)
theorem okL_ch {S : Nat → Nat → Int32} {x : Nat} (h : okL S) : okL (chM (chT S x)) := by
  unfold chM
  by_cases c : (chT S x).1 = 0
  · rw [if_pos c]; exact okL_td h
  · rw [if_neg c]
    by_cases d : (chT S x).1 = 1
    · rw [if_pos d]; exact okL_td h
    · rw [if_neg d]; exact okL_ltM (okL_td h)
theorem okL_tp {S : Nat → Nat → Int32} {h x : Nat} (hk : okL S) : okL (tpS S h x) := by
  unfold tpS
  have k := okL_ch (x := x) hk
  by_cases c : chV (chT S x) < 0
  · rw [if_pos c]; exact okL_congr (up_n (by decide)) (up_n (by decide)) k
  · rw [if_neg c]
    by_cases d : chV (chT S x) < nI 6
    · rw [if_pos d]; exact okL_congr ((up_n (by decide)).trans ((up_n (by decide)).trans (up_n (by decide)))) ((up_n (by decide)).trans ((up_n (by decide)).trans (up_n (by decide)))) k
    · rw [if_neg d]; exact okL_congr (up_n (by decide)) (up_n (by decide)) k
theorem tpF_s (S : Nat → Nat → Int32) (h x : Nat) : tpF S h (x + 1) = tpS (tpF S h x) h x := rfl
theorem okL_tpF {S : Nat → Nat → Int32} {h : Nat} (hk : okL S) : ∀ x, okL (tpF S h x)
  | 0 => hk
  | x + 1 => okL_tp (okL_tpF hk x)
theorem wkF_s (S : Nat → Nat → Int32) (h x : Nat) : wkF S h (x + 1) = wkS (wkF S h x) h x := rfl
