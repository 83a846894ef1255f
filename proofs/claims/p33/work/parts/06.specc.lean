/-! what the class does with its leases, as functions of the memory -/
/-- an hour is one of a lease's -/
abbrev covP (S : Nat → Nat → Int32) (i : Nat) (h : Int32) : Prop := ¬ h < S 35 i ∧ h < S 36 i
/-- the rent for a count -/
def rentF (S : Nat → Nat → Int32) (i : Nat) (c : Int32) : Int32 := S 33 i + S 34 i * c / nI 100
abbrev secN (S : Nat → Nat → Int32) (i : Nat) : Nat := (S 31 i).toNatClampNeg
/-- the leases' sections are sections -/
def okS (S : Nat → Nat → Int32) (nl : Nat) : Prop := ∀ i, i < nl → S 31 i = nI (secN S i) ∧ secN S i < 12
theorem okS_congr {S T : Nat → Nat → Int32} {nl : Nat} (h : T 31 = S 31) (k : okS S nl) : okS T nl := by
  unfold okS secN at *
  rw [h]
  exact k
/-- leases are billed -/
def bhF (S : Nat → Nat → Int32) (h : Nat) : Nat → Nat → Nat → Int32
  | 0 => S
  | i + 1 => if covP (bhF S h i) i (nI h) then up (bhF S h i) 37 i (bhF S h i 37 i + rentF (bhF S h i) i (bhF S h i 14 (h * 12 + secN (bhF S h i) i))) else bhF S h i
theorem bhF_s (S : Nat → Nat → Int32) (h i : Nat) : bhF S h (i + 1) = if covP (bhF S h i) i (nI h) then up (bhF S h i) 37 i (bhF S h i 37 i + rentF (bhF S h i) i (bhF S h i 14 (h * 12 + secN (bhF S h i) i))) else bhF S h i := rfl
theorem bhF_n {S : Nat → Nat → Int32} {h k : Nat} (hk : k ≠ 37) : ∀ i, bhF S h i k = S k
  | 0 => rfl
  | i + 1 => by
    rw [bhF_s]
    by_cases c : covP (bhF S h i) i (nI h)
    · rw [if_pos c, up_n hk]; exact bhF_n hk i
    · rw [if_neg c]; exact bhF_n hk i
/-- rents are corrected: by how much in all, and the memory -/
def crD (S : Nat → Nat → Int32) (i : Nat) (bf af : Int32) : Int32 := rentF S i af - rentF S i bf
def crF (S : Nat → Nat → Int32) (x h : Nat) (bf af : Int32) : Nat → Int32 × (Nat → Nat → Int32)
  | 0 => (nI 0, S)
  | i + 1 => if (crF S x h bf af i).2 31 i = nI x then (if covP (crF S x h bf af i).2 i (nI h) then ((crF S x h bf af i).1 + crD (crF S x h bf af i).2 i bf af, up (up (crF S x h bf af i).2 37 i ((crF S x h bf af i).2 37 i + crD (crF S x h bf af i).2 i bf af)) 38 i ((crF S x h bf af i).2 38 i + crD (crF S x h bf af i).2 i bf af)) else crF S x h bf af i) else crF S x h bf af i
theorem crF_s (S : Nat → Nat → Int32) (x h : Nat) (bf af : Int32) (i : Nat) : crF S x h bf af (i + 1) = if (crF S x h bf af i).2 31 i = nI x then (if covP (crF S x h bf af i).2 i (nI h) then ((crF S x h bf af i).1 + crD (crF S x h bf af i).2 i bf af, up (up (crF S x h bf af i).2 37 i ((crF S x h bf af i).2 37 i + crD (crF S x h bf af i).2 i bf af)) 38 i ((crF S x h bf af i).2 38 i + crD (crF S x h bf af i).2 i bf af)) else crF S x h bf af i) else crF S x h bf af i := rfl
theorem crF_n {S : Nat → Nat → Int32} {x h k : Nat} {bf af : Int32} (h7 : k ≠ 37) (h8 : k ≠ 38) : ∀ i, (crF S x h bf af i).2 k = S k
  | 0 => rfl
  | i + 1 => by
    rw [crF_s]
    by_cases c : (crF S x h bf af i).2 31 i = nI x
    · rw [if_pos c]
      by_cases d : covP (crF S x h bf af i).2 i (nI h)
      · rw [if_pos d]; exact (up_n h8).trans ((up_n h7).trans (crF_n h7 h8 i))
      · rw [if_neg d]; exact crF_n h7 h8 i
    · rw [if_neg c]; exact crF_n h7 h8 i
/-- a count is kept -/
def kcV (S : Nat → Nat → Int32) (nl x h : Nat) (c : Int32) : Int32 := if c = S 14 (h * 12 + x) then nI 0 else (crF (up S 14 (h * 12 + x) c) x h (S 14 (h * 12 + x)) c nl).1
def kcM (S : Nat → Nat → Int32) (nl x h : Nat) (c : Int32) : Nat → Nat → Int32 := if c = S 14 (h * 12 + x) then up S 14 (h * 12 + x) c else (crF (up S 14 (h * 12 + x) c) x h (S 14 (h * 12 + x)) c nl).2
theorem kcM_n {S : Nat → Nat → Int32} {nl x h k : Nat} {c : Int32} (h4 : k ≠ 14) (h7 : k ≠ 37) (h8 : k ≠ 38) : kcM S nl x h c k = S k := by
  unfold kcM
  by_cases d : c = S 14 (h * 12 + x)
  · rw [if_pos d]; exact up_n h4
  · rw [if_neg d]; exact (crF_n h7 h8 nl).trans (up_n h4)
/-- a gap's count is found anew out of the kept ones, and kept -/
def rcS (nl h x : Nat) (t : Int32 × (Nat → Nat → Int32)) : Int32 × (Nat → Nat → Int32) := (t.1 + kcV t.2 nl x h (gapF t.2 (rowF (t.2 14) h) h x), kcM t.2 nl x h (gapF t.2 (rowF (t.2 14) h) h x))
/-- the gaps ahead of x, as far as they go -/
def rcA (nl h : Nat) : Nat → Int32 × (Nat → Nat → Int32) → Int32 × (Nat → Nat → Int32)
  | 0, t => t
  | k + 1, t => if t.2 13 (h * 12 + k) = -1 then rcA nl h k (rcS nl h k t) else t
/-- j of them -/
def rcP (nl h x : Nat) (t : Int32 × (Nat → Nat → Int32)) : Nat → Int32 × (Nat → Nat → Int32)
  | 0 => t
  | j + 1 => rcS nl h (x - j - 1) (rcP nl h x t j)
/-- the gaps from i on, of f sections -/
def rcB (nl h : Nat) : Nat → Nat → Int32 × (Nat → Nat → Int32) → Int32 × (Nat → Nat → Int32)
  | 0, _, t => t
  | f + 1, i, t => if t.2 13 (h * 12 + i) = -1 then rcB nl h f (i + 1) (rcS nl h i t) else t
def rcQ (nl h x : Nat) (t : Int32 × (Nat → Nat → Int32)) : Nat → Int32 × (Nat → Nat → Int32)
  | 0 => t
  | j + 1 => rcS nl h (x + 1 + j) (rcQ nl h x t j)
def rc0 (S : Nat → Nat → Int32) (n nl x h : Nat) : Int32 × (Nat → Nat → Int32) := (kcV S nl x h (cntR S n h x), kcM S nl x h (cntR S n h x))
def rcF (S : Nat → Nat → Int32) (n nl x h : Nat) : Int32 × (Nat → Nat → Int32) := if S 13 (h * 12 + x) = -1 then (nI 0, S) else rcB nl h (11 - x) (x + 1) (rcA nl h x (rc0 S n nl x h))
theorem rcS_n {nl h x k : Nat} {t : Int32 × (Nat → Nat → Int32)} (h4 : k ≠ 14) (h7 : k ≠ 37) (h8 : k ≠ 38) : (rcS nl h x t).2 k = t.2 k := kcM_n h4 h7 h8
theorem rcP_n {nl h x k : Nat} {t : Int32 × (Nat → Nat → Int32)} (h4 : k ≠ 14) (h7 : k ≠ 37) (h8 : k ≠ 38) : ∀ j, (rcP nl h x t j).2 k = t.2 k
  | 0 => rfl
  | j + 1 => (rcS_n h4 h7 h8).trans (rcP_n h4 h7 h8 j)
theorem rcQ_n {nl h x k : Nat} {t : Int32 × (Nat → Nat → Int32)} (h4 : k ≠ 14) (h7 : k ≠ 37) (h8 : k ≠ 38) : ∀ j, (rcQ nl h x t j).2 k = t.2 k
  | 0 => rfl
  | j + 1 => (rcS_n h4 h7 h8).trans (rcQ_n h4 h7 h8 j)
theorem rcA_n {nl h k : Nat} (h4 : k ≠ 14) (h7 : k ≠ 37) (h8 : k ≠ 38) : ∀ (x : Nat) (t : Int32 × (Nat → Nat → Int32)), (rcA nl h x t).2 k = t.2 k
  | 0, _ => rfl
  | x + 1, t => by
    unfold rcA
    by_cases c : t.2 13 (h * 12 + x) = -1
    · rw [if_pos c]; exact (rcA_n h4 h7 h8 x _).trans (rcS_n h4 h7 h8)
    · rw [if_neg c]
theorem rcB_n {nl h k : Nat} (h4 : k ≠ 14) (h7 : k ≠ 37) (h8 : k ≠ 38) : ∀ (f x : Nat) (t : Int32 × (Nat → Nat → Int32)), (rcB nl h f x t).2 k = t.2 k
  | 0, _, _ => rfl
  | f + 1, x, t => by
    unfold rcB
    by_cases c : t.2 13 (h * 12 + x) = -1
    · rw [if_pos c]; exact (rcB_n h4 h7 h8 f _ _).trans (rcS_n h4 h7 h8)
    · rw [if_neg c]
theorem rcF_n {S : Nat → Nat → Int32} {n nl x h k : Nat} (h4 : k ≠ 14) (h7 : k ≠ 37) (h8 : k ≠ 38) : (rcF S n nl x h).2 k = S k := by
  unfold rcF
  by_cases c : S 13 (h * 12 + x) = -1
  · rw [if_pos c]
  · rw [if_neg c]; exact (rcB_n h4 h7 h8 _ _ _).trans ((rcA_n h4 h7 h8 _ _).trans (kcM_n h4 h7 h8))
theorem rcA_t {nl h k : Nat} {t : Int32 × (Nat → Nat → Int32)} (c : t.2 13 (h * 12 + k) = -1) : rcA nl h (k + 1) t = rcA nl h k (rcS nl h k t) := if_pos c
theorem rcA_f {nl h k : Nat} {t : Int32 × (Nat → Nat → Int32)} (c : ¬ t.2 13 (h * 12 + k) = -1) : rcA nl h (k + 1) t = t := if_neg c
theorem rcB_t {nl h f k : Nat} {t : Int32 × (Nat → Nat → Int32)} (c : t.2 13 (h * 12 + k) = -1) : rcB nl h (f + 1) k t = rcB nl h f (k + 1) (rcS nl h k t) := if_pos c
theorem rcB_f {nl h f k : Nat} {t : Int32 × (Nat → Nat → Int32)} (c : ¬ t.2 13 (h * 12 + k) = -1) : rcB nl h (f + 1) k t = t := if_neg c
/-- what a tenant owes: of the first n leases -/
def dbF (S : Nat → Nat → Int32) (x : Nat) : Nat → Int32
  | 0 => - S 5 x
  | i + 1 => if S 32 i = nI x then dbF S x i + S 37 i else dbF S x i
/-- an hour ends -/
def ehM (S : Nat → Nat → Int32) (n nl h : Nat) : Nat → Nat → Int32 := up (bhF (readF (walkM (eaF (tpF S h 12) 6) h) n h) h nl) 0 0 (nI (h + 1))
def ehV (S : Nat → Nat → Int32) (h : Nat) : Int32 := (wkF (eaF (tpF S h 12) 6) h 12).1
