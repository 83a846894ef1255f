/-! what the methods of the lamps answer, as functions of the memory's rows -/
/-- a place or none, as the machine has it -/
def oI (o : Option Nat) : Int32 := o.elim (-1) nI
/-- what stands at a place; none: -1 -/
def oV (o : Option Nat) (f : Nat → Int32) : Int32 := o.elim (-1) f
theorem oI_n : oI none = -1 := rfl
theorem oI_s (k : Nat) : oI (some k) = nI k := rfl
theorem oV_n (f : Nat → Int32) : oV none f = -1 := rfl
theorem oV_s (k : Nat) (f : Nat → Int32) : oV (some k) f = f k := rfl
theorem k_m1 {a : Nat} (h : a < 2 ^ 31) : nI a = -1 ↔ False := ⟨fun z => by
  have e := congrArg Int32.toInt z
  rw [nI_toInt h] at e
  have e2 : (-1 : Int32).toInt = -1 := by decide
  omega, False.elim⟩
/-- the blind spot that was found last, of the first n findings -/
def takenF (wh si fo : Nat → Int32) (x h : Int32) : Nat → Int32
  | 0 => nI 0
  | n + 1 => if wh n = x then if si n ≤ h then fo n else takenF wh si fo x h n else takenF wh si fo x h n
/-- the count of a reading -/
def cntC (rd tk : Int32) : Int32 := if nI 100 - tk ≤ 0 then nI 0 else nI 100 * rd / (nI 100 - tk)
/-- the nearest place below x with a reading; at or behind x, of k places -/
def naO (g : Nat → Int32) : Nat → Option Nat
  | 0 => none
  | x + 1 => if g x = -1 then naO g x else some x
def nbO (g : Nat → Int32) : Nat → Nat → Option Nat
  | 0, _ => none
  | k + 1, x => if g x = -1 then nbO g k (x + 1) else some x
theorem naO_lt {g : Nat → Int32} {k : Nat} : ∀ {x : Nat}, naO g x = some k → k < x
  | 0, h => by cases h
  | x + 1, h => by
    unfold naO at h
    by_cases c : g x = -1
    · rw [if_pos c] at h
      have := naO_lt h
      omega
    · rw [if_neg c] at h
      cases h
      omega
theorem nbO_lt {g : Nat → Int32} {k : Nat} : ∀ {n x : Nat}, nbO g n x = some k → x ≤ k ∧ k < x + n
  | 0, x, h => by cases h
  | n + 1, x, h => by
    unfold nbO at h
    by_cases c : g x = -1
    · rw [if_pos c] at h
      have := nbO_lt h
      omega
    · rw [if_neg c] at h
      cases h
      omega
/-- two counts, -1 for none, as a gap takes them -/
def filF (x y : Int32) : Int32 := if x = -1 then if y = -1 then nI 0 else y else if y = -1 then x else (x + y) / nI 2
/-- a row of an hour -/
def rowF (f : Nat → Int32) (h : Nat) : Nat → Int32 := fun x => f (h * 12 + x)
theorem k_prneg {k : Nat} (h : k < 2 ^ 31) : nI k - nI 1 < 0 ↔ k = 0 := by
  cases k with
  | zero => exact ⟨fun _ => rfl, fun _ => by decide⟩
  | succ j => rw [k_pred]; exact ⟨fun z => absurd z (nI_pos (by omega)), fun z => by omega⟩
theorem k_dec (a : Int32) : a + Int32.ofInt (-1) = a - nI 1 := by rw [Int32.sub_eq_add_neg]; rfl
theorem naO_t {g : Nat → Int32} {j : Nat} (c : g j = -1) : naO g (j + 1) = naO g j := if_pos c
theorem naO_f {g : Nat → Int32} {j : Nat} (c : ¬ g j = -1) : naO g (j + 1) = some j := if_neg c
theorem nbO_t {g : Nat → Int32} {k j : Nat} (c : g j = -1) : nbO g (k + 1) j = nbO g k (j + 1) := if_pos c
theorem nbO_f {g : Nat → Int32} {k j : Nat} (c : ¬ g j = -1) : nbO g (k + 1) j = some j := if_neg c
theorem nbO_p {g : Nat → Int32} {n j : Nat} (h : j < n) (c : g j = -1) : nbO g (n - j) j = nbO g (n - (j + 1)) (j + 1) := by rw [show n - j = (n - (j + 1)) + 1 from by omega]; exact nbO_t c
theorem nbO_q {g : Nat → Int32} {n j : Nat} (h : j < n) (c : ¬ g j = -1) : nbO g (n - j) j = some j := by rw [show n - j = (n - (j + 1)) + 1 from by omega]; exact nbO_f c
/-- the count of a section with a reading, out of a memory -/
def cntR (S : Nat → Nat → Int32) (n h x : Nat) : Int32 := cntC (S 13 (h * 12 + x)) (takenF (S 15) (S 16) (S 17) (nI x) (nI h) n)
/-- a gap, filled with the counts f of an hour -/
def gapF (S : Nat → Nat → Int32) (f : Nat → Int32) (h x : Nat) : Int32 := filF (oV (naO (rowF (S 13) h) x) f) (oV (nbO (rowF (S 13) h) (11 - x) (x + 1)) f)
def anewF (S : Nat → Nat → Int32) (n h x : Nat) : Int32 := if S 13 (h * 12 + x) = -1 then gapF S (cntR S n h) h x else cntR S n h x
/-- the lamps read, section by section -/
def rdV (b st bl : Int32) : Int32 := if b = 0 then st - st * bl / nI 100 else -1
def rdF (S : Nat → Nat → Int32) (h : Nat) : Nat → Nat → Nat → Int32
  | 0 => S
  | i + 1 => up (rdF S h i) 13 (h * 12 + i) (rdV (rdF S h i 11 i) (rdF S h i 8 (h * 12 + i)) (rdF S h i 12 i))
/-- counts of readings are kept -/
def kpF (S : Nat → Nat → Int32) (n h : Nat) : Nat → Nat → Nat → Int32
  | 0 => S
  | i + 1 => if kpF S n h i 13 (h * 12 + i) = -1 then kpF S n h i else up (kpF S n h i) 14 (h * 12 + i) (cntR (kpF S n h i) n h i)
/-- gaps are filled -/
def gpF (S : Nat → Nat → Int32) (h : Nat) : Nat → Nat → Nat → Int32
  | 0 => S
  | i + 1 => if gpF S h i 13 (h * 12 + i) = -1 then up (gpF S h i) 14 (h * 12 + i) (gapF (gpF S h i) (rowF (gpF S h i 14) h) h i) else gpF S h i
def readF (S : Nat → Nat → Int32) (n h : Nat) : Nat → Nat → Int32 := gpF (kpF (rdF S h 12) n h 12) h 12
theorem rdF_n {S : Nat → Nat → Int32} {h k : Nat} (hk : k ≠ 13) : ∀ i, rdF S h i k = S k
  | 0 => rfl
  | i + 1 => by unfold rdF; rw [up_n hk]; exact rdF_n hk i
theorem kpF_n {S : Nat → Nat → Int32} {n h k : Nat} (hk : k ≠ 14) : ∀ i, kpF S n h i k = S k
  | 0 => rfl
  | i + 1 => by
    unfold kpF
    by_cases c : kpF S n h i 13 (h * 12 + i) = -1
    · rw [if_pos c]; exact kpF_n hk i
    · rw [if_neg c, up_n hk]; exact kpF_n hk i
theorem gpF_n {S : Nat → Nat → Int32} {h k : Nat} (hk : k ≠ 14) : ∀ i, gpF S h i k = S k
  | 0 => rfl
  | i + 1 => by
    unfold gpF
    by_cases c : gpF S h i 13 (h * 12 + i) = -1
    · rw [if_pos c, up_n hk]; exact gpF_n hk i
    · rw [if_neg c]; exact gpF_n hk i
/-- a finding is noted -/
def noteF (S : Nat → Nat → Int32) (n : Nat) (x h b : Int32) : Nat → Nat → Int32 := up (up (up (up S 15 n x) 16 n h) 17 n b) 0 1 (nI (n + 1))
theorem kpF_s (S : Nat → Nat → Int32) (n h i : Nat) : kpF S n h (i + 1) = if kpF S n h i 13 (h * 12 + i) = -1 then kpF S n h i else up (kpF S n h i) 14 (h * 12 + i) (cntR (kpF S n h i) n h i) := rfl
theorem gpF_s (S : Nat → Nat → Int32) (h i : Nat) : gpF S h (i + 1) = if gpF S h i 13 (h * 12 + i) = -1 then up (gpF S h i) 14 (h * 12 + i) (gapF (gpF S h i) (rowF (gpF S h i 14) h) h i) else gpF S h i := rfl
