/-! the class's public methods: code, answer and memory -/
abbrev R3 : Type := Int32 × Int32 × (Nat → Nat → Int32)
abbrev flC (S : Nat → Nat → Int32) (k : Nat) : R3 := (nI k, nI 0, S)
/-- leases are in order -/
def okC (S : Nat → Nat → Int32) (nl : Nat) : Prop := ∀ i, i < nl → (S 31 i = nI (secN S i) ∧ secN S i < 12) ∧ (S 35 i = nI (ix S 35 i) ∧ ix S 35 i ≤ 200) ∧ (S 36 i = nI (ix S 36 i) ∧ ix S 36 i ≤ 300)
theorem okC.s {S : Nat → Nat → Int32} {nl : Nat} (h : okC S nl) : okS S nl := fun i hi => (h i hi).1
theorem okC_congr {S T : Nat → Nat → Int32} {nl : Nat} (h1 : T 31 = S 31) (h2 : T 35 = S 35) (h3 : T 36 = S 36) (k : okC S nl) : okC T nl := by
  unfold okC secN ix at *
  rw [h1, h2, h3]
  exact k
def coSetPeople (S : Nat → Nat → Int32) (s p sh : Int32) : R3 := if ixP s (nI 12) then if inP p (nI 0) (nI 1000) then if inP sh (nI 0) (nI 100) then (nI 0, S 6 s.toNatClampNeg, up (up S 6 s.toNatClampNeg p) 7 s.toNatClampNeg sh) else flC S 2 else flC S 2 else flC S 1
def coSetLamp (S : Nat → Nat → Int32) (s wk b : Int32) : R3 := if ixP s (nI 12) then if inP b (nI 0) (nI 60) then (nI 0, S 12 s.toNatClampNeg, up (up S 11 s.toNatClampNeg (if wk = 0 then nI 1 else nI 0)) 12 s.toNatClampNeg b) else flC S 2 else flC S 1
def fdC (S : Nat → Nat → Int32) (n nl x h : Nat) : Nat → Int32 × (Nat → Nat → Int32)
  | 0 => (nI 0, S)
  | k + 1 => ((fdC S n nl x h k).1 + (rcF (fdC S n nl x h k).2 n nl x (h + k)).1, (rcF (fdC S n nl x h k).2 n nl x (h + k)).2)
theorem fdC_n {S : Nat → Nat → Int32} {n nl x h r : Nat} (h4 : r ≠ 14) (h7 : r ≠ 37) (h8 : r ≠ 38) : ∀ k, (fdC S n nl x h k).2 r = S r
  | 0 => rfl
  | k + 1 => (rcF_n h4 h7 h8).trans (fdC_n h4 h7 h8 k)
def coFind (S : Nat → Nat → Int32) (n w nl : Nat) (s h b : Int32) : R3 := if ixP s (nI 12) then if inP h (nI 0) (nI w) then if inP b (nI 0) (nI 60) then if n < 60 then (nI 0, fdC (noteF S n (nI s.toNatClampNeg) (nI h.toNatClampNeg) b) (n + 1) nl s.toNatClampNeg h.toNatClampNeg (w - h.toNatClampNeg)) else flC S 3 else flC S 2 else flC S 2 else flC S 1
def coTurnUp (S : Nat → Nat → Int32) (n nl : Nat) (s h r : Int32) : R3 := if ixP s (nI 12) then if inP h (nI 0) (S 0 0 - nI 1) then if inP r (nI 0) (nI 30000) then if S 13 (h.toNatClampNeg * 12 + s.toNatClampNeg) = -1 then (nI 0, rcF (up S 13 (h.toNatClampNeg * 12 + s.toNatClampNeg) r) n nl s.toNatClampNeg h.toNatClampNeg) else flC S 3 else flC S 2 else flC S 2 else flC S 1
def coQuit (S : Nat → Nat → Int32) (w nl : Nat) (y : Int32) : R3 := if ixP y (nI nl) then if S 36 y.toNatClampNeg ≤ nI w then flC S 2 else (nI 0, nI w - S 35 y.toNatClampNeg, up S 36 y.toNatClampNeg (nI w)) else flC S 1
def coPay (S : Nat → Nat → Int32) (nl : Nat) (who mo : Int32) : R3 := if ixP who (nI 6) then if inP mo (nI 1) (nI 100000) then if S 5 who.toNatClampNeg + mo ≤ nI 1000000 then (nI 0, dbF (up S 5 who.toNatClampNeg (S 5 who.toNatClampNeg + mo)) who.toNatClampNeg nl, up S 5 who.toNatClampNeg (S 5 who.toNatClampNeg + mo)) else flC S 3 else flC S 2 else flC S 1
def coSetSkill (S : Nat → Nat → Int32) (b to : Int32) : R3 := if ixP b (nI 6) then if inP to (nI 0) (nI 50) then (nI 0, S 18 b.toNatClampNeg, up S 18 b.toNatClampNeg to) else flC S 2 else flC S 1
def coAsk (S : Nat → Nat → Int32) (b s : Int32) : R3 := if ixP b (nI 6) then if ixP s (nI 12) then if S 21 (b.toNatClampNeg * 12 + s.toNatClampNeg) = 0 then (nI 0, akF (up S 21 (b.toNatClampNeg * 12 + s.toNatClampNeg) (nI 1)) b.toNatClampNeg 12, up S 21 (b.toNatClampNeg * 12 + s.toNatClampNeg) (nI 1)) else flC S 2 else flC S 1 else flC S 1
def coLot (S : Nat → Nat → Int32) (L : Nat) (v : Int32) : R3 := if inP v (nI 0) (nI 1000) then if L < 50 then (nI 0, nI (L + 1), up (up S 25 L v) 0 2 (nI (L + 1))) else flC S 2 else flC S 1
def coRow (S : Nat → Nat → Int32) (k : Nat) (s h : Int32) : R3 := if ixP s (nI 12) then if inP h (nI 0) (S 0 0 - nI 1) then (nI 0, S k (h.toNatClampNeg * 12 + s.toNatClampNeg), S) else flC S 2 else flC S 1
def coThrough (S : Nat → Nat → Int32) (h : Int32) : R3 := if inP h (nI 0) (S 0 0 - nI 1) then (nI 0, S 10 h.toNatClampNeg, S) else flC S 1
def coTaken (S : Nat → Nat → Int32) (n : Nat) (s h : Int32) : R3 := if ixP s (nI 12) then if inP h (nI 0) (nI 199) then (nI 0, takenF (S 15) (S 16) (S 17) (nI s.toNatClampNeg) (nI h.toNatClampNeg) n, S) else flC S 2 else flC S 1
def coAnew (S : Nat → Nat → Int32) (n : Nat) (s h : Int32) : R3 := if ixP s (nI 12) then if inP h (nI 0) (S 0 0 - nI 1) then (nI 0, anewF S n h.toNatClampNeg s.toNatClampNeg, S) else flC S 2 else flC S 1
def ofC (S : Nat → Nat → Int32) (p : Nat) : Int32 := S 14 p - S 8 p
def msC (S : Nat → Nat → Int32) (h : Nat) : Nat → Int32
  | 0 => nI 0
  | x + 1 => msC S h x + (if 0 ≤ ofC S (h * 12 + x) then ofC S (h * 12 + x) else 0 - ofC S (h * 12 + x))
def coMissed (S : Nat → Nat → Int32) (h : Int32) : R3 := if inP h (nI 0) (S 0 0 - nI 1) then (nI 0, msC S h.toNatClampNeg 12, S) else flC S 1
def coIsOf (S : Nat → Nat → Int32) (nl : Nat) (y h : Int32) : R3 := if ixP y (nI nl) then (nI 0, bI (covP S y.toNatClampNeg h), S) else flC S 1
def coLs (S : Nat → Nat → Int32) (k nl : Nat) (y : Int32) : R3 := if ixP y (nI nl) then (nI 0, S k y.toNatClampNeg, S) else flC S 1
def baF (S : Nat → Nat → Int32) (n i : Nat) : Nat → Int32
  | 0 => nI 0
  | j + 1 => baF S n i j + rentF S i (anewF S n (ix S 35 i + j) (secN S i))
def coBilledAnew (S : Nat → Nat → Int32) (n w nl : Nat) (y : Int32) : R3 := if ixP y (nI nl) then (nI 0, baF S n y.toNatClampNeg (min (ix S 36 y.toNatClampNeg) w - ix S 35 y.toNatClampNeg), S) else flC S 1
def coOwes (S : Nat → Nat → Int32) (nl : Nat) (who : Int32) : R3 := if ixP who (nI 6) then (nI 0, dbF S who.toNatClampNeg nl, S) else flC S 1
def coBusker (S : Nat → Nat → Int32) (k : Nat) (b : Int32) : R3 := if ixP b (nI 6) then (nI 0, S k b.toNatClampNeg, S) else flC S 1
def psC (S : Nat → Nat → Int32) (n nl w : Nat) : Nat → Int32 × (Nat → Nat → Int32)
  | 0 => (nI 0, S)
  | k + 1 => ((psC S n nl w k).1 + ehV (psC S n nl w k).2 (w + k), ehM (psC S n nl w k).2 n nl (w + k))
def coPass (S : Nat → Nat → Int32) (n nl w : Nat) (hrs : Int32) : R3 := if inP hrs (nI 1) (nI 50) then if w + hrs.toNatClampNeg ≤ 200 then (nI 0, psC S n nl w hrs.toNatClampNeg) else flC S 2 else flC S 1
theorem ehM_n {S : Nat → Nat → Int32} {n nl h k : Nat} (h0 : k ≠ 0) (h37 : k ≠ 37) (h13 : k ≠ 13) (h14 : k ≠ 14) (h8 : k ≠ 8) (h9 : k ≠ 9) (h20 : k ≠ 20) (h10 : k ≠ 10) (h21 : k ≠ 21) (h22 : k ≠ 22) (h19 : k ≠ 19) (h23 : k ≠ 23) (h24 : k ≠ 24) (h25 : k ≠ 25) : ehM S n nl h k = S k :=
  (up_n h0).trans ((bhF_n h37 nl).trans ((readF_n h13 h14).trans ((walkM_n h8 h9 h20 h10).trans ((eaF_n h21 h22 6).trans (tpF_n h0 h19 h22 h23 h24 h25 12)))))
theorem ehM_b {S : Nat → Nat → Int32} {n nl h k : Nat} (h37 : k ≠ 37) (h13 : k ≠ 13) (h14 : k ≠ 14) (h8 : k ≠ 8) (h9 : k ≠ 9) (h20 : k ≠ 20) (h10 : k ≠ 10) (h21 : k ≠ 21) (h22 : k ≠ 22) : bhF (readF (walkM (eaF (tpF S h 12) 6) h) n h) h nl k = tpF S h 12 k :=
  (bhF_n h37 nl).trans ((readF_n h13 h14).trans ((walkM_n h8 h9 h20 h10).trans (eaF_n h21 h22 6)))
theorem ehM_n0 {S : Nat → Nat → Int32} {n nl h j : Nat} (hj : j ≠ 0) (h2 : j ≠ 2) : ehM S n nl h 0 j = S 0 j :=
  (up_sn hj).trans ((congrFun (ehM_b (by decide) (by decide) (by decide) (by decide) (by decide) (by decide) (by decide) (by decide) (by decide)) j).trans (tpF_n0 h2 12))
theorem ehM_now {S : Nat → Nat → Int32} {n nl h : Nat} : ehM S n nl h 0 0 = nI (h + 1) := up_si _ _ _ _
theorem okL_eh {S : Nat → Nat → Int32} {n nl h : Nat} (k : okL S) : okL (ehM S n nl h) := by
  have k2 := okL_tpF (h := h) k 12
  have e0 : ehM S n nl h 0 2 = tpF S h 12 0 2 := (up_sn (by decide)).trans (congrFun (ehM_b (by decide) (by decide) (by decide) (by decide) (by decide) (by decide) (by decide) (by decide) (by decide)) 2)
  have e25 : ehM S n nl h 25 = tpF S h 12 25 := (up_n (by decide)).trans (ehM_b (by decide) (by decide) (by decide) (by decide) (by decide) (by decide) (by decide) (by decide) (by decide))
  unfold okL ltN at *
  rw [e0, e25]
  exact k2
theorem psC_ok {S : Nat → Nat → Int32} {n nl w : Nat} (hw : S 0 0 = nI w) (hn : S 0 1 = nI n) (ho : okC S nl) (hk : okL S) : ∀ k, (psC S n nl w k).2 0 0 = nI (w + k) ∧ (psC S n nl w k).2 0 1 = nI n ∧ okC (psC S n nl w k).2 nl ∧ okL (psC S n nl w k).2
  | 0 => ⟨hw, hn, ho, hk⟩
  | k + 1 => by
    obtain ⟨h1, h2, h3, h4⟩ := psC_ok hw hn ho hk k
    have e : ∀ r, r = 31 ∨ r = 35 ∨ r = 36 → ehM (psC S n nl w k).2 n nl (w + k) r = (psC S n nl w k).2 r := fun r hr => ehM_n (by omega) (by omega) (by omega) (by omega) (by omega) (by omega) (by omega) (by omega) (by omega) (by omega) (by omega) (by omega) (by omega) (by omega)
    exact ⟨ehM_now (S := (psC S n nl w k).2) (n := n) (nl := nl) (h := w + k), (ehM_n0 (by decide) (by decide)).trans h2, okC_congr (e 31 (Or.inl rfl)) (e 35 (Or.inr (Or.inl rfl))) (e 36 (Or.inr (Or.inr rfl))) h3, okL_eh h4⟩
