/-! the two sides side by side: rows that are equal, scalars, and codes and answers of the plain calls -/
def rmap : List (Nat × Nat) := [(2, 6), (3, 7), (4, 11), (5, 12), (6, 8), (7, 9), (8, 13), (9, 24), (10, 10), (12, 15), (13, 16), (14, 17), (16, 30), (17, 32), (18, 33), (19, 34), (20, 35), (21, 36), (23, 38), (25, 5), (26, 18), (27, 19), (28, 20), (32, 25)]
theorem rmap_11 : ∀ p ∈ rmap, ∀ x ∈ rmap, (p.1 = x.1 ↔ p.2 = x.2) := by decide
theorem rmap_0 : ∀ p ∈ rmap, p.1 ≠ 0 ∧ p.2 ≠ 0 := by decide
/-- rows that hold the same -/
def RR (S T : Nat → Nat → Int32) : Prop := ∀ p ∈ rmap, T p.1 = S p.2
theorem RR.at {S T : Nat → Nat → Int32} (h : RR S T) (k k' : Nat) (hk : (k, k') ∈ rmap) : T k = S k' := h (k, k') hk
theorem RR.both {S T : Nat → Nat → Int32} (h : RR S T) {k k' i : Nat} {v : Int32} (hk : (k, k') ∈ rmap) : RR (up S k' i v) (up T k i v) := fun p hp => by
  by_cases c : p.1 = k
  · have c2 : p.2 = k' := (rmap_11 p hp (k, k') hk).mp c
    rw [c, c2, up_s, up_s, h.at k k' hk]
  · have c2 : p.2 ≠ k' := fun z => c ((rmap_11 p hp (k, k') hk).mpr z)
    rw [up_n c, up_n c2]
    exact h p hp
theorem RR.left {S T : Nat → Nat → Int32} (h : RR S T) {k i : Nat} {v : Int32} (hk : ∀ p ∈ rmap, p.2 ≠ k) : RR (up S k i v) T := fun p hp => by rw [up_n (hk p hp)]; exact h p hp
theorem RR.right {S T : Nat → Nat → Int32} (h : RR S T) {k i : Nat} {v : Int32} (hk : ∀ p ∈ rmap, p.1 ≠ k) : RR S (up T k i v) := fun p hp => by rw [up_n (hk p hp)]; exact h p hp
theorem RR.z {S T : Nat → Nat → Int32} (h : RR S T) {i : Nat} {v : Int32} : RR S (up T 0 i v) := h.right (fun p hp => (rmap_0 p hp).1)
theorem RR.z' {S T : Nat → Nat → Int32} (h : RR S T) {i : Nat} {v : Int32} : RR (up S 0 i v) T := h.left (fun p hp => (rmap_0 p hp).2)
/-- the scalars -/
def RS (S T : Nat → Nat → Int32) (n w nl L : Nat) : Prop := (S 0 0 = nI w ∧ T 0 1 = nI w ∧ w ≤ 200) ∧ (S 0 1 = nI n ∧ T 0 11 = nI n ∧ n ≤ 60) ∧ (T 0 15 = nI nl ∧ nl ≤ 30) ∧ (S 0 2 = nI L ∧ T 0 31 = nI L ∧ L ≤ 50)
theorem RS.t {S T : Nat → Nat → Int32} {n w nl L : Nat} {v : Int32} (h : RS S T n w nl L) : RS S (up T 0 0 v) n w nl L := by
  obtain ⟨⟨a1, a2, a3⟩, ⟨b1, b2, b3⟩, ⟨c1, c2⟩, d1, d2, d3⟩ := h
  exact ⟨⟨a1, (up_sn (by decide)).trans a2, a3⟩, ⟨b1, (up_sn (by decide)).trans b2, b3⟩, ⟨(up_sn (by decide)).trans c1, c2⟩, d1, (up_sn (by decide)).trans d2, d3⟩
theorem RS.n {S T : Nat → Nat → Int32} {n w nl L k i : Nat} {v : Int32} (h : RS S T n w nl L) (hk : k ≠ 0) : RS (up S k i v) T n w nl L := by
  obtain ⟨⟨a1, a2, a3⟩, ⟨b1, b2, b3⟩, ⟨c1, c2⟩, d1, d2, d3⟩ := h
  have e := up_n (S := S) (k := k) (i := i) (v := v) (j := 0) (fun z => hk z.symm)
  exact ⟨⟨by rw [e]; exact a1, a2, a3⟩, ⟨by rw [e]; exact b1, b2, b3⟩, ⟨c1, c2⟩, by rw [e]; exact d1, d2, d3⟩
theorem RS.m {S T : Nat → Nat → Int32} {n w nl L k i : Nat} {v : Int32} (h : RS S T n w nl L) (hk : k ≠ 0) : RS S (up T k i v) n w nl L := by
  obtain ⟨⟨a1, a2, a3⟩, ⟨b1, b2, b3⟩, ⟨c1, c2⟩, d1, d2, d3⟩ := h
  have e := up_n (S := T) (k := k) (i := i) (v := v) (j := 0) (fun z => hk z.symm)
  exact ⟨⟨a1, by rw [e]; exact a2, a3⟩, ⟨b1, by rw [e]; exact b2, b3⟩, ⟨by rw [e]; exact c1, c2⟩, d1, by rw [e]; exact d2, d3⟩
/-- code and answer agree -/
def Ans (R : R3) (M : Int32 × (Nat → Nat → Int32)) : Prop := R.1 = M.2 0 0 ∧ (R.1 = nI 0 → R.2.1 = M.1)
theorem ixin {v : Int32} {m : Nat} (hm : m + 1 < 2 ^ 31) : ixP v (nI (m + 1)) ↔ inP v (nI 0) (nI m) := by
  constructor
  · intro h
    obtain ⟨e, b⟩ := ixP_nat h hm
    rw [e]
    exact ⟨fun z => by have := (nI_ltI (by omega) (by omega)).mp z; omega, (nI_leI (by omega) (by omega)).mpr (by omega)⟩
  · intro h
    obtain ⟨e, b⟩ := inP_nat h (by omega)
    rw [e]
    exact ⟨nI_pos (by omega), (nI_ltI (by omega) (by omega)).mpr (by omega)⟩
theorem ix12 {v : Int32} : ixP v (nI 12) ↔ inP v (nI 0) (nI 11) := ixin (by decide)
theorem ix6 {v : Int32} : ixP v (nI 6) ↔ inP v (nI 0) (nI 5) := ixin (by decide)
theorem ix36 {v : Int32} : ixP v (nI 36) ↔ inP v (nI 0) (nI 35) := ixin (by decide)
theorem Ans_fl {S T : Nat → Nat → Int32} {k : Nat} (hk : ¬ nI k = nI 0) : Ans (flC S k) (flM T k) := ⟨(up_si (up T 0 0 (nI 0)) 0 0 (nI k)).symm, fun z => absurd z hk⟩
theorem Ans_ok {S T : Nat → Nat → Int32} {r r' : Int32} (h : r = r') (hT : T 0 0 = nI 0) : Ans (nI 0, r, S) (r', T) := ⟨hT.symm, fun _ => h⟩
theorem z0_0 {T : Nat → Nat → Int32} : z0 T 0 0 = nI 0 := up_si _ _ _ _
theorem z0_n {T : Nat → Nat → Int32} {k : Nat} (h : k ≠ 0) : z0 T k = T k := up_n h
theorem a_setPeople {S T : Nat → Nat → Int32} (h : RR S T) (s p0 sh : Int32) : Ans (coSetPeople S s p0 sh) (moSetPeople T s p0 sh) := by
  unfold coSetPeople moSetPeople
  by_cases c1 : inP s (nI 0) (nI 11)
  · rw [if_pos (ix12.mpr c1), if_pos c1]
    by_cases c2 : inP p0 (nI 0) (nI 1000)
    · rw [if_pos c2, if_pos c2]
      by_cases c3 : inP sh (nI 0) (nI 100)
      · rw [if_pos c3, if_pos c3]
        exact Ans_ok (congrFun (h.at 2 6 (by decide)).symm _) ((congrFun ((up_n (by decide)).trans (up_n (by decide))) 0).trans z0_0)
      · rw [if_neg c3, if_neg c3]
        exact Ans_fl (by decide)
    · rw [if_neg c2, if_neg c2]
      exact Ans_fl (by decide)
  · rw [if_neg (fun z => c1 (ix12.mp z)), if_neg c1]
    exact Ans_fl (by decide)
theorem a_setLamp {S T : Nat → Nat → Int32} (h : RR S T) (s wk b : Int32) : Ans (coSetLamp S s wk b) (moSetLamp T s wk b) := by
  unfold coSetLamp moSetLamp
  by_cases c1 : inP s (nI 0) (nI 11)
  · rw [if_pos (ix12.mpr c1), if_pos c1]
    by_cases c2 : inP b (nI 0) (nI 60)
    · rw [if_pos c2, if_pos c2]
      exact Ans_ok (congrFun (h.at 5 12 (by decide)).symm _) ((congrFun ((up_n (by decide)).trans (up_n (by decide))) 0).trans z0_0)
    · rw [if_neg c2, if_neg c2]
      exact Ans_fl (by decide)
  · rw [if_neg (fun z => c1 (ix12.mp z)), if_neg c1]
    exact Ans_fl (by decide)
theorem a_setSkill {S T : Nat → Nat → Int32} (h : RR S T) (b to : Int32) : Ans (coSetSkill S b to) (moSetSkill T b to) := by
  unfold coSetSkill moSetSkill
  by_cases c1 : inP b (nI 0) (nI 5)
  · rw [if_pos (ix6.mpr c1), if_pos c1]
    by_cases c2 : inP to (nI 0) (nI 50)
    · rw [if_pos c2, if_pos c2]
      exact Ans_ok (congrFun (h.at 26 18 (by decide)).symm _) ((congrFun (up_n (by decide)) 0).trans z0_0)
    · rw [if_neg c2, if_neg c2]
      exact Ans_fl (by decide)
  · rw [if_neg (fun z => c1 (ix6.mp z)), if_neg c1]
    exact Ans_fl (by decide)
theorem a_busker {S T : Nat → Nat → Int32} (h : RR S T) {k k' : Nat} (hk : (k, k') ∈ rmap) (b : Int32) : Ans (coBusker S k' b) (moBusker T k b) := by
  unfold coBusker moBusker
  by_cases c1 : inP b (nI 0) (nI 5)
  · rw [if_pos (ix6.mpr c1), if_pos c1]
    exact Ans_ok (congrFun (h.at k k' hk).symm _) z0_0
  · rw [if_neg (fun z => c1 (ix6.mp z)), if_neg c1]
    exact Ans_fl (by decide)
theorem a_lot {S T : Nat → Nat → Int32} {L : Nat} (hL : L ≤ 50) (v : Int32) : Ans (coLot S L v) (moLot T L v) := by
  unfold coLot moLot
  by_cases c1 : inP v (nI 0) (nI 1000)
  · rw [if_pos c1, if_pos c1]
    by_cases c2 : L < 50
    · rw [if_pos c2, if_neg (by omega)]
      exact Ans_ok rfl ((up_sn (by decide)).trans ((congrFun (up_n (by decide)) 0).trans z0_0))
    · rw [if_neg c2, if_pos (by omega)]
      exact Ans_fl (by decide)
  · rw [if_neg c1, if_neg c1]
    exact Ans_fl (by decide)
theorem now_eq {S T : Nat → Nat → Int32} {n w nl L : Nat} (h : RS S T n w nl L) : S 0 0 - nI 1 = T 0 1 - nI 1 := by rw [h.1.1, h.1.2.1]
theorem a_row {S T : Nat → Nat → Int32} {n w nl L : Nat} (h : RR S T) (hs : RS S T n w nl L) {k k' : Nat} (hk : (k, k') ∈ rmap) (s h0 : Int32) : Ans (coRow S k' s h0) (moRow T k s h0) := by
  unfold coRow moRow iaP iaV
  rw [now_eq hs]
  by_cases c1 : inP s (nI 0) (nI 11)
  · by_cases c2 : inP h0 (nI 0) (T 0 1 - nI 1)
    · rw [if_pos (ix12.mpr c1), if_pos c2, if_pos ⟨c1, c2⟩, if_pos c1, if_pos c2]
      exact Ans_ok (congrFun (h.at k k' hk).symm _) (up_si _ _ _ _)
    · rw [if_pos (ix12.mpr c1), if_neg c2, if_neg (fun z => c2 z.2), if_pos c1, if_neg c2]
      exact ⟨(up_si T 0 0 (nI 2)).symm, fun z => absurd (show nI 2 = nI 0 from z) (by decide)⟩
  · rw [if_neg (fun z => c1 (ix12.mp z)), if_neg (fun z => c1 z.1), if_neg c1]
    exact ⟨(up_si T 0 0 (nI 1)).symm, fun z => absurd (show nI 1 = nI 0 from z) (by decide)⟩
theorem now_eq0 {S T : Nat → Nat → Int32} {n w nl L : Nat} (h : RS S T n w nl L) : S 0 0 - nI 1 = up T 0 0 (nI 0) 0 1 - nI 1 := by rw [h.1.1, show up T 0 0 (nI 0) 0 1 = nI w from h.t.1.2.1]
theorem a_through {S T : Nat → Nat → Int32} {n w nl L : Nat} (h : RR S T) (hs : RS S T n w nl L) (h0 : Int32) : Ans (coThrough S h0) (moThrough T h0) := by
  unfold coThrough moThrough
  rw [now_eq0 hs]
  by_cases c1 : inP h0 (nI 0) (up T 0 0 (nI 0) 0 1 - nI 1)
  · rw [if_pos c1, if_pos c1]
    exact Ans_ok (congrFun (h.at 10 10 (by decide)).symm _) z0_0
  · rw [if_neg c1, if_neg c1]
    exact Ans_fl (by decide)
theorem a_taken {S T : Nat → Nat → Int32} (h : RR S T) (n : Nat) (s h0 : Int32) : Ans (coTaken S n s h0) (moTaken T n s h0) := by
  unfold coTaken moTaken
  by_cases c1 : inP s (nI 0) (nI 11)
  · rw [if_pos (ix12.mpr c1), if_pos c1]
    by_cases c2 : inP h0 (nI 0) (nI 199)
    · rw [if_pos c2, if_pos c2]
      exact Ans_ok (by rw [z0_n (by decide), z0_n (by decide), z0_n (by decide), h.at 12 15 (by decide), h.at 13 16 (by decide), h.at 14 17 (by decide)]) z0_0
    · rw [if_neg c2, if_neg c2]
      exact Ans_fl (by decide)
  · rw [if_neg (fun z => c1 (ix12.mp z)), if_neg c1]
    exact Ans_fl (by decide)
theorem ixl {v z : Int32} {m : Nat} (hz : z = nI m) (hm : m < 2 ^ 31) : ixP v (nI m) ↔ inP v (nI 0) (z - nI 1) := by
  constructor
  · intro h
    obtain ⟨e, b⟩ := ixP_nat h hm
    rw [e, hz]
    refine ⟨fun z => by have := (nI_ltI (by omega) (by omega)).mp z; omega, ?_⟩
    cases m with
    | zero => exact absurd b (Nat.not_lt_zero _)
    | succ k => rw [k_pred]; exact (nI_leI (by omega) (by omega)).mpr (by omega)
  · intro h
    obtain ⟨e, b⟩ := inP_lt hz h hm
    rw [e]
    exact ⟨nI_pos (by omega), (nI_ltI (by omega) (by omega)).mpr b⟩
theorem RS.nl {S T : Nat → Nat → Int32} {n w nl L : Nat} (h : RS S T n w nl L) : T 0 15 = nI nl ∧ nl < 2 ^ 31 := ⟨h.2.2.1.1, by have := h.2.2.1.2; omega⟩
theorem RS.nl0 {S T : Nat → Nat → Int32} {n w nl L : Nat} (h : RS S T n w nl L) : up T 0 0 (nI 0) 0 15 = nI nl := h.t.2.2.1.1
theorem a_isOf {S T : Nat → Nat → Int32} {n w nl L : Nat} (h : RR S T) (hs : RS S T n w nl L) (y h0 : Int32) : Ans (coIsOf S nl y h0) (moIsOf T y h0) := by
  unfold coIsOf moIsOf
  by_cases c1 : ixP y (nI nl)
  · rw [if_pos c1, if_pos ((ixl hs.nl.1 hs.nl.2).mp c1)]
    exact Ans_ok (by rw [h.at 20 35 (by decide), h.at 21 36 (by decide)]) (up_si _ _ _ _)
  · rw [if_neg c1, if_neg (fun z => c1 ((ixl hs.nl.1 hs.nl.2).mpr z))]
    exact ⟨(up_si T 0 0 (nI 1)).symm, fun z => absurd (show nI 1 = nI 0 from z) (by decide)⟩
theorem a_corrected {S T : Nat → Nat → Int32} {n w nl L : Nat} (h : RR S T) (hs : RS S T n w nl L) (y : Int32) : Ans (coLs S 38 nl y) (moCorrected T y) := by
  unfold coLs moCorrected
  by_cases c1 : ixP y (nI nl)
  · rw [if_pos c1, if_pos ((ixl hs.nl0 hs.nl.2).mp c1)]
    exact Ans_ok (by rw [h.at 23 38 (by decide)]) z0_0
  · rw [if_neg c1, if_neg (fun z => c1 ((ixl hs.nl0 hs.nl.2).mpr z))]
    exact Ans_fl (by decide)
/-- bills are kept: what a lease owes by now -/
def RB (S T : Nat → Nat → Int32) (n w nl : Nat) : Prop := ∀ y, y < nl → S 37 y = rnM T n w y
/-- counts are kept -/
def RK (S T : Nat → Nat → Int32) (n w : Nat) : Prop := ∀ h x, h < w → x < 12 → S 14 (h * 12 + x) = coM T n h x
/-- the rows that a count is made of -/
theorem coM_congr {T T' : Nat → Nat → Int32} (h8 : T' 8 = T 8) (h12 : T' 12 = T 12) (h13 : T' 13 = T 13) (h14 : T' 14 = T 14) (n h x : Nat) : coM T' n h x = coM T n h x := by
  unfold coM cntM rowF
  rw [h8, h12, h13, h14]
theorem rtF_congr {T T' : Nat → Nat → Int32} (h8 : T' 8 = T 8) (h12 : T' 12 = T 12) (h13 : T' 13 = T 13) (h14 : T' 14 = T 14) {l : Nat} (h18 : T' 18 l = T 18 l) (h19 : T' 19 l = T 19 l) (n d f : Nat) : ∀ j, rtF T' n l d f j = rtF T n l d f j
  | 0 => rfl
  | j + 1 => by
    unfold rtF
    rw [rtF_congr h8 h12 h13 h14 h18 h19 n d f j, coM_congr h8 h12 h13 h14, h18, h19]
theorem rnM_congr {T T' : Nat → Nat → Int32} (h8 : T' 8 = T 8) (h12 : T' 12 = T 12) (h13 : T' 13 = T 13) (h14 : T' 14 = T 14) {l : Nat} (h16 : T' 16 l = T 16 l) (h18 : T' 18 l = T 18 l) (h19 : T' 19 l = T 19 l) (h20 : T' 20 l = T 20 l) (h21 : T' 21 l = T 21 l) (n w : Nat) : rnM T' n w l = rnM T n w l := by
  unfold rnM ix
  rw [h16, h20, h21]
  exact rtF_congr h8 h12 h13 h14 h18 h19 n _ _ _
theorem rnM_z0 {T : Nat → Nat → Int32} {n w l : Nat} : rnM (z0 T) n w l = rnM T n w l := rnM_congr (z0_n (by decide)) (z0_n (by decide)) (z0_n (by decide)) (z0_n (by decide)) (congrFun (z0_n (by decide)) l) (congrFun (z0_n (by decide)) l) (congrFun (z0_n (by decide)) l) (congrFun (z0_n (by decide)) l) (congrFun (z0_n (by decide)) l) n w
theorem a_billed {S T : Nat → Nat → Int32} {n w nl L : Nat} (hs : RS S T n w nl L) (hb : RB S T n w nl) (y : Int32) : Ans (coLs S 37 nl y) (moBilled T n w y) := by
  unfold coLs moBilled
  by_cases c1 : ixP y (nI nl)
  · rw [if_pos c1, if_pos ((ixl hs.nl0 hs.nl.2).mp c1)]
    exact Ans_ok (by rw [rnM_z0]; exact hb _ (ixP_nat c1 hs.nl.2).2) z0_0
  · rw [if_neg c1, if_neg (fun z => c1 ((ixl hs.nl0 hs.nl.2).mpr z))]
    exact Ans_fl (by decide)
theorem owF_congr {T T' : Nat → Nat → Int32} {n w : Nat} {who : Int32} (h17 : T' 17 = T 17) (h : ∀ l, rnM T' n w l = rnM T n w l) : ∀ l, owF T' n w who l = owF T n w who l
  | 0 => rfl
  | l + 1 => by
    unfold owF
    rw [owF_congr h17 h l, h17, h l]
theorem db_ow {S T : Nat → Nat → Int32} {n w nl x : Nat} (h : RR S T) (hb : RB S T n w nl) : ∀ i, i ≤ nl → dbF S x i = owF T n w (nI x) i - S 5 x
  | 0, _ => by
    unfold dbF owF
    rw [nI_0, Int32.zero_sub]
  | i + 1, hi => by
    unfold dbF owF
    rw [db_ow h hb i (by omega), h.at 17 32 (by decide), hb i (by omega)]
    by_cases c : S 32 i = nI x
    · rw [if_pos c, if_pos c, Int32.sub_eq_add_neg, Int32.sub_eq_add_neg, Int32.add_assoc, Int32.add_assoc, Int32.add_comm (-(S 5 x))]
    · rw [if_neg c, if_neg c, nI_0, Int32.add_zero]
theorem a_owes {S T : Nat → Nat → Int32} {n w nl L : Nat} (h : RR S T) (hb : RB S T n w nl) (who : Int32) : Ans (coOwes S nl who) (moOwes T n w nl who) := by
  unfold coOwes moOwes
  by_cases c1 : inP who (nI 0) (nI 5)
  · rw [if_pos (ix6.mpr c1), if_pos c1]
    refine Ans_ok ?_ z0_0
    obtain ⟨e, b⟩ := inP_nat c1 (by decide)
    rw [db_ow h hb nl (Nat.le_refl _), owF_congr (z0_n (by decide)) (fun l => rnM_z0), z0_n (by decide), h.at 25 5 (by decide)]
  · rw [if_neg (fun z => c1 (ix6.mp z)), if_neg c1]
    exact Ans_fl (by decide)
theorem a_pay {S T : Nat → Nat → Int32} {n w nl L : Nat} (h : RR S T) (hb : RB S T n w nl) (who mo : Int32) : Ans (coPay S nl who mo) (moPay T n w nl who mo) := by
  unfold coPay moPay
  by_cases c1 : inP who (nI 0) (nI 5)
  · rw [if_pos (ix6.mpr c1), if_pos c1]
    by_cases c2 : inP mo (nI 1) (nI 100000)
    · rw [if_pos c2, if_pos c2, h.at 25 5 (by decide)]
      by_cases c3 : S 5 who.toNatClampNeg + mo ≤ nI 1000000
      · rw [if_pos c3, if_pos c3]
        have e5 : T 25 = S 5 := h.at 25 5 (by decide)
        have hp : RR (up S 5 who.toNatClampNeg (S 5 who.toNatClampNeg + mo)) (pyM T who mo) := by
          unfold pyM
          rw [e5]
          exact RR.both (RR.z h) (by decide)
        have hbp : RB (up S 5 who.toNatClampNeg (S 5 who.toNatClampNeg + mo)) (pyM T who mo) n w nl := fun y hy => by
          have e : ∀ k, k ≠ 25 → k ≠ 0 → pyM T who mo k = T k := fun k h1 h2 => (up_n h1).trans (z0_n h2)
          rw [up_n (by decide), hb y hy]
          exact (rnM_congr (e 8 (by decide) (by decide)) (e 12 (by decide) (by decide)) (e 13 (by decide) (by decide)) (e 14 (by decide) (by decide)) (congrFun (e 16 (by decide) (by decide)) y) (congrFun (e 18 (by decide) (by decide)) y) (congrFun (e 19 (by decide) (by decide)) y) (congrFun (e 20 (by decide) (by decide)) y) (congrFun (e 21 (by decide) (by decide)) y) n w).symm
        refine Ans_ok ?_ ((congrFun (up_n (by decide)) 0).trans z0_0)
        rw [db_ow hp hbp nl (Nat.le_refl _), hp.at 25 5 (by decide)]
      · rw [if_neg c3, if_neg c3]
        exact Ans_fl (by decide)
    · rw [if_neg c2, if_neg c2]
      exact Ans_fl (by decide)
  · rw [if_neg (fun z => c1 (ix6.mp z)), if_neg c1]
    exact Ans_fl (by decide)
