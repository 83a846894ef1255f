/-! an hour ends, on both sides; hours pass -/
theorem rdV_ok {b st bl : Int32} (h1 : ∃ v, v ≤ 30000 ∧ st = nI v) (h2 : ∃ k, k ≤ 60 ∧ bl = nI k) : rdV b st bl = -1 ∨ ∃ u, u ≤ 30000 ∧ rdV b st bl = nI u := by
  obtain ⟨v, hv, rfl⟩ := h1
  obtain ⟨k, hk, rfl⟩ := h2
  unfold rdV
  by_cases c : b = 0
  · rw [if_pos c]
    have : v * k ≤ v * 60 := Nat.mul_le_mul_left _ hk
    rw [pk_mul, pk_div (by omega) (by decide) (by decide), pk_sub (by omega)]
    exact Or.inr ⟨_, by omega, rfl⟩
  · rw [if_neg c]
    exact Or.inl rfl
section EH
variable {S T : Nat → Nat → Int32} {n w nl L : Nat}
theorem hour_step (h : Rel S T n w nl L) (rx : Rx S w) (hw : w < 200) : ehV S w = endsV T w ∧ ∃ L', Rel (ehM S n nl w) (endsM T w) n (w + 1) nl L' ∧ Rx (ehM S n nl w) (w + 1) := by
  obtain ⟨L', R2, Q2, ⟨l1, l2, l3⟩, X2, B2⟩ := pj_hour h rx hw
  have ra := RK_anew h
  obtain ⟨h1, h2, ⟨g1, g2, g3, g4, g5, g6, g7, g8⟩, h4⟩ := h
  have n2 : ∀ k, k ≠ 21 → k ≠ 22 → k ≠ 0 → k ≠ 19 → k ≠ 23 → k ≠ 24 → k ≠ 25 → eaF (tpF S w 12) 6 k = S k := fun k a b c d e f g => (eaF_n a b 6).trans (tpF_n c d b e f g 12)
  have P2 : RP (eaF (tpF S w 12) 6) := by
    refine ⟨?_, ?_, ?_, ?_, B2⟩
    · rw [n2 6 (by decide) (by decide) (by decide) (by decide) (by decide) (by decide) (by decide)]; exact h4.1
    · rw [n2 7 (by decide) (by decide) (by decide) (by decide) (by decide) (by decide) (by decide)]; exact h4.2.1
    · rw [n2 12 (by decide) (by decide) (by decide) (by decide) (by decide) (by decide) (by decide)]; exact h4.2.2.1
    · rw [n2 18 (by decide) (by decide) (by decide) (by decide) (by decide) (by decide) (by decide)]; exact h4.2.2.2.1
  obtain ⟨k1, ⟨a, ka, k2, k3⟩, k4, k5, k6⟩ := wk_all (y := w) R2 P2 okPl_places 12 (Nat.le_refl 12)
  -- rows of the memories between
  have eR := read_v (S := walkM (eaF (tpF S w 12) 6) w) (n := n) (y := w)
  have eD := rdF_v (S := walkM (eaF (tpF S w 12) 6) w) (y := w) 12
  have w3 : ∀ k, k ≠ 10 → walkM (eaF (tpF S w 12) 6) w k = (wkF (eaF (tpF S w 12) 6) w 12).2.2 k := fun k a => up_n a
  have x3 : RRx (walkM (eaF (tpF S w 12) 6) w) (up (enF (placesM T w) w 12).2.2 10 w (enF (placesM T w) w 12).2.1) := by
    unfold walkM
    rw [k2, k3]
    exact k4.both (by decide)
  have m2 : ∀ k, k ≠ 8 → k ≠ 9 → k ≠ 20 → (wkF (eaF (tpF S w 12) 6) w 12).2.2 k = eaF (tpF S w 12) 6 k := fun k a b c => wkF_n a b c 12
  have e8 : up (enF (placesM T w) w 12).2.2 10 w (enF (placesM T w) w 12).2.1 8 = rdF (walkM (eaF (tpF S w 12) 6) w) w 12 13 := by
    funext p
    rw [up_n (by decide)]
    by_cases c : ∃ i, i < 12 ∧ p = w * 12 + i
    · obtain ⟨i, hi, rfl⟩ := c
      rw [(k5 i hi).2, eD.1 i hi, w3 11 (by decide), w3 8 (by decide), w3 12 (by decide), m2 11 (by decide) (by decide) (by decide), m2 12 (by decide) (by decide) (by decide)]
    · have c2 : ∀ i, i < 12 → p ≠ w * 12 + i := fun i hi z => c ⟨i, hi, z⟩
      rw [k6 p c2, eD.2 p c2, w3 13 (by decide), m2 13 (by decide) (by decide) (by decide), R2.at 8 13 (by decide)]
  have r4 : RR (rdF (walkM (eaF (tpF S w 12) 6) w) w 12) (up (enF (placesM T w) w 12).2.2 10 w (enF (placesM T w) w 12).2.1) := by
    refine RRx.all (fun p hp => ?_) e8
    rw [rdF_n ((show ∀ p ∈ rmx, p.2 ≠ 13 by decide) p hp)]
    exact x3 p hp
  have e7 : ∀ k, k ≠ 0 → k ≠ 37 → k ≠ 14 → ehM S n nl w k = rdF (walkM (eaF (tpF S w 12) 6) w) w 12 k := fun k a b c => (up_n a).trans ((bhF_n b nl).trans (eR.2.2 k c))
  have r7 : RR (ehM S n nl w) (endsM T w) := fun p hp => by
    obtain ⟨a1, a2, a3, a4⟩ := (show ∀ p ∈ rmap, p.1 ≠ 0 ∧ p.2 ≠ 0 ∧ p.2 ≠ 37 ∧ p.2 ≠ 14 by decide) p hp
    rw [e7 p.2 a2 a3 a4, show endsM T w p.1 = _ from up_n a1]
    exact r4 p hp
  have eS : ∀ k, k ≠ 0 → k ≠ 37 → k ≠ 13 → k ≠ 14 → k ≠ 8 → k ≠ 9 → k ≠ 20 → k ≠ 10 → k ≠ 21 → k ≠ 22 → k ≠ 19 → k ≠ 23 → k ≠ 24 → k ≠ 25 → ehM S n nl w k = S k := fun k a b c d e f g h i j l m o q => ehM_n a b c d e f g h i j l m o q
  have eS' : ∀ k, k = 6 ∨ k = 7 ∨ k = 12 ∨ k = 18 ∨ (14 < k ∧ k < 18) ∨ (30 ≤ k ∧ k ≤ 36) → ehM S n nl w k = S k := fun k hk => eS k (by omega) (by omega) (by omega) (by omega) (by omega) (by omega) (by omega) (by omega) (by omega) (by omega) (by omega) (by omega) (by omega) (by omega)
  have e2 : ∀ k, k = 19 ∨ k = 21 ∨ k = 22 ∨ k = 25 → ehM S n nl w k = eaF (tpF S w 12) 6 k := fun k hk => by
    rw [e7 k (by omega) (by omega) (by omega), rdF_n (by omega), w3 k (by omega), m2 k (by omega) (by omega) (by omega)]
  have eT : ∀ k, k = 12 ∨ k = 13 ∨ k = 14 ∨ (16 ≤ k ∧ k ≤ 24) → endsM T w k = T k := fun k hk => endsM_n (by omega) (by omega) (by omega) (by omega) (by omega) (by omega) (by omega) (by omega) (by omega) (by omega) (by omega)
  have e14 : ehM S n nl w 14 = readF (walkM (eaF (tpF S w 12) 6) w) n w 14 := (up_n (by decide)).trans (bhF_n (by decide) nl)
  have s14 : walkM (eaF (tpF S w 12) 6) w 14 = S 14 := by
    rw [w3 14 (by decide), m2 14 (by decide) (by decide) (by decide)]
    exact n2 14 (by decide) (by decide) (by decide) (by decide) (by decide) (by decide) (by decide)
  have s13 : walkM (eaF (tpF S w 12) 6) w 13 = S 13 := by
    rw [w3 13 (by decide), m2 13 (by decide) (by decide) (by decide)]
    exact n2 13 (by decide) (by decide) (by decide) (by decide) (by decide) (by decide) (by decide)
  have e13 : ehM S n nl w 13 = rdF (walkM (eaF (tpF S w 12) 6) w) w 12 13 := e7 13 (by decide) (by decide) (by decide)
  have eA : ∀ h j, anewF (ehM S n nl w) n h j = anewF (rdF (walkM (eaF (tpF S w 12) 6) w) w 12) n h j := fun h j => anewF_congr e13 (e7 15 (by decide) (by decide) (by decide)) (e7 16 (by decide) (by decide) (by decide)) (e7 17 (by decide) (by decide) (by decide)) n h j
  have o14 : ∀ h j, h < w → j < 12 → ehM S n nl w 14 (h * 12 + j) = S 14 (h * 12 + j) := fun h j hh hj => by
    rw [e14, eR.2.1 _ (fun i hi => by omega), s14]
  have t7 : okT (endsM T w) n := okT_congr (eT 14 (by decide)) g1
  have d7 : RD (endsM T w) := fun p => by
    rw [r7.at 8 13 (by decide), e13]
    by_cases c : ∃ i, i < 12 ∧ p = w * 12 + i
    · obtain ⟨i, hi, rfl⟩ := c
      rw [eD.1 i hi]
      refine rdV_ok ?_ ?_
      · rw [w3 8 (by decide)]
        exact (k5 i hi).1
      · rw [w3 12 (by decide), m2 12 (by decide) (by decide) (by decide)]
        exact P2.2.2.1 i
    · rw [eD.2 p (fun i hi z => c ⟨i, hi, z⟩), s13, ← h1.at 8 13 (by decide)]
      exact g2 p
  have kA : ∀ h j, h < w + 1 → j < 12 → ehM S n nl w 14 (h * 12 + j) = anewF (ehM S n nl w) n h j := fun h j hh hj => by
    by_cases c : h = w
    · subst c
      rw [e14, eA]
      exact eR.1 j hj
    · have r : ∀ i, i < 12 → S 13 (h * 12 + i) = ehM S n nl w 13 (h * 12 + i) := fun i hi => by
        rw [e13, eD.2 _ (fun k hk => by omega), s13]
      rw [o14 h j (by omega) hj, ra h j (by omega) hj]
      refine anew_all r (fun i hi _ => ?_) hj
      unfold cntR
      rw [← r i hi, eS' 15 (by decide), eS' 16 (by decide), eS' 17 (by decide)]
  have K7 : RK (ehM S n nl w) (endsM T w) n (w + 1) := fun h j hh hj => (kA h j hh hj).trans (anew_eq r7 t7 d7 hj)
  have X7 : RX (ehM S n nl w) nl := fun y hy => by
    unfold ix
    rw [eS' 30 (by decide), eS' 31 (by decide)]
    exact g3 y hy
  obtain ⟨⟨a1, a2, a3⟩, ⟨b1, b2, b3⟩, ⟨c1, c2⟩, d1, d2, d3⟩ := h2
  refine ⟨k1, L', ⟨r7, ⟨⟨ehM_now, endsM_now, by omega⟩, ⟨(ehM_n0 (by decide) (by decide)).trans b1, (endsM_n0 (by decide) (by decide)).trans b2, b3⟩, ⟨(endsM_n0 (by decide) (by decide)).trans c1, c2⟩, ?_, ?_, l3⟩, ⟨t7, d7, X7, K7, fun y hy => ?_, fun y hy => ?_, fun i hi => ?_, fun b x hb hx => ?_⟩, ?_⟩, fun b hb => ?_, fun b hb => ?_⟩
  · refine (up_sn (by decide)).trans ?_
    rw [bhF_n (by decide), eR.2.2 0 (by decide), rdF_n (by decide), w3 0 (by decide), m2 0 (by decide) (by decide) (by decide)]
    exact l1
  · refine (up_sn (by decide)).trans ?_
    rw [up_n (by decide), enF_n (by decide) (by decide) (by decide) (by decide)]
    exact l2
  · have f35 : readF (walkM (eaF (tpF S w 12) 6) w) n w 35 = S 35 := ((up_n (by decide)).trans (bhF_n (by decide) nl)).symm.trans (eS' 35 (by decide))
    have f36 : readF (walkM (eaF (tpF S w 12) 6) w) n w 36 = S 36 := ((up_n (by decide)).trans (bhF_n (by decide) nl)).symm.trans (eS' 36 (by decide))
    have f31 : readF (walkM (eaF (tpF S w 12) 6) w) n w 31 = S 31 := ((up_n (by decide)).trans (bhF_n (by decide) nl)).symm.trans (eS' 31 (by decide))
    have f33 : readF (walkM (eaF (tpF S w 12) 6) w) n w 33 = S 33 := ((up_n (by decide)).trans (bhF_n (by decide) nl)).symm.trans (eS' 33 (by decide))
    have f34 : readF (walkM (eaF (tpF S w 12) 6) w) n w 34 = S 34 := ((up_n (by decide)).trans (bhF_n (by decide) nl)).symm.trans (eS' 34 (by decide))
    have f37 : readF (walkM (eaF (tpF S w 12) 6) w) n w 37 = S 37 := by
      rw [eR.2.2 37 (by decide), rdF_n (by decide), w3 37 (by decide), m2 37 (by decide) (by decide) (by decide)]
      exact n2 37 (by decide) (by decide) (by decide) (by decide) (by decide) (by decide) (by decide)
    have o := g6 y hy
    have cv := cov_nat (h := w) o.1.1 o.2.1.1 (by omega) (by omega) (by omega)
    have b31 : secN S y < 12 := by
      have := (g3 y hy).2.1
      unfold secN
      rw [(g3 y hy).1, nI_clamp (by omega)]
      omega
    have new : rnM (endsM T w) n (w + 1) y = bnF S (ehM S n nl w 14) (w + 1) y := by
      rw [← bn_rn (r7.at 16 30 (by decide)) (r7.at 18 33 (by decide)) (r7.at 19 34 (by decide)) (r7.at 20 35 (by decide)) (r7.at 21 36 (by decide)) X7 hy K7]
      exact bnF_congr (eS' 31 (by decide)) (eS' 33 (by decide)) (eS' 34 (by decide)) (eS' 35 (by decide)) (eS' 36 (by decide))
    have old : S 37 y = bnF S (ehM S n nl w 14) w y := by
      rw [g5 y hy, ← bn_rn (h1.at 16 30 (by decide)) (h1.at 18 33 (by decide)) (h1.at 19 34 (by decide)) (h1.at 20 35 (by decide)) (h1.at 21 36 (by decide)) g3 hy g4]
      exact blF_ext _ (fun k hk => (o14 _ _ (by omega) b31).symm)
    have e37 : ehM S n nl w 37 y = bhF (readF (walkM (eaF (tpF S w 12) 6) w) n w) w nl 37 y := congrFun (up_n (by decide)) y
    rw [new, e37, bhF_v]
    unfold covP rentF secN
    rw [f31, f33, f34, f35, f36, f37, ← e14, old]
    unfold bnF
    by_cases c : ix S 35 y ≤ w ∧ w < ix S 36 y
    · rw [if_pos ⟨hy, cv.mpr c⟩, show min (ix S 36 y) (w + 1) - ix S 35 y = (min (ix S 36 y) w - ix S 35 y) + 1 from by omega]
      show _ = blF S (ehM S n nl w 14) y (ix S 35 y) (min (ix S 36 y) w - ix S 35 y) + rentF S y (ehM S n nl w 14 ((ix S 35 y + (min (ix S 36 y) w - ix S 35 y)) * 12 + secN S y))
      rw [show ix S 35 y + (min (ix S 36 y) w - ix S 35 y) = w from by omega]
      rfl
    · rw [if_neg (fun z => c (cv.mp z.2)), show min (ix S 36 y) (w + 1) - ix S 35 y = min (ix S 36 y) w - ix S 35 y from by omega]
  · unfold ix
    rw [eS' 35 (by decide), eS' 36 (by decide), eT 22 (by decide), eT 21 (by decide)]
    exact ⟨(g6 y hy).1, (g6 y hy).2.1, (g6 y hy).2.2.imp (fun z => z) (fun z => Int32.le_trans z ((nI_leI (by omega) (by omega)).mpr (by omega)))⟩
  · rw [eT 23 (by decide), eT 22 (by decide)]
    exact g7 i hi
  · rw [e2 21 (by decide), show endsM T w 29 = placesM T w 29 from (up_n (by decide)).trans ((up_n (by decide)).trans (enF_n (by decide) (by decide) (by decide) (by decide) 12))]
    exact Q2 b x hb hx
  · unfold RP
    rw [eS' 6 (by decide), eS' 7 (by decide), eS' 12 (by decide), eS' 18 (by decide), e2 25 (by decide)]
    exact ⟨h4.1, h4.2.1, h4.2.2.1, h4.2.2.2.1, B2⟩
  · rw [e2 22 (by decide)]
    exact X2.1 b hb
  · rw [e2 19 (by decide)]
    exact X2.2 b hb
theorem psM_00 : ∀ k, (psM T w k).2 0 0 = nI 0
  | 0 => z0_0 (T := T)
  | k + 1 => by
    have e : (psM T w (k + 1)).2 = endsM (psM T w k).2 (w + k) := rfl
    rw [e]
    exact (endsM_n0 (S := (psM T w k).2) (h := w + k) (j := 0) (by decide) (by decide)).trans (psM_00 k)
theorem ps_all (h : Rel S T n w nl L) (rx : Rx S w) : ∀ k, w + k ≤ 200 → (psC S n nl w k).1 = (psM T w k).1 ∧ ∃ L', Rel (psC S n nl w k).2 (psM T w k).2 n (w + k) nl L' ∧ Rx (psC S n nl w k).2 (w + k)
  | 0, _ => ⟨rfl, L, h.t, rx⟩
  | k + 1, hk => by
    obtain ⟨h1, L1, h2, h3⟩ := ps_all h rx k (by omega)
    obtain ⟨i1, L2, i2, i3⟩ := hour_step h2 h3 (by omega)
    refine ⟨?_, L2, i2, i3⟩
    show (psC S n nl w k).1 + ehV (psC S n nl w k).2 (w + k) = (psM T w k).1 + endsV (psM T w k).2 (w + k)
    rw [h1, i1]
end EH
/-- the two sides hold the same, between calls -/
def Rel2 (S T : Nat → Nat → Int32) (n w nl L : Nat) : Prop := Rel S T n w nl L ∧ Rx S w
theorem Rx.frame {S S' : Nat → Nat → Int32} {w : Nat} (h : Rx S w) (e22 : S' 22 = S 22) (e19 : S' 19 = S 19) : Rx S' w := by
  unfold Rx
  rw [e22, e19]
  exact h
theorem outS_k {S : Nat → Nat → Int32} {R : R3} {k : Nat} (h : R.2.2 k = S k) : outS S R k = S k := by
  unfold outS
  split
  · exact h
  · rfl
section XK
variable {S T : Nat → Nat → Int32} {n w nl L : Nat}
theorem both_setPeople (h : Rel2 S T n w nl L) (s p0 sh : Int32) : Ans (coSetPeople S s p0 sh) (moSetPeople T s p0 sh) ∧ ∃ n' w' L', Rel2 (outS S (coSetPeople S s p0 sh)) (moSetPeople T s p0 sh).2 n' w' nl L' := by
  have x : ∀ k, k ≠ 6 → k ≠ 7 → (coSetPeople S s p0 sh).2.2 k = S k := fun k h6 h7 => by
    unfold coSetPeople
    repeat' split
    all_goals first | exact (up_n h7).trans (up_n h6) | rfl
  exact ⟨a_setPeople h.1.1 s p0 sh, n, w, L, k_setPeople h.1 s p0 sh, h.2.frame (outS_k (x 22 (by decide) (by decide))) (outS_k (x 19 (by decide) (by decide)))⟩
theorem both_setLamp (h : Rel2 S T n w nl L) (s wk b : Int32) : Ans (coSetLamp S s wk b) (moSetLamp T s wk b) ∧ ∃ n' w' L', Rel2 (outS S (coSetLamp S s wk b)) (moSetLamp T s wk b).2 n' w' nl L' := by
  have x : ∀ k, k ≠ 11 → k ≠ 12 → (coSetLamp S s wk b).2.2 k = S k := fun k h6 h7 => by
    unfold coSetLamp
    by_cases c1 : ixP s (nI 12)
    · rw [if_pos c1]
      by_cases c2 : inP b (nI 0) (nI 60)
      · rw [if_pos c2]
        exact (up_n h7).trans (up_n h6)
      · rw [if_neg c2]
    · rw [if_neg c1]
  exact ⟨a_setLamp h.1.1 s wk b, n, w, L, k_setLamp h.1 s wk b, h.2.frame (outS_k (x 22 (by decide) (by decide))) (outS_k (x 19 (by decide) (by decide)))⟩
theorem both_setSkill (h : Rel2 S T n w nl L) (b to : Int32) : Ans (coSetSkill S b to) (moSetSkill T b to) ∧ ∃ n' w' L', Rel2 (outS S (coSetSkill S b to)) (moSetSkill T b to).2 n' w' nl L' := by
  have x : ∀ k, k ≠ 18 → (coSetSkill S b to).2.2 k = S k := fun k h6 => by
    unfold coSetSkill
    repeat' split
    all_goals first | exact up_n h6 | rfl
  exact ⟨a_setSkill h.1.1 b to, n, w, L, k_setSkill h.1 b to, h.2.frame (outS_k (x 22 (by decide))) (outS_k (x 19 (by decide)))⟩
theorem both_pay (h : Rel2 S T n w nl L) (who mo : Int32) : Ans (coPay S nl who mo) (moPay T n w nl who mo) ∧ ∃ n' w' L', Rel2 (outS S (coPay S nl who mo)) (moPay T n w nl who mo).2 n' w' nl L' := by
  have x : ∀ k, k ≠ 5 → (coPay S nl who mo).2.2 k = S k := fun k h6 => by
    unfold coPay
    repeat' split
    all_goals first | exact up_n h6 | rfl
  exact ⟨a_pay (L := L) h.1.1 h.1.2.2.1.2.2.2.2.1 who mo, n, w, L, k_pay h.1 who mo, h.2.frame (outS_k (x 22 (by decide))) (outS_k (x 19 (by decide)))⟩
theorem both_lot (h : Rel2 S T n w nl L) (v : Int32) : Ans (coLot S L v) (moLot T L v) ∧ ∃ n' w' L', Rel2 (outS S (coLot S L v)) (moLot T L v).2 n' w' nl L' := by
  have x : ∀ k, k ≠ 25 → k ≠ 0 → (coLot S L v).2.2 k = S k := fun k h6 h0 => by
    unfold coLot
    repeat' split
    all_goals first | exact (up_n h0).trans (up_n h6) | rfl
  obtain ⟨L', hr⟩ := k_lot h.1 v
  exact ⟨a_lot h.1.2.1.2.2.2.2.2 v, n, w, L', hr, h.2.frame (outS_k (x 22 (by decide) (by decide))) (outS_k (x 19 (by decide) (by decide)))⟩
theorem both_quit (h : Rel2 S T n w nl L) (y : Int32) : Ans (coQuit S w nl y) (moQuit T w y) ∧ ∃ n' w' L', Rel2 (outS S (coQuit S w nl y)) (moQuit T w y).2 n' w' nl L' := by
  have x : ∀ k, k ≠ 36 → (coQuit S w nl y).2.2 k = S k := fun k h6 => by
    unfold coQuit
    repeat' split
    all_goals first | exact up_n h6 | rfl
  exact ⟨a_quit h.1.1 h.1.2.1 h.1.2.2.1.2.2.2.2.2.1 y, n, w, L, k_quit h.1 y, h.2.frame (outS_k (x 22 (by decide))) (outS_k (x 19 (by decide)))⟩
theorem both_ask (h : Rel2 S T n w nl L) (b s : Int32) : Ans (coAsk S b s) (moAsk T b s) ∧ ∃ n' w' L', Rel2 (outS S (coAsk S b s)) (moAsk T b s).2 n' w' nl L' := by
  have x : ∀ k, k ≠ 21 → (coAsk S b s).2.2 k = S k := fun k h6 => by
    unfold coAsk
    repeat' split
    all_goals first | exact up_n h6 | rfl
  obtain ⟨h1, h2⟩ := ask_both h.1 b s
  exact ⟨h1, n, w, L, h2, h.2.frame (outS_k (x 22 (by decide))) (outS_k (x 19 (by decide)))⟩
theorem both_find (h : Rel2 S T n w nl L) (s h0 b : Int32) : Ans (coFind S n w nl s h0 b) (moFind T n w nl s h0 b) ∧ ∃ n' w' L', Rel2 (outS S (coFind S n w nl s h0 b)) (moFind T n w nl s h0 b).2 n' w' nl L' := by
  have x : ∀ k, k ≠ 0 → k ≠ 14 → k ≠ 15 → k ≠ 16 → k ≠ 17 → k ≠ 37 → k ≠ 38 → (coFind S n w nl s h0 b).2.2 k = S k := fun k k0 k14 k15 k16 k17 k37 k38 => by
    unfold coFind
    repeat' split
    all_goals first | exact (fdC_n k14 k37 k38 _).trans (note_n k0 k15 k16 k17) | rfl
  obtain ⟨h1, n', h2⟩ := find_both h.1 s h0 b
  exact ⟨h1, n', w, L, h2, h.2.frame (outS_k (x 22 (by decide) (by decide) (by decide) (by decide) (by decide) (by decide) (by decide))) (outS_k (x 19 (by decide) (by decide) (by decide) (by decide) (by decide) (by decide) (by decide)))⟩
theorem both_turnUp (h : Rel2 S T n w nl L) (s h0 b : Int32) : Ans (coTurnUp S n nl s h0 b) (moTurnUp T n w nl s h0 b) ∧ ∃ n' w' L', Rel2 (outS S (coTurnUp S n nl s h0 b)) (moTurnUp T n w nl s h0 b).2 n' w' nl L' := by
  have x : ∀ k, k ≠ 13 → k ≠ 14 → k ≠ 37 → k ≠ 38 → (coTurnUp S n nl s h0 b).2.2 k = S k := fun k k13 k14 k37 k38 => by
    unfold coTurnUp
    repeat' split
    all_goals first | exact (rcF_n k14 k37 k38).trans (up_n k13) | rfl
  obtain ⟨h1, h2⟩ := turn_both h.1 s h0 b
  exact ⟨h1, n, w, L, h2, h.2.frame (outS_k (x 22 (by decide) (by decide) (by decide) (by decide))) (outS_k (x 19 (by decide) (by decide) (by decide) (by decide)))⟩
theorem both_pass (h : Rel2 S T n w nl L) (hrs : Int32) : Ans (coPass S n nl w hrs) (moPass T w hrs) ∧ ∃ n' w' L', Rel2 (outS S (coPass S n nl w hrs)) (moPass T w hrs).2 n' w' nl L' := by
  have no : ∀ {k : Nat}, ¬ nI k = nI 0 → Ans (flC S k) (flM T k) ∧ ∃ n' w' L', Rel2 (outS S (flC S k)) (flM T k).2 n' w' nl L' := fun {k} hk => ⟨Ans_fl hk, n, w, L, h.1.fl hk, by unfold outS; rw [if_neg hk]; exact h.2⟩
  unfold coPass moPass
  by_cases c1 : inP hrs (nI 1) (nI 50)
  · rw [if_pos c1, if_pos c1]
    by_cases c2 : w + hrs.toNatClampNeg ≤ 200
    · rw [if_pos c2, if_pos c2, outS_0]
      obtain ⟨i1, L', i2, i3⟩ := ps_all h.1 h.2 hrs.toNatClampNeg c2
      exact ⟨⟨(psM_00 _).symm, fun _ => i1⟩, n, _, L', i2, i3⟩
    · rw [if_neg c2, if_neg c2]
      exact no (by decide)
  · rw [if_neg c1, if_neg c1]
    exact no (by decide)
theorem both_lease (h : Rel2 S T n w nl L) (d t b r h0 : Int32) : Ans (coLease S w nl d t b r h0) (moLease T w nl d t b r h0) ∧ ((coLease S w nl d t b r h0).1 = nI 0 → Rel2 (outS S (coLease S w nl d t b r h0)) (moLease T w nl d t b r h0).2 n w (nl + 1) L) ∧ (¬ (coLease S w nl d t b r h0).1 = nI 0 → Rel2 (outS S (coLease S w nl d t b r h0)) (moLease T w nl d t b r h0).2 n w nl L) := by
  have x : ∀ k, k < 30 → k ≠ 0 → (coLease S w nl d t b r h0).2.2 k = S k := fun k h6 hk => by
    unfold coLease
    repeat' split
    all_goals first | exact (up_n hk).trans (lnew_n h6) | rfl
  have f : Rx (outS S (coLease S w nl d t b r h0)) w := h.2.frame (outS_k (x 22 (by decide) (by decide))) (outS_k (x 19 (by decide) (by decide)))
  obtain ⟨k1, k2⟩ := k_lease h.1 d t b r h0
  exact ⟨a_lease h.1.1 h.1.2.1 d t b r h0, fun z => ⟨k1 z, f⟩, fun z => ⟨k2 z, f⟩⟩
/-- calls that change nothing -/
theorem Rel2.t {v : Int32} (h : Rel2 S T n w nl L) : Rel2 S (up T 0 0 v) n w nl L := ⟨h.1.t, h.2⟩
theorem Rel2_init : Rel2 SI TI 0 0 0 0 := ⟨Rel_init, fun b hb => rfl, fun b hb => ⟨0, Nat.le_refl 0, rfl⟩⟩
end XK
