/-! asking -/
theorem ak_ac {S T : Nat → Nat → Int32} (h : RQ S T) {b : Nat} (hb : b < 6) : ∀ i, i ≤ 12 → akF S b i = acF T b i
  | 0, _ => rfl
  | i + 1, hi => by
    unfold akF acF
    rw [ak_ac h hb i (by omega), h b i hb (by omega)]
theorem RQ_set {S T : Nat → Nat → Int32} (h : RQ S T) {b s : Nat} (hb : b < 6) (hs : s < 12) : RQ (up S 21 (b * 12 + s) (nI 1)) (up (z0 T) 29 b (T 29 b ||| nI 1 <<< (nI s &&& 31))) := fun b9 x hb9 hx => by
  by_cases c : b9 = b
  · subst c
    rw [up_si, q_set _ (by omega) (by omega)]
    by_cases d : x = s
    · subst d
      rw [if_pos rfl, up_si, if_neg (by decide)]
    · rw [if_neg d, up_sn (by omega)]
      exact h b9 x hb9 hx
  · rw [up_sn c, up_sn (by omega), z0_n (by decide)]
    exact h b9 x hb9 hx
theorem Rel_ask {S T : Nat → Nat → Int32} {n w nl L : Nat} (h : Rel S T n w nl L) {b s : Nat} (hb : b < 6) (hs : s < 12) : Rel (up S 21 (b * 12 + s) (nI 1)) (up (z0 T) 29 b (T 29 b ||| nI 1 <<< (nI s &&& 31))) n w nl L := by
  obtain ⟨h1, h2, ⟨g1, g2, g3, g4, g5, g6, g7, g8⟩, h4⟩ := h
  have hq := RQ_set g8 hb hs
  have e : ∀ k, k ≠ 29 → k ≠ 0 → up (z0 T) 29 b (T 29 b ||| nI 1 <<< (nI s &&& 31)) k = T k := fun k h9 h0 => (up_n h9).trans (z0_n h0)
  have e2 : ∀ k, k ≠ 21 → up S 21 (b * 12 + s) (nI 1) k = S k := fun k hk => up_n hk
  refine ⟨((h1.z).right (by decide)).left (by decide), ((h2.t).m (by decide)).n (by decide), ⟨fun k hk => by rw [e 14 (by decide) (by decide)]; exact g1 k hk, fun i => by rw [e 8 (by decide) (by decide)]; exact g2 i, fun y hy => by unfold ix; rw [e2 31 (by decide), e2 30 (by decide)]; exact g3 y hy, fun a x ha hx => ?_, fun y hy => ?_, fun y hy => ?_, fun i hi => by rw [e 23 (by decide) (by decide), e 22 (by decide) (by decide)]; exact g7 i hi, hq⟩, h4.frame (fun k hk => e2 k (by omega))⟩
  · rw [e2 14 (by decide), coM_congr (e 8 (by decide) (by decide)) (e 12 (by decide) (by decide)) (e 13 (by decide) (by decide)) (e 14 (by decide) (by decide))]
    exact g4 a x ha hx
  · rw [e2 37 (by decide), rnM_congr (e 8 (by decide) (by decide)) (e 12 (by decide) (by decide)) (e 13 (by decide) (by decide)) (e 14 (by decide) (by decide)) (congrFun (e 16 (by decide) (by decide)) y) (congrFun (e 18 (by decide) (by decide)) y) (congrFun (e 19 (by decide) (by decide)) y) (congrFun (e 20 (by decide) (by decide)) y) (congrFun (e 21 (by decide) (by decide)) y)]
    exact g5 y hy
  · unfold ix
    rw [e2 35 (by decide), e2 36 (by decide), e 21 (by decide) (by decide), e 22 (by decide) (by decide)]
    exact g6 y hy
theorem ask_both {S T : Nat → Nat → Int32} {n w nl L : Nat} (h : Rel S T n w nl L) (b s : Int32) : Ans (coAsk S b s) (moAsk T b s) ∧ Rel (outS S (coAsk S b s)) (moAsk T b s).2 n w nl L := by
  unfold coAsk moAsk
  by_cases c1 : inP b (nI 0) (nI 5)
  · rw [if_pos (ix6.mpr c1), if_pos c1]
    by_cases c2 : inP s (nI 0) (nI 11)
    · rw [if_pos (ix12.mpr c2), if_pos c2]
      have hb := (inP_nat c1 (by decide)).2
      have hs := (inP_nat c2 (by decide)).2
      have hq := h.2.2.1.2.2.2.2.2.2.2 b.toNatClampNeg s.toNatClampNeg (by omega) (by omega)
      by_cases c3 : S 21 (b.toNatClampNeg * 12 + s.toNatClampNeg) = 0
      · rw [if_pos c3] at hq
        rw [if_pos c3, if_neg (by rw [hq]; decide), outS_0]
        have hr := Rel_ask h (b := b.toNatClampNeg) (s := s.toNatClampNeg) (by omega) (by omega)
        exact ⟨Ans_ok (ak_ac hr.2.2.1.2.2.2.2.2.2.2 (by omega) 12 (Nat.le_refl _)) ((congrFun (up_n (by decide)) 0).trans z0_0), hr⟩
      · rw [if_neg c3] at hq
        rw [if_neg c3, if_pos hq]
        exact ⟨Ans_fl (by decide), h.fl (by decide)⟩
    · rw [if_neg (fun z => c2 (ix12.mp z)), if_neg c2]
      exact ⟨Ans_fl (by decide), h.fl (by decide)⟩
  · rw [if_neg (fun z => c1 (ix6.mp z)), if_neg c1]
    exact ⟨Ans_fl (by decide), h.fl (by decide)⟩
