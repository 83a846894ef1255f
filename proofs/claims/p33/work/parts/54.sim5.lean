/-! lots, quitting and leasing keep the relation; it holds at the start -/
theorem k_lot {S T : Nat → Nat → Int32} {n w nl L : Nat} (h : Rel S T n w nl L) (v : Int32) : ∃ L', Rel (outS S (coLot S L v)) (moLot T L v).2 n w nl L' := by
  unfold coLot moLot
  by_cases c1 : inP v (nI 0) (nI 1000)
  · rw [if_pos c1, if_pos c1]
    by_cases c2 : L < 50
    · rw [if_pos c2, if_neg (show ¬ L = 50 by omega), outS_0]
      obtain ⟨h1, h2, h3, h4⟩ := h.t (v := nI 0)
      show ∃ L', Rel (up (up S 25 L v) 0 2 (nI (L + 1))) (up (up (z0 T) 32 L v) 0 31 (nI (L + 1))) n w nl L'
      refine ⟨L + 1, ((h1.both (by decide)).z').z, ?_, h3.frame (fun k hk => (up_n (by omega)).trans (up_n (by omega))) (fun k hk => (up_n (by omega)).trans (up_n (by omega))), ?_⟩
      · obtain ⟨⟨a1, a2, a3⟩, ⟨b1, b2, b3⟩, ⟨c1, c2⟩, d1, d2, d3⟩ := (h2.n (k := 25) (i := L) (v := v) (by decide)).m (k := 32) (i := L) (v := v) (by decide)
        exact ⟨⟨(up_sn (by decide)).trans a1, (up_sn (by decide)).trans a2, a3⟩, ⟨(up_sn (by decide)).trans b1, (up_sn (by decide)).trans b2, b3⟩, ⟨(up_sn (by decide)).trans c1, c2⟩, up_si _ _ _ _, up_si _ _ _ _, by omega⟩
      · have e25 : up (up S 25 L v) 0 2 (nI (L + 1)) 25 = upd (S 25) L v := (up_n (by decide)).trans (up_s _ _ _ _)
        have e : ∀ k, k ≠ 0 → k ≠ 25 → up (up S 25 L v) 0 2 (nI (L + 1)) k = S k := fun k k0 k25 => (up_n k0).trans (up_n k25)
        unfold RP
        rw [e25, e 6 (by decide) (by decide), e 7 (by decide) (by decide), e 12 (by decide) (by decide), e 18 (by decide) (by decide)]
        exact ⟨h4.1, h4.2.1, h4.2.2.1, h4.2.2.2.1, h4.2.2.2.2.upd (bd_in c1 (by decide))⟩
    · rw [if_neg c2, if_pos (show L = 50 by have := h.2.1.2.2.2.2.2; omega)]
      exact ⟨L, h.fl (by decide)⟩
  · rw [if_neg c1, if_neg c1]
    exact ⟨L, h.fl (by decide)⟩
theorem k_quit {S T : Nat → Nat → Int32} {n w nl L : Nat} (h : Rel S T n w nl L) (y : Int32) : Rel (outS S (coQuit S w nl y)) (moQuit T w y).2 n w nl L := by
  unfold coQuit moQuit
  have hs := h.2.1
  by_cases c1 : ixP y (nI nl)
  · rw [if_pos c1, if_pos ((ixl hs.nl0 hs.nl.2).mp c1), h.1.at 21 36 (by decide), h.1.at 20 35 (by decide)]
    have hy := (ixP_nat c1 hs.nl.2).2
    generalize y.toNatClampNeg = j at hy
    have hj := h.2.2.1.2.2.2.2.2.1 j hy
    by_cases c2 : S 36 j ≤ nI w
    · rw [if_pos c2, if_pos c2]
      by_cases c3 : T 22 j = 0
      · rw [if_pos c3]
        exact h.fl (by decide)
      · rw [if_neg c3]
        exact h.fl (by decide)
    · have c3 : T 22 j = 0 := hj.2.2.resolve_right (fun z => c2 (by rw [← h.1.at 21 36 (by decide)]; exact z))
      rw [if_neg c2, if_pos c3, if_neg c2, outS_0]
      obtain ⟨h1, h2, ⟨g1, g2, g3, g4, g5, g6, g7, g8⟩, h4⟩ := h.t (v := nI 0)
      have hw := hs.1.2.2
      have hlt : w < ix S 36 j := by
        have e := hj.2.1
        rw [e.1] at c2
        exact Nat.lt_of_not_le (fun z => c2 ((nI_leI (by omega) (by omega)).mpr z))
      have eS : ∀ k, k ≠ 36 → up S 36 j (nI w) k = S k := fun k hk => up_n hk
      have eT : ∀ k, k ≠ 21 → k ≠ 22 → k ≠ 0 → up (up (z0 T) 22 j (nI 1)) 21 j (nI w) k = z0 T k := fun k k1 k2 _ => (up_n k1).trans (up_n k2)
      have e21 : ∀ i, i ≠ j → up (up (z0 T) 22 j (nI 1)) 21 j (nI w) 21 i = z0 T 21 i := fun i hi => (up_sn hi).trans (congrFun (up_n (by decide)) i)
      have e21j : up (up (z0 T) 22 j (nI 1)) 21 j (nI w) 21 j = nI w := up_si _ _ _ _
      have e22 : ∀ i, i ≠ j → up (up (z0 T) 22 j (nI 1)) 21 j (nI w) 22 i = z0 T 22 i := fun i hi => (congrFun (up_n (by decide)) i).trans (up_sn hi)
      show Rel (up S 36 j (nI w)) (up (up (z0 T) 22 j (nI 1)) 21 j (nI w)) n w nl L
      refine ⟨RR.both (h1.right (by decide)) (by decide), ((h2.n (by decide)).m (by decide)).m (by decide), ⟨fun k hk => ?_, fun i => ?_, fun i hi => ?_, fun a x ha hx => ?_, fun i hi => ?_, fun i hi => ?_, fun i hi => ?_, fun b x hb hx => ?_⟩, h4.frame (fun k hk => eS k (by omega))⟩
      · rw [eT 14 (by decide) (by decide) (by decide)]; exact g1 k hk
      · rw [eT 8 (by decide) (by decide) (by decide)]; exact g2 i
      · unfold ix; rw [eS 31 (by decide), eS 30 (by decide)]; exact g3 i hi
      · rw [eS 14 (by decide), coM_congr (eT 8 (by decide) (by decide) (by decide)) (eT 12 (by decide) (by decide) (by decide)) (eT 13 (by decide) (by decide) (by decide)) (eT 14 (by decide) (by decide) (by decide))]; exact g4 a x ha hx
      · rw [eS 37 (by decide), g5 i hi]
        by_cases c : i = j
        · subst c
          have e0 : ix (z0 T) 21 i = ix S 36 i := by unfold ix; rw [show z0 T 21 = S 36 from h1.at 21 36 (by decide)]
          have e1 : ix (up (up (z0 T) 22 i (nI 1)) 21 i (nI w)) 21 i = w := by unfold ix; rw [e21j, nI_clamp (by omega)]
          unfold rnM
          rw [e0, e1, Nat.min_eq_right (Nat.le_of_lt hlt), Nat.min_self]
          have e16 : ix (up (up (z0 T) 22 i (nI 1)) 21 i (nI w)) 16 i = ix (z0 T) 16 i := by unfold ix; rw [eT 16 (by decide) (by decide) (by decide)]
          have e20 : ix (up (up (z0 T) 22 i (nI 1)) 21 i (nI w)) 20 i = ix (z0 T) 20 i := by unfold ix; rw [eT 20 (by decide) (by decide) (by decide)]
          rw [e16, e20]
          exact (rtF_congr (eT 8 (by decide) (by decide) (by decide)) (eT 12 (by decide) (by decide) (by decide)) (eT 13 (by decide) (by decide) (by decide)) (eT 14 (by decide) (by decide) (by decide)) (congrFun (eT 18 (by decide) (by decide) (by decide)) i) (congrFun (eT 19 (by decide) (by decide) (by decide)) i) n _ _ _).symm
        · exact (rnM_congr (eT 8 (by decide) (by decide) (by decide)) (eT 12 (by decide) (by decide) (by decide)) (eT 13 (by decide) (by decide) (by decide)) (eT 14 (by decide) (by decide) (by decide)) (congrFun (eT 16 (by decide) (by decide) (by decide)) i) (congrFun (eT 18 (by decide) (by decide) (by decide)) i) (congrFun (eT 19 (by decide) (by decide) (by decide)) i) (congrFun (eT 20 (by decide) (by decide) (by decide)) i) (e21 i c) n w).symm
      · by_cases c : i = j
        · subst c
          refine ⟨?_, ?_, Or.inr ?_⟩
          · unfold ix; rw [eS 35 (by decide)]; exact (g6 i hi).1
          · unfold ix; rw [up_si, nI_clamp (by omega)]; exact ⟨rfl, by omega⟩
          · rw [e21j]; exact Int32.le_refl _
        · unfold ix
          rw [eS 35 (by decide), show up S 36 j (nI w) 36 i = S 36 i from up_sn c, e21 i c, e22 i c]
          exact g6 i hi
      · rw [eT 23 (by decide) (by decide) (by decide), e22 i (by omega)]; exact g7 i hi
      · rw [eT 29 (by decide) (by decide) (by decide), eS 21 (by decide)]; exact g8 b x hb hx
  · rw [if_neg c1, if_neg (fun z => c1 ((ixl hs.nl0 hs.nl.2).mpr z))]
    exact h.fl (by decide)
