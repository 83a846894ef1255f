/-! quitting and leasing: codes and answers -/
/-- leases' hours are small numbers; one that was quit has ended -/
def RE (S T : Nat → Nat → Int32) (w nl : Nat) : Prop := ∀ y, y < nl → (S 35 y = nI (ix S 35 y) ∧ ix S 35 y ≤ 200) ∧ (S 36 y = nI (ix S 36 y) ∧ ix S 36 y ≤ 300) ∧ (T 22 y = 0 ∨ T 21 y ≤ nI w)
theorem a_quit {S T : Nat → Nat → Int32} {n w nl L : Nat} (h : RR S T) (hs : RS S T n w nl L) (he : RE S T w nl) (y : Int32) : Ans (coQuit S w nl y) (moQuit T w y) := by
  unfold coQuit moQuit
  by_cases c1 : ixP y (nI nl)
  · rw [if_pos c1, if_pos ((ixl hs.nl0 hs.nl.2).mp c1), h.at 21 36 (by decide), h.at 20 35 (by decide)]
    have hy := (ixP_nat c1 hs.nl.2).2
    by_cases c2 : S 36 y.toNatClampNeg ≤ nI w
    · rw [if_pos c2, if_pos c2]
      by_cases c3 : T 22 y.toNatClampNeg = 0
      · rw [if_pos c3]
        exact Ans_fl (by decide)
      · rw [if_neg c3]
        exact Ans_fl (by decide)
    · have c3 : T 22 y.toNatClampNeg = 0 := (he _ hy).2.2.resolve_right (fun z => c2 (by rw [← h.at 21 36 (by decide)]; exact z))
      rw [if_neg c2, if_pos c3, if_neg c2]
      exact Ans_ok rfl ((congrFun ((up_n (by decide)).trans (up_n (by decide))) 0).trans z0_0)
  · rw [if_neg c1, if_neg (fun z => c1 ((ixl hs.nl0 hs.nl.2).mpr z))]
    exact Ans_fl (by decide)
theorem dh_fr {S T : Nat → Nat → Int32} (h : RR S T) (nl : Nat) (d t b r f e : Int32) : ∀ k, k ≤ nl → (dhC (lnew S nl d t b r f e) nl k = true ↔ ¬ frF (up T 0 0 (nI 0)) d f e k = true)
  | 0, _ => ⟨fun z => (by cases z), fun z => absurd rfl z⟩
  | k + 1, hk => by
    have ih := dh_fr h nl d t b r f e k (by omega)
    have n30 : lnew S nl d t b r f e 30 nl = d := by simp [lnew, up, upd]
    have n35 : lnew S nl d t b r f e 35 nl = f := by simp [lnew, up, upd]
    have n36 : lnew S nl d t b r f e 36 nl = e := by simp [lnew, up, upd]
    have ho : ∀ j, lnew S nl d t b r f e j k = S j k := lnew_o (by omega)
    have t0 : ∀ j, j ≠ 0 → up T 0 0 (nI 0) j = T j := fun j hj => up_n hj
    unfold dhC frF
    rw [t0 16 (by decide), t0 20 (by decide), t0 21 (by decide), h.at 16 30 (by decide), h.at 20 35 (by decide), h.at 21 36 (by decide), Bool.or_eq_true, decide_eq_true_iff, ih]
    unfold clP
    rw [n30, n35, n36, ho, ho, ho]
    by_cases c0 : frF (up T 0 0 (nI 0)) d f e k = true
    · rw [if_pos c0]
      by_cases c1 : S 30 k = d
      · rw [if_pos c1]
        by_cases c2 : S 35 k < e
        · rw [if_pos c2]
          by_cases c3 : S 36 k ≤ f
          · rw [if_pos c3]
            exact ⟨fun z => z.elim (fun z => absurd c0 z) (fun z => absurd c3 (Int32.not_le.mpr z.2.2)), fun z => absurd rfl z⟩
          · rw [if_neg c3]
            exact ⟨fun _ => by decide, fun _ => Or.inr ⟨c1, c2, Int32.not_le.mp c3⟩⟩
        · rw [if_neg c2]
          exact ⟨fun z => z.elim (fun z => absurd c0 z) (fun z => absurd z.2.1 c2), fun z => absurd rfl z⟩
      · rw [if_neg c1]
        exact ⟨fun z => z.elim (fun z => absurd c0 z) (fun z => absurd z.1 c1), fun z => absurd rfl z⟩
    · rw [if_neg c0]
      exact ⟨fun _ => by decide, fun _ => Or.inl c0⟩
theorem a_lease {S T : Nat → Nat → Int32} {n w nl L : Nat} (h : RR S T) (hs : RS S T n w nl L) (d t b r h0 : Int32) : Ans (coLease S w nl d t b r h0) (moLease T w nl d t b r h0) := by
  unfold coLease moLease
  by_cases c1 : inP d (nI 0) (nI 35)
  · rw [if_pos (ix36.mpr c1), if_pos c1]
    by_cases c2 : inP t (nI 0) (nI 5)
    · rw [if_pos (ix6.mpr c2), if_pos c2]
      by_cases c3 : inP b (nI 0) (nI 50)
      · rw [if_pos c3, if_pos c3]
        by_cases c4 : inP r (nI 0) (nI 50)
        · rw [if_pos c4, if_pos c4]
          by_cases c5 : inP h0 (nI 1) (nI 100)
          · rw [if_pos c5, if_pos c5]
            have hnl := hs.2.2.1.2
            by_cases c6 : nl < 30
            · rw [if_pos c6, if_neg (show ¬ nl = 30 by omega)]
              have hd := dh_fr h nl d t b r (nI w) (nI (w + h0.toNatClampNeg)) nl (Nat.le_refl _)
              by_cases c7 : frF (up T 0 0 (nI 0)) d (nI w) (nI (w + h0.toNatClampNeg)) nl = true
              · rw [if_neg (fun z => hd.mp z c7), if_pos c7]
                refine Ans_ok rfl ?_
                unfold leM
                exact (up_sn (by decide)).trans ((congrFun ((up_n (by decide)).trans ((up_n (by decide)).trans ((up_n (by decide)).trans ((up_n (by decide)).trans ((up_n (by decide)).trans (up_n (by decide))))))) 0).trans z0_0)
              · rw [if_pos (hd.mpr c7), if_neg c7]
                exact Ans_fl (by decide)
            · rw [if_neg c6, if_pos (show nl = 30 by omega)]
              exact Ans_fl (by decide)
          · rw [if_neg c5, if_neg c5]
            exact Ans_fl (by decide)
        · rw [if_neg c4, if_neg c4]
          exact Ans_fl (by decide)
      · rw [if_neg c3, if_neg c3]
        exact Ans_fl (by decide)
    · rw [if_neg (fun z => c2 (ix6.mp z)), if_neg c2]
      exact Ans_fl (by decide)
  · rw [if_neg (fun z => c1 (ix36.mp z)), if_neg c1]
    exact Ans_fl (by decide)
