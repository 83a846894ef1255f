/-! leasing keeps the relation; it holds at the start -/
theorem door3 {d : Int32} (h : inP d (nI 0) (nI 35)) : d / nI 3 = nI (d.toNatClampNeg / 3) ∧ d.toNatClampNeg < 36 := by
  obtain ⟨e, b⟩ := inP_nat h (by decide)
  rw [e, pk_div (by omega) (by decide) (by decide), nI_clamp (by omega)]
  exact ⟨rfl, by omega⟩
theorem lnew_own (S : Nat → Nat → Int32) (nl : Nat) (d t b r f e : Int32) : lnew S nl d t b r f e 30 = upd (S 30) nl d ∧ lnew S nl d t b r f e 31 = upd (S 31) nl (d / nI 3) ∧ lnew S nl d t b r f e 32 = upd (S 32) nl t ∧ lnew S nl d t b r f e 33 = upd (S 33) nl b ∧ lnew S nl d t b r f e 34 = upd (S 34) nl r ∧ lnew S nl d t b r f e 35 = upd (S 35) nl f ∧ lnew S nl d t b r f e 36 = upd (S 36) nl e ∧ lnew S nl d t b r f e 37 = upd (S 37) nl (nI 0) ∧ lnew S nl d t b r f e 38 = upd (S 38) nl (nI 0) := by
  refine ⟨?_, ?_, ?_, ?_, ?_, ?_, ?_, ?_, ?_⟩ <;> (funext j; simp [lnew, up])
theorem upd_same {f : Nat → Int32} {i : Nat} {v : Int32} (h : f i = v) : upd f i v = f := funext fun j => by
  by_cases c : j = i
  · subst c
    rw [pk_us, h]
  · exact pk_un c
theorem leM_own (T : Nat → Nat → Int32) (w nl : Nat) (d t b r h : Int32) : (∀ k, k ≠ 0 → k ≠ 16 → k ≠ 17 → k ≠ 18 → k ≠ 19 → k ≠ 20 → k ≠ 21 → leM T w nl d t b r h k = T k) ∧ leM T w nl d t b r h 16 = upd (T 16) nl d ∧ leM T w nl d t b r h 17 = upd (T 17) nl t ∧ leM T w nl d t b r h 18 = upd (T 18) nl b ∧ leM T w nl d t b r h 19 = upd (T 19) nl r ∧ leM T w nl d t b r h 20 = upd (T 20) nl (nI w) ∧ leM T w nl d t b r h 21 = upd (T 21) nl (nI (w + h.toNatClampNeg)) := by
  refine ⟨fun k a b c d e f g => ?_, ?_, ?_, ?_, ?_, ?_, ?_⟩ <;> (funext j; simp [leM, up, *])
def SI : Nat → Nat → Int32 := S0
/-- the reference's memory at the start -/
def TI : Nat → Nat → Int32 := fun k => if k = 26 then flR zR (nI 10) 6 else zR
theorem zR_bd (m : Nat) : bd zR m := fun _ => ⟨0, Nat.zero_le _, rfl⟩
theorem bit0 : ∀ x : Nat, x < 12 → nI 0 >>> (nI x &&& 31) &&& nI 1 = nI 0 := by decide
theorem Rel_init : Rel SI TI 0 0 0 0 := by
  refine ⟨fun p hp => ?_, ⟨⟨rfl, rfl, by decide⟩, ⟨rfl, rfl, by decide⟩, ⟨rfl, by decide⟩, rfl, rfl, by decide⟩, ⟨fun k hk => absurd hk (Nat.not_lt_zero _), fun i => Or.inr ⟨0, by decide, rfl⟩, fun y hy => absurd hy (Nat.not_lt_zero _), fun a x ha hx => absurd ha (Nat.not_lt_zero _), fun y hy => absurd hy (Nat.not_lt_zero _), fun y hy => absurd hy (Nat.not_lt_zero _), fun i hi => ⟨rfl, rfl⟩, fun b x hb hx => (bit0 x hx).trans (if_pos rfl).symm⟩, zR_bd _, zR_bd _, zR_bd _, ?_, zR_bd _⟩
  · have key : ∀ p ∈ rmap, (p.1 = 26 ↔ p.2 = 18) := by decide
    show (if p.1 = 26 then flR zR (nI 10) 6 else zR) = (if p.2 = 18 then flR zR (nI 10) 6 else zR)
    by_cases c : p.1 = 26
    · rw [if_pos c, if_pos ((key p hp).mp c)]
    · rw [if_neg c, if_neg (fun z => c ((key p hp).mpr z))]
  · have fl : ∀ k, bd (flR zR (nI 10) k) 50 := fun k => by
      induction k with
      | zero => exact zR_bd _
      | succ k ih => exact ih.upd ⟨10, by decide, rfl⟩
    exact fl 6
theorem rmap_ls : ∀ p ∈ rmap, (p = (16, 30) ∨ p = (17, 32) ∨ p = (18, 33) ∨ p = (19, 34) ∨ p = (20, 35) ∨ p = (21, 36) ∨ p = (23, 38)) ∨ (p.1 ≠ 0 ∧ p.1 ≠ 16 ∧ p.1 ≠ 17 ∧ p.1 ≠ 18 ∧ p.1 ≠ 19 ∧ p.1 ≠ 20 ∧ p.1 ≠ 21 ∧ p.2 < 30 ∧ p.2 ≠ 0) := by decide
theorem Rel_lease {S T : Nat → Nat → Int32} {n w nl L : Nat} (h : Rel S T n w nl L) {d t b r h0 : Int32} {v : Int32} (hd : inP d (nI 0) (nI 35)) (hh : inP h0 (nI 1) (nI 100)) (hn : nl < 30) : Rel (up (lnew S nl d t b r (nI w) (nI (w + h0.toNatClampNeg))) 0 3 v) (leM T w nl d t b r h0) n w (nl + 1) L := by
  obtain ⟨h1, h2, ⟨g1, g2, g3, g4, g5, g6, g7, g8⟩, h4⟩ := h
  obtain ⟨o30, o31, o32, o33, o34, o35, o36, o37, o38⟩ := lnew_own S nl d t b r (nI w) (nI (w + h0.toNatClampNeg))
  obtain ⟨eT, p16, p17, p18, p19, p20, p21⟩ := leM_own T w nl d t b r h0
  have lo : ∀ k, k ≠ 0 → k < 30 → up (lnew S nl d t b r (nI w) (nI (w + h0.toNatClampNeg))) 0 3 v k = S k := fun k h0 hk => (up_n h0).trans (lnew_n hk)
  have hi : ∀ k, k ≠ 0 → up (lnew S nl d t b r (nI w) (nI (w + h0.toNatClampNeg))) 0 3 v k = lnew S nl d t b r (nI w) (nI (w + h0.toNatClampNeg)) k := fun k h0 => up_n h0
  have ho : ∀ k, k ≠ 0 → ∀ i, i ≠ nl → up (lnew S nl d t b r (nI w) (nI (w + h0.toNatClampNeg))) 0 3 v k i = S k i := fun k hk i h => (congrFun (up_n hk) i).trans (lnew_o h k)
  have hw := h2.1.2.2
  have hb := (inP_nat1 hh (by decide)).2
  have d3 := door3 hd
  have e8 : leM T w nl d t b r h0 8 = T 8 := eT 8 (by decide) (by decide) (by decide) (by decide) (by decide) (by decide) (by decide)
  have e12 : leM T w nl d t b r h0 12 = T 12 := eT 12 (by decide) (by decide) (by decide) (by decide) (by decide) (by decide) (by decide)
  have e13 : leM T w nl d t b r h0 13 = T 13 := eT 13 (by decide) (by decide) (by decide) (by decide) (by decide) (by decide) (by decide)
  have e14 : leM T w nl d t b r h0 14 = T 14 := eT 14 (by decide) (by decide) (by decide) (by decide) (by decide) (by decide) (by decide)
  have e22 : leM T w nl d t b r h0 22 = T 22 := eT 22 (by decide) (by decide) (by decide) (by decide) (by decide) (by decide) (by decide)
  have e23 : leM T w nl d t b r h0 23 = T 23 := eT 23 (by decide) (by decide) (by decide) (by decide) (by decide) (by decide) (by decide)
  have e29 : leM T w nl d t b r h0 29 = T 29 := eT 29 (by decide) (by decide) (by decide) (by decide) (by decide) (by decide) (by decide)
  refine ⟨fun p hp => ?_, ?_, ⟨fun k hk => by rw [e14]; exact g1 k hk, fun i => by rw [e8]; exact g2 i, fun y hy => ?_, fun a x ha hx => ?_, fun y hy => ?_, fun y hy => ?_, fun i hi => by rw [e22, e23]; exact g7 i (by omega), fun b x hb hx => by rw [e29, lo 21 (by decide) (by decide)]; exact g8 b x hb hx⟩, h4.frame (fun k hk => lo k (by omega) (by omega))⟩
  · rcases rmap_ls p hp with c | ⟨c0, c1, c2, c3, c4, c5, c6, c7, c8⟩
    · rcases c with c | c | c | c | c | c | c <;> subst c
      · show leM T w nl d t b r h0 16 = _; rw [p16, hi 30 (by decide), o30, h1.at 16 30 (by decide)]
      · show leM T w nl d t b r h0 17 = _; rw [p17, hi 32 (by decide), o32, h1.at 17 32 (by decide)]
      · show leM T w nl d t b r h0 18 = _; rw [p18, hi 33 (by decide), o33, h1.at 18 33 (by decide)]
      · show leM T w nl d t b r h0 19 = _; rw [p19, hi 34 (by decide), o34, h1.at 19 34 (by decide)]
      · show leM T w nl d t b r h0 20 = _; rw [p20, hi 35 (by decide), o35, h1.at 20 35 (by decide)]
      · show leM T w nl d t b r h0 21 = _; rw [p21, hi 36 (by decide), o36, h1.at 21 36 (by decide)]
      · show leM T w nl d t b r h0 23 = _
        rw [e23, hi 38 (by decide), o38, upd_same (by rw [← h1.at 23 38 (by decide)]; exact (g7 nl (Nat.le_refl _)).1)]
        exact h1.at 23 38 (by decide)
    · rw [eT p.1 c0 c1 c2 c3 c4 c5 c6, lo p.2 c8 c7]
      exact h1 p hp
  · obtain ⟨⟨a1, a2, a3⟩, ⟨b1, b2, b3⟩, ⟨c1, c2⟩, d1, d2, d3⟩ := h2
    have s0 : ∀ j, j ≠ 3 → up (lnew S nl d t b r (nI w) (nI (w + h0.toNatClampNeg))) 0 3 v 0 j = S 0 j := fun j hj => (up_sn hj).trans (congrFun (lnew_n (by decide)) j)
    have t0 : ∀ j, j ≠ 0 → j ≠ 15 → leM T w nl d t b r h0 0 j = T 0 j := fun j hj h15 => by
      unfold leM
      exact (up_sn h15).trans ((congrFun ((up_n (by decide)).trans ((up_n (by decide)).trans ((up_n (by decide)).trans ((up_n (by decide)).trans ((up_n (by decide)).trans (up_n (by decide))))))) j).trans (up_sn hj))
    have t15 : leM T w nl d t b r h0 0 15 = nI (nl + 1) := up_si _ _ _ _
    exact ⟨⟨(s0 0 (by decide)).trans a1, (t0 1 (by decide) (by decide)).trans a2, a3⟩, ⟨(s0 1 (by decide)).trans b1, (t0 11 (by decide) (by decide)).trans b2, b3⟩, ⟨t15, by omega⟩, (s0 2 (by decide)).trans d1, (t0 31 (by decide) (by decide)).trans d2, d3⟩
  · by_cases c : y = nl
    · subst c
      unfold ix
      rw [hi 31 (by decide), hi 30 (by decide), o31, o30, pk_us, pk_us]
      exact ⟨d3.1, d3.2, (inP_nat hd (by decide)).1⟩
    · unfold ix
      rw [ho 31 (by decide) y c, ho 30 (by decide) y c]
      exact g3 y (by omega)
  · rw [lo 14 (by decide) (by decide), coM_congr e8 e12 e13 e14]
    exact g4 a x ha hx
  · by_cases c : y = nl
    · subst c
      have q20 : ix (leM T w y d t b r h0) 20 y = w := by unfold ix; rw [p20, pk_us, nI_clamp (by omega)]
      have q21 : ix (leM T w y d t b r h0) 21 y = w + h0.toNatClampNeg := by unfold ix; rw [p21, pk_us, nI_clamp (by omega)]
      unfold rnM
      rw [q20, q21, Nat.min_eq_right (by omega), Nat.sub_self, hi 37 (by decide), o37, pk_us]
      rfl
    · rw [ho 37 (by decide) y c, g5 y (by omega)]
      exact (rnM_congr e8 e12 e13 e14 (by rw [p16, pk_un c]) (by rw [p18, pk_un c]) (by rw [p19, pk_un c]) (by rw [p20, pk_un c]) (by rw [p21, pk_un c]) n w).symm
  · by_cases c : y = nl
    · subst c
      unfold ix
      rw [hi 35 (by decide), hi 36 (by decide), o35, o36, pk_us, pk_us, nI_clamp (by omega), nI_clamp (by omega), e22]
      exact ⟨⟨rfl, by omega⟩, ⟨rfl, by omega⟩, Or.inl (g7 y (Nat.le_refl _)).2⟩
    · unfold ix
      rw [ho 35 (by decide) y c, ho 36 (by decide) y c, e22, p21, pk_un c]
      exact g6 y (by omega)
