/-! an hour of the law is an hour of the class -/
theorem yHs_00 {w x : Nat} {t : yQ} : (yHs w x t).2.2.2 0 0 = t.2.2.2 0 0 := by
  have a : yHM w x t 0 0 = t.2.2.2 0 0 := by
    unfold yHM
    rw [up_n (by decide)]
    exact yPm_0j (by decide)
  unfold yHs yH1
  dsimp only
  unfold yPut
  rw [up_n (by decide), up_n (by decide), up_n (by decide)]
  unfold yHu
  split
  · exact a
  · rw [up_n (by decide), up_n (by decide)]
    exact a
theorem yHf_00 {S : Nat → Nat → Int32} {w : Nat} : ∀ x, (yHf S w x).2.2.2 0 0 = S 0 0
  | 0 => rfl
  | x + 1 => (yHs_00 (w := w) (x := x) (t := yHf S w x)).trans (yHf_00 x)
theorem yAs_v {M : Nat → Nat → Int32} : ∀ b, b ≤ 6 → (∀ i, i < 18 ∨ 24 ≤ i → yAs M b 9 i = M 9 i) ∧ ∀ i, i < b → yAs M b 9 (18 + i) = nI 0
  | 0, _ => ⟨fun _ _ => rfl, fun i hi => absurd hi (Nat.not_lt_zero i)⟩
  | b + 1, hb => by
    obtain ⟨h1, h2⟩ := yAs_v (M := M) b (by omega)
    refine ⟨fun i hi => ?_, fun i hi => ?_⟩
    · show up (yAs M b) 9 (18 + b) (nI 0) 9 i = _
      rw [up_sn (by omega)]
      exact h1 i hi
    · show up (yAs M b) 9 (18 + b) (nI 0) 9 (18 + i) = _
      by_cases c : i = b
      · subst c
        exact up_si _ _ _ _
      · rw [up_sn (by omega)]
        exact h2 i (by omega)
theorem wkF_0 {B : Nat → Nat → Int32} {w : Nat} : (wkF B w 0).2.2 = B := rfl
section M8
variable {S C T T2 : Nat → Nat → Int32} {n w nl L tn : Nat}
theorem hj_all (hA : LAd S C) (hU : LUd S C tn) (hZ : LZd S w) (hP : RP C) (hh : ∀ x, x ≤ 12 → (∀ b, b < 6 → ∃ v, v ≤ 199 ∧ tpF C w x 19 b = nI v) ∧ bd (tpF C w x 25) 1000) (hwk : ∀ x, x ≤ 12 → WK (eaF (tpF C w 12) 6) T2 w x) (h0 : HJ S C w 0 (nI 0, nI 0, nI 0, S)) : ∀ x, x ≤ 12 → HJ S C w x (yHf S w x) ∧ ∀ y, y < x → yHk w y (yHf S w y)
  | 0, _ => ⟨h0, fun y hy => absurd hy (Nat.not_lt_zero y)⟩
  | x + 1, hx => by
    obtain ⟨ih, ik⟩ := hj_all hA hU hZ hP hh hwk h0 x (by omega)
    obtain ⟨s1, s2⟩ := hj_step hA hU hZ hP (hh x (by omega)).1 (hh x (by omega)).2 (hwk x (by omega)) (hwk (x + 1) hx) (by omega) ih
    refine ⟨s1, fun y hy => ?_⟩
    by_cases c : y = x
    · subst c
      exact s2
    · exact ik y (by omega)
theorem op_hour (h : LI S C n w nl L tn) (hw : w < 20) : (∀ x : Nat, (yHf S w x).2.2.2 0 0 = nI w) ∧ (∀ x, x < 12 → yHk w x (yHf S w x)) ∧ ehV C w = (yHf S w 12).2.2.1 ∧ ∃ L', LI (yHM2 S w) (ehM C n nl w) n (w + 1) nl L' tn := by
  obtain ⟨⟨hQ, hA, ⟨hPd, hZ, hB⟩, hT, hF, ⟨hL, hCd⟩, hU⟩, T, hR⟩ := h
  have hn : ∀ k, k ≠ 21 → k ≠ 22 → k ≠ 0 → k ≠ 19 → k ≠ 23 → k ≠ 24 → k ≠ 25 → eaF (tpF C w 12) 6 k = C k := fun k a b c d e f g => (eaF_n a b 6).trans (tpF_n c d b e f g 12)
  have rx := hR.2
  obtain ⟨L2, R2, -, -, -, B2⟩ := pj_hour hR.1 rx (by omega)
  obtain ⟨hv, L3, hR3, rx3⟩ := hour_step hR.1 rx (by omega)
  have hP : RP C := hR.1.2.2.2
  have P2 : RP (eaF (tpF C w 12) 6) := by
    refine ⟨?_, ?_, ?_, ?_, B2⟩
    · rw [hn 6 (by decide) (by decide) (by decide) (by decide) (by decide) (by decide) (by decide)]; exact hP.1
    · rw [hn 7 (by decide) (by decide) (by decide) (by decide) (by decide) (by decide) (by decide)]; exact hP.2.1
    · rw [hn 12 (by decide) (by decide) (by decide) (by decide) (by decide) (by decide) (by decide)]; exact hP.2.2.1
    · rw [hn 18 (by decide) (by decide) (by decide) (by decide) (by decide) (by decide) (by decide)]; exact hP.2.2.2.1
  have hwk := wk_all (y := w) R2 P2 okPl_places
  have h30 : ∀ p ∈ rmap, p.1 ≠ 30 := by decide
  have st : PJ C (pcF T 6) (nI 0) w L := by
    refine ⟨fun p hp => by rw [pcF_n (h30 p hp)]; exact hR.1.1 p hp, fun b x hb hx => by rw [pcF_n (by decide)]; exact hR.1.2.2.1.2.2.2.2.2.2.2 b x hb hx, ⟨hR.1.2.1.2.2.2.1, by rw [pcF_n (by decide)]; exact hR.1.2.1.2.2.2.2.1, hR.1.2.1.2.2.2.2.2⟩, fun b hb => by rw [bit0 b (by omega), if_pos (rx.1 b hb)], fun b hb _ => ⟨by rw [pcF_v, if_pos hb, hR.1.1.at 27 19 (by decide)], rx.2 b hb⟩, fun b hb => ?_, hR.1.2.2.2.2.2.2.2⟩
    obtain ⟨v, h1, h2⟩ := rx.2 b hb
    exact ⟨v, by omega, h2⟩
  have hh : ∀ x, x ≤ 12 → (∀ b, b < 6 → ∃ v, v ≤ 199 ∧ tpF C w x 19 b = nI v) ∧ bd (tpF C w x 25) 1000 := fun x hx => by
    obtain ⟨L', -, -, -, -, -, g6, g7⟩ := pj_all (y := w) st (by omega) x hx
    refine ⟨fun b hb => ?_, g7⟩
    obtain ⟨v, h1, h2⟩ := g6 b hb
    exact ⟨v, by omega, h2⟩
  obtain ⟨q1, q2, q3, q4, q5⟩ := hQ
  have h0 : HJ S C w 0 (nI 0, nI 0, nI 0, S) := by
    refine ⟨⟨rfl, rfl, rfl, fun _ _ => rfl, fun _ _ => rfl, fun _ _ => rfl⟩, fun b hb => ?_, fun b hb => (hU b hb).1.2.1, ⟨L, q4.1, hR.1.2.1.2.2.2.1, q4.2, hT.2⟩, ⟨rfl, rfl, fun b hb => ?_⟩, fun i hi => absurd hi (Nat.not_lt_zero i), fun p _ => ⟨rfl, rfl, rfl, rfl⟩, hB⟩
    · show yb (nI 0) b = if C 22 b = 0 then _ else _
      rw [if_pos (rx.1 b hb)]
      exact bit0 b (by omega)
    · refine (hU b hb).1.2.2.1.trans ?_
      rw [wkF_0, hn 20 (by decide) (by decide) (by decide) (by decide) (by decide) (by decide) (by decide)]
  have hj := hj_all hA hU hZ hP hh hwk h0 12 (Nat.le_refl 12)
  obtain ⟨⟨⟨z1, z7, z8, z0, z6, z9⟩, hset, hhrs, ⟨L', l1, l2, l3, l4⟩, ⟨hgo, hal, hco⟩, hFd, hG, hBd⟩, hk⟩ := hj
  have r0 : ∀ x : Nat, (yHf S w x).2.2.2 0 0 = nI w := fun x => (yHf_00 x).trans q1.1
  refine ⟨r0, hk, hal.symm, L', ?_⟩
  -- rows of the class's memory behind the hour
  have eR := read_v (S := walkM (eaF (tpF C w 12) 6) w) (n := n) (y := w)
  have eD := rdF_v (S := walkM (eaF (tpF C w 12) 6) w) (y := w) 12
  have w3 : ∀ k, k ≠ 10 → walkM (eaF (tpF C w 12) 6) w k = (wkF (eaF (tpF C w 12) 6) w 12).2.2 k := fun k a => up_n a
  have w10 : walkM (eaF (tpF C w 12) 6) w 10 = upd (C 10) w (wkF (eaF (tpF C w 12) 6) w 12).2.1 := by
    unfold walkM
    rw [up_s, wkF_n (by decide) (by decide) (by decide) 12, hn 10 (by decide) (by decide) (by decide) (by decide) (by decide) (by decide) (by decide)]
  have m2 : ∀ k, k ≠ 8 → k ≠ 9 → k ≠ 20 → (wkF (eaF (tpF C w 12) 6) w 12).2.2 k = eaF (tpF C w 12) 6 k := fun k a b c => wkF_n a b c 12
  have e7 : ∀ k, k ≠ 0 → k ≠ 37 → k ≠ 14 → ehM C n nl w k = rdF (walkM (eaF (tpF C w 12) 6) w) w 12 k := fun k a b c => (up_n a).trans ((bhF_n b nl).trans (eR.2.2 k c))
  have e8 : ∀ k, k ≠ 0 → k ≠ 37 → k ≠ 14 → k ≠ 13 → ehM C n nl w k = walkM (eaF (tpF C w 12) 6) w k := fun k a b c d => (e7 k a b c).trans (rdF_n d 12)
  have e9 : ∀ k, k ≠ 0 → k ≠ 37 → k ≠ 14 → k ≠ 13 → k ≠ 10 → ehM C n nl w k = (wkF (eaF (tpF C w 12) 6) w 12).2.2 k := fun k a b c d e => (e8 k a b c d).trans (w3 k e)
  have eS : ∀ k, k ≠ 0 → k ≠ 37 → k ≠ 13 → k ≠ 14 → k ≠ 8 → k ≠ 9 → k ≠ 20 → k ≠ 10 → k ≠ 21 → k ≠ 22 → k ≠ 19 → k ≠ 23 → k ≠ 24 → k ≠ 25 → ehM C n nl w k = C k := fun k a b c d e f g h i j l m o q => ehM_n a b c d e f g h i j l m o q
  have eS' : ∀ k, k = 5 ∨ k = 6 ∨ k = 7 ∨ k = 11 ∨ k = 12 ∨ k = 18 ∨ (14 < k ∧ k < 18) ∨ (30 ≤ k ∧ k ≤ 36) ∨ k = 38 → ehM C n nl w k = C k := fun k hk => eS k (by omega) (by omega) (by omega) (by omega) (by omega) (by omega) (by omega) (by omega) (by omega) (by omega) (by omega) (by omega) (by omega) (by omega)
  have c24 : ehM C n nl w 24 = tpF C w 12 24 := by rw [e9 24 (by decide) (by decide) (by decide) (by decide) (by decide), m2 24 (by decide) (by decide) (by decide)]; exact eaF_n (by decide) (by decide) 6
  have c19 : ehM C n nl w 19 = tpF C w 12 19 := by rw [e9 19 (by decide) (by decide) (by decide) (by decide) (by decide), m2 19 (by decide) (by decide) (by decide)]; exact eaF_n (by decide) (by decide) 6
  have c25 : ehM C n nl w 25 = tpF C w 12 25 := by rw [e9 25 (by decide) (by decide) (by decide) (by decide) (by decide), m2 25 (by decide) (by decide) (by decide)]; exact eaF_n (by decide) (by decide) 6
  have c21 : ehM C n nl w 21 = eaF (tpF C w 12) 6 21 := by rw [e9 21 (by decide) (by decide) (by decide) (by decide) (by decide), m2 21 (by decide) (by decide) (by decide)]
  have c13 : ehM C n nl w 13 = rdF (walkM (eaF (tpF C w 12) 6) w) w 12 13 := e7 13 (by decide) (by decide) (by decide)
  have c02 : ehM C n nl w 0 2 = nI L' := by
    refine (up_sn (by decide)).trans ?_
    rw [bhF_n (by decide), eR.2.2 0 (by decide), rdF_n (by decide), w3 0 (by decide), m2 0 (by decide) (by decide) (by decide), eaF_n (by decide) (by decide) 6]
    exact l2
  -- rows of the law's memory
  have y0 : ∀ k, k ≠ 0 → k ≠ 6 → k ≠ 9 → yHM2 S w k = (yHf S w 12).2.2.2 k := fun k a b c => (up_n a).trans ((up_n b).trans (yAs_n c 6))
  have y6 : yHM2 S w 6 = upd ((yHf S w 12).2.2.2 6) w (yHf S w 12).2.1 := by
    unfold yHM2
    rw [up_n (by decide), up_s, yAs_n (by decide) 6]
  have y9 : yHM2 S w 9 = yAs (yHf S w 12).2.2.2 6 9 := by
    unfold yHM2
    rw [up_n (by decide), up_n (by decide)]
  have y00 : yHM2 S w 0 0 = nI (w + 1) := up_si _ _ _ _
  have y0j : ∀ j, j ≠ 0 → yHM2 S w 0 j = (yHf S w 12).2.2.2 0 j := fun j hj => by
    unfold yHM2
    rw [up_sn hj, up_n (by decide), yAs_n (by decide) 6]
  have va := yAs_v (M := (yHf S w 12).2.2.2) 6 (Nat.le_refl 6)
  have ev := fun b (hb : b < 6) => eaF_v (S := tpF C w 12) 6 b hb
  obtain ⟨T3, hR4⟩ := Rel2_fix (w := w + 1) (n := n) (L := L') ⟨hR3, rx3⟩ ehM_now ((ehM_n0 (by decide) (by decide)).trans hR.1.2.1.2.1.1) c02 (by omega) hR.1.2.1.2.1.2.2 (by omega)
  refine ⟨⟨⟨⟨y00, by omega⟩, ⟨?_, q2.2⟩, ⟨?_, q3.2⟩, ⟨?_, l3⟩, fun k hk => ?_⟩, ?_, ⟨fun i hi => ?_, fun i hi => ?_, ?_⟩, ⟨fun i hi => ?_, fun i hi => ?_⟩, ?_, ⟨fun k hk => ?_, fun k hk => ?_⟩, fun b hb => ?_⟩, T3, hR4⟩
  · rw [y0j 1 (by decide), z0 1 (by decide)]; exact q2.1
  · rw [y0j 2 (by decide), z0 2 (by decide)]; exact q3.1
  · rw [y0j 3 (by decide)]; exact l1
  · rw [y0j 4 (by decide), z0 4 (by decide), eS' 36 (by decide)]
    rcases q5 k hk with a | ⟨a, b⟩
    · exact Or.inl a
    · exact Or.inr ⟨a, Int32.le_trans b ((nI_leI (by omega) (by omega)).mpr (by omega))⟩
  · exact LAd_c ((y0 1 (by decide) (by decide) (by decide)).trans z1) (eS' 6 (by decide)) (eS' 7 (by decide)) (eS' 11 (by decide)) (eS' 12 (by decide)) hA
  · rw [y0 2 (by decide) (by decide) (by decide), y0 3 (by decide) (by decide) (by decide), y0 4 (by decide) (by decide) (by decide), y0 5 (by decide) (by decide) (by decide), c24, c13, e9 8 (by decide) (by decide) (by decide) (by decide) (by decide), e9 9 (by decide) (by decide) (by decide) (by decide) (by decide)]
    by_cases c : ∃ j, j < 12 ∧ i = w * 12 + j
    · obtain ⟨j, hj, rfl⟩ := c
      obtain ⟨f1, f2, f3, f4⟩ := hFd j hj
      refine ⟨f1, f2, ?_, f4⟩
      rw [f3, eD.1 j hj, w3 11 (by decide), w3 8 (by decide), w3 12 (by decide), m2 11 (by decide) (by decide) (by decide), m2 12 (by decide) (by decide) (by decide), hn 11 (by decide) (by decide) (by decide) (by decide) (by decide) (by decide) (by decide), hn 12 (by decide) (by decide) (by decide) (by decide) (by decide) (by decide) (by decide)]
    · have c2 : ∀ j, j < 12 → i ≠ w * 12 + j := fun j hj z => c ⟨j, hj, z⟩
      have hi2 : i < w * 12 := by
        by_cases d : i < w * 12
        · exact d
        · exact absurd (show i = w * 12 + (i - w * 12) by omega) (c2 _ (by omega))
      obtain ⟨g1, g2, g3, g4⟩ := hG i c2
      obtain ⟨p1, p2, p3, p4⟩ := hPd i hi2
      obtain ⟨o1, o2⟩ := wk_o (B := eaF (tpF C w 12) 6) (w := w) (p := i) 12 c2
      have t24 := tp_24 (C := C) (w := w) (p := i) 0 12 (fun j _ b => c2 j (by omega))
      rw [g1, g2, g3, g4, o1, o2, eD.2 i c2, w3 13 (by decide), m2 13 (by decide) (by decide) (by decide), hn 8 (by decide) (by decide) (by decide) (by decide) (by decide) (by decide) (by decide), hn 9 (by decide) (by decide) (by decide) (by decide) (by decide) (by decide) (by decide), hn 13 (by decide) (by decide) (by decide) (by decide) (by decide) (by decide) (by decide)]
      refine ⟨p1, p2, p3, p4.trans ?_⟩
      exact congrArg (· + nI 1) t24.symm
  · rw [y0 2 (by decide) (by decide) (by decide), y0 3 (by decide) (by decide) (by decide), y0 4 (by decide) (by decide) (by decide), y0 5 (by decide) (by decide) (by decide)]
    obtain ⟨g1, g2, g3, g4⟩ := hG i (fun j hj => by omega)
    rw [g1, g2, g3, g4]
    exact hZ i (by omega)
  · exact LBd_c (y0 2 (by decide) (by decide) (by decide)) (y0 3 (by decide) (by decide) (by decide)) (y0 4 (by decide) (by decide) (by decide)) (y0 5 (by decide) (by decide) (by decide)) hBd
  · rw [y6, e8 10 (by decide) (by decide) (by decide) (by decide), w10, hgo]
    by_cases c : i = w
    · subst c
      rw [pk_us, pk_us]
    · rw [pk_un c, pk_un c, z6 i (by omega)]
      exact hT.1 i (by omega)
  · rw [y6, c25, pk_un (by omega)]
    exact l4 i hi
  · exact LFd_c ((y0 7 (by decide) (by decide) (by decide)).trans z7) (eS' 15 (by decide)) (eS' 16 (by decide)) (eS' 17 (by decide)) hF
  · obtain ⟨a1, a2, u, e, u1, e1, a3⟩ := LLd_c (S' := yHM2 S w) (C' := ehM C n nl w) ((y0 8 (by decide) (by decide) (by decide)).trans z8) (fun k a b c => eS' k (by omega)) hL k hk
    exact ⟨a1, a2, u, e, by omega, e1, a3⟩
  · rw [y0 8 (by decide) (by decide) (by decide), z8]
    exact hCd k hk
  · rw [y9, va.1 b (by omega), va.1 (6 + b) (by omega), va.1 (12 + b) (by omega), va.1 (24 + b) (by omega), va.2 b hb, eS' 18 (by decide), eS' 5 (by decide), c19, c21, e9 20 (by decide) (by decide) (by decide) (by decide) (by decide), z9 b (by omega), z9 (24 + b) (by omega), hhrs b hb, hco b hb]
    obtain ⟨⟨u1, -, -, u4⟩, u5, -⟩ := hU b hb
    refine ⟨⟨u1, rfl, rfl, u4⟩, u5, fun x hx => ?_⟩
    rw [(ev b hb).2 x hx, if_pos (by decide)]
    exact bit0 x (by omega)
end M8
