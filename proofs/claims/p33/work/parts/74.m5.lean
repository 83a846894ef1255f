/-! acts of the law keep the relation: findings, readings that turn up -/
section YC
variable {S M : Nat → Nat → Int32} {n w h : Nat}
theorem yRd_c (e4 : M 4 = S 4) (e7 : M 7 = S 7) (x : Nat) : yRd M n h x = yRd S n h x := by
  unfold yRd ySp
  rw [e4, e7]
theorem yRx_c (e4 : M 4 = S 4) (e7 : M 7 = S 7) (x : Int32) : yRx M n h x = yRx S n h x := by
  unfold yRx
  rw [yRd_c e4 e7]
theorem yLf_c (e4 : M 4 = S 4) (e7 : M 7 = S 7) (x : Nat) : ∀ m, yLf M n h x m = yLf S n h x m
  | 0 => rfl
  | m + 1 => by rw [yLf_s, yLf_s, yLf_c e4 e7 x m, yRx_c e4 e7]
theorem yRt_c (e4 : M 4 = S 4) (e7 : M 7 = S 7) (x : Nat) : ∀ m, yRt M n h x m = yRt S n h x m
  | 0 => rfl
  | m + 1 => by rw [yRt_s, yRt_s, yRt_c e4 e7 x m, yRx_c e4 e7]
theorem yCn_c (e4 : M 4 = S 4) (e7 : M 7 = S 7) (x : Nat) : yCn M n h x = yCn S n h x := by
  unfold yCn
  rw [yRx_c e4 e7, yLf_c e4 e7, yRt_c e4 e7]
theorem yB_c (e4 : M 4 = S 4) (e7 : M 7 = S 7) (e8 : ∀ i, i % 6 ≠ 5 → M 8 i = S 8 i) (k : Nat) : yB M n w k = yB S n w k := by
  have r : ∀ h, yRn M n k h = yRn S n k h := fun h => by
    unfold yRn ix
    rw [e8 (6 * k) (by omega), e8 (6 * k + 1) (by omega), e8 (6 * k + 2) (by omega), e8 (6 * k + 4) (by omega), yCn_c e4 e7]
  unfold yB ix
  rw [e8 (6 * k + 3) (by omega), yBl_sm, yBl_sm]
  exact smF_congr (fun i _ => r _)
theorem yBi_v (S : Nat → Nat → Int32) (n w : Nat) (sg : Int32) : ∀ k, (yBi S n w sg k).1 = smF (fun i => sg * yB S n w i) k ∧ ∀ i, (yBi S n w sg k).2 8 (6 * i + 5) = if i < k then S 8 (6 * i + 5) + sg * yB S n w i else S 8 (6 * i + 5)
  | 0 => ⟨rfl, fun i => by rw [if_neg (by omega)]; rfl⟩
  | k + 1 => by
    obtain ⟨h1, h2⟩ := yBi_v S n w sg k
    have e : yB (yBi S n w sg k).2 n w k = yB S n w k := yB_c (yBi_n (by decide) k) (yBi_n (by decide) k) (fun i hi => yBi_8 hi k) k
    refine ⟨?_, fun i => ?_⟩
    · show (yBi S n w sg k).1 + sg * yB (yBi S n w sg k).2 n w k = smF (fun i => sg * yB S n w i) k + sg * yB S n w k
      rw [h1, e]
    · show up (yBi S n w sg k).2 8 (6 * k + 5) ((yBi S n w sg k).2 8 (6 * k + 5) + sg * yB (yBi S n w sg k).2 n w k) 8 (6 * i + 5) = _
      by_cases c : i = k
      · subst c
        rw [up_si, h2, if_neg (by omega), if_pos (by omega), e]
      · rw [up_sn (by omega), h2]
        by_cases d : i < k
        · rw [if_pos d, if_pos (by omega)]
        · rw [if_neg d, if_neg (by omega)]
end YC
theorem z_m1 (x : Int32) : (-1) * x = -x := by
  have e : (-1 : Int32) = -(1 : Int32) := rfl
  rw [e, Int32.neg_mul, Int32.one_mul]
theorem z_p1 (x : Int32) : nI 1 * x = x := by
  have e : nI 1 = (1 : Int32) := rfl
  rw [e, Int32.one_mul]
section M5
variable {S C N M T T' : Nat → Nat → Int32} {t : Int32 × (Nat → Nat → Int32)} {n n1 w nl L tn : Nat}
theorem ch_key (h : LR S C n w nl L tn) (hR : Rel C T n w nl L) (hR' : Rel t.2 T' n1 w nl L) (q : KQ nl w N t) (e37 : N 37 = C 37) (e38 : N 38 = C 38) (m8 : M 8 = yF1 S n w nl 8) (hf : LFd M t.2 n1) (hp : LPd M t.2 w) (eC : ∀ k, 30 ≤ k → k ≤ 36 → t.2 k = C k) : t.1 = (yBi S n w (-1) nl).1 + (yBi M n1 w (nI 1) nl).1 ∧ LLd (yBi M n1 w (nI 1) nl).2 t.2 w nl ∧ LCd (yBi M n1 w (nI 1) nl).2 nl := by
  have hw := h.1.1.2
  obtain ⟨h6, h6c⟩ := h.2.2.2.2.2.1
  have m8o : ∀ i, i % 6 ≠ 5 → M 8 i = S 8 i := fun i hi => by rw [m8]; exact yF1_8 hi
  have le : LLe M t.2 w nl := fun k hk => by
    rw [eC 30 (by decide) (by decide), eC 31 (by decide) (by decide), eC 32 (by decide) (by decide), eC 33 (by decide) (by decide), eC 34 (by decide) (by decide), eC 35 (by decide) (by decide), eC 36 (by decide) (by decide), m8o _ (by omega), m8o _ (by omega), m8o _ (by omega), m8o _ (by omega), m8o _ (by omega)]
    exact LLd_e h6 k hk
  have b0 : ∀ i, i < nl → yB S n w i = C 37 i := fun i hi => LR_yB h hR hi
  have b1 : ∀ i, i < nl → yB M n1 w i = t.2 37 i := fun i hi => by
    rw [R_37 hR' hi]
    exact yB_e hf hp (R_rd hR') (R_bl hR') hw le hi (RK_anew hR')
  obtain ⟨q1, q2, q3, q4⟩ := q
  have dd : ∀ i, ddF N (t.2 14) nl w i = t.2 37 i - C 37 i := fun i => by
    rw [q2 i, e37]
    exact (i_dif _ _).symm
  obtain ⟨v1, v2⟩ := yBi_v S n w (-1) nl
  obtain ⟨u1, u2⟩ := yBi_v M n1 w (nI 1) nl
  refine ⟨?_, fun k hk => ?_, fun k hk => ?_⟩
  · rw [q4, v1, u1, smF_add]
    refine smF_congr (fun i hi => ?_)
    rw [dd i, b0 i hi, b1 i hi, z_m1, z_p1, Int32.sub_eq_add_neg, Int32.add_comm]
  · obtain ⟨p1, ⟨p2, p3⟩, p4⟩ := le k hk
    have o : ∀ i, i % 6 ≠ 5 → (yBi M n1 w (nI 1) nl).2 8 i = M 8 i := fun i hi => yBi_8 hi nl
    rw [o (6 * k) (by omega), o (6 * k + 1) (by omega), o (6 * k + 2) (by omega), o (6 * k + 3) (by omega), o (6 * k + 4) (by omega)]
    refine ⟨p1, ⟨p2, p3, ?_⟩, p4⟩
    have y5 : yF1 S n w nl 8 (6 * k + 5) = C 38 k + -(C 37 k) := by
      have e := v2 k
      rw [if_pos hk, (h6 k hk).2.1.2.2, b0 k hk, z_m1] at e
      exact e
    rw [u2, if_pos hk, m8, y5, b1 k hk, z_p1, q3, e38, dd, Int32.sub_eq_add_neg, Int32.add_assoc, Int32.add_comm (-(C 37 k))]
  · rw [u2, if_neg (by omega), m8]
    have e := v2 k
    rw [if_neg (by omega)] at e
    exact e.trans (h6c k hk)
theorem op_find (h : LI S C n w nl L tn) {s y b : Nat} (hs : s < 12) (hy : y ≤ w) (hb : b ≤ 60) (hn : n < 12) : ∃ cN, coFind C n w nl (nI s) (nI y) (nI b) = (nI 0, (yBi S n w (-1) nl).1 + (yBi (yFM S n w nl s y b) (n + 1) w (nI 1) nl).1, cN) ∧ LI (yBi (yFM S n w nl s y b) (n + 1) w (nI 1) nl).2 cN (n + 1) w nl L tn := by
  have hLR := h.1
  obtain ⟨⟨h1, h2, ⟨h3, h3z, h3b⟩, h4, h5, ⟨h6, h6c⟩, h7⟩, T, hR⟩ := h
  have hw := h1.1.2
  have e : coFind C n w nl (nI s) (nI y) (nI b) = (nI 0, fdC (noteF C n (nI s) (nI y) (nI b)) (n + 1) nl s y (w - y)) := by
    unfold coFind
    rw [if_pos (ixP_n hs (by decide)), if_pos (inP_n hy (by omega)), if_pos (inP_n hb (by decide)), if_pos (by omega), nI_clamp (by omega), nI_clamp (by omega)]
  have nn : ∀ k, k ≠ 0 → k ≠ 15 → k ≠ 16 → k ≠ 17 → noteF C n (nI s) (nI y) (nI b) k = C k := fun k a b c d => note_n a b c d
  have ho : okC (noteF C n (nI s) (nI y) (nI b)) nl := okC_congr (nn 31 (by decide) (by decide) (by decide) (by decide)) (nn 35 (by decide) (by decide) (by decide) (by decide)) (nn 36 (by decide) (by decide) (by decide) (by decide)) (Rel_okC hR.1)
  have q : KQ nl w (noteF C n (nI s) (nI y) (nI b)) (fdC (noteF C n (nI s) (nI y) (nI b)) (n + 1) nl s y (w - y)) := KQ_fd ho hs (by omega) (w - y) (by omega)
  obtain ⟨-, n', w', L', hR'⟩ := both_find hR (nI s) (nI y) (nI b)
  rw [e] at hR'
  have eo : ∀ x : Int32 × (Nat → Nat → Int32), outS C (nI 0, x) = x.2 := fun x => if_pos rfl
  rw [eo] at hR'
  generalize fdC (noteF C n (nI s) (nI y) (nI b)) (n + 1) nl s y (w - y) = t at e q hR'
  have k1 := q.1
  have eC : ∀ k, k ≠ 0 → k ≠ 14 → k ≠ 15 → k ≠ 16 → k ≠ 17 → k ≠ 37 → k ≠ 38 → t.2 k = C k := fun k a b c d f g i => (k1 k b g i).trans (nn k a c d f)
  have c0 : ∀ j, j ≠ 1 → t.2 0 j = C 0 j := fun j hj => (congrFun (k1 0 (by decide) (by decide) (by decide)) j).trans ((up_sn hj).trans (congrFun ((up_n (by decide)).trans ((up_n (by decide)).trans (up_n (by decide)))) j))
  have c01 : t.2 0 1 = nI (n + 1) := (congrFun (k1 0 (by decide) (by decide) (by decide)) 1).trans (up_si _ _ _ _)
  obtain ⟨⟨a1, -, a3⟩, ⟨b1, -, b3⟩, -, d1, -, d3⟩ := hR.1.2.1
  obtain ⟨T', hR2⟩ := Rel2_fix hR' ((c0 0 (by decide)).trans a1) c01 ((c0 2 (by decide)).trans d1) a3 (by omega) d3
  have fS : ∀ k, k ≠ 8 → k ≠ 7 → k ≠ 0 → yFM S n w nl s y b k = S k := fun k a b c => yFM_n a b c
  have hf : LFd (yFM S n w nl s y b) t.2 (n + 1) := fun k hk => by
    rw [k1 15 (by decide) (by decide) (by decide), k1 16 (by decide) (by decide) (by decide), k1 17 (by decide) (by decide) (by decide), note_15, note_16, note_17, yFM_7, yFM_7, yFM_7]
    by_cases c : k = n
    · subst c
      rw [if_neg (by omega), if_neg (by omega), if_pos rfl, if_neg (by omega), if_pos rfl, if_pos rfl, pk_us, pk_us, pk_us]
      exact ⟨rfl, rfl, rfl⟩
    · rw [if_neg (by omega), if_neg (by omega), if_neg (by omega), if_neg (by omega), if_neg (by omega), if_neg (by omega), if_neg (by omega), if_neg (by omega), if_neg (by omega), pk_un c, pk_un c, pk_un c]
      exact h5 k (by omega)
  have hp : LPd (yFM S n w nl s y b) t.2 w := LPd_c (fS 2 (by decide) (by decide) (by decide)) (fS 3 (by decide) (by decide) (by decide)) (fS 4 (by decide) (by decide) (by decide)) (fS 5 (by decide) (by decide) (by decide)) (eC 8 (by decide) (by decide) (by decide) (by decide) (by decide) (by decide) (by decide)) (eC 9 (by decide) (by decide) (by decide) (by decide) (by decide) (by decide) (by decide)) (eC 13 (by decide) (by decide) (by decide) (by decide) (by decide) (by decide) (by decide)) (eC 24 (by decide) (by decide) (by decide) (by decide) (by decide) (by decide) (by decide)) h3
  have m8 : yFM S n w nl s y b 8 = yF1 S n w nl 8 := (up_n (by decide)).trans ((up_n (by decide)).trans ((up_n (by decide)).trans (up_n (by decide))))
  obtain ⟨g1, g2, g3⟩ := ch_key hLR hR.1 hR2.1 q (nn 37 (by decide) (by decide) (by decide) (by decide)) (nn 38 (by decide) (by decide) (by decide) (by decide)) m8 hf hp (fun k a b => eC k (by omega) (by omega) (by omega) (by omega) (by omega) (by omega) (by omega))
  have zS : ∀ k, k ≠ 8 → (yBi (yFM S n w nl s y b) (n + 1) w (nI 1) nl).2 k = yFM S n w nl s y b k := fun k a => yBi_n a nl
  have eS : ∀ k, k ≠ 8 → k ≠ 7 → k ≠ 0 → (yBi (yFM S n w nl s y b) (n + 1) w (nI 1) nl).2 k = S k := fun k a b c => (zS k a).trans (fS k a b c)
  obtain ⟨q1, q2, q3, q4, q5⟩ := h1
  refine ⟨t.2, by rw [e, ← g1], ⟨⟨by rw [zS 0 (by decide), yFM_0 (by decide)]; exact q1, by rw [zS 0 (by decide), yFM_01]; exact ⟨rfl, by omega⟩, by rw [zS 0 (by decide), yFM_0 (by decide)]; exact q3, by rw [zS 0 (by decide), yFM_0 (by decide)]; exact q4, by rw [zS 0 (by decide), yFM_0 (by decide), eC 36 (by decide) (by decide) (by decide) (by decide) (by decide) (by decide) (by decide)]; exact q5⟩, LAd_c (eS 1 (by decide) (by decide) (by decide)) (eC 6 (by decide) (by decide) (by decide) (by decide) (by decide) (by decide) (by decide)) (eC 7 (by decide) (by decide) (by decide) (by decide) (by decide) (by decide) (by decide)) (eC 11 (by decide) (by decide) (by decide) (by decide) (by decide) (by decide) (by decide)) (eC 12 (by decide) (by decide) (by decide) (by decide) (by decide) (by decide) (by decide)) h2, ⟨LPd_c (zS 2 (by decide)) (zS 3 (by decide)) (zS 4 (by decide)) (zS 5 (by decide)) rfl rfl rfl rfl hp, LZd_c (eS 2 (by decide) (by decide) (by decide)) (eS 3 (by decide) (by decide) (by decide)) (eS 4 (by decide) (by decide) (by decide)) (eS 5 (by decide) (by decide) (by decide)) h3z, LBd_c (eS 2 (by decide) (by decide) (by decide)) (eS 3 (by decide) (by decide) (by decide)) (eS 4 (by decide) (by decide) (by decide)) (eS 5 (by decide) (by decide) (by decide)) h3b⟩, LTd_c (eS 6 (by decide) (by decide) (by decide)) (eC 10 (by decide) (by decide) (by decide) (by decide) (by decide) (by decide) (by decide)) (eC 25 (by decide) (by decide) (by decide) (by decide) (by decide) (by decide) (by decide)) h4, LFd_c (zS 7 (by decide)) rfl rfl rfl hf, ⟨g2, g3⟩, LUd_c (eS 9 (by decide) (by decide) (by decide)) (eC 18 (by decide) (by decide) (by decide) (by decide) (by decide) (by decide) (by decide)) (eC 19 (by decide) (by decide) (by decide) (by decide) (by decide) (by decide) (by decide)) (eC 20 (by decide) (by decide) (by decide) (by decide) (by decide) (by decide) (by decide)) (eC 5 (by decide) (by decide) (by decide) (by decide) (by decide) (by decide) (by decide)) (eC 21 (by decide) (by decide) (by decide) (by decide) (by decide) (by decide) (by decide)) h7⟩, T', hR2⟩
theorem lost_e (h : LR S C n w nl L tn) (hR : Rel C T n w nl L) {s y : Nat} (hs : s < 12) (hy : y < w) : S 4 (y * 12 + s) = 0 ↔ C 13 (y * 12 + s) = -1 := by
  rw [(h.2.2.1.1 (y * 12 + s) (by omega)).2.2.1]
  rcases R_rd hR (y * 12 + s) with z | ⟨r, r1, z⟩
  · rw [z]
    exact ⟨fun _ => rfl, fun _ => by decide⟩
  · rw [z, nI_add]
    exact ⟨fun k => absurd k (nI_ne0 (by omega) (by omega)), fun k => absurd k (fun z => (k_m1 (by omega)).mp z)⟩
theorem op_turn (h : LI S C n w nl L tn) {s y v : Nat} (hs : s < 12) (hy : y < w) (hv : v ≤ 30000) (hl : S 4 (y * 12 + s) = 0) : ∃ cN, caE [eI, eA, eS] (coTurnUp C n nl (nI s) (nI y) (nI v)) ∧ caV (coTurnUp C n nl (nI s) (nI y) (nI v)) = (yBi S n w (-1) nl).1 + (yBi (yTM S n w nl s y v) n w (nI 1) nl).1 ∧ outS C (coTurnUp C n nl (nI s) (nI y) (nI v)) = cN ∧ LI (yBi (yTM S n w nl s y v) n w (nI 1) nl).2 cN n w nl L tn := by
  have hLR := h.1
  obtain ⟨⟨h1, h2, ⟨h3, h3z, h3b⟩, h4, h5, ⟨h6, h6c⟩, h7⟩, T, hR⟩ := h
  have hw := h1.1.2
  have e : coTurnUp C n nl (nI s) (nI y) (nI v) = (nI 0, rcF (up C 13 (y * 12 + s) (nI v)) n nl s y) := by
    unfold coTurnUp
    rw [if_pos (ixP_n hs (by decide)), if_pos (inP_w hR.1.2.1.1.1 hy (by omega)), if_pos (inP_n hv (by decide)), nI_clamp (by omega), nI_clamp (by omega), if_pos ((lost_e hLR hR.1 hs hy).mp hl)]
  have nn : ∀ k, k ≠ 13 → up C 13 (y * 12 + s) (nI v) k = C k := fun k a => up_n a
  have ho : okC (up C 13 (y * 12 + s) (nI v)) nl := okC_congr (nn 31 (by decide)) (nn 35 (by decide)) (nn 36 (by decide)) (Rel_okC hR.1)
  have q : KQ nl w (up C 13 (y * 12 + s) (nI v)) (rcF (up C 13 (y * 12 + s) (nI v)) n nl s y) := KQ_rcF ho hs hy (by omega)
  obtain ⟨-, n', w', L', hR'⟩ := both_turnUp hR (nI s) (nI y) (nI v)
  rw [e] at hR'
  have eo : ∀ x : Int32 × (Nat → Nat → Int32), outS C (nI 0, x) = x.2 := fun x => if_pos rfl
  rw [eo] at hR'
  generalize rcF (up C 13 (y * 12 + s) (nI v)) n nl s y = t at e q hR'
  have k1 := q.1
  have eC : ∀ k, k ≠ 13 → k ≠ 14 → k ≠ 37 → k ≠ 38 → t.2 k = C k := fun k a b g i => (k1 k b g i).trans (nn k a)
  obtain ⟨T', hR2⟩ := Rel2_same hR hR' (eC 0 (by decide) (by decide) (by decide) (by decide))
  have fS : ∀ k, k ≠ 8 → k ≠ 4 → yTM S n w nl s y v k = S k := fun k a b => yTM_n a b
  have c13 : t.2 13 = upd (C 13) (y * 12 + s) (nI v) := (k1 13 (by decide) (by decide) (by decide)).trans (up_s _ _ _ _)
  have hf : LFd (yTM S n w nl s y v) t.2 n := LFd_c (fS 7 (by decide) (by decide)) (eC 15 (by decide) (by decide) (by decide) (by decide)) (eC 16 (by decide) (by decide) (by decide) (by decide)) (eC 17 (by decide) (by decide) (by decide) (by decide)) h5
  have hp : LPd (yTM S n w nl s y v) t.2 w := fun i hi => by
    obtain ⟨p1, p2, p3, p4⟩ := h3 i hi
    rw [fS 2 (by decide) (by decide), fS 3 (by decide) (by decide), fS 5 (by decide) (by decide), yTM_4, c13, eC 8 (by decide) (by decide) (by decide) (by decide), eC 9 (by decide) (by decide) (by decide) (by decide), eC 24 (by decide) (by decide) (by decide) (by decide)]
    refine ⟨p1, p2, ?_, p4⟩
    by_cases c : i = y * 12 + s
    · subst c
      rw [pk_us, pk_us, nI_add]
    · rw [pk_un c, pk_un c]
      exact p3
  have m8 : yTM S n w nl s y v 8 = yF1 S n w nl 8 := up_n (by decide)
  obtain ⟨g1, g2, g3⟩ := ch_key hLR hR.1 hR2.1 q (nn 37 (by decide)) (nn 38 (by decide)) m8 hf hp (fun k a b => eC k (by omega) (by omega) (by omega) (by omega))
  have zS : ∀ k, k ≠ 8 → (yBi (yTM S n w nl s y v) n w (nI 1) nl).2 k = yTM S n w nl s y v k := fun k a => yBi_n a nl
  have eS : ∀ k, k ≠ 8 → k ≠ 4 → (yBi (yTM S n w nl s y v) n w (nI 1) nl).2 k = S k := fun k a b => (zS k a).trans (fS k a b)
  refine ⟨t.2, by rw [e]; exact caE_0 (by decide) rfl, by rw [e]; exact (caV_0 rfl).trans g1, by rw [e]; exact eo t, ⟨LQd_c (eS 0 (by decide) (by decide)) (eC 36 (by decide) (by decide) (by decide) (by decide)) h1, LAd_c (eS 1 (by decide) (by decide)) (eC 6 (by decide) (by decide) (by decide) (by decide)) (eC 7 (by decide) (by decide) (by decide) (by decide)) (eC 11 (by decide) (by decide) (by decide) (by decide)) (eC 12 (by decide) (by decide) (by decide) (by decide)) h2, ⟨LPd_c (zS 2 (by decide)) (zS 3 (by decide)) (zS 4 (by decide)) (zS 5 (by decide)) rfl rfl rfl rfl hp, fun i hi => ?_, ?_⟩, LTd_c (eS 6 (by decide) (by decide)) (eC 10 (by decide) (by decide) (by decide) (by decide)) (eC 25 (by decide) (by decide) (by decide) (by decide)) h4, LFd_c (zS 7 (by decide)) rfl rfl rfl hf, ⟨g2, g3⟩, LUd_c (eS 9 (by decide) (by decide)) (eC 18 (by decide) (by decide) (by decide) (by decide)) (eC 19 (by decide) (by decide) (by decide) (by decide)) (eC 20 (by decide) (by decide) (by decide) (by decide)) (eC 5 (by decide) (by decide) (by decide) (by decide)) (eC 21 (by decide) (by decide) (by decide) (by decide)) h7⟩, T', hR2⟩
  · rw [eS 2 (by decide) (by decide), eS 3 (by decide) (by decide), eS 5 (by decide) (by decide), zS 4 (by decide), yTM_4, pk_un (by omega)]
    exact h3z i hi
  · unfold LBd
    rw [eS 2 (by decide) (by decide), eS 3 (by decide) (by decide), eS 5 (by decide) (by decide), zS 4 (by decide), yTM_4]
    exact ⟨h3b.1, h3b.2.1, bd_upd h3b.2.2.1 (by omega), h3b.2.2.2⟩
theorem op_turned (h : LI S C n w nl L tn) {s y v : Nat} (hs : s < 12) (hy : y < w) (hv : v ≤ 30000) (hl : ¬ S 4 (y * 12 + s) = 0) : caE [eI, eA, eS] (coTurnUp C n nl (nI s) (nI y) (nI v)) ∧ caV (coTurnUp C n nl (nI s) (nI y) (nI v)) = (-2000000003) ∧ outS C (coTurnUp C n nl (nI s) (nI y) (nI v)) = C := by
  obtain ⟨hLR, T, hR⟩ := h
  have hw := hLR.1.1.2
  have e : coTurnUp C n nl (nI s) (nI y) (nI v) = flC C 3 := by
    unfold coTurnUp
    rw [if_pos (ixP_n hs (by decide)), if_pos (inP_w hR.1.2.1.1.1 hy (by omega)), if_pos (inP_n hv (by decide)), nI_clamp (by omega), nI_clamp (by omega), if_neg (fun z => hl ((lost_e hLR hR.1 hs hy).mpr z))]
  rw [e]
  exact ⟨caE_k (k := 2) rfl (by decide) rfl, caV_n (show ¬ nI 3 = nI 0 by decide), outS_f (show ¬ nI 3 = nI 0 by decide)⟩
end M5
