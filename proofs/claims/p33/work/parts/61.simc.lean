/-! findings and lost readings: both sides -/
theorem coF_v (T : Nat → Nat → Int32) (n w : Nat) : ∀ l, (coF T n w l).1 = smF (cdM T n w) l ∧ ∀ j, (coF T n w l).2 23 j = if j < l then T 23 j + cdM T n w j else T 23 j
  | 0 => ⟨rfl, fun j => by rw [if_neg (by omega)]; rfl⟩
  | l + 1 => by
    obtain ⟨h1, h2⟩ := coF_v T n w l
    have r : ∀ k, k ≠ 23 → (coF T n w l).2 k = T k := fun k hk => coF_n hk l
    have e : cdM (coF T n w l).2 n w l = cdM T n w l := by
      unfold cdM
      rw [rnM_congr (r 8 (by decide)) (r 12 (by decide)) (r 13 (by decide)) (r 14 (by decide)) (congrFun (r 16 (by decide)) l) (congrFun (r 18 (by decide)) l) (congrFun (r 19 (by decide)) l) (congrFun (r 20 (by decide)) l) (congrFun (r 21 (by decide)) l), r 24 (by decide)]
    unfold coF
    rw [e]
    refine ⟨?_, fun j => ?_⟩
    · dsimp only
      rw [h1]
      rfl
    · dsimp only
      rw [up_s]
      exact st_upd h2 rfl j
theorem kpM_v (T : Nat → Nat → Int32) (n w : Nat) : ∀ l j, kpM T n w l 24 j = if j < l then rnM T n w j else T 24 j
  | 0, j => by rw [if_neg (by omega)]; rfl
  | l + 1, j => by
    have r : ∀ k, k ≠ 24 → kpM T n w l k = T k := fun k hk => kpM_n hk l
    show up (kpM T n w l) 24 l (rnM (kpM T n w l) n w l) 24 j = _
    rw [rnM_congr (r 8 (by decide)) (r 12 (by decide)) (r 13 (by decide)) (r 14 (by decide)) (congrFun (r 16 (by decide)) l) (congrFun (r 18 (by decide)) l) (congrFun (r 19 (by decide)) l) (congrFun (r 20 (by decide)) l) (congrFun (r 21 (by decide)) l)]
    by_cases c : j = l
    · subst c
      rw [up_si, if_pos (by omega)]
    · rw [up_sn c, kpM_v T n w l j]
      by_cases d : j < l
      · rw [if_pos d, if_pos (by omega)]
      · rw [if_neg d, if_neg (by omega)]
theorem bl_rt {S T : Nat → Nat → Int32} {n : Nat} {f : Nat → Int32} {i d a : Nat} (h18 : T 18 = S 33) (h19 : T 19 = S 34) (hd : secN S i = d / 3) : ∀ j, (∀ k, k < j → f ((a + k) * 12 + secN S i) = coM T n (a + k) (d / 3)) → blF S f i a j = rtF T n i d a j
  | 0, _ => rfl
  | j + 1, hf => by
    unfold blF rtF rentF
    rw [bl_rt h18 h19 hd j (fun k hk => hf k (by omega)), hf j (by omega), h18, h19]
theorem bn_rn {S T : Nat → Nat → Int32} {n w nl i : Nat} {f : Nat → Int32} (h16 : T 16 = S 30) (h18 : T 18 = S 33) (h19 : T 19 = S 34) (h20 : T 20 = S 35) (h21 : T 21 = S 36) (hx : RX S nl) (hi : i < nl) (hf : ∀ h x, h < w → x < 12 → f (h * 12 + x) = coM T n h x) : bnF S f w i = rnM T n w i := by
  have e1 : secN S i = ix T 16 i / 3 := by
    unfold secN
    rw [(hx i hi).1, nI_clamp (by have := (hx i hi).2.1; omega)]
    unfold ix
    rw [h16]
  have b1 : secN S i < 12 := by
    unfold secN
    rw [(hx i hi).1, nI_clamp (by have := (hx i hi).2.1; omega)]
    have := (hx i hi).2.1
    omega
  have e20 : ix T 20 i = ix S 35 i := by unfold ix; rw [h20]
  have e21 : ix T 21 i = ix S 36 i := by unfold ix; rw [h21]
  unfold bnF rnM
  rw [e20, e21]
  exact bl_rt h18 h19 e1 _ (fun k hk => by rw [hf _ _ (by omega) b1, e1])
theorem cntR_congr {S S' : Nat → Nat → Int32} (h13 : S' 13 = S 13) (h15 : S' 15 = S 15) (h16 : S' 16 = S 16) (h17 : S' 17 = S 17) (n h : Nat) : cntR S' n h = cntR S n h := funext fun x => by
  unfold cntR
  rw [h13, h15, h16, h17]
theorem anewF_congr {S S' : Nat → Nat → Int32} (h13 : S' 13 = S 13) (h15 : S' 15 = S 15) (h16 : S' 16 = S 16) (h17 : S' 17 = S 17) (n h x : Nat) : anewF S' n h x = anewF S n h x := by
  unfold anewF gapF
  rw [cntR_congr h13 h15 h16 h17, h13]
theorem rmap_38 : ∀ p ∈ rmap, p = (23, 38) ∨ (p.1 ≠ 23 ∧ p.2 ≠ 14 ∧ p.2 ≠ 37 ∧ p.2 ≠ 38) := by decide
theorem RS_congr {S T S' T' : Nat → Nat → Int32} {n w nl L : Nat} (hS : S' 0 = S 0) (hT : T' 0 = T 0) (h : RS S T n w nl L) : RS S' T' n w nl L := by
  unfold RS at *
  rw [hS, hT]
  exact h
/-- what is known of an hour changed: counts, bills and corrections follow on both sides -/
theorem Rel_change {S T S1 T1 : Nat → Nat → Int32} {n n1 w nl L : Nat} {t : Int32 × (Nat → Nat → Int32)} (h : Rel S T n w nl L) (r1 : RR S1 T1) (s1 : RS S1 T1 n1 w nl L) (t1 : okT T1 n1) (d1 : RD T1) (eS : ∀ k, k ≠ 0 → k ≠ 13 → k ≠ 15 → k ≠ 16 → k ≠ 17 → S1 k = S k) (eT : ∀ k, k ≠ 0 → k ≠ 8 → k ≠ 12 → k ≠ 13 → k ≠ 14 → k ≠ 24 → T1 k = T k) (e24 : ∀ i, i < nl → T1 24 i = rnM T n w i) (q : KQ nl w S1 t) (g : ∀ h x, h < w → x < 12 → t.2 14 (h * 12 + x) = anewF S1 n1 h x) : t.1 = (coF T1 n1 w nl).1 ∧ Rel t.2 (coF T1 n1 w nl).2 n1 w nl L := by
  obtain ⟨h1, h2, ⟨g1, g2, g3, g4, g5, g6, g7, g8⟩, h4⟩ := h
  obtain ⟨q1, q2, q3, q4⟩ := q
  have s30 : S1 30 = S 30 := eS 30 (by decide) (by decide) (by decide) (by decide) (by decide)
  have s31 : S1 31 = S 31 := eS 31 (by decide) (by decide) (by decide) (by decide) (by decide)
  have s33 : S1 33 = S 33 := eS 33 (by decide) (by decide) (by decide) (by decide) (by decide)
  have s34 : S1 34 = S 34 := eS 34 (by decide) (by decide) (by decide) (by decide) (by decide)
  have s35 : S1 35 = S 35 := eS 35 (by decide) (by decide) (by decide) (by decide) (by decide)
  have s36 : S1 36 = S 36 := eS 36 (by decide) (by decide) (by decide) (by decide) (by decide)
  have hx1 : RX S1 nl := fun y hy => by
    unfold ix
    rw [s30, s31]
    exact g3 y hy
  have gk : ∀ h x, h < w → x < 12 → t.2 14 (h * 12 + x) = coM T1 n1 h x := fun h x a b => (g h x a b).trans (anew_eq r1 t1 d1 b)
  have bnew : ∀ i, i < nl → bnF S1 (t.2 14) w i = rnM T1 n1 w i := fun i hi => bn_rn (r1.at 16 30 (by decide)) (r1.at 18 33 (by decide)) (r1.at 19 34 (by decide)) (r1.at 20 35 (by decide)) (r1.at 21 36 (by decide)) hx1 hi gk
  have bold : ∀ i, i < nl → bnF S1 (S1 14) w i = rnM T n w i := fun i hi => by
    rw [bnF_congr s31 s33 s34 s35 s36, eS 14 (by decide) (by decide) (by decide) (by decide) (by decide)]
    exact bn_rn (h1.at 16 30 (by decide)) (h1.at 18 33 (by decide)) (h1.at 19 34 (by decide)) (h1.at 20 35 (by decide)) (h1.at 21 36 (by decide)) g3 hi g4
  have dd : ∀ i, i < nl → ddF S1 (t.2 14) nl w i = cdM T1 n1 w i := fun i hi => by
    unfold ddF cdM
    rw [if_pos hi, bnew i hi, bold i hi, e24 i hi]
  have dz : ∀ i, ¬ i < nl → ddF S1 (t.2 14) nl w i = nI 0 := fun i hi => if_neg hi
  obtain ⟨v1, v2⟩ := coF_v T1 n1 w nl
  have eC : ∀ k, k ≠ 23 → (coF T1 n1 w nl).2 k = T1 k := fun k hk => coF_n hk nl
  refine ⟨by rw [q4, v1]; exact smF_congr dd, fun p hp => ?_, RS_congr (q1 0 (by decide) (by decide) (by decide)) (eC 0 (by decide)) s1, ⟨okT_congr (eC 14 (by decide)) t1, fun i => by rw [eC 8 (by decide)]; exact d1 i, fun y hy => ?_, fun a x ha hx => ?_, fun y hy => ?_, fun y hy => ?_, fun i hi => ?_, fun b x hb hx => ?_⟩, h4.frame (fun k hk => (q1 k (by omega) (by omega) (by omega)).trans (eS k (by omega) (by omega) (by omega) (by omega) (by omega)))⟩
  · rcases rmap_38 p hp with c | ⟨c1, c2, c3, c4⟩
    · subst c
      funext j
      show (coF T1 n1 w nl).2 23 j = t.2 38 j
      rw [v2, q3, r1.at 23 38 (by decide)]
      by_cases d : j < nl
      · rw [if_pos d, dd j d]
      · rw [if_neg d, dz j d, i_z]
    · rw [eC p.1 c1, q1 p.2 c2 c3 c4]
      exact r1 p hp
  · unfold ix
    rw [q1 31 (by decide) (by decide) (by decide), q1 30 (by decide) (by decide) (by decide)]
    exact hx1 y hy
  · rw [gk a x ha hx]
    exact (coM_congr (eC 8 (by decide)) (eC 12 (by decide)) (eC 13 (by decide)) (eC 14 (by decide)) n1 a x).symm
  · rw [q2, dd y hy, eS 37 (by decide) (by decide) (by decide) (by decide) (by decide), g5 y hy, rnM_congr (eC 8 (by decide)) (eC 12 (by decide)) (eC 13 (by decide)) (eC 14 (by decide)) (congrFun (eC 16 (by decide)) y) (congrFun (eC 18 (by decide)) y) (congrFun (eC 19 (by decide)) y) (congrFun (eC 20 (by decide)) y) (congrFun (eC 21 (by decide)) y)]
    unfold cdM
    rw [e24 y hy]
    exact i_to _ _
  · unfold ix
    rw [q1 35 (by decide) (by decide) (by decide), q1 36 (by decide) (by decide) (by decide), s35, s36, eC 22 (by decide), eC 21 (by decide), eT 22 (by decide) (by decide) (by decide) (by decide) (by decide) (by decide), eT 21 (by decide) (by decide) (by decide) (by decide) (by decide) (by decide)]
    exact g6 y hy
  · rw [v2, if_neg (by omega), eC 22 (by decide), eT 23 (by decide) (by decide) (by decide) (by decide) (by decide) (by decide), eT 22 (by decide) (by decide) (by decide) (by decide) (by decide) (by decide)]
    exact g7 i hi
  · rw [eC 29 (by decide), eT 29 (by decide) (by decide) (by decide) (by decide) (by decide) (by decide), q1 21 (by decide) (by decide) (by decide), eS 21 (by decide) (by decide) (by decide) (by decide) (by decide)]
    exact g8 b x hb hx
/-! what a finding changes -/
theorem takenF_un {wh si fo : Nat → Int32} {N : Nat} {x0 h0 b x h : Int32} : ∀ m, m ≤ N → takenF (upd wh N x0) (upd si N h0) (upd fo N b) x h m = takenF wh si fo x h m
  | 0, _ => rfl
  | m + 1, hm => by
    unfold takenF
    rw [pk_un (by omega), pk_un (by omega), pk_un (by omega), takenF_un m (by omega)]
theorem note_n {S : Nat → Nat → Int32} {N k : Nat} {x h b : Int32} (h0 : k ≠ 0) (h15 : k ≠ 15) (h16 : k ≠ 16) (h17 : k ≠ 17) : noteF S N x h b k = S k := (up_n h0).trans ((up_n h17).trans ((up_n h16).trans (up_n h15)))
theorem note_15 {S : Nat → Nat → Int32} {N : Nat} {x h b : Int32} : noteF S N x h b 15 = upd (S 15) N x := (up_n (by decide)).trans ((up_n (by decide)).trans ((up_n (by decide)).trans (up_s _ _ _ _)))
theorem note_16 {S : Nat → Nat → Int32} {N : Nat} {x h b : Int32} : noteF S N x h b 16 = upd (S 16) N h := (up_n (by decide)).trans ((up_n (by decide)).trans ((up_s _ _ _ _).trans (by rw [up_n (by decide)])))
theorem note_17 {S : Nat → Nat → Int32} {N : Nat} {x h b : Int32} : noteF S N x h b 17 = upd (S 17) N b := (up_n (by decide)).trans ((up_s _ _ _ _).trans (by rw [up_n (by decide), up_n (by decide)]))
theorem cnt_note {S : Nat → Nat → Int32} {N x0 h0 h i : Nat} {b : Int32} (hx : x0 < 12) (hi : i < 12) (hh : h ≤ 200) (hh0 : h0 ≤ 200) (hc : i ≠ x0 ∨ h < h0) : cntR (noteF S N (nI x0) (nI h0) b) (N + 1) h i = cntR S N h i := by
  have e : takenF (upd (S 15) N (nI x0)) (upd (S 16) N (nI h0)) (upd (S 17) N b) (nI i) (nI h) (N + 1) = takenF (S 15) (S 16) (S 17) (nI i) (nI h) N := by
    show (if upd (S 15) N (nI x0) N = nI i then if upd (S 16) N (nI h0) N ≤ nI h then upd (S 17) N b N else takenF (upd (S 15) N (nI x0)) (upd (S 16) N (nI h0)) (upd (S 17) N b) (nI i) (nI h) N else takenF (upd (S 15) N (nI x0)) (upd (S 16) N (nI h0)) (upd (S 17) N b) (nI i) (nI h) N) = _
    rw [pk_us, pk_us, takenF_un N (Nat.le_refl N)]
    by_cases c : nI x0 = nI i
    · have c2 := (nI_eq (by omega) (by omega)).mp c
      rw [if_pos c, if_neg (fun z => by have := (nI_leI (by omega) (by omega)).mp z; omega)]
    · rw [if_neg c]
  unfold cntR
  rw [note_15, note_16, note_17, note_n (by decide) (by decide) (by decide) (by decide), e]
/-- counts as they are kept, when a finding is noted -/
theorem fd_gd {S : Nat → Nat → Int32} {n nl w x h0 : Nat} {b : Int32} (hx : x < 12) (hw : w ≤ 200) (hk : ∀ h j, h < w → j < 12 → S 14 (h * 12 + j) = anewF S n h j) : ∀ k, h0 + k ≤ w → ∀ h j, h < w → j < 12 → (h < h0 + k → (fdC (noteF S n (nI x) (nI h0) b) (n + 1) nl x h0 k).2 14 (h * 12 + j) = anewF (noteF S n (nI x) (nI h0) b) (n + 1) h j) ∧ (h0 + k ≤ h → (fdC (noteF S n (nI x) (nI h0) b) (n + 1) nl x h0 k).2 14 (h * 12 + j) = S 14 (h * 12 + j))
  | 0, h0w, h, j, hh, hj => by
    have e13 : noteF S n (nI x) (nI h0) b 13 = S 13 := note_n (by decide) (by decide) (by decide) (by decide)
    have e14 : noteF S n (nI x) (nI h0) b 14 = S 14 := note_n (by decide) (by decide) (by decide) (by decide)
    refine ⟨fun z => ?_, fun _ => ?_⟩
    · show noteF S n (nI x) (nI h0) b 14 (h * 12 + j) = _
      rw [e14, hk h j hh hj]
      exact anew_all (fun i _ => by rw [e13]) (fun i hi _ => (cnt_note hx hi (by omega) (by omega) (Or.inr (by omega))).symm) hj
    · show noteF S n (nI x) (nI h0) b 14 (h * 12 + j) = _
      rw [e14]
  | k + 1, h0w, h, j, hh, hj => by
    have ih := fd_gd (n := n) (nl := nl) (h0 := h0) (b := b) hx hw hk k (by omega)
    have e13 : noteF S n (nI x) (nI h0) b 13 = S 13 := note_n (by decide) (by decide) (by decide) (by decide)
    have eM : ∀ r, r ≠ 14 → r ≠ 37 → r ≠ 38 → (fdC (noteF S n (nI x) (nI h0) b) (n + 1) nl x h0 k).2 r = noteF S n (nI x) (nI h0) b r := fun r h4 h7 h8 => fdC_n h4 h7 h8 k
    have eA : ∀ h j, anewF (fdC (noteF S n (nI x) (nI h0) b) (n + 1) nl x h0 k).2 (n + 1) h j = anewF (noteF S n (nI x) (nI h0) b) (n + 1) h j := fun h j => anewF_congr (eM 13 (by decide) (by decide) (by decide)) (eM 15 (by decide) (by decide) (by decide)) (eM 16 (by decide) (by decide) (by decide)) (eM 17 (by decide) (by decide) (by decide)) (n + 1) h j
    show (h < h0 + (k + 1) → (rcF (fdC (noteF S n (nI x) (nI h0) b) (n + 1) nl x h0 k).2 (n + 1) nl x (h0 + k)).2 14 (h * 12 + j) = _) ∧ (h0 + (k + 1) ≤ h → (rcF (fdC (noteF S n (nI x) (nI h0) b) (n + 1) nl x h0 k).2 (n + 1) nl x (h0 + k)).2 14 (h * 12 + j) = _)
    by_cases c : h = h0 + k
    · refine ⟨fun _ => ?_, fun z => absurd z (by omega)⟩
      subst c
      have old : ∀ j, j < 12 → (fdC (noteF S n (nI x) (nI h0) b) (n + 1) nl x h0 k).2 14 ((h0 + k) * 12 + j) = anewF S n (h0 + k) j := fun j hj => ((ih (h0 + k) j hh hj).2 (Nat.le_refl _)).trans (hk _ j hh hj)
      have cn : ∀ i, i < 12 → i ≠ x → cntR S n (h0 + k) i = cntR (noteF S n (nI x) (nI h0) b) (n + 1) (h0 + k) i := fun i hi hix => (cnt_note hx hi (by omega) (by omega) (Or.inl hix)).symm
      have rr : ∀ i, S 13 ((h0 + k) * 12 + i) = noteF S n (nI x) (nI h0) b 13 ((h0 + k) * 12 + i) := fun i => by rw [e13]
      by_cases d : noteF S n (nI x) (nI h0) b 13 ((h0 + k) * 12 + x) = -1
      · rw [rcF_lost (by rw [eM 13 (by decide) (by decide) (by decide)]; exact d), old j hj]
        exact anew_all (fun i _ => rr i) (fun i hi z => cn i hi (fun e => z (by rw [e]; exact d))) hj
      · have e := rcF_gd (S := (fdC (noteF S n (nI x) (nI h0) b) (n + 1) nl x h0 k).2) (n := n + 1) (nl := nl) (h := h0 + k) hx (by rw [eM 13 (by decide) (by decide) (by decide)]; exact d) (fun j m h1 h2 h3 => by
          rw [eM 13 (by decide) (by decide) (by decide)] at h3
          unfold Gd
          rw [old j (by omega), eA]
          exact anew_lo (fun i _ _ => rr i) cn hx h1 h2 h3) (fun j m h1 h2 hj h3 => by
          rw [eM 13 (by decide) (by decide) (by decide)] at h3
          unfold Gd
          rw [old j hj, eA]
          exact anew_hi (fun i _ _ => rr i) cn hj h2 h1 h3) j hj
        unfold Gd at e
        rw [e, eA]
    · have o : (rcF (fdC (noteF S n (nI x) (nI h0) b) (n + 1) nl x h0 k).2 (n + 1) nl x (h0 + k)).2 14 (h * 12 + j) = (fdC (noteF S n (nI x) (nI h0) b) (n + 1) nl x h0 k).2 14 (h * 12 + j) := rcF_o hx (fun i hi => by omega)
      rw [o]
      exact ⟨fun z => (ih h j hh hj).1 (by omega), fun z => (ih h j hh hj).2 (by omega)⟩
/-- counts kept are those found anew -/
theorem RK_anew {S T : Nat → Nat → Int32} {n w nl L : Nat} (h : Rel S T n w nl L) : ∀ h0 j, h0 < w → j < 12 → S 14 (h0 * 12 + j) = anewF S n h0 j := fun h0 j hh hj => (h.2.2.1.2.2.2.1 h0 j hh hj).trans (anew_eq h.1 h.2.2.1.1 h.2.2.1.2.1 hj).symm
theorem RR_kp {S T : Nat → Nat → Int32} {n w l : Nat} (h : RR S T) : RR S (kpM T n w l) := fun p hp => by
  have k : ∀ p ∈ rmap, p.1 ≠ 24 := by decide
  rw [kpM_n (k p hp)]
  exact h p hp
theorem find_both {S T : Nat → Nat → Int32} {n w nl L : Nat} (h : Rel S T n w nl L) (s h0 b : Int32) : Ans (coFind S n w nl s h0 b) (moFind T n w nl s h0 b) ∧ ∃ n', Rel (outS S (coFind S n w nl s h0 b)) (moFind T n w nl s h0 b).2 n' w nl L := by
  have no : ∀ {k : Nat}, ¬ nI k = nI 0 → Ans (flC S k) (flM T k) ∧ ∃ n', Rel (outS S (flC S k)) (flM T k).2 n' w nl L := fun hk => ⟨Ans_fl hk, n, h.fl hk⟩
  have hw := h.2.1.1.2.2
  have hn := h.2.1.2.1.2.2
  unfold coFind moFind
  by_cases c1 : inP s (nI 0) (nI 11)
  · rw [if_pos (ix12.mpr c1), if_pos c1]
    by_cases c2 : inP h0 (nI 0) (nI w)
    · rw [if_pos c2, if_pos c2]
      by_cases c3 : inP b (nI 0) (nI 60)
      · rw [if_pos c3, if_pos c3]
        by_cases c4 : n < 60
        · rw [if_pos c4, if_neg (show ¬ n = 60 by omega)]
          obtain ⟨es, bs⟩ := inP_nat c1 (by decide)
          obtain ⟨eh, bh⟩ := inP_nat c2 (by omega)
          rw [show fdM T n w nl s h0 b = fdM T n w nl (nI s.toNatClampNeg) (nI h0.toNatClampNeg) b from by rw [← es, ← eh]]
          generalize s.toNatClampNeg = x at bs
          generalize h0.toNatClampNeg = y at bh
          have eT : ∀ k, k ≠ 0 → k ≠ 12 → k ≠ 13 → k ≠ 14 → fdM T n w nl (nI x) (nI y) b k = kpM (z0 T) n w nl k := fun k h0 h12 h13 h14 => (up_n h0).trans ((up_n h14).trans ((up_n h13).trans (up_n h12)))
          have eT2 : ∀ k, k ≠ 0 → k ≠ 12 → k ≠ 13 → k ≠ 14 → k ≠ 24 → fdM T n w nl (nI x) (nI y) b k = T k := fun k h0 h12 h13 h14 h24 => (eT k h0 h12 h13 h14).trans ((kpM_n h24 nl).trans (z0_n h0))
          have t0 : ∀ j, j ≠ 11 → fdM T n w nl (nI x) (nI y) b 0 j = z0 T 0 j := fun j hj => (up_sn hj).trans (congrFun ((up_n (by decide)).trans ((up_n (by decide)).trans ((up_n (by decide)).trans (kpM_n (by decide) nl)))) j)
          have t0' : ∀ j, j ≠ 11 → j ≠ 0 → fdM T n w nl (nI x) (nI y) b 0 j = T 0 j := fun j hj h0 => (t0 j hj).trans (up_sn h0)
          have s0 : ∀ j, j ≠ 1 → noteF S n (nI x) (nI y) b 0 j = S 0 j := fun j hj => (up_sn hj).trans (congrFun ((up_n (by decide)).trans ((up_n (by decide)).trans (up_n (by decide)))) j)
          obtain ⟨⟨a1, a2, a3⟩, ⟨b1, b2, b3⟩, ⟨d1, d2⟩, f1, f2, f3⟩ := h.2.1
          have r1 : RR (noteF S n (nI x) (nI y) b) (fdM T n w nl (nI x) (nI y) b) := RR.z' (RR.z (RR.both (RR.both (RR.both (RR_kp h.1.z) (by decide)) (by decide)) (by decide)))
          have s1 : RS (noteF S n (nI x) (nI y) b) (fdM T n w nl (nI x) (nI y) b) (n + 1) w nl L := ⟨⟨(s0 0 (by decide)).trans a1, (t0' 1 (by decide) (by decide)).trans a2, a3⟩, ⟨up_si _ _ _ _, up_si _ _ _ _, by omega⟩, ⟨(t0' 15 (by decide) (by decide)).trans d1, d2⟩, (s0 2 (by decide)).trans f1, (t0' 31 (by decide) (by decide)).trans f2, f3⟩
          have e14 : fdM T n w nl (nI x) (nI y) b 14 = upd (T 14) n b := (up_n (by decide)).trans ((up_s _ _ _ _).trans (by rw [up_n (by decide), up_n (by decide), kpM_n (by decide), z0_n (by decide)]))
          have t1 : okT (fdM T n w nl (nI x) (nI y) b) (n + 1) := fun k hk => by
            rw [e14]
            by_cases c : k = n
            · subst c
              rw [pk_us]
              exact bd_in c3 (by decide)
            · rw [pk_un c]
              exact h.2.2.1.1 k (by omega)
          have d1' : RD (fdM T n w nl (nI x) (nI y) b) := fun i => by
            rw [eT2 8 (by decide) (by decide) (by decide) (by decide) (by decide)]
            exact h.2.2.1.2.1 i
          have ho : okC (noteF S n (nI x) (nI y) b) nl := okC_congr (note_n (by decide) (by decide) (by decide) (by decide)) (note_n (by decide) (by decide) (by decide) (by decide)) (note_n (by decide) (by decide) (by decide) (by decide)) (Rel_okC h)
          have key := Rel_change (S1 := noteF S n (nI x) (nI y) b) (T1 := fdM T n w nl (nI x) (nI y) b) (n1 := n + 1) h r1 s1 t1 d1' (fun k h0 _ h15 h16 h17 => note_n h0 h15 h16 h17) (fun k h0 _ h12 h13 h14 h24 => eT2 k h0 h12 h13 h14 h24) (fun i hi => by rw [eT 24 (by decide) (by decide) (by decide) (by decide), kpM_v, if_pos hi]; exact rnM_z0) (KQ_fd ho (n := n + 1) (x := x) (h0 := y) (by omega) hw (w - y) (by omega)) (fun h9 j a b => (fd_gd (by omega) hw (RK_anew h) (w - y) (by omega) h9 j a b).1 (by omega))
          rw [outS_0]
          refine ⟨⟨?_, fun _ => key.1⟩, n + 1, key.2⟩
          show nI 0 = _
          rw [coF_n (by decide)]
          exact ((t0 0 (by decide)).trans z0_0).symm
        · rw [if_neg c4, if_pos (show n = 60 by omega)]
          exact no (by decide)
      · rw [if_neg c3, if_neg c3]
        exact no (by decide)
    · rw [if_neg c2, if_neg c2]
      exact no (by decide)
  · rw [if_neg (fun z => c1 (ix12.mp z)), if_neg c1]
    exact no (by decide)
/-! a lost reading turns up -/
theorem tu_gd {S : Nat → Nat → Int32} {n nl w x h0 r : Nat} (hx : x < 12) (hr : r ≤ 30000) (hk : ∀ h j, h < w → j < 12 → S 14 (h * 12 + j) = anewF S n h j) : ∀ h j, h < w → j < 12 → (rcF (up S 13 (h0 * 12 + x) (nI r)) n nl x h0).2 14 (h * 12 + j) = anewF (up S 13 (h0 * 12 + x) (nI r)) n h j := fun h j hh hj => by
  have e14 : up S 13 (h0 * 12 + x) (nI r) 14 = S 14 := up_n (by decide)
  have e15 : up S 13 (h0 * 12 + x) (nI r) 15 = S 15 := up_n (by decide)
  have e16 : up S 13 (h0 * 12 + x) (nI r) 16 = S 16 := up_n (by decide)
  have e17 : up S 13 (h0 * 12 + x) (nI r) 17 = S 17 := up_n (by decide)
  have rr : ∀ h i, i < 12 → (h ≠ h0 ∨ i ≠ x) → S 13 (h * 12 + i) = up S 13 (h0 * 12 + x) (nI r) 13 (h * 12 + i) := fun h i hi z => (up_sn (by omega)).symm
  have cn : ∀ h i, i < 12 → (h ≠ h0 ∨ i ≠ x) → cntR S n h i = cntR (up S 13 (h0 * 12 + x) (nI r)) n h i := fun h i hi z => by
    unfold cntR
    rw [e15, e16, e17, rr h i hi z]
  by_cases c : h = h0
  · subst c
    have nr : ¬ up S 13 (h * 12 + x) (nI r) 13 (h * 12 + x) = -1 := by
      rw [up_si]
      exact fun z => (k_m1 (by omega)).mp z
    exact rcF_gd hx nr (fun i m h1 h2 h3 => by
      unfold Gd
      rw [e14, hk h i hh (by omega)]
      exact anew_lo (fun i hi z => rr h i hi (Or.inr z)) (fun i hi z => cn h i hi (Or.inr z)) hx h1 h2 h3) (fun i m h1 h2 hi h3 => by
      unfold Gd
      rw [e14, hk h i hh hi]
      exact anew_hi (fun i hi z => rr h i hi (Or.inr z)) (fun i hi z => cn h i hi (Or.inr z)) hi h2 h1 h3) j hj
  · rw [rcF_o hx (fun i hi => by omega), e14, hk h j hh hj]
    exact anew_all (fun i hi => rr h i hi (Or.inl c)) (fun i hi _ => cn h i hi (Or.inl c)) hj
theorem turn_both {S T : Nat → Nat → Int32} {n w nl L : Nat} (h : Rel S T n w nl L) (s h0 b : Int32) : Ans (coTurnUp S n nl s h0 b) (moTurnUp T n w nl s h0 b) ∧ Rel (outS S (coTurnUp S n nl s h0 b)) (moTurnUp T n w nl s h0 b).2 n w nl L := by
  have no : ∀ {k : Nat}, ¬ nI k = nI 0 → Ans (flC S k) (flM T k) ∧ Rel (outS S (flC S k)) (flM T k).2 n w nl L := fun hk => ⟨Ans_fl hk, h.fl hk⟩
  have hw := h.2.1.1.2.2
  unfold coTurnUp moTurnUp
  rw [now_eq0 h.2.1]
  by_cases c1 : inP s (nI 0) (nI 11)
  · rw [if_pos (ix12.mpr c1), if_pos c1]
    by_cases c2 : inP h0 (nI 0) (up T 0 0 (nI 0) 0 1 - nI 1)
    · rw [if_pos c2, if_pos c2]
      by_cases c3 : inP b (nI 0) (nI 30000)
      · rw [if_pos c3, if_pos c3, h.1.at 8 13 (by decide)]
        by_cases c4 : S 13 (h0.toNatClampNeg * 12 + s.toNatClampNeg) = -1
        · rw [if_pos c4, if_pos c4]
          obtain ⟨es, bs⟩ := inP_nat c1 (by decide)
          obtain ⟨eh, bh⟩ := inP_lt h.2.1.t.1.2.1 c2 (by omega)
          obtain ⟨eb, bb⟩ := inP_nat c3 (by decide)
          rw [eb]
          generalize s.toNatClampNeg = x at bs
          generalize h0.toNatClampNeg = y at bh
          generalize b.toNatClampNeg = r at bb
          have eT : ∀ k, k ≠ 8 → up (kpM (z0 T) n w nl) 8 (y * 12 + x) (nI r) k = kpM (z0 T) n w nl k := fun k h8 => up_n h8
          have eT2 : ∀ k, k ≠ 8 → k ≠ 0 → k ≠ 24 → up (kpM (z0 T) n w nl) 8 (y * 12 + x) (nI r) k = T k := fun k h8 h0 h24 => (up_n h8).trans ((kpM_n h24 nl).trans (z0_n h0))
          have t0 : up (kpM (z0 T) n w nl) 8 (y * 12 + x) (nI r) 0 = z0 T 0 := (up_n (by decide)).trans (kpM_n (by decide) nl)
          have r1 : RR (up S 13 (y * 12 + x) (nI r)) (up (kpM (z0 T) n w nl) 8 (y * 12 + x) (nI r)) := RR.both (RR_kp h.1.z) (by decide)
          have s1 : RS (up S 13 (y * 12 + x) (nI r)) (up (kpM (z0 T) n w nl) 8 (y * 12 + x) (nI r)) n w nl L := RS_congr (up_n (by decide)) t0 h.2.1.t
          have t1 : okT (up (kpM (z0 T) n w nl) 8 (y * 12 + x) (nI r)) n := okT_congr (eT2 14 (by decide) (by decide) (by decide)) h.2.2.1.1
          have e8 : up (kpM (z0 T) n w nl) 8 (y * 12 + x) (nI r) 8 = upd (T 8) (y * 12 + x) (nI r) := (up_s _ _ _ _).trans (by rw [kpM_n (by decide), z0_n (by decide)])
          have d1' : RD (up (kpM (z0 T) n w nl) 8 (y * 12 + x) (nI r)) := fun i => by
            rw [e8]
            by_cases c : i = y * 12 + x
            · subst c
              rw [pk_us]
              exact Or.inr ⟨r, bb, rfl⟩
            · rw [pk_un c]
              exact h.2.2.1.2.1 i
          have ho : okC (up S 13 (y * 12 + x) (nI r)) nl := okC_congr (up_n (by decide)) (up_n (by decide)) (up_n (by decide)) (Rel_okC h)
          have key := Rel_change (S1 := up S 13 (y * 12 + x) (nI r)) (T1 := up (kpM (z0 T) n w nl) 8 (y * 12 + x) (nI r)) (n1 := n) h r1 s1 t1 d1' (fun k _ h13 _ _ _ => up_n h13) (fun k h0 h8 _ _ _ h24 => eT2 k h8 h0 h24) (fun i hi => by rw [eT 24 (by decide), kpM_v, if_pos hi]; exact rnM_z0) (KQ_rcF ho (n := n) (x := x) (h0 := y) (by omega) bh hw) (tu_gd (by omega) bb (RK_anew h))
          rw [outS_0]
          refine ⟨⟨?_, fun _ => key.1⟩, key.2⟩
          show nI 0 = _
          rw [coF_n (by decide), t0]
          exact z0_0.symm
        · rw [if_neg c4, if_neg c4]
          exact no (by decide)
      · rw [if_neg c3, if_neg c3]
        exact no (by decide)
    · rw [if_neg c2, if_neg c2]
      exact no (by decide)
  · rw [if_neg (fun z => c1 (ix12.mp z)), if_neg c1]
    exact no (by decide)
