/-! acts of the law keep the relation: asking, lots, leases, quitting -/
theorem caE_0 {L : List String} {R : R3} (hL : L.length ≤ 9) (h : R.1 = nI 0) : caE L R := fun E hE => by
  rw [h] at hE
  exact absurd hE (exC_no hL)
theorem caE_k {L : List String} {R : R3} {k : Nat} (hk : L[k]? = some eS) (hL : L.length ≤ 9) (h : R.1 = nI (k + 1)) : caE L R := fun E hE => by
  obtain ⟨i, h1, h2⟩ := hE
  rw [h] at h2
  have hi := (List.getElem?_eq_some_iff.mp h1).1
  have hk2 := (List.getElem?_eq_some_iff.mp hk).1
  have e := (nI_eq (a := k + 1) (b := i + 1) (by omega) (by omega)).mp h2
  have e2 : k = i := by omega
  subst e2
  exact Option.some.inj (h1.symm.trans hk)
theorem outS_f {S : Nat → Nat → Int32} {R : R3} (h : ¬ R.1 = nI 0) : outS S R = S := if_neg h
theorem yb_set (a : Int32) {x s : Nat} (hx : x < 32) (hs : s < 32) : yb (a ||| nI 1 <<< (nI s &&& 31)) x = if x = s then nI 1 else yb a x := q_set a hx hs
section M4
variable {S C S' C' T : Nat → Nat → Int32} {n w nl L tn : Nat}
theorem op_ask (h : LI S C n w nl L tn) {b s : Nat} (hb : b < 6) (hs : s < 12) (hc : yb (S 9 (18 + b)) s = 0) : ∃ cN, caE [eI, eS] (coAsk C (nI b) (nI s)) ∧ caV (coAsk C (nI b) (nI s)) = yMy (yAM S b s) b 12 ∧ outS C (coAsk C (nI b) (nI s)) = cN ∧ LI (yAM S b s) cN n w nl L tn := by
  obtain ⟨⟨h1, h2, ⟨h3, h3z, h3b⟩, h4, h5, ⟨h6, h6c⟩, h7⟩, T, hR⟩ := h
  have c0 : C 21 (b * 12 + s) = 0 := Classical.byContradiction (fun z => by
    have e := (h7 b hb).2.2 s hs
    rw [if_neg z, hc] at e
    exact absurd e (by decide))
  have e : coAsk C (nI b) (nI s) = (nI 0, akF (up C 21 (b * 12 + s) (nI 1)) b 12, up C 21 (b * 12 + s) (nI 1)) := by
    unfold coAsk
    rw [if_pos (ixP_n hb (by decide)), if_pos (ixP_n hs (by decide)), nI_clamp (by omega), nI_clamp (by omega), if_pos c0]
  obtain ⟨-, n', w', L', hR'⟩ := both_ask hR (nI b) (nI s)
  rw [e, outS_0] at hR'
  have eS : ∀ k, k ≠ 9 → yAM S b s k = S k := fun k hk => up_n hk
  have eC : ∀ k, k ≠ 21 → up C 21 (b * 12 + s) (nI 1) k = C k := fun k a => up_n a
  have bits : ∀ y x, y < 6 → x < 12 → yb (yAM S b s 9 (18 + y)) x = (if up C 21 (b * 12 + s) (nI 1) 21 (y * 12 + x) = 0 then nI 0 else nI 1) := fun y x hy hx => by
    unfold yAM
    rw [up_s, up_s]
    by_cases c : y = b
    · subst c
      rw [pk_us, yb_set _ (by omega) (by omega)]
      by_cases d : x = s
      · subst d
        rw [if_pos rfl, pk_us, if_neg (by decide)]
      · rw [if_neg d, pk_un (by omega)]
        exact (h7 y hy).2.2 x hx
    · rw [pk_un (by omega), pk_un (by omega)]
      exact (h7 y hy).2.2 x hx
  have my : ∀ k, k ≤ 12 → akF (up C 21 (b * 12 + s) (nI 1)) b k = yMy (yAM S b s) b k := fun k => by
    induction k with
    | zero => intro _; rfl
    | succ k ih =>
      intro hk
      unfold akF yMy
      rw [ih (by omega), bits b k hb (by omega)]
  refine ⟨_, by rw [e]; exact caE_0 (by decide) rfl, by rw [e]; exact my 12 (Nat.le_refl _), by rw [e]; exact outS_0, ⟨LQd_c (eS 0 (by decide)) (eC 36 (by decide)) h1, LAd_c (eS 1 (by decide)) (eC 6 (by decide)) (eC 7 (by decide)) (eC 11 (by decide)) (eC 12 (by decide)) h2, ⟨LPd_c (eS 2 (by decide)) (eS 3 (by decide)) (eS 4 (by decide)) (eS 5 (by decide)) (eC 8 (by decide)) (eC 9 (by decide)) (eC 13 (by decide)) (eC 24 (by decide)) h3, LZd_c (eS 2 (by decide)) (eS 3 (by decide)) (eS 4 (by decide)) (eS 5 (by decide)) h3z, LBd_c (eS 2 (by decide)) (eS 3 (by decide)) (eS 4 (by decide)) (eS 5 (by decide)) h3b⟩, LTd_c (eS 6 (by decide)) (eC 10 (by decide)) (eC 25 (by decide)) h4, LFd_c (eS 7 (by decide)) (eC 15 (by decide)) (eC 16 (by decide)) (eC 17 (by decide)) h5, ⟨LLd_c (eS 8 (by decide)) (fun k a b c => eC k (by omega)) h6, LCd_c (eS 8 (by decide)) h6c⟩, fun x hx => ?_⟩, Rel2_same hR hR' (eC 0 (by decide))⟩
  obtain ⟨⟨b1, b2, b3, b4⟩, b5, b6⟩ := h7 x hx
  have u9 : ∀ i, i ≠ 18 + b → yAM S b s 9 i = S 9 i := fun i hi => up_sn hi
  rw [u9 x (by omega), u9 (6 + x) (by omega), u9 (12 + x) (by omega), u9 (24 + x) (by omega), eC 18 (by decide), eC 19 (by decide), eC 20 (by decide), eC 5 (by decide)]
  exact ⟨⟨b1, b2, b3, b4⟩, b5, fun y hy => bits x y hx hy⟩
theorem op_asked (h : LI S C n w nl L tn) {b s : Nat} (hb : b < 6) (hs : s < 12) (hc : ¬ yb (S 9 (18 + b)) s = 0) : caE [eI, eS] (coAsk C (nI b) (nI s)) ∧ caV (coAsk C (nI b) (nI s)) = (-2000000003) ∧ outS C (coAsk C (nI b) (nI s)) = C ∧ LI (yAM S b s) C n w nl L tn := by
  obtain ⟨⟨h1, h2, ⟨h3, h3z, h3b⟩, h4, h5, ⟨h6, h6c⟩, h7⟩, T, hR⟩ := h
  have c0 : ¬ C 21 (b * 12 + s) = 0 := fun z => by
    have e := (h7 b hb).2.2 s hs
    rw [if_pos z] at e
    exact hc e
  have e : coAsk C (nI b) (nI s) = flC C 2 := by
    unfold coAsk
    rw [if_pos (ixP_n hb (by decide)), if_pos (ixP_n hs (by decide)), nI_clamp (by omega), nI_clamp (by omega), if_neg c0]
  have eS : ∀ k, k ≠ 9 → yAM S b s k = S k := fun k hk => up_n hk
  refine ⟨by rw [e]; exact caE_k (k := 1) rfl (by decide) rfl, by rw [e]; exact caV_n (show ¬ nI 2 = nI 0 by decide), by rw [e]; exact outS_f (show ¬ nI 2 = nI 0 by decide), ⟨LQd_c (eS 0 (by decide)) rfl h1, LAd_c (eS 1 (by decide)) rfl rfl rfl rfl h2, ⟨LPd_c (eS 2 (by decide)) (eS 3 (by decide)) (eS 4 (by decide)) (eS 5 (by decide)) rfl rfl rfl rfl h3, LZd_c (eS 2 (by decide)) (eS 3 (by decide)) (eS 4 (by decide)) (eS 5 (by decide)) h3z, LBd_c (eS 2 (by decide)) (eS 3 (by decide)) (eS 4 (by decide)) (eS 5 (by decide)) h3b⟩, LTd_c (eS 6 (by decide)) rfl rfl h4, LFd_c (eS 7 (by decide)) rfl rfl rfl h5, ⟨LLd_c (eS 8 (by decide)) (fun k a b c => rfl) h6, LCd_c (eS 8 (by decide)) h6c⟩, fun x hx => ?_⟩, T, hR⟩
  obtain ⟨⟨b1, b2, b3, b4⟩, b5, b6⟩ := h7 x hx
  have u9 : ∀ i, i ≠ 18 + b → yAM S b s 9 i = S 9 i := fun i hi => up_sn hi
  rw [u9 x (by omega), u9 (6 + x) (by omega), u9 (12 + x) (by omega), u9 (24 + x) (by omega)]
  refine ⟨⟨b1, b2, b3, b4⟩, b5, fun y hy => ?_⟩
  unfold yAM
  rw [up_s]
  by_cases c : x = b
  · subst c
    rw [pk_us, yb_set _ (by omega) (by omega)]
    by_cases d : y = s
    · subst d
      rw [if_pos rfl, if_neg c0]
    · rw [if_neg d]
      exact b6 y hy
  · rw [pk_un (by omega)]
    exact b6 y hy
theorem op_lot (h : LI S C n w nl L tn) {v : Nat} (hv : v ≤ 1000) (hL : L < 20) : ∃ cN, caE [eA, eS] (coLot C L (nI v)) ∧ caV (coLot C L (nI v)) = nI (L + 1) ∧ outS C (coLot C L (nI v)) = cN ∧ LI (yLo S L v) cN n w nl (L + 1) tn := by
  obtain ⟨⟨h1, h2, ⟨h3, h3z, h3b⟩, h4, h5, ⟨h6, h6c⟩, h7⟩, T, hR⟩ := h
  have e : coLot C L (nI v) = (nI 0, nI (L + 1), up (up C 25 L (nI v)) 0 2 (nI (L + 1))) := by
    unfold coLot
    rw [if_pos (inP_n hv (by decide)), if_pos (by omega)]
  obtain ⟨-, n', w', L', hR'⟩ := both_lot hR (nI v)
  rw [e, outS_0] at hR'
  have eS : ∀ k, k ≠ 6 → k ≠ 0 → yLo S L v k = S k := fun k hk h0 => (up_n h0).trans (up_n hk)
  have eC : ∀ k, k ≠ 25 → k ≠ 0 → up (up C 25 L (nI v)) 0 2 (nI (L + 1)) k = C k := fun k a b => (up_n b).trans (up_n a)
  have s0 : ∀ j, j ≠ 3 → yLo S L v 0 j = S 0 j := fun j hj => (up_sn hj).trans (congrFun (up_n (by decide)) j)
  have c0 : ∀ j, j ≠ 2 → up (up C 25 L (nI v)) 0 2 (nI (L + 1)) 0 j = C 0 j := fun j hj => (up_sn hj).trans (congrFun (up_n (by decide)) j)
  obtain ⟨q1, q2, q3, q4, q5⟩ := h1
  obtain ⟨⟨a1, -, a3⟩, ⟨b1, -, b3⟩, -, d1, -, d3⟩ := hR.1.2.1
  refine ⟨_, by rw [e]; exact caE_0 (by decide) rfl, by rw [e]; exact caV_0 rfl, by rw [e]; exact outS_0, ⟨⟨by rw [s0 0 (by decide)]; exact q1, by rw [s0 1 (by decide)]; exact q2, by rw [s0 2 (by decide)]; exact q3, ⟨up_si _ _ _ _, by omega⟩, by rw [s0 4 (by decide), eC 36 (by decide) (by decide)]; exact q5⟩, LAd_c (eS 1 (by decide) (by decide)) (eC 6 (by decide) (by decide)) (eC 7 (by decide) (by decide)) (eC 11 (by decide) (by decide)) (eC 12 (by decide) (by decide)) h2, ⟨LPd_c (eS 2 (by decide) (by decide)) (eS 3 (by decide) (by decide)) (eS 4 (by decide) (by decide)) (eS 5 (by decide) (by decide)) (eC 8 (by decide) (by decide)) (eC 9 (by decide) (by decide)) (eC 13 (by decide) (by decide)) (eC 24 (by decide) (by decide)) h3, LZd_c (eS 2 (by decide) (by decide)) (eS 3 (by decide) (by decide)) (eS 4 (by decide) (by decide)) (eS 5 (by decide) (by decide)) h3z, LBd_c (eS 2 (by decide) (by decide)) (eS 3 (by decide) (by decide)) (eS 4 (by decide) (by decide)) (eS 5 (by decide) (by decide)) h3b⟩, ⟨fun k hk => ?_, fun i hi => ?_⟩, LFd_c (eS 7 (by decide) (by decide)) (eC 15 (by decide) (by decide)) (eC 16 (by decide) (by decide)) (eC 17 (by decide) (by decide)) h5, ⟨LLd_c (eS 8 (by decide) (by decide)) (fun k a b c => eC k (by omega) (by omega)) h6, LCd_c (eS 8 (by decide) (by decide)) h6c⟩, LUd_c (eS 9 (by decide) (by decide)) (eC 18 (by decide) (by decide)) (eC 19 (by decide) (by decide)) (eC 20 (by decide) (by decide)) (eC 5 (by decide) (by decide)) (eC 21 (by decide) (by decide)) h7⟩, Rel2_fix hR' ((c0 0 (by decide)).trans a1) ((c0 1 (by decide)).trans b1) (up_si _ _ _ _) a3 b3 (by omega)⟩
  · have hw := q1.2
    rw [eC 10 (by decide) (by decide), ← h4.1 k hk]
    show up (up S 6 (20 + L) (nI v)) 0 3 (nI (L + 1)) 6 k = _
    rw [up_n (by decide)]
    exact up_sn (by omega)
  · show up (up S 6 (20 + L) (nI v)) 0 3 (nI (L + 1)) 6 (20 + i) = up (up C 25 L (nI v)) 0 2 (nI (L + 1)) 25 i
    rw [up_n (k := 0) (j := 6) (by decide), up_n (k := 0) (j := 25) (by decide), up_s, up_s]
    by_cases c : i = L
    · rw [c, pk_us, pk_us]
    · rw [pk_un (by omega), pk_un c]
      exact h4.2 i (by omega)
theorem dh_ca (h : LR S C n w nl L tn) {d hs : Nat} {t b r : Int32} (hd : d < 36) (hh : hs ≤ 100) : ∀ k, k ≤ nl → (dhC (lnew C nl (nI d) t b r (nI w) (nI (w + hs))) nl k = true ↔ yCa S d w hs k = nI 0)
  | 0, _ => ⟨fun z => (by cases z), fun z => absurd z (show ¬ nI 1 = nI 0 by decide)⟩
  | k + 1, hk => by
    have ih := dh_ca h (t := t) (b := b) (r := r) hd hh k (by omega)
    have hw := h.1.1.2
    obtain ⟨⟨d9, t9, d1, t1, e30, -, -, e0⟩, -, u, e, u1, eb, e35, e36, e3, e4⟩ := h.2.2.2.2.2.1.1 k (by omega)
    have x0 : ix S 8 (6 * k) = d9 + 36 * t9 := by unfold ix; rw [e0, nI_clamp (by omega)]
    have x3 : ix S 8 (6 * k + 3) = u := by unfold ix; rw [e3, nI_clamp (by omega)]
    have x4 : ix S 8 (6 * k + 4) = e := by unfold ix; rw [e4, nI_clamp (by omega)]
    have n30 : lnew C nl (nI d) t b r (nI w) (nI (w + hs)) 30 nl = nI d := by simp [lnew, up, upd]
    have n35 : lnew C nl (nI d) t b r (nI w) (nI (w + hs)) 35 nl = nI w := by simp [lnew, up, upd]
    have n36 : lnew C nl (nI d) t b r (nI w) (nI (w + hs)) 36 nl = nI (w + hs) := by simp [lnew, up, upd]
    have ho : ∀ j, lnew C nl (nI d) t b r (nI w) (nI (w + hs)) j k = C j k := lnew_o (by omega)
    unfold dhC
    rw [yCa_s, Bool.or_eq_true, decide_eq_true_iff, ih, x0, x3, x4, show (d9 + 36 * t9) % 36 = d9 from by omega]
    unfold clP
    rw [n30, n35, n36, ho, ho, ho, e30, e35, e36, nI_eq (by omega) (by omega), nI_ltI (by omega) (by omega), nI_ltI (by omega) (by omega)]
    have z0 : (0 : Int32) = nI 0 := rfl
    by_cases c0 : yCa S d w hs k = nI 0
    · rw [z0, if_pos c0]
      exact ⟨fun _ => rfl, fun _ => Or.inl c0⟩
    · rw [z0, if_neg c0]
      by_cases c1 : d9 = d
      · rw [if_pos c1]
        by_cases c2 : e ≤ w
        · rw [if_pos c2]
          exact ⟨fun z => z.elim (fun z => absurd z c0) (fun z => by omega), fun z => absurd z (by decide)⟩
        · rw [if_neg c2]
          by_cases c3 : u < w + hs
          · rw [if_pos c3]
            exact ⟨fun _ => rfl, fun _ => Or.inr ⟨c1, c3, by omega⟩⟩
          · rw [if_neg c3]
            exact ⟨fun z => z.elim (fun z => absurd z c0) (fun z => absurd z.2.1 c3), fun z => absurd z (by decide)⟩
      · rw [if_neg c1]
        exact ⟨fun z => z.elim (fun z => absurd z c0) (fun z => absurd z.1 c1), fun z => absurd z (by decide)⟩
theorem yLM_8 {d t b r hs i : Nat} : yLM S w nl d t b r hs 8 i = if i = 6 * nl + 4 then nI (w + hs) else if i = 6 * nl + 3 then nI w else if i = 6 * nl + 2 then nI r else if i = 6 * nl + 1 then nI b else if i = 6 * nl then nI (d + 36 * t) else S 8 i := by
  have e : yLM S w nl d t b r hs 8 = upd (upd (upd (upd (upd (S 8) (6 * nl) (nI (d + 36 * t))) (6 * nl + 1) (nI b)) (6 * nl + 2) (nI r)) (6 * nl + 3) (nI w)) (6 * nl + 4) (nI (w + hs)) := by
    unfold yLM
    rw [up_n (k := 0) (j := 8) (by decide), up_s, up_s, up_s, up_s, up_s]
  rw [e]
  by_cases c4 : i = 6 * nl + 4
  · rw [if_pos c4, c4, pk_us]
  rw [if_neg c4, pk_un c4]
  by_cases c3 : i = 6 * nl + 3
  · rw [if_pos c3, c3, pk_us]
  rw [if_neg c3, pk_un c3]
  by_cases c2 : i = 6 * nl + 2
  · rw [if_pos c2, c2, pk_us]
  rw [if_neg c2, pk_un c2]
  by_cases c1 : i = 6 * nl + 1
  · rw [if_pos c1, c1, pk_us]
  rw [if_neg c1, pk_un c1]
  by_cases c0 : i = 6 * nl
  · rw [if_pos c0, c0, pk_us]
  · rw [if_neg c0, pk_un c0]
theorem op_lease (h : LI S C n w nl L tn) {d t b r hs : Nat} (hd : d < 36) (ht : t < 6) (hb : b ≤ 50) (hr : r ≤ 50) (h1s : 1 ≤ hs) (hh : hs ≤ 100) (hn : nl < 10) (hc : ¬ yCa S d w hs nl = nI 0) : ∃ cN, caE [eI, eA, eS] (coLease C w nl (nI d) (nI t) (nI b) (nI r) (nI hs)) ∧ (coLease C w nl (nI d) (nI t) (nI b) (nI r) (nI hs)).1 = nI 0 ∧ caV (coLease C w nl (nI d) (nI t) (nI b) (nI r) (nI hs)) = nI nl ∧ outS C (coLease C w nl (nI d) (nI t) (nI b) (nI r) (nI hs)) = cN ∧ LI (yLM S w nl d t b r hs) cN n w (nl + 1) L tn := by
  have hLR := h.1
  obtain ⟨⟨h1, h2, ⟨h3, h3z, h3b⟩, h4, h5, ⟨h6, h6c⟩, h7⟩, T, hR⟩ := h
  have e : coLease C w nl (nI d) (nI t) (nI b) (nI r) (nI hs) = (nI 0, nI nl, up (lnew C nl (nI d) (nI t) (nI b) (nI r) (nI w) (nI (w + hs))) 0 3 (C 0 3 + nI 1)) := by
    unfold coLease
    rw [if_pos (ixP_n hd (by decide)), if_pos (ixP_n ht (by decide)), if_pos (inP_n hb (by decide)), if_pos (inP_n hr (by decide)), if_pos (inP_1 h1s hh (by decide)), if_pos (by omega), nI_clamp (by omega), if_neg (fun z => hc ((dh_ca hLR hd hh nl (Nat.le_refl _)).mp z))]
  have hb2 := (both_lease hR (nI d) (nI t) (nI b) (nI r) (nI hs)).2.1 (by rw [e])
  rw [e, outS_0] at hb2
  obtain ⟨o30, o31, o32, o33, o34, o35, o36, o37, o38⟩ := lnew_own C nl (nI d) (nI t) (nI b) (nI r) (nI w) (nI (w + hs))
  have eC : ∀ k, k < 30 → k ≠ 0 → up (lnew C nl (nI d) (nI t) (nI b) (nI r) (nI w) (nI (w + hs))) 0 3 (C 0 3 + nI 1) k = C k := fun k a b => (up_n b).trans (lnew_n a)
  have eH : ∀ k, k ≠ 0 → up (lnew C nl (nI d) (nI t) (nI b) (nI r) (nI w) (nI (w + hs))) 0 3 (C 0 3 + nI 1) k = lnew C nl (nI d) (nI t) (nI b) (nI r) (nI w) (nI (w + hs)) k := fun k a => up_n a
  have eO : ∀ k i, k ≠ 0 → i ≠ nl → up (lnew C nl (nI d) (nI t) (nI b) (nI r) (nI w) (nI (w + hs))) 0 3 (C 0 3 + nI 1) k i = C k i := fun k i a b => (congrFun (up_n a) i).trans (lnew_o b k)
  have eS : ∀ k, k ≠ 8 → k ≠ 0 → yLM S w nl d t b r hs k = S k := fun k a b => (up_n b).trans ((up_n a).trans ((up_n a).trans ((up_n a).trans ((up_n a).trans (up_n a)))))
  have s0 : ∀ j, j ≠ 2 → yLM S w nl d t b r hs 0 j = S 0 j := fun j hj => (up_sn hj).trans (congrFun ((up_n (by decide)).trans ((up_n (by decide)).trans ((up_n (by decide)).trans ((up_n (by decide)).trans (up_n (by decide)))))) j)
  obtain ⟨q1, q2, q3, q4, q5⟩ := h1
  refine ⟨_, by rw [e]; exact caE_0 (by decide) rfl, by rw [e], by rw [e]; exact caV_0 rfl, by rw [e]; exact outS_0, ⟨⟨by rw [s0 0 (by decide)]; exact q1, by rw [s0 1 (by decide)]; exact q2, ⟨up_si _ _ _ _, by omega⟩, by rw [s0 3 (by decide)]; exact q4, fun k hk => ?_⟩, LAd_c (eS 1 (by decide) (by decide)) (eC 6 (by decide) (by decide)) (eC 7 (by decide) (by decide)) (eC 11 (by decide) (by decide)) (eC 12 (by decide) (by decide)) h2, ⟨LPd_c (eS 2 (by decide) (by decide)) (eS 3 (by decide) (by decide)) (eS 4 (by decide) (by decide)) (eS 5 (by decide) (by decide)) (eC 8 (by decide) (by decide)) (eC 9 (by decide) (by decide)) (eC 13 (by decide) (by decide)) (eC 24 (by decide) (by decide)) h3, LZd_c (eS 2 (by decide) (by decide)) (eS 3 (by decide) (by decide)) (eS 4 (by decide) (by decide)) (eS 5 (by decide) (by decide)) h3z, LBd_c (eS 2 (by decide) (by decide)) (eS 3 (by decide) (by decide)) (eS 4 (by decide) (by decide)) (eS 5 (by decide) (by decide)) h3b⟩, LTd_c (eS 6 (by decide) (by decide)) (eC 10 (by decide) (by decide)) (eC 25 (by decide) (by decide)) h4, LFd_c (eS 7 (by decide) (by decide)) (eC 15 (by decide) (by decide)) (eC 16 (by decide) (by decide)) (eC 17 (by decide) (by decide)) h5, ⟨fun k hk => ?_, fun k hk => ?_⟩, LUd_c (eS 9 (by decide) (by decide)) (eC 18 (by decide) (by decide)) (eC 19 (by decide) (by decide)) (eC 20 (by decide) (by decide)) (eC 5 (by decide) (by decide)) (eC 21 (by decide) (by decide)) h7⟩, _, hb2⟩
  · rw [s0 4 (by decide)]
    rcases q5 k hk with z | ⟨z1, z2⟩
    · exact Or.inl z
    · exact Or.inr ⟨by omega, by rw [eO 36 k (by decide) (by omega)]; exact z2⟩
  · by_cases c : k = nl
    · subst c
      rw [eH 30 (by decide), eH 31 (by decide), eH 32 (by decide), eH 33 (by decide), eH 34 (by decide), eH 35 (by decide), eH 36 (by decide), eH 38 (by decide), o30, o31, o32, o33, o34, o35, o36, o38, pk_us, pk_us, pk_us, pk_us, pk_us, pk_us, pk_us, pk_us]
      refine ⟨⟨d, t, hd, ht, rfl, pk_div (by omega) (by decide) (by decide), rfl, ?_⟩, ⟨?_, ?_, ?_⟩, w, w + hs, Nat.le_refl _, by omega, rfl, rfl, ?_, ?_⟩
      · rw [yLM_8, if_neg (by omega), if_neg (by omega), if_neg (by omega), if_neg (by omega), if_pos rfl]
      · rw [yLM_8, if_neg (by omega), if_neg (by omega), if_neg (by omega), if_pos rfl]
      · rw [yLM_8, if_neg (by omega), if_neg (by omega), if_pos rfl]
      · rw [yLM_8, if_neg (by omega), if_neg (by omega), if_neg (by omega), if_neg (by omega), if_neg (by omega)]
        exact h6c k (Nat.le_refl _)
      · rw [yLM_8, if_neg (by omega), if_pos rfl]
      · rw [yLM_8, if_pos rfl]
    · have y8 : ∀ i, i < 6 * nl → yLM S w nl d t b r hs 8 i = S 8 i := fun i hi => by rw [yLM_8, if_neg (by omega), if_neg (by omega), if_neg (by omega), if_neg (by omega), if_neg (by omega)]
      rw [eO 30 k (by decide) c, eO 31 k (by decide) c, eO 32 k (by decide) c, eO 33 k (by decide) c, eO 34 k (by decide) c, eO 35 k (by decide) c, eO 36 k (by decide) c, eO 38 k (by decide) c, y8 _ (by omega), y8 _ (by omega), y8 _ (by omega), y8 _ (by omega), y8 _ (by omega), y8 _ (by omega)]
      exact h6 k (by omega)
  · rw [yLM_8, if_neg (by omega), if_neg (by omega), if_neg (by omega), if_neg (by omega), if_neg (by omega)]
    exact h6c k (by omega)
theorem op_leased (h : LI S C n w nl L tn) {d t b r hs : Nat} (hd : d < 36) (ht : t < 6) (hb : b ≤ 50) (hr : r ≤ 50) (h1s : 1 ≤ hs) (hh : hs ≤ 100) (hc : yCa S d w hs nl = nI 0) : caE [eI, eA, eS] (coLease C w nl (nI d) (nI t) (nI b) (nI r) (nI hs)) ∧ ¬ (coLease C w nl (nI d) (nI t) (nI b) (nI r) (nI hs)).1 = nI 0 := by
  have hq := h.1.1.2.2.1.2
  have e : coLease C w nl (nI d) (nI t) (nI b) (nI r) (nI hs) = flC C 3 := by
    unfold coLease
    rw [if_pos (ixP_n hd (by decide)), if_pos (ixP_n ht (by decide)), if_pos (inP_n hb (by decide)), if_pos (inP_n hr (by decide)), if_pos (inP_1 h1s hh (by decide)), if_pos (by omega), nI_clamp (by omega), if_pos ((dh_ca h.1 hd hh nl (Nat.le_refl _)).mpr hc)]
  rw [e]
  exact ⟨caE_k (k := 2) rfl (by decide) rfl, show ¬ nI 3 = nI 0 by decide⟩
theorem op_quit (h : LI S C n w nl L tn) {k : Nat} (hk : k < nl) (hc : yb (S 0 4) k = 0 ∧ ¬ ix S 8 (6 * k + 4) ≤ w) : ∃ cN, caE [eI, eS] (coQuit C w nl (nI k)) ∧ caV (coQuit C w nl (nI k)) = nI (w - ix S 8 (6 * k + 3)) ∧ outS C (coQuit C w nl (nI k)) = cN ∧ LI (yQM S w k) cN n w nl L tn ∧ ix S 8 (6 * k + 3) ≤ w := by
  obtain ⟨⟨h1, h2, ⟨h3, h3z, h3b⟩, h4, h5, ⟨h6, h6c⟩, h7⟩, T, hR⟩ := h
  obtain ⟨-, -, u, e9, u1, eb, e35, e36, e3, e4⟩ := h6 k hk
  obtain ⟨q1, q2, q3, q4, q5⟩ := h1
  have x3 : ix S 8 (6 * k + 3) = u := by unfold ix; rw [e3, nI_clamp (by omega)]
  have x4 : ix S 8 (6 * k + 4) = e9 := by unfold ix; rw [e4, nI_clamp (by omega)]
  rw [x4] at hc
  have e : coQuit C w nl (nI k) = (nI 0, nI (w - u), up C 36 k (nI w)) := by
    unfold coQuit
    rw [if_pos (ixP_n hk (by omega)), nI_clamp (by omega), if_neg (by rw [e36]; exact fun z => hc.2 ((nI_leI (by omega) (by omega)).mp z)), e35, pk_sub u1]
  obtain ⟨-, n', w', L', hR'⟩ := both_quit hR (nI k)
  rw [e, outS_0] at hR'
  have eS : ∀ j, j ≠ 8 → j ≠ 0 → yQM S w k j = S j := fun j a b => (up_n b).trans (up_n a)
  have eC : ∀ j, j ≠ 36 → up C 36 k (nI w) j = C j := fun j a => up_n a
  have s0 : ∀ j, j ≠ 4 → yQM S w k 0 j = S 0 j := fun j hj => (up_sn hj).trans (congrFun (up_n (by decide)) j)
  have s8 : ∀ i, i ≠ 6 * k + 4 → yQM S w k 8 i = S 8 i := fun i hi => (congrFun (up_n (by decide)) i).trans (up_sn hi)
  have s84 : yQM S w k 8 (6 * k + 4) = nI w := (congrFun (up_n (by decide)) _).trans (up_si _ _ _ _)
  refine ⟨_, by rw [e]; exact caE_0 (by decide) rfl, by rw [e, x3]; exact caV_0 rfl, by rw [e]; exact outS_0, ⟨⟨⟨by rw [s0 0 (by decide)]; exact q1, by rw [s0 1 (by decide)]; exact q2, by rw [s0 2 (by decide)]; exact q3, by rw [s0 3 (by decide)]; exact q4, fun j hj => ?_⟩, LAd_c (eS 1 (by decide) (by decide)) (eC 6 (by decide)) (eC 7 (by decide)) (eC 11 (by decide)) (eC 12 (by decide)) h2, ⟨LPd_c (eS 2 (by decide) (by decide)) (eS 3 (by decide) (by decide)) (eS 4 (by decide) (by decide)) (eS 5 (by decide) (by decide)) (eC 8 (by decide)) (eC 9 (by decide)) (eC 13 (by decide)) (eC 24 (by decide)) h3, LZd_c (eS 2 (by decide) (by decide)) (eS 3 (by decide) (by decide)) (eS 4 (by decide) (by decide)) (eS 5 (by decide) (by decide)) h3z, LBd_c (eS 2 (by decide) (by decide)) (eS 3 (by decide) (by decide)) (eS 4 (by decide) (by decide)) (eS 5 (by decide) (by decide)) h3b⟩, LTd_c (eS 6 (by decide) (by decide)) (eC 10 (by decide)) (eC 25 (by decide)) h4, LFd_c (eS 7 (by decide) (by decide)) (eC 15 (by decide)) (eC 16 (by decide)) (eC 17 (by decide)) h5, ⟨fun j hj => ?_, fun j hj => by rw [s8 _ (by omega)]; exact h6c j hj⟩, LUd_c (eS 9 (by decide) (by decide)) (eC 18 (by decide)) (eC 19 (by decide)) (eC 20 (by decide)) (eC 5 (by decide)) (eC 21 (by decide)) h7⟩, Rel2_same hR hR' (eC 0 (by decide))⟩, by rw [x3]; exact u1⟩
  · have em : yQM S w k 0 4 = S 0 4 ||| nI 1 <<< (nI k &&& 31) := up_si _ _ _ _
    rw [em, yb_set _ hj (by omega)]
    by_cases c : j = k
    · subst c
      exact Or.inr ⟨hk, by rw [up_si]; exact Int32.le_refl _⟩
    · rw [if_neg c]
      rcases q5 j hj with z | ⟨z1, z2⟩
      · exact Or.inl z
      · exact Or.inr ⟨z1, by rw [up_sn c]; exact z2⟩
  · rw [eC 30 (by decide), eC 31 (by decide), eC 32 (by decide), eC 33 (by decide), eC 34 (by decide), eC 35 (by decide), eC 38 (by decide), s8 _ (by omega), s8 _ (by omega), s8 _ (by omega), s8 _ (by omega), s8 _ (by omega)]
    by_cases c : j = k
    · subst c
      rw [s84, up_si]
      exact ⟨(h6 j hj).1, (h6 j hj).2.1, u, w, u1, by omega, e35, rfl, e3, rfl⟩
    · rw [s8 _ (by omega), up_sn c]
      exact h6 j hj
theorem op_quitted (h : LI S C n w nl L tn) {k : Nat} (hk : k < nl) (hc : ¬ (yb (S 0 4) k = 0 ∧ ¬ ix S 8 (6 * k + 4) ≤ w)) : caE [eI, eS] (coQuit C w nl (nI k)) ∧ caV (coQuit C w nl (nI k)) = (-2000000003) ∧ outS C (coQuit C w nl (nI k)) = C ∧ LI (yQN S k) C n w nl L tn := by
  obtain ⟨⟨h1, h2, ⟨h3, h3z, h3b⟩, h4, h5, ⟨h6, h6c⟩, h7⟩, hT⟩ := h
  obtain ⟨-, -, u, e9, u1, eb, e35, e36, e3, e4⟩ := h6 k hk
  obtain ⟨q1, q2, q3, q4, q5⟩ := id h1
  have x4 : ix S 8 (6 * k + 4) = e9 := by unfold ix; rw [e4, nI_clamp (by omega)]
  rw [x4] at hc
  have c36 : C 36 k ≤ nI w := by
    rcases q5 k (by omega) with z | ⟨-, z2⟩
    · rw [e36]
      exact (nI_leI (by omega) (by omega)).mpr (Classical.byContradiction (fun y => hc ⟨z, y⟩))
    · exact z2
  have e : coQuit C w nl (nI k) = flC C 2 := by
    unfold coQuit
    rw [if_pos (ixP_n hk (by omega)), nI_clamp (by omega), if_pos c36]
  have r : ∀ j, yQN S k j = S j := fun j => by
    funext i
    show up (up S 8 (6 * k + 4) (S 8 (6 * k + 4))) 0 4 (S 0 4 ||| nI 0) j i = S j i
    have e8 : ∀ j i, up S 8 (6 * k + 4) (S 8 (6 * k + 4)) j i = S j i := fun j i => by
      by_cases a : j = 8
      · subst a
        by_cases b : i = 6 * k + 4
        · subst b
          exact up_si _ _ _ _
        · exact up_sn b
      · rw [up_n a]
    by_cases a : j = 0
    · subst a
      by_cases b : i = 4
      · subst b
        rw [up_si, nI_0, Int32.or_zero]
      · rw [up_sn b, e8]
    · rw [up_n a, e8]
  exact ⟨by rw [e]; exact caE_k (k := 1) rfl (by decide) rfl, by rw [e]; exact caV_n (show ¬ nI 2 = nI 0 by decide), by rw [e]; exact outS_f (show ¬ nI 2 = nI 0 by decide), ⟨LQd_c (r 0) rfl h1, LAd_c (r 1) rfl rfl rfl rfl h2, ⟨LPd_c (r 2) (r 3) (r 4) (r 5) rfl rfl rfl rfl h3, LZd_c (r 2) (r 3) (r 4) (r 5) h3z, LBd_c (r 2) (r 3) (r 4) (r 5) h3b⟩, LTd_c (r 6) rfl rfl h4, LFd_c (r 7) rfl rfl rfl h5, ⟨LLd_c (r 8) (fun k a b c => rfl) h6, LCd_c (r 8) h6c⟩, LUd_c (r 9) rfl rfl rfl rfl rfl h7⟩, hT⟩
end M4
