/-! acts of the law keep the relation: people, lamps, skills, asking, lots, paying -/
section M3
variable {S C S' C' T : Nat → Nat → Int32} {n w nl L tn : Nat}
theorem LQd_c (eS : S' 0 = S 0) (eC : C' 36 = C 36) (h : LQd S C n w nl L) : LQd S' C' n w nl L := by
  unfold LQd at *
  rw [eS, eC]
  exact h
theorem LAd_c (e1 : S' 1 = S 1) (e6 : C' 6 = C 6) (e7 : C' 7 = C 7) (e11 : C' 11 = C 11) (e12 : C' 12 = C 12) (h : LAd S C) : LAd S' C' := by
  unfold LAd at *
  rw [e1, e6, e7, e11, e12]
  exact h
theorem LPd_c (e2 : S' 2 = S 2) (e3 : S' 3 = S 3) (e4 : S' 4 = S 4) (e5 : S' 5 = S 5) (e8 : C' 8 = C 8) (e9 : C' 9 = C 9) (e13 : C' 13 = C 13) (e24 : C' 24 = C 24) (h : LPd S C w) : LPd S' C' w := by
  unfold LPd at *
  rw [e2, e3, e4, e5, e8, e9, e13, e24]
  exact h
theorem LZd_c (e2 : S' 2 = S 2) (e3 : S' 3 = S 3) (e4 : S' 4 = S 4) (e5 : S' 5 = S 5) (h : LZd S w) : LZd S' w := by
  unfold LZd at *
  rw [e2, e3, e4, e5]
  exact h
theorem LBd_c (e2 : S' 2 = S 2) (e3 : S' 3 = S 3) (e4 : S' 4 = S 4) (e5 : S' 5 = S 5) (h : LBd S) : LBd S' := by
  unfold LBd at *
  rw [e2, e3, e4, e5]
  exact h
theorem LTd_c (e6 : S' 6 = S 6) (e10 : C' 10 = C 10) (e25 : C' 25 = C 25) (h : LTd S C w L) : LTd S' C' w L := by
  unfold LTd at *
  rw [e6, e10, e25]
  exact h
theorem LFd_c (e7 : S' 7 = S 7) (e15 : C' 15 = C 15) (e16 : C' 16 = C 16) (e17 : C' 17 = C 17) (h : LFd S C n) : LFd S' C' n := by
  unfold LFd at *
  rw [e7, e15, e16, e17]
  exact h
theorem LLd_c (e8 : S' 8 = S 8) (eC : ∀ k, 30 ≤ k → k ≤ 38 → k ≠ 37 → C' k = C k) (h : LLd S C w nl) : LLd S' C' w nl := by
  unfold LLd at *
  rw [e8, eC 30 (by decide) (by decide) (by decide), eC 31 (by decide) (by decide) (by decide), eC 32 (by decide) (by decide) (by decide), eC 33 (by decide) (by decide) (by decide), eC 34 (by decide) (by decide) (by decide), eC 35 (by decide) (by decide) (by decide), eC 36 (by decide) (by decide) (by decide), eC 38 (by decide) (by decide) (by decide)]
  exact h
theorem LCd_c (e8 : S' 8 = S 8) (h : LCd S nl) : LCd S' nl := by
  unfold LCd at *
  rw [e8]
  exact h
theorem LUd_c (e9 : S' 9 = S 9) (e18 : C' 18 = C 18) (e19 : C' 19 = C 19) (e20 : C' 20 = C 20) (e5 : C' 5 = C 5) (e21 : C' 21 = C 21) (h : LUd S C tn) : LUd S' C' tn := by
  unfold LUd at *
  rw [e9, e18, e19, e20, e5, e21]
  exact h
theorem LUd_tn {t : Nat} (ht : tn ≤ t) (h : LUd S C tn) : LUd S C t := fun b hb => by
  obtain ⟨h1, ⟨v, h2, h3⟩, h4⟩ := h b hb
  have : 9000 * tn ≤ 9000 * t := Nat.mul_le_mul_left _ ht
  exact ⟨h1, ⟨v, by omega, h3⟩, h4⟩
theorem LI_tn {t : Nat} (ht : tn ≤ t) (h : LI S C n w nl L tn) : LI S C n w nl L t := by
  obtain ⟨⟨h1, h2, h3, h4, h5, h6, h7⟩, h8⟩ := h
  exact ⟨⟨h1, h2, h3, h4, h5, h6, LUd_tn ht h7⟩, h8⟩
/-- the numbers of a memory are those that it tells -/
theorem Rel2_fix {n' w' L' : Nat} (h : Rel2 C' T n' w' nl L') (hw : C' 0 0 = nI w) (hn : C' 0 1 = nI n) (hL : C' 0 2 = nI L) (w2 : w ≤ 200) (n2 : n ≤ 60) (L2 : L ≤ 50) : ∃ T, Rel2 C' T n w nl L := by
  obtain ⟨⟨a1, -, a3⟩, ⟨b1, -, b3⟩, -, d1, -, d3⟩ := h.1.2.1
  have e1 : w' = w := (nI_eq (by omega) (by omega)).mp (a1.symm.trans hw)
  have e2 : n' = n := (nI_eq (by omega) (by omega)).mp (b1.symm.trans hn)
  have e3 : L' = L := (nI_eq (by omega) (by omega)).mp (d1.symm.trans hL)
  subst e1
  subst e2
  subst e3
  exact ⟨T, h⟩
/-- a memory whose numbers are as they were -/
theorem Rel2_same {n' w' L' : Nat} {T' : Nat → Nat → Int32} (h0 : Rel2 C T n w nl L) (h : Rel2 C' T' n' w' nl L') (e : C' 0 = C 0) : ∃ T, Rel2 C' T n w nl L := by
  obtain ⟨⟨a1, -, a3⟩, ⟨b1, -, b3⟩, -, d1, -, d3⟩ := h0.1.2.1
  exact Rel2_fix h (by rw [e]; exact a1) (by rw [e]; exact b1) (by rw [e]; exact d1) a3 b3 d3
theorem op_people (h : LI S C n w nl L tn) {s p v : Nat} (hs : s < 12) (hp : p ≤ 1000) (hv : v ≤ 100) : ∃ cN, coSetPeople C (nI s) (nI p) (nI v) = (nI 0, S 1 s, cN) ∧ LI (up (up S 1 s (nI p)) 1 (12 + s) (nI v)) cN n w nl L tn := by
  obtain ⟨⟨h1, h2, ⟨h3, h3z, h3b⟩, h4, h5, ⟨h6, h6c⟩, h7⟩, T, hR⟩ := h
  have e : coSetPeople C (nI s) (nI p) (nI v) = (nI 0, C 6 s, up (up C 6 s (nI p)) 7 s (nI v)) := by
    unfold coSetPeople
    rw [if_pos (ixP_n hs (by decide)), if_pos (inP_n hp (by decide)), if_pos (inP_n hv (by decide)), nI_clamp (by omega)]
  have eS : ∀ k, k ≠ 1 → up (up S 1 s (nI p)) 1 (12 + s) (nI v) k = S k := fun k hk => (up_n hk).trans (up_n hk)
  have eC : ∀ k, k ≠ 6 → k ≠ 7 → up (up C 6 s (nI p)) 7 s (nI v) k = C k := fun k a b => (up_n b).trans (up_n a)
  obtain ⟨-, n', w', L', hR'⟩ := both_setPeople hR (nI s) (nI p) (nI v)
  rw [e, outS_0] at hR'
  refine ⟨_, by rw [e, (h2 s hs).1], ⟨LQd_c (eS 0 (by decide)) (eC 36 (by decide) (by decide)) h1, fun x hx => ?_, ⟨LPd_c (eS 2 (by decide)) (eS 3 (by decide)) (eS 4 (by decide)) (eS 5 (by decide)) (eC 8 (by decide) (by decide)) (eC 9 (by decide) (by decide)) (eC 13 (by decide) (by decide)) (eC 24 (by decide) (by decide)) h3, LZd_c (eS 2 (by decide)) (eS 3 (by decide)) (eS 4 (by decide)) (eS 5 (by decide)) h3z, LBd_c (eS 2 (by decide)) (eS 3 (by decide)) (eS 4 (by decide)) (eS 5 (by decide)) h3b⟩, LTd_c (eS 6 (by decide)) (eC 10 (by decide) (by decide)) (eC 25 (by decide) (by decide)) h4, LFd_c (eS 7 (by decide)) (eC 15 (by decide) (by decide)) (eC 16 (by decide) (by decide)) (eC 17 (by decide) (by decide)) h5, ⟨LLd_c (eS 8 (by decide)) (fun k a b c => eC k (by omega) (by omega)) h6, LCd_c (eS 8 (by decide)) h6c⟩, LUd_c (eS 9 (by decide)) (eC 18 (by decide) (by decide)) (eC 19 (by decide) (by decide)) (eC 20 (by decide) (by decide)) (eC 5 (by decide) (by decide)) (eC 21 (by decide) (by decide)) h7⟩, Rel2_same hR hR' (eC 0 (by decide) (by decide))⟩
  obtain ⟨a1, a2, a3⟩ := h2 x hx
  have c6 : up (up C 6 s (nI p)) 7 s (nI v) 6 x = upd (C 6) s (nI p) x := congrFun ((up_n (by decide)).trans (up_s _ _ _ _)) x
  have c7 : up (up C 6 s (nI p)) 7 s (nI v) 7 x = upd (C 7) s (nI v) x := congrFun ((up_s _ _ _ _).trans (by rw [up_n (by decide)])) x
  rw [c6, c7, eC 11 (by decide) (by decide), eC 12 (by decide) (by decide)]
  have r : ∀ i, up (up S 1 s (nI p)) 1 (12 + s) (nI v) 1 i = if i = 12 + s then nI v else if i = s then nI p else S 1 i := fun i => by
    rw [up_s, up_s]
    by_cases c : i = 12 + s
    · rw [if_pos c, c, pk_us]
    · rw [if_neg c, pk_un c]
      by_cases d : i = s
      · rw [if_pos d, d, pk_us]
      · rw [if_neg d, pk_un d]
  rw [r, r, r]
  refine ⟨?_, ?_, ?_⟩
  · rw [if_neg (by omega)]
    by_cases c : x = s
    · rw [if_pos c, c, pk_us]
    · rw [if_neg c, pk_un c]; exact a1
  · by_cases c : x = s
    · rw [if_pos (by omega), c, pk_us]
    · rw [if_neg (by omega), if_neg (by omega), pk_un c]; exact a2
  · rw [if_neg (by omega), if_neg (by omega)]; exact a3
theorem lamp_rem (h : LI S C n w nl L tn) {s : Nat} (hs : s < 12) : S 1 (24 + s) - S 1 (24 + s) / nI 100 * nI 100 = C 12 s := by
  obtain ⟨⟨-, h2, -⟩, T, hR⟩ := h
  obtain ⟨b, b1, b2⟩ := hR.1.2.2.2.2.2.1 s
  rw [(h2 s hs).2.2, b2]
  by_cases c : C 11 s = 0
  · rw [if_pos c, pk_rem (by omega) (by decide) (by decide), Nat.mod_eq_of_lt (by omega)]
  · rw [if_neg c, nI_add, pk_rem (by omega) (by decide) (by decide), show (100 + b) % 100 = b from by omega]
theorem op_lamp (h : LI S C n w nl L tn) {s b wk : Nat} {v : Int32} (hs : s < 12) (hb : b ≤ 60) (hwk : (wk = 1 ∧ v = nI b) ∨ (wk = 0 ∧ v = nI (100 + b))) : ∃ cN, coSetLamp C (nI s) (nI wk) (nI b) = (nI 0, C 12 s, cN) ∧ LI (up S 1 (24 + s) v) cN n w nl L tn := by
  obtain ⟨⟨h1, h2, ⟨h3, h3z, h3b⟩, h4, h5, ⟨h6, h6c⟩, h7⟩, T, hR⟩ := h
  have e : coSetLamp C (nI s) (nI wk) (nI b) = (nI 0, C 12 s, up (up C 11 s (if nI wk = 0 then nI 1 else nI 0)) 12 s (nI b)) := by
    unfold coSetLamp
    rw [if_pos (ixP_n hs (by decide)), if_pos (inP_n hb (by decide)), nI_clamp (by omega)]
  obtain ⟨-, n', w', L', hR'⟩ := both_setLamp hR (nI s) (nI wk) (nI b)
  rw [e, outS_0] at hR'
  have ev : v = if (if nI wk = 0 then nI 1 else nI 0) = 0 then nI b else nI 100 + nI b := by
    rcases hwk with ⟨rfl, rfl⟩ | ⟨rfl, rfl⟩
    · rw [if_pos (by decide)]
    · rw [if_neg (by decide), nI_add]
  generalize (if nI wk = 0 then nI 1 else nI 0) = g at e hR' ev
  have eS : ∀ k, k ≠ 1 → up S 1 (24 + s) v k = S k := fun k hk => up_n hk
  have eC : ∀ k, k ≠ 11 → k ≠ 12 → up (up C 11 s g) 12 s (nI b) k = C k := fun k a b => (up_n b).trans (up_n a)
  refine ⟨_, e, ⟨LQd_c (eS 0 (by decide)) (eC 36 (by decide) (by decide)) h1, fun x hx => ?_, ⟨LPd_c (eS 2 (by decide)) (eS 3 (by decide)) (eS 4 (by decide)) (eS 5 (by decide)) (eC 8 (by decide) (by decide)) (eC 9 (by decide) (by decide)) (eC 13 (by decide) (by decide)) (eC 24 (by decide) (by decide)) h3, LZd_c (eS 2 (by decide)) (eS 3 (by decide)) (eS 4 (by decide)) (eS 5 (by decide)) h3z, LBd_c (eS 2 (by decide)) (eS 3 (by decide)) (eS 4 (by decide)) (eS 5 (by decide)) h3b⟩, LTd_c (eS 6 (by decide)) (eC 10 (by decide) (by decide)) (eC 25 (by decide) (by decide)) h4, LFd_c (eS 7 (by decide)) (eC 15 (by decide) (by decide)) (eC 16 (by decide) (by decide)) (eC 17 (by decide) (by decide)) h5, ⟨LLd_c (eS 8 (by decide)) (fun k a b c => eC k (by omega) (by omega)) h6, LCd_c (eS 8 (by decide)) h6c⟩, LUd_c (eS 9 (by decide)) (eC 18 (by decide) (by decide)) (eC 19 (by decide) (by decide)) (eC 20 (by decide) (by decide)) (eC 5 (by decide) (by decide)) (eC 21 (by decide) (by decide)) h7⟩, Rel2_same hR hR' (eC 0 (by decide) (by decide))⟩
  obtain ⟨a1, a2, a3⟩ := h2 x hx
  have c11 : up (up C 11 s g) 12 s (nI b) 11 x = upd (C 11) s g x := congrFun ((up_n (by decide)).trans (up_s _ _ _ _)) x
  have c12 : up (up C 11 s g) 12 s (nI b) 12 x = upd (C 12) s (nI b) x := congrFun ((up_s _ _ _ _).trans (by rw [up_n (by decide)])) x
  rw [c11, c12, eC 6 (by decide) (by decide), eC 7 (by decide) (by decide), up_s, pk_un (show x ≠ 24 + s by omega), pk_un (show 12 + x ≠ 24 + s by omega)]
  refine ⟨a1, a2, ?_⟩
  by_cases c : x = s
  · rw [c, pk_us, pk_us, pk_us]; exact ev
  · rw [pk_un (by omega), pk_un c, pk_un c]; exact a3
theorem op_skill (h : LI S C n w nl L tn) {b v : Nat} (hb : b < 6) (hv : v ≤ 50) : ∃ cN, coSetSkill C (nI b) (nI v) = (nI 0, S 9 b, cN) ∧ LI (up S 9 b (nI v)) cN n w nl L tn := by
  obtain ⟨⟨h1, h2, ⟨h3, h3z, h3b⟩, h4, h5, ⟨h6, h6c⟩, h7⟩, T, hR⟩ := h
  have e : coSetSkill C (nI b) (nI v) = (nI 0, C 18 b, up C 18 b (nI v)) := by
    unfold coSetSkill
    rw [if_pos (ixP_n hb (by decide)), if_pos (inP_n hv (by decide)), nI_clamp (by omega)]
  obtain ⟨-, n', w', L', hR'⟩ := both_setSkill hR (nI b) (nI v)
  rw [e, outS_0] at hR'
  have eS : ∀ k, k ≠ 9 → up S 9 b (nI v) k = S k := fun k hk => up_n hk
  have eC : ∀ k, k ≠ 18 → up C 18 b (nI v) k = C k := fun k a => up_n a
  refine ⟨_, by rw [e, (h7 b hb).1.1], ⟨LQd_c (eS 0 (by decide)) (eC 36 (by decide)) h1, LAd_c (eS 1 (by decide)) (eC 6 (by decide)) (eC 7 (by decide)) (eC 11 (by decide)) (eC 12 (by decide)) h2, ⟨LPd_c (eS 2 (by decide)) (eS 3 (by decide)) (eS 4 (by decide)) (eS 5 (by decide)) (eC 8 (by decide)) (eC 9 (by decide)) (eC 13 (by decide)) (eC 24 (by decide)) h3, LZd_c (eS 2 (by decide)) (eS 3 (by decide)) (eS 4 (by decide)) (eS 5 (by decide)) h3z, LBd_c (eS 2 (by decide)) (eS 3 (by decide)) (eS 4 (by decide)) (eS 5 (by decide)) h3b⟩, LTd_c (eS 6 (by decide)) (eC 10 (by decide)) (eC 25 (by decide)) h4, LFd_c (eS 7 (by decide)) (eC 15 (by decide)) (eC 16 (by decide)) (eC 17 (by decide)) h5, ⟨LLd_c (eS 8 (by decide)) (fun k a b c => eC k (by omega)) h6, LCd_c (eS 8 (by decide)) h6c⟩, fun x hx => ?_⟩, Rel2_same hR hR' (eC 0 (by decide))⟩
  obtain ⟨⟨a1, a2, a3, a4⟩, a5, a6⟩ := h7 x hx
  rw [up_s, up_s, eC 19 (by decide), eC 20 (by decide), eC 5 (by decide), eC 21 (by decide), pk_un (show 6 + x ≠ b by omega), pk_un (show 12 + x ≠ b by omega), pk_un (show 24 + x ≠ b by omega), pk_un (show 18 + x ≠ b by omega)]
  refine ⟨⟨?_, a2, a3, a4⟩, a5, a6⟩
  by_cases c : x = b
  · rw [c, pk_us, pk_us]
  · rw [pk_un c, pk_un c]; exact a1
theorem op_pay (h : LI S C n w nl L tn) {b v : Nat} (hb : b < 6) (h1v : 1 ≤ v) (hv : v ≤ 9000) (ht : tn < 100) : ∃ cN, coPay C nl (nI b) (nI v) = (nI 0, yOw S n w b nl - nI v, cN) ∧ LI (up S 9 (24 + b) (S 9 (24 + b) + nI v)) cN n w nl L (tn + 1) := by
  have hh := h
  obtain ⟨⟨h1, h2, ⟨h3, h3z, h3b⟩, h4, h5, ⟨h6, h6c⟩, h7⟩, T, hR⟩ := h
  obtain ⟨⟨a1, a2, a3, a4⟩, ⟨v5, b5, e5⟩, a6⟩ := h7 b hb
  have e : coPay C nl (nI b) (nI v) = (nI 0, dbF (up C 5 b (C 5 b + nI v)) b nl, up C 5 b (C 5 b + nI v)) := by
    unfold coPay
    rw [if_pos (ixP_n hb (by decide)), if_pos (inP_1 h1v (by omega) (by decide)), nI_clamp (by omega), if_pos (by rw [e5, nI_add]; exact (nI_leI (by omega) (by decide)).mpr (by omega))]
  have db : ∀ k, dbF (up C 5 b (C 5 b + nI v)) b k = dbF C b k - nI v := fun k => by
    induction k with
    | zero =>
      unfold dbF
      rw [up_si, Int32.neg_add, Int32.sub_eq_add_neg]
    | succ k ih =>
      unfold dbF
      rw [ih, up_n (by decide), up_n (by decide)]
      split
      · rw [Int32.sub_eq_add_neg, Int32.sub_eq_add_neg, Int32.add_assoc, Int32.add_assoc, Int32.add_comm (-(nI v))]
      · rfl
  obtain ⟨-, n', w', L', hR'⟩ := both_pay hR (nI b) (nI v)
  rw [e, outS_0] at hR'
  have eS : ∀ k, k ≠ 9 → up S 9 (24 + b) (S 9 (24 + b) + nI v) k = S k := fun k hk => up_n hk
  have eC : ∀ k, k ≠ 5 → up C 5 b (C 5 b + nI v) k = C k := fun k a => up_n a
  refine ⟨_, by rw [e, db, ow_e hh.1 hR.1 hb nl (Nat.le_refl _)], ⟨LQd_c (eS 0 (by decide)) (eC 36 (by decide)) h1, LAd_c (eS 1 (by decide)) (eC 6 (by decide)) (eC 7 (by decide)) (eC 11 (by decide)) (eC 12 (by decide)) h2, ⟨LPd_c (eS 2 (by decide)) (eS 3 (by decide)) (eS 4 (by decide)) (eS 5 (by decide)) (eC 8 (by decide)) (eC 9 (by decide)) (eC 13 (by decide)) (eC 24 (by decide)) h3, LZd_c (eS 2 (by decide)) (eS 3 (by decide)) (eS 4 (by decide)) (eS 5 (by decide)) h3z, LBd_c (eS 2 (by decide)) (eS 3 (by decide)) (eS 4 (by decide)) (eS 5 (by decide)) h3b⟩, LTd_c (eS 6 (by decide)) (eC 10 (by decide)) (eC 25 (by decide)) h4, LFd_c (eS 7 (by decide)) (eC 15 (by decide)) (eC 16 (by decide)) (eC 17 (by decide)) h5, ⟨LLd_c (eS 8 (by decide)) (fun k a b c => eC k (by omega)) h6, LCd_c (eS 8 (by decide)) h6c⟩, fun x hx => ?_⟩, Rel2_same hR hR' (eC 0 (by decide))⟩
  obtain ⟨⟨b1, b2, b3, b4⟩, ⟨v6, c5, f5⟩, b6⟩ := h7 x hx
  rw [up_s, up_s, eC 18 (by decide), eC 19 (by decide), eC 20 (by decide), eC 21 (by decide), pk_un (show x ≠ 24 + b by omega), pk_un (show 6 + x ≠ 24 + b by omega), pk_un (show 12 + x ≠ 24 + b by omega), pk_un (show 18 + x ≠ 24 + b by omega)]
  by_cases c : x = b
  · subst c
    refine ⟨⟨b1, b2, b3, ?_⟩, ⟨v6 + v, by omega, ?_⟩, b6⟩
    · rw [pk_us, pk_us, b4]
    · rw [pk_us, f5, nI_add]
  · refine ⟨⟨b1, b2, b3, ?_⟩, ⟨v6, by omega, ?_⟩, b6⟩
    · rw [pk_un (by omega), pk_un c]; exact b4
    · rw [pk_un c]; exact f5
end M3
