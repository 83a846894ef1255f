/-! counts and rents, anew and kept -/
/-- readings are -1, or small numbers -/
def RD (T : Nat → Nat → Int32) : Prop := ∀ i, T 8 i = -1 ∨ ∃ v, v ≤ 30000 ∧ T 8 i = nI v
theorem cnt_eq {S T : Nat → Nat → Int32} {n : Nat} (h : RR S T) (ht : okT T n) (h0 x : Nat) : cntR S n h0 x = cntM T n h0 x := by
  obtain ⟨v, h1, h2⟩ := takenF_ok (wh := T 12) (si := T 13) (x := nI x) (h := nI h0) ht
  unfold cntR cntC cntM
  rw [← h.at 8 13 (by decide), ← h.at 12 15 (by decide), ← h.at 13 16 (by decide), ← h.at 14 17 (by decide), h2, pk_sub (show v ≤ 100 by omega)]
  rw [if_neg (fun z => by have := (k_nle0 (a := 100 - v) (by omega)).mp z; omega)]
theorem cnt_nn {T : Nat → Nat → Int32} {n h0 x : Nat} (ht : okT T n) (hd : RD T) (c : ¬ T 8 (h0 * 12 + x) = -1) : ¬ cntM T n h0 x = -1 := by
  obtain ⟨v, h1, h2⟩ := takenF_ok (wh := T 12) (si := T 13) (x := nI x) (h := nI h0) ht
  obtain ⟨r, h3, h4⟩ := (hd (h0 * 12 + x)).resolve_left c
  unfold cntM
  rw [h2, h4, pk_sub (show v ≤ 100 by omega), pk_mul, pk_div (by omega) (by omega) (by omega)]
  exact fun z => (k_m1 (Nat.lt_of_le_of_lt (Nat.div_le_self _ _) (by omega))).mp z
theorem naO_ne {g : Nat → Int32} {k : Nat} : ∀ {x : Nat}, naO g x = some k → ¬ g k = -1
  | 0, h => by cases h
  | x + 1, h => by
    by_cases c : g x = -1
    · rw [naO_t c] at h
      exact naO_ne h
    · rw [naO_f c] at h
      cases h
      exact c
theorem nbO_ne {g : Nat → Int32} {k : Nat} : ∀ {n x : Nat}, nbO g n x = some k → ¬ g k = -1
  | 0, x, h => by cases h
  | n + 1, x, h => by
    by_cases c : g x = -1
    · rw [nbO_t c] at h
      exact nbO_ne h
    · rw [nbO_f c] at h
      cases h
      exact c
theorem anew_eq {S T : Nat → Nat → Int32} {n : Nat} (h : RR S T) (ht : okT T n) (hd : RD T) {h0 x : Nat} (hx : x < 12) : anewF S n h0 x = coM T n h0 x := by
  unfold anewF coM gapF
  have e13 : S 13 = T 8 := (h.at 8 13 (by decide)).symm
  have ec : cntR S n h0 = cntM T n h0 := funext fun j => cnt_eq h ht h0 j
  rw [e13, ec]
  by_cases c : T 8 (h0 * 12 + x) = -1
  · have cg : rowF (T 8) h0 x = -1 := c
    rw [if_pos c, naO_t cg, show 12 - x = (11 - x) + 1 from by omega, nbO_t cg]
    have na : ∀ k, naO (rowF (T 8) h0) x = some k → ¬ cntM T n h0 k = -1 ∧ k < x := fun k hk => ⟨cnt_nn ht hd (show ¬ rowF (T 8) h0 k = -1 from naO_ne hk), naO_lt hk⟩
    have nb : ∀ k, nbO (rowF (T 8) h0) (11 - x) (x + 1) = some k → ¬ cntM T n h0 k = -1 ∧ x < k ∧ k < 12 := fun k hk => ⟨cnt_nn ht hd (show ¬ rowF (T 8) h0 k = -1 from nbO_ne hk), by have := nbO_lt hk; omega, by have := nbO_lt hk; omega⟩
    cases hA : naO (rowF (T 8) h0) x with
    | none =>
      cases hB : nbO (rowF (T 8) h0) (11 - x) (x + 1) with
      | none => unfold filF; rw [oV_n, if_pos rfl, if_pos rfl]; rfl
      | some j => unfold filF; rw [oV_n, oV_s, if_pos rfl, if_neg (nb j hB).1]; rfl
    | some k =>
      cases hB : nbO (rowF (T 8) h0) (11 - x) (x + 1) with
      | none => unfold filF; rw [oV_s, oV_n, if_neg (na k hA).1, if_pos rfl]; rfl
      | some j =>
        unfold filF
        rw [oV_s, oV_s, if_neg (na k hA).1, if_neg (nb j hB).1]
        show (cntM T n h0 k + cntM T n h0 j) / nI 2 = if nI k = nI j then cntM T n h0 x else (cntM T n h0 k + cntM T n h0 j) / nI 2
        rw [if_neg (fun z => by have := (nI_eq (by have := (na k hA).2; omega) (by have := (nb j hB).2; omega)).mp z; have := (na k hA).2; have := (nb j hB).2; omega)]
  · have cg : ¬ rowF (T 8) h0 x = -1 := c
    rw [if_neg c, naO_f cg, show 12 - x = (11 - x) + 1 from by omega, nbO_f cg]
    show cntM T n h0 x = if nI x = nI x then cntM T n h0 x else _
    rw [if_pos rfl]
theorem okT_t {T : Nat → Nat → Int32} {n : Nat} {v : Int32} (ht : okT T n) : okT (up T 0 0 v) n := fun k hk => by rw [up_n (by decide)]; exact ht k hk
theorem coM_t {T : Nat → Nat → Int32} {n h x : Nat} {v : Int32} : coM (up T 0 0 v) n h x = coM T n h x := coM_congr (up_n (by decide)) (up_n (by decide)) (up_n (by decide)) (up_n (by decide)) n h x
theorem a_anew {S T : Nat → Nat → Int32} {n w nl L : Nat} (h : RR S T) (hs : RS S T n w nl L) (ht : okT T n) (hd : RD T) (s h0 : Int32) : Ans (coAnew S n s h0) (moCount T n s h0) := by
  unfold coAnew moCount iaP iaV
  rw [now_eq hs]
  by_cases c1 : inP s (nI 0) (nI 11)
  · by_cases c2 : inP h0 (nI 0) (T 0 1 - nI 1)
    · rw [if_pos (ix12.mpr c1), if_pos c2, if_pos ⟨c1, c2⟩, if_pos c1, if_pos c2]
      exact Ans_ok (by rw [coM_t]; exact anew_eq h ht hd (by have := (inP_nat c1 (by decide)).2; omega)) (up_si _ _ _ _)
    · rw [if_pos (ix12.mpr c1), if_neg c2, if_neg (fun z => c2 z.2), if_pos c1, if_neg c2]
      exact ⟨(up_si T 0 0 (nI 2)).symm, fun z => absurd (show nI 2 = nI 0 from z) (by decide)⟩
  · rw [if_neg (fun z => c1 (ix12.mp z)), if_neg (fun z => c1 z.1), if_neg c1]
    exact ⟨(up_si T 0 0 (nI 1)).symm, fun z => absurd (show nI 1 = nI 0 from z) (by decide)⟩
theorem a_count {S T : Nat → Nat → Int32} {n w nl L : Nat} (hs : RS S T n w nl L) (hk : RK S T n w) (s h0 : Int32) : Ans (coRow S 14 s h0) (moCount T n s h0) := by
  unfold coRow moCount iaP iaV
  rw [now_eq hs]
  by_cases c1 : inP s (nI 0) (nI 11)
  · by_cases c2 : inP h0 (nI 0) (T 0 1 - nI 1)
    · rw [if_pos (ix12.mpr c1), if_pos c2, if_pos ⟨c1, c2⟩, if_pos c1, if_pos c2]
      exact Ans_ok (by rw [coM_t]; exact hk _ _ (inP_lt hs.1.2.1 c2 (by have := hs.1.2.2; omega)).2 (by have := (inP_nat c1 (by decide)).2; omega)) (up_si _ _ _ _)
    · rw [if_pos (ix12.mpr c1), if_neg c2, if_neg (fun z => c2 z.2), if_pos c1, if_neg c2]
      exact ⟨(up_si T 0 0 (nI 2)).symm, fun z => absurd (show nI 2 = nI 0 from z) (by decide)⟩
  · rw [if_neg (fun z => c1 (ix12.mp z)), if_neg (fun z => c1 z.1), if_neg c1]
    exact ⟨(up_si T 0 0 (nI 1)).symm, fun z => absurd (show nI 1 = nI 0 from z) (by decide)⟩
theorem ms_eq {S T : Nat → Nat → Int32} {n w h : Nat} (hr : RR S T) (hk : RK S T n w) (hh : h < w) : ∀ x, x ≤ 12 → msC S h x = msF T n h x
  | 0, _ => rfl
  | x + 1, hx => by
    unfold msC msF
    rw [ms_eq hr hk hh x (by omega)]
    have e : ofC S (h * 12 + x) = ofM T n h x := by
      unfold ofC ofM
      rw [hk h x hh (by omega), hr.at 6 8 (by decide)]
    rw [e]
    by_cases c : ofM T n h x < 0
    · rw [if_neg (Int32.not_le.mpr c), if_pos c, Int32.zero_sub]
    · rw [if_pos (Int32.not_lt.mp c), if_neg c]
theorem ofM_t {T : Nat → Nat → Int32} {n h x : Nat} : ofM (z0 T) n h x = ofM T n h x := by
  unfold ofM
  rw [coM_t, z0_n (by decide)]
theorem msF_t {T : Nat → Nat → Int32} {n h : Nat} : ∀ x, msF (z0 T) n h x = msF T n h x
  | 0 => rfl
  | x + 1 => by
    unfold msF
    rw [msF_t x, ofM_t]
theorem a_missed {S T : Nat → Nat → Int32} {n w nl L : Nat} (h : RR S T) (hs : RS S T n w nl L) (hk : RK S T n w) (h0 : Int32) : Ans (coMissed S h0) (moMissed T n h0) := by
  unfold coMissed moMissed
  rw [now_eq0 hs]
  by_cases c1 : inP h0 (nI 0) (up T 0 0 (nI 0) 0 1 - nI 1)
  · rw [if_pos c1, if_pos c1]
    exact Ans_ok (by rw [msF_t]; exact ms_eq h hk (inP_lt hs.t.1.2.1 c1 (by have := hs.1.2.2; omega)).2 12 (Nat.le_refl _)) z0_0
  · rw [if_neg c1, if_neg c1]
    exact Ans_fl (by decide)
/-- a lease's section goes by its door -/
def RX (S : Nat → Nat → Int32) (nl : Nat) : Prop := ∀ y, y < nl → S 31 y = nI (ix S 30 y / 3) ∧ ix S 30 y < 36 ∧ S 30 y = nI (ix S 30 y)
theorem ba_eq {S T : Nat → Nat → Int32} {n nl y : Nat} (h : RR S T) (ht : okT T n) (hd : RD T) (hx : RX S nl) (hy : y < nl) : ∀ j, baF S n y j = rtF T n y (ix T 16 y) (ix T 20 y) j
  | 0 => rfl
  | j + 1 => by
    have e1 : secN S y = ix T 16 y / 3 := by
      unfold secN
      rw [(hx y hy).1, nI_clamp (by have := (hx y hy).2.1; omega)]
      unfold ix
      rw [h.at 16 30 (by decide)]
    have e2 : ix S 35 y = ix T 20 y := by unfold ix; rw [h.at 20 35 (by decide)]
    unfold baF rtF rentF
    rw [ba_eq h ht hd hx hy j, e1, e2, anew_eq h ht hd (by rw [← e1]; unfold secN; rw [(hx y hy).1, nI_clamp (by have := (hx y hy).2.1; omega)]; have := (hx y hy).2.1; omega), h.at 18 33 (by decide), h.at 19 34 (by decide)]
theorem a_billedAnew {S T : Nat → Nat → Int32} {n w nl L : Nat} (h : RR S T) (hs : RS S T n w nl L) (ht : okT T n) (hd : RD T) (hx : RX S nl) (y : Int32) : Ans (coBilledAnew S n w nl y) (moBilled T n w y) := by
  unfold coBilledAnew moBilled
  by_cases c1 : ixP y (nI nl)
  · rw [if_pos c1, if_pos ((ixl hs.nl0 hs.nl.2).mp c1)]
    refine Ans_ok ?_ z0_0
    rw [rnM_z0]
    unfold rnM
    rw [ba_eq h ht hd hx (ixP_nat c1 hs.nl.2).2]
    unfold ix
    rw [h.at 20 35 (by decide), h.at 21 36 (by decide)]
  · rw [if_neg c1, if_neg (fun z => c1 ((ixl hs.nl0 hs.nl.2).mpr z))]
    exact Ans_fl (by decide)
