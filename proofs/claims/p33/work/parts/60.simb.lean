/-! counts that are kept are those found anew -/
theorem naO_congr {g g' : Nat → Int32} : ∀ {x : Nat}, (∀ i, i < x → g i = g' i) → naO g x = naO g' x
  | 0, _ => rfl
  | x + 1, h => by
    unfold naO
    rw [h x (by omega), naO_congr (x := x) (fun i hi => h i (by omega))]
theorem nbO_congr {g g' : Nat → Int32} : ∀ {n x : Nat}, (∀ i, x ≤ i → i < x + n → g i = g' i) → nbO g n x = nbO g' n x
  | 0, _, _ => rfl
  | n + 1, x, h => by
    unfold nbO
    rw [h x (by omega) (by omega), nbO_congr (n := n) (x := x + 1) (fun i h1 h2 => h i (by omega) (by omega))]
theorem naO_stop {g g' : Nat → Int32} {m : Nat} (hm : ¬ g' m = -1) : ∀ {x : Nat}, m < x → (∀ i, m ≤ i → i < x → g i = g' i) → naO g x = naO g' x ∧ ∀ k, naO g' x = some k → m ≤ k
  | 0, h, _ => absurd h (Nat.not_lt_zero _)
  | x + 1, h, ha => by
    unfold naO
    rw [ha x (by omega) (by omega)]
    by_cases c : g' x = -1
    · have hx : m < x := by
        rcases Nat.lt_or_ge m x with z | z
        · exact z
        · have e : m = x := by omega
          subst e
          exact absurd c hm
      rw [if_pos c, if_pos c]
      exact naO_stop hm hx (fun i h1 h2 => ha i h1 (by omega))
    · rw [if_neg c, if_neg c]
      exact ⟨rfl, fun k e => by cases e; omega⟩
theorem nbO_stop {g g' : Nat → Int32} {m : Nat} (hm : ¬ g' m = -1) : ∀ {n x : Nat}, x ≤ m → m < x + n → (∀ i, x ≤ i → i ≤ m → g i = g' i) → nbO g n x = nbO g' n x ∧ ∀ k, nbO g' n x = some k → k ≤ m
  | 0, x, h, h2, _ => absurd h2 (by omega)
  | n + 1, x, h, h2, ha => by
    unfold nbO
    rw [ha x (by omega) (by omega)]
    by_cases c : g' x = -1
    · have hx : x + 1 ≤ m := by
        rcases Nat.lt_or_ge x m with z | z
        · omega
        · have e : m = x := by omega
          subst e
          exact absurd c hm
      rw [if_pos c, if_pos c]
      exact nbO_stop hm hx (by omega) (fun i h1 h2 => ha i (by omega) h2)
    · rw [if_neg c, if_neg c]
      exact ⟨rfl, fun k e => by cases e; omega⟩
/-- a gap takes the counts of readings alone -/
theorem gap_eq {S S' : Nat → Nat → Int32} {f f' : Nat → Int32} {h x : Nat} (ea : naO (rowF (S 13) h) x = naO (rowF (S' 13) h) x) (eb : nbO (rowF (S 13) h) (11 - x) (x + 1) = nbO (rowF (S' 13) h) (11 - x) (x + 1)) (ca : ∀ k, naO (rowF (S' 13) h) x = some k → f k = f' k) (cb : ∀ k, nbO (rowF (S' 13) h) (11 - x) (x + 1) = some k → f k = f' k) : gapF S f h x = gapF S' f' h x := by
  unfold gapF
  rw [ea, eb]
  congr 1
  · cases e : naO (rowF (S' 13) h) x with
    | none => rfl
    | some k => exact ca k e
  · cases e : nbO (rowF (S' 13) h) (11 - x) (x + 1) with
    | none => rfl
    | some k => exact cb k e
theorem gap_rd {S S' : Nat → Nat → Int32} (e13 : S 13 = S' 13) {f f' : Nat → Int32} {h x : Nat} (hx : x < 12) (hf : ∀ j, j < 12 → ¬ S' 13 (h * 12 + j) = -1 → f j = f' j) : gapF S f h x = gapF S' f' h x :=
  gap_eq (by rw [e13]) (by rw [e13]) (fun k e => hf k (by have := naO_lt e; omega) (show ¬ rowF (S' 13) h k = -1 from naO_ne e)) (fun k e => hf k (by have := nbO_lt e; omega) (show ¬ rowF (S' 13) h k = -1 from nbO_ne e))
theorem anew_rd {S : Nat → Nat → Int32} {n h x : Nat} (c : ¬ S 13 (h * 12 + x) = -1) : anewF S n h x = cntR S n h x := if_neg c
theorem anew_gp {S : Nat → Nat → Int32} {n h x : Nat} (c : S 13 (h * 12 + x) = -1) : anewF S n h x = gapF S (cntR S n h) h x := if_pos c
/-- two memories whose counts anew are equal at a place -/
theorem anew_eq2 {S S' : Nat → Nat → Int32} {n n' h x : Nat} (e : S 13 (h * 12 + x) = S' 13 (h * 12 + x)) (cx : ¬ S' 13 (h * 12 + x) = -1 → cntR S n h x = cntR S' n' h x) (g : S' 13 (h * 12 + x) = -1 → gapF S (cntR S n h) h x = gapF S' (cntR S' n' h) h x) : anewF S n h x = anewF S' n' h x := by
  by_cases c : S' 13 (h * 12 + x) = -1
  · rw [anew_gp c, anew_gp (e.trans c)]
    exact g c
  · rw [anew_rd c, anew_rd (fun z => c (e.symm.trans z))]
    exact cx c
section AN
variable {S S' : Nat → Nat → Int32} {n n' h x : Nat}
/-- nothing of the hour changed but what stands at lost places -/
theorem anew_all (hr : ∀ i, i < 12 → S 13 (h * 12 + i) = S' 13 (h * 12 + i)) (hc : ∀ i, i < 12 → ¬ S' 13 (h * 12 + i) = -1 → cntR S n h i = cntR S' n' h i) {j : Nat} (hj : j < 12) : anewF S n h j = anewF S' n' h j := by
  refine anew_eq2 (hr j hj) (fun c => hc j hj c) (fun _ => gap_eq (naO_congr (fun i hi => hr i (by omega))) (nbO_congr (fun i h1 h2 => hr i (by omega))) (fun k e => ?_) (fun k e => ?_))
  · exact hc k (by have := naO_lt e; omega) (show ¬ rowF (S' 13) h k = -1 from naO_ne e)
  · exact hc k (by have := nbO_lt e; omega) (show ¬ rowF (S' 13) h k = -1 from nbO_ne e)
/-- ahead of x, with a reading between -/
theorem anew_lo (hr : ∀ i, i < 12 → i ≠ x → S 13 (h * 12 + i) = S' 13 (h * 12 + i)) (hc : ∀ i, i < 12 → i ≠ x → cntR S n h i = cntR S' n' h i) (hx : x < 12) {j m : Nat} (hjm : j ≤ m) (hm : m < x) (hg : ¬ S' 13 (h * 12 + m) = -1) : anewF S n h j = anewF S' n' h j := by
  refine anew_eq2 (hr j (by omega) (by omega)) (fun _ => hc j (by omega) (by omega)) (fun c => ?_)
  have hj : j + 1 ≤ m := by
    rcases Nat.lt_or_ge j m with z | z
    · omega
    · have e : j = m := by omega
      subst e
      exact absurd c hg
  have nb := nbO_stop (g := rowF (S 13) h) (g' := rowF (S' 13) h) (m := m) (n := 11 - j) (x := j + 1) hg hj (by omega) (fun i h1 h2 => hr i (by omega) (by omega))
  refine gap_eq (naO_congr (fun i hi => hr i (by omega) (by omega))) nb.1 (fun k e => ?_) (fun k e => ?_)
  · have := naO_lt e
    exact hc k (by omega) (by omega)
  · have := nb.2 k e
    exact hc k (by omega) (by omega)
/-- behind x, with a reading between -/
theorem anew_hi (hr : ∀ i, i < 12 → i ≠ x → S 13 (h * 12 + i) = S' 13 (h * 12 + i)) (hc : ∀ i, i < 12 → i ≠ x → cntR S n h i = cntR S' n' h i) {j m : Nat} (hj12 : j < 12) (hjm : m ≤ j) (hm : x < m) (hg : ¬ S' 13 (h * 12 + m) = -1) : anewF S n h j = anewF S' n' h j := by
  refine anew_eq2 (hr j (by omega) (by omega)) (fun _ => hc j (by omega) (by omega)) (fun c => ?_)
  have hj : m < j := by
    rcases Nat.lt_or_ge m j with z | z
    · omega
    · have e : j = m := by omega
      subst e
      exact absurd c hg
  have na := naO_stop (g := rowF (S 13) h) (g' := rowF (S' 13) h) (m := m) (x := j) hg hj (fun i h1 h2 => hr i (by omega) (by omega))
  refine gap_eq na.1 (nbO_congr (fun i h1 h2 => hr i (by omega) (by omega))) (fun k e => ?_) (fun k e => ?_)
  · have := na.2 k e
    have := naO_lt e
    exact hc k (by omega) (by omega)
  · have := nbO_lt e
    exact hc k (by omega) (by omega)
end AN
/-- the count that is kept is the one found anew -/
def Gd (S : Nat → Nat → Int32) (n h : Nat) (M : Nat → Nat → Int32) (j : Nat) : Prop := M 14 (h * 12 + j) = anewF S n h j
section GD
variable {S : Nat → Nat → Int32} {n nl h : Nat}
theorem rcS_14 {t : Int32 × (Nat → Nat → Int32)} {k : Nat} : (rcS nl h k t).2 14 = upd (t.2 14) (h * 12 + k) (gapF t.2 (rowF (t.2 14) h) h k) := kcM_14
/-- readings are as they were, their counts are kept -/
def GR (S : Nat → Nat → Int32) (n h : Nat) (t : Int32 × (Nat → Nat → Int32)) : Prop := t.2 13 = S 13 ∧ ∀ j, j < 12 → ¬ S 13 (h * 12 + j) = -1 → Gd S n h t.2 j
theorem rcS_gd {t : Int32 × (Nat → Nat → Int32)} {k : Nat} (hR : GR S n h t) (hk : k < 12) (c : S 13 (h * 12 + k) = -1) : Gd S n h (rcS nl h k t).2 k ∧ (∀ j, Gd S n h t.2 j → Gd S n h (rcS nl h k t).2 j) := by
  have own : Gd S n h (rcS nl h k t).2 k := by
    unfold Gd
    rw [rcS_14, pk_us, anew_gp c]
    exact gap_rd hR.1 hk (fun j hj d => (hR.2 j hj d).trans (anew_rd d))
  refine ⟨own, fun j hj => ?_⟩
  by_cases e : j = k
  · rw [e]
    exact own
  · unfold Gd
    rw [rcS_14, pk_un (by omega)]
    exact hj
theorem rcS_gr {t : Int32 × (Nat → Nat → Int32)} {k : Nat} (hR : GR S n h t) (hk : k < 12) (c : S 13 (h * 12 + k) = -1) : GR S n h (rcS nl h k t) :=
  ⟨(rcS_n (by decide) (by decide) (by decide)).trans hR.1, fun j hj d => (rcS_gd hR hk c).2 j (hR.2 j hj d)⟩
theorem rcA_gd : ∀ (k : Nat) (t : Int32 × (Nat → Nat → Int32)), k ≤ 12 → GR S n h t → (∀ j m, j ≤ m → m < k → ¬ S 13 (h * 12 + m) = -1 → Gd S n h t.2 j) → GR S n h (rcA nl h k t) ∧ (∀ j, j < k → Gd S n h (rcA nl h k t).2 j) ∧ (∀ j, Gd S n h t.2 j → Gd S n h (rcA nl h k t).2 j)
  | 0, t, _, hR, _ => ⟨hR, fun j hj => absurd hj (Nat.not_lt_zero _), fun _ z => z⟩
  | k + 1, t, hk, hR, hH => by
    by_cases c : S 13 (h * 12 + k) = -1
    · rw [rcA_t (by rw [hR.1]; exact c)]
      have g := rcS_gd (nl := nl) hR (show k < 12 by omega) c
      obtain ⟨i1, i2, i3⟩ := rcA_gd k (rcS nl h k t) (by omega) (rcS_gr hR (by omega) c) (fun j m h1 h2 h3 => g.2 j (hH j m h1 (by omega) h3))
      refine ⟨i1, fun j hj => ?_, fun j hj => i3 j (g.2 j hj)⟩
      by_cases e : j = k
      · rw [e]
        exact i3 k g.1
      · exact i2 j (by omega)
    · rw [rcA_f (by rw [hR.1]; exact c)]
      exact ⟨hR, fun j hj => hH j k (by omega) (by omega) c, fun _ z => z⟩
theorem rcB_gd : ∀ (f i : Nat) (t : Int32 × (Nat → Nat → Int32)), i + f ≤ 12 → GR S n h t → (∀ j m, i ≤ m → m ≤ j → j < i + f → ¬ S 13 (h * 12 + m) = -1 → Gd S n h t.2 j) → GR S n h (rcB nl h f i t) ∧ (∀ j, i ≤ j → j < i + f → Gd S n h (rcB nl h f i t).2 j) ∧ (∀ j, Gd S n h t.2 j → Gd S n h (rcB nl h f i t).2 j)
  | 0, i, t, _, hR, _ => ⟨hR, fun j h1 h2 => absurd h2 (by omega), fun _ z => z⟩
  | f + 1, i, t, hk, hR, hH => by
    by_cases c : S 13 (h * 12 + i) = -1
    · rw [rcB_t (by rw [hR.1]; exact c)]
      have g := rcS_gd (nl := nl) hR (show i < 12 by omega) c
      obtain ⟨i1, i2, i3⟩ := rcB_gd f (i + 1) (rcS nl h i t) (by omega) (rcS_gr hR (by omega) c) (fun j m h1 h2 h3 h4 => g.2 j (hH j m (by omega) h2 (by omega) h4))
      refine ⟨i1, fun j h1 h2 => ?_, fun j hj => i3 j (g.2 j hj)⟩
      by_cases e : j = i
      · rw [e]
        exact i3 i g.1
      · exact i2 j (by omega) (by omega)
    · rw [rcB_f (by rw [hR.1]; exact c)]
      exact ⟨hR, fun j h1 h2 => hH j i (by omega) h1 h2 c, fun _ z => z⟩
/-- places of other hours stay -/
theorem rcS_o {t : Int32 × (Nat → Nat → Int32)} {k p : Nat} (hk : k < 12) (hp : ∀ j, j < 12 → p ≠ h * 12 + j) : (rcS nl h k t).2 14 p = t.2 14 p := by
  rw [rcS_14]
  exact pk_un (hp k hk)
theorem rcA_o {p : Nat} (hp : ∀ j, j < 12 → p ≠ h * 12 + j) : ∀ (k : Nat) (t : Int32 × (Nat → Nat → Int32)), k ≤ 12 → (rcA nl h k t).2 14 p = t.2 14 p
  | 0, _, _ => rfl
  | k + 1, t, hk => by
    unfold rcA
    by_cases c : t.2 13 (h * 12 + k) = -1
    · rw [if_pos c, rcA_o hp k _ (by omega)]
      exact rcS_o (by omega) hp
    · rw [if_neg c]
theorem rcB_o {p : Nat} (hp : ∀ j, j < 12 → p ≠ h * 12 + j) : ∀ (f i : Nat) (t : Int32 × (Nat → Nat → Int32)), i + f ≤ 12 → (rcB nl h f i t).2 14 p = t.2 14 p
  | 0, _, _, _ => rfl
  | f + 1, i, t, hk => by
    unfold rcB
    by_cases c : t.2 13 (h * 12 + i) = -1
    · rw [if_pos c, rcB_o hp f (i + 1) _ (by omega)]
      exact rcS_o (by omega) hp
    · rw [if_neg c]
theorem rcF_o {x p : Nat} (hx : x < 12) (hp : ∀ j, j < 12 → p ≠ h * 12 + j) : (rcF S n nl x h).2 14 p = S 14 p := by
  unfold rcF
  by_cases c : S 13 (h * 12 + x) = -1
  · rw [if_pos c]
  · rw [if_neg c, rcB_o hp _ _ _ (by omega), rcA_o hp _ _ (by omega)]
    show kcM S nl x h _ 14 p = _
    rw [kcM_14]
    exact pk_un (hp x hx)
/-- a lamp is counted anew: all counts of the hour are as they are found anew -/
theorem rcF_gd {x : Nat} (hx : x < 12) (hr : ¬ S 13 (h * 12 + x) = -1) (hlo : ∀ j m, j ≤ m → m < x → ¬ S 13 (h * 12 + m) = -1 → Gd S n h S j) (hhi : ∀ j m, x < m → m ≤ j → j < 12 → ¬ S 13 (h * 12 + m) = -1 → Gd S n h S j) : ∀ j, j < 12 → Gd S n h (rcF S n nl x h).2 j := by
  have e14 : (rc0 S n nl x h).2 14 = upd (S 14) (h * 12 + x) (cntR S n h x) := kcM_14
  have g0 : ∀ j, j ≠ x → Gd S n h S j → Gd S n h (rc0 S n nl x h).2 j := fun j hj z => by
    unfold Gd
    rw [e14, pk_un (by omega)]
    exact z
  have gx : Gd S n h (rc0 S n nl x h).2 x := by
    unfold Gd
    rw [e14, pk_us]
    exact (anew_rd hr).symm
  have hR : GR S n h (rc0 S n nl x h) := ⟨kcM_n (by decide) (by decide) (by decide), fun j hj c => by
    rcases Nat.lt_trichotomy j x with z | z | z
    · exact g0 j (by omega) (hlo j j (Nat.le_refl _) z c)
    · rw [z]
      exact gx
    · exact g0 j (by omega) (hhi j j z (Nat.le_refl _) hj c)⟩
  obtain ⟨a1, a2, a3⟩ := rcA_gd (nl := nl) x (rc0 S n nl x h) (by omega) hR (fun j m h1 h2 h3 => g0 j (by omega) (hlo j m h1 h2 h3))
  obtain ⟨b1, b2, b3⟩ := rcB_gd (nl := nl) (11 - x) (x + 1) (rcA nl h x (rc0 S n nl x h)) (by omega) a1 (fun j m h1 h2 h3 h4 => a3 j (g0 j (by omega) (hhi j m (by omega) h2 (by omega) h4)))
  intro j hj
  unfold rcF
  rw [if_neg hr]
  rcases Nat.lt_trichotomy j x with z | z | z
  · exact b3 j (a2 j z)
  · rw [z]
    exact b3 x (a3 x gx)
  · exact b2 j (by omega) (by omega)
theorem rcF_lost {x : Nat} (hr : S 13 (h * 12 + x) = -1) : (rcF S n nl x h).2 = S := by
  unfold rcF
  rw [if_pos hr]
end GD
