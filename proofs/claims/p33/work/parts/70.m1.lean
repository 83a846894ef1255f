/-! the law's rows beside the class's memory: counts and bills -/
theorem tk_cg {wh si fo wh' si' fo' : Nat → Int32} {x h : Int32} : ∀ n, (∀ k, k < n → wh k = wh' k ∧ si k = si' k ∧ fo k = fo' k) → takenF wh si fo x h n = takenF wh' si' fo' x h n
  | 0, _ => rfl
  | n + 1, hk => by
    have a := hk n (by omega)
    unfold takenF
    rw [a.1, a.2.1, a.2.2, tk_cg n (fun k q => hk k (by omega))]
/-- findings are the same -/
def LFd (S C : Nat → Nat → Int32) (n : Nat) : Prop := ∀ k, k < n → S 7 (3 * k) = C 15 k ∧ S 7 (3 * k + 1) = C 16 k ∧ S 7 (3 * k + 2) = C 17 k
/-- what ended hours saw is the same -/
def LPd (S C : Nat → Nat → Int32) (w : Nat) : Prop := ∀ i, i < w * 12 → S 2 i = C 8 i ∧ S 3 i = C 9 i ∧ S 4 i = C 13 i + nI 1 ∧ S 5 i = C 24 i + nI 1
/-- readings are small or none; blind spots are small -/
def okRd (C : Nat → Nat → Int32) : Prop := ∀ i, C 13 i = -1 ∨ ∃ r, r ≤ 30000 ∧ C 13 i = nI r
def okBl (C : Nat → Nat → Int32) (n : Nat) : Prop := ∀ k, k < n → ∃ v, v ≤ 60 ∧ C 17 k = nI v
theorem cnt_num {r v : Nat} (hr : r ≤ 30000) (hv : v ≤ 60) : 100 * r / (100 - v) ≤ 75000 := by
  have h1 : 100 * r / (100 - v) ≤ 3000000 / (100 - v) := Nat.div_le_div_right (by omega)
  have h2 : 3000000 / (100 - v) ≤ 3000000 / 40 := Nat.div_le_div_left (by omega) (by decide)
  omega
section M1
variable {S C : Nat → Nat → Int32} {n w h x : Nat}
theorem cntR_ok (hb : okBl C n) {r : Nat} (hr : r ≤ 30000) (e : C 13 (h * 12 + x) = nI r) : ∃ v, v ≤ 60 ∧ takenF (C 15) (C 16) (C 17) (nI x) (nI h) n = nI v ∧ cntR C n h x = nI (100 * r / (100 - v)) := by
  obtain ⟨v, h1, h2⟩ := takenF_ok (wh := C 15) (si := C 16) (fo := C 17) (x := nI x) (h := nI h) (n := n) hb
  refine ⟨v, h1, h2, ?_⟩
  unfold cntR cntC
  rw [h2, e, pk_sub (by omega), if_neg (nI_nle (by omega) (by omega)), pk_mul, pk_div (by omega) (by omega) (by omega)]
theorem ySp_e (hf : LFd S C n) (x h : Int32) : ySp S n x h = takenF (C 15) (C 16) (C 17) x h n := tk_cg n hf
theorem yRd_e (hf : LFd S C n) (hp : LPd S C w) (hr : okRd C) (hb : okBl C n) (hh : h < w) (hx : x < 12) : yRd S n h x = if C 13 (h * 12 + x) = -1 then -1 else cntR C n h x := by
  have e4 := (hp (h * 12 + x) (by omega)).2.2.1
  unfold yRd
  rcases hr (h * 12 + x) with e | ⟨r, h1, e⟩
  · rw [if_pos e, e4, e, if_pos (by decide)]
  · obtain ⟨v, v1, v2, v3⟩ := cntR_ok (h := h) (x := x) hb h1 e
    have e5 : S 4 (h * 12 + x) = nI (r + 1) := by rw [e4, e]; exact nI_add r 1
    rw [e5, if_neg (nI_ne0 (by omega) (by omega)), e, if_neg (fun z => (k_m1 (by omega)).mp z), k_pred, ySp_e hf, v2, v3, pk_sub (by omega), pk_mul, pk_div (by omega) (by omega) (by omega), Nat.mul_comm]
theorem yRx_neg {z : Int32} (c : z < 0) : yRx S n h z = -1 := if_pos c
theorem yRx_in {k : Nat} (hk : k < 12) : yRx S n h (nI k) = yRd S n h k := by
  unfold yRx
  rw [if_neg (nI_pos (by omega)), if_pos ((nI_leI (by omega) (by decide)).mpr (by omega)), nI_clamp (by omega)]
theorem yRx_out {k : Nat} (hk : 12 ≤ k) (hk2 : k < 2 ^ 31) : yRx S n h (nI k) = -1 := by
  unfold yRx
  rw [if_neg (nI_pos hk2), if_neg (fun z => by have := (nI_leI hk2 (by decide)).mp z; omega)]
/-- what a place tells: none, or a count -/
theorem rd_cases (hf : LFd S C n) (hp : LPd S C w) (hr : okRd C) (hb : okBl C n) (hh : h < w) (hx : x < 12) : (rowF (C 13) h x = -1 ∧ yRd S n h x = -1) ∨ (¬ rowF (C 13) h x = -1 ∧ yRd S n h x = cntR C n h x ∧ ∃ u, u ≤ 75000 ∧ cntR C n h x = nI u) := by
  have e := yRd_e hf hp hr hb hh hx
  rcases hr (h * 12 + x) with c | ⟨r, h1, c⟩
  · exact Or.inl ⟨c, by rw [e, if_pos c]⟩
  · have c2 : ¬ C 13 (h * 12 + x) = -1 := by rw [c]; exact fun z => (k_m1 (by omega)).mp z
    obtain ⟨v, v1, -, v3⟩ := cntR_ok (h := h) (x := x) hb h1 c
    exact Or.inr ⟨c2, by rw [e, if_neg c2], _, cnt_num h1 v1, v3⟩
theorem m1_neg : (-1 : Int32) < 0 := by decide
theorem yLf_e (hf : LFd S C n) (hp : LPd S C w) (hr : okRd C) (hb : okBl C n) (hh : h < w) (hx : x < 12) : ∀ m, m ≤ 11 → yLf S n h x m = oV (naO (rowF (C 13) h) (x + m - 11)) (cntR C n h)
  | 0, _ => by
    rw [show x + 0 - 11 = 0 from by omega]
    rfl
  | m + 1, hm => by
    have ih := yLf_e hf hp hr hb hh hx m (by omega)
    rw [yLf_s, ih]
    by_cases c : x < 11 - m
    · rw [yRx_neg (pk_sneg (by omega) c), if_pos m1_neg, show x + (m + 1) - 11 = x + m - 11 from by omega]
    · rw [pk_sub (show 11 - m ≤ x by omega), show x + (m + 1) - 11 = (x + m - 11) + 1 from by omega, show x - (11 - m) = x + m - 11 from by omega, yRx_in (by omega)]
      rcases rd_cases hf hp hr hb hh (x := x + m - 11) (by omega) with ⟨c1, c2⟩ | ⟨c1, c2, u, u1, u2⟩
      · rw [c2, if_pos m1_neg, naO_t c1]
      · rw [c2, u2, if_neg (nI_pos (by omega)), naO_f c1, oV_s, u2]
theorem yRt_e (hf : LFd S C n) (hp : LPd S C w) (hr : okRd C) (hb : okBl C n) (hh : h < w) (hx : x < 12) : ∀ m, m ≤ 11 → yRt S n h x m = oV (nbO (rowF (C 13) h) (m - x) (x + 12 - m)) (cntR C n h)
  | 0, _ => by
    rw [show 0 - x = 0 from by omega]
    rfl
  | m + 1, hm => by
    have ih := yRt_e hf hp hr hb hh hx m (by omega)
    rw [yRt_s, ih]
    by_cases c : 11 < x + (11 - m)
    · rw [yRx_out (by omega) (by omega), if_pos m1_neg, show m + 1 - x = 0 from by omega, show m - x = 0 from by omega]
      rfl
    · rw [yRx_in (by omega), show m + 1 - x = (m - x) + 1 from by omega, show x + 12 - (m + 1) = x + (11 - m) from by omega, show x + 12 - m = x + (11 - m) + 1 from by omega]
      rcases rd_cases hf hp hr hb hh (x := x + (11 - m)) (by omega) with ⟨c1, c2⟩ | ⟨c1, c2, u, u1, u2⟩
      · rw [c2, if_pos m1_neg, nbO_t c1]
      · rw [c2, u2, if_neg (nI_pos (by omega)), nbO_f c1, oV_s, u2]
/-- none is -1, all else isn't below 0 -/
theorem oV_cases (hr : okRd C) (hb : okBl C n) {o : Option Nat} (ho : ∀ k, o = some k → ¬ rowF (C 13) h k = -1) : oV o (cntR C n h) = -1 ∨ ∃ u, u ≤ 75000 ∧ oV o (cntR C n h) = nI u := by
  cases o with
  | none => exact Or.inl rfl
  | some k =>
    rcases hr (h * 12 + k) with c | ⟨r, h1, c⟩
    · exact absurd c (ho k rfl)
    · obtain ⟨v, v1, -, v3⟩ := cntR_ok (h := h) (x := k) hb h1 c
      exact Or.inr ⟨_, cnt_num h1 v1, v3⟩
theorem fil_e {a b : Int32} (ha : a = -1 ∨ ∃ u, u ≤ 75000 ∧ a = nI u) (hb : b = -1 ∨ ∃ u, u ≤ 75000 ∧ b = nI u) : (if a < 0 then (if b < 0 then nI 0 else b) else (if b < 0 then a else (a + b) / nI 2)) = filF a b ∧ ∃ u, u ≤ 75000 ∧ filF a b = nI u := by
  unfold filF
  rcases ha with rfl | ⟨u, hu, rfl⟩
  · rcases hb with rfl | ⟨v, hv, rfl⟩
    · exact ⟨rfl, 0, by omega, rfl⟩
    · rw [if_pos m1_neg, if_neg (nI_pos (by omega)), if_pos rfl, if_neg (fun z => (k_m1 (by omega)).mp z)]
      exact ⟨rfl, v, hv, rfl⟩
  · have nu : ¬ nI u = -1 := fun z => (k_m1 (by omega)).mp z
    rcases hb with rfl | ⟨v, hv, rfl⟩
    · rw [if_neg (nI_pos (by omega)), if_pos m1_neg, if_neg nu, if_pos rfl]
      exact ⟨rfl, u, hu, rfl⟩
    · rw [if_neg (nI_pos (by omega)), if_neg (nI_pos (by omega)), if_neg nu, if_neg (fun z => (k_m1 (by omega)).mp z), nI_add, pk_div (by omega) (by decide) (by decide)]
      exact ⟨rfl, (u + v) / 2, by omega, rfl⟩
/-- the law's count is the class's count anew -/
theorem yCn_e (hf : LFd S C n) (hp : LPd S C w) (hr : okRd C) (hb : okBl C n) (hh : h < w) (hx : x < 12) : yCn S n h x = anewF C n h x ∧ ∃ u, u ≤ 75000 ∧ anewF C n h x = nI u := by
  have eL := yLf_e hf hp hr hb hh hx 11 (Nat.le_refl _)
  have eR := yRt_e hf hp hr hb hh hx 11 (Nat.le_refl _)
  rw [show x + 11 - 11 = x from by omega] at eL
  rw [show x + 12 - 11 = x + 1 from by omega] at eR
  unfold yCn
  rw [yRx_in hx, eL, eR]
  rcases rd_cases hf hp hr hb hh hx with ⟨c1, c2⟩ | ⟨c1, c2, u, u1, u2⟩
  · have g := fil_e (oV_cases hr hb (o := naO (rowF (C 13) h) x) (fun k e => naO_ne e)) (oV_cases hr hb (o := nbO (rowF (C 13) h) (11 - x) (x + 1)) (fun k e => nbO_ne e))
    have e : anewF C n h x = filF (oV (naO (rowF (C 13) h) x) (cntR C n h)) (oV (nbO (rowF (C 13) h) (11 - x) (x + 1)) (cntR C n h)) := if_pos c1
    rw [e, c2, if_pos m1_neg]
    exact g
  · have e : anewF C n h x = cntR C n h x := if_neg c1
    rw [e, c2, u2, if_neg (nI_pos (by omega))]
    exact ⟨rfl, u, u1, rfl⟩
end M1
/-! sums up and down -/
theorem sm_shift (g : Nat → Int32) : ∀ M, smF g (M + 1) = g 0 + smF (fun i => g (i + 1)) M
  | 0 => by
    show nI 0 + g 0 = g 0 + nI 0
    exact Int32.add_comm _ _
  | M + 1 => by
    show smF g (M + 1) + g (M + 1) = g 0 + (smF (fun i => g (i + 1)) M + g (M + 1))
    rw [sm_shift g M, Int32.add_assoc]
theorem sm_rev (g : Nat → Int32) : ∀ M, smF (fun i => g (M - 1 - i)) M = smF g M
  | 0 => rfl
  | M + 1 => by
    rw [sm_shift]
    show g (M + 1 - 1 - 0) + smF (fun i => g (M + 1 - 1 - (i + 1))) M = smF g M + g M
    rw [show M + 1 - 1 - 0 = M from by omega, smF_congr (g := fun i => g (M - 1 - i)) (fun i _ => by rw [show M + 1 - 1 - (i + 1) = M - 1 - i from by omega]), sm_rev g M, Int32.add_comm]
theorem sm_tail (g : Nat → Int32) {M : Nat} : ∀ d, (∀ i, M ≤ i → i < M + d → g i = nI 0) → smF g (M + d) = smF g M
  | 0, _ => rfl
  | d + 1, h => by
    show smF g (M + d) + g (M + d) = smF g M
    rw [h (M + d) (by omega) (by omega), i_z, sm_tail g d (fun i h1 h2 => h i h1 (by omega))]
theorem yBl_sm (S : Nat → Nat → Int32) (n w k : Nat) : ∀ m, yBl S n w k m = smF (fun i => yRn S n k (w - 1 - i)) m
  | 0 => rfl
  | m + 1 => by
    unfold yBl smF
    rw [yBl_sm S n w k m]
theorem bl_sm (C : Nat → Nat → Int32) (f : Nat → Int32) (i a : Nat) : ∀ j, blF C f i a j = smF (fun t => rentF C i (f ((a + t) * 12 + secN C i))) j
  | 0 => rfl
  | j + 1 => by
    unfold blF smF
    rw [bl_sm C f i a j]
/-- leases are the same -/
def LLd (S C : Nat → Nat → Int32) (w nl : Nat) : Prop := ∀ k, k < nl → (∃ d t, d < 36 ∧ t < 6 ∧ C 30 k = nI d ∧ C 31 k = nI (d / 3) ∧ C 32 k = nI t ∧ S 8 (6 * k) = nI (d + 36 * t)) ∧ (S 8 (6 * k + 1) = C 33 k ∧ S 8 (6 * k + 2) = C 34 k ∧ S 8 (6 * k + 5) = C 38 k) ∧ (∃ u e, u ≤ w ∧ e ≤ 200 ∧ C 35 k = nI u ∧ C 36 k = nI e ∧ S 8 (6 * k + 3) = nI u ∧ S 8 (6 * k + 4) = nI e)
/-- the same without corrections -/
def LLe (S C : Nat → Nat → Int32) (w nl : Nat) : Prop := ∀ k, k < nl → (∃ d t, d < 36 ∧ t < 6 ∧ C 30 k = nI d ∧ C 31 k = nI (d / 3) ∧ C 32 k = nI t ∧ S 8 (6 * k) = nI (d + 36 * t)) ∧ (S 8 (6 * k + 1) = C 33 k ∧ S 8 (6 * k + 2) = C 34 k) ∧ (∃ u e, u ≤ w ∧ e ≤ 200 ∧ C 35 k = nI u ∧ C 36 k = nI e ∧ S 8 (6 * k + 3) = nI u ∧ S 8 (6 * k + 4) = nI e)
theorem LLd_e {S C : Nat → Nat → Int32} {w nl : Nat} (h : LLd S C w nl) : LLe S C w nl := fun k hk => ⟨(h k hk).1, ⟨(h k hk).2.1.1, (h k hk).2.1.2.1⟩, (h k hk).2.2⟩
theorem LLd_yO {S C : Nat → Nat → Int32} {w nl : Nat} (hw : w ≤ 20) (h : LLd S C w nl) : yO S nl := fun k hk => by
  obtain ⟨⟨d, t, d1, t1, -, -, -, e0⟩, -, u, e, u1, e1, -, -, e3, e4⟩ := h k hk
  unfold ix
  rw [e0, e3, e4, nI_clamp (by omega), nI_clamp (by omega), nI_clamp (by omega)]
  exact ⟨⟨rfl, by omega⟩, ⟨rfl, by omega⟩, rfl, e1⟩
/-- what the law bills is what the class bills anew, and what it keeps -/
theorem yB_e {S C : Nat → Nat → Int32} {n w nl k : Nat} (hf : LFd S C n) (hp : LPd S C w) (hr : okRd C) (hb : okBl C n) (hw : w ≤ 20) (hl : LLe S C w nl) (hk : k < nl) {f : Nat → Int32} (hc : ∀ h x, h < w → x < 12 → f (h * 12 + x) = anewF C n h x) : yB S n w k = bnF C f w k := by
  obtain ⟨⟨d, t, d1, t1, e30, e31, e32, e0⟩, ⟨e33, e34⟩, u, e, u1, eb, e35, e36, e3, e4⟩ := hl k hk
  have x0 : ix S 8 (6 * k) = d + 36 * t := by unfold ix; rw [e0, nI_clamp (by omega)]
  have x3 : ix S 8 (6 * k + 3) = u := by unfold ix; rw [e3, nI_clamp (by omega)]
  have x4 : ix S 8 (6 * k + 4) = e := by unfold ix; rw [e4, nI_clamp (by omega)]
  have x35 : ix C 35 k = u := by unfold ix; rw [e35, nI_clamp (by omega)]
  have x36 : ix C 36 k = e := by unfold ix; rw [e36, nI_clamp (by omega)]
  have xs : secN C k = d / 3 := by unfold secN; rw [e31, nI_clamp (by omega)]
  unfold yB bnF
  rw [x3, x35, x36, yBl_sm, bl_sm]
  have r1 : smF (fun i => yRn S n k (w - 1 - i)) (w - u) = smF (fun j => yRn S n k (u + j)) (w - u) := by
    rw [← sm_rev (fun j => yRn S n k (u + j)) (w - u)]
    exact smF_congr (fun i hi => by rw [show u + (w - u - 1 - i) = w - 1 - i from by omega])
  have r2 : smF (fun j => yRn S n k (u + j)) (w - u) = smF (fun j => yRn S n k (u + j)) (min e w - u) := by
    have := sm_tail (fun j => yRn S n k (u + j)) (M := min e w - u) (w - u - (min e w - u)) (fun i h1 h2 => by
      unfold yRn
      rw [x4, if_neg (by omega)])
    rw [show min e w - u + (w - u - (min e w - u)) = w - u from by omega] at this
    exact this
  rw [r1, r2]
  refine smF_congr (fun j hj => ?_)
  unfold yRn rentF
  rw [x4, if_pos (by omega), x0, xs, hc (u + j) (d / 3) (by omega) (by omega), show (d + 36 * t) % 36 / 3 = d / 3 from by omega, e33, e34, (yCn_e hf hp hr hb (show u + j < w by omega) (show d / 3 < 12 by omega)).1]
