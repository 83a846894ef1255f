/-! findings and lost readings: what changes of a lease's rents when counts change -/
theorem i_pull (A r D : Int32) : A + D + r = A + r + D := by rw [Int32.add_assoc, Int32.add_comm D, ← Int32.add_assoc]
theorem i_to (a b : Int32) : a + (b - a) = b := by rw [Int32.add_comm, Int32.sub_add_cancel]
theorem i_dif (A D : Int32) : A + D - A = D := by rw [Int32.add_comm, Int32.add_sub_cancel]
theorem i_fill (A b c : Int32) : A + nI 0 + c = A + b + (c - b) := by rw [nI_0, Int32.add_zero, Int32.add_assoc, i_to]
theorem i_tri (a b c : Int32) : (b - a) + (c - b) = c - a := by rw [Int32.add_comm, Int32.sub_eq_add_neg b a, ← Int32.add_assoc, Int32.sub_add_cancel, ← Int32.sub_eq_add_neg]
theorem i_00 : nI 0 + nI 0 = nI 0 := by decide
theorem i_z (a : Int32) : a + nI 0 = a := by rw [nI_0, Int32.add_zero]
def smF (g : Nat → Int32) : Nat → Int32
  | 0 => nI 0
  | i + 1 => smF g i + g i
theorem smF_congr {f g : Nat → Int32} : ∀ {n : Nat}, (∀ i, i < n → f i = g i) → smF f n = smF g n
  | 0, _ => rfl
  | n + 1, h => by
    unfold smF
    rw [smF_congr (n := n) (fun i hi => h i (by omega)), h n (by omega)]
theorem smF_add (f g : Nat → Int32) : ∀ n, smF f n + smF g n = smF (fun i => f i + g i) n
  | 0 => i_00
  | n + 1 => by
    show smF f n + f n + (smF g n + g n) = smF (fun i => f i + g i) n + (f n + g n)
    rw [← smF_add f g n, Int32.add_assoc, Int32.add_assoc, ← Int32.add_assoc (f n), Int32.add_comm (f n) (smF g n), Int32.add_assoc (smF g n)]
theorem smF_0 {f : Nat → Int32} : ∀ {n : Nat}, (∀ i, i < n → f i = nI 0) → smF f n = nI 0
  | 0, _ => rfl
  | n + 1, h => by
    unfold smF
    rw [smF_0 (n := n) (fun i hi => h i (by omega)), h n (by omega)]
    exact i_00
/-- the rents of a lease out of counts f, j hours from a on -/
def blF (S : Nat → Nat → Int32) (f : Nat → Int32) (i a : Nat) : Nat → Int32
  | 0 => nI 0
  | j + 1 => blF S f i a j + rentF S i (f ((a + j) * 12 + secN S i))
theorem blF_congr {S S' : Nat → Nat → Int32} {f : Nat → Int32} {i a : Nat} (h31 : S' 31 = S 31) (h33 : S' 33 = S 33) (h34 : S' 34 = S 34) : ∀ j, blF S' f i a j = blF S f i a j
  | 0 => rfl
  | j + 1 => by
    unfold blF rentF secN
    rw [blF_congr h31 h33 h34 j, h31, h33, h34]
theorem blF_upd {S : Nat → Nat → Int32} {f : Nat → Int32} {i a x h : Nat} {c : Int32} (hx : x < 12) (hs : secN S i < 12) : ∀ j, blF S (upd f (h * 12 + x) c) i a j = blF S f i a j + (if secN S i = x ∧ a ≤ h ∧ h < a + j then rentF S i c - rentF S i (f (h * 12 + x)) else nI 0)
  | 0 => by
    rw [if_neg (by omega)]
    exact (i_z _).symm
  | j + 1 => by
    have ih := blF_upd (S := S) (f := f) (i := i) (a := a) (h := h) (c := c) hx hs j
    show blF S (upd f (h * 12 + x) c) i a j + rentF S i (upd f (h * 12 + x) c ((a + j) * 12 + secN S i)) = blF S f i a j + rentF S i (f ((a + j) * 12 + secN S i)) + _
    rw [ih]
    by_cases e : secN S i = x ∧ a + j = h
    · rw [if_neg (by omega), if_pos (by omega), show (a + j) * 12 + secN S i = h * 12 + x from by rw [e.1, e.2], pk_us]
      exact i_fill _ _ _
    · rw [pk_un (by omega)]
      by_cases d : secN S i = x ∧ a ≤ h ∧ h < a + j
      · rw [if_pos d, if_pos (by omega)]
        exact i_pull _ _ _
      · rw [if_neg d, if_neg (by omega), i_z, i_z]
/-- by now -/
def bnF (S : Nat → Nat → Int32) (f : Nat → Int32) (w i : Nat) : Int32 := blF S f i (ix S 35 i) (min (ix S 36 i) w - ix S 35 i)
theorem bnF_congr {S S' : Nat → Nat → Int32} {f : Nat → Int32} {w i : Nat} (h31 : S' 31 = S 31) (h33 : S' 33 = S 33) (h34 : S' 34 = S 34) (h35 : S' 35 = S 35) (h36 : S' 36 = S 36) : bnF S' f w i = bnF S f w i := by
  unfold bnF ix
  rw [h35, h36]
  exact blF_congr h31 h33 h34 _
/-- what a change of one count changes -/
def dlF (S : Nat → Nat → Int32) (x h : Nat) (bf af : Int32) (i : Nat) : Int32 := if S 31 i = nI x then (if covP S i (nI h) then crD S i bf af else nI 0) else nI 0
theorem cov_nat {u v : Int32} {a b h : Nat} (hu : u = nI a) (hv : v = nI b) (ha : a < 2 ^ 31) (hb : b < 2 ^ 31) (hh : h < 2 ^ 31) : (¬ nI h < u ∧ nI h < v) ↔ (a ≤ h ∧ h < b) := by
  subst hu hv
  rw [nI_ltI hh ha, nI_ltI hh hb]
  omega
theorem bn_dl {S : Nat → Nat → Int32} {nl : Nat} (ho : okC S nl) {i x h w : Nat} (hi : i < nl) (hx : x < 12) (hh : h < w) (hw : w ≤ 200) (f : Nat → Int32) (c : Int32) : bnF S (upd f (h * 12 + x) c) w i = bnF S f w i + dlF S x h (f (h * 12 + x)) c i := by
  obtain ⟨⟨e31, b31⟩, ⟨e35, b35⟩, ⟨e36, b36⟩⟩ := ho i hi
  unfold bnF
  rw [blF_upd hx b31]
  congr 1
  unfold dlF covP
  have cv := cov_nat (h := h) e35 e36 (by omega) (by omega) (by omega)
  by_cases c1 : secN S i = x
  · rw [if_pos (show S 31 i = nI x by rw [e31, c1])]
    by_cases c2 : ix S 35 i ≤ h ∧ h < ix S 36 i
    · rw [if_pos (show secN S i = x ∧ ix S 35 i ≤ h ∧ h < ix S 35 i + (min (ix S 36 i) w - ix S 35 i) by omega), if_pos (cv.mpr c2)]
      rfl
    · rw [if_neg (fun z => c2 (by omega)), if_neg (fun z => c2 (cv.mp z))]
  · rw [if_neg (fun z => c1 z.1), if_neg (fun z => c1 (by rw [e31] at z; exact (nI_eq (by omega) (by omega)).mp z))]
theorem st_ext {g d : Nat → Int32} {i : Nat} (h0 : d i = nI 0) (j : Nat) : (if j < i then g j + d j else g j) = (if j < i + 1 then g j + d j else g j) := by
  by_cases c : j = i
  · subst c
    rw [if_neg (by omega), if_pos (by omega), h0, i_z]
  · by_cases e : j < i
    · rw [if_pos e, if_pos (by omega)]
    · rw [if_neg e, if_neg (by omega)]
theorem st_upd {g d M : Nat → Int32} {i : Nat} {v : Int32} (hM : ∀ j, M j = if j < i then g j + d j else g j) (hv : v = M i + d i) (j : Nat) : upd M i v j = if j < i + 1 then g j + d j else g j := by
  by_cases c : j = i
  · subst c
    rw [pk_us, hv, hM, if_neg (by omega), if_pos (by omega)]
  · rw [pk_un c, hM]
    by_cases e : j < i
    · rw [if_pos e, if_pos (by omega)]
    · rw [if_neg e, if_neg (by omega)]
theorem crF_v (S : Nat → Nat → Int32) (x h : Nat) (bf af : Int32) : ∀ i, (crF S x h bf af i).1 = smF (dlF S x h bf af) i ∧ (∀ j, (crF S x h bf af i).2 37 j = if j < i then S 37 j + dlF S x h bf af j else S 37 j) ∧ (∀ j, (crF S x h bf af i).2 38 j = if j < i then S 38 j + dlF S x h bf af j else S 38 j)
  | 0 => ⟨rfl, fun j => by rw [if_neg (by omega)]; rfl, fun j => by rw [if_neg (by omega)]; rfl⟩
  | i + 1 => by
    obtain ⟨h1, h2, h3⟩ := crF_v S x h bf af i
    have n : ∀ k, k ≠ 37 → k ≠ 38 → (crF S x h bf af i).2 k = S k := fun k h7 h8 => crF_n h7 h8 i
    have eD : crD (crF S x h bf af i).2 i bf af = crD S i bf af := by
      unfold crD rentF
      rw [n 33 (by decide) (by decide), n 34 (by decide) (by decide)]
    have same : dlF S x h bf af i = nI 0 → (crF S x h bf af i).1 = smF (dlF S x h bf af) (i + 1) ∧ (∀ j, (crF S x h bf af i).2 37 j = if j < i + 1 then S 37 j + dlF S x h bf af j else S 37 j) ∧ (∀ j, (crF S x h bf af i).2 38 j = if j < i + 1 then S 38 j + dlF S x h bf af j else S 38 j) := fun z => by
      refine ⟨?_, fun j => by rw [h2 j]; exact st_ext z j, fun j => by rw [h3 j]; exact st_ext z j⟩
      unfold smF
      rw [h1, z, i_z]
    rw [crF_s, n 31 (by decide) (by decide), eD]
    by_cases c : S 31 i = nI x
    · rw [if_pos c]
      have cv : covP (crF S x h bf af i).2 i (nI h) ↔ covP S i (nI h) := by
        unfold covP
        rw [n 35 (by decide) (by decide), n 36 (by decide) (by decide)]
      by_cases d : covP S i (nI h)
      · rw [if_pos (cv.mpr d)]
        have ed : dlF S x h bf af i = crD S i bf af := by
          unfold dlF
          rw [if_pos c, if_pos d]
        refine ⟨?_, fun j => ?_, fun j => ?_⟩
        · show (crF S x h bf af i).1 + crD S i bf af = smF (dlF S x h bf af) i + dlF S x h bf af i
          rw [h1, ed]
        · dsimp only
          rw [up_n (k := 38) (j := 37) (by decide), up_s]
          exact st_upd h2 (by rw [ed]) j
        · dsimp only
          rw [up_s, up_n (k := 37) (j := 38) (by decide)]
          exact st_upd h3 (by rw [ed]) j
      · rw [if_neg (fun z => d (cv.mp z))]
        exact same (by unfold dlF; rw [if_pos c, if_neg d])
    · rw [if_neg c]
      exact same (by unfold dlF; rw [if_neg c])
def ddF (S : Nat → Nat → Int32) (f : Nat → Int32) (nl w i : Nat) : Int32 := if i < nl then bnF S f w i - bnF S (S 14) w i else nI 0
/-- counts were changed, and bills and corrections went with them -/
def KQ (nl w : Nat) (S : Nat → Nat → Int32) (t : Int32 × (Nat → Nat → Int32)) : Prop := (∀ k, k ≠ 14 → k ≠ 37 → k ≠ 38 → t.2 k = S k) ∧ (∀ i, t.2 37 i = S 37 i + ddF S (t.2 14) nl w i) ∧ (∀ i, t.2 38 i = S 38 i + ddF S (t.2 14) nl w i) ∧ t.1 = smF (ddF S (t.2 14) nl w) nl
theorem ddF_0 {S : Nat → Nat → Int32} {nl w i : Nat} : ddF S (S 14) nl w i = nI 0 := by
  unfold ddF
  by_cases c : i < nl
  · rw [if_pos c, Int32.sub_self, nI_0]
  · rw [if_neg c]
theorem KQ_0 (nl w : Nat) (S : Nat → Nat → Int32) : KQ nl w S (nI 0, S) := ⟨fun _ _ _ _ => rfl, fun i => by dsimp only; rw [ddF_0, i_z], fun i => by dsimp only; rw [ddF_0, i_z], (smF_0 (fun i _ => ddF_0)).symm⟩
theorem KQ_trans {nl w : Nat} {S : Nat → Nat → Int32} {t u : Int32 × (Nat → Nat → Int32)} (h : KQ nl w S t) (k : KQ nl w t.2 u) : KQ nl w S (t.1 + u.1, u.2) := by
  obtain ⟨h1, h2, h3, h4⟩ := h
  obtain ⟨k1, k2, k3, k4⟩ := k
  have b : ∀ (f : Nat → Int32) (i : Nat), bnF t.2 f w i = bnF S f w i := fun f i => bnF_congr (h1 31 (by decide) (by decide) (by decide)) (h1 33 (by decide) (by decide) (by decide)) (h1 34 (by decide) (by decide) (by decide)) (h1 35 (by decide) (by decide) (by decide)) (h1 36 (by decide) (by decide) (by decide))
  have e : ∀ i, ddF S (u.2 14) nl w i = ddF S (t.2 14) nl w i + ddF t.2 (u.2 14) nl w i := fun i => by
    unfold ddF
    by_cases c : i < nl
    · rw [if_pos c, if_pos c, if_pos c, b, b]
      exact (i_tri _ _ _).symm
    · rw [if_neg c, if_neg c, if_neg c]
      exact i_00.symm
  refine ⟨fun k a b c => (k1 k a b c).trans (h1 k a b c), fun i => ?_, fun i => ?_, ?_⟩
  · dsimp only
    rw [k2, h2, e, Int32.add_assoc]
  · dsimp only
    rw [k3, h3, e, Int32.add_assoc]
  · dsimp only
    rw [h4, k4, smF_add]
    exact smF_congr (fun i _ => (e i).symm)
theorem kcM_14 {S : Nat → Nat → Int32} {nl x h : Nat} {c : Int32} : kcM S nl x h c 14 = upd (S 14) (h * 12 + x) c := by
  unfold kcM
  by_cases d : c = S 14 (h * 12 + x)
  · rw [if_pos d]
    exact up_s _ _ _ _
  · rw [if_neg d, crF_n (by decide) (by decide)]
    exact up_s _ _ _ _
theorem KQ_kc {nl w : Nat} {S : Nat → Nat → Int32} (ho : okC S nl) {x h : Nat} (hx : x < 12) (hh : h < w) (hw : w ≤ 200) (c : Int32) : KQ nl w S (kcV S nl x h c, kcM S nl x h c) := by
  have e14 := kcM_14 (S := S) (nl := nl) (x := x) (h := h) (c := c)
  by_cases d : c = S 14 (h * 12 + x)
  · have eM : kcM S nl x h c 14 = S 14 := by rw [e14]; exact upd_same d.symm
    have z : ∀ i, ddF S (kcM S nl x h c 14) nl w i = nI 0 := fun i => by rw [eM]; exact ddF_0
    have n : ∀ k, k ≠ 14 → kcM S nl x h c k = S k := fun k hk => by
      unfold kcM
      rw [if_pos d]
      exact up_n hk
    refine ⟨fun k a _ _ => n k a, fun i => ?_, fun i => ?_, ?_⟩
    · dsimp only
      rw [z, i_z, n 37 (by decide)]
    · dsimp only
      rw [z, i_z, n 38 (by decide)]
    · dsimp only
      rw [smF_0 (fun i _ => z i)]
      unfold kcV
      rw [if_pos d]
  · have z : ∀ i, i < nl → ddF S (kcM S nl x h c 14) nl w i = dlF S x h (S 14 (h * 12 + x)) c i := fun i hi => by
      unfold ddF
      rw [if_pos hi, e14, bn_dl ho hi hx hh hw]
      exact i_dif _ _
    have z0 : ∀ i, ¬ i < nl → ddF S (kcM S nl x h c 14) nl w i = nI 0 := fun i hi => if_neg hi
    have eU : ∀ k, k ≠ 14 → up S 14 (h * 12 + x) c k = S k := fun k hk => up_n hk
    have eL : ∀ i, dlF (up S 14 (h * 12 + x) c) x h (S 14 (h * 12 + x)) c i = dlF S x h (S 14 (h * 12 + x)) c i := fun i => by
      unfold dlF covP crD rentF
      rw [eU 31 (by decide), eU 33 (by decide), eU 34 (by decide), eU 35 (by decide), eU 36 (by decide)]
    obtain ⟨v1, v2, v3⟩ := crF_v (up S 14 (h * 12 + x) c) x h (S 14 (h * 12 + x)) c nl
    have eM : kcM S nl x h c = (crF (up S 14 (h * 12 + x) c) x h (S 14 (h * 12 + x)) c nl).2 := by
      unfold kcM
      rw [if_neg d]
    refine ⟨fun k a b e => kcM_n a b e, fun i => ?_, fun i => ?_, ?_⟩
    · show kcM S nl x h c 37 i = _
      rw [show kcM S nl x h c 37 i = _ from (congrFun (congrFun eM 37) i).trans (v2 i), eL, eU 37 (by decide)]
      dsimp only
      by_cases hi : i < nl
      · rw [if_pos hi, z i hi]
      · rw [if_neg hi, z0 i hi, i_z]
    · show kcM S nl x h c 38 i = _
      rw [show kcM S nl x h c 38 i = _ from (congrFun (congrFun eM 38) i).trans (v3 i), eL, eU 38 (by decide)]
      dsimp only
      by_cases hi : i < nl
      · rw [if_pos hi, z i hi]
      · rw [if_neg hi, z0 i hi, i_z]
    · show kcV S nl x h c = _
      unfold kcV
      rw [if_neg d, v1]
      exact smF_congr (fun i hi => (eL i).trans (z i hi).symm)
theorem KQ_okC {nl w : Nat} {S : Nat → Nat → Int32} {t : Int32 × (Nat → Nat → Int32)} (h : KQ nl w S t) (ho : okC S nl) : okC t.2 nl := okC_congr (h.1 31 (by decide) (by decide) (by decide)) (h.1 35 (by decide) (by decide) (by decide)) (h.1 36 (by decide) (by decide) (by decide)) ho
theorem KQ_rcS {nl w : Nat} {S : Nat → Nat → Int32} {t : Int32 × (Nat → Nat → Int32)} (h : KQ nl w S t) (ho : okC S nl) {x h0 : Nat} (hx : x < 12) (hh : h0 < w) (hw : w ≤ 200) : KQ nl w S (rcS nl h0 x t) :=
  KQ_trans (u := (kcV t.2 nl x h0 (gapF t.2 (rowF (t.2 14) h0) h0 x), kcM t.2 nl x h0 (gapF t.2 (rowF (t.2 14) h0) h0 x))) h (KQ_kc (KQ_okC h ho) hx hh hw (gapF t.2 (rowF (t.2 14) h0) h0 x))
theorem KQ_rcA {nl w : Nat} {S : Nat → Nat → Int32} (ho : okC S nl) {h0 : Nat} (hh : h0 < w) (hw : w ≤ 200) : ∀ (k : Nat) (t : Int32 × (Nat → Nat → Int32)), k ≤ 12 → KQ nl w S t → KQ nl w S (rcA nl h0 k t)
  | 0, _, _, h => h
  | k + 1, t, hk, h => by
    unfold rcA
    by_cases c : t.2 13 (h0 * 12 + k) = -1
    · rw [if_pos c]
      exact KQ_rcA ho hh hw k _ (by omega) (KQ_rcS h ho (by omega) hh hw)
    · rw [if_neg c]
      exact h
theorem KQ_rcB {nl w : Nat} {S : Nat → Nat → Int32} (ho : okC S nl) {h0 : Nat} (hh : h0 < w) (hw : w ≤ 200) : ∀ (f i : Nat) (t : Int32 × (Nat → Nat → Int32)), i + f ≤ 12 → KQ nl w S t → KQ nl w S (rcB nl h0 f i t)
  | 0, _, _, _, h => h
  | f + 1, i, t, hk, h => by
    unfold rcB
    by_cases c : t.2 13 (h0 * 12 + i) = -1
    · rw [if_pos c]
      exact KQ_rcB ho hh hw f (i + 1) _ (by omega) (KQ_rcS h ho (by omega) hh hw)
    · rw [if_neg c]
      exact h
theorem KQ_rcF {nl w : Nat} {S : Nat → Nat → Int32} (ho : okC S nl) {n x h0 : Nat} (hx : x < 12) (hh : h0 < w) (hw : w ≤ 200) : KQ nl w S (rcF S n nl x h0) := by
  unfold rcF
  by_cases c : S 13 (h0 * 12 + x) = -1
  · rw [if_pos c]
    exact KQ_0 nl w S
  · rw [if_neg c]
    exact KQ_rcB ho hh hw _ _ _ (by omega) (KQ_rcA ho hh hw _ _ (by omega) (KQ_kc ho hx hh hw _))
theorem KQ_fd {nl w : Nat} {S : Nat → Nat → Int32} (ho : okC S nl) {n x h0 : Nat} (hx : x < 12) (hw : w ≤ 200) : ∀ k, h0 + k ≤ w → KQ nl w S (fdC S n nl x h0 k)
  | 0, _ => KQ_0 nl w S
  | k + 1, hk => by
    have ih := KQ_fd (n := n) (h0 := h0) ho hx hw k (by omega)
    exact KQ_trans ih (KQ_rcF (KQ_okC ih ho) hx (by omega) hw)
