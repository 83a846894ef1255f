/-! what the reference's methods answer and do, as functions of its memory -/
/-- the count of a reading -/
def cntM (S : Nat → Nat → Int32) (n h x : Nat) : Int32 := nI 100 * S 8 (h * 12 + x) / (nI 100 - takenF (S 12) (S 13) (S 14) (nI x) (nI h) n)
/-- what was found is a blind spot -/
def okT (S : Nat → Nat → Int32) (n : Nat) : Prop := ∀ k, k < n → ∃ v, v ≤ 60 ∧ S 14 k = nI v
theorem takenF_ok {wh si fo : Nat → Int32} {x h : Int32} : ∀ {n : Nat}, (∀ k, k < n → ∃ v, v ≤ 60 ∧ fo k = nI v) → ∃ v, v ≤ 60 ∧ takenF wh si fo x h n = nI v
  | 0, _ => ⟨0, by omega, rfl⟩
  | n + 1, hk => by
    have ih := takenF_ok (wh := wh) (si := si) (fo := fo) (x := x) (h := h) (n := n) (fun k q => hk k (by omega))
    unfold takenF
    by_cases c : wh n = x
    · rw [if_pos c]
      by_cases d : si n ≤ h
      · rw [if_pos d]; exact hk n (by omega)
      · rw [if_neg d]; exact ih
    · rw [if_neg c]; exact ih
theorem taken_nz {wh si fo : Nat → Int32} {x h : Int32} {n : Nat} (hk : ∀ k, k < n → ∃ v, v ≤ 60 ∧ fo k = nI v) : ¬ nI 100 - takenF wh si fo x h n = 0 := by
  obtain ⟨v, h1, h2⟩ := takenF_ok (wh := wh) (si := si) (x := x) (h := h) hk
  rw [h2, pk_sub (show v ≤ 100 by omega)]
  intro z
  have := (k_n0 (a := 100 - v) (by omega)).mp z
  omega
/-- the count of a section: its reading's, or a gap's -/
def coM (S : Nat → Nat → Int32) (n h x : Nat) : Int32 :=
  (naO (rowF (S 8) h) (x + 1)).elim ((nbO (rowF (S 8) h) (12 - x) x).elim (nI 0) (cntM S n h)) (fun k => (nbO (rowF (S 8) h) (12 - x) x).elim (cntM S n h k) (fun j => if nI k = nI j then cntM S n h x else (cntM S n h k + cntM S n h j) / nI 2))
/-- the rents of a lease: base, rate, door, from its first hour f on, j hours -/
def rtF (S : Nat → Nat → Int32) (n l d f : Nat) : Nat → Int32
  | 0 => nI 0
  | j + 1 => rtF S n l d f j + (S 18 l + S 19 l * coM S n (f + j) (d / 3) / nI 100)
def rnM (S : Nat → Nat → Int32) (n w l : Nat) : Int32 := rtF S n l (ix S 16 l) (ix S 20 l) (min (ix S 21 l) w - ix S 20 l)
/-- leases are in order: doors, first hours and ends are small numbers -/
def okM (S : Nat → Nat → Int32) (nl : Nat) : Prop := ∀ l, l < nl → (S 16 l = nI (ix S 16 l) ∧ ix S 16 l < 36) ∧ (S 20 l = nI (ix S 20 l) ∧ ix S 20 l ≤ 200) ∧ (S 21 l = nI (ix S 21 l) ∧ ix S 21 l ≤ 300)
def kpM (S : Nat → Nat → Int32) (n w : Nat) : Nat → Nat → Nat → Int32
  | 0 => S
  | l + 1 => up (kpM S n w l) 24 l (rnM (kpM S n w l) n w l)
def cdM (S : Nat → Nat → Int32) (n w l : Nat) : Int32 := rnM S n w l - S 24 l
def coF (S : Nat → Nat → Int32) (n w : Nat) : Nat → Int32 × (Nat → Nat → Int32)
  | 0 => (nI 0, S)
  | l + 1 => ((coF S n w l).1 + cdM (coF S n w l).2 n w l, up (coF S n w l).2 23 l ((coF S n w l).2 23 l + cdM (coF S n w l).2 n w l))
/-- a door is free -/
abbrev frP (S : Nat → Nat → Int32) (d fr to : Int32) (l : Nat) : Prop := S 16 l = d ∧ S 20 l < to ∧ ¬ S 21 l ≤ fr
def frF (S : Nat → Nat → Int32) (d fr to : Int32) : Nat → Bool
  | 0 => true
  | l + 1 => if frF S d fr to l then (if S 16 l = d then (if S 20 l < to then (if S 21 l ≤ fr then true else false) else true) else true) else false
def owF (S : Nat → Nat → Int32) (n w : Nat) (who : Int32) : Nat → Int32
  | 0 => nI 0
  | l + 1 => owF S n w who l + (if S 17 l = who then rnM S n w l else nI 0)
/-! buskers -/
def mtK (S : Nat → Nat → Int32) : Nat → Nat → Nat → Int32
  | 0 => S
  | k + 1 => up (mtK S k) 32 k (mtK S k 32 (k + 1))
def mtV (S : Nat → Nat → Int32) (L : Nat) : Int32 := if L = 0 then nI 0 else S 32 0
def mtM (S : Nat → Nat → Int32) (L : Nat) : Nat → Nat → Int32 := if L = 0 then S else mtK (up S 0 31 (nI (L - 1))) (L - 1)
abbrev mlN (S : Nat → Nat → Int32) : Nat := (S 0 31).toNatClampNeg
def okML (S : Nat → Nat → Int32) : Prop := S 0 31 = nI (mlN S) ∧ mlN S ≤ 50 ∧ ∀ i, i < mlN S → ∃ v, v ≤ 1000 ∧ S 32 i = nI v
abbrev mpP (S : Nat → Nat → Int32) (b x : Nat) (set : Int32) : Prop := S 29 b >>> (nI x &&& 31) &&& nI 1 = nI 1 ∧ set >>> (nI b &&& 31) &&& nI 1 = 0
def plF (S : Nat → Nat → Int32) (x : Nat) (set : Int32) : Nat → Int32 × Nat
  | 0 => (-1, 0)
  | b + 1 => if mpP S b x set then (if (plF S x set b).1 = -1 then (S 30 b, 1) else if S 30 b < (plF S x set b).1 then (S 30 b, 1) else if S 30 b = (plF S x set b).1 then ((plF S x set b).1, (plF S x set b).2 + 1) else plF S x set b) else plF S x set b
theorem plF_s (S : Nat → Nat → Int32) (x : Nat) (set : Int32) (b : Nat) : plF S x set (b + 1) = if mpP S b x set then (if (plF S x set b).1 = -1 then (S 30 b, 1) else if S 30 b < (plF S x set b).1 then (S 30 b, 1) else if S 30 b = (plF S x set b).1 then ((plF S x set b).1, (plF S x set b).2 + 1) else plF S x set b) else plF S x set b := rfl
theorem plF_le {S : Nat → Nat → Int32} {x : Nat} {set : Int32} : ∀ b, (plF S x set b).2 ≤ b
  | 0 => Nat.le_refl 0
  | b + 1 => by
    have k := plF_le (S := S) (x := x) (set := set) b
    rw [plF_s]
    by_cases c : mpP S b x set
    · rw [if_pos c]
      by_cases d : (plF S x set b).1 = -1
      · rw [if_pos d]; show 1 ≤ b + 1; omega
      · rw [if_neg d]
        by_cases f : S 30 b < (plF S x set b).1
        · rw [if_pos f]; show 1 ≤ b + 1; omega
        · rw [if_neg f]
          by_cases g : S 30 b = (plF S x set b).1
          · rw [if_pos g]; show (plF S x set b).2 + 1 ≤ b + 1; omega
          · rw [if_neg g]; omega
    · rw [if_neg c]; omega
def p2F (S : Nat → Nat → Int32) (x : Nat) (set fw r : Int32) : Nat → Int32 × Int32
  | 0 => (-1, r)
  | b + 1 => if mpP S b x set then (if S 30 b = fw then ((if (p2F S x set fw r b).2 = 0 then nI b else (p2F S x set fw r b).1), (p2F S x set fw r b).2 + Int32.ofInt (-1)) else p2F S x set fw r b) else p2F S x set fw r b
theorem p2F_s (S : Nat → Nat → Int32) (x : Nat) (set fw r : Int32) (b : Nat) : p2F S x set fw r (b + 1) = if mpP S b x set then (if S 30 b = fw then ((if (p2F S x set fw r b).2 = 0 then nI b else (p2F S x set fw r b).1), (p2F S x set fw r b).2 + Int32.ofInt (-1)) else p2F S x set fw r b) else p2F S x set fw r b := rfl
theorem p2F_ok {S : Nat → Nat → Int32} {x : Nat} {set fw r : Int32} : ∀ b, (p2F S x set fw r b).1 = -1 ∨ ∃ k, k < b ∧ (p2F S x set fw r b).1 = nI k
  | 0 => Or.inl rfl
  | b + 1 => by
    have ih : (p2F S x set fw r b).1 = -1 ∨ ∃ k, k < b + 1 ∧ (p2F S x set fw r b).1 = nI k := (p2F_ok b).imp (fun z => z) (fun ⟨k, h1, h2⟩ => ⟨k, by omega, h2⟩)
    rw [p2F_s]
    by_cases c : mpP S b x set
    · rw [if_pos c]
      by_cases d : S 30 b = fw
      · rw [if_pos d]
        by_cases f : (p2F S x set fw r b).2 = 0
        · show (if (p2F S x set fw r b).2 = 0 then nI b else (p2F S x set fw r b).1) = -1 ∨ ∃ k, k < b + 1 ∧ (if (p2F S x set fw r b).2 = 0 then nI b else (p2F S x set fw r b).1) = nI k
          rw [if_pos f]; exact Or.inr ⟨b, by omega, rfl⟩
        · show (if (p2F S x set fw r b).2 = 0 then nI b else (p2F S x set fw r b).1) = -1 ∨ ∃ k, k < b + 1 ∧ (if (p2F S x set fw r b).2 = 0 then nI b else (p2F S x set fw r b).1) = nI k
          rw [if_neg f]; exact ih
      · rw [if_neg d]; exact ih
    · rw [if_neg c]; exact ih
/-- who plays at a section -/
def plV (S : Nat → Nat → Int32) (x : Nat) (set : Int32) : Int32 := if (plF S x set 6).2 ≤ 1 then (p2F S x set (plF S x set 6).1 (nI 0) 6).1 else (p2F (mtM S (mlN S)) x set (plF S x set 6).1 (nI ((mtV S (mlN S)).toNatClampNeg % (plF S x set 6).2)) 6).1
def plM (S : Nat → Nat → Int32) (x : Nat) (set : Int32) : Nat → Nat → Int32 := if (plF S x set 6).2 ≤ 1 then S else mtM S (mlN S)
theorem plV_ok {S : Nat → Nat → Int32} {x : Nat} {set : Int32} : plV S x set = -1 ∨ ∃ k, k < 6 ∧ plV S x set = nI k := by
  unfold plV
  by_cases c : (plF S x set 6).2 ≤ 1
  · rw [if_pos c]; exact p2F_ok 6
  · rw [if_neg c]; exact p2F_ok 6
theorem mtK_n {S : Nat → Nat → Int32} {k : Nat} (hk : k ≠ 32) : ∀ j, mtK S j k = S k
  | 0 => rfl
  | j + 1 => (up_n hk).trans (mtK_n hk j)
theorem mtK_v {S : Nat → Nat → Int32} : ∀ j i, mtK S j 32 i = if i < j then S 32 (i + 1) else S 32 i
  | 0, i => by rw [if_neg (by omega)]; rfl
  | j + 1, i => by
    show up (mtK S j) 32 j (mtK S j 32 (j + 1)) 32 i = _
    by_cases c : i = j
    · subst c
      rw [up_si, mtK_v i (i + 1), if_neg (by omega), if_pos (by omega)]
    · rw [up_sn c, mtK_v j i]
      by_cases d : i < j
      · rw [if_pos d, if_pos (by omega)]
      · rw [if_neg d, if_neg (by omega)]
theorem okML_lt {S : Nat → Nat → Int32} (h : okML S) : ∃ v, v ≤ 1000 ∧ mtV S (mlN S) = nI v := by
  unfold mtV
  by_cases c : mlN S = 0
  · exact ⟨0, by omega, by rw [if_pos c]⟩
  · obtain ⟨v, h1, h2⟩ := h.2.2 0 (by omega)
    exact ⟨v, h1, by rw [if_neg c]; exact h2⟩
theorem okML_congr {S T : Nat → Nat → Int32} (h0 : T 0 = S 0) (h25 : T 32 = S 32) (h : okML S) : okML T := by
  unfold okML mlN at *
  rw [h0, h25]
  exact h
theorem okML_mt {S : Nat → Nat → Int32} (h : okML S) : okML (mtM S (mlN S)) := by
  unfold mtM
  by_cases c : mlN S = 0
  · rw [if_pos c]; exact h
  · rw [if_neg c]
    have e0 : mtK (up S 0 31 (nI (mlN S - 1))) (mlN S - 1) 0 31 = nI (mlN S - 1) := by rw [mtK_n (by decide)]; exact up_si _ _ _ _
    have hl : mlN (mtK (up S 0 31 (nI (mlN S - 1))) (mlN S - 1)) = mlN S - 1 := by
      show (mtK (up S 0 31 (nI (mlN S - 1))) (mlN S - 1) 0 31).toNatClampNeg = mlN S - 1
      rw [e0]
      exact nI_clamp (by have := h.2.1; omega)
    refine ⟨by rw [hl]; exact e0, by rw [hl]; have := h.2.1; omega, fun i hi => ?_⟩
    rw [hl] at hi
    rw [mtK_v, if_pos hi, up_n (by decide)]
    exact h.2.2 (i + 1) (by omega)
theorem okML_pl {S : Nat → Nat → Int32} {x : Nat} {set : Int32} (h : okML S) : okML (plM S x set) := by
  unfold plM
  by_cases c : (plF S x set 6).2 ≤ 1
  · rw [if_pos c]; exact h
  · rw [if_neg c]; exact okML_mt h
/-- the places of an hour -/
def pcF (S : Nat → Nat → Int32) : Nat → Nat → Nat → Int32
  | 0 => S
  | b + 1 => up (pcF S b) 30 b (pcF S b 27 b)
def ppS (t : Int32 × (Nat → Nat → Int32)) (h x : Nat) : Int32 × (Nat → Nat → Int32) :=
  if plV t.2 x t.1 = -1 then (t.1, up (plM t.2 x t.1) 9 (h * 12 + x) (plV t.2 x t.1))
  else (t.1 ||| nI 1 <<< (plV t.2 x t.1 &&& 31), up (up (plM t.2 x t.1) 9 (h * 12 + x) (plV t.2 x t.1)) 27 (plV t.2 x t.1).toNatClampNeg (plM t.2 x t.1 27 (plV t.2 x t.1).toNatClampNeg + nI 1))
def ppF (S : Nat → Nat → Int32) (h : Nat) : Nat → Int32 × (Nat → Nat → Int32)
  | 0 => (nI 0, S)
  | x + 1 => ppS (ppF S h x) h x
theorem ppF_s (S : Nat → Nat → Int32) (h x : Nat) : ppF S h (x + 1) = ppS (ppF S h x) h x := rfl
def paF (S : Nat → Nat → Int32) : Nat → Nat → Nat → Int32
  | 0 => S
  | b + 1 => up (paF S b) 29 b (nI 0)
def placesM (S : Nat → Nat → Int32) (h : Nat) : Nat → Nat → Int32 := paF (ppF (pcF S 6) h 12).2 6
theorem okML_pp {t : Int32 × (Nat → Nat → Int32)} {h x : Nat} (k : okML t.2) : okML (ppS t h x).2 := by
  unfold ppS
  by_cases c : plV t.2 x t.1 = -1
  · rw [if_pos c]; exact okML_congr (S := plM t.2 x t.1) (T := up (plM t.2 x t.1) 9 (h * 12 + x) (plV t.2 x t.1)) (up_n (by decide)) (up_n (by decide)) (okML_pl k)
  · rw [if_neg c]; exact okML_congr (S := plM t.2 x t.1) (T := up (up (plM t.2 x t.1) 9 (h * 12 + x) (plV t.2 x t.1)) 27 (plV t.2 x t.1).toNatClampNeg (plM t.2 x t.1 27 (plV t.2 x t.1).toNatClampNeg + nI 1)) ((up_n (by decide)).trans (up_n (by decide))) ((up_n (by decide)).trans (up_n (by decide))) (okML_pl k)
theorem pcF_n {S : Nat → Nat → Int32} {k : Nat} (hk : k ≠ 30) : ∀ b, pcF S b k = S k
  | 0 => rfl
  | b + 1 => (up_n hk).trans (pcF_n hk b)
theorem paF_n {S : Nat → Nat → Int32} {k : Nat} (hk : k ≠ 29) : ∀ b, paF S b k = S k
  | 0 => rfl
  | b + 1 => (up_n hk).trans (paF_n hk b)
theorem okML_ppF {S : Nat → Nat → Int32} {h : Nat} (k : okML S) : ∀ x, okML (ppF (pcF S 6) h x).2
  | 0 => okML_congr (S := S) (T := pcF S 6) (pcF_n (by decide) 6) (pcF_n (by decide) 6) k
  | x + 1 => okML_pp (okML_ppF k x)
/-- an hour's people -/
def rsM (m s : Int32) : Int32 := m - m * s / nI 100
def enS (t : Int32 × Int32 × (Nat → Nat → Int32)) (h x : Nat) : Int32 × Int32 × (Nat → Nat → Int32) :=
  let b := t.2.2 9 (h * 12 + x)
  let ps := t.2.1 + t.2.2 2 x
  let cr := if b = -1 then nI 0 else ps * t.2.2 26 b.toNatClampNeg / nI 100
  let M := up (up t.2.2 7 (h * 12 + x) cr) 6 (h * 12 + x) (ps + cr)
  let M2 := if b = -1 then M else up M 28 b.toNatClampNeg (t.2.2 28 b.toNatClampNeg + cr / nI 10)
  let M3 := up M2 8 (h * 12 + x) (if t.2.2 4 x = 0 then rsM (ps + cr) (t.2.2 5 x) else -1)
  (t.1 + (ps + cr), ps - cr - (ps - cr) * t.2.2 3 x / nI 100, M3)
def enF (S : Nat → Nat → Int32) (h : Nat) : Nat → Int32 × Int32 × (Nat → Nat → Int32)
  | 0 => (nI 0, nI 0, S)
  | x + 1 => enS (enF S h x) h x
theorem enF_s (S : Nat → Nat → Int32) (h x : Nat) : enF S h (x + 1) = enS (enF S h x) h x := rfl
def endsM (S : Nat → Nat → Int32) (h : Nat) : Nat → Nat → Int32 := up (up (enF (placesM S h) h 12).2.2 10 h (enF (placesM S h) h 12).2.1) 0 1 (nI (h + 1))
def endsV (S : Nat → Nat → Int32) (h : Nat) : Int32 := (enF (placesM S h) h 12).1
theorem okT_congr {S T : Nat → Nat → Int32} {n : Nat} (h : T 14 = S 14) (k : okT S n) : okT T n := by
  unfold okT at *
  rw [h]
  exact k
theorem okM_congr {S T : Nat → Nat → Int32} {nl : Nat} (h16 : T 16 = S 16) (h20 : T 20 = S 20) (h21 : T 21 = S 21) (k : okM S nl) : okM T nl := by
  unfold okM ix at *
  rw [h16, h20, h21]
  exact k
theorem kpM_n {S : Nat → Nat → Int32} {n w k : Nat} (hk : k ≠ 24) : ∀ l, kpM S n w l k = S k
  | 0 => rfl
  | l + 1 => (up_n hk).trans (kpM_n hk l)
theorem coF_n {S : Nat → Nat → Int32} {n w k : Nat} (hk : k ≠ 23) : ∀ l, (coF S n w l).2 k = S k
  | 0 => rfl
  | l + 1 => (up_n hk).trans (coF_n hk l)
/-- players of an hour are buskers or none -/
def okPl (S : Nat → Nat → Int32) (h : Nat) : Prop := ∀ x, x < 12 → S 9 (h * 12 + x) = -1 ∨ ∃ k, k < 6 ∧ S 9 (h * 12 + x) = nI k
theorem plM_n {S : Nat → Nat → Int32} {x k : Nat} {set : Int32} (h0 : k ≠ 0) (h32 : k ≠ 32) : plM S x set k = S k := by
  unfold plM
  by_cases c : (plF S x set 6).2 ≤ 1
  · rw [if_pos c]
  · rw [if_neg c]
    unfold mtM
    by_cases d : mlN S = 0
    · rw [if_pos d]
    · rw [if_neg d]; exact (mtK_n h32 _).trans (up_n h0)
theorem plM_n0 {S : Nat → Nat → Int32} {x j : Nat} {set : Int32} (hj : j ≠ 31) : plM S x set 0 j = S 0 j := by
  unfold plM
  by_cases c : (plF S x set 6).2 ≤ 1
  · rw [if_pos c]
  · rw [if_neg c]
    unfold mtM
    by_cases d : mlN S = 0
    · rw [if_pos d]
    · rw [if_neg d, mtK_n (by decide)]; exact up_sn hj
theorem ppS_n {t : Int32 × (Nat → Nat → Int32)} {h x k : Nat} (h0 : k ≠ 0) (h32 : k ≠ 32) (h9 : k ≠ 9) (h27 : k ≠ 27) : (ppS t h x).2 k = t.2 k := by
  unfold ppS
  by_cases c : plV t.2 x t.1 = -1
  · rw [if_pos c]; exact (up_n h9).trans (plM_n h0 h32)
  · rw [if_neg c]; exact (up_n h27).trans ((up_n h9).trans (plM_n h0 h32))
theorem ppS_n0 {t : Int32 × (Nat → Nat → Int32)} {h x j : Nat} (hj : j ≠ 31) : (ppS t h x).2 0 j = t.2 0 j := by
  unfold ppS
  by_cases c : plV t.2 x t.1 = -1
  · rw [if_pos c]; dsimp only; rw [up_n (k := 9) (j := 0) (by decide)]; exact plM_n0 hj
  · rw [if_neg c]; dsimp only; rw [up_n (k := 27) (j := 0) (by decide), up_n (k := 9) (j := 0) (by decide)]; exact plM_n0 hj
theorem ppS_9 {t : Int32 × (Nat → Nat → Int32)} {h x j : Nat} : (ppS t h x).2 9 j = if j = h * 12 + x then plV t.2 x t.1 else t.2 9 j := by
  have e : (ppS t h x).2 9 = upd (t.2 9) (h * 12 + x) (plV t.2 x t.1) := by
    unfold ppS
    by_cases c : plV t.2 x t.1 = -1
    · rw [if_pos c]
      show up (plM t.2 x t.1) 9 (h * 12 + x) (plV t.2 x t.1) 9 = _
      rw [up_s, plM_n (by decide) (by decide)]
    · rw [if_neg c]
      dsimp only
      rw [up_n (k := 27) (j := 9) (by decide), up_s, plM_n (by decide) (by decide)]
  rw [e]
  by_cases c : j = h * 12 + x
  · rw [if_pos c, c]; exact pk_us
  · rw [if_neg c]; exact pk_un c
theorem ppF_n {S : Nat → Nat → Int32} {h k : Nat} (h0 : k ≠ 0) (h32 : k ≠ 32) (h9 : k ≠ 9) (h27 : k ≠ 27) : ∀ x, (ppF S h x).2 k = S k
  | 0 => rfl
  | x + 1 => (ppS_n h0 h32 h9 h27).trans (ppF_n h0 h32 h9 h27 x)
theorem ppF_n0 {S : Nat → Nat → Int32} {h j : Nat} (hj : j ≠ 31) : ∀ x, (ppF S h x).2 0 j = S 0 j
  | 0 => rfl
  | x + 1 => (ppS_n0 hj).trans (ppF_n0 hj x)
theorem ppF_9 {S : Nat → Nat → Int32} {h : Nat} : ∀ n x, x < n → (ppF S h n).2 9 (h * 12 + x) = -1 ∨ ∃ k, k < 6 ∧ (ppF S h n).2 9 (h * 12 + x) = nI k
  | 0, x, hx => absurd hx (Nat.not_lt_zero x)
  | n + 1, x, hx => by
    rw [ppF_s, ppS_9]
    by_cases c : x = n
    · subst c
      rw [if_pos rfl]; exact plV_ok
    · rw [if_neg (by omega)]; exact ppF_9 n x (by omega)
theorem placesM_n {S : Nat → Nat → Int32} {h k : Nat} (h0 : k ≠ 0) (h32 : k ≠ 32) (h9 : k ≠ 9) (h27 : k ≠ 27) (h30 : k ≠ 30) (h29 : k ≠ 29) : placesM S h k = S k := (paF_n h29 6).trans ((ppF_n h0 h32 h9 h27 12).trans (pcF_n h30 6))
theorem placesM_n0 {S : Nat → Nat → Int32} {h j : Nat} (hj : j ≠ 31) : placesM S h 0 j = S 0 j := (congrFun (paF_n (by decide) 6) j).trans ((ppF_n0 hj 12).trans (congrFun (pcF_n (by decide) 6) j))
theorem okPl_places {S : Nat → Nat → Int32} {h : Nat} : okPl (placesM S h) h := fun x hx => by
  have e : placesM S h 9 = (ppF (pcF S 6) h 12).2 9 := paF_n (by decide) 6
  rw [e]
  exact ppF_9 12 x hx
theorem enS_n {t : Int32 × Int32 × (Nat → Nat → Int32)} {h x k : Nat} (h7 : k ≠ 7) (h6 : k ≠ 6) (h28 : k ≠ 28) (h8 : k ≠ 8) : (enS t h x).2.2 k = t.2.2 k := by
  unfold enS
  by_cases c : t.2.2 9 (h * 12 + x) = -1
  · simp only [if_pos c]
    exact (up_n h8).trans ((up_n h6).trans (up_n h7))
  · simp only [if_neg c]
    exact (up_n h8).trans ((up_n h28).trans ((up_n h6).trans (up_n h7)))
theorem enF_n {S : Nat → Nat → Int32} {h k : Nat} (h7 : k ≠ 7) (h6 : k ≠ 6) (h28 : k ≠ 28) (h8 : k ≠ 8) : ∀ x, (enF S h x).2.2 k = S k
  | 0 => rfl
  | x + 1 => (enS_n h7 h6 h28 h8).trans (enF_n h7 h6 h28 h8 x)
theorem k_nat {b : Int32} (h : b = -1 ∨ ∃ k, k < 6 ∧ b = nI k) (c : ¬ b = -1) : b = nI b.toNatClampNeg ∧ b.toNatClampNeg < 6 := by
  obtain ⟨k, h1, h2⟩ := h.resolve_left c
  rw [h2, nI_clamp (by omega)]
  exact ⟨rfl, h1⟩
/-- a question for a section and an hour that has ended -/
def iaV (S : Nat → Nat → Int32) (s h : Int32) : Int32 := if inP s (nI 0) (nI 11) then if inP h (nI 0) (S 0 1 - nI 1) then nI 0 else nI 2 else nI 1
abbrev iaP (S : Nat → Nat → Int32) (s h : Int32) : Prop := inP s (nI 0) (nI 11) ∧ inP h (nI 0) (S 0 1 - nI 1)
