/-! an hour of the law beside the class's: section by section -/
theorem chM_n {M : Nat → Nat → Int32} {x k : Nat} (h0 : k ≠ 0) (h25 : k ≠ 25) (h23 : k ≠ 23) : chM (chT M x) k = M k := by
  have e : (chT M x).2 k = M k := by rw [chT_e]; exact tdF_n h23 6
  generalize chT M x = t at e ⊢
  unfold chM
  split
  · exact e
  · split
    · exact e
    · exact (ltM_n h0 h25).trans e
theorem yPm_0j {S : Nat → Nat → Int32} {x L j : Nat} {set : Int32} (hj : j ≠ 3) : yPm S x set L 0 j = S 0 j := by
  unfold yPm
  split
  · rfl
  · split
    · rfl
    · rw [ySh_n (by decide)]
      exact up_sn hj
theorem ySh_6i {S : Nat → Nat → Int32} {i : Nat} (hi : i < 20) : ∀ j, ySh S j 6 i = S 6 i
  | 0 => rfl
  | j + 1 => (up_sn (by omega)).trans (ySh_6i hi j)
theorem yPm_6i {S : Nat → Nat → Int32} {x L i : Nat} {set : Int32} (hi : i < 20) : yPm S x set L 6 i = S 6 i := by
  unfold yPm
  split
  · rfl
  · split
    · rfl
    · rw [ySh_6i hi, up_n (by decide)]
theorem tp_24s {M : Nat → Nat → Int32} {y x p : Nat} (hp : p ≠ y * 12 + x) : tpS M y x 24 p = M 24 p := by
  have e := chM_n (M := M) (x := x) (k := 24) (by decide) (by decide) (by decide)
  unfold tpS
  generalize chV (chT M x) = v
  generalize chM (chT M x) = N at e ⊢
  split
  · rw [up_sn hp, e]
  · split
    · rw [up_n (by decide), up_n (by decide), up_sn hp, e]
    · rw [up_sn hp, e]
theorem tp_24 {C : Nat → Nat → Int32} {w p : Nat} : ∀ x d, (∀ i, x ≤ i → i < x + d → p ≠ w * 12 + i) → tpF C w (x + d) 24 p = tpF C w x 24 p
  | _, 0, _ => rfl
  | x, d + 1, h => by
    show tpS (tpF C w (x + d)) w (x + d) 24 p = _
    rw [tp_24s (h (x + d) (by omega) (by omega))]
    exact tp_24 x d (fun i a b => h i a (by omega))
theorem wk_o {B : Nat → Nat → Int32} {w p : Nat} : ∀ x, (∀ i, i < x → p ≠ w * 12 + i) → (wkF B w x).2.2 8 p = B 8 p ∧ (wkF B w x).2.2 9 p = B 9 p
  | 0, _ => ⟨rfl, rfl⟩
  | x + 1, h => by
    obtain ⟨h1, h2⟩ := wk_o (B := B) x (fun i hi => h i (by omega))
    rw [wkF_s]
    generalize wkF B w x = u at h1 h2 ⊢
    have hp := h x (by omega)
    have pm : ∀ k, k ≠ 20 → ptM u.2.2 (u.2.1 + u.2.2 6 x) (u.2.2 24 (w * 12 + x)) k = u.2.2 k := fun k hk => by
      unfold ptM
      split
      · rfl
      · split
        · exact up_n hk
        · rfl
    unfold wkS
    dsimp only
    rw [up_sn hp, up_n (by decide), pm 8 (by decide), up_n (by decide), up_sn hp, pm 9 (by decide)]
    exact ⟨h1, h2⟩
/-- the law's hour and the class's, x sections done -/
def HJ (S C : Nat → Nat → Int32) (w x : Nat) (t : yQ) : Prop :=
  (t.2.2.2 1 = S 1 ∧ t.2.2.2 7 = S 7 ∧ t.2.2.2 8 = S 8 ∧ (∀ j, j ≠ 3 → t.2.2.2 0 j = S 0 j) ∧ (∀ i, i < 20 → t.2.2.2 6 i = S 6 i) ∧ ∀ i, i < 6 ∨ 18 ≤ i → t.2.2.2 9 i = S 9 i) ∧
  (∀ b, b < 6 → yb t.1 b = if tpF C w x 22 b = 0 then nI 0 else nI 1) ∧
  (∀ b, b < 6 → t.2.2.2 9 (6 + b) = tpF C w x 19 b) ∧
  (∃ L, t.2.2.2 0 3 = nI L ∧ tpF C w x 0 2 = nI L ∧ L ≤ 20 ∧ ∀ i, i < L → t.2.2.2 6 (20 + i) = tpF C w x 25 i) ∧
  (t.2.1 = (wkF (eaF (tpF C w 12) 6) w x).2.1 ∧ t.2.2.1 = (wkF (eaF (tpF C w 12) 6) w x).1 ∧ ∀ b, b < 6 → t.2.2.2 9 (12 + b) = (wkF (eaF (tpF C w 12) 6) w x).2.2 20 b) ∧
  (∀ i, i < x → t.2.2.2 2 (w * 12 + i) = (wkF (eaF (tpF C w 12) 6) w x).2.2 8 (w * 12 + i) ∧ t.2.2.2 3 (w * 12 + i) = (wkF (eaF (tpF C w 12) 6) w x).2.2 9 (w * 12 + i) ∧ t.2.2.2 4 (w * 12 + i) = rdV (C 11 i) ((wkF (eaF (tpF C w 12) 6) w x).2.2 8 (w * 12 + i)) (C 12 i) + nI 1 ∧ t.2.2.2 5 (w * 12 + i) = tpF C w 12 24 (w * 12 + i) + nI 1) ∧
  (∀ p, (∀ i, i < x → p ≠ w * 12 + i) → t.2.2.2 2 p = S 2 p ∧ t.2.2.2 3 p = S 3 p ∧ t.2.2.2 4 p = S 4 p ∧ t.2.2.2 5 p = S 5 p) ∧ LBd t.2.2.2
theorem rd_re {b st sp bl : Int32} (hst : ∃ v, v ≤ 30000 ∧ st = nI v) (hbl : ∃ k, k ≤ 60 ∧ bl = nI k) (hsp : sp = if b = 0 then bl else nI 100 + bl) : yRe st sp = rdV b st bl + nI 1 ∧ ∃ z, z ≤ 32767 ∧ yRe st sp = nI z := by
  have key : yRe st sp = rdV b st bl + nI 1 := by
    obtain ⟨k, hk, rfl⟩ := hbl
    unfold yRe rdV
    by_cases c : b = 0
    · rw [if_pos c] at hsp
      rw [if_pos c, hsp, if_pos ((nI_ltI (by omega) (by decide)).mpr (by omega)), Int32.sub_eq_add_neg, Int32.sub_eq_add_neg, Int32.add_comm (nI 1), Int32.add_assoc, Int32.add_assoc, Int32.add_comm (nI 1)]
    · rw [if_neg c] at hsp
      rw [if_neg c, hsp, nI_add, if_neg (fun z => by have := (nI_ltI (by omega) (by decide)).mp z; omega)]
      decide
  refine ⟨key, ?_⟩
  rw [key]
  rcases rdV_ok (b := b) hst hbl with e | ⟨u, hu, e⟩
  · rw [e]
    exact ⟨0, by omega, by decide⟩
  · rw [e]
    exact ⟨u + 1, by omega, nI_add u 1⟩
section M7
variable {S C T2 : Nat → Nat → Int32} {w x tn : Nat} {t : yQ}
/-- what a section of the class's walk does, by who plays -/
theorem wk_what {B : Nat → Nat → Int32} {u : Int32 × Int32 × (Nat → Nat → Int32)} {b : Nat} (hb : b ≤ 6) (e24 : u.2.2 24 (w * 12 + x) + nI 1 = nI b) (hpl : u.2.2 24 (w * 12 + x) = -1 ∨ ∃ k, k < 6 ∧ u.2.2 24 (w * 12 + x) = nI k) {M : Nat → Nat → Int32} {go : Int32} (hgo : go = u.2.1 + u.2.2 6 x) (h18 : ∀ k, k < 6 → M 9 k = u.2.2 18 k) : (wkS u w x).1 = u.1 + (go + yHc go b M) ∧ (wkS u w x).2.1 = go - yHc go b M - (go - yHc go b M) * u.2.2 7 x / nI 100 ∧ (wkS u w x).2.2 8 = upd (u.2.2 8) (w * 12 + x) (go + yHc go b M) ∧ (wkS u w x).2.2 9 = upd (u.2.2 9) (w * 12 + x) (yHc go b M) ∧ (∀ k, k < 6 → (wkS u w x).2.2 20 k = if b = k + 1 then u.2.2 20 k + yHc go b M / nI 10 else u.2.2 20 k) := by
  subst hgo
  have split : (b = 0 ∧ u.2.2 24 (w * 12 + x) = -1) ∨ ∃ k, k < 6 ∧ b = k + 1 ∧ u.2.2 24 (w * 12 + x) = nI k := by
    rcases hpl with e | ⟨k, hk, e⟩
    · rw [e] at e24
      have e2 : nI b = nI 0 := e24.symm.trans (by decide)
      exact Or.inl ⟨(nI_eq (by omega) (by decide)).mp e2, e⟩
    · rw [e, nI_add] at e24
      exact Or.inr ⟨k, hk, ((nI_eq (by omega) (by omega)).mp e24).symm, e⟩
  rcases split with ⟨rfl, e⟩ | ⟨k, hk, rfl, e⟩
  · have pv : ptV u.2.2 (u.2.1 + u.2.2 6 x) (u.2.2 24 (w * 12 + x)) = nI 0 := by unfold ptV; rw [e, if_pos (by decide)]
    have pm : ptM u.2.2 (u.2.1 + u.2.2 6 x) (u.2.2 24 (w * 12 + x)) = u.2.2 := by unfold ptM; rw [e, if_pos (by decide)]
    have hc : yHc (u.2.1 + u.2.2 6 x) 0 M = nI 0 := if_pos rfl
    unfold wkS
    dsimp only
    rw [pv, pm, hc]
    refine ⟨rfl, ?_, ?_, ?_, fun k hk => ?_⟩
    · rw [up_n (by decide), up_n (by decide)]
    · rw [up_s, up_n (by decide)]
    · rw [up_n (by decide), up_s]
    · rw [if_neg (by omega), up_n (by decide), up_n (by decide)]
  · have n0 : ¬ nI k < 0 := nI_pos (by omega)
    have n6 : nI k < nI 6 := (nI_ltI (by omega) (by decide)).mpr hk
    have hc : yHc (u.2.1 + u.2.2 6 x) (k + 1) M = (u.2.1 + u.2.2 6 x) * u.2.2 18 k / nI 100 := by
      unfold yHc
      rw [if_neg (by omega), Nat.add_sub_cancel, h18 k hk]
    have pv : ptV u.2.2 (u.2.1 + u.2.2 6 x) (u.2.2 24 (w * 12 + x)) = (u.2.1 + u.2.2 6 x) * u.2.2 18 k / nI 100 := by unfold ptV; rw [e, if_neg n0, if_pos n6, nI_clamp (by omega)]
    have pm : ptM u.2.2 (u.2.1 + u.2.2 6 x) (u.2.2 24 (w * 12 + x)) = up u.2.2 20 k (u.2.2 20 k + (u.2.1 + u.2.2 6 x) * u.2.2 18 k / nI 100 / nI 10) := by unfold ptM; rw [e, if_neg n0, if_pos n6, nI_clamp (by omega)]
    unfold wkS
    dsimp only
    rw [pv, pm, hc]
    refine ⟨rfl, ?_, ?_, ?_, fun j hj => ?_⟩
    · rw [up_n (by decide), up_n (by decide), up_n (by decide)]
    · rw [up_s, up_n (by decide), up_n (by decide)]
    · rw [up_n (by decide), up_s, up_n (by decide)]
    · rw [up_n (by decide), up_n (by decide)]
      by_cases c : j = k
      · subst c
        rw [if_pos rfl, up_si]
      · rw [if_neg (by omega), up_sn c]
/-- one section -/
theorem hj_step (hA : LAd S C) (hU : LUd S C tn) (hZ : LZd S w) (hP : RP C) (hh : ∀ b, b < 6 → ∃ v, v ≤ 199 ∧ tpF C w x 19 b = nI v) (h25 : bd (tpF C w x 25) 1000) (hwk : WK (eaF (tpF C w 12) 6) T2 w x) (hwk1 : WK (eaF (tpF C w 12) 6) T2 w (x + 1)) (hx : x < 12) (h : HJ S C w x t) : HJ S C w (x + 1) (yHs w x t) ∧ yHk w x t := by
  obtain ⟨⟨z1, z7, z8, z0, z6, z9⟩, hset, hhrs, ⟨L, l1, l2, l3, l4⟩, ⟨hgo, hal, hco⟩, hF, hG, hB⟩ := h
  have c21 : tpF C w x 21 = C 21 := tpF_n (by decide) (by decide) (by decide) (by decide) (by decide) (by decide) x
  have hbit : ∀ b y, b < 6 → y < 12 → yb (t.2.2.2 9 (18 + b)) y = if tpF C w x 21 (b * 12 + y) = 0 then nI 0 else nI 1 := fun b y hb hy => by
    rw [z9 (18 + b) (by omega), c21]
    exact (hU b hb).2.2 y hy
  have eL : yLN t.2.2.2 = L := by unfold yLN; rw [l1, nI_clamp (by omega)]
  obtain ⟨hwho, L', m1, m2, m3, m4⟩ := hj_choose hbit hset hhrs hh hx l1 l2 l3 l4
  have eb : yHb x t = yPv t.2.2.2 x t.1 L := by unfold yHb; rw [eL]
  have hb6 : yHb x t ≤ 6 := yPv_le
  have eM : yHM w x t = up (yPm t.2.2.2 x t.1 L) 5 (w * 12 + x) (nI (yHb x t)) := by unfold yHM; rw [eL]
  rw [← eb] at hwho
  -- rows of the law's memory once it is known who plays
  have n : ∀ k, k ≠ 0 → k ≠ 6 → k ≠ 5 → yHM w x t k = t.2.2.2 k := fun k a b c => by rw [eM, up_n c, yPm_n a b]
  have n5 : yHM w x t 5 = upd (t.2.2.2 5) (w * 12 + x) (nI (yHb x t)) := by rw [eM, up_s, yPm_n (by decide) (by decide)]
  have n0 : ∀ j, j ≠ 3 → yHM w x t 0 j = t.2.2.2 0 j := fun j hj => by rw [eM, up_n (by decide)]; exact yPm_0j hj
  have n03 : yHM w x t 0 3 = nI L' := by rw [eM, up_n (by decide)]; exact m1
  have n6 : ∀ i, i < 20 → yHM w x t 6 i = t.2.2.2 6 i := fun i hi => by rw [eM, up_n (by decide)]; exact yPm_6i hi
  have n62 : ∀ i, i < L' → yHM w x t 6 (20 + i) = chM (chT (tpF C w x) x) 25 i := fun i hi => by rw [eM, up_n (by decide)]; exact m4 i hi
  -- the class's section
  have s24 : tpF C w 12 24 (w * 12 + x) = tpF C w (x + 1) 24 (w * 12 + x) := by
    have k := tp_24 (C := C) (w := w) (p := w * 12 + x) (x + 1) (12 - (x + 1)) (fun i a b => by omega)
    rw [show x + 1 + (12 - (x + 1)) = 12 from by omega] at k
    exact k
  have tS : (yHb x t = 0 ∧ tpF C w (x + 1) = up (chM (chT (tpF C w x) x)) 24 (w * 12 + x) (-1)) ∨ ∃ k, k < 6 ∧ yHb x t = k + 1 ∧ tpF C w (x + 1) = up (up (up (chM (chT (tpF C w x) x)) 24 (w * 12 + x) (nI k)) 22 k (nI 1)) 19 k (chM (chT (tpF C w x) x) 19 k + nI 1) := by
    rcases hwho with ⟨e1, e2⟩ | ⟨k, hk, e1, e2⟩
    · refine Or.inl ⟨e1, ?_⟩
      rw [tpF_s, tpS_n (by rw [e2]; decide), e2]
    · exact Or.inr ⟨k, hk, e1, by rw [tpF_s, tpS_p e2 hk]⟩
  have e24 : tpF C w 12 24 (w * 12 + x) + nI 1 = nI (yHb x t) ∧ (tpF C w 12 24 (w * 12 + x) = -1 ∨ ∃ k, k < 6 ∧ tpF C w 12 24 (w * 12 + x) = nI k) := by
    rw [s24]
    rcases tS with ⟨e1, e2⟩ | ⟨k, hk, e1, e2⟩
    · rw [e2, up_si, e1]
      exact ⟨by decide, Or.inl rfl⟩
    · rw [e2, up_n (by decide), up_n (by decide), up_si, e1, nI_add]
      exact ⟨rfl, Or.inr ⟨k, hk, rfl⟩⟩
  have cN : ∀ k, k ≠ 0 → k ≠ 25 → k ≠ 23 → chM (chT (tpF C w x) x) k = tpF C w x k := fun k a b c => chM_n a b c
  -- the walk
  have wn : ∀ k, k ≠ 8 → k ≠ 9 → k ≠ 20 → (wkF (eaF (tpF C w 12) 6) w x).2.2 k = eaF (tpF C w 12) 6 k := fun k a b c => wkF_n a b c x
  have bn : ∀ k, k ≠ 21 → k ≠ 22 → eaF (tpF C w 12) 6 k = tpF C w 12 k := fun k a b => eaF_n a b 6
  have tn0 : ∀ k, k ≠ 0 → k ≠ 19 → k ≠ 22 → k ≠ 23 → k ≠ 24 → k ≠ 25 → tpF C w 12 k = C k := fun k a b c d e f => tpF_n a b c d e f 12
  have w6 : (wkF (eaF (tpF C w 12) 6) w x).2.2 6 = C 6 := by rw [wn 6 (by decide) (by decide) (by decide), bn 6 (by decide) (by decide), tn0 6 (by decide) (by decide) (by decide) (by decide) (by decide) (by decide)]
  have w7 : (wkF (eaF (tpF C w 12) 6) w x).2.2 7 = C 7 := by rw [wn 7 (by decide) (by decide) (by decide), bn 7 (by decide) (by decide), tn0 7 (by decide) (by decide) (by decide) (by decide) (by decide) (by decide)]
  have w18 : (wkF (eaF (tpF C w 12) 6) w x).2.2 18 = C 18 := by rw [wn 18 (by decide) (by decide) (by decide), bn 18 (by decide) (by decide), tn0 18 (by decide) (by decide) (by decide) (by decide) (by decide) (by decide)]
  have w24 : (wkF (eaF (tpF C w 12) 6) w x).2.2 24 = tpF C w 12 24 := by rw [wn 24 (by decide) (by decide) (by decide), bn 24 (by decide) (by decide)]
  obtain ⟨-, ⟨a, ha, ea, -⟩, -, -, -⟩ := hwk
  obtain ⟨-, -, -, hw4, -⟩ := hwk1
  have hst := (hw4 x (by omega)).1
  rw [wkF_s] at hst
  have egx : t.2.1 + yHM w x t 1 x = (wkF (eaF (tpF C w 12) 6) w x).2.1 + (wkF (eaF (tpF C w 12) 6) w x).2.2 6 x := by rw [hgo, n 1 (by decide) (by decide) (by decide), z1, (hA x hx).1, w6]
  have what := wk_what (B := C) (u := wkF (eaF (tpF C w 12) 6) w x) hb6 (by rw [w24]; exact e24.1) (by rw [w24]; exact e24.2) (M := yHM w x t) egx (fun k hk => by rw [n 9 (by decide) (by decide) (by decide), z9 k (by omega), (hU k hk).1.1, w18])
  obtain ⟨p6, p61, p62⟩ := hP.1 x
  have enum : t.2.1 + yHM w x t 1 x = nI (a + p6) := by rw [egx, ea, w6, p62, nI_add]
  have hcn : ∃ z, z ≤ 32767 ∧ yHc (t.2.1 + yHM w x t 1 x) (yHb x t) (yHM w x t) = nI z := by
    unfold yHc
    by_cases c : yHb x t = 0
    · rw [if_pos c]
      exact ⟨0, by omega, rfl⟩
    · rw [if_neg c]
      obtain ⟨sk, s1, s2⟩ := hP.2.2.2.1 (yHb x t - 1)
      rw [n 9 (by decide) (by decide) (by decide), z9 _ (by omega), (hU _ (show yHb x t - 1 < 6 by omega)).1.1, s2, enum, pk_mul]
      have : (a + p6) * sk ≤ (a + p6) * 50 := Nat.mul_le_mul_left _ s1
      rw [pk_div (by omega) (by decide) (by decide)]
      exact ⟨_, by omega, rfl⟩
  have sp : yHM w x t 1 (24 + x) = if C 11 x = 0 then C 12 x else nI 100 + C 12 x := by rw [n 1 (by decide) (by decide) (by decide), z1]; exact (hA x hx).2.2
  have hq : yHs w x t = yH1 w x t (yHb x t) (yHM w x t) := rfl
  rw [hq]
  have hF' : ∀ i, i < x + 1 → (wkF (eaF (tpF C w 12) 6) w (x + 1)).2.2 8 (w * 12 + i) = (if i = x then t.2.1 + yHM w x t 1 x + yHc (t.2.1 + yHM w x t 1 x) (yHb x t) (yHM w x t) else (wkF (eaF (tpF C w 12) 6) w x).2.2 8 (w * 12 + i)) ∧ (wkF (eaF (tpF C w 12) 6) w (x + 1)).2.2 9 (w * 12 + i) = (if i = x then yHc (t.2.1 + yHM w x t 1 x) (yHb x t) (yHM w x t) else (wkF (eaF (tpF C w 12) 6) w x).2.2 9 (w * 12 + i)) := fun i hi => by
    rw [wkF_s, what.2.2.1, what.2.2.2.1]
    by_cases c : i = x
    · subst c
      rw [if_pos rfl, if_pos rfl, pk_us, pk_us]
      exact ⟨rfl, rfl⟩
    · rw [if_neg c, if_neg c, pk_un (by omega), pk_un (by omega)]
      exact ⟨rfl, rfl⟩
  rw [what.2.2.1, pk_us] at hst
  obtain ⟨r1, r2⟩ := rd_re hst (hP.2.2.1 x) sp
  obtain ⟨q1, q2, -, q4, q5⟩ := what
  rw [← wkF_s] at q1 q2 q5
  rw [w7] at q2
  generalize hgo2 : t.2.1 + yHM w x t 1 x = go at *
  generalize hcr : yHc go (yHb x t) (yHM w x t) = cr at *
  have hyu : ∀ k, k ≠ 9 → yHu go (yHb x t) (yHM w x t) k = yHM w x t k := fun k hk => by
    unfold yHu
    split
    · rfl
    · rw [up_n hk, up_n hk]
  have hy9 : ∀ i, yHu go (yHb x t) (yHM w x t) 9 i = if yHb x t = 0 then t.2.2.2 9 i else if i = 11 + yHb x t then t.2.2.2 9 i + cr / nI 10 else if i = 5 + yHb x t then t.2.2.2 9 i + nI 1 else t.2.2.2 9 i := fun i => by
    have n9 := n 9 (by decide) (by decide) (by decide)
    unfold yHu
    by_cases c : yHb x t = 0
    · rw [if_pos c, if_pos c, n9]
    · rw [if_neg c, if_neg c, hcr, up_s, up_s, n9]
      by_cases d : i = 11 + yHb x t
      · rw [if_pos d, d, pk_us, pk_un (by omega)]
      · rw [if_neg d, pk_un d]
        by_cases f : i = 5 + yHb x t
        · rw [if_pos f, f, pk_us]
        · rw [if_neg f, pk_un f]
  -- rows of the law's memory behind the section
  generalize hb9 : yHb x t = b9 at *
  have Zn : ∀ k, k ≠ 2 → k ≠ 3 → k ≠ 4 → (yH1 w x t b9 (yHM w x t)).2.2.2 k = yHu go b9 (yHM w x t) k := fun k a b c => by
    show yPut w x (yHu (t.2.1 + yHM w x t 1 x) b9 (yHM w x t)) (t.2.1 + yHM w x t 1 x + yHc (t.2.1 + yHM w x t 1 x) b9 (yHM w x t)) (yHc (t.2.1 + yHM w x t 1 x) b9 (yHM w x t)) (yHM w x t 1 (24 + x)) k = _
    rw [hgo2]
    exact (up_n c).trans ((up_n b).trans (up_n a))
  have Z2 : (yH1 w x t b9 (yHM w x t)).2.2.2 2 = upd (t.2.2.2 2) (w * 12 + x) (go + cr) := by
    show yPut w x (yHu (t.2.1 + yHM w x t 1 x) b9 (yHM w x t)) (t.2.1 + yHM w x t 1 x + yHc (t.2.1 + yHM w x t 1 x) b9 (yHM w x t)) (yHc (t.2.1 + yHM w x t 1 x) b9 (yHM w x t)) (yHM w x t 1 (24 + x)) 2 = _
    rw [hgo2, hcr]
    unfold yPut
    rw [up_n (by decide), up_n (by decide), up_s, hyu 2 (by decide), n 2 (by decide) (by decide) (by decide)]
  have Z3 : (yH1 w x t b9 (yHM w x t)).2.2.2 3 = upd (t.2.2.2 3) (w * 12 + x) cr := by
    show yPut w x (yHu (t.2.1 + yHM w x t 1 x) b9 (yHM w x t)) (t.2.1 + yHM w x t 1 x + yHc (t.2.1 + yHM w x t 1 x) b9 (yHM w x t)) (yHc (t.2.1 + yHM w x t 1 x) b9 (yHM w x t)) (yHM w x t 1 (24 + x)) 3 = _
    rw [hgo2, hcr]
    unfold yPut
    rw [up_n (by decide), up_s, up_n (by decide), hyu 3 (by decide), n 3 (by decide) (by decide) (by decide)]
  have Z4 : (yH1 w x t b9 (yHM w x t)).2.2.2 4 = upd (t.2.2.2 4) (w * 12 + x) (yRe (go + cr) (yHM w x t 1 (24 + x))) := by
    show yPut w x (yHu (t.2.1 + yHM w x t 1 x) b9 (yHM w x t)) (t.2.1 + yHM w x t 1 x + yHc (t.2.1 + yHM w x t 1 x) b9 (yHM w x t)) (yHc (t.2.1 + yHM w x t 1 x) b9 (yHM w x t)) (yHM w x t 1 (24 + x)) 4 = _
    rw [hgo2, hcr]
    unfold yPut
    rw [up_s, up_n (by decide), up_n (by decide), hyu 4 (by decide), n 4 (by decide) (by decide) (by decide)]
  have Z5 : (yH1 w x t b9 (yHM w x t)).2.2.2 5 = upd (t.2.2.2 5) (w * 12 + x) (nI b9) := by rw [Zn 5 (by decide) (by decide) (by decide), hyu 5 (by decide), n5]
  have Z9 : ∀ i, (yH1 w x t b9 (yHM w x t)).2.2.2 9 i = if b9 = 0 then t.2.2.2 9 i else if i = 11 + b9 then t.2.2.2 9 i + cr / nI 10 else if i = 5 + b9 then t.2.2.2 9 i + nI 1 else t.2.2.2 9 i := fun i => by rw [Zn 9 (by decide) (by decide) (by decide), hy9]
  have Z0 : (yH1 w x t b9 (yHM w x t)).2.2.2 0 = yHM w x t 0 := by rw [Zn 0 (by decide) (by decide) (by decide), hyu 0 (by decide)]
  have Z6 : (yH1 w x t b9 (yHM w x t)).2.2.2 6 = yHM w x t 6 := by rw [Zn 6 (by decide) (by decide) (by decide), hyu 6 (by decide)]
  have Zo : ∀ k, k = 1 ∨ k = 7 ∨ k = 8 → (yH1 w x t b9 (yHM w x t)).2.2.2 k = t.2.2.2 k := fun k hk => by rw [Zn k (by omega) (by omega) (by omega), hyu k (by omega), n k (by omega) (by omega) (by omega)]
  refine ⟨⟨⟨?_, ?_, ?_, ?_, ?_, ?_⟩, ?_, ?_, ⟨L', ?_, ?_, m3, ?_⟩, ⟨?_, ?_, ?_⟩, fun i hi => ?_, fun p hp => ?_, ?_⟩, ⟨hB.2.2.2, fun j a b => ?_, ?_, ?_, ?_, ?_⟩, ?_, ?_, ?_⟩
  · rw [Zo 1 (by omega)]; exact z1
  · rw [Zo 7 (by omega)]; exact z7
  · rw [Zo 8 (by omega)]; exact z8
  · intro j hj
    rw [Z0, n0 j hj]
    exact z0 j hj
  · intro i hi
    rw [Z6, n6 i hi]
    exact z6 i hi
  · intro i hi
    rw [Z9]
    have e := z9 i hi
    split
    · exact e
    · rw [if_neg (by omega), if_neg (by omega)]; exact e
  · intro b hb
    show yb (t.1 ||| (if b9 = 0 then nI 0 else nI 1 <<< (nI (b9 - 1) &&& 31))) b = _
    rcases tS with ⟨e1, e2⟩ | ⟨k, hk, e1, e2⟩
    · rw [if_pos e1, yb_or0, e2, up_n (by decide), cN 22 (by decide) (by decide) (by decide)]
      exact hset b hb
    · rw [if_neg (by omega), e1, Nat.add_sub_cancel, yb_set _ (by omega) (by omega), e2, up_n (by decide)]
      by_cases c : b = k
      · subst c
        rw [if_pos rfl, up_si, if_neg (by decide)]
      · rw [if_neg c, up_sn c, up_n (by decide), cN 22 (by decide) (by decide) (by decide)]
        exact hset b hb
  · intro b hb
    rw [Z9]
    rcases tS with ⟨e1, e2⟩ | ⟨k, hk, e1, e2⟩
    · rw [if_pos e1, e2, up_n (by decide), cN 19 (by decide) (by decide) (by decide)]
      exact hhrs b hb
    · rw [if_neg (by omega), if_neg (by omega), e2]
      by_cases c : b = k
      · subst c
        rw [if_pos (by omega), up_si, cN 19 (by decide) (by decide) (by decide), hhrs b hb]
      · rw [if_neg (by omega), up_sn c, up_n (by decide), up_n (by decide), cN 19 (by decide) (by decide) (by decide)]
        exact hhrs b hb
  · rw [Z0, n03]
  · rcases tS with ⟨e1, e2⟩ | ⟨k, hk, e1, e2⟩
    · rw [e2, up_n (by decide)]; exact m2
    · rw [e2, up_n (by decide), up_n (by decide), up_n (by decide)]; exact m2
  · intro i hi
    rw [Z6, n62 i hi]
    rcases tS with ⟨e1, e2⟩ | ⟨k, hk, e1, e2⟩
    · rw [e2, up_n (by decide)]
    · rw [e2, up_n (by decide), up_n (by decide), up_n (by decide)]
  · show t.2.1 + yHM w x t 1 x - yHc (t.2.1 + yHM w x t 1 x) b9 (yHM w x t) - (t.2.1 + yHM w x t 1 x - yHc (t.2.1 + yHM w x t 1 x) b9 (yHM w x t)) * yHM w x t 1 (12 + x) / nI 100 = _
    rw [hgo2, hcr, q2, n 1 (by decide) (by decide) (by decide), z1, (hA x hx).2.1]
  · show t.2.2.1 + (t.2.1 + yHM w x t 1 x + yHc (t.2.1 + yHM w x t 1 x) b9 (yHM w x t)) = _
    rw [hgo2, hcr, q1, hal]
  · intro b hb
    rw [Z9, q5 b hb]
    by_cases c : b9 = 0
    · rw [if_pos c, if_neg (by omega)]
      exact hco b hb
    · rw [if_neg c]
      by_cases d : b9 = b + 1
      · rw [if_pos (by omega), if_pos d, hco b hb]
      · rw [if_neg (by omega), if_neg (by omega), if_neg d]
        exact hco b hb
  · rw [(hF' i hi).1, (hF' i hi).2, Z2, Z3, Z4, Z5]
    by_cases c : i = x
    · subst c
      rw [if_pos rfl, if_pos rfl, pk_us, pk_us, pk_us, pk_us]
      exact ⟨rfl, rfl, r1, e24.1.symm⟩
    · rw [if_neg c, if_neg c, pk_un (by omega), pk_un (by omega), pk_un (by omega), pk_un (by omega)]
      exact hF i (by omega)
  · have hp2 : p ≠ w * 12 + x := hp x (by omega)
    rw [Z2, Z3, Z4, Z5, pk_un hp2, pk_un hp2, pk_un hp2, pk_un hp2]
    exact hG p (fun i hi => hp i (by omega))
  · unfold LBd
    rw [Z2, Z3, Z4, Z5]
    obtain ⟨v, v1, v2⟩ := hst
    obtain ⟨v3, v4, v5⟩ := hcn
    obtain ⟨v6, v7, v8⟩ := r2
    rw [v8, v2, v5]
    exact ⟨bd_upd hB.1 (by omega), bd_upd hB.2.1 v4, bd_upd hB.2.2.1 v7, bd_upd hB.2.2.2 (by omega)⟩
  · rw [(hG (w * 12 + j) (fun i hi => by omega)).2.2.2]
    exact (hZ (w * 12 + j) (by omega)).2.2.2
  · rw [eL]
    refine ⟨l1, l3, fun i hi => ?_⟩
    rw [l4 i hi]
    exact h25 i
  · rw [(hG (w * 12 + x) (fun i hi => by omega)).1]
    exact (hZ (w * 12 + x) (by omega)).1
  · rw [(hG (w * 12 + x) (fun i hi => by omega)).2.1]
    exact (hZ (w * 12 + x) (by omega)).2.1
  · rw [(hG (w * 12 + x) (fun i hi => by omega)).2.2.1]
    exact (hZ (w * 12 + x) (by omega)).2.2.1
  · obtain ⟨v, v1, v2⟩ := hst
    rw [hb9, hgo2, hcr]
    exact ⟨v, by omega, v2⟩
  · rw [hb9, hgo2, hcr]
    exact hcn
  · rw [hb9, hgo2, hcr]
    exact r2
end M7
