/-! what holds between two acts of the law: its rows beside the class's memory -/
def LQd (S C : Nat → Nat → Int32) (n w nl L : Nat) : Prop := (S 0 0 = nI w ∧ w ≤ 20) ∧ (S 0 1 = nI n ∧ n ≤ 12) ∧ (S 0 2 = nI nl ∧ nl ≤ 10) ∧ (S 0 3 = nI L ∧ L ≤ 20) ∧ ∀ k, k < 32 → yb (S 0 4) k = nI 0 ∨ (k < nl ∧ C 36 k ≤ nI w)
def LAd (S C : Nat → Nat → Int32) : Prop := ∀ x, x < 12 → S 1 x = C 6 x ∧ S 1 (12 + x) = C 7 x ∧ S 1 (24 + x) = (if C 11 x = 0 then C 12 x else nI 100 + C 12 x)
def LBd (S : Nat → Nat → Int32) : Prop := bd (S 2) 32767 ∧ bd (S 3) 32767 ∧ bd (S 4) 32767 ∧ bd (S 5) 7
def LZd (S : Nat → Nat → Int32) (w : Nat) : Prop := ∀ i, w * 12 ≤ i → S 2 i = nI 0 ∧ S 3 i = nI 0 ∧ S 4 i = nI 0 ∧ S 5 i = nI 0
def LTd (S C : Nat → Nat → Int32) (w L : Nat) : Prop := (∀ h, h < w → S 6 h = C 10 h) ∧ ∀ i, i < L → S 6 (20 + i) = C 25 i
def LCd (S : Nat → Nat → Int32) (nl : Nat) : Prop := ∀ k, nl ≤ k → S 8 (6 * k + 5) = nI 0
def LUd (S C : Nat → Nat → Int32) (tn : Nat) : Prop := ∀ b, b < 6 → (S 9 b = C 18 b ∧ S 9 (6 + b) = C 19 b ∧ S 9 (12 + b) = C 20 b ∧ S 9 (24 + b) = C 5 b) ∧ (∃ v, v ≤ 9000 * tn ∧ C 5 b = nI v) ∧ ∀ x, x < 12 → yb (S 9 (18 + b)) x = (if C 21 (b * 12 + x) = 0 then nI 0 else nI 1)
def LR (S C : Nat → Nat → Int32) (n w nl L tn : Nat) : Prop := LQd S C n w nl L ∧ LAd S C ∧ (LPd S C w ∧ LZd S w ∧ LBd S) ∧ LTd S C w L ∧ LFd S C n ∧ (LLd S C w nl ∧ LCd S nl) ∧ LUd S C tn
def LI (S C : Nat → Nat → Int32) (n w nl L tn : Nat) : Prop := LR S C n w nl L tn ∧ ∃ T, Rel2 C T n w nl L
theorem inP_w {h w : Nat} {z : Int32} (hz : z = nI w) (hh : h < w) (hw : w < 2 ^ 31) : inP (nI h) (nI 0) (z - nI 1) := by
  subst hz
  cases w with
  | zero => exact absurd hh (Nat.not_lt_zero _)
  | succ k =>
    rw [k_pred]
    exact ⟨fun z => by have := (nI_ltI (by omega) (by omega)).mp z; omega, (nI_leI (by omega) (by omega)).mpr (by omega)⟩
theorem inP_n {h k : Nat} (hh : h ≤ k) (hk : k < 2 ^ 31) : inP (nI h) (nI 0) (nI k) := ⟨fun z => by have := (nI_ltI (by omega) (by omega)).mp z; omega, (nI_leI (by omega) (by omega)).mpr hh⟩
theorem inP_1 {h k : Nat} (h1 : 1 ≤ h) (hh : h ≤ k) (hk : k < 2 ^ 31) : inP (nI h) (nI 1) (nI k) := ⟨fun z => by have := (nI_ltI (by omega) (by omega)).mp z; omega, (nI_leI (by omega) (by omega)).mpr hh⟩
theorem ixP_n {h k : Nat} (hh : h < k) (hk : k < 2 ^ 31) : ixP (nI h) (nI k) := ⟨nI_pos (by omega), (nI_ltI (by omega) hk).mpr hh⟩
theorem bI_iff {P Q : Prop} [Decidable P] [Decidable Q] (h : P ↔ Q) : bI P = bI Q := by
  by_cases c : P
  · rw [bI_t c, bI_t (h.mp c)]
  · rw [bI_f c, bI_f (fun z => c (h.mpr z))]
section M2
variable {S C T : Nat → Nat → Int32} {n w nl L tn : Nat}
theorem R_rd (h : Rel C T n w nl L) : okRd C := fun i => by
  have k := h.2.2.1.2.1 i
  rw [h.1.at 8 13 (by decide)] at k
  exact k
theorem R_bl (h : Rel C T n w nl L) : okBl C n := fun k hk => by
  have e := h.2.2.1.1 k hk
  rw [h.1.at 14 17 (by decide)] at e
  exact e
theorem R_37 (h : Rel C T n w nl L) {k : Nat} (hk : k < nl) : C 37 k = bnF C (C 14) w k := by
  rw [h.2.2.1.2.2.2.2.1 k hk]
  exact (bn_rn (h.1.at 16 30 (by decide)) (h.1.at 18 33 (by decide)) (h.1.at 19 34 (by decide)) (h.1.at 20 35 (by decide)) (h.1.at 21 36 (by decide)) h.2.2.1.2.2.1 hk h.2.2.1.2.2.2.1).symm
theorem LR_yB (h : LR S C n w nl L tn) (hR : Rel C T n w nl L) {k : Nat} (hk : k < nl) : yB S n w k = C 37 k := by
  rw [R_37 hR hk]
  exact yB_e h.2.2.2.2.1 h.2.2.1.1 (R_rd hR) (R_bl hR) h.1.1.2 (LLd_e h.2.2.2.2.2.1.1) hk (RK_anew hR)
theorem LR_yO (h : LR S C n w nl L tn) : yO S nl := LLd_yO h.1.1.2 h.2.2.2.2.2.1.1
theorem LR_yT (h : LR S C n w nl L tn) (hR : Rel C T n w nl L) : yT S n := fun k hk => by
  rw [(h.2.2.2.2.1 k hk).2.2]
  exact R_bl hR k hk
theorem row_e {k x h0 : Nat} (h0w : C 0 0 = nI w) (hw : w ≤ 20) (hh : h0 < w) (hx : x < 12) : coRow C k (nI x) (nI h0) = (nI 0, C k (h0 * 12 + x), C) := by
  unfold coRow
  rw [if_pos (ixP_n hx (by decide)), if_pos (inP_w h0w hh (by omega)), nI_clamp (by omega), nI_clamp (by omega)]
theorem ms_e {h0 : Nat} (hc : ∀ x, x < 12 → C 14 (h0 * 12 + x) = yCn S n h0 x ∧ S 2 (h0 * 12 + x) = C 8 (h0 * 12 + x) ∧ (∃ u, u ≤ 75000 ∧ yCn S n h0 x = nI u) ∧ ∃ v, v ≤ 32767 ∧ S 2 (h0 * 12 + x) = nI v) : ∀ x, x ≤ 12 → msC C h0 x = yMs S n h0 x
  | 0, _ => rfl
  | x + 1, hx => by
    have ih := ms_e hc x (by omega)
    obtain ⟨e1, e2, ⟨u, u1, u2⟩, v, v1, v2⟩ := hc x (by omega)
    unfold msC yMs ofC
    rw [ih, e1, ← e2, u2, v2]
    congr 1
    by_cases c : u ≤ v
    · rw [if_pos ((nI_leI (by omega) (by omega)).mpr c)]
      by_cases d : u = v
      · subst d
        rw [if_pos (by rw [Int32.sub_self]; decide)]
      · have k := pk_sneg (a := u) (b := v) (by omega) (by omega)
        rw [if_neg (fun z => absurd k (Int32.not_lt.mpr z)), Int32.zero_sub, Int32.neg_sub]
    · rw [if_neg (fun z => c ((nI_leI (by omega) (by omega)).mp z)), pk_sub (by omega), if_pos (nI_pos' (by omega))]
theorem LI_hour (h : LR S C n w nl L tn) (hR : Rel C T n w nl L) {h0 : Nat} (hh : h0 < w) : yHA S C n h0 := by
  have hq := h.1
  have hw20 := hq.1.2
  have e0 : C 0 0 = nI w := hR.2.1.1.1
  have hp := h.2.2.1.1
  have cn : ∀ x, x < 12 → C 14 (h0 * 12 + x) = yCn S n h0 x ∧ ∃ u, u ≤ 75000 ∧ yCn S n h0 x = nI u := fun x hx => by
    have g := yCn_e h.2.2.2.2.1 hp (R_rd hR) (R_bl hR) hh hx
    rw [g.1, RK_anew hR h0 x hh hx]
    exact ⟨rfl, g.2⟩
  refine ⟨?_, ?_, fun x hx => ?_⟩
  · unfold coThrough
    rw [if_pos (inP_w e0 hh (by omega)), nI_clamp (by omega), h.2.2.2.1.1 h0 hh]
  · unfold coMissed
    rw [if_pos (inP_w e0 hh (by omega)), nI_clamp (by omega), ms_e (fun x hx => ⟨(cn x hx).1, (hp (h0 * 12 + x) (by omega)).1, (cn x hx).2, h.2.2.1.2.2.1 _⟩) 12 (Nat.le_refl _)]
  · have p := hp (h0 * 12 + x) (by omega)
    refine ⟨?_, ?_, ?_, ?_, ?_, ?_⟩
    · rw [row_e e0 hq.1.2 hh hx, p.1]
    · rw [row_e e0 hq.1.2 hh hx, p.2.1]
    · rw [row_e e0 hq.1.2 hh hx, p.2.2.1, Int32.add_sub_cancel]
    · rw [row_e e0 hq.1.2 hh hx, (cn x hx).1]
    · unfold coAnew
      rw [if_pos (ixP_n hx (by decide)), if_pos (inP_w e0 hh (by omega)), nI_clamp (by omega), nI_clamp (by omega), ← RK_anew hR h0 x hh hx, (cn x hx).1]
    · rw [row_e e0 hq.1.2 hh hx, p.2.2.2, Int32.add_sub_cancel]
theorem ow_e (h : LR S C n w nl L tn) (hR : Rel C T n w nl L) {b : Nat} (hb : b < 6) : ∀ k, k ≤ nl → dbF C b k = yOw S n w b k
  | 0, _ => by
    unfold dbF yOw
    rw [(h.2.2.2.2.2.2 b hb).1.2.2.2]
  | k + 1, hk => by
    obtain ⟨⟨d, t, d1, t1, -, -, e32, e0⟩, -, -⟩ := h.2.2.2.2.2.1.1 k (by omega)
    have x0 : ix S 8 (6 * k) = d + 36 * t := by unfold ix; rw [e0, nI_clamp (by omega)]
    unfold dbF yOw
    rw [ow_e h hR hb k (by omega), LR_yB h hR (by omega), x0, show (d + 36 * t) / 36 = t from by omega, e32]
    by_cases c : t = b
    · subst c
      rw [if_pos rfl, if_pos rfl]
    · rw [if_neg (fun z => c ((nI_eq (by omega) (by omega)).mp z)), if_neg c, i_z]
theorem LI_so (h : LR S C n w nl L tn) (hR : Rel C T n w nl L) : ySA S C n w nl := by
  obtain ⟨q1, q2, q3, q4, -⟩ := h.1
  have hs := hR.2.1
  refine ⟨⟨hs.1.1.trans q1.1.symm, hs.2.2.2.1.trans q4.1.symm⟩, fun x h0 hx hh => ?_, fun b hb => ⟨?_, ?_, ?_⟩, fun k hk => ⟨?_, ?_, ?_, fun d hd => ?_⟩⟩
  · unfold coTaken
    rw [if_pos (ixP_n hx (by decide)), if_pos (inP_n (by omega) (by decide)), nI_clamp (by omega), nI_clamp (by omega), ySp_e h.2.2.2.2.1]
  · unfold coBusker
    rw [if_pos (ixP_n hb (by decide)), nI_clamp (by omega), (h.2.2.2.2.2.2 b hb).1.2.1]
  · unfold coBusker
    rw [if_pos (ixP_n hb (by decide)), nI_clamp (by omega), (h.2.2.2.2.2.2 b hb).1.2.2.1]
  · unfold coOwes
    rw [if_pos (ixP_n hb (by decide)), nI_clamp (by omega), ow_e h hR hb nl (Nat.le_refl _)]
  · unfold coLs
    rw [if_pos (ixP_n hk (by omega)), nI_clamp (by omega), LR_yB h hR hk]
  · have a1 := a_billedAnew hR.1 hs hR.2.2.1.1 hR.2.2.1.2.1 hR.2.2.1.2.2.1 (nI k)
    have a2 := a_billed hs hR.2.2.1.2.2.2.2.1 (nI k)
    unfold coBilledAnew at a1 ⊢
    unfold coLs at a2
    rw [if_pos (ixP_n hk (by omega))] at a1 a2 ⊢
    have e := (a1.2 rfl).trans (a2.2 rfl).symm
    dsimp only at e
    rw [e, nI_clamp (by omega), LR_yB h hR hk]
  · unfold coLs
    rw [if_pos (ixP_n hk (by omega)), nI_clamp (by omega), (h.2.2.2.2.2.1.1 k hk).2.1.2.2]
  · obtain ⟨-, -, u, e, u1, eb, e35, e36, e3, e4⟩ := h.2.2.2.2.2.1.1 k hk
    unfold coIsOf
    rw [if_pos (ixP_n hk (by omega)), nI_clamp (by omega)]
    have x3 : ix S 8 (6 * k + 3) = u := by unfold ix; rw [e3, nI_clamp (by omega)]
    have x4 : ix S 8 (6 * k + 4) = e := by unfold ix; rw [e4, nI_clamp (by omega)]
    rw [x3, x4, bI_iff (show covP C k (nI d) ↔ (u ≤ d ∧ d < e) from cov_nat e35 e36 (by omega) (by omega) (by omega))]
end M2
