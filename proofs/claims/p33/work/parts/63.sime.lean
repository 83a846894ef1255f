/-! an hour ends: people walk, lamps read, leases are billed -/
def rmx : List (Nat × Nat) := [(2, 6), (3, 7), (4, 11), (5, 12), (6, 8), (7, 9), (9, 24), (10, 10), (12, 15), (13, 16), (14, 17), (16, 30), (17, 32), (18, 33), (19, 34), (20, 35), (21, 36), (23, 38), (25, 5), (26, 18), (27, 19), (28, 20), (32, 25)]
theorem rmx_11 : ∀ p ∈ rmx, ∀ x ∈ rmx, (p.1 = x.1 ↔ p.2 = x.2) := by decide
/-- rows that hold the same, but for the readings -/
def RRx (S T : Nat → Nat → Int32) : Prop := ∀ p ∈ rmx, T p.1 = S p.2
theorem RRx.at {S T : Nat → Nat → Int32} (h : RRx S T) (k k' : Nat) (hk : (k, k') ∈ rmx) : T k = S k' := h (k, k') hk
theorem RRx.both {S T : Nat → Nat → Int32} (h : RRx S T) {k k' i : Nat} {v : Int32} (hk : (k, k') ∈ rmx) : RRx (up S k' i v) (up T k i v) := fun p hp => by
  by_cases c : p.1 = k
  · have c2 : p.2 = k' := (rmx_11 p hp (k, k') hk).mp c
    rw [c, c2, up_s, up_s, h.at k k' hk]
  · have c2 : p.2 ≠ k' := fun z => c ((rmx_11 p hp (k, k') hk).mpr z)
    rw [up_n c, up_n c2]
    exact h p hp
theorem RRx.right {S T : Nat → Nat → Int32} (h : RRx S T) {k i : Nat} {v : Int32} (hk : ∀ p ∈ rmx, p.1 ≠ k) : RRx S (up T k i v) := fun p hp => by rw [up_n (hk p hp)]; exact h p hp
theorem RR.x {S T : Nat → Nat → Int32} (h : RR S T) : RRx S T := fun p hp => h p ((show ∀ p ∈ rmx, p ∈ rmap by decide) p hp)
theorem RRx.all {S T : Nat → Nat → Int32} (h : RRx S T) (h8 : T 8 = S 13) : RR S T := fun p hp => by
  rcases (show ∀ p ∈ rmap, p = (8, 13) ∨ p ∈ rmx by decide) p hp with c | c
  · rw [c]
    exact h8
  · exact h p c
theorem up_comm {S : Nat → Nat → Int32} {k k' i i' : Nat} {v v' : Int32} (h : k ≠ k') : up (up S k' i' v') k i v = up (up S k i v) k' i' v' := by
  funext j
  by_cases a : j = k
  · subst a
    rw [up_s, up_n h, up_n h, up_s]
  · rw [up_n a]
    by_cases b : j = k'
    · subst b
      rw [up_s, up_s, up_n a]
    · rw [up_n b, up_n b, up_n a]
/-- people come to a section: x of them done -/
def WK (S T : Nat → Nat → Int32) (y x : Nat) : Prop :=
  (wkF S y x).1 = (enF T y x).1 ∧ (∃ a, a ≤ 1000 * x ∧ (wkF S y x).2.1 = nI a ∧ (enF T y x).2.1 = nI a) ∧ RRx (wkF S y x).2.2 (enF T y x).2.2 ∧ (∀ i, i < x → (∃ v, v ≤ 30000 ∧ (wkF S y x).2.2 8 (y * 12 + i) = nI v) ∧ (enF T y x).2.2 8 (y * 12 + i) = rdV (S 11 i) ((wkF S y x).2.2 8 (y * 12 + i)) (S 12 i)) ∧ (∀ p, (∀ i, i < x → p ≠ y * 12 + i) → (enF T y x).2.2 8 p = T 8 p)
theorem wk_step {S T : Nat → Nat → Int32} {y x : Nat} (hP : RP S) (hpl : okPl T y) (hx : x < 12) (h : WK S T y x) : WK S T y (x + 1) := by
  obtain ⟨h1, ⟨a, ha, ea, eb⟩, h3, h4, h5⟩ := h
  have nS : ∀ k, k ≠ 8 → k ≠ 9 → k ≠ 20 → (wkF S y x).2.2 k = S k := fun k a b c => wkF_n a b c x
  have nT : ∀ k, k ≠ 7 → k ≠ 6 → k ≠ 28 → k ≠ 8 → (enF T y x).2.2 k = T k := fun k a b c d => enF_n a b c d x
  unfold WK
  rw [wkF_s, enF_s]
  revert h1 ea eb h3 h4 h5 nS nT
  generalize wkF S y x = t
  generalize enF T y x = u
  intro h1 ea eb h3 h4 h5 nS nT
  obtain ⟨s1, a1, M⟩ := t
  obtain ⟨s2, a2, N⟩ := u
  dsimp only at h1 ea eb h3 h4 h5 nS nT
  subst h1
  subst ea
  subst eb
  obtain ⟨p, bp, ep⟩ := hP.1 x
  obtain ⟨lv, blv, elv⟩ := hP.2.1 x
  have e6 : M 6 x = nI p := by rw [nS 6 (by decide) (by decide) (by decide)]; exact ep
  have e2 : N 2 x = nI p := by rw [h3.at 2 6 (by decide)]; exact e6
  have e7 : M 7 x = nI lv := by rw [nS 7 (by decide) (by decide) (by decide)]; exact elv
  have e3 : N 3 x = nI lv := by rw [h3.at 3 7 (by decide)]; exact e7
  have e9 : N 9 (y * 12 + x) = M 24 (y * 12 + x) := by rw [h3.at 9 24 (by decide)]
  have b9 : M 24 (y * 12 + x) = -1 ∨ ∃ k, k < 6 ∧ M 24 (y * 12 + x) = nI k := by
    rw [← e9, nT 9 (by decide) (by decide) (by decide) (by decide)]
    exact hpl x hx
  have key : ∀ (c : Nat) (M1 N1 : Nat → Nat → Int32), c ≤ a + p → RRx M1 N1 → (∀ k, k ≠ 20 → M1 k = M k) → (∀ k, k ≠ 28 → N1 k = N k) →
      (s1 + (nI (a + p) + nI c) = s1 + (nI (a + p) + nI c)) ∧ (∃ b, b ≤ 1000 * (x + 1) ∧ nI (a + p) - nI c - (nI (a + p) - nI c) * M 7 x / nI 100 = nI b ∧ nI (a + p) - nI c - (nI (a + p) - nI c) * N 3 x / nI 100 = nI b) ∧ RRx (up (up M1 9 (y * 12 + x) (nI c)) 8 (y * 12 + x) (nI (a + p) + nI c)) (up (up (up N1 7 (y * 12 + x) (nI c)) 6 (y * 12 + x) (nI (a + p) + nI c)) 8 (y * 12 + x) (if N 4 x = 0 then rsM (nI (a + p) + nI c) (N 5 x) else -1)) ∧ (∀ i, i < x + 1 → (∃ v, v ≤ 30000 ∧ up (up M1 9 (y * 12 + x) (nI c)) 8 (y * 12 + x) (nI (a + p) + nI c) 8 (y * 12 + i) = nI v) ∧ up (up (up N1 7 (y * 12 + x) (nI c)) 6 (y * 12 + x) (nI (a + p) + nI c)) 8 (y * 12 + x) (if N 4 x = 0 then rsM (nI (a + p) + nI c) (N 5 x) else -1) 8 (y * 12 + i) = rdV (S 11 i) (up (up M1 9 (y * 12 + x) (nI c)) 8 (y * 12 + x) (nI (a + p) + nI c) 8 (y * 12 + i)) (S 12 i)) ∧ (∀ q, (∀ i, i < x + 1 → q ≠ y * 12 + i) → up (up (up N1 7 (y * 12 + x) (nI c)) 6 (y * 12 + x) (nI (a + p) + nI c)) 8 (y * 12 + x) (if N 4 x = 0 then rsM (nI (a + p) + nI c) (N 5 x) else -1) 8 q = T 8 q) := by
    intro c M1 N1 hc hR hM hN
    have m8 : up (up M1 9 (y * 12 + x) (nI c)) 8 (y * 12 + x) (nI (a + p) + nI c) 8 = upd (M 8) (y * 12 + x) (nI (a + p) + nI c) := (up_s _ _ _ _).trans (by rw [up_n (by decide), hM 8 (by decide)])
    have n8 : up (up (up N1 7 (y * 12 + x) (nI c)) 6 (y * 12 + x) (nI (a + p) + nI c)) 8 (y * 12 + x) (if N 4 x = 0 then rsM (nI (a + p) + nI c) (N 5 x) else -1) 8 = upd (N 8) (y * 12 + x) (if N 4 x = 0 then rsM (nI (a + p) + nI c) (N 5 x) else -1) := (up_s _ _ _ _).trans (by rw [up_n (by decide), up_n (by decide), hN 8 (by decide)])
    refine ⟨rfl, ⟨a + p - c - (a + p - c) * lv / 100, by omega, ?_, ?_⟩, ?_, fun i hi => ?_, fun q hq => ?_⟩
    · have : (a + p - c) * lv ≤ (a + p - c) * 100 := Nat.mul_le_mul_left _ blv
      rw [e7, pk_sub hc, pk_mul, pk_div (by omega) (by decide) (by decide), pk_sub (by omega)]
    · have : (a + p - c) * lv ≤ (a + p - c) * 100 := Nat.mul_le_mul_left _ blv
      rw [e3, pk_sub hc, pk_mul, pk_div (by omega) (by decide) (by decide), pk_sub (by omega)]
    · exact ((hR.both (by decide)).both (by decide)).right (by decide)
    · rw [m8, n8]
      by_cases q : i = x
      · subst q
        rw [pk_us, pk_us, nI_add]
        refine ⟨⟨a + p + c, by omega, rfl⟩, ?_⟩
        rw [h3.at 4 11 (by decide), h3.at 5 12 (by decide), nS 11 (by decide) (by decide) (by decide), nS 12 (by decide) (by decide) (by decide)]
        rfl
      · rw [pk_un (by omega), pk_un (by omega)]
        exact h4 i (by omega)
    · rw [n8, pk_un (hq x (by omega))]
      exact h5 q (fun i hi => hq i (by omega))
  rcases b9 with b | ⟨k, hk, b⟩
  · have eW : wkS (s1, nI a, M) y x = (s1 + (nI (a + p) + nI 0), nI (a + p) - nI 0 - (nI (a + p) - nI 0) * M 7 x / nI 100, up (up M 9 (y * 12 + x) (nI 0)) 8 (y * 12 + x) (nI (a + p) + nI 0)) := by
      have l0 : M 24 (y * 12 + x) < 0 := by rw [b]; decide
      unfold wkS ptV ptM
      dsimp only
      rw [if_pos l0, if_pos l0, e6, nI_add, up_n (k := 8) (j := 7) (by decide), up_n (k := 9) (j := 7) (by decide)]
    have eE : enS (s1, nI a, N) y x = (s1 + (nI (a + p) + nI 0), nI (a + p) - nI 0 - (nI (a + p) - nI 0) * N 3 x / nI 100, up (up (up N 7 (y * 12 + x) (nI 0)) 6 (y * 12 + x) (nI (a + p) + nI 0)) 8 (y * 12 + x) (if N 4 x = 0 then rsM (nI (a + p) + nI 0) (N 5 x) else -1)) := by
      unfold enS
      dsimp only
      rw [e9, if_pos b, if_pos b, e2, nI_add]
    rw [eW, eE]
    exact key 0 M N (by omega) h3 (fun _ _ => rfl) (fun _ _ => rfl)
  · have ek : (M 24 (y * 12 + x)).toNatClampNeg = k := by rw [b, nI_clamp (by omega)]
    have n0 : ¬ M 24 (y * 12 + x) < 0 := by rw [b]; exact nI_pos (by omega)
    have n6 : M 24 (y * 12 + x) < nI 6 := by rw [b]; exact (nI_ltI (by omega) (by decide)).mpr hk
    have nm : ¬ M 24 (y * 12 + x) = -1 := by rw [b]; exact fun z => (k_m1 (by omega)).mp z
    obtain ⟨sk, bsk, esk⟩ := hP.2.2.2.1 k
    have e18 : M 18 k = nI sk := by rw [nS 18 (by decide) (by decide) (by decide)]; exact esk
    have e26 : N 26 k = nI sk := by rw [h3.at 26 18 (by decide)]; exact e18
    have e28 : N 28 = M 20 := h3.at 28 20 (by decide)
    have le : (a + p) * sk ≤ (a + p) * 50 := Nat.mul_le_mul_left _ bsk
    have ec : nI (a + p) * nI sk / nI 100 = nI ((a + p) * sk / 100) := by rw [pk_mul, pk_div (by omega) (by decide) (by decide)]
    have eW : wkS (s1, nI a, M) y x = (s1 + (nI (a + p) + nI ((a + p) * sk / 100)), nI (a + p) - nI ((a + p) * sk / 100) - (nI (a + p) - nI ((a + p) * sk / 100)) * M 7 x / nI 100, up (up (up M 20 k (M 20 k + nI ((a + p) * sk / 100) / nI 10)) 9 (y * 12 + x) (nI ((a + p) * sk / 100))) 8 (y * 12 + x) (nI (a + p) + nI ((a + p) * sk / 100))) := by
      unfold wkS ptV ptM
      dsimp only
      rw [if_neg n0, if_neg n0, if_pos n6, if_pos n6, ek, e6, nI_add, e18, ec, up_n (k := 8) (j := 7) (by decide), up_n (k := 9) (j := 7) (by decide), up_n (k := 20) (j := 7) (by decide)]
    have eE : enS (s1, nI a, N) y x = (s1 + (nI (a + p) + nI ((a + p) * sk / 100)), nI (a + p) - nI ((a + p) * sk / 100) - (nI (a + p) - nI ((a + p) * sk / 100)) * N 3 x / nI 100, up (up (up (up N 7 (y * 12 + x) (nI ((a + p) * sk / 100))) 6 (y * 12 + x) (nI (a + p) + nI ((a + p) * sk / 100))) 28 k (N 28 k + nI ((a + p) * sk / 100) / nI 10)) 8 (y * 12 + x) (if N 4 x = 0 then rsM (nI (a + p) + nI ((a + p) * sk / 100)) (N 5 x) else -1)) := by
      unfold enS
      dsimp only
      rw [e9, if_neg nm, if_neg nm, e2, nI_add, ek, e26, ec]
    have sw : up (up (up N 7 (y * 12 + x) (nI ((a + p) * sk / 100))) 6 (y * 12 + x) (nI (a + p) + nI ((a + p) * sk / 100))) 28 k (N 28 k + nI ((a + p) * sk / 100) / nI 10) = up (up (up N 28 k (N 28 k + nI ((a + p) * sk / 100) / nI 10)) 7 (y * 12 + x) (nI ((a + p) * sk / 100))) 6 (y * 12 + x) (nI (a + p) + nI ((a + p) * sk / 100)) := by
      rw [up_comm (k := 28) (k' := 6) (by decide), up_comm (k := 28) (k' := 7) (by decide)]
    rw [eW, eE, sw]
    exact key ((a + p) * sk / 100) _ _ (by omega) (by rw [e28]; exact h3.both (by decide)) (fun k hk => up_n hk) (fun k hk => up_n hk)
theorem wk_all {S T : Nat → Nat → Int32} {y : Nat} (hR : RR S T) (hP : RP S) (hpl : okPl T y) : ∀ x, x ≤ 12 → WK S T y x
  | 0, _ => ⟨rfl, ⟨0, by omega, rfl, rfl⟩, hR.x, fun i hi => absurd hi (Nat.not_lt_zero i), fun _ _ => rfl⟩
  | x + 1, hx => wk_step hP hpl (by omega) (wk_all hR hP hpl x (by omega))
/-- lamps read -/
theorem rdF_v {S : Nat → Nat → Int32} {y : Nat} : ∀ x, (∀ i, i < x → rdF S y x 13 (y * 12 + i) = rdV (S 11 i) (S 8 (y * 12 + i)) (S 12 i)) ∧ (∀ p, (∀ i, i < x → p ≠ y * 12 + i) → rdF S y x 13 p = S 13 p)
  | 0 => ⟨fun i hi => absurd hi (Nat.not_lt_zero i), fun _ _ => rfl⟩
  | x + 1 => by
    obtain ⟨h1, h2⟩ := rdF_v (S := S) (y := y) x
    have n : ∀ k, k ≠ 13 → rdF S y x k = S k := fun k hk => rdF_n hk x
    have e : rdF S y (x + 1) 13 = upd (rdF S y x 13) (y * 12 + x) (rdV (S 11 x) (S 8 (y * 12 + x)) (S 12 x)) := by
      show up (rdF S y x) 13 (y * 12 + x) (rdV (rdF S y x 11 x) (rdF S y x 8 (y * 12 + x)) (rdF S y x 12 x)) 13 = _
      rw [up_s, n 11 (by decide), n 8 (by decide), n 12 (by decide)]
    rw [e]
    refine ⟨fun i hi => ?_, fun p hp => ?_⟩
    · by_cases c : i = x
      · subst c
        exact pk_us
      · rw [pk_un (by omega)]
        exact h1 i (by omega)
    · rw [pk_un (hp x (by omega))]
      exact h2 p (fun i hi => hp i (by omega))
/-- counts of readings, then gaps -/
theorem kpF_v {S : Nat → Nat → Int32} {n y : Nat} : ∀ x, (∀ i, i < x → ¬ S 13 (y * 12 + i) = -1 → kpF S n y x 14 (y * 12 + i) = cntR S n y i) ∧ (∀ p, (∀ i, i < x → p ≠ y * 12 + i) → kpF S n y x 14 p = S 14 p)
  | 0 => ⟨fun i hi => absurd hi (Nat.not_lt_zero i), fun _ _ => rfl⟩
  | x + 1 => by
    obtain ⟨h1, h2⟩ := kpF_v (S := S) (n := n) (y := y) x
    have nn : ∀ k, k ≠ 14 → kpF S n y x k = S k := fun k hk => kpF_n hk x
    rw [kpF_s, nn 13 (by decide), cntR_congr (S := S) (S' := kpF S n y x) (nn 13 (by decide)) (nn 15 (by decide)) (nn 16 (by decide)) (nn 17 (by decide))]
    by_cases c : S 13 (y * 12 + x) = -1
    · rw [if_pos c]
      refine ⟨fun i hi hc => ?_, fun p hp => h2 p (fun i hi => hp i (by omega))⟩
      by_cases d : i = x
      · subst d
        exact absurd c hc
      · exact h1 i (by omega) hc
    · rw [if_neg c]
      refine ⟨fun i hi hc => ?_, fun p hp => ?_⟩
      · by_cases d : i = x
        · subst d
          exact up_si _ _ _ _
        · rw [up_sn (by omega)]
          exact h1 i (by omega) hc
      · rw [up_sn (hp x (by omega))]
        exact h2 p (fun i hi => hp i (by omega))
theorem gpF_v {S : Nat → Nat → Int32} {n y : Nat} (hr : ∀ i, i < 12 → ¬ S 13 (y * 12 + i) = -1 → S 14 (y * 12 + i) = cntR S n y i) : ∀ x, x ≤ 12 → (∀ i, i < 12 → (¬ S 13 (y * 12 + i) = -1 ∨ i < x) → gpF S y x 14 (y * 12 + i) = anewF S n y i) ∧ (∀ p, (∀ i, i < 12 → p ≠ y * 12 + i) → gpF S y x 14 p = S 14 p)
  | 0, _ => ⟨fun i hi hc => by
      have c : ¬ S 13 (y * 12 + i) = -1 := hc.resolve_right (Nat.not_lt_zero i)
      exact (hr i hi c).trans (anew_rd c).symm, fun _ _ => rfl⟩
  | x + 1, hx => by
    obtain ⟨h1, h2⟩ := gpF_v hr x (by omega)
    have nn : ∀ k, k ≠ 14 → gpF S y x k = S k := fun k hk => gpF_n hk x
    rw [gpF_s, nn 13 (by decide)]
    by_cases c : S 13 (y * 12 + x) = -1
    · have e : gapF (gpF S y x) (rowF (gpF S y x 14) y) y x = anewF S n y x := by
        rw [anew_gp c]
        exact gap_rd (nn 13 (by decide)) (by omega) (fun j hj d => (h1 j hj (Or.inl d)).trans (anew_rd d))
      rw [if_pos c, e]
      refine ⟨fun i hi hc => ?_, fun p hp => ?_⟩
      · by_cases d : i = x
        · subst d
          exact up_si _ _ _ _
        · rw [up_sn (by omega)]
          exact h1 i hi (hc.imp (fun z => z) (fun z => by omega))
      · rw [up_sn (hp x (by omega))]
        exact h2 p hp
    · rw [if_neg c]
      refine ⟨fun i hi hc => ?_, h2⟩
      by_cases d : i = x
      · subst d
        exact h1 i hi (Or.inl c)
      · exact h1 i hi (hc.imp (fun z => z) (fun z => by omega))
/-- what the lamps leave: every count of the hour is as it is found anew, the others stay -/
theorem read_v {S : Nat → Nat → Int32} {n y : Nat} : (∀ i, i < 12 → readF S n y 14 (y * 12 + i) = anewF (rdF S y 12) n y i) ∧ (∀ p, (∀ i, i < 12 → p ≠ y * 12 + i) → readF S n y 14 p = S 14 p) ∧ (∀ k, k ≠ 14 → readF S n y k = rdF S y 12 k) := by
  have k := kpF_v (S := rdF S y 12) (n := n) (y := y) 12
  have nn : ∀ k, k ≠ 14 → kpF (rdF S y 12) n y 12 k = rdF S y 12 k := fun k hk => kpF_n hk 12
  have ec := cntR_congr (S := rdF S y 12) (S' := kpF (rdF S y 12) n y 12) (nn 13 (by decide)) (nn 15 (by decide)) (nn 16 (by decide)) (nn 17 (by decide)) n y
  have g := gpF_v (S := kpF (rdF S y 12) n y 12) (n := n) (y := y) (fun i hi hc => by rw [ec]; exact k.1 i hi (by rw [← nn 13 (by decide)]; exact hc)) 12 (Nat.le_refl 12)
  refine ⟨fun i hi => ?_, fun p hp => ?_, fun k hk => (gpF_n hk 12).trans (kpF_n hk 12)⟩
  · refine (g.1 i hi (Or.inr hi)).trans ?_
    exact anewF_congr (nn 13 (by decide)) (nn 15 (by decide)) (nn 16 (by decide)) (nn 17 (by decide)) n y i
  · refine (g.2 p hp).trans ((k.2 p (fun i hi => hp i hi)).trans ?_)
    rw [rdF_n (by decide)]
/-- leases are billed for an hour -/
theorem bhF_v {S : Nat → Nat → Int32} {y : Nat} : ∀ l j, bhF S y l 37 j = if j < l ∧ covP S j (nI y) then S 37 j + rentF S j (S 14 (y * 12 + secN S j)) else S 37 j
  | 0, j => by rw [if_neg (by omega)]; rfl
  | l + 1, j => by
    have ih := bhF_v (S := S) (y := y) l
    have n : ∀ k, k ≠ 37 → bhF S y l k = S k := fun k hk => bhF_n hk l
    have cv : covP (bhF S y l) l (nI y) ↔ covP S l (nI y) := by
      unfold covP
      rw [n 35 (by decide), n 36 (by decide)]
    have er : rentF (bhF S y l) l (bhF S y l 14 (y * 12 + secN (bhF S y l) l)) = rentF S l (S 14 (y * 12 + secN S l)) := by
      unfold rentF secN
      rw [n 33 (by decide), n 34 (by decide), n 14 (by decide), n 31 (by decide)]
    rw [bhF_s, er]
    by_cases c : covP S l (nI y)
    · rw [if_pos (cv.mpr c), up_s]
      by_cases d : j = l
      · subst d
        rw [pk_us, if_pos ⟨by omega, c⟩, ih, if_neg (fun z => by omega)]
      · rw [pk_un d, ih]
        by_cases e : j < l ∧ covP S j (nI y)
        · rw [if_pos e, if_pos ⟨by omega, e.2⟩]
        · rw [if_neg e, if_neg (fun z => e ⟨by omega, z.2⟩)]
    · rw [if_neg (fun z => c (cv.mp z)), ih]
      by_cases e : j < l ∧ covP S j (nI y)
      · rw [if_pos e, if_pos ⟨by omega, e.2⟩]
      · rw [if_neg e]
        by_cases d : j = l
        · subst d
          rw [if_neg (fun z => c z.2)]
        · rw [if_neg (fun z => e ⟨by omega, z.2⟩)]
theorem blF_ext {S : Nat → Nat → Int32} {f f' : Nat → Int32} {i a : Nat} : ∀ j, (∀ k, k < j → f ((a + k) * 12 + secN S i) = f' ((a + k) * 12 + secN S i)) → blF S f i a j = blF S f' i a j
  | 0, _ => rfl
  | j + 1, h => by
    unfold blF
    rw [blF_ext j (fun k hk => h k (by omega)), h j (by omega)]
