/-! the relation of the two sides, and the plain calls keep it -/
def RO (T : Nat → Nat → Int32) (nl : Nat) : Prop := ∀ i, nl ≤ i → T 23 i = nI 0 ∧ T 22 i = nI 0
/-- who asks where: bits on the one side, truths on the other -/
def RQ (S T : Nat → Nat → Int32) : Prop := ∀ b x, b < 6 → x < 12 → T 29 b >>> (nI x &&& 31) &&& nI 1 = (if S 21 (b * 12 + x) = 0 then nI 0 else nI 1)
def CO (S T : Nat → Nat → Int32) (n w nl : Nat) : Prop := okT T n ∧ RD T ∧ RX S nl ∧ RK S T n w ∧ RB S T n w nl ∧ RE S T w nl ∧ RO T nl ∧ RQ S T
theorem CO.frame {S T S' T' : Nat → Nat → Int32} {n w nl : Nat} (h : CO S T n w nl) (eS : ∀ k, k = 30 ∨ k = 31 ∨ k = 14 ∨ k = 37 ∨ k = 35 ∨ k = 36 ∨ k = 21 → S' k = S k) (eT : ∀ k, k = 8 ∨ k = 12 ∨ k = 13 ∨ k = 14 ∨ k = 16 ∨ k = 18 ∨ k = 19 ∨ k = 20 ∨ k = 21 ∨ k = 22 ∨ k = 23 ∨ k = 29 → T' k = T k) : CO S' T' n w nl := by
  obtain ⟨h1, h2, h3, h4, h5, h6, h7, h8⟩ := h
  have t8 := eT 8 (by decide)
  have t12 := eT 12 (by decide)
  have t13 := eT 13 (by decide)
  have t14 := eT 14 (by decide)
  have t16 := eT 16 (by decide)
  have t18 := eT 18 (by decide)
  have t19 := eT 19 (by decide)
  have t20 := eT 20 (by decide)
  have t21 := eT 21 (by decide)
  have t22 := eT 22 (by decide)
  have t23 := eT 23 (by decide)
  have t29 := eT 29 (by decide)
  have s30 := eS 30 (by decide)
  have s31 := eS 31 (by decide)
  have s14 := eS 14 (by decide)
  have s37 := eS 37 (by decide)
  have s35 := eS 35 (by decide)
  have s36 := eS 36 (by decide)
  have s21 := eS 21 (by decide)
  refine ⟨fun k hk => by rw [t14]; exact h1 k hk, fun i => by rw [t8]; exact h2 i, fun y hy => ?_, fun a x ha hx => ?_, fun y hy => ?_, fun y hy => ?_, fun i hi => by rw [t23, t22]; exact h7 i hi, fun b x hb hx => by rw [t29, s21]; exact h8 b x hb hx⟩
  · unfold ix
    rw [s30, s31]
    exact h3 y hy
  · rw [s14, coM_congr t8 t12 t13 t14]
    exact h4 a x ha hx
  · rw [s37, rnM_congr t8 t12 t13 t14 (congrFun t16 y) (congrFun t18 y) (congrFun t19 y) (congrFun t20 y) (congrFun t21 y)]
    exact h5 y hy
  · unfold ix
    rw [s35, s36, t21, t22]
    exact h6 y hy
def bd (f : Nat → Int32) (m : Nat) : Prop := ∀ i, ∃ v, v ≤ m ∧ f i = nI v
theorem bd.upd {f : Nat → Int32} {m i : Nat} {v : Int32} (h : bd f m) (hv : ∃ k, k ≤ m ∧ v = nI k) : bd (upd f i v) m := fun j => by
  by_cases c : j = i
  · subst c
    obtain ⟨k, h1, h2⟩ := hv
    exact ⟨k, h1, by rw [pk_us]; exact h2⟩
  · rw [pk_un c]
    exact h j
theorem bd_in {v : Int32} {m : Nat} (h : inP v (nI 0) (nI m)) (hm : m < 2 ^ 31) : ∃ k, k ≤ m ∧ v = nI k := ⟨_, (inP_nat h hm).2, (inP_nat h hm).1⟩
def RP (S : Nat → Nat → Int32) : Prop := bd (S 6) 1000 ∧ bd (S 7) 100 ∧ bd (S 12) 60 ∧ bd (S 18) 50 ∧ bd (S 25) 1000
theorem RP.frame {S S' : Nat → Nat → Int32} (h : RP S) (e : ∀ k, k = 6 ∨ k = 7 ∨ k = 12 ∨ k = 18 ∨ k = 25 → S' k = S k) : RP S' := by
  unfold RP
  rw [e 6 (by decide), e 7 (by decide), e 12 (by decide), e 18 (by decide), e 25 (by decide)]
  exact h
/-- the two sides hold the same -/
def Rel (S T : Nat → Nat → Int32) (n w nl L : Nat) : Prop := RR S T ∧ RS S T n w nl L ∧ CO S T n w nl ∧ RP S
theorem Rel.t {S T : Nat → Nat → Int32} {n w nl L : Nat} {v : Int32} (h : Rel S T n w nl L) : Rel S (up T 0 0 v) n w nl L :=
  ⟨h.1.z, h.2.1.t, h.2.2.1.frame (fun _ _ => rfl) (fun k hk => up_n (by omega)), h.2.2.2⟩
/-- a code other than 0 leaves all as it was -/
theorem Rel.fl {S T : Nat → Nat → Int32} {n w nl L k : Nat} (h : Rel S T n w nl L) (hk : ¬ nI k = nI 0) : Rel (outS S (flC S k)) (flM T k).2 n w nl L := by
  unfold outS
  rw [if_neg hk]
  exact h.t.t
theorem outS_0 {S S' : Nat → Nat → Int32} {r : Int32} : outS S (nI 0, r, S') = S' := if_pos rfl
theorem k_setPeople {S T : Nat → Nat → Int32} {n w nl L : Nat} (h : Rel S T n w nl L) (s p0 sh : Int32) : Rel (outS S (coSetPeople S s p0 sh)) (moSetPeople T s p0 sh).2 n w nl L := by
  unfold coSetPeople moSetPeople
  by_cases c1 : inP s (nI 0) (nI 11)
  · rw [if_pos (ix12.mpr c1), if_pos c1]
    by_cases c2 : inP p0 (nI 0) (nI 1000)
    · rw [if_pos c2, if_pos c2]
      by_cases c3 : inP sh (nI 0) (nI 100)
      · rw [if_pos c3, if_pos c3, outS_0]
        obtain ⟨h1, h2, h3, h4⟩ := h.t (v := nI 0)
        refine ⟨(h1.both (by decide)).both (by decide), (((h2.n (by decide)).n (by decide)).m (by decide)).m (by decide), h3.frame (fun k hk => (up_n (by omega)).trans (up_n (by omega))) (fun k hk => (up_n (by omega)).trans (up_n (by omega))), ?_⟩
        unfold RP
        rw [show up (up S 6 s.toNatClampNeg p0) 7 s.toNatClampNeg sh 6 = upd (S 6) s.toNatClampNeg p0 from (up_n (by decide)).trans (up_s _ _ _ _), show up (up S 6 s.toNatClampNeg p0) 7 s.toNatClampNeg sh 7 = upd (S 7) s.toNatClampNeg sh from (up_s _ _ _ _).trans (by rw [up_n (by decide)]), up_n (by decide), up_n (by decide), up_n (by decide), up_n (by decide), up_n (by decide), up_n (by decide)]
        exact ⟨h4.1.upd (bd_in c2 (by decide)), h4.2.1.upd (bd_in c3 (by decide)), h4.2.2⟩
      · rw [if_neg c3, if_neg c3]
        exact h.fl (by decide)
    · rw [if_neg c2, if_neg c2]
      exact h.fl (by decide)
  · rw [if_neg (fun z => c1 (ix12.mp z)), if_neg c1]
    exact h.fl (by decide)
theorem k_setLamp {S T : Nat → Nat → Int32} {n w nl L : Nat} (h : Rel S T n w nl L) (s wk b : Int32) : Rel (outS S (coSetLamp S s wk b)) (moSetLamp T s wk b).2 n w nl L := by
  unfold coSetLamp moSetLamp
  by_cases c1 : inP s (nI 0) (nI 11)
  · rw [if_pos (ix12.mpr c1), if_pos c1]
    by_cases c2 : inP b (nI 0) (nI 60)
    · rw [if_pos c2, if_pos c2, outS_0]
      obtain ⟨h1, h2, h3, h4⟩ := h.t (v := nI 0)
      refine ⟨(h1.both (by decide)).both (by decide), (((h2.n (by decide)).n (by decide)).m (by decide)).m (by decide), h3.frame (fun k hk => (up_n (by omega)).trans (up_n (by omega))) (fun k hk => (up_n (by omega)).trans (up_n (by omega))), ?_⟩
      unfold RP
      generalize (if wk = 0 then nI 1 else nI 0) = v
      rw [show up (up S 11 s.toNatClampNeg v) 12 s.toNatClampNeg b 12 = upd (S 12) s.toNatClampNeg b from (up_s _ _ _ _).trans (by rw [up_n (by decide)]), up_n (by decide), up_n (by decide), up_n (by decide), up_n (by decide), up_n (by decide), up_n (by decide), up_n (by decide), up_n (by decide)]
      exact ⟨h4.1, h4.2.1, h4.2.2.1.upd (bd_in c2 (by decide)), h4.2.2.2⟩
    · rw [if_neg c2, if_neg c2]
      exact h.fl (by decide)
  · rw [if_neg (fun z => c1 (ix12.mp z)), if_neg c1]
    exact h.fl (by decide)
theorem k_setSkill {S T : Nat → Nat → Int32} {n w nl L : Nat} (h : Rel S T n w nl L) (b to : Int32) : Rel (outS S (coSetSkill S b to)) (moSetSkill T b to).2 n w nl L := by
  unfold coSetSkill moSetSkill
  by_cases c1 : inP b (nI 0) (nI 5)
  · rw [if_pos (ix6.mpr c1), if_pos c1]
    by_cases c2 : inP to (nI 0) (nI 50)
    · rw [if_pos c2, if_pos c2, outS_0]
      obtain ⟨h1, h2, h3, h4⟩ := h.t (v := nI 0)
      refine ⟨h1.both (by decide), (h2.n (by decide)).m (by decide), h3.frame (fun k hk => up_n (by omega)) (fun k hk => up_n (by omega)), ?_⟩
      unfold RP
      rw [up_s, up_n (by decide), up_n (by decide), up_n (by decide), up_n (by decide)]
      exact ⟨h4.1, h4.2.1, h4.2.2.1, h4.2.2.2.1.upd (bd_in c2 (by decide)), h4.2.2.2.2⟩
    · rw [if_neg c2, if_neg c2]
      exact h.fl (by decide)
  · rw [if_neg (fun z => c1 (ix6.mp z)), if_neg c1]
    exact h.fl (by decide)
theorem k_pay {S T : Nat → Nat → Int32} {n w nl L : Nat} (h : Rel S T n w nl L) (who mo : Int32) : Rel (outS S (coPay S nl who mo)) (moPay T n w nl who mo).2 n w nl L := by
  unfold coPay moPay
  by_cases c1 : inP who (nI 0) (nI 5)
  · rw [if_pos (ix6.mpr c1), if_pos c1]
    by_cases c2 : inP mo (nI 1) (nI 100000)
    · rw [if_pos c2, if_pos c2, h.1.at 25 5 (by decide)]
      by_cases c3 : S 5 who.toNatClampNeg + mo ≤ nI 1000000
      · rw [if_pos c3, if_pos c3, outS_0]
        obtain ⟨h1, h2, h3, h4⟩ := h.t (v := nI 0)
        show Rel _ (pyM T who mo) n w nl L
        unfold pyM
        rw [h.1.at 25 5 (by decide)]
        exact ⟨h1.both (by decide), (h2.n (by decide)).m (by decide), h3.frame (fun k hk => up_n (by omega)) (fun k hk => up_n (by omega)), h4.frame (fun k hk => up_n (by omega))⟩
      · rw [if_neg c3, if_neg c3]
        exact h.fl (by decide)
    · rw [if_neg c2, if_neg c2]
      exact h.fl (by decide)
  · rw [if_neg (fun z => c1 (ix6.mp z)), if_neg c1]
    exact h.fl (by decide)
