/-! an hour ends: the places of the buskers on both sides -/
/-- how many of the first b want the place and have played fw hours -/
def cnN (S : Nat → Nat → Int32) (x : Nat) (fw : Int32) : Nat → Nat
  | 0 => 0
  | b + 1 => if wantP S b x ∧ S 19 b = fw then cnN S x fw b + 1 else cnN S x fw b
theorem cnN_s (S : Nat → Nat → Int32) (x : Nat) (fw : Int32) (b : Nat) : cnN S x fw (b + 1) = if wantP S b x ∧ S 19 b = fw then cnN S x fw b + 1 else cnN S x fw b := rfl
theorem cnN_le {S : Nat → Nat → Int32} {x : Nat} {fw : Int32} : ∀ b, cnN S x fw b ≤ b
  | 0 => Nat.le_refl 0
  | b + 1 => by
    have k := cnN_le (S := S) (x := x) (fw := fw) b
    rw [cnN_s]
    by_cases c : wantP S b x ∧ S 19 b = fw
    · rw [if_pos c]; omega
    · rw [if_neg c]; omega
theorem want_td {S : Nat → Nat → Int32} {x : Nat} {fw : Int32} {b y : Nat} : wantP (tdF S x fw b).2 y x ↔ wantP S y x := by
  unfold wantP
  rw [tdF_n (by decide), tdF_n (by decide)]
/-- one more of those with the fewest -/
theorem td_t {S : Nat → Nat → Int32} {x : Nat} {fw : Int32} {b : Nat} (c : wantP S b x ∧ S 19 b = fw) : tdF S x fw (b + 1) = ((tdF S x fw b).1 + 1, up (tdF S x fw b).2 23 (tdF S x fw b).1 (nI b)) := by
  rw [tdF_s, if_pos (want_td.mpr c.1), if_pos (by rw [tdF_n (by decide)]; exact c.2)]
theorem td_f {S : Nat → Nat → Int32} {x : Nat} {fw : Int32} {b : Nat} (c : ¬ (wantP S b x ∧ S 19 b = fw)) : tdF S x fw (b + 1) = tdF S x fw b := by
  rw [tdF_s]
  by_cases d : wantP S b x
  · rw [if_pos (want_td.mpr d), if_neg (by rw [tdF_n (by decide)]; exact fun z => c ⟨d, z⟩)]
  · rw [if_neg (fun z => d (want_td.mp z))]
theorem td_1 {S : Nat → Nat → Int32} {x : Nat} {fw : Int32} : ∀ b, (tdF S x fw b).1 = cnN S x fw b
  | 0 => rfl
  | b + 1 => by
    rw [cnN_s]
    by_cases c : wantP S b x ∧ S 19 b = fw
    · rw [if_pos c, td_t c]
      dsimp only
      rw [td_1 b]
    · rw [if_neg c, td_f c]
      exact td_1 b
/-- whom they are -/
theorem td_w {S : Nat → Nat → Int32} {x : Nat} {fw : Int32} : ∀ b j, j < cnN S x fw b → ∃ k, k < b ∧ (tdF S x fw b).2 23 j = nI k ∧ wantP S k x
  | 0, j, h => absurd h (Nat.not_lt_zero j)
  | b + 1, j, h => by
    rw [cnN_s] at h
    by_cases c : wantP S b x ∧ S 19 b = fw
    · rw [if_pos c] at h
      rw [td_t c]
      dsimp only
      by_cases d : j = (tdF S x fw b).1
      · exact ⟨b, by omega, by rw [d]; exact up_si _ _ _ _, c.1⟩
      · have e1 := td_1 (S := S) (x := x) (fw := fw) b
        obtain ⟨k, h1, h2, h3⟩ := td_w (S := S) (x := x) (fw := fw) b j (by omega)
        exact ⟨k, by omega, by rw [up_sn d]; exact h2, h3⟩
    · rw [if_neg c] at h
      rw [td_f c]
      obtain ⟨k, h1, h2, h3⟩ := td_w b j h
      exact ⟨k, by omega, h2, h3⟩
/-- both sides in the midst of taking places: L lots are left, a set plays -/
def PJ (S T : Nat → Nat → Int32) (set : Int32) (w L : Nat) : Prop :=
  RR S T ∧ RQ S T ∧ (S 0 2 = nI L ∧ T 0 31 = nI L ∧ L ≤ 50) ∧ (∀ b, b < 6 → set >>> (nI b &&& 31) &&& nI 1 = if S 22 b = 0 then nI 0 else nI 1) ∧ (∀ b, b < 6 → S 22 b = 0 → S 19 b = T 30 b ∧ ∃ v, v ≤ w ∧ S 19 b = nI v) ∧ (∀ b, b < 6 → ∃ v, v ≤ w + 1 ∧ S 19 b = nI v) ∧ bd (S 25) 1000
section PJ
variable {S T : Nat → Nat → Int32} {set : Int32} {w L : Nat}
theorem pj_want (h : PJ S T set w L) {b x : Nat} (hb : b < 6) (hx : x < 12) : mpP T b x set ↔ wantP S b x := by
  unfold mpP wantP
  rw [h.2.1 b x hb hx, h.2.2.2.1 b hb]
  by_cases c : S 21 (b * 12 + x) = 0
  · rw [if_pos c]
    exact ⟨fun z => absurd z.1 (by decide), fun z => absurd c z.1⟩
  · rw [if_neg c]
    by_cases d : S 22 b = 0
    · rw [if_pos d]
      exact ⟨fun _ => ⟨c, d⟩, fun _ => ⟨rfl, by decide⟩⟩
    · rw [if_neg d]
      exact ⟨fun z => absurd z.2 (by decide), fun z => absurd z.2 d⟩
theorem pj_hrs (h : PJ S T set w L) {b x : Nat} (hb : b < 6) (c : wantP S b x) : S 19 b = T 30 b ∧ ∃ v, v ≤ w ∧ S 19 b = nI v := h.2.2.2.2.1 b hb c.2
/-- the fewest hours, and how many have them -/
theorem pj_few (h : PJ S T set w L) (hw : w < 200) {x : Nat} (hx : x < 12) : ∀ b, b ≤ 6 → ((plF T x set b).2 = 0 ∧ (plF T x set b).1 = -1 ∧ fhF S x b = nI 200 ∧ ∀ fw, cnN S x fw b = 0) ∨ ((plF T x set b).1 = fhF S x b ∧ (plF T x set b).2 = cnN S x (fhF S x b) b ∧ 1 ≤ (plF T x set b).2 ∧ (∃ v, v ≤ 199 ∧ fhF S x b = nI v) ∧ ∀ fw, fw < fhF S x b → cnN S x fw b = 0)
  | 0, _ => Or.inl ⟨rfl, rfl, rfl, fun _ => rfl⟩
  | b + 1, hb => by
    have ih := pj_few h hw hx b (by omega)
    have pw := pj_want h (b := b) (x := x) (by omega) hx
    rw [plF_s]
    unfold fhF
    by_cases c : wantP S b x
    · obtain ⟨e, v, hv, ev⟩ := pj_hrs h (by omega) c
      rw [if_pos (pw.mpr c), if_pos c, ← e]
      have own : ∀ fw, cnN S x fw (b + 1) = if S 19 b = fw then cnN S x fw b + 1 else cnN S x fw b := fun fw => by
        rw [cnN_s]
        by_cases d : S 19 b = fw
        · rw [if_pos ⟨c, d⟩, if_pos d]
        · rw [if_neg (fun z => d z.2), if_neg d]
      rcases ih with ⟨h1, h2, h3, h4⟩ | ⟨h1, h2, h3, ⟨v0, b0, e0⟩, h5⟩
      · have lt : S 19 b < fhF S x b := by rw [ev, h3]; exact (nI_ltI (by omega) (by omega)).mpr (by omega)
        rw [if_pos h2, if_pos lt]
        refine Or.inr ⟨rfl, ?_, Nat.le_refl 1, ⟨v, by omega, ev⟩, fun fw hf => ?_⟩
        · rw [own, if_pos rfl, h4]
        · rw [own, if_neg (fun z => by rw [z] at hf; exact Int32.lt_irrefl hf), h4]
      · have nm : ¬ (plF T x set b).1 = -1 := by rw [h1, e0]; exact fun z => (k_m1 (by omega)).mp z
        rw [if_neg nm, h1]
        by_cases lt : S 19 b < fhF S x b
        · rw [if_pos lt, if_pos lt]
          refine Or.inr ⟨rfl, ?_, Nat.le_refl 1, ⟨v, by omega, ev⟩, fun fw hf => ?_⟩
          · rw [own, if_pos rfl, h5 _ lt]
          · rw [own, if_neg (fun z => by rw [z] at hf; exact Int32.lt_irrefl hf), h5 _ (Int32.lt_trans hf lt)]
        · rw [if_neg lt, if_neg lt]
          by_cases q : S 19 b = fhF S x b
          · rw [if_pos q]
            refine Or.inr ⟨rfl, ?_, by dsimp only; omega, ⟨v0, b0, e0⟩, fun fw hf => ?_⟩
            · rw [own, if_pos q]
              dsimp only
              rw [h2]
            · rw [own, if_neg (fun z => by rw [← z, q] at hf; exact Int32.lt_irrefl hf), h5 _ hf]
          · rw [if_neg q]
            refine Or.inr ⟨h1, ?_, h3, ⟨v0, b0, e0⟩, fun fw hf => ?_⟩
            · rw [own, if_neg q]
              exact h2
            · rw [own, if_neg (fun z => lt (by rw [z]; exact hf)), h5 _ hf]
    · rw [if_neg (fun z => c (pw.mp z)), if_neg c]
      have own : ∀ fw, cnN S x fw (b + 1) = cnN S x fw b := fun fw => by rw [cnN_s, if_neg (fun z => c z.1)]
      rcases ih with ⟨h1, h2, h3, h4⟩ | ⟨h1, h2, h3, h4, h5⟩
      · exact Or.inl ⟨h1, h2, h3, fun fw => (own fw).trans (h4 fw)⟩
      · exact Or.inr ⟨h1, by rw [own]; exact h2, h3, h4, fun fw hf => (own fw).trans (h5 fw hf)⟩
/-- the one whom a number tells -/
theorem pj_pick (h : PJ S T set w L) {x : Nat} (hx : x < 12) (fw : Int32) {k : Nat} (hk : k < 6) : ∀ b, b ≤ 6 → (p2F T x set fw (nI k) b).1 = (if k < cnN S x fw b then (tdF S x fw b).2 23 k else -1) ∧ (p2F T x set fw (nI k) b).2 = nI k - nI (cnN S x fw b)
  | 0, _ => ⟨rfl, (Int32.sub_zero _).symm⟩
  | b + 1, hb => by
    obtain ⟨h1, h2⟩ := pj_pick h hx fw hk b (by omega)
    have pw := pj_want h (b := b) (x := x) (by omega) hx
    have le := cnN_le (S := S) (x := x) (fw := fw) b
    rw [p2F_s, cnN_s]
    by_cases c : wantP S b x
    · obtain ⟨e, -⟩ := pj_hrs h (by omega) c
      rw [if_pos (pw.mpr c), ← e]
      by_cases d : S 19 b = fw
      · rw [if_pos d, if_pos (show wantP S b x ∧ S 19 b = fw from ⟨c, d⟩), td_t ⟨c, d⟩]
        have z : (p2F T x set fw (nI k) b).2 = 0 ↔ k = cnN S x fw b := by
          rw [h2, Int32.sub_eq_iff_eq_add, Int32.zero_add]
          exact nI_eq (by omega) (by omega)
        refine ⟨?_, ?_⟩
        · dsimp only
          by_cases q : k = cnN S x fw b
          · rw [if_pos (z.mpr q), if_pos (by omega), td_1, q]
            exact (up_si _ _ _ _).symm
          · rw [if_neg (fun t => q (z.mp t)), h1, up_sn (by rw [td_1]; exact q)]
            by_cases t : k < cnN S x fw b
            · rw [if_pos t, if_pos (by omega)]
            · rw [if_neg t, if_neg (by omega)]
        · dsimp only
          rw [h2, k_dec, Int32.sub_sub, nI_add]
      · have nd : ¬ (wantP S b x ∧ S 19 b = fw) := fun t => d t.2
        rw [if_neg d, if_neg nd, td_f nd]
        exact ⟨h1, h2⟩
    · have nd : ¬ (wantP S b x ∧ S 19 b = fw) := fun t => c t.1
      rw [if_neg (fun z => c (pw.mp z)), if_neg nd, td_f nd]
      exact ⟨h1, h2⟩
theorem p2F_congr {T T' : Nat → Nat → Int32} (h29 : T' 29 = T 29) (h30 : T' 30 = T 30) (x : Nat) (set fw r : Int32) : ∀ b, p2F T' x set fw r b = p2F T x set fw r b
  | 0 => rfl
  | b + 1 => by
    have m : mpP T' b x set ↔ mpP T b x set := by
      unfold mpP
      rw [h29]
    rw [p2F_s, p2F_s, p2F_congr h29 h30 x set fw r b, h30]
    by_cases c : mpP T b x set
    · rw [if_pos c, if_pos (m.mpr c)]
    · rw [if_neg c, if_neg (fun z => c (m.mp z))]
/-- a lot is used up, on both sides -/
theorem lt_rows {S T : Nat → Nat → Int32} (h : T 32 = S 25) (hS : S 0 2 = nI L) (hT : T 0 31 = nI L) (hL : L ≤ 50) : ltN S = L ∧ mlN T = L ∧ mtV T L = ltV S L ∧ mtM T L 32 = ltM S L 25 ∧ ltM S L 0 2 = nI (L - 1) ∧ mtM T L 0 31 = nI (L - 1) := by
  refine ⟨by unfold ltN; rw [hS, nI_clamp (by omega)], by unfold mlN; rw [hT, nI_clamp (by omega)], ?_, ?_, ?_, ?_⟩
  · unfold mtV ltV
    rw [h]
  · unfold mtM ltM
    by_cases c : L = 0
    · rw [if_pos c, if_pos c, h]
    · rw [if_neg c, if_neg c, rw1_s]
      funext i
      rw [mtK_v, up_n (by decide), h]
      by_cases d : i < L - 1
      · rw [if_pos d, pk_cpy_in (by omega) (by omega), show 1 + (i - 0) = i + 1 from by omega]
      · rw [if_neg d, pk_cpy_out (Or.inr (by omega))]
  · unfold ltM
    by_cases c : L = 0
    · rw [if_pos c, hS, c]
    · rw [if_neg c, rw1_n (by decide)]
      exact up_si _ _ _ _
  · unfold mtM
    by_cases c : L = 0
    · rw [if_pos c, hT, c]
    · rw [if_neg c, mtK_n (by decide)]
      exact up_si _ _ _ _
theorem ltM_n {S : Nat → Nat → Int32} {L k : Nat} (h0 : k ≠ 0) (h25 : k ≠ 25) : ltM S L k = S k := by
  unfold ltM
  by_cases c : L = 0
  · rw [if_pos c]
  · rw [if_neg c, rw1_n h25, up_n h0]
theorem mtM_n {S : Nat → Nat → Int32} {L k : Nat} (h0 : k ≠ 0) (h32 : k ≠ 32) : mtM S L k = S k := by
  unfold mtM
  by_cases c : L = 0
  · rw [if_pos c]
  · rw [if_neg c, mtK_n h32, up_n h0]
theorem bd_lt {f : Nat → Int32} {m : Nat} (h : bd f m) (S : Nat → Nat → Int32) (L : Nat) (e : S 25 = f) : bd (ltM S L 25) m := by
  unfold ltM
  by_cases c : L = 0
  · rw [if_pos c, e]
    exact h
  · rw [if_neg c, rw1_s, e]
    intro i
    unfold va_cpy
    split
    · exact h _
    · exact h _
theorem ch_n0 {t : Nat × (Nat → Nat → Int32)} (h : t.1 = 0) : chV t = -1 ∧ chM t = t.2 := by
  unfold chV chM
  rw [if_pos h, if_pos h]
  exact ⟨rfl, rfl⟩
theorem ch_n1 {t : Nat × (Nat → Nat → Int32)} (h : t.1 = 1) : chV t = t.2 23 0 ∧ chM t = t.2 := by
  have h0 : ¬ t.1 = 0 := by omega
  unfold chV chM
  rw [if_neg h0, if_pos h, if_neg h0, if_pos h]
  exact ⟨rfl, rfl⟩
theorem ch_n2 {t : Nat × (Nat → Nat → Int32)} (h : 2 ≤ t.1) : chV t = ltM t.2 (ltN t.2) 23 ((ltV t.2 (ltN t.2)).toNatClampNeg % t.1) ∧ chM t = ltM t.2 (ltN t.2) := by
  have h0 : ¬ t.1 = 0 := by omega
  have h1 : ¬ t.1 = 1 := by omega
  unfold chV chM
  rw [if_neg h0, if_neg h1, if_neg h0, if_neg h1]
  exact ⟨rfl, rfl⟩
theorem pl_n1 {x : Nat} {m : Nat} {f : Int32} (e : plF T x set 6 = (f, m)) (h : m ≤ 1) : plV T x set = (p2F T x set f (nI 0) 6).1 ∧ plM T x set = T := by
  unfold plV plM
  rw [e, if_pos h, if_pos h]
  exact ⟨rfl, rfl⟩
theorem pl_n2 {x : Nat} {m : Nat} {f : Int32} (e : plF T x set 6 = (f, m)) (h : ¬ m ≤ 1) : plV T x set = (p2F (mtM T (mlN T)) x set f (nI ((mtV T (mlN T)).toNatClampNeg % m)) 6).1 ∧ plM T x set = mtM T (mlN T) := by
  unfold plV plM
  rw [e, if_neg h, if_neg h]
  exact ⟨rfl, rfl⟩
theorem pj_td (h : PJ S T set w L) (x : Nat) (fw : Int32) (b : Nat) : PJ (tdF S x fw b).2 T set w L := by
  obtain ⟨g1, g2, ⟨gS, gT, gL⟩, g4, g5, g6, g7⟩ := h
  have tn : ∀ k, k ≠ 23 → (tdF S x fw b).2 k = S k := fun k hk => tdF_n hk b
  generalize (tdF S x fw b).2 = S' at tn
  refine ⟨fun p hp => ?_, fun b x hb hx => ?_, ⟨?_, gT, gL⟩, fun b hb => ?_, fun b hb => ?_, fun b hb => ?_, ?_⟩
  · rw [tn p.2 ((show ∀ p ∈ rmap, p.2 ≠ 23 by decide) p hp)]
    exact g1 p hp
  · rw [tn 21 (by decide)]
    exact g2 b x hb hx
  · rw [tn 0 (by decide)]
    exact gS
  · rw [tn 22 (by decide)]
    exact g4 b hb
  · rw [tn 22 (by decide), tn 19 (by decide)]
    exact g5 b hb
  · rw [tn 19 (by decide)]
    exact g6 b hb
  · rw [tn 25 (by decide)]
    exact g7
theorem pj_lt (h : PJ S T set w L) : PJ (ltM S L) (mtM T L) set w (L - 1) := by
  obtain ⟨s1, s2, ⟨gS, gT, gL⟩, s4, s5, s6, s7⟩ := h
  obtain ⟨l1, l2, l3, l4, l5, l6⟩ := lt_rows (s1.at 32 25 (by decide)) gS gT gL
  have ns : ∀ k, k ≠ 0 → k ≠ 25 → ltM S L k = S k := fun k a b => ltM_n a b
  have nt : ∀ k, k ≠ 0 → k ≠ 32 → mtM T L k = T k := fun k a b => mtM_n a b
  have b25 : bd (ltM S L 25) 1000 := bd_lt s7 _ _ rfl
  generalize ltM S L = S' at *
  generalize mtM T L = T' at *
  refine ⟨fun p hp => ?_, fun b x hb hx => ?_, ⟨l5, l6, by omega⟩, fun b hb => ?_, fun b hb => ?_, fun b hb => ?_, b25⟩
  · rcases (show ∀ p ∈ rmap, p = (32, 25) ∨ (p.1 ≠ 0 ∧ p.1 ≠ 32 ∧ p.2 ≠ 0 ∧ p.2 ≠ 25) by decide) p hp with c | ⟨a1, a2, a3, a4⟩
    · rw [c]
      exact l4
    · rw [ns p.2 a3 a4, nt p.1 a1 a2]
      exact s1 p hp
  · rw [ns 21 (by decide) (by decide), nt 29 (by decide) (by decide)]
    exact s2 b x hb hx
  · rw [ns 22 (by decide) (by decide)]
    exact s4 b hb
  · rw [ns 22 (by decide) (by decide), ns 19 (by decide) (by decide), nt 30 (by decide) (by decide)]
    exact s5 b hb
  · rw [ns 19 (by decide) (by decide)]
    exact s6 b hb
theorem chT_e {x : Nat} : chT S x = tdF S x (fhF S x 6) 6 := rfl
/-- the same busker gets the place; as many lots are left -/
theorem pj_choose (h : PJ S T set w L) (hw : w < 200) {x : Nat} (hx : x < 12) : plV T x set = chV (chT S x) ∧ (chV (chT S x) = -1 ∨ ∃ k, k < 6 ∧ chV (chT S x) = nI k ∧ wantP S k x) ∧ ∃ L', PJ (chM (chT S x)) (plM T x set) set w L' := by
  have few := pj_few h hw hx 6 (Nat.le_refl 6)
  have le6 := plF_le (S := T) (x := x) (set := set) 6
  rw [chT_e]
  generalize fhF S x 6 = F at few
  obtain ⟨f, m, em⟩ : ∃ f m, plF T x set 6 = (f, m) := ⟨_, _, rfl⟩
  rw [em] at few le6
  dsimp only at few le6
  have t1 : (tdF S x F 6).1 = cnN S x F 6 := td_1 6
  have tw := td_w (S := S) (x := x) (fw := F) 6
  have pick0 := fun fw => pj_pick h hx fw (k := 0) (by decide) 6 (Nat.le_refl 6)
  have stay := pj_td h x F 6
  have n25 : (tdF S x F 6).2 25 = S 25 := tdF_n (by decide) 6
  have n0 : (tdF S x F 6).2 0 = S 0 := tdF_n (by decide) 6
  rcases few with ⟨h1, h2, h3, h4⟩ | ⟨h1, h2, h3, h4, h5⟩
  · obtain ⟨eV, eM⟩ := ch_n0 (t1.trans (h4 F))
    obtain ⟨pV, pM⟩ := pl_n1 em (by omega)
    rw [eV, eM, pV, pM]
    have := (pick0 f).1
    rw [h4 f, if_neg (Nat.lt_irrefl 0)] at this
    exact ⟨this, Or.inl rfl, L, stay⟩
  · subst h1
    have p0 := pick0 f
    generalize ec : cnN S x f 6 = cn at *
    by_cases m1 : m ≤ 1
    · obtain ⟨eV, eM⟩ := ch_n1 (t := tdF S x f 6) (by rw [t1]; omega)
      obtain ⟨pV, pM⟩ := pl_n1 em m1
      rw [eV, eM, pV, pM]
      have lt : 0 < cn := by omega
      obtain ⟨k, k1, k2, k3⟩ := tw 0 lt
      have := p0.1
      rw [if_pos lt] at this
      exact ⟨this, Or.inr ⟨k, k1, k2, k3⟩, L, stay⟩
    · obtain ⟨eV, eM⟩ := ch_n2 (t := tdF S x f 6) (by rw [t1]; omega)
      obtain ⟨pV, pM⟩ := pl_n2 em m1
      obtain ⟨l1, l2, l3, l4, l5, l6⟩ := lt_rows (S := (tdF S x f 6).2) (T := T) (L := L) (by rw [n25]; exact h.1.at 32 25 (by decide)) (by rw [n0]; exact h.2.2.1.1) h.2.2.1.2.1 h.2.2.1.2.2
      rw [l1, t1] at eV
      rw [l1] at eM
      rw [l2] at pV pM
      rw [l3] at pV
      rw [ltM_n (by decide) (by decide)] at eV
      rw [eV, eM, pV, pM]
      have md : (ltV (tdF S x f 6).2 L).toNatClampNeg % m < m := Nat.mod_lt _ (by omega)
      rw [← h2]
      generalize (ltV (tdF S x f 6).2 L).toNatClampNeg % m = r at md
      have lt : r < cn := by omega
      obtain ⟨k, k1, k2, k3⟩ := tw r lt
      have := (pj_pick h hx f (k := r) (by omega) 6 (Nat.le_refl 6)).1
      rw [ec, if_pos lt] at this
      rw [p2F_congr (mtM_n (by decide) (by decide)) (mtM_n (by decide) (by decide))]
      exact ⟨this, Or.inr ⟨k, k1, k2, k3⟩, L - 1, pj_lt stay⟩
theorem tpS_n {x y : Nat} (c : chV (chT S x) < 0) : tpS S y x = up (chM (chT S x)) 24 (y * 12 + x) (chV (chT S x)) := by
  unfold tpS
  rw [if_pos c]
theorem tpS_p {x y k : Nat} (c : chV (chT S x) = nI k) (hk : k < 6) : tpS S y x = up (up (up (chM (chT S x)) 24 (y * 12 + x) (nI k)) 22 k (nI 1)) 19 k (chM (chT S x) 19 k + nI 1) := by
  have n0 : ¬ nI k < 0 := nI_pos (by omega)
  have n6 : nI k < nI 6 := (nI_ltI (by omega) (by decide)).mpr hk
  unfold tpS
  rw [c, if_neg n0, if_pos n6, nI_clamp (by omega)]
theorem ppS_m {x y : Nat} (c : plV T x set = -1) : ppS (set, T) y x = (set, up (plM T x set) 9 (y * 12 + x) (plV T x set)) := by
  unfold ppS
  dsimp only
  rw [if_pos c]
theorem ppS_k {x y k : Nat} (c : plV T x set = nI k) (hk : k < 6) : ppS (set, T) y x = (set ||| nI 1 <<< (nI k &&& 31), up (up (plM T x set) 9 (y * 12 + x) (nI k)) 27 k (plM T x set 27 k + nI 1)) := by
  have nm : ¬ nI k = -1 := fun z => (k_m1 (by omega)).mp z
  unfold ppS
  dsimp only
  rw [c, if_neg nm, nI_clamp (by omega)]
theorem chM_22 {t : Nat × (Nat → Nat → Int32)} : chM t 22 = t.2 22 := by
  unfold chM
  split
  · rfl
  · split
    · rfl
    · exact ltM_n (by decide) (by decide)
theorem ch_22 {x : Nat} : chM (chT S x) 22 = S 22 := by
  rw [chM_22, chT_e, tdF_n (by decide)]
/-- one section's place -/
theorem pj_step (h : PJ S T set w L) (hw : w < 200) {x y : Nat} (hx : x < 12) : ∃ L', PJ (tpS S y x) (ppS (set, T) y x).2 (ppS (set, T) y x).1 w L' := by
  obtain ⟨eV, hV, L', hP⟩ := pj_choose h hw hx
  have e22 := ch_22 (S := S) (x := x)
  refine ⟨L', ?_⟩
  rcases hV with c | ⟨k, hk, c, hwk⟩
  · rw [tpS_n (y := y) (by rw [c]; decide), ppS_m (y := y) (eV.trans c), eV]
    dsimp only
    generalize chM (chT S x) = M at *
    generalize plM T x set = N at *
    generalize chV (chT S x) = v at *
    obtain ⟨g1, g2, ⟨gS, gT, gL⟩, g4, g5, g6, g7⟩ := hP
    refine ⟨g1.both (by decide), fun b x hb hx => ?_, ⟨by rw [up_n (by decide)]; exact gS, by rw [up_n (by decide)]; exact gT, gL⟩, fun b hb => ?_, fun b hb => ?_, fun b hb => ?_, ?_⟩
    · rw [up_n (by decide), up_n (by decide)]
      exact g2 b x hb hx
    · rw [up_n (by decide)]
      exact g4 b hb
    · rw [up_n (by decide), up_n (by decide), up_n (by decide)]
      exact g5 b hb
    · rw [up_n (by decide)]
      exact g6 b hb
    · rw [up_n (by decide)]
      exact g7
  · rw [tpS_p (y := y) c hk, ppS_k (y := y) (eV.trans c) hk]
    dsimp only
    have e27 : plM T x set 27 = chM (chT S x) 19 := hP.1.at 27 19 (by decide)
    rw [e27]
    have h22 : S 22 k = 0 := hwk.2
    rw [← e22] at h22
    clear e22 e27 hwk eV c
    generalize chM (chT S x) = M at *
    generalize plM T x set = N at *
    obtain ⟨g1, g2, ⟨gS, gT, gL⟩, g4, g5, g6, g7⟩ := hP
    obtain ⟨-, v, hv, ev⟩ := g5 k hk h22
    have r22 : up (up (up M 24 (y * 12 + x) (nI k)) 22 k (nI 1)) 19 k (M 19 k + nI 1) 22 = upd (M 22) k (nI 1) := (up_n (by decide)).trans ((up_s _ _ _ _).trans (by rw [up_n (by decide)]))
    have r19 : up (up (up M 24 (y * 12 + x) (nI k)) 22 k (nI 1)) 19 k (M 19 k + nI 1) 19 = upd (M 19) k (M 19 k + nI 1) := (up_s _ _ _ _).trans (by rw [up_n (by decide), up_n (by decide)])
    have ro : ∀ j, j ≠ 19 → j ≠ 22 → j ≠ 24 → up (up (up M 24 (y * 12 + x) (nI k)) 22 k (nI 1)) 19 k (M 19 k + nI 1) j = M j := fun j a b c => (up_n a).trans ((up_n b).trans (up_n c))
    have to : ∀ j, j ≠ 9 → j ≠ 27 → up (up N 9 (y * 12 + x) (nI k)) 27 k (M 19 k + nI 1) j = N j := fun j a b => (up_n b).trans (up_n a)
    have rr : RR (up (up (up M 24 (y * 12 + x) (nI k)) 22 k (nI 1)) 19 k (M 19 k + nI 1)) (up (up N 9 (y * 12 + x) (nI k)) 27 k (M 19 k + nI 1)) := ((g1.both (by decide)).left (by decide)).both (by decide)
    generalize up (up (up M 24 (y * 12 + x) (nI k)) 22 k (nI 1)) 19 k (M 19 k + nI 1) = M' at *
    generalize up (up N 9 (y * 12 + x) (nI k)) 27 k (M 19 k + nI 1) = N' at *
    refine ⟨rr, fun b x hb hx => ?_, ⟨by rw [ro 0 (by decide) (by decide) (by decide)]; exact gS, by rw [to 0 (by decide) (by decide)]; exact gT, gL⟩, fun b hb => ?_, fun b hb => ?_, fun b hb => ?_, ?_⟩
    · rw [ro 21 (by decide) (by decide) (by decide), to 29 (by decide) (by decide)]
      exact g2 b x hb hx
    · rw [q_set _ (by omega) (by omega), r22]
      by_cases q : b = k
      · subst q
        rw [if_pos rfl, pk_us, if_neg (by decide)]
      · rw [if_neg q, pk_un q]
        exact g4 b hb
    · rw [r22, r19, to 30 (by decide) (by decide)]
      by_cases q : b = k
      · subst q
        rw [pk_us]
        exact fun z => absurd z (by decide)
      · rw [pk_un q, pk_un q]
        exact g5 b hb
    · rw [r19]
      by_cases q : b = k
      · subst q
        rw [pk_us, ev, nI_add]
        exact ⟨v + 1, by omega, rfl⟩
      · rw [pk_un q]
        exact g6 b hb
    · rw [ro 25 (by decide) (by decide) (by decide)]
      exact g7
end PJ
theorem pj_all {S T : Nat → Nat → Int32} {w L y : Nat} (h : PJ S T (nI 0) w L) (hw : w < 200) : ∀ x, x ≤ 12 → ∃ L', PJ (tpF S y x) (ppF T y x).2 (ppF T y x).1 w L'
  | 0, _ => ⟨L, h⟩
  | x + 1, hx => by
    obtain ⟨L', ih⟩ := pj_all h hw x (by omega)
    exact pj_step ih hw (by omega)
theorem pcF_v {T : Nat → Nat → Int32} : ∀ m j, pcF T m 30 j = if j < m then T 27 j else T 30 j
  | 0, j => by rw [if_neg (by omega)]; rfl
  | m + 1, j => by
    show up (pcF T m) 30 m (pcF T m 27 m) 30 j = _
    by_cases c : j = m
    · subst c
      rw [up_si, if_pos (by omega), pcF_n (by decide)]
    · rw [up_sn c, pcF_v m j]
      by_cases d : j < m
      · rw [if_pos d, if_pos (by omega)]
      · rw [if_neg d, if_neg (by omega)]
theorem paF_v {T : Nat → Nat → Int32} : ∀ m j, j < m → paF T m 29 j = nI 0
  | 0, j, h => absurd h (Nat.not_lt_zero j)
  | m + 1, j, h => by
    show up (paF T m) 29 m (nI 0) 29 j = _
    by_cases c : j = m
    · subst c
      exact up_si _ _ _ _
    · rw [up_sn c]
      exact paF_v m j (by omega)
theorem eaI_v {S : Nat → Nat → Int32} {b : Nat} : ∀ x j, (j < x → eaI S b x 21 (b * 12 + j) = nI 0) ∧ ∀ p, (∀ j, j < x → p ≠ b * 12 + j) → eaI S b x 21 p = S 21 p
  | 0, j => ⟨fun h => absurd h (Nat.not_lt_zero j), fun _ _ => rfl⟩
  | x + 1, j => by
    refine ⟨fun h => ?_, fun p hp => ?_⟩
    · show up (eaI S b x) 21 (b * 12 + x) (nI 0) 21 (b * 12 + j) = _
      by_cases c : j = x
      · subst c
        exact up_si _ _ _ _
      · rw [up_sn (by omega)]
        exact (eaI_v x j).1 (by omega)
    · show up (eaI S b x) 21 (b * 12 + x) (nI 0) 21 p = _
      rw [up_sn (hp x (by omega))]
      exact (eaI_v x j).2 p (fun j hj => hp j (by omega))
theorem eaF_v {S : Nat → Nat → Int32} : ∀ m b, b < m → eaF S m 22 b = nI 0 ∧ ∀ x, x < 12 → eaF S m 21 (b * 12 + x) = nI 0
  | 0, b, h => absurd h (Nat.not_lt_zero b)
  | m + 1, b, h => by
    have e22 : eaF S (m + 1) 22 = upd (eaF S m 22) m (nI 0) := (eaI_n (by decide) 12).trans (up_s _ _ _ _)
    have e21 : eaF S (m + 1) 21 = eaI (up (eaF S m) 22 m (nI 0)) m 12 21 := rfl
    by_cases c : b = m
    · subst c
      refine ⟨by rw [e22, pk_us], fun x hx => ?_⟩
      rw [e21]
      exact (eaI_v 12 x).1 hx
    · have ih := eaF_v (S := S) m b (by omega)
      refine ⟨by rw [e22, pk_un c]; exact ih.1, fun x hx => ?_⟩
      rw [e21, (eaI_v (S := up (eaF S m) 22 m (nI 0)) (b := m) 12 x).2 (b * 12 + x) (fun j hj => by omega), up_n (by decide)]
      exact ih.2 x hx
/-- nobody plays as an hour begins; hours played are at most those that have ended -/
def Rx (S : Nat → Nat → Int32) (w : Nat) : Prop := (∀ b, b < 6 → S 22 b = 0) ∧ ∀ b, b < 6 → ∃ v, v ≤ w ∧ S 19 b = nI v
/-- the places of an hour, on both sides -/
theorem pj_hour {S T : Nat → Nat → Int32} {n w nl L : Nat} (h : Rel S T n w nl L) (rx : Rx S w) (hw : w < 200) : ∃ L', RR (eaF (tpF S w 12) 6) (placesM T w) ∧ RQ (eaF (tpF S w 12) 6) (placesM T w) ∧ (eaF (tpF S w 12) 6 0 2 = nI L' ∧ placesM T w 0 31 = nI L' ∧ L' ≤ 50) ∧ Rx (eaF (tpF S w 12) 6) (w + 1) ∧ bd (eaF (tpF S w 12) 6 25) 1000 := by
  have h30 : ∀ p ∈ rmap, p.1 ≠ 30 := by decide
  have st : PJ S (pcF T 6) (nI 0) w L := by
    refine ⟨fun p hp => by rw [pcF_n (h30 p hp)]; exact h.1 p hp, fun b x hb hx => by rw [pcF_n (by decide)]; exact h.2.2.1.2.2.2.2.2.2.2 b x hb hx, ⟨h.2.1.2.2.2.1, by rw [pcF_n (by decide)]; exact h.2.1.2.2.2.2.1, h.2.1.2.2.2.2.2⟩, fun b hb => by rw [bit0 b (by omega), if_pos (rx.1 b hb)], fun b hb _ => ⟨by rw [pcF_v, if_pos hb, h.1.at 27 19 (by decide)], rx.2 b hb⟩, fun b hb => ?_, h.2.2.2.2.2.2.2⟩
    obtain ⟨v, h1, h2⟩ := rx.2 b hb
    exact ⟨v, by omega, h2⟩
  obtain ⟨L', g1, g2, ⟨gS, gT, gL⟩, g4, g5, g6, g7⟩ := pj_all (y := w) st hw 12 (Nat.le_refl 12)
  have eS : ∀ k, k ≠ 21 → k ≠ 22 → eaF (tpF S w 12) 6 k = tpF S w 12 k := fun k a b => eaF_n a b 6
  have eT : ∀ k, k ≠ 29 → placesM T w k = (ppF (pcF T 6) w 12).2 k := fun k a => paF_n a 6
  have ev := fun b (hb : b < 6) => eaF_v (S := tpF S w 12) 6 b hb
  refine ⟨L', fun p hp => ?_, fun b x hb hx => ?_, ⟨by rw [eS 0 (by decide) (by decide)]; exact gS, by rw [eT 0 (by decide)]; exact gT, gL⟩, ⟨fun b hb => (ev b hb).1, fun b hb => by rw [eS 19 (by decide) (by decide)]; exact g6 b hb⟩, by rw [eS 25 (by decide) (by decide)]; exact g7⟩
  · obtain ⟨a1, a2, a3⟩ := (show ∀ p ∈ rmap, p.1 ≠ 29 ∧ p.2 ≠ 21 ∧ p.2 ≠ 22 by decide) p hp
    rw [eS p.2 a2 a3, eT p.1 a1]
    exact g1 p hp
  · rw [(ev b hb).2 x hx, show placesM T w 29 b = nI 0 from paF_v 6 b hb, bit0 x hx]
    exact (if_pos rfl).symm
