/-! an hour of the law beside the class's: who plays -/
section M6
variable {M Z : Nat → Nat → Int32} {set : Int32} {x L : Nat}
/-- the fewest hours: below all, and somebody's -/
theorem fh_le (hv : ∀ b, b < 6 → ∃ v, v ≤ 199 ∧ M 19 b = nI v) : ∀ m, m ≤ 6 → (∃ v, v ≤ 200 ∧ fhF M x m = nI v) ∧ (∀ b, b < m → wantP M b x → fhF M x m ≤ M 19 b) ∧ (fhF M x m = nI 200 ∨ ∃ b, b < m ∧ wantP M b x ∧ M 19 b = fhF M x m)
  | 0, _ => ⟨⟨200, Nat.le_refl _, rfl⟩, fun b hb => absurd hb (Nat.not_lt_zero _), Or.inl rfl⟩
  | m + 1, hm => by
    obtain ⟨⟨v, v1, v2⟩, h2, h3⟩ := fh_le hv m (by omega)
    obtain ⟨u, u1, u2⟩ := hv m (by omega)
    unfold fhF
    by_cases c : wantP M m x
    · rw [if_pos c]
      by_cases d : M 19 m < fhF M x m
      · rw [if_pos d]
        refine ⟨⟨u, by omega, u2⟩, fun b hb hw => ?_, Or.inr ⟨m, by omega, c, rfl⟩⟩
        by_cases e : b = m
        · subst e
          exact Int32.le_refl _
        · exact Int32.le_trans (Int32.le_of_lt d) (h2 b (by omega) hw)
      · rw [if_neg d]
        refine ⟨⟨v, v1, v2⟩, fun b hb hw => ?_, ?_⟩
        · by_cases e : b = m
          · subst e
            exact Int32.not_lt.mp d
          · exact h2 b (by omega) hw
        · exact h3.imp (fun z => z) (fun ⟨b, b1, b2⟩ => ⟨b, by omega, b2⟩)
    · rw [if_neg c]
      refine ⟨⟨v, v1, v2⟩, fun b hb hw => ?_, h3.imp (fun z => z) (fun ⟨b, b1, b2⟩ => ⟨b, by omega, b2⟩)⟩
      by_cases e : b = m
      · subst e
        exact absurd hw c
      · exact h2 b (by omega) hw
theorem yA_want (hb : ∀ b y, b < 6 → y < 12 → yb (Z 9 (18 + b)) y = if M 21 (b * 12 + y) = 0 then nI 0 else nI 1) (hs : ∀ b, b < 6 → yb set b = if M 22 b = 0 then nI 0 else nI 1) (hx : x < 12) {b : Nat} (hb6 : b < 6) : yA Z x set b ↔ wantP M b x := by
  unfold yA wantP
  rw [hb b x hb6 hx, hs b hb6]
  by_cases c : M 21 (b * 12 + x) = 0
  · rw [if_pos c]
    exact ⟨fun z => absurd z.1 (by decide), fun z => absurd c z.1⟩
  · rw [if_neg c]
    by_cases d : M 22 b = 0
    · rw [if_pos d]
      exact ⟨fun _ => ⟨c, d⟩, fun _ => ⟨rfl, by decide⟩⟩
    · rw [if_neg d]
      exact ⟨fun z => absurd z.2 (by decide), fun z => absurd z.2 d⟩
theorem yLs_iff (hb : ∀ b y, b < 6 → y < 12 → yb (Z 9 (18 + b)) y = if M 21 (b * 12 + y) = 0 then nI 0 else nI 1) (hs : ∀ b, b < 6 → yb set b = if M 22 b = 0 then nI 0 else nI 1) (hh : ∀ b, b < 6 → Z 9 (6 + b) = M 19 b) (hx : x < 12) {b : Nat} (hb6 : b < 6) : ∀ m, m ≤ 6 → (¬ yLs Z x set b m = 0 ↔ ∀ o, o < m → ¬ (wantP M o x ∧ M 19 o < M 19 b))
  | 0, _ => ⟨fun _ o ho => absurd ho (Nat.not_lt_zero _), fun _ => show ¬ nI 1 = 0 by decide⟩
  | m + 1, hm => by
    have ih := yLs_iff hb hs hh hx hb6 m (by omega)
    have n1 : ¬ nI 1 = (0 : Int32) := by decide
    have n0 : nI 0 = (0 : Int32) := rfl
    have ext : ∀ Q : Prop, (¬ (wantP M m x ∧ M 19 m < M 19 b) ↔ Q) → ((∀ o, o < m + 1 → ¬ (wantP M o x ∧ M 19 o < M 19 b)) ↔ (∀ o, o < m → ¬ (wantP M o x ∧ M 19 o < M 19 b)) ∧ Q) := fun Q hQ => by
      rw [← hQ]
      refine ⟨fun h => ⟨fun o ho => h o (by omega), h m (by omega)⟩, fun h o ho => ?_⟩
      by_cases e : o = m
      · subst e
        exact h.2
      · exact h.1 o (by omega)
    rw [yLs_s, hb m x (by omega) hx, hs m (by omega), hh m (by omega), hh b hb6]
    by_cases c0 : yLs Z x set b m = 0
    · rw [if_pos c0]
      have nall : ¬ ∀ o, o < m → ¬ (wantP M o x ∧ M 19 o < M 19 b) := fun z => (ih.mpr z) c0
      exact ⟨fun z => absurd n0 z, fun z => absurd (fun o ho => z o (by omega)) nall⟩
    · rw [if_neg c0]
      have all := ih.mp c0
      by_cases c1 : M 21 (m * 12 + x) = 0
      · rw [if_pos c1, if_pos n0]
        refine ⟨fun _ => (ext True ⟨fun _ => trivial, fun _ z => z.1.1 c1⟩).mpr ⟨all, trivial⟩, fun _ => n1⟩
      · rw [if_neg c1, if_neg n1]
        by_cases c2 : M 22 m = 0
        · rw [if_pos c2, if_neg (show ¬ nI 0 = nI 1 by decide)]
          by_cases c3 : M 19 m < M 19 b
          · rw [if_pos c3]
            exact ⟨fun z => absurd n0 z, fun z => absurd ⟨⟨c1, c2⟩, c3⟩ (z m (by omega))⟩
          · rw [if_neg c3]
            exact ⟨fun _ => (ext True ⟨fun _ => trivial, fun _ z => c3 z.2⟩).mpr ⟨all, trivial⟩, fun _ => n1⟩
        · rw [if_neg c2, if_pos rfl]
          exact ⟨fun _ => (ext True ⟨fun _ => trivial, fun _ z => c2 z.1.2⟩).mpr ⟨all, trivial⟩, fun _ => n1⟩
/-- those who remain -/
theorem rem_iff (hb : ∀ b y, b < 6 → y < 12 → yb (Z 9 (18 + b)) y = if M 21 (b * 12 + y) = 0 then nI 0 else nI 1) (hs : ∀ b, b < 6 → yb set b = if M 22 b = 0 then nI 0 else nI 1) (hh : ∀ b, b < 6 → Z 9 (6 + b) = M 19 b) (hv : ∀ b, b < 6 → ∃ v, v ≤ 199 ∧ M 19 b = nI v) (hx : x < 12) {b : Nat} (hb6 : b < 6) : (yA Z x set b ∧ ¬ yLs Z x set b 6 = 0) ↔ (wantP M b x ∧ M 19 b = fhF M x 6) := by
  rw [yA_want hb hs hx hb6, yLs_iff hb hs hh hx hb6 6 (Nat.le_refl _)]
  obtain ⟨⟨v, v1, v2⟩, f2, f3⟩ := fh_le (x := x) hv 6 (Nat.le_refl _)
  obtain ⟨u, u1, u2⟩ := hv b hb6
  constructor
  · rintro ⟨w, h⟩
    refine ⟨w, ?_⟩
    rcases f3 with z | ⟨o, o1, o2, o3⟩
    · have k := f2 b hb6 w
      rw [z, u2] at k
      have := (nI_leI (by decide) (by omega)).mp k
      omega
    · exact Int32.le_antisymm (by rw [← o3]; exact Int32.not_lt.mp (fun z => h o o1 ⟨o2, z⟩)) (f2 b hb6 w)
  · rintro ⟨w, h⟩
    refine ⟨w, fun o ho z => ?_⟩
    have k := f2 o ho z.1
    rw [← h] at k
    exact absurd z.2 (Int32.not_lt.mpr k)
theorem yb_or0 (a : Int32) (k : Nat) : yb (a ||| nI 0) k = yb a k := by rw [nI_0, Int32.or_zero]
/-- as a set, and how many -/
theorem wh_v (hb : ∀ b y, b < 6 → y < 12 → yb (Z 9 (18 + b)) y = if M 21 (b * 12 + y) = 0 then nI 0 else nI 1) (hs : ∀ b, b < 6 → yb set b = if M 22 b = 0 then nI 0 else nI 1) (hh : ∀ b, b < 6 → Z 9 (6 + b) = M 19 b) (hv : ∀ b, b < 6 → ∃ v, v ≤ 199 ∧ M 19 b = nI v) (hx : x < 12) : ∀ m, m ≤ 6 → (yWh Z x set m).2 = cnN M x (fhF M x 6) m ∧ ∀ k, k < 6 → yb (yWh Z x set m).1 k = if k < m ∧ (wantP M k x ∧ M 19 k = fhF M x 6) then nI 1 else nI 0
  | 0, _ => ⟨rfl, fun k hk => by
    rw [if_neg (fun z => absurd z.1 (Nat.not_lt_zero _))]
    exact bit0 k (by omega)⟩
  | m + 1, hm => by
    obtain ⟨h1, h2⟩ := wh_v hb hs hh hv hx m (by omega)
    have r := rem_iff hb hs hh hv hx (show m < 6 by omega)
    rw [yWh_s, cnN_s]
    by_cases c : wantP M m x ∧ M 19 m = fhF M x 6
    · rw [if_pos (r.mpr c), if_pos c]
      refine ⟨by rw [← h1], fun k hk => ?_⟩
      dsimp only
      rw [yb_set _ (by omega) (by omega)]
      by_cases d : k = m
      · subst d
        rw [if_pos rfl, if_pos ⟨by omega, c⟩]
      · rw [if_neg d, h2 k hk]
        by_cases e : k < m ∧ (wantP M k x ∧ M 19 k = fhF M x 6)
        · rw [if_pos e, if_pos ⟨by omega, e.2⟩]
        · rw [if_neg e, if_neg (fun z => e ⟨by omega, z.2⟩)]
    · rw [if_neg (fun z => c (r.mp z)), if_neg c]
      refine ⟨h1, fun k hk => ?_⟩
      dsimp only
      rw [yb_or0, h2 k hk]
      by_cases e : k < m ∧ (wantP M k x ∧ M 19 k = fhF M x 6)
      · rw [if_pos e, if_pos ⟨by omega, e.2⟩]
      · rw [if_neg e, if_neg (fun z => e ⟨by
          have h9 := z.1
          by_cases d : k = m
          · subst d
            exact absurd z.2 c
          · omega, z.2⟩)]
/-- where one of those who remain stands -/
theorem td_at {fw : Int32} {b : Nat} (hr : wantP M b x ∧ M 19 b = fw) : ∀ m, b < m → (tdF M x fw m).2 23 (cnN M x fw b) = nI b ∧ cnN M x fw b < cnN M x fw m
  | 0, h => absurd h (Nat.not_lt_zero _)
  | m + 1, h => by
    by_cases e : b = m
    · subst e
      rw [td_t hr, cnN_s, if_pos hr]
      dsimp only
      rw [td_1]
      exact ⟨up_si _ _ _ _, by omega⟩
    · obtain ⟨i1, i2⟩ := td_at hr m (by omega)
      rw [cnN_s]
      by_cases c : wantP M m x ∧ M 19 m = fw
      · rw [td_t c, if_pos c]
        dsimp only
        rw [td_1, up_sn (by omega)]
        exact ⟨i1, by omega⟩
      · rw [td_f c, if_neg c]
        exact ⟨i1, i2⟩
/-- the law picks by rising numbers what stands in the class's row -/
theorem pk_e {who fw : Int32} (hw : ∀ k, k < 6 → yb who k = if wantP M k x ∧ M 19 k = fw then nI 1 else nI 0) : ∀ f b, b + f = 6 → ∀ j, cnN M x fw b ≤ j → j < cnN M x fw 6 → ∃ k, k < 6 ∧ yPk who f b (j - cnN M x fw b) = k + 1 ∧ (tdF M x fw 6).2 23 j = nI k
  | 0, b, hb, j, h1, h2 => by
    have e : b = 6 := by omega
    subst e
    omega
  | f + 1, b, hb, j, h1, h2 => by
    have hb6 : b < 6 := by omega
    unfold yPk
    rw [hw b hb6]
    by_cases c : wantP M b x ∧ M 19 b = fw
    · rw [if_pos c, if_pos rfl]
      by_cases d : j - cnN M x fw b = 0
      · rw [if_pos d]
        have a := td_at c 6 hb6
        exact ⟨b, hb6, rfl, by rw [show j = cnN M x fw b from by omega]; exact a.1⟩
      · rw [if_neg d]
        have e : cnN M x fw (b + 1) = cnN M x fw b + 1 := by rw [cnN_s, if_pos c]
        have ih := pk_e hw f (b + 1) (by omega) j (by omega) h2
        rw [e, show j - (cnN M x fw b + 1) = j - cnN M x fw b - 1 from by omega] at ih
        exact ih
    · rw [if_neg c, if_neg (show ¬ nI 0 = nI 1 by decide)]
      have e : cnN M x fw (b + 1) = cnN M x fw b := by rw [cnN_s, if_neg c]
      have ih := pk_e hw f (b + 1) (by omega) j (by omega) h2
      rw [e] at ih
      exact ih
theorem pk_none {who : Int32} (hw : ∀ k, k < 6 → ¬ yb who k = nI 1) : ∀ f b lf, b + f = 6 → yPk who f b lf = 0
  | 0, _, _, _ => rfl
  | f + 1, b, lf, hb => by
    unfold yPk
    rw [if_neg (hw b (by omega))]
    exact pk_none hw f (b + 1) lf (by omega)
theorem cn_0 {fw : Int32} : ∀ m, cnN M x fw m = 0 → ∀ k, k < m → ¬ (wantP M k x ∧ M 19 k = fw)
  | 0, _, k, hk => absurd hk (Nat.not_lt_zero _)
  | m + 1, h, k, hk => by
    rw [cnN_s] at h
    by_cases c : wantP M m x ∧ M 19 m = fw
    · rw [if_pos c] at h
      omega
    · rw [if_neg c] at h
      by_cases e : k = m
      · subst e
        exact c
      · exact cn_0 m h k (by omega)
theorem ySh_v {S : Nat → Nat → Int32} : ∀ j i, ySh S j 6 (20 + i) = if i < j then S 6 (20 + i + 1) else S 6 (20 + i)
  | 0, i => by rw [if_neg (by omega)]; rfl
  | j + 1, i => by
    show up (ySh S j) 6 (20 + j) (ySh S j 6 (20 + j + 1)) 6 (20 + i) = _
    by_cases c : i = j
    · subst c
      rw [up_si, show 20 + i + 1 = 20 + (i + 1) from by omega, ySh_v i (i + 1), if_neg (by omega), if_pos (by omega)]
    · rw [up_sn (by omega), ySh_v j i]
      by_cases d : i < j
      · rw [if_pos d, if_pos (by omega)]
      · rw [if_neg d, if_neg (by omega)]
theorem hj_abs {t : Nat × (Nat → Nat → Int32)} {who : Int32} {m : Nat} {P : Nat → Nat} (hwh : yWh Z x set 6 = (who, m)) (hP : ∀ lf, yPk who 6 0 lf = P lf) (t1 : t.1 = m) (r0 : t.2 0 = M 0) (r25 : t.2 25 = M 25) (none : m = 0 → P 0 = 0) (pick : ∀ j, j < m → ∃ k, k < 6 ∧ P j = k + 1 ∧ t.2 23 j = nI k) (l1 : Z 0 3 = nI L) (l2 : M 0 2 = nI L) (l3 : L ≤ 20) (l4 : ∀ i, i < L → Z 6 (20 + i) = M 25 i) :
    ((yPv Z x set L = 0 ∧ chV t = -1) ∨ ∃ k, k < 6 ∧ yPv Z x set L = k + 1 ∧ chV t = nI k) ∧ ∃ L', yPm Z x set L 0 3 = nI L' ∧ chM t 0 2 = nI L' ∧ L' ≤ 20 ∧ ∀ i, i < L' → yPm Z x set L 6 (20 + i) = chM t 25 i := by
  have eN : ltN t.2 = L := by unfold ltN; rw [r0, l2, nI_clamp (by omega)]
  unfold yPv yPm yLe
  rw [hwh]
  dsimp only
  rw [hP]
  rcases (show m = 0 ∨ m = 1 ∨ 2 ≤ m by omega) with c | c | c
  · obtain ⟨e1, e2⟩ := ch_n0 (t1.trans c)
    rw [if_pos (show m ≤ 1 by omega), if_pos (show m ≤ 1 by omega), e1, e2, r0, r25]
    exact ⟨Or.inl ⟨none c, rfl⟩, L, l1, l2, l3, l4⟩
  · obtain ⟨e1, e2⟩ := ch_n1 (t1.trans c)
    rw [if_pos (show m ≤ 1 by omega), if_pos (show m ≤ 1 by omega), e1, e2, r0, r25]
    exact ⟨Or.inr (pick 0 (by omega)), L, l1, l2, l3, l4⟩
  · obtain ⟨e1, e2⟩ := ch_n2 (t := t) (by rw [t1]; exact c)
    rw [if_neg (show ¬ m ≤ 1 by omega), if_neg (show ¬ m ≤ 1 by omega), e1, e2, eN, t1, ltM_n (by decide) (by decide)]
    by_cases z : L = 0
    · rw [if_pos z, if_pos z]
      have e0 : (ltV t.2 L).toNatClampNeg = 0 := by unfold ltV; rw [if_pos z]; rfl
      have em : ltM t.2 L = t.2 := by unfold ltM; rw [if_pos z]
      rw [e0, Nat.zero_mod, em, r0, r25]
      exact ⟨Or.inr (pick 0 (by omega)), L, l1, l2, l3, l4⟩
    · rw [if_neg z, if_neg z]
      have e0 : (ltV t.2 L).toNatClampNeg = ix Z 6 20 := by
        unfold ltV ix
        rw [if_neg z, r25]
        have := l4 0 (by omega)
        exact congrArg Int32.toNatClampNeg this.symm
      rw [e0]
      refine ⟨Or.inr (pick _ (Nat.mod_lt _ (by omega))), L - 1, ?_, ?_, by omega, fun i hi => ?_⟩
      · rw [ySh_n (by decide)]
        exact up_si _ _ _ _
      · unfold ltM
        rw [if_neg z, rw1_n (by decide)]
        exact up_si _ _ _ _
      · rw [ySh_v, if_pos hi, up_n (by decide)]
        unfold ltM
        rw [if_neg z, rw1_s, pk_cpy_in (by omega) (by omega), r25, show 20 + i + 1 = 20 + (1 + (i - 0)) from by omega]
        exact l4 _ (by omega)
/-- who plays, and the lots behind it -/
theorem hj_choose (hb : ∀ b y, b < 6 → y < 12 → yb (Z 9 (18 + b)) y = if M 21 (b * 12 + y) = 0 then nI 0 else nI 1) (hs : ∀ b, b < 6 → yb set b = if M 22 b = 0 then nI 0 else nI 1) (hh : ∀ b, b < 6 → Z 9 (6 + b) = M 19 b) (hv : ∀ b, b < 6 → ∃ v, v ≤ 199 ∧ M 19 b = nI v) (hx : x < 12) (l1 : Z 0 3 = nI L) (l2 : M 0 2 = nI L) (l3 : L ≤ 20) (l4 : ∀ i, i < L → Z 6 (20 + i) = M 25 i) :
    ((yPv Z x set L = 0 ∧ chV (chT M x) = -1) ∨ ∃ k, k < 6 ∧ yPv Z x set L = k + 1 ∧ chV (chT M x) = nI k) ∧ ∃ L', yPm Z x set L 0 3 = nI L' ∧ chM (chT M x) 0 2 = nI L' ∧ L' ≤ 20 ∧ ∀ i, i < L' → yPm Z x set L 6 (20 + i) = chM (chT M x) 25 i := by
  obtain ⟨w1, w2⟩ := wh_v hb hs hh hv hx 6 (Nat.le_refl _)
  have w3 : ∀ k, k < 6 → yb (yWh Z x set 6).1 k = if wantP M k x ∧ M 19 k = fhF M x 6 then nI 1 else nI 0 := fun k hk => by
    rw [w2 k hk]
    by_cases c : wantP M k x ∧ M 19 k = fhF M x 6
    · rw [if_pos ⟨hk, c⟩, if_pos c]
    · rw [if_neg (fun z => c z.2), if_neg c]
  have c0 := cn_0 (M := M) (x := x) (fw := fhF M x 6) 6
  have pe : ∀ j, j < cnN M x (fhF M x 6) 6 → ∃ k, k < 6 ∧ yPk (yWh Z x set 6).1 6 0 j = k + 1 ∧ (tdF M x (fhF M x 6) 6).2 23 j = nI k := fun j hj => by
    have h9 := pk_e w3 6 0 rfl j (Nat.zero_le _) hj
    rw [show cnN M x (fhF M x 6) 0 = 0 from rfl, Nat.sub_zero] at h9
    exact h9
  have pn : cnN M x (fhF M x 6) 6 = 0 → yPk (yWh Z x set 6).1 6 0 0 = 0 := fun z => pk_none (fun k hk => by
    rw [w3 k hk, if_neg (c0 z k hk)]
    decide) 6 0 0 rfl
  have td1 := td_1 (S := M) (x := x) (fw := fhF M x 6) 6
  have tn0 : (tdF M x (fhF M x 6) 6).2 0 = M 0 := tdF_n (by decide) 6
  have tn25 : (tdF M x (fhF M x 6) 6).2 25 = M 25 := tdF_n (by decide) 6
  have ew : yWh Z x set 6 = ((yWh Z x set 6).1, (yWh Z x set 6).2) := rfl
  rw [w1] at ew
  rw [chT_e]
  clear c0 w1 w2 w3
  generalize tdF M x (fhF M x 6) 6 = t at pe td1 tn0 tn25 ⊢
  generalize cnN M x (fhF M x 6) 6 = m at pe td1 ew pn
  generalize hw : (yWh Z x set 6).1 = who at pe ew pn
  exact hj_abs (P := yPk who 6 0) ew (fun _ => rfl) td1 tn0 tn25 pn pe l1 l2 l3 l4
end M6
