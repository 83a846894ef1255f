/-! leasing, whole; the plain numbers -/
theorem k_lease {S T : Nat → Nat → Int32} {n w nl L : Nat} (h : Rel S T n w nl L) (d t b r h0 : Int32) : ((coLease S w nl d t b r h0).1 = nI 0 → Rel (outS S (coLease S w nl d t b r h0)) (moLease T w nl d t b r h0).2 n w (nl + 1) L) ∧ (¬ (coLease S w nl d t b r h0).1 = nI 0 → Rel (outS S (coLease S w nl d t b r h0)) (moLease T w nl d t b r h0).2 n w nl L) := by
  have no : ∀ {k : Nat}, ¬ nI k = nI 0 → ((flC S k).1 = nI 0 → Rel (outS S (flC S k)) (flM T k).2 n w (nl + 1) L) ∧ (¬ (flC S k).1 = nI 0 → Rel (outS S (flC S k)) (flM T k).2 n w nl L) := fun hk => ⟨fun z => absurd z hk, fun _ => h.fl hk⟩
  unfold coLease moLease
  by_cases c1 : inP d (nI 0) (nI 35)
  · rw [if_pos (ix36.mpr c1), if_pos c1]
    by_cases c2 : inP t (nI 0) (nI 5)
    · rw [if_pos (ix6.mpr c2), if_pos c2]
      by_cases c3 : inP b (nI 0) (nI 50)
      · rw [if_pos c3, if_pos c3]
        by_cases c4 : inP r (nI 0) (nI 50)
        · rw [if_pos c4, if_pos c4]
          by_cases c5 : inP h0 (nI 1) (nI 100)
          · rw [if_pos c5, if_pos c5]
            have hnl := h.2.1.2.2.1.2
            by_cases c6 : nl < 30
            · rw [if_pos c6, if_neg (show ¬ nl = 30 by omega)]
              have hd := dh_fr h.1 nl d t b r (nI w) (nI (w + h0.toNatClampNeg)) nl (Nat.le_refl _)
              by_cases c7 : frF (up T 0 0 (nI 0)) d (nI w) (nI (w + h0.toNatClampNeg)) nl = true
              · rw [if_neg (fun z => hd.mp z c7), if_pos c7, outS_0]
                exact ⟨fun _ => Rel_lease h c1 c5 c6, fun z => absurd rfl z⟩
              · rw [if_pos (hd.mpr c7), if_neg c7]
                exact no (by decide)
            · rw [if_neg c6, if_pos (show nl = 30 by omega)]
              exact no (by decide)
          · rw [if_neg c5, if_neg c5]
            exact no (by decide)
        · rw [if_neg c4, if_neg c4]
          exact no (by decide)
      · rw [if_neg c3, if_neg c3]
        exact no (by decide)
    · rw [if_neg (fun z => c2 (ix6.mp z)), if_neg c2]
      exact no (by decide)
  · rw [if_neg (fun z => c1 (ix36.mp z)), if_neg c1]
    exact no (by decide)
/-- what the contracts ask of the two memories -/
theorem Rel_okC {S T : Nat → Nat → Int32} {n w nl L : Nat} (h : Rel S T n w nl L) : okC S nl := fun y hy => by
  have h3 := h.2.2.1.2.2.1 y hy
  have h6 := h.2.2.1.2.2.2.2.2.1 y hy
  refine ⟨?_, h6.1, h6.2.1⟩
  have h8 := h3.2.1
  unfold secN
  rw [h3.1, nI_clamp (by omega)]
  exact ⟨rfl, by omega⟩
theorem Rel_okL {S T : Nat → Nat → Int32} {n w nl L : Nat} (h : Rel S T n w nl L) : okL S := by
  have hL := h.2.1.2.2.2
  have e : ltN S = L := by unfold ltN; rw [hL.1, nI_clamp (by omega)]
  exact ⟨by rw [e]; exact hL.1, by rw [e]; exact hL.2.2, fun i _ => h.2.2.2.2.2.2.2 i⟩
theorem Rel_okM {S T : Nat → Nat → Int32} {n w nl L : Nat} (h : Rel S T n w nl L) : okM T nl := fun y hy => by
  have h3 := h.2.2.1.2.2.1 y hy
  have h6 := h.2.2.1.2.2.2.2.2.1 y hy
  unfold ix at h3 h6 ⊢
  rw [h.1.at 16 30 (by decide), h.1.at 20 35 (by decide), h.1.at 21 36 (by decide)]
  exact ⟨⟨h3.2.2, h3.2.1⟩, h6.1, h6.2.1⟩
theorem Rel_okML {S T : Nat → Nat → Int32} {n w nl L : Nat} (h : Rel S T n w nl L) : okML T := by
  have hL := h.2.1.2.2.2
  have e : mlN T = L := by unfold mlN; rw [hL.2.1, nI_clamp (by omega)]
  exact ⟨by rw [e]; exact hL.2.1, by rw [e]; exact hL.2.2, fun i _ => by rw [h.1.at 32 25 (by decide)]; exact h.2.2.2.2.2.2.2 i⟩
