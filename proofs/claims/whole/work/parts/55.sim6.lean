/-! leasing keeps the relation; it holds at the start -/
theorem door3 {d : Int32} (h : inP d (nI 0) (nI 35)) : d / nI 3 = nI (d.toNatClampNeg / 3) ∧ d.toNatClampNeg < 36 := by
  obtain ⟨e, b⟩ := inP_nat h (by decide)
  rw [e, pk_div (by omega) (by decide) (by decide), nI_clamp (by omega)]
  exact ⟨rfl, by omega⟩
theorem lnew_own (S : Nat → Nat → Int32) (nl : Nat) (d t b r f e : Int32) : lnew S nl d t b r f e 30 = upd (S 30) nl d ∧ lnew S nl d t b r f e 31 = upd (S 31) nl (d / nI 3) ∧ lnew S nl d t b r f e 32 = upd (S 32) nl t ∧ lnew S nl d t b r f e 33 = upd (S 33) nl b ∧ lnew S nl d t b r f e 34 = upd (S 34) nl r ∧ lnew S nl d t b r f e 35 = upd (S 35) nl f ∧ lnew S nl d t b r f e 36 = upd (S 36) nl e ∧ lnew S nl d t b r f e 37 = upd (S 37) nl (nI 0) ∧ lnew S nl d t b r f e 38 = upd (S 38) nl (nI 0) := by
  refine ⟨?_, ?_, ?_, ?_, ?_, ?_, ?_, ?_, ?_⟩ <;> (funext j; simp [lnew, up])
theorem upd_same {f : Nat → Int32} {i : Nat} {v : Int32} (h : f i = v) : upd f i v = f := funext fun j => by
  by_cases c : j = i
  · subst c
    rw [pk_us, h]
  · exact pk_un c
theorem leM_own (T : Nat → Nat → Int32) (w nl : Nat) (d t b r h : Int32) : (∀ k, k ≠ 0 → k ≠ 16 → k ≠ 17 → k ≠ 18 → k ≠ 19 → k ≠ 20 → k ≠ 21 → leM T w nl d t b r h k = T k) ∧ leM T w nl d t b r h 16 = upd (T 16) nl d ∧ leM T w nl d t b r h 17 = upd (T 17) nl t ∧ leM T w nl d t b r h 18 = upd (T 18) nl b ∧ leM T w nl d t b r h 19 = upd (T 19) nl r ∧ leM T w nl d t b r h 20 = upd (T 20) nl (nI w) ∧ leM T w nl d t b r h 21 = upd (T 21) nl (nI (w + h.toNatClampNeg)) := by
  refine ⟨fun k a b c d e f g => ?_, ?_, ?_, ?_, ?_, ?_, ?_⟩ <;> (funext j; simp [leM, up, *])
def SI : Nat → Nat → Int32 := S0
/-- the reference's memory at the start -/
def TI : Nat → Nat → Int32 := fun k => if k = 26 then flR zR (nI 10) 6 else zR
theorem zR_bd (m : Nat) : bd zR m := fun _ => ⟨0, Nat.zero_le _, rfl⟩
theorem bit0 : ∀ x : Nat, x < 12 → nI 0 >>> (nI x &&& 31) &&& nI 1 = nI 0 := by decide
theorem Rel_init : Rel SI TI 0 0 0 0 := by
  refine ⟨fun p hp => ?_, ⟨⟨rfl, rfl, by decide⟩, ⟨rfl, rfl, by decide⟩, ⟨rfl, by decide⟩, rfl, rfl, by decide⟩, ⟨fun k hk => absurd hk (Nat.not_lt_zero _), fun i => Or.inr ⟨0, by decide, rfl⟩, fun y hy => absurd hy (Nat.not_lt_zero _), fun a x ha hx => absurd ha (Nat.not_lt_zero _), fun y hy => absurd hy (Nat.not_lt_zero _), fun y hy => absurd hy (Nat.not_lt_zero _), fun i hi => rfl, fun b x hb hx => (bit0 x hx).trans (if_pos rfl).symm⟩, zR_bd _, zR_bd _, zR_bd _, ?_, zR_bd _⟩
  · have key : ∀ p ∈ rmap, (p.1 = 26 ↔ p.2 = 18) := by decide
    show (if p.1 = 26 then flR zR (nI 10) 6 else zR) = (if p.2 = 18 then flR zR (nI 10) 6 else zR)
    by_cases c : p.1 = 26
    · rw [if_pos c, if_pos ((key p hp).mp c)]
    · rw [if_neg c, if_neg (fun z => c ((key p hp).mpr z))]
  · have fl : ∀ k, bd (flR zR (nI 10) k) 50 := fun k => by
      induction k with
      | zero => exact zR_bd _
      | succ k ih => exact ih.upd ⟨10, by decide, rfl⟩
    exact fl 6
