/-! the law's acts: what they take out of a number, and how they change its rows -/
def zP (z : Int32) : Nat := lowN (z >>> (nI 4 &&& 31)) (if lowN (z >>> (nI 13 &&& 31)) 3 = 0 then 1001 else 200)
def zD (z : Int32) : Nat := lowN z (if lowN (z >>> (nI 9 &&& 31)) 2 = 0 then 36 else 8)
def zH (z : Int32) : Nat := 1 + lowN (z >>> (nI 9 &&& 31)) (if lowN (z >>> (nI 11 &&& 31)) 3 = 0 then 100 else 6)
def zS (z : Int32) : Nat := lowN (z >>> (nI 3 &&& 31)) (if lowN (z >>> (nI 8 &&& 31)) 2 = 0 then 12 else 3)
def zRd (z : Int32) : Nat := lowN (z >>> (nI 8 &&& 31)) (if lowN (z >>> (nI 14 &&& 31)) 2 = 0 then 30001 else 600)
theorem zif_p {P : Prop} [Decidable P] {a b : Nat} (ha : 0 < a) (hb : 0 < b) : 0 < (if P then a else b) := by split <;> assumption
theorem zif_l {P : Prop} [Decidable P] {a b m : Nat} (ha : a < m) (hb : b < m) : (if P then a else b) < m := by split <;> assumption
theorem zP_le (z : Int32) : zP z ≤ 1000 := by
  have h := lowN_lt (v := z >>> (nI 4 &&& 31)) (m := if lowN (z >>> (nI 13 &&& 31)) 3 = 0 then 1001 else 200) (zif_p (by decide) (by decide))
  have h2 : (if lowN (z >>> (nI 13 &&& 31)) 3 = 0 then 1001 else 200) < 1002 := zif_l (by decide) (by decide)
  unfold zP
  omega
theorem zD_lt (z : Int32) : zD z < 36 := by
  have h := lowN_lt (v := z) (m := if lowN (z >>> (nI 9 &&& 31)) 2 = 0 then 36 else 8) (zif_p (by decide) (by decide))
  have h2 : (if lowN (z >>> (nI 9 &&& 31)) 2 = 0 then 36 else 8) < 37 := zif_l (by decide) (by decide)
  unfold zD
  omega
theorem zH_in (z : Int32) : 1 ≤ zH z ∧ zH z ≤ 100 := by
  have h := lowN_lt (v := z >>> (nI 9 &&& 31)) (m := if lowN (z >>> (nI 11 &&& 31)) 3 = 0 then 100 else 6) (zif_p (by decide) (by decide))
  have h2 : (if lowN (z >>> (nI 11 &&& 31)) 3 = 0 then 100 else 6) < 101 := zif_l (by decide) (by decide)
  unfold zH
  omega
theorem zS_lt (z : Int32) : zS z < 12 := by
  have h := lowN_lt (v := z >>> (nI 3 &&& 31)) (m := if lowN (z >>> (nI 8 &&& 31)) 2 = 0 then 12 else 3) (zif_p (by decide) (by decide))
  have h2 : (if lowN (z >>> (nI 8 &&& 31)) 2 = 0 then 12 else 3) < 13 := zif_l (by decide) (by decide)
  unfold zS
  omega
theorem zRd_le (z : Int32) : zRd z ≤ 30000 := by
  have h := lowN_lt (v := z >>> (nI 8 &&& 31)) (m := if lowN (z >>> (nI 14 &&& 31)) 2 = 0 then 30001 else 600) (zif_p (by decide) (by decide))
  have h2 : (if lowN (z >>> (nI 14 &&& 31)) 2 = 0 then 30001 else 600) < 30002 := zif_l (by decide) (by decide)
  unfold zRd
  omega
/-- asking -/
def yAM (S : Nat → Nat → Int32) (b s : Nat) : Nat → Nat → Int32 := up S 9 (18 + b) (S 9 (18 + b) ||| nI 1 <<< (nI s &&& 31))
def yMy (S : Nat → Nat → Int32) (b : Nat) : Nat → Int32
  | 0 => nI 0
  | k + 1 => yMy S b k + yb (S 9 (18 + b)) k
def yLo (S : Nat → Nat → Int32) (L v : Nat) : Nat → Nat → Int32 := up (up S 6 (20 + L) (nI v)) 0 3 (nI (L + 1))
/-- finding -/
def yF1 (S : Nat → Nat → Int32) (n w nl : Nat) : Nat → Nat → Int32 := (yBi S n w (-1) nl).2
def yFM (S : Nat → Nat → Int32) (n w nl s h b : Nat) : Nat → Nat → Int32 := up (up (up (up (yF1 S n w nl) 7 (3 * n) (nI s)) 7 (3 * n + 1) (nI h)) 7 (3 * n + 2) (nI b)) 0 1 (nI (n + 1))
def yTM (S : Nat → Nat → Int32) (n w nl s h v : Nat) : Nat → Nat → Int32 := up (yF1 S n w nl) 4 (h * 12 + s) (nI (v + 1))
theorem yF1_n {S : Nat → Nat → Int32} {n w nl r : Nat} (hr : r ≠ 8) : yF1 S n w nl r = S r := yBi_n hr nl
theorem yF1_8 {S : Nat → Nat → Int32} {n w nl i : Nat} (hi : i % 6 ≠ 5) : yF1 S n w nl 8 i = S 8 i := yBi_8 hi nl
theorem yFM_n {S : Nat → Nat → Int32} {n w nl s h b r : Nat} (h8 : r ≠ 8) (h7 : r ≠ 7) (h0 : r ≠ 0) : yFM S n w nl s h b r = S r := (up_n h0).trans ((up_n h7).trans ((up_n h7).trans ((up_n h7).trans (yF1_n h8))))
theorem yFM_8 {S : Nat → Nat → Int32} {n w nl s h b i : Nat} (hi : i % 6 ≠ 5) : yFM S n w nl s h b 8 i = S 8 i := (congrFun ((up_n (by decide)).trans ((up_n (by decide)).trans ((up_n (by decide)).trans (up_n (by decide))))) i).trans (yF1_8 hi)
theorem yFM_0 {S : Nat → Nat → Int32} {n w nl s h b i : Nat} (hi : i ≠ 1) : yFM S n w nl s h b 0 i = S 0 i := (up_sn hi).trans (congrFun ((up_n (by decide)).trans ((up_n (by decide)).trans ((up_n (by decide)).trans (yF1_n (by decide))))) i)
theorem yFM_01 {S : Nat → Nat → Int32} {n w nl s h b : Nat} : yFM S n w nl s h b 0 1 = nI (n + 1) := up_si _ _ _ _
theorem yFM_7 {S : Nat → Nat → Int32} {n w nl s h b i : Nat} : yFM S n w nl s h b 7 i = if i = 3 * n + 2 then nI b else if i = 3 * n + 1 then nI h else if i = 3 * n then nI s else S 7 i := by
  have e : yFM S n w nl s h b 7 = upd (upd (upd (S 7) (3 * n) (nI s)) (3 * n + 1) (nI h)) (3 * n + 2) (nI b) := by
    unfold yFM
    rw [up_n (k := 0) (j := 7) (by decide), up_s, up_s, up_s, yF1_n (by decide)]
  rw [e]
  by_cases c : i = 3 * n + 2
  · rw [if_pos c, c, pk_us]
  · rw [if_neg c, pk_un c]
    by_cases d : i = 3 * n + 1
    · rw [if_pos d, d, pk_us]
    · rw [if_neg d, pk_un d]
      by_cases f : i = 3 * n
      · rw [if_pos f, f, pk_us]
      · rw [if_neg f, pk_un f]
theorem yFM_T {S : Nat → Nat → Int32} {n w nl s h b : Nat} (hb : b ≤ 60) (k : yT S n) : yT (yFM S n w nl s h b) (n + 1) := fun j hj => by
  rw [yFM_7]
  by_cases c : j = n
  · subst c
    exact ⟨b, hb, by rw [if_pos rfl]⟩
  · rw [if_neg (by omega), if_neg (by omega), if_neg (by omega)]
    exact k j (by omega)
theorem yTM_n {S : Nat → Nat → Int32} {n w nl s h v r : Nat} (h8 : r ≠ 8) (h4 : r ≠ 4) : yTM S n w nl s h v r = S r := (up_n h4).trans (yF1_n h8)
theorem yTM_8 {S : Nat → Nat → Int32} {n w nl s h v i : Nat} (hi : i % 6 ≠ 5) : yTM S n w nl s h v 8 i = S 8 i := (congrFun (up_n (by decide)) i).trans (yF1_8 hi)
theorem bd_upd {f : Nat → Int32} {m i v : Nat} (h : bd f m) (hv : v ≤ m) : bd (upd f i (nI v)) m := fun j => by
  by_cases c : j = i
  · subst c
    exact ⟨v, hv, pk_us⟩
  · rw [pk_un c]
    exact h j
theorem yTM_4 {S : Nat → Nat → Int32} {n w nl s h v : Nat} : yTM S n w nl s h v 4 = upd (S 4) (h * 12 + s) (nI (v + 1)) := by
  unfold yTM
  rw [up_s, yF1_n (by decide)]
/-- a door is free in the law's rows -/
def yCa (S : Nat → Nat → Int32) (d w hs : Nat) : Nat → Int32
  | 0 => nI 1
  | k + 1 => if yCa S d w hs k = 0 then nI 0 else if ix S 8 (6 * k) % 36 = d then (if ix S 8 (6 * k + 4) ≤ w then nI 1 else if ix S 8 (6 * k + 3) < w + hs then nI 0 else nI 1) else nI 1
theorem yCa_s (S : Nat → Nat → Int32) (d w hs k : Nat) : yCa S d w hs (k + 1) = if yCa S d w hs k = 0 then nI 0 else if ix S 8 (6 * k) % 36 = d then (if ix S 8 (6 * k + 4) ≤ w then nI 1 else if ix S 8 (6 * k + 3) < w + hs then nI 0 else nI 1) else nI 1 := rfl
def yLM (S : Nat → Nat → Int32) (w nl d t b r hs : Nat) : Nat → Nat → Int32 := up (up (up (up (up (up S 8 (6 * nl) (nI (d + 36 * t))) 8 (6 * nl + 1) (nI b)) 8 (6 * nl + 2) (nI r)) 8 (6 * nl + 3) (nI w)) 8 (6 * nl + 4) (nI (w + hs))) 0 2 (nI (nl + 1))
def yQM (S : Nat → Nat → Int32) (w k : Nat) : Nat → Nat → Int32 := up (up S 8 (6 * k + 4) (nI w)) 0 4 (S 0 4 ||| nI 1 <<< (nI k &&& 31))
def yQN (S : Nat → Nat → Int32) (k : Nat) : Nat → Nat → Int32 := up (up S 8 (6 * k + 4) (S 8 (6 * k + 4))) 0 4 (S 0 4 ||| nI 0)
