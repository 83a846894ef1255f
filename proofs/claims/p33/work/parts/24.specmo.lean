/-! the reference's public methods: answer and memory -/
abbrev z0 (S : Nat → Nat → Int32) : Nat → Nat → Int32 := up S 0 0 (nI 0)
abbrev flM (S : Nat → Nat → Int32) (k : Nat) : Int32 × (Nat → Nat → Int32) := (nI 0, up (up S 0 0 (nI 0)) 0 0 (nI k))
def moSetPeople (S : Nat → Nat → Int32) (s p sh : Int32) : Int32 × (Nat → Nat → Int32) := if inP s (nI 0) (nI 11) then if inP p (nI 0) (nI 1000) then if inP sh (nI 0) (nI 100) then (S 2 s.toNatClampNeg, up (up (z0 S) 2 s.toNatClampNeg p) 3 s.toNatClampNeg sh) else flM S 2 else flM S 2 else flM S 1
def moSetLamp (S : Nat → Nat → Int32) (s wk b : Int32) : Int32 × (Nat → Nat → Int32) := if inP s (nI 0) (nI 11) then if inP b (nI 0) (nI 60) then (S 5 s.toNatClampNeg, up (up (z0 S) 4 s.toNatClampNeg (if wk = 0 then nI 1 else nI 0)) 5 s.toNatClampNeg b) else flM S 2 else flM S 1
def fdM (S : Nat → Nat → Int32) (n w nl : Nat) (s h b : Int32) : Nat → Nat → Int32 := up (up (up (up (kpM (z0 S) n w nl) 12 n s) 13 n h) 14 n b) 0 11 (nI (n + 1))
def moFind (S : Nat → Nat → Int32) (n w nl : Nat) (s h b : Int32) : Int32 × (Nat → Nat → Int32) := if inP s (nI 0) (nI 11) then if inP h (nI 0) (nI w) then if inP b (nI 0) (nI 60) then if n = 60 then flM S 3 else coF (fdM S n w nl s h b) (n + 1) w nl else flM S 2 else flM S 2 else flM S 1
def moTurnUp (S : Nat → Nat → Int32) (n w nl : Nat) (s h r : Int32) : Int32 × (Nat → Nat → Int32) := if inP s (nI 0) (nI 11) then if inP h (nI 0) (up S 0 0 (nI 0) 0 1 - nI 1) then if inP r (nI 0) (nI 30000) then if S 8 (h.toNatClampNeg * 12 + s.toNatClampNeg) = -1 then coF (up (kpM (z0 S) n w nl) 8 (h.toNatClampNeg * 12 + s.toNatClampNeg) r) n w nl else flM S 3 else flM S 2 else flM S 2 else flM S 1
def leM (S : Nat → Nat → Int32) (w nl : Nat) (d who ls0 by0 hrs : Int32) : Nat → Nat → Int32 := up (up (up (up (up (up (up (z0 S) 16 nl d) 17 nl who) 18 nl ls0) 19 nl by0) 20 nl (nI w)) 21 nl (nI (w + hrs.toNatClampNeg))) 0 15 (nI (nl + 1))
def moLease (S : Nat → Nat → Int32) (w nl : Nat) (d who ls0 by0 hrs : Int32) : Int32 × (Nat → Nat → Int32) := if inP d (nI 0) (nI 35) then if inP who (nI 0) (nI 5) then if inP ls0 (nI 0) (nI 50) then if inP by0 (nI 0) (nI 50) then if inP hrs (nI 1) (nI 100) then if nl = 30 then flM S 3 else if frF (up S 0 0 (nI 0)) d (nI w) (nI (w + hrs.toNatClampNeg)) nl = true then (nI nl, leM S w nl d who ls0 by0 hrs) else flM S 3 else flM S 2 else flM S 2 else flM S 2 else flM S 1 else flM S 1
def moQuit (S : Nat → Nat → Int32) (w : Nat) (y : Int32) : Int32 × (Nat → Nat → Int32) := if inP y (nI 0) (up S 0 0 (nI 0) 0 15 - nI 1) then if S 22 y.toNatClampNeg = 0 then if S 21 y.toNatClampNeg ≤ nI w then flM S 2 else (nI w - S 20 y.toNatClampNeg, up (up (z0 S) 22 y.toNatClampNeg (nI 1)) 21 y.toNatClampNeg (nI w)) else flM S 2 else flM S 1
def pyM (S : Nat → Nat → Int32) (who mo : Int32) : Nat → Nat → Int32 := up (z0 S) 25 who.toNatClampNeg (S 25 who.toNatClampNeg + mo)
def moPay (S : Nat → Nat → Int32) (n w nl : Nat) (who mo : Int32) : Int32 × (Nat → Nat → Int32) := if inP who (nI 0) (nI 5) then if inP mo (nI 1) (nI 100000) then if S 25 who.toNatClampNeg + mo ≤ nI 1000000 then (owF (pyM S who mo) n w (nI who.toNatClampNeg) nl - pyM S who mo 25 who.toNatClampNeg, pyM S who mo) else flM S 3 else flM S 2 else flM S 1
def moSetSkill (S : Nat → Nat → Int32) (b to : Int32) : Int32 × (Nat → Nat → Int32) := if inP b (nI 0) (nI 5) then if inP to (nI 0) (nI 50) then (S 26 b.toNatClampNeg, up (z0 S) 26 b.toNatClampNeg to) else flM S 2 else flM S 1
def acF (S : Nat → Nat → Int32) (b : Nat) : Nat → Int32
  | 0 => nI 0
  | k + 1 => acF S b k + (S 29 b >>> (nI k &&& 31) &&& nI 1)
def akM (S : Nat → Nat → Int32) (b s : Int32) : Nat → Nat → Int32 := up (z0 S) 29 b.toNatClampNeg (S 29 b.toNatClampNeg ||| nI 1 <<< (nI s.toNatClampNeg &&& 31))
def moAsk (S : Nat → Nat → Int32) (b s : Int32) : Int32 × (Nat → Nat → Int32) := if inP b (nI 0) (nI 5) then if inP s (nI 0) (nI 11) then if S 29 b.toNatClampNeg >>> (nI s.toNatClampNeg &&& 31) &&& nI 1 = nI 1 then flM S 2 else (acF (akM S b s) b.toNatClampNeg 12, akM S b s) else flM S 1 else flM S 1
def moLot (S : Nat → Nat → Int32) (L : Nat) (v : Int32) : Int32 × (Nat → Nat → Int32) := if inP v (nI 0) (nI 1000) then if L = 50 then flM S 2 else (nI (L + 1), up (up (z0 S) 32 L v) 0 31 (nI (L + 1))) else flM S 1
def moRow (S : Nat → Nat → Int32) (k : Nat) (s h : Int32) : Int32 × (Nat → Nat → Int32) := if iaP S s h then (S k (h.toNatClampNeg * 12 + s.toNatClampNeg), up S 0 0 (iaV S s h)) else (nI 0, up S 0 0 (iaV S s h))
def moCount (S : Nat → Nat → Int32) (n : Nat) (s h : Int32) : Int32 × (Nat → Nat → Int32) := if iaP S s h then (coM (up S 0 0 (iaV S s h)) n h.toNatClampNeg s.toNatClampNeg, up S 0 0 (iaV S s h)) else (nI 0, up S 0 0 (iaV S s h))
def moThrough (S : Nat → Nat → Int32) (h : Int32) : Int32 × (Nat → Nat → Int32) := if inP h (nI 0) (up S 0 0 (nI 0) 0 1 - nI 1) then (S 10 h.toNatClampNeg, z0 S) else flM S 1
def moTaken (S : Nat → Nat → Int32) (n : Nat) (s h : Int32) : Int32 × (Nat → Nat → Int32) := if inP s (nI 0) (nI 11) then if inP h (nI 0) (nI 199) then (takenF (z0 S 12) (z0 S 13) (z0 S 14) (nI s.toNatClampNeg) (nI h.toNatClampNeg) n, z0 S) else flM S 2 else flM S 1
def ofM (S : Nat → Nat → Int32) (n h x : Nat) : Int32 := coM S n h x - S 6 (h * 12 + x)
def msF (S : Nat → Nat → Int32) (n h : Nat) : Nat → Int32
  | 0 => nI 0
  | x + 1 => msF S n h x + (if ofM S n h x < 0 then -(ofM S n h x) else ofM S n h x)
def moMissed (S : Nat → Nat → Int32) (n : Nat) (h : Int32) : Int32 × (Nat → Nat → Int32) := if inP h (nI 0) (up S 0 0 (nI 0) 0 1 - nI 1) then (msF (z0 S) n h.toNatClampNeg 12, z0 S) else flM S 1
def moIsOf (S : Nat → Nat → Int32) (y h : Int32) : Int32 × (Nat → Nat → Int32) := if inP y (nI 0) (S 0 15 - nI 1) then (bI (¬ h < S 20 y.toNatClampNeg ∧ h < S 21 y.toNatClampNeg), up S 0 0 (nI 0)) else (nI 0, up S 0 0 (nI 1))
def moBilled (S : Nat → Nat → Int32) (n w : Nat) (y : Int32) : Int32 × (Nat → Nat → Int32) := if inP y (nI 0) (up S 0 0 (nI 0) 0 15 - nI 1) then (rnM (z0 S) n w y.toNatClampNeg, z0 S) else flM S 1
def moCorrected (S : Nat → Nat → Int32) (y : Int32) : Int32 × (Nat → Nat → Int32) := if inP y (nI 0) (up S 0 0 (nI 0) 0 15 - nI 1) then (S 23 y.toNatClampNeg, z0 S) else flM S 1
def moOwes (S : Nat → Nat → Int32) (n w nl : Nat) (who : Int32) : Int32 × (Nat → Nat → Int32) := if inP who (nI 0) (nI 5) then (owF (z0 S) n w (nI who.toNatClampNeg) nl - z0 S 25 who.toNatClampNeg, z0 S) else flM S 1
def moBusker (S : Nat → Nat → Int32) (k : Nat) (b : Int32) : Int32 × (Nat → Nat → Int32) := if inP b (nI 0) (nI 5) then (S k b.toNatClampNeg, z0 S) else flM S 1
def psM (S : Nat → Nat → Int32) (w : Nat) : Nat → Int32 × (Nat → Nat → Int32)
  | 0 => (nI 0, z0 S)
  | k + 1 => ((psM S w k).1 + endsV (psM S w k).2 (w + k), endsM (psM S w k).2 (w + k))
def moPass (S : Nat → Nat → Int32) (w : Nat) (hrs : Int32) : Int32 × (Nat → Nat → Int32) := if inP hrs (nI 1) (nI 50) then if w + hrs.toNatClampNeg ≤ 200 then psM S w hrs.toNatClampNeg else flM S 2 else flM S 1
theorem okML_pa {S : Nat → Nat → Int32} {h : Nat} (k : okML S) : okML (placesM S h) := okML_congr (S := (ppF (pcF S 6) h 12).2) (T := placesM S h) (paF_n (by decide) 6) (paF_n (by decide) 6) (okML_ppF k 12)
theorem endsM_n {S : Nat → Nat → Int32} {h k : Nat} (h7 : k ≠ 7) (h6 : k ≠ 6) (h28 : k ≠ 28) (h8 : k ≠ 8) (h0 : k ≠ 0) (h32 : k ≠ 32) (h9 : k ≠ 9) (h27 : k ≠ 27) (h30 : k ≠ 30) (h29 : k ≠ 29) (h10 : k ≠ 10) : endsM S h k = S k := (up_n h0).trans ((up_n h10).trans ((enF_n h7 h6 h28 h8 12).trans (placesM_n h0 h32 h9 h27 h30 h29)))
theorem endsM_n0 {S : Nat → Nat → Int32} {h j : Nat} (h1 : j ≠ 1) (h31 : j ≠ 31) : endsM S h 0 j = S 0 j := (up_sn h1).trans ((congrFun (up_n (by decide)) j).trans ((congrFun (enF_n (by decide) (by decide) (by decide) (by decide) 12) j).trans (placesM_n0 h31)))
theorem endsM_now {S : Nat → Nat → Int32} {h : Nat} : endsM S h 0 1 = nI (h + 1) := up_si _ _ _ _
theorem okML_ends {S : Nat → Nat → Int32} {h : Nat} (k : okML S) : okML (endsM S h) := by
  have k2 := okML_pa (h := h) k
  have e0 : endsM S h 0 31 = placesM S h 0 31 := (up_sn (by decide)).trans ((congrFun (up_n (by decide)) 31).trans (congrFun (enF_n (by decide) (by decide) (by decide) (by decide) 12) 31))
  have e32 : endsM S h 32 = placesM S h 32 := (up_n (by decide)).trans ((up_n (by decide)).trans (enF_n (by decide) (by decide) (by decide) (by decide) 12))
  unfold okML mlN at *
  rw [e0, e32]
  exact k2
theorem psM_ok {S : Nat → Nat → Int32} {w : Nat} (hw : S 0 1 = nI w) (hk : okML S) : ∀ k, (psM S w k).2 0 1 = nI (w + k) ∧ okML (psM S w k).2
  | 0 => ⟨show z0 S 0 1 = nI (w + 0) from (up_sn (k := 0) (i := 0) (j := 1) (by decide)).trans hw, by
    have e0 : z0 S 0 31 = S 0 31 := up_sn (by decide)
    have e32 : z0 S 32 = S 32 := up_n (by decide)
    show okML (z0 S)
    unfold okML mlN at *
    rw [e0, e32]
    exact hk⟩
  | k + 1 => ⟨endsM_now (S := (psM S w k).2) (h := w + k), okML_ends (psM_ok hw hk k).2⟩
