/-! the law's loop: what holds between its calls, and the rows that its cases share -/
abbrev lA (s : State) : Nat → Prop := fun z => s.heap.size ≤ z
def lcap (a26 e0 cap nl : Nat) : Prop := ((cap = 0 ∧ a26 = e0) ∨ capP cap) ∧ nl ≤ cap
theorem lcap.le {a26 e0 cap nl : Nat} (h : lcap a26 e0 cap nl) : cap ≤ 40 := by
  have := h.1
  unfold capP at this
  omega
/-- what the Statement gives, as the law's body uses it -/
def lEnv (p : Program) (l : Launch) (s : State) (m : MethodId) (meth : Method) (c : Code) (b L : Nat) (xs : Nat → Int32) (D : va_G) (q : Nat → ClassId) (e0 : Nat) : Prop := lw_At p s m meth c b L xs ∧ kK D q s ∧ kX (lA s) s ∧ kE e0 (lA s) s ∧ l.stackTraces = false
/-- between two calls: the class's object, the reference's, and the row of the answer; i ints are read -/
def lSt (s : State) (b : Nat) (D : va_G) (q : Nat → ClassId) (e0 i : Nat) (H : Heap) (locs : List Loc) (ls : Array Slot) : Prop := ∃ (S T : Nat → Nat → Int32) (a am : Nat → Nat) (o : Nat) (g : Nat → Int64) (cap n w nl L9 : Nat), kW D (lA s) (wM q am T ++ wO q o g (wC q a S cap nl)) H ∧ va_S (lA s) s.heap H locs ∧ Rel2 S T n w nl L9 ∧ lcap (a 26) e0 cap nl ∧ lv_has ls 7 [(0, .ref b), (1, .ref (a 0)), (2, .ref (am 0)), (3, .ref o), (4, .int (nI i))]
/-- from there on the law comes to its end -/
def lK (p : Program) (l : Launch) (e : Env) (s : State) (m : MethodId) (below : List Frame) (meth : Method) (c : Code) (b : Nat) (D : va_G) (q : Nat → ClassId) (e0 i k9 n9 pc : Nat) : Prop := ∀ (H : Heap) (locs : List Loc) (ls : Array Slot), lSt s b D q e0 i H locs ls → W p l e room_1 s m #[Value.ref b] below meth c H locs k9 n9 (lw_Z below #[Value.ref b] s) (F0 m pc ls [])
section KLP
variable {p : Program} {l : Launch} {e : Env} {R : Room} {s : State} {m : MethodId} {args : Array Value} {below : List Frame} {meth : Method} {c : Code} {H : Heap} {locs : List Loc} {cells slots : Nat} {Q : State → Prop}
variable {pc : Nat} {ls : Array Slot} {rest : List Value} {cc : ByteArray}
/-- an int of the script is pushed -/
theorem k_arg {A : Nat → Prop} {H0 : Heap} {b L i : Nat} {xs : Nat → Int32} {lv : List (Nat × Value)} (hexec : p.tables.exec = Jvm.exec) (hb : c.code = cc) (hX : va_X b L xs s H0) (hbl : b < H0.size) (hbA : ¬ A b) (hS : va_S A H0 H locs) (hl : lv_has ls 7 lv) (k0 k4 : Nat) (h0 : lv[k0]? = some (0, .ref b)) (h4 : lv[k4]? = some (4, .int (nI i))) (k : Nat) {z : Int} (hz : Int32.ofInt z = nI k) (hik : i + k < L) (hL : L ≤ 3072)
    (e0 : decode cc pc = .ok (.aload_n 0, 1)) (e1 : decode cc (pc + 1) = .ok (.iload 4, 2)) (e3 : decode cc (pc + 3) = .ok (.iconst z, 1)) (e4 : decode cc (pc + 4) = .ok (.iadd, 1)) (e5 : decode cc (pc + 5) = .ok (.iaload, 1))
    (kk : W p l e R s m args below meth c H locs cells slots Q (F0 m (pc + 6) ls (.int (xs (i + k)) :: rest))) : W p l e R s m args below meth c H locs cells slots Q (F0 m pc ls rest) := by
  refine lv_aload_n hexec hb e0 rfl (lv_at hl k0 h0) ?_
  refine lv_iload hexec hb e1 (lv_at hl k4 h4) ?_
  refine lv_iconst (v := nI k) hexec hb e3 hz ?_
  refine lv_iadd hexec hb e4 ?_
  rw [nI_add]
  refine va_sld hexec hb hX hbl hbA hS (vp_in_nI hik (by omega)) e5 ?_
  rw [nI_clamp (by omega)]
  exact kk
/-- a truth value out of a number -/
theorem k_bool {v : Int32} (hexec : p.tables.exec = Jvm.exec) (hb : c.code = cc) (e0 : decode cc pc = .ok (.ifCond .eq 7, 3)) (e3 : decode cc (pc + 3) = .ok (.iconst 1, 1)) (e4 : decode cc (pc + 4) = .ok (.goto 4, 3)) (e7 : decode cc (pc + 7) = .ok (.iconst 0, 1))
    (kk : W p l e R s m args below meth c H locs cells slots Q (F0 m (pc + 8) ls (.int (bI (¬ v = 0)) :: rest))) : W p l e R s m args below meth c H locs cells slots Q (F0 m pc ls (.int v :: rest)) := by
  refine lv_if_eq (tgt := pc + 7) hexec hb e0 (by omega) (fun h => ?_) (fun h => ?_)
  · refine lv_iconst (v := nI 0) hexec hb e7 (by decide) ?_
    rw [bI_f (fun z => z h)] at kk
    exact kk
  · refine lv_iconst (v := nI 1) hexec hb e3 (by decide) ?_
    refine lv_goto (tgt := pc + 8) hexec hb e4 (by omega) ?_
    rw [bI_t h] at kk
    exact kk
/-- a call that leaves a world, beside another -/
theorem k_goW {D : va_G} {A : Nat → Prop} {H0 : Heap} {wo w w' : va_W} {v : Int32} {a : Array Value} {st0 : List Value} {mc ms : Nat} (hP : kW D A (wo ++ w) H) (hA : ∀ z : Nat, H0.size ≤ z → A z) (hS : va_S A H0 H locs)
    (hr : va_Run p l e R s m args below meth c H locs cells slots mc ms (F0 m pc ls st0) rest (kRi D (va_A w H.size) v w' a) (va_A w H.size))
    (kk : ∀ (H1 : Heap) (locs1 : List Loc), kW D A (wo ++ w') H1 → va_S A H0 H1 locs1 → W p l e R s m args below meth c H1 locs1 (cells + mc) (slots + ms) Q (F0 m (pc + 3) ls (.int v :: rest))) : W p l e R s m args below meth c H locs cells slots Q (F0 m pc ls st0) :=
  k_goTi (T := Unit) (post := fun r _ => r = v) (w' := fun _ => w') hP hA hS hr (fun r _ H1 locs1 h h1 h2 => by rw [h]; exact kk H1 locs1 h1 h2)
end KLP
section KTL
variable {p : Program} {l : Launch} {e : Env} {s : State} {m : MethodId} {below : List Frame} {meth : Method} {c : Code} {b L : Nat} {xs : Nat → Int32} {D : va_G} {q : Nat → ClassId} {e0 i : Nat}
theorem lEnv_hts {args : Array Value} (h : ∀ w ∈ lw_tbl, w.before args s = true) : ∀ w ∈ wsL_law, w.before args s = true := fun w hw => h w (wsL_law_in w hw)
/-- behind both calls: what was thrown is compared, then the answers -/
theorem k_tail (E : lEnv p l s m meth c b L xs D q e0) {k n9 k9 m9 P : Nat} {off : Int} (hk : k ≤ k9) (hn : n9 ≤ m9) (hk9 : k9 ≤ 601024) (hm9 : m9 ≤ 7293034) (kk : lK p l e s m below meth c b D q e0 i k9 m9 2026)
    (t0 : decode cL_law P = .ok (.istore 6, 2)) (t2 : decode cL_law (P + 2) = .ok (.aload_n 2, 1)) (t3 : decode cL_law (P + 3) = .ok (.invokevirtual 112, 3)) (t6 : decode cL_law (P + 6) = .ok (.iload 5, 2)) (t8 : decode cL_law (P + 8) = .ok (.if_icmp .eq 5, 3)) (t13 : decode cL_law (P + 13) = .ok (.iload 5, 2)) (t15 : decode cL_law (P + 15) = .ok (.ifCond .ne 15, 3)) (t18 : decode cL_law (P + 18) = .ok (.aload_n 3, 1)) (t19 : decode cL_law (P + 19) = .ok (.iconst 0, 1)) (t20 : decode cL_law (P + 20) = .ok (.laload, 1)) (t21 : decode cL_law (P + 21) = .ok (.iload 6, 2)) (t23 : decode cL_law (P + 23) = .ok (.i2l, 1)) (t24 : decode cL_law (P + 24) = .ok (.lcmp, 1)) (t25 : decode cL_law (P + 25) = .ok (.ifCond .eq 5, 3)) (t30 : decode cL_law (P + 30) = .ok (.goto off, 3)) (ho : ((P + 30 : Nat) : Int) + off = ((2026 : Nat) : Int))
    {R : R3} {M : Int32 × (Nat → Nat → Int32)} (hans : Ans R M) {S' : Nat → Nat → Int32} {n' w' nl' L' cap' o : Nat} {a am : Nat → Nat} {g' : Nat → Int64} (hrel : Rel2 S' M.2 n' w' nl' L') (hcap : lcap (a 26) e0 cap' nl') (hg : R.1 = nI 0 → g' 0 = R.2.1.toInt64) {H : Heap} {locs : List Loc} {ls : Array Slot} (hP : kW D (lA s) (wO q o g' (wC q a S' cap' nl') ++ wM q am M.2) H) (hS : va_S (lA s) s.heap H locs) (hl : lv_has ls 7 [(5, .int R.1), (0, .ref b), (1, .ref (a 0)), (2, .ref (am 0)), (3, .ref o), (4, .int (nI i))]) : W p l e room_1 s m #[Value.ref b] below meth c H locs k n9 (lw_Z below #[Value.ref b] s) (F0 m P ls [.int M.1]) := by
  obtain ⟨⟨hx, hb, hr, hml, hown, hts0, -, -, -, -⟩, hK, -, -, -⟩ := E
  have hts := lEnv_hts hts0
  refine W.widen (k := k9) (n := m9) hk hn ?_
  refine lv_istore (lv' := [(6, .int M.1), (5, .int R.1), (0, .ref b), (1, .ref (a 0)), (2, .ref (am 0)), (3, .ref o), (4, .int (nI i))]) hx hb t0 hl (by decide) rfl (fun ls hl => ?_)
  refine lv_aload_n hx hb t2 rfl (lv_at hl 4 rfl) ?_
  refine k_callV (rest := []) (r := M.2 0 0) ⟨hx, hb, hml, hown, hts⟩ (c_X5_thrown l D q am M.2) (cwV 0 hts gL_law_X5_thrown rfl rfl rfl (by decide +kernel) ⟨Nat.le_of_ble_eq_true rfl, Nat.le_of_ble_eq_true rfl⟩) hK (kW_r hP).1 (va_recv hK.1 (kW_r hP).1 (ci := 6) (q0 := 0) rfl rfl) rfl hl.1 rfl (Nat.le_of_ble_eq_true rfl) t3 ⟨hk9, hm9⟩ (fun _ h => h) ?_
  refine lv_iload hx hb t6 (lv_at hl 1 rfl) ?_
  refine lv_icmp_eq (tgt := P + 13) hx hb t8 (by omega) (fun _ => ?_) (fun z => absurd hans.1.symm z)
  refine lv_iload hx hb t13 (lv_at hl 1 rfl) ?_
  have fin : W p l e room_1 s m #[Value.ref b] below meth c H locs k9 m9 (lw_Z below #[Value.ref b] s) (F0 m (P + 30) ls []) := by
    refine lv_goto (tgt := 2026) hx hb t30 ho ?_
    exact kk H locs ls ⟨S', M.2, a, am, o, g', cap', n', w', nl', L', kW_comm hP, hS, hrel, hcap, lv_sub hl [2, 3, 4, 5, 6] rfl⟩
  refine lv_if_ne (tgt := P + 30) hx hb t15 (by omega) (fun _ => fin) (fun z => ?_)
  have z0 : R.1 = nI 0 := by rw [nI_0]; exact z
  refine lv_aload_n hx hb t18 rfl (lv_at hl 5 rfl) ?_
  refine lv_iconst (v := nI 0) hx hb t19 (by decide) ?_
  refine va_lald (n := 1) (f := g') hx hb hK.1 hP.1 0 3 rfl rfl (vp_in_nI (by decide) (by decide)) t20 ?_
  rw [nI_clamp (by decide)]
  refine lv_iload hx hb t21 (lv_at hl 0 rfl) ?_
  refine lv_i2l (v := M.1.toInt64) hx hb t23 rfl ?_
  refine W.lcmp hx hb t24 ?_
  refine lv_if_eq (tgt := P + 30) hx hb t25 (by omega) (fun _ => fin) (fun z => absurd ((lg_cmp_eq _ _).mpr (by rw [hg z0, hans.2 z0])) z)
theorem outG_0 {g : Nat → Int64} {R : R3} (h : R.1 = nI 0) : outG g R 0 = R.2.1.toInt64 := by
  unfold outG
  rw [if_pos h]
  exact pk_uLs
end KTL
theorem rd_out {S : Nat → Nat → Int32} {R : R3} (h : R.2.2 = S) : outS S R = S := by
  unfold outS
  split
  · exact h
  · rfl
section BR
variable {S T : Nat → Nat → Int32} {n w nl L : Nat}
theorem both_rd {R : R3} {M : Int32 × (Nat → Nat → Int32)} (h : Rel2 S T n w nl L) (ha : Ans R M) (hR : R.2.2 = S) (hM : Rel2 S M.2 n w nl L) : Ans R M ∧ ∃ n' w' L', Rel2 (outS S R) M.2 n' w' nl L' := ⟨ha, n, w, L, by rw [rd_out hR]; exact hM⟩
theorem both_row (h : Rel2 S T n w nl L) {k k' : Nat} (hk : (k, k') ∈ rmap) (s h0 : Int32) : Ans (coRow S k' s h0) (moRow T k s h0) ∧ ∃ n' w' L', Rel2 (outS S (coRow S k' s h0)) (moRow T k s h0).2 n' w' nl L' :=
  both_rd h (a_row h.1.1 h.1.2.1 hk s h0) (by unfold coRow; (repeat' split) <;> rfl) (by unfold moRow; split <;> exact h.t)
theorem both_through (h : Rel2 S T n w nl L) (h0 : Int32) : Ans (coThrough S h0) (moThrough T h0) ∧ ∃ n' w' L', Rel2 (outS S (coThrough S h0)) (moThrough T h0).2 n' w' nl L' :=
  both_rd h (a_through h.1.1 h.1.2.1 h0) (by unfold coThrough; split <;> rfl) (by unfold moThrough; split; exact h.t; exact h.t.t)
theorem both_taken (h : Rel2 S T n w nl L) (s h0 : Int32) : Ans (coTaken S n s h0) (moTaken T n s h0) ∧ ∃ n' w' L', Rel2 (outS S (coTaken S n s h0)) (moTaken T n s h0).2 n' w' nl L' :=
  both_rd h (a_taken h.1.1 n s h0) (by unfold coTaken; (repeat' split) <;> rfl) (by unfold moTaken; split; split; exact h.t; exact h.t.t; exact h.t.t)
theorem both_count (h : Rel2 S T n w nl L) (s h0 : Int32) : Ans (coRow S 14 s h0) (moCount T n s h0) ∧ ∃ n' w' L', Rel2 (outS S (coRow S 14 s h0)) (moCount T n s h0).2 n' w' nl L' :=
  both_rd h (a_count h.1.2.1 h.1.2.2.1.2.2.2.1 s h0) (by unfold coRow; (repeat' split) <;> rfl) (by unfold moCount; split <;> exact h.t)
theorem both_countAnew (h : Rel2 S T n w nl L) (s h0 : Int32) : Ans (coAnew S n s h0) (moCount T n s h0) ∧ ∃ n' w' L', Rel2 (outS S (coAnew S n s h0)) (moCount T n s h0).2 n' w' nl L' :=
  both_rd h (a_anew h.1.1 h.1.2.1 h.1.2.2.1.1 h.1.2.2.1.2.1 s h0) (by unfold coAnew; (repeat' split) <;> rfl) (by unfold moCount; split <;> exact h.t)
theorem both_missed (h : Rel2 S T n w nl L) (h0 : Int32) : Ans (coMissed S h0) (moMissed T n h0) ∧ ∃ n' w' L', Rel2 (outS S (coMissed S h0)) (moMissed T n h0).2 n' w' nl L' :=
  both_rd h (a_missed h.1.1 h.1.2.1 h.1.2.2.1.2.2.2.1 h0) (by unfold coMissed; split <;> rfl) (by unfold moMissed; split; exact h.t; exact h.t.t)
theorem both_isOf (h : Rel2 S T n w nl L) (y h0 : Int32) : Ans (coIsOf S nl y h0) (moIsOf T y h0) ∧ ∃ n' w' L', Rel2 (outS S (coIsOf S nl y h0)) (moIsOf T y h0).2 n' w' nl L' :=
  both_rd h (a_isOf h.1.1 h.1.2.1 y h0) (by unfold coIsOf; split <;> rfl) (by unfold moIsOf; split <;> exact h.t)
theorem both_billed (h : Rel2 S T n w nl L) (y : Int32) : Ans (coLs S 37 nl y) (moBilled T n w y) ∧ ∃ n' w' L', Rel2 (outS S (coLs S 37 nl y)) (moBilled T n w y).2 n' w' nl L' :=
  both_rd h (a_billed h.1.2.1 h.1.2.2.1.2.2.2.2.1 y) (by unfold coLs; split <;> rfl) (by unfold moBilled; split; exact h.t; exact h.t.t)
theorem both_billedAnew (h : Rel2 S T n w nl L) (y : Int32) : Ans (coBilledAnew S n w nl y) (moBilled T n w y) ∧ ∃ n' w' L', Rel2 (outS S (coBilledAnew S n w nl y)) (moBilled T n w y).2 n' w' nl L' :=
  both_rd h (a_billedAnew h.1.1 h.1.2.1 h.1.2.2.1.1 h.1.2.2.1.2.1 h.1.2.2.1.2.2.1 y) (by unfold coBilledAnew; split <;> rfl) (by unfold moBilled; split; exact h.t; exact h.t.t)
theorem both_corrected (h : Rel2 S T n w nl L) (y : Int32) : Ans (coLs S 38 nl y) (moCorrected T y) ∧ ∃ n' w' L', Rel2 (outS S (coLs S 38 nl y)) (moCorrected T y).2 n' w' nl L' :=
  both_rd h (a_corrected h.1.1 h.1.2.1 y) (by unfold coLs; split <;> rfl) (by unfold moCorrected; split; exact h.t; exact h.t.t)
theorem both_owes (h : Rel2 S T n w nl L) (who : Int32) : Ans (coOwes S nl who) (moOwes T n w nl who) ∧ ∃ n' w' L', Rel2 (outS S (coOwes S nl who)) (moOwes T n w nl who).2 n' w' nl L' :=
  both_rd h (a_owes (L := L) h.1.1 h.1.2.2.1.2.2.2.2.1 who) (by unfold coOwes; split <;> rfl) (by unfold moOwes; split; exact h.t; exact h.t.t)
theorem both_busker (h : Rel2 S T n w nl L) {k k' : Nat} (hk : (k, k') ∈ rmap) (b : Int32) : Ans (coBusker S k' b) (moBusker T k b) ∧ ∃ n' w' L', Rel2 (outS S (coBusker S k' b)) (moBusker T k b).2 n' w' nl L' :=
  both_rd h (a_busker h.1.1 hk b) (by unfold coBusker; split <;> rfl) (by unfold moBusker; split; exact h.t; exact h.t.t)
theorem isOf_bit (y h0 : Int32) : (moIsOf T y h0).1 = nI 0 ∨ (moIsOf T y h0).1 = nI 1 := by
  unfold moIsOf
  split
  · unfold bI
    split
    · exact Or.inr rfl
    · exact Or.inl rfl
  · exact Or.inl rfl
end BR
