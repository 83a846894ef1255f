set_option maxHeartbeats 4000000 in
set_option maxRecDepth 100000 in
theorem lp_L_plays_236 {p : Program} {l : Launch} {e : Env} {u : State} {m : MethodId} {below : List Frame} {meth : Method} {c : Code} {D : va_G} {q : Nat → ClassId} {A : Nat → Prop} (a : Nat → Nat) (S : Nat → Nat → Int32) (w : va_W) (x : Nat) (set : Int32) (L : Nat) (hx12 : x < 12) (hL : yK S L) (C0 : kAt p u m #[.int (nI x), .int (set), .ref (a 6), .ref (a 9), .ref (a 0)] meth c cL_plays 11 (some .int) RL wsL_plays) (hK : kK D q u) :
    ∀ (f : Nat) (b lf : Nat) (T : Nat → Nat → Int32) (x5 : Int32) (x7 : Int32) (x8 : Int32), 6 - b < f → b ≤ 6 → lf ≤ 1000 → yPk (yWh S x set 6).1 (6 - b) b lf = yPv S x set L → T = (yPm S x set L) → x5 = (yWh S x set 6).1 → x7 = nI lf → x8 = nI b → ∀ (H : Heap) (locs : List Loc), kW D A (wL q a T w) H → va_S A u.heap H locs → ∀ (ls : Array Slot), lv_has ls 11 [(0, .int (nI x)), (1, .int (set)), (2, .ref (a 6)), (3, .ref (a 9)), (4, .ref (a 0)), (5, .int x5), (7, .int x7), (8, .int x8)] → W p l e ({ frames := 0, cells := 0, slots := 0, locals := 0 } : Room) u m #[.int (nI x), .int (set), .ref (a 6), .ref (a 9), .ref (a 0)] below meth c H locs 0 0 (MQ below (kRi D A (nI (yPv S x set L)) (wL q a ((yPm S x set L)) w)) #[.int (nI x), .int (set), .ref (a 6), .ref (a 9), .ref (a 0)] u 0 0 A) (F0 m 236 ls []) := by
  obtain ⟨hx, hb, hr, hml, hown, hts, hlocks⟩ := id C0
  intro f
  induction f with
  | zero =>
    intro b lf T x5 x7 x8 hf
    exact absurd hf (Nat.not_lt_zero _)
  | succ f ih =>
    intro b lf T x5 x7 x8 hf hbb hlf hg eT e5 e7 e8 H locs hP hS ls hl
    replace eT := eT.symm
    subst eT
    replace e5 := e5.symm
    subst e5
    replace e7 := e7.symm
    subst e7
    replace e8 := e8.symm
    subst e8
    refine lv_iload hx hb dL_plays_236 (lv_at hl 7 rfl) ?_
    refine lv_bipush (v := nI 6) hx hb dL_plays_238 (by decide) ?_
    refine k_icmp_ge (P := b < 6) (tgt := 273) hx hb dL_plays_240 (by decide) (nI_ltI (by omega) (by omega)) (fun c_1 => ?_) (fun c_1 => ?_)
    · skip
      refine lv_iconst (v := nI 0) hx hb dL_plays_273 (by decide) ?_
      exact k_iretW hx hb hr hlocks hP hS (by rw [← hg, show 6 - b = 0 from by omega]; rfl) dL_plays_274
    · skip
      refine lv_iload hx hb dL_plays_243 (lv_at hl 5 rfl) ?_
      refine lv_iload hx hb dL_plays_245 (lv_at hl 7 rfl) ?_
      refine lv_ishr hx hb dL_plays_247 ?_
      refine lv_iconst (v := nI 1) hx hb dL_plays_248 (by decide) ?_
      refine lv_iand hx hb dL_plays_249 ?_
      refine lv_iconst (v := nI 1) hx hb dL_plays_250 (by decide) ?_
      refine k_icmp_ne (P := (((yWh S x set 6).1) >>> ((nI b) &&& 31)) &&& (nI 1) = nI 1) (tgt := 267) hx hb dL_plays_251 (by decide) Iff.rfl (fun c_2 => ?_) (fun c_2 => ?_)
      · skip
        refine lv_iinc (v := nI (b + 1)) (lv' := [(8, .int (nI (b + 1))), (0, .int (nI x)), (1, .int (set)), (2, .ref (a 6)), (3, .ref (a 9)), (4, .ref (a 0)), (5, .int ((yWh S x set 6).1)), (7, .int (nI lf))]) hx hb dL_plays_267 hl (k := 7) rfl (k_iinc _) (by decide) rfl (fun ls hl => ?_)
        refine lv_goto (tgt := 236) hx hb dL_plays_270 (by decide) ?_
        exact ih (b + 1) lf ((yPm S x set L)) ((yWh S x set 6).1) (nI lf) (nI (b + 1)) (by omega) (by first | omega | assumption) (by omega) (by rw [← hg]; exact (yPk_f (by omega) c_2).symm) rfl rfl rfl rfl _ _ hP hS ls (lv_sub hl [1, 2, 3, 4, 5, 6, 7, 0] rfl)
      · skip
        refine lv_iload hx hb dL_plays_254 (lv_at hl 6 rfl) ?_
        refine k_if_ne (P := lf = 0) (tgt := 264) hx hb dL_plays_256 (by decide) (k_n0 (by omega)) (fun c_3 => ?_) (fun c_3 => ?_)
        · skip
          refine lv_iinc (v := (nI lf) + Int32.ofInt (-1)) (lv' := [(7, .int ((nI lf) + Int32.ofInt (-1))), (0, .int (nI x)), (1, .int (set)), (2, .ref (a 6)), (3, .ref (a 9)), (4, .ref (a 0)), (5, .int ((yWh S x set 6).1)), (8, .int (nI b))]) hx hb dL_plays_264 hl (k := 6) rfl rfl (by decide) rfl (fun ls hl => ?_)
          refine lv_iinc (v := nI (b + 1)) (lv' := [(8, .int (nI (b + 1))), (7, .int ((nI lf) + Int32.ofInt (-1))), (0, .int (nI x)), (1, .int (set)), (2, .ref (a 6)), (3, .ref (a 9)), (4, .ref (a 0)), (5, .int ((yWh S x set 6).1))]) hx hb dL_plays_267 hl (k := 7) rfl (k_iinc _) (by decide) rfl (fun ls hl => ?_)
          refine lv_goto (tgt := 236) hx hb dL_plays_270 (by decide) ?_
          exact ih (b + 1) (lf - 1) ((yPm S x set L)) ((yWh S x set 6).1) ((nI lf) + Int32.ofInt (-1)) (nI (b + 1)) (by omega) (by first | omega | assumption) (by omega) (by rw [← hg]; exact (yPk_d (by omega) c_2 c_3).symm) rfl rfl (by exact k_dec1 c_3) rfl _ _ hP hS ls (lv_sub hl [2, 3, 4, 5, 6, 7, 1, 0] rfl)
        · skip
          refine lv_iload hx hb dL_plays_259 (lv_at hl 7 rfl) ?_
          refine lv_iconst (v := nI 1) hx hb dL_plays_261 (by decide) ?_
          refine lv_iadd hx hb dL_plays_262 ?_
          refine k_top (y := nI (b + 1)) (nI_add _ _) ?_
          exact k_iretW hx hb hr hlocks hP hS (by rw [← hg, yPk_r (by omega) c_2 c_3]) dL_plays_263

set_option maxHeartbeats 4000000 in
set_option maxRecDepth 100000 in
theorem lp_L_plays_205 {p : Program} {l : Launch} {e : Env} {u : State} {m : MethodId} {below : List Frame} {meth : Method} {c : Code} {D : va_G} {q : Nat → ClassId} {A : Nat → Prop} (a : Nat → Nat) (S : Nat → Nat → Int32) (w : va_W) (x : Nat) (set : Int32) (L : Nat) (hx12 : x < 12) (hL : yK S L) (f7 : Nat) (v5 : Int32) (hL0 : ¬ L = 0) (C0 : kAt p u m #[.int (nI x), .int (set), .ref (a 6), .ref (a 9), .ref (a 0)] meth c cL_plays 11 (some .int) RL wsL_plays) (hK : kK D q u) (hk : ∀ (H : Heap) (locs : List Loc), kW D A (wL q a ((ySh (up S 0 3 (nI (L - 1))) (L - 1))) w) H → va_S A u.heap H locs → ∀ (ls : Array Slot), lv_has ls 11 [(0, .int (nI x)), (1, .int (set)), (2, .ref (a 6)), (3, .ref (a 9)), (4, .ref (a 0)), (5, .int (v5)), (7, .int (nI f7)), (8, .int (nI (20 + (L - 1))))] → W p l e ({ frames := 0, cells := 0, slots := 0, locals := 0 } : Room) u m #[.int (nI x), .int (set), .ref (a 6), .ref (a 9), .ref (a 0)] below meth c H locs 0 0 (MQ below (kRi D A (nI (yPv S x set L)) (wL q a ((yPm S x set L)) w)) #[.int (nI x), .int (set), .ref (a 6), .ref (a 9), .ref (a 0)] u 0 0 A) (F0 m 233 ls [])) :
    ∀ (f : Nat) (j : Nat) (T : Nat → Nat → Int32) (x5 : Int32) (x7 : Int32) (x8 : Int32), L - 1 - j < f → j ≤ L - 1 → L ≤ 20 → T = (ySh (up S 0 3 (nI (L - 1))) j) → x5 = v5 → x7 = nI f7 → x8 = nI (20 + j) → ∀ (H : Heap) (locs : List Loc), kW D A (wL q a T w) H → va_S A u.heap H locs → ∀ (ls : Array Slot), lv_has ls 11 [(0, .int (nI x)), (1, .int (set)), (2, .ref (a 6)), (3, .ref (a 9)), (4, .ref (a 0)), (5, .int x5), (7, .int x7), (8, .int x8)] → W p l e ({ frames := 0, cells := 0, slots := 0, locals := 0 } : Room) u m #[.int (nI x), .int (set), .ref (a 6), .ref (a 9), .ref (a 0)] below meth c H locs 0 0 (MQ below (kRi D A (nI (yPv S x set L)) (wL q a ((yPm S x set L)) w)) #[.int (nI x), .int (set), .ref (a 6), .ref (a 9), .ref (a 0)] u 0 0 A) (F0 m 205 ls []) := by
  obtain ⟨hx, hb, hr, hml, hown, hts, hlocks⟩ := id C0
  intro f
  induction f with
  | zero =>
    intro j T x5 x7 x8 hf
    exact absurd hf (Nat.not_lt_zero _)
  | succ f ih =>
    intro j T x5 x7 x8 hf hj hLb eT e5 e7 e8 H locs hP hS ls hl
    replace eT := eT.symm
    subst eT
    replace e5 := e5.symm
    subst e5
    replace e7 := e7.symm
    subst e7
    replace e8 := e8.symm
    subst e8
    refine lv_iload hx hb dL_plays_205 (lv_at hl 7 rfl) ?_
    refine lv_bipush (v := nI 20) hx hb dL_plays_207 (by decide) ?_
    refine lv_aload hx hb dL_plays_209 (lv_at hl 4 rfl) ?_
    refine lv_iconst (v := nI 3) hx hb dL_plays_211 (by decide) ?_
    refine k_iald hx hb hK hP.1 0 rfl 3 rfl (by omega) (by decide) dL_plays_212 ?_
    refine k_top (y := nI (L - 1)) ((congrFun (ySh_n (by decide) j) 3).trans (up_si _ _ _ _)) ?_
    refine lv_iadd hx hb dL_plays_213 ?_
    refine k_top (y := nI (20 + (L - 1))) (nI_add _ _) ?_
    refine k_icmp_ge (P := 20 + j < 20 + (L - 1)) (tgt := 233) hx hb dL_plays_214 (by decide) (nI_ltI (by omega) (by omega)) (fun c_4 => ?_) (fun c_4 => ?_)
    · skip
      have eX : (ySh (up S 0 3 (nI (L - 1))) j) = (ySh (up S 0 3 (nI (L - 1))) (L - 1)) := by rw [show j = L - 1 from by omega]
      rw [eX] at hP
      obtain rfl : j = L - 1 := by omega
      exact hk _ _ hP hS ls (lv_sub hl [0, 1, 2, 3, 4, 5, 6, 7] rfl)
    · skip
      refine lv_aload_n hx hb dL_plays_217 rfl (lv_at hl 2 rfl) ?_
      refine lv_iload hx hb dL_plays_218 (lv_at hl 7 rfl) ?_
      refine lv_aload_n hx hb dL_plays_220 rfl (lv_at hl 2 rfl) ?_
      refine lv_iload hx hb dL_plays_221 (lv_at hl 7 rfl) ?_
      refine lv_iconst (v := nI 1) hx hb dL_plays_223 (by decide) ?_
      refine lv_iadd hx hb dL_plays_224 ?_
      refine k_top (y := nI (20 + j + 1)) (nI_add _ _) ?_
      refine k_iald hx hb hK hP.1 6 rfl (20 + j + 1) rfl (by omega) (by decide) dL_plays_225 ?_
      refine k_iast (wL q a ((up ((ySh (up S 0 3 (nI (L - 1))) j)) 6 (20 + j) (((ySh (up S 0 3 (nI (L - 1))) j)) 6 (20 + j + 1)))) w) hx hb hK hP hS 6 rfl (20 + j) rfl (by omega) (by decide) wL_s6 dL_plays_226 (fun H locs hP hS => ?_)
      refine lv_iinc (v := nI (20 + j + 1)) (lv' := [(8, .int (nI (20 + j + 1))), (0, .int (nI x)), (1, .int (set)), (2, .ref (a 6)), (3, .ref (a 9)), (4, .ref (a 0)), (5, .int (v5)), (7, .int (nI f7))]) hx hb dL_plays_227 hl (k := 7) rfl (k_iinc _) (by decide) rfl (fun ls hl => ?_)
      refine lv_goto (tgt := 205) hx hb dL_plays_230 (by decide) ?_
      exact ih (j + 1) ((up ((ySh (up S 0 3 (nI (L - 1))) j)) 6 (20 + j) (((ySh (up S 0 3 (nI (L - 1))) j)) 6 (20 + j + 1)))) v5 (nI f7) (nI (20 + j + 1)) (by omega) (by first | omega | assumption) (by first | assumption | exact hL.2.1) (by rfl) rfl rfl (by rfl) _ _ hP hS ls (lv_sub hl [1, 2, 3, 4, 5, 6, 7, 0] rfl)

set_option maxHeartbeats 4000000 in
set_option maxRecDepth 100000 in
theorem lp_L_plays_53 {p : Program} {l : Launch} {e : Env} {u : State} {m : MethodId} {below : List Frame} {meth : Method} {c : Code} {D : va_G} {q : Nat → ClassId} {A : Nat → Prop} (a : Nat → Nat) (S : Nat → Nat → Int32) (w : va_W) (x : Nat) (set : Int32) (L : Nat) (hx12 : x < 12) (hL : yK S L) (b9 m6 a8 : Nat) (v5 : Int32) (hb9 : b9 < 6) (C0 : kAt p u m #[.int (nI x), .int (set), .ref (a 6), .ref (a 9), .ref (a 0)] meth c cL_plays 11 (some .int) RL wsL_plays) (hK : kK D q u) (hk : ∀ (H : Heap) (locs : List Loc), kW D A (wL q a S w) H → va_S A u.heap H locs → ∀ (ls : Array Slot), lv_has ls 11 [(0, .int (nI x)), (1, .int (set)), (2, .ref (a 6)), (3, .ref (a 9)), (4, .ref (a 0)), (5, .int (v5)), (6, .int (nI m6)), (7, .int (nI b9)), (8, .int (nI a8)), (9, .int (yLs S x set b9 6)), (10, .int (nI 6))] → W p l e ({ frames := 0, cells := 0, slots := 0, locals := 0 } : Room) u m #[.int (nI x), .int (set), .ref (a 6), .ref (a 9), .ref (a 0)] below meth c H locs 0 0 (MQ below (kRi D A (nI (yPv S x set L)) (wL q a ((yPm S x set L)) w)) #[.int (nI x), .int (set), .ref (a 6), .ref (a 9), .ref (a 0)] u 0 0 A) (F0 m 119 ls [])) :
    ∀ (f : Nat) (o : Nat) (T : Nat → Nat → Int32) (x5 : Int32) (x6 : Int32) (x7 : Int32) (x8 : Int32) (x9 : Int32) (x10 : Int32), 6 - o < f → o ≤ 6 → T = S → x5 = v5 → x6 = nI m6 → x7 = nI b9 → x8 = nI a8 → x9 = yLs S x set b9 o → x10 = nI o → ∀ (H : Heap) (locs : List Loc), kW D A (wL q a T w) H → va_S A u.heap H locs → ∀ (ls : Array Slot), lv_has ls 11 [(0, .int (nI x)), (1, .int (set)), (2, .ref (a 6)), (3, .ref (a 9)), (4, .ref (a 0)), (5, .int x5), (6, .int x6), (7, .int x7), (8, .int x8), (9, .int x9), (10, .int x10)] → W p l e ({ frames := 0, cells := 0, slots := 0, locals := 0 } : Room) u m #[.int (nI x), .int (set), .ref (a 6), .ref (a 9), .ref (a 0)] below meth c H locs 0 0 (MQ below (kRi D A (nI (yPv S x set L)) (wL q a ((yPm S x set L)) w)) #[.int (nI x), .int (set), .ref (a 6), .ref (a 9), .ref (a 0)] u 0 0 A) (F0 m 53 ls []) := by
  obtain ⟨hx, hb, hr, hml, hown, hts, hlocks⟩ := id C0
  intro f
  induction f with
  | zero =>
    intro o T x5 x6 x7 x8 x9 x10 hf
    exact absurd hf (Nat.not_lt_zero _)
  | succ f ih =>
    intro o T x5 x6 x7 x8 x9 x10 hf ho eT e5 e6 e7 e8 e9 e10 H locs hP hS ls hl
    replace eT := eT.symm
    subst eT
    replace e5 := e5.symm
    subst e5
    replace e6 := e6.symm
    subst e6
    replace e7 := e7.symm
    subst e7
    replace e8 := e8.symm
    subst e8
    replace e9 := e9.symm
    subst e9
    replace e10 := e10.symm
    subst e10
    refine lv_iload hx hb dL_plays_53 (lv_at hl 10 rfl) ?_
    refine lv_bipush (v := nI 6) hx hb dL_plays_55 (by decide) ?_
    refine k_icmp_ge (P := o < 6) (tgt := 119) hx hb dL_plays_57 (by decide) (nI_ltI (by omega) (by omega)) (fun c_5 => ?_) (fun c_5 => ?_)
    · skip
      obtain rfl : o = 6 := by omega
      exact hk _ _ hP hS ls (lv_sub hl [0, 1, 2, 3, 4, 5, 6, 7, 8, 9, 10] rfl)
    · skip
      refine lv_iload hx hb dL_plays_60 (lv_at hl 9 rfl) ?_
      refine k_if_eq (P := yLs S x set b9 o = 0) (tgt := 110) hx hb dL_plays_62 (by decide) Iff.rfl (fun c_6 => ?_) (fun c_6 => ?_)
      · skip
        refine lv_iconst (v := nI 0) hx hb dL_plays_110 (by decide) ?_
        refine lv_istore (lv' := [(9, .int (nI 0)), (0, .int (nI x)), (1, .int (set)), (2, .ref (a 6)), (3, .ref (a 9)), (4, .ref (a 0)), (5, .int (v5)), (6, .int (nI m6)), (7, .int (nI b9)), (8, .int (nI a8)), (10, .int (nI o))]) hx hb dL_plays_111 hl (by decide) rfl (fun ls hl => ?_)
        refine lv_iinc (v := nI (o + 1)) (lv' := [(10, .int (nI (o + 1))), (9, .int (nI 0)), (0, .int (nI x)), (1, .int (set)), (2, .ref (a 6)), (3, .ref (a 9)), (4, .ref (a 0)), (5, .int (v5)), (6, .int (nI m6)), (7, .int (nI b9)), (8, .int (nI a8))]) hx hb dL_plays_113 hl (k := 10) rfl (k_iinc _) (by decide) rfl (fun ls hl => ?_)
        refine lv_goto (tgt := 53) hx hb dL_plays_116 (by decide) ?_
        exact ih (o + 1) S v5 (nI m6) (nI b9) (nI a8) (nI 0) (nI (o + 1)) (by omega) (by first | omega | assumption) rfl rfl rfl rfl rfl (by simp only [yLs_s, if_pos c_6]) rfl _ _ hP hS ls (lv_sub hl [2, 3, 4, 5, 6, 7, 8, 9, 10, 1, 0] rfl)
      · skip
        refine lv_aload_n hx hb dL_plays_65 rfl (lv_at hl 3 rfl) ?_
        refine lv_bipush (v := nI 18) hx hb dL_plays_66 (by decide) ?_
        refine lv_iload hx hb dL_plays_68 (lv_at hl 10 rfl) ?_
        refine lv_iadd hx hb dL_plays_70 ?_
        refine k_top (y := nI (18 + o)) (nI_add _ _) ?_
        refine k_iald hx hb hK hP.1 9 rfl (18 + o) rfl (by omega) (by decide) dL_plays_71 ?_
        refine lv_iload_n hx hb dL_plays_72 rfl (lv_at hl 0 rfl) ?_
        refine lv_ishr hx hb dL_plays_73 ?_
        refine lv_iconst (v := nI 1) hx hb dL_plays_74 (by decide) ?_
        refine lv_iand hx hb dL_plays_75 ?_
        refine k_if_eq (P := ((S 9 (18 + o)) >>> ((nI x) &&& 31)) &&& (nI 1) = 0) (tgt := 106) hx hb dL_plays_76 (by decide) Iff.rfl (fun c_7 => ?_) (fun c_7 => ?_)
        · skip
          refine lv_iconst (v := nI 1) hx hb dL_plays_106 (by decide) ?_
          refine lv_goto (tgt := 111) hx hb dL_plays_107 (by decide) ?_
          refine lv_istore (lv' := [(9, .int (nI 1)), (0, .int (nI x)), (1, .int (set)), (2, .ref (a 6)), (3, .ref (a 9)), (4, .ref (a 0)), (5, .int (v5)), (6, .int (nI m6)), (7, .int (nI b9)), (8, .int (nI a8)), (10, .int (nI o))]) hx hb dL_plays_111 hl (by decide) rfl (fun ls hl => ?_)
          refine lv_iinc (v := nI (o + 1)) (lv' := [(10, .int (nI (o + 1))), (9, .int (nI 1)), (0, .int (nI x)), (1, .int (set)), (2, .ref (a 6)), (3, .ref (a 9)), (4, .ref (a 0)), (5, .int (v5)), (6, .int (nI m6)), (7, .int (nI b9)), (8, .int (nI a8))]) hx hb dL_plays_113 hl (k := 10) rfl (k_iinc _) (by decide) rfl (fun ls hl => ?_)
          refine lv_goto (tgt := 53) hx hb dL_plays_116 (by decide) ?_
          exact ih (o + 1) S v5 (nI m6) (nI b9) (nI a8) (nI 1) (nI (o + 1)) (by omega) (by first | omega | assumption) rfl rfl rfl rfl rfl (by simp only [yLs_s, if_neg c_6, if_pos c_7]) rfl _ _ hP hS ls (lv_sub hl [2, 3, 4, 5, 6, 7, 8, 9, 10, 1, 0] rfl)
        · skip
          refine lv_iload_n hx hb dL_plays_79 rfl (lv_at hl 1 rfl) ?_
          refine lv_iload hx hb dL_plays_80 (lv_at hl 10 rfl) ?_
          refine lv_ishr hx hb dL_plays_82 ?_
          refine lv_iconst (v := nI 1) hx hb dL_plays_83 (by decide) ?_
          refine lv_iand hx hb dL_plays_84 ?_
          refine lv_iconst (v := nI 1) hx hb dL_plays_85 (by decide) ?_
          refine k_icmp_eq (P := (set >>> ((nI o) &&& 31)) &&& (nI 1) = nI 1) (tgt := 106) hx hb dL_plays_86 (by decide) Iff.rfl (fun c_8 => ?_) (fun c_8 => ?_)
          · skip
            refine lv_iconst (v := nI 1) hx hb dL_plays_106 (by decide) ?_
            refine lv_goto (tgt := 111) hx hb dL_plays_107 (by decide) ?_
            refine lv_istore (lv' := [(9, .int (nI 1)), (0, .int (nI x)), (1, .int (set)), (2, .ref (a 6)), (3, .ref (a 9)), (4, .ref (a 0)), (5, .int (v5)), (6, .int (nI m6)), (7, .int (nI b9)), (8, .int (nI a8)), (10, .int (nI o))]) hx hb dL_plays_111 hl (by decide) rfl (fun ls hl => ?_)
            refine lv_iinc (v := nI (o + 1)) (lv' := [(10, .int (nI (o + 1))), (9, .int (nI 1)), (0, .int (nI x)), (1, .int (set)), (2, .ref (a 6)), (3, .ref (a 9)), (4, .ref (a 0)), (5, .int (v5)), (6, .int (nI m6)), (7, .int (nI b9)), (8, .int (nI a8))]) hx hb dL_plays_113 hl (k := 10) rfl (k_iinc _) (by decide) rfl (fun ls hl => ?_)
            refine lv_goto (tgt := 53) hx hb dL_plays_116 (by decide) ?_
            exact ih (o + 1) S v5 (nI m6) (nI b9) (nI a8) (nI 1) (nI (o + 1)) (by omega) (by first | omega | assumption) rfl rfl rfl rfl rfl (by simp only [yLs_s, if_neg c_6, if_neg c_7, if_pos c_8]) rfl _ _ hP hS ls (lv_sub hl [2, 3, 4, 5, 6, 7, 8, 9, 10, 1, 0] rfl)
          · skip
            refine lv_aload_n hx hb dL_plays_89 rfl (lv_at hl 3 rfl) ?_
            refine lv_bipush (v := nI 6) hx hb dL_plays_90 (by decide) ?_
            refine lv_iload hx hb dL_plays_92 (lv_at hl 10 rfl) ?_
            refine lv_iadd hx hb dL_plays_94 ?_
            refine k_top (y := nI (6 + o)) (nI_add _ _) ?_
            refine k_iald hx hb hK hP.1 9 rfl (6 + o) rfl (by omega) (by decide) dL_plays_95 ?_
            refine lv_aload_n hx hb dL_plays_96 rfl (lv_at hl 3 rfl) ?_
            refine lv_bipush (v := nI 6) hx hb dL_plays_97 (by decide) ?_
            refine lv_iload hx hb dL_plays_99 (lv_at hl 7 rfl) ?_
            refine lv_iadd hx hb dL_plays_101 ?_
            refine k_top (y := nI (6 + b9)) (nI_add _ _) ?_
            refine k_iald hx hb hK hP.1 9 rfl (6 + b9) rfl (by omega) (by decide) dL_plays_102 ?_
            refine k_icmp_lt (P := S 9 (6 + o) < S 9 (6 + b9)) (tgt := 110) hx hb dL_plays_103 (by decide) Iff.rfl (fun c_9 => ?_) (fun c_9 => ?_)
            · skip
              refine lv_iconst (v := nI 0) hx hb dL_plays_110 (by decide) ?_
              refine lv_istore (lv' := [(9, .int (nI 0)), (0, .int (nI x)), (1, .int (set)), (2, .ref (a 6)), (3, .ref (a 9)), (4, .ref (a 0)), (5, .int (v5)), (6, .int (nI m6)), (7, .int (nI b9)), (8, .int (nI a8)), (10, .int (nI o))]) hx hb dL_plays_111 hl (by decide) rfl (fun ls hl => ?_)
              refine lv_iinc (v := nI (o + 1)) (lv' := [(10, .int (nI (o + 1))), (9, .int (nI 0)), (0, .int (nI x)), (1, .int (set)), (2, .ref (a 6)), (3, .ref (a 9)), (4, .ref (a 0)), (5, .int (v5)), (6, .int (nI m6)), (7, .int (nI b9)), (8, .int (nI a8))]) hx hb dL_plays_113 hl (k := 10) rfl (k_iinc _) (by decide) rfl (fun ls hl => ?_)
              refine lv_goto (tgt := 53) hx hb dL_plays_116 (by decide) ?_
              exact ih (o + 1) S v5 (nI m6) (nI b9) (nI a8) (nI 0) (nI (o + 1)) (by omega) (by first | omega | assumption) rfl rfl rfl rfl rfl (by simp only [yLs_s, if_neg c_6, if_neg c_7, if_neg c_8, if_pos c_9]) rfl _ _ hP hS ls (lv_sub hl [2, 3, 4, 5, 6, 7, 8, 9, 10, 1, 0] rfl)
            · skip
              refine lv_iconst (v := nI 1) hx hb dL_plays_106 (by decide) ?_
              refine lv_goto (tgt := 111) hx hb dL_plays_107 (by decide) ?_
              refine lv_istore (lv' := [(9, .int (nI 1)), (0, .int (nI x)), (1, .int (set)), (2, .ref (a 6)), (3, .ref (a 9)), (4, .ref (a 0)), (5, .int (v5)), (6, .int (nI m6)), (7, .int (nI b9)), (8, .int (nI a8)), (10, .int (nI o))]) hx hb dL_plays_111 hl (by decide) rfl (fun ls hl => ?_)
              refine lv_iinc (v := nI (o + 1)) (lv' := [(10, .int (nI (o + 1))), (9, .int (nI 1)), (0, .int (nI x)), (1, .int (set)), (2, .ref (a 6)), (3, .ref (a 9)), (4, .ref (a 0)), (5, .int (v5)), (6, .int (nI m6)), (7, .int (nI b9)), (8, .int (nI a8))]) hx hb dL_plays_113 hl (k := 10) rfl (k_iinc _) (by decide) rfl (fun ls hl => ?_)
              refine lv_goto (tgt := 53) hx hb dL_plays_116 (by decide) ?_
              exact ih (o + 1) S v5 (nI m6) (nI b9) (nI a8) (nI 1) (nI (o + 1)) (by omega) (by first | omega | assumption) rfl rfl rfl rfl rfl (by simp only [yLs_s, if_neg c_6, if_neg c_7, if_neg c_8, if_neg c_9]) rfl _ _ hP hS ls (lv_sub hl [2, 3, 4, 5, 6, 7, 8, 9, 10, 1, 0] rfl)

set_option maxHeartbeats 4000000 in
set_option maxRecDepth 100000 in
theorem lp_L_plays_9 {p : Program} {l : Launch} {e : Env} {u : State} {m : MethodId} {below : List Frame} {meth : Method} {c : Code} {D : va_G} {q : Nat → ClassId} {A : Nat → Prop} (a : Nat → Nat) (S : Nat → Nat → Int32) (w : va_W) (x : Nat) (set : Int32) (L : Nat) (hx12 : x < 12) (hL : yK S L) (C0 : kAt p u m #[.int (nI x), .int (set), .ref (a 6), .ref (a 9), .ref (a 0)] meth c cL_plays 11 (some .int) RL wsL_plays) (hK : kK D q u) :
    ∀ (f : Nat) (b : Nat) (T : Nat → Nat → Int32) (x5 : Int32) (x6 : Int32) (x7 : Int32), 6 - b < f → b ≤ 6 → T = S → x5 = (yWh S x set b).1 → x6 = nI (yWh S x set b).2 → x7 = nI b → ∀ (H : Heap) (locs : List Loc), kW D A (wL q a T w) H → va_S A u.heap H locs → ∀ (ls : Array Slot), lv_has ls 11 [(0, .int (nI x)), (1, .int (set)), (2, .ref (a 6)), (3, .ref (a 9)), (4, .ref (a 0)), (5, .int x5), (6, .int x6), (7, .int x7)] → W p l e ({ frames := 0, cells := 0, slots := 0, locals := 0 } : Room) u m #[.int (nI x), .int (set), .ref (a 6), .ref (a 9), .ref (a 0)] below meth c H locs 0 0 (MQ below (kRi D A (nI (yPv S x set L)) (wL q a ((yPm S x set L)) w)) #[.int (nI x), .int (set), .ref (a 6), .ref (a 9), .ref (a 0)] u 0 0 A) (F0 m 9 ls []) := by
  obtain ⟨hx, hb, hr, hml, hown, hts, hlocks⟩ := id C0
  intro f
  induction f with
  | zero =>
    intro b T x5 x6 x7 hf
    exact absurd hf (Nat.not_lt_zero _)
  | succ f ih =>
    intro b T x5 x6 x7 hf hbb eT e5 e6 e7 H locs hP hS ls hl
    replace eT := eT.symm
    subst eT
    replace e5 := e5.symm
    subst e5
    replace e6 := e6.symm
    subst e6
    replace e7 := e7.symm
    subst e7
    refine lv_iload hx hb dL_plays_9 (lv_at hl 7 rfl) ?_
    refine lv_bipush (v := nI 6) hx hb dL_plays_11 (by decide) ?_
    refine k_icmp_ge (P := b < 6) (tgt := 168) hx hb dL_plays_13 (by decide) (nI_ltI (by omega) (by omega)) (fun c_10 => ?_) (fun c_10 => ?_)
    · skip
      obtain rfl : b = 6 := by omega
      have hw6 := yWh_le (S := S) (x := x) (set := set) 6
      have hL20 := hL.2.1
      refine lv_iconst (v := nI 0) hx hb dL_plays_168 (by decide) ?_
      refine lv_istore (lv' := [(7, .int (nI 0)), (0, .int (nI x)), (1, .int (set)), (2, .ref (a 6)), (3, .ref (a 9)), (4, .ref (a 0)), (5, .int ((yWh S x set 6).1)), (6, .int (nI (yWh S x set 6).2))]) hx hb dL_plays_169 hl (by decide) rfl (fun ls hl => ?_)
      refine lv_iload hx hb dL_plays_171 (lv_at hl 7 rfl) ?_
      refine lv_iconst (v := nI 1) hx hb dL_plays_173 (by decide) ?_
      refine k_icmp_le (P := (yWh S x set 6).2 ≤ 1) (tgt := 233) hx hb dL_plays_174 (by decide) (nI_leI (by omega) (by omega)) (fun c_11 => ?_) (fun c_11 => ?_)
      · skip
        refine lv_iconst (v := nI 0) hx hb dL_plays_233 (by decide) ?_
        refine lv_istore (lv' := [(8, .int (nI 0)), (7, .int (nI 0)), (0, .int (nI x)), (1, .int (set)), (2, .ref (a 6)), (3, .ref (a 9)), (4, .ref (a 0)), (5, .int ((yWh S x set 6).1)), (6, .int (nI (yWh S x set 6).2))]) hx hb dL_plays_234 hl (by decide) rfl (fun ls hl => ?_)
        exact lp_L_plays_236 a S w x set L hx12 hL C0 hK ((6 - 0) + 1) 0 0 S ((yWh S x set 6).1) (nI 0) (nI 0) (by omega) (by first | omega | assumption) (by omega) (by unfold yPv yLe; rw [if_pos c_11]) (by unfold yPm; rw [if_pos c_11]) rfl rfl rfl _ _ hP hS ls (lv_sub hl [2, 3, 4, 5, 6, 7, 1, 0] rfl)
      · skip
        refine lv_aload hx hb dL_plays_177 (lv_at hl 5 rfl) ?_
        refine lv_iconst (v := nI 3) hx hb dL_plays_179 (by decide) ?_
        refine k_iald hx hb hK hP.1 0 rfl 3 rfl (by omega) (by decide) dL_plays_180 ?_
        refine k_top (y := nI L) hL.1 ?_
        refine k_if_le (P := L = 0) (tgt := 233) hx hb dL_plays_181 (by decide) (k_nle0 (by omega)) (fun c_12 => ?_) (fun c_12 => ?_)
        · skip
          refine lv_iconst (v := nI 0) hx hb dL_plays_233 (by decide) ?_
          refine lv_istore (lv' := [(8, .int (nI 0)), (7, .int (nI 0)), (0, .int (nI x)), (1, .int (set)), (2, .ref (a 6)), (3, .ref (a 9)), (4, .ref (a 0)), (5, .int ((yWh S x set 6).1)), (6, .int (nI (yWh S x set 6).2))]) hx hb dL_plays_234 hl (by decide) rfl (fun ls hl => ?_)
          exact lp_L_plays_236 a S w x set L hx12 hL C0 hK ((6 - 0) + 1) 0 0 S ((yWh S x set 6).1) (nI 0) (nI 0) (by omega) (by first | omega | assumption) (by omega) (by unfold yPv yLe; rw [if_neg c_11, if_pos c_12]) (by unfold yPm; rw [if_neg c_11, if_pos c_12]) rfl rfl rfl _ _ hP hS ls (lv_sub hl [2, 3, 4, 5, 6, 7, 1, 0] rfl)
        · skip
          refine lv_aload_n hx hb dL_plays_184 rfl (lv_at hl 3 rfl) ?_
          refine lv_bipush (v := nI 20) hx hb dL_plays_185 (by decide) ?_
          refine k_iald hx hb hK hP.1 6 rfl 20 rfl (by omega) (by decide) dL_plays_187 ?_
          refine k_top (y := nI (ix S 6 20)) (yK_20 hL c_12).1 ?_
          refine lv_iload hx hb dL_plays_188 (lv_at hl 7 rfl) ?_
          refine lv_irem hx hb dL_plays_190 (fun z => absurd ((k_n0 (by omega)).mp z) (by omega)) ?_
          refine k_top (y := nI (ix S 6 20 % (yWh S x set 6).2)) (pk_rem (by have := (yK_20 hL c_12).2; omega) (by omega) (by omega)) ?_
          refine lv_istore (lv' := [(7, .int (nI (ix S 6 20 % (yWh S x set 6).2))), (0, .int (nI x)), (1, .int (set)), (2, .ref (a 6)), (3, .ref (a 9)), (4, .ref (a 0)), (5, .int ((yWh S x set 6).1)), (6, .int (nI (yWh S x set 6).2))]) hx hb dL_plays_191 hl (by decide) rfl (fun ls hl => ?_)
          refine lv_aload hx hb dL_plays_193 (lv_at hl 5 rfl) ?_
          refine lv_iconst (v := nI 3) hx hb dL_plays_195 (by decide) ?_
          refine lv_dup2_11 hx hb dL_plays_196 rfl rfl ?_
          refine k_iald hx hb hK hP.1 0 rfl 3 rfl (by omega) (by decide) dL_plays_197 ?_
          refine k_top (y := nI L) hL.1 ?_
          refine lv_iconst (v := nI 1) hx hb dL_plays_198 (by decide) ?_
          refine lv_isub hx hb dL_plays_199 ?_
          refine k_top (y := nI (L - 1)) (pk_sub (by omega)) ?_
          refine k_iast (wL q a ((up S 0 3 (nI (L - 1)))) w) hx hb hK hP hS 0 rfl 3 rfl (by omega) (by decide) wL_s0 dL_plays_200 (fun H locs hP hS => ?_)
          refine lv_bipush (v := nI 20) hx hb dL_plays_201 (by decide) ?_
          refine lv_istore (lv' := [(8, .int (nI 20)), (7, .int (nI (ix S 6 20 % (yWh S x set 6).2))), (0, .int (nI x)), (1, .int (set)), (2, .ref (a 6)), (3, .ref (a 9)), (4, .ref (a 0)), (5, .int ((yWh S x set 6).1)), (6, .int (nI (yWh S x set 6).2))]) hx hb dL_plays_203 hl (by decide) rfl (fun ls hl => ?_)
          refine lp_L_plays_205 a S w x set L hx12 hL (ix S 6 20 % (yWh S x set 6).2) ((yWh S x set 6).1) c_12 C0 hK ?_ ((L - 1 - 0) + 1) 0 ((up S 0 3 (nI (L - 1)))) ((yWh S x set 6).1) (nI (ix S 6 20 % (yWh S x set 6).2)) (nI 20) (by omega) (by first | omega | assumption) (by first | assumption | exact hL.2.1) (by rfl) (by first | (simp only [if_neg c_11, if_neg c_12]; done) | (simp only [if_neg c_11, if_neg c_12]; rfl) | (simp [if_neg c_11, if_neg c_12]; done) | rfl) rfl (by first | (simp only [if_neg c_11, if_neg c_12]; done) | (simp only [if_neg c_11, if_neg c_12]; rfl) | (simp [if_neg c_11, if_neg c_12]; done) | rfl) _ _ hP hS ls (lv_sub hl [2, 3, 4, 5, 6, 7, 1, 0] rfl)
          intro H locs hP hS ls hl
          refine lv_iconst (v := nI 0) hx hb dL_plays_233 (by decide) ?_
          refine lv_istore (lv' := [(8, .int (nI 0)), (0, .int (nI x)), (1, .int (set)), (2, .ref (a 6)), (3, .ref (a 9)), (4, .ref (a 0)), (5, .int (((yWh S x set 6).1))), (7, .int (nI (ix S 6 20 % (yWh S x set 6).2)))]) hx hb dL_plays_234 hl (by decide) rfl (fun ls hl => ?_)
          exact lp_L_plays_236 a S w x set L hx12 hL C0 hK ((6 - 0) + 1) 0 ((ix S 6 20 % (yWh S x set 6).2)) ((ySh (up S 0 3 (nI (L - 1))) (L - 1))) (((yWh S x set 6).1)) (nI (ix S 6 20 % (yWh S x set 6).2)) (nI 0) (by omega) (by first | omega | assumption) (by exact Nat.le_trans (Nat.mod_le _ _) (yK_20 hL c_12).2) (by unfold yPv yLe; rw [if_neg c_11, if_neg c_12]) (by unfold yPm; rw [if_neg c_11, if_neg c_12]) (by rfl) (by rfl) rfl _ _ hP hS ls (lv_sub hl [1, 2, 3, 4, 5, 6, 7, 0] rfl)
    · skip
      refine lv_aload_n hx hb dL_plays_16 rfl (lv_at hl 3 rfl) ?_
      refine lv_bipush (v := nI 18) hx hb dL_plays_17 (by decide) ?_
      refine lv_iload hx hb dL_plays_19 (lv_at hl 7 rfl) ?_
      refine lv_iadd hx hb dL_plays_21 ?_
      refine k_top (y := nI (18 + b)) (nI_add _ _) ?_
      refine k_iald hx hb hK hP.1 9 rfl (18 + b) rfl (by omega) (by decide) dL_plays_22 ?_
      refine lv_iload_n hx hb dL_plays_23 rfl (lv_at hl 0 rfl) ?_
      refine lv_ishr hx hb dL_plays_24 ?_
      refine lv_iconst (v := nI 1) hx hb dL_plays_25 (by decide) ?_
      refine lv_iand hx hb dL_plays_26 ?_
      refine lv_iconst (v := nI 1) hx hb dL_plays_27 (by decide) ?_
      refine k_icmp_ne (P := ((S 9 (18 + b)) >>> ((nI x) &&& 31)) &&& (nI 1) = nI 1) (tgt := 44) hx hb dL_plays_28 (by decide) Iff.rfl (fun c_13 => ?_) (fun c_13 => ?_)
      · skip
        refine lv_iconst (v := nI 0) hx hb dL_plays_44 (by decide) ?_
        refine lv_istore (lv' := [(8, .int (nI 0)), (0, .int (nI x)), (1, .int (set)), (2, .ref (a 6)), (3, .ref (a 9)), (4, .ref (a 0)), (5, .int ((yWh S x set b).1)), (6, .int (nI (yWh S x set b).2)), (7, .int (nI b))]) hx hb dL_plays_45 hl (by decide) rfl (fun ls hl => ?_)
        refine lv_iconst (v := nI 1) hx hb dL_plays_47 (by decide) ?_
        refine lv_istore (lv' := [(9, .int (nI 1)), (8, .int (nI 0)), (0, .int (nI x)), (1, .int (set)), (2, .ref (a 6)), (3, .ref (a 9)), (4, .ref (a 0)), (5, .int ((yWh S x set b).1)), (6, .int (nI (yWh S x set b).2)), (7, .int (nI b))]) hx hb dL_plays_48 hl (by decide) rfl (fun ls hl => ?_)
        refine lv_iconst (v := nI 0) hx hb dL_plays_50 (by decide) ?_
        refine lv_istore (lv' := [(10, .int (nI 0)), (9, .int (nI 1)), (8, .int (nI 0)), (0, .int (nI x)), (1, .int (set)), (2, .ref (a 6)), (3, .ref (a 9)), (4, .ref (a 0)), (5, .int ((yWh S x set b).1)), (6, .int (nI (yWh S x set b).2)), (7, .int (nI b))]) hx hb dL_plays_51 hl (by decide) rfl (fun ls hl => ?_)
        refine lp_L_plays_53 a S w x set L hx12 hL b ((yWh S x set b).2) 0 ((yWh S x set b).1) (by omega) C0 hK ?_ ((6 - 0) + 1) 0 S ((yWh S x set b).1) (nI (yWh S x set b).2) (nI b) (nI 0) (nI 1) (nI 0) (by omega) (by first | omega | assumption) rfl (by first | (simp only [if_neg c_13]; done) | (simp only [if_neg c_13]; rfl) | (simp [if_neg c_13]; done) | rfl) (by first | (simp only [if_neg c_13]; done) | (simp only [if_neg c_13]; rfl) | (simp [if_neg c_13]; done) | rfl) rfl rfl (by rfl) rfl _ _ hP hS ls (lv_sub hl [3, 4, 5, 6, 7, 8, 9, 10, 2, 1, 0] rfl)
        intro H locs hP hS ls hl
        refine lv_iload hx hb dL_plays_119 (lv_at hl 5 rfl) ?_
        refine lv_iload hx hb dL_plays_121 (lv_at hl 8 rfl) ?_
        refine k_if_eq (P := True) (tgt := 138) hx hb dL_plays_123 (by decide) ⟨fun _ => trivial, fun _ => rfl⟩ (fun c_14 => ?_) (fun c_14 => ?_)
        · skip
          refine lv_iconst (v := nI 0) hx hb dL_plays_138 (by decide) ?_
          refine lv_ior hx hb dL_plays_139 ?_
          refine lv_istore (lv' := [(5, .int ((((yWh S x set b).1)) ||| (nI 0))), (0, .int (nI x)), (1, .int (set)), (2, .ref (a 6)), (3, .ref (a 9)), (4, .ref (a 0)), (6, .int (nI ((yWh S x set b).2))), (7, .int (nI b)), (8, .int (nI 0)), (9, .int (yLs S x set b 6)), (10, .int (nI 6))]) hx hb dL_plays_140 hl (by decide) rfl (fun ls hl => ?_)
          refine lv_iload hx hb dL_plays_142 (lv_at hl 6 rfl) ?_
          refine lv_iload hx hb dL_plays_144 (lv_at hl 8 rfl) ?_
          refine k_if_eq (P := True) (tgt := 158) hx hb dL_plays_146 (by decide) ⟨fun _ => trivial, fun _ => rfl⟩ (fun c_15 => ?_) (fun c_15 => ?_)
          · skip
            refine lv_iconst (v := nI 0) hx hb dL_plays_158 (by decide) ?_
            refine lv_iadd hx hb dL_plays_159 ?_
            refine k_top (y := nI (((yWh S x set b).2) + 0)) (nI_add _ _) ?_
            refine lv_istore (lv' := [(6, .int (nI (((yWh S x set b).2) + 0))), (5, .int ((((yWh S x set b).1)) ||| (nI 0))), (0, .int (nI x)), (1, .int (set)), (2, .ref (a 6)), (3, .ref (a 9)), (4, .ref (a 0)), (7, .int (nI b)), (8, .int (nI 0)), (9, .int (yLs S x set b 6)), (10, .int (nI 6))]) hx hb dL_plays_160 hl (by decide) rfl (fun ls hl => ?_)
            refine lv_iinc (v := nI (b + 1)) (lv' := [(7, .int (nI (b + 1))), (6, .int (nI (((yWh S x set b).2) + 0))), (5, .int ((((yWh S x set b).1)) ||| (nI 0))), (0, .int (nI x)), (1, .int (set)), (2, .ref (a 6)), (3, .ref (a 9)), (4, .ref (a 0)), (8, .int (nI 0)), (9, .int (yLs S x set b 6)), (10, .int (nI 6))]) hx hb dL_plays_162 hl (k := 7) rfl (k_iinc _) (by decide) rfl (fun ls hl => ?_)
            refine lv_goto (tgt := 9) hx hb dL_plays_165 (by decide) ?_
            exact ih (b + 1) S ((((yWh S x set b).1)) ||| (nI 0)) (nI (((yWh S x set b).2) + 0)) (nI (b + 1)) (by omega) (by first | omega | assumption) rfl (by rw [yWh_s, if_neg (fun z => c_13 z.1.1)]; try rfl) (by rw [yWh_s, if_neg (fun z => c_13 z.1.1)]; try rfl) rfl _ _ hP hS ls (lv_sub hl [3, 4, 5, 6, 7, 2, 1, 0] rfl)
          · skip
            exact (c_15 trivial).elim
        · skip
          exact (c_14 trivial).elim
      · skip
        refine lv_iload_n hx hb dL_plays_31 rfl (lv_at hl 1 rfl) ?_
        refine lv_iload hx hb dL_plays_32 (lv_at hl 7 rfl) ?_
        refine lv_ishr hx hb dL_plays_34 ?_
        refine lv_iconst (v := nI 1) hx hb dL_plays_35 (by decide) ?_
        refine lv_iand hx hb dL_plays_36 ?_
        refine k_if_ne (P := (set >>> ((nI b) &&& 31)) &&& (nI 1) = 0) (tgt := 44) hx hb dL_plays_37 (by decide) Iff.rfl (fun c_16 => ?_) (fun c_16 => ?_)
        · skip
          refine lv_iconst (v := nI 0) hx hb dL_plays_44 (by decide) ?_
          refine lv_istore (lv' := [(8, .int (nI 0)), (0, .int (nI x)), (1, .int (set)), (2, .ref (a 6)), (3, .ref (a 9)), (4, .ref (a 0)), (5, .int ((yWh S x set b).1)), (6, .int (nI (yWh S x set b).2)), (7, .int (nI b))]) hx hb dL_plays_45 hl (by decide) rfl (fun ls hl => ?_)
          refine lv_iconst (v := nI 1) hx hb dL_plays_47 (by decide) ?_
          refine lv_istore (lv' := [(9, .int (nI 1)), (8, .int (nI 0)), (0, .int (nI x)), (1, .int (set)), (2, .ref (a 6)), (3, .ref (a 9)), (4, .ref (a 0)), (5, .int ((yWh S x set b).1)), (6, .int (nI (yWh S x set b).2)), (7, .int (nI b))]) hx hb dL_plays_48 hl (by decide) rfl (fun ls hl => ?_)
          refine lv_iconst (v := nI 0) hx hb dL_plays_50 (by decide) ?_
          refine lv_istore (lv' := [(10, .int (nI 0)), (9, .int (nI 1)), (8, .int (nI 0)), (0, .int (nI x)), (1, .int (set)), (2, .ref (a 6)), (3, .ref (a 9)), (4, .ref (a 0)), (5, .int ((yWh S x set b).1)), (6, .int (nI (yWh S x set b).2)), (7, .int (nI b))]) hx hb dL_plays_51 hl (by decide) rfl (fun ls hl => ?_)
          refine lp_L_plays_53 a S w x set L hx12 hL b ((yWh S x set b).2) 0 ((yWh S x set b).1) (by omega) C0 hK ?_ ((6 - 0) + 1) 0 S ((yWh S x set b).1) (nI (yWh S x set b).2) (nI b) (nI 0) (nI 1) (nI 0) (by omega) (by first | omega | assumption) rfl (by first | (simp only [if_pos c_13, if_neg c_16]; done) | (simp only [if_pos c_13, if_neg c_16]; rfl) | (simp [if_pos c_13, if_neg c_16]; done) | rfl) (by first | (simp only [if_pos c_13, if_neg c_16]; done) | (simp only [if_pos c_13, if_neg c_16]; rfl) | (simp [if_pos c_13, if_neg c_16]; done) | rfl) rfl rfl (by rfl) rfl _ _ hP hS ls (lv_sub hl [3, 4, 5, 6, 7, 8, 9, 10, 2, 1, 0] rfl)
          intro H locs hP hS ls hl
          refine lv_iload hx hb dL_plays_119 (lv_at hl 5 rfl) ?_
          refine lv_iload hx hb dL_plays_121 (lv_at hl 8 rfl) ?_
          refine k_if_eq (P := True) (tgt := 138) hx hb dL_plays_123 (by decide) ⟨fun _ => trivial, fun _ => rfl⟩ (fun c_17 => ?_) (fun c_17 => ?_)
          · skip
            refine lv_iconst (v := nI 0) hx hb dL_plays_138 (by decide) ?_
            refine lv_ior hx hb dL_plays_139 ?_
            refine lv_istore (lv' := [(5, .int ((((yWh S x set b).1)) ||| (nI 0))), (0, .int (nI x)), (1, .int (set)), (2, .ref (a 6)), (3, .ref (a 9)), (4, .ref (a 0)), (6, .int (nI ((yWh S x set b).2))), (7, .int (nI b)), (8, .int (nI 0)), (9, .int (yLs S x set b 6)), (10, .int (nI 6))]) hx hb dL_plays_140 hl (by decide) rfl (fun ls hl => ?_)
            refine lv_iload hx hb dL_plays_142 (lv_at hl 6 rfl) ?_
            refine lv_iload hx hb dL_plays_144 (lv_at hl 8 rfl) ?_
            refine k_if_eq (P := True) (tgt := 158) hx hb dL_plays_146 (by decide) ⟨fun _ => trivial, fun _ => rfl⟩ (fun c_18 => ?_) (fun c_18 => ?_)
            · skip
              refine lv_iconst (v := nI 0) hx hb dL_plays_158 (by decide) ?_
              refine lv_iadd hx hb dL_plays_159 ?_
              refine k_top (y := nI (((yWh S x set b).2) + 0)) (nI_add _ _) ?_
              refine lv_istore (lv' := [(6, .int (nI (((yWh S x set b).2) + 0))), (5, .int ((((yWh S x set b).1)) ||| (nI 0))), (0, .int (nI x)), (1, .int (set)), (2, .ref (a 6)), (3, .ref (a 9)), (4, .ref (a 0)), (7, .int (nI b)), (8, .int (nI 0)), (9, .int (yLs S x set b 6)), (10, .int (nI 6))]) hx hb dL_plays_160 hl (by decide) rfl (fun ls hl => ?_)
              refine lv_iinc (v := nI (b + 1)) (lv' := [(7, .int (nI (b + 1))), (6, .int (nI (((yWh S x set b).2) + 0))), (5, .int ((((yWh S x set b).1)) ||| (nI 0))), (0, .int (nI x)), (1, .int (set)), (2, .ref (a 6)), (3, .ref (a 9)), (4, .ref (a 0)), (8, .int (nI 0)), (9, .int (yLs S x set b 6)), (10, .int (nI 6))]) hx hb dL_plays_162 hl (k := 7) rfl (k_iinc _) (by decide) rfl (fun ls hl => ?_)
              refine lv_goto (tgt := 9) hx hb dL_plays_165 (by decide) ?_
              exact ih (b + 1) S ((((yWh S x set b).1)) ||| (nI 0)) (nI (((yWh S x set b).2) + 0)) (nI (b + 1)) (by omega) (by first | omega | assumption) rfl (by rw [yWh_s, if_neg (fun z => c_16 z.1.2)]; try rfl) (by rw [yWh_s, if_neg (fun z => c_16 z.1.2)]; try rfl) rfl _ _ hP hS ls (lv_sub hl [3, 4, 5, 6, 7, 2, 1, 0] rfl)
            · skip
              exact (c_18 trivial).elim
          · skip
            exact (c_17 trivial).elim
        · skip
          refine lv_iconst (v := nI 1) hx hb dL_plays_40 (by decide) ?_
          refine lv_goto (tgt := 45) hx hb dL_plays_41 (by decide) ?_
          refine lv_istore (lv' := [(8, .int (nI 1)), (0, .int (nI x)), (1, .int (set)), (2, .ref (a 6)), (3, .ref (a 9)), (4, .ref (a 0)), (5, .int ((yWh S x set b).1)), (6, .int (nI (yWh S x set b).2)), (7, .int (nI b))]) hx hb dL_plays_45 hl (by decide) rfl (fun ls hl => ?_)
          refine lv_iconst (v := nI 1) hx hb dL_plays_47 (by decide) ?_
          refine lv_istore (lv' := [(9, .int (nI 1)), (8, .int (nI 1)), (0, .int (nI x)), (1, .int (set)), (2, .ref (a 6)), (3, .ref (a 9)), (4, .ref (a 0)), (5, .int ((yWh S x set b).1)), (6, .int (nI (yWh S x set b).2)), (7, .int (nI b))]) hx hb dL_plays_48 hl (by decide) rfl (fun ls hl => ?_)
          refine lv_iconst (v := nI 0) hx hb dL_plays_50 (by decide) ?_
          refine lv_istore (lv' := [(10, .int (nI 0)), (9, .int (nI 1)), (8, .int (nI 1)), (0, .int (nI x)), (1, .int (set)), (2, .ref (a 6)), (3, .ref (a 9)), (4, .ref (a 0)), (5, .int ((yWh S x set b).1)), (6, .int (nI (yWh S x set b).2)), (7, .int (nI b))]) hx hb dL_plays_51 hl (by decide) rfl (fun ls hl => ?_)
          refine lp_L_plays_53 a S w x set L hx12 hL b ((yWh S x set b).2) 1 ((yWh S x set b).1) (by omega) C0 hK ?_ ((6 - 0) + 1) 0 S ((yWh S x set b).1) (nI (yWh S x set b).2) (nI b) (nI 1) (nI 1) (nI 0) (by omega) (by first | omega | assumption) rfl (by first | (simp only [if_pos c_13, if_pos c_16]; done) | (simp only [if_pos c_13, if_pos c_16]; rfl) | (simp [if_pos c_13, if_pos c_16]; done) | rfl) (by first | (simp only [if_pos c_13, if_pos c_16]; done) | (simp only [if_pos c_13, if_pos c_16]; rfl) | (simp [if_pos c_13, if_pos c_16]; done) | rfl) rfl rfl (by rfl) rfl _ _ hP hS ls (lv_sub hl [3, 4, 5, 6, 7, 8, 9, 10, 2, 1, 0] rfl)
          intro H locs hP hS ls hl
          refine lv_iload hx hb dL_plays_119 (lv_at hl 5 rfl) ?_
          refine lv_iload hx hb dL_plays_121 (lv_at hl 8 rfl) ?_
          refine k_if_eq (P := False) (tgt := 138) hx hb dL_plays_123 (by decide) ⟨fun z => absurd z (by decide), False.elim⟩ (fun c_19 => ?_) (fun c_19 => ?_)
          · skip
            exact c_19.elim
          · skip
            refine lv_iload hx hb dL_plays_126 (lv_at hl 9 rfl) ?_
            refine k_if_eq (P := yLs S x set b 6 = 0) (tgt := 138) hx hb dL_plays_128 (by decide) Iff.rfl (fun c_20 => ?_) (fun c_20 => ?_)
            · skip
              refine lv_iconst (v := nI 0) hx hb dL_plays_138 (by decide) ?_
              refine lv_ior hx hb dL_plays_139 ?_
              refine lv_istore (lv' := [(5, .int ((((yWh S x set b).1)) ||| (nI 0))), (0, .int (nI x)), (1, .int (set)), (2, .ref (a 6)), (3, .ref (a 9)), (4, .ref (a 0)), (6, .int (nI ((yWh S x set b).2))), (7, .int (nI b)), (8, .int (nI 1)), (9, .int (yLs S x set b 6)), (10, .int (nI 6))]) hx hb dL_plays_140 hl (by decide) rfl (fun ls hl => ?_)
              refine lv_iload hx hb dL_plays_142 (lv_at hl 6 rfl) ?_
              refine lv_iload hx hb dL_plays_144 (lv_at hl 8 rfl) ?_
              refine k_if_eq (P := False) (tgt := 158) hx hb dL_plays_146 (by decide) ⟨fun z => absurd z (by decide), False.elim⟩ (fun c_21 => ?_) (fun c_21 => ?_)
              · skip
                exact c_21.elim
              · skip
                refine lv_iload hx hb dL_plays_149 (lv_at hl 9 rfl) ?_
                refine k_if_eq (P := yLs S x set b 6 = 0) (tgt := 158) hx hb dL_plays_151 (by decide) Iff.rfl (fun c_22 => ?_) (fun c_22 => ?_)
                · skip
                  refine lv_iconst (v := nI 0) hx hb dL_plays_158 (by decide) ?_
                  refine lv_iadd hx hb dL_plays_159 ?_
                  refine k_top (y := nI (((yWh S x set b).2) + 0)) (nI_add _ _) ?_
                  refine lv_istore (lv' := [(6, .int (nI (((yWh S x set b).2) + 0))), (5, .int ((((yWh S x set b).1)) ||| (nI 0))), (0, .int (nI x)), (1, .int (set)), (2, .ref (a 6)), (3, .ref (a 9)), (4, .ref (a 0)), (7, .int (nI b)), (8, .int (nI 1)), (9, .int (yLs S x set b 6)), (10, .int (nI 6))]) hx hb dL_plays_160 hl (by decide) rfl (fun ls hl => ?_)
                  refine lv_iinc (v := nI (b + 1)) (lv' := [(7, .int (nI (b + 1))), (6, .int (nI (((yWh S x set b).2) + 0))), (5, .int ((((yWh S x set b).1)) ||| (nI 0))), (0, .int (nI x)), (1, .int (set)), (2, .ref (a 6)), (3, .ref (a 9)), (4, .ref (a 0)), (8, .int (nI 1)), (9, .int (yLs S x set b 6)), (10, .int (nI 6))]) hx hb dL_plays_162 hl (k := 7) rfl (k_iinc _) (by decide) rfl (fun ls hl => ?_)
                  refine lv_goto (tgt := 9) hx hb dL_plays_165 (by decide) ?_
                  exact ih (b + 1) S ((((yWh S x set b).1)) ||| (nI 0)) (nI (((yWh S x set b).2) + 0)) (nI (b + 1)) (by omega) (by first | omega | assumption) rfl (by rw [yWh_s, if_neg (fun z => z.2 c_20)]; try rfl) (by rw [yWh_s, if_neg (fun z => z.2 c_20)]; try rfl) rfl _ _ hP hS ls (lv_sub hl [3, 4, 5, 6, 7, 2, 1, 0] rfl)
                · skip
                  exact absurd c_20 c_22
            · skip
              refine lv_iconst (v := nI 1) hx hb dL_plays_131 (by decide) ?_
              refine lv_iload hx hb dL_plays_132 (lv_at hl 7 rfl) ?_
              refine lv_ishl hx hb dL_plays_134 ?_
              refine lv_goto (tgt := 139) hx hb dL_plays_135 (by decide) ?_
              refine lv_ior hx hb dL_plays_139 ?_
              refine lv_istore (lv' := [(5, .int ((((yWh S x set b).1)) ||| ((nI 1) <<< ((nI b) &&& 31)))), (0, .int (nI x)), (1, .int (set)), (2, .ref (a 6)), (3, .ref (a 9)), (4, .ref (a 0)), (6, .int (nI ((yWh S x set b).2))), (7, .int (nI b)), (8, .int (nI 1)), (9, .int (yLs S x set b 6)), (10, .int (nI 6))]) hx hb dL_plays_140 hl (by decide) rfl (fun ls hl => ?_)
              refine lv_iload hx hb dL_plays_142 (lv_at hl 6 rfl) ?_
              refine lv_iload hx hb dL_plays_144 (lv_at hl 8 rfl) ?_
              refine k_if_eq (P := False) (tgt := 158) hx hb dL_plays_146 (by decide) ⟨fun z => absurd z (by decide), False.elim⟩ (fun c_23 => ?_) (fun c_23 => ?_)
              · skip
                exact c_23.elim
              · skip
                refine lv_iload hx hb dL_plays_149 (lv_at hl 9 rfl) ?_
                refine k_if_eq (P := yLs S x set b 6 = 0) (tgt := 158) hx hb dL_plays_151 (by decide) Iff.rfl (fun c_24 => ?_) (fun c_24 => ?_)
                · skip
                  exact absurd c_24 c_20
                · skip
                  refine lv_iconst (v := nI 1) hx hb dL_plays_154 (by decide) ?_
                  refine lv_goto (tgt := 159) hx hb dL_plays_155 (by decide) ?_
                  refine lv_iadd hx hb dL_plays_159 ?_
                  refine k_top (y := nI (((yWh S x set b).2) + 1)) (nI_add _ _) ?_
                  refine lv_istore (lv' := [(6, .int (nI (((yWh S x set b).2) + 1))), (5, .int ((((yWh S x set b).1)) ||| ((nI 1) <<< ((nI b) &&& 31)))), (0, .int (nI x)), (1, .int (set)), (2, .ref (a 6)), (3, .ref (a 9)), (4, .ref (a 0)), (7, .int (nI b)), (8, .int (nI 1)), (9, .int (yLs S x set b 6)), (10, .int (nI 6))]) hx hb dL_plays_160 hl (by decide) rfl (fun ls hl => ?_)
                  refine lv_iinc (v := nI (b + 1)) (lv' := [(7, .int (nI (b + 1))), (6, .int (nI (((yWh S x set b).2) + 1))), (5, .int ((((yWh S x set b).1)) ||| ((nI 1) <<< ((nI b) &&& 31)))), (0, .int (nI x)), (1, .int (set)), (2, .ref (a 6)), (3, .ref (a 9)), (4, .ref (a 0)), (8, .int (nI 1)), (9, .int (yLs S x set b 6)), (10, .int (nI 6))]) hx hb dL_plays_162 hl (k := 7) rfl (k_iinc _) (by decide) rfl (fun ls hl => ?_)
                  refine lv_goto (tgt := 9) hx hb dL_plays_165 (by decide) ?_
                  exact ih (b + 1) S ((((yWh S x set b).1)) ||| ((nI 1) <<< ((nI b) &&& 31))) (nI (((yWh S x set b).2) + 1)) (nI (b + 1)) (by omega) (by first | omega | assumption) rfl (by rw [yWh_s, if_pos ⟨⟨c_13, c_16⟩, c_20⟩]; try rfl) (by rw [yWh_s, if_pos ⟨⟨c_13, c_16⟩, c_20⟩]; try rfl) rfl _ _ hP hS ls (lv_sub hl [3, 4, 5, 6, 7, 2, 1, 0] rfl)
set_option maxHeartbeats 4000000 in
set_option maxRecDepth 100000 in
theorem c_L_plays (l : Launch) (D : va_G) (q : Nat → ClassId) (A : Nat → Prop) (a : Nat → Nat) (S : Nat → Nat → Int32) (w : va_W) (x : Nat) (set : Int32) (L : Nat) (hx12 : x < 12) (hL : yK S L) : Met l yL_plays wsL_plays ({ frames := 0, cells := 0, slots := 0, locals := 0 } : Room) (va_Pc [.int (nI x), .int (set), .ref (a 6), .ref (a 9), .ref (a 0)] (kB D q (fun H => kW D A (wL q a S w) H))) (kRi D A (nI (yPv S x set L)) (wL q a ((yPm S x set L)) w)) 0 0 A := by
  refine Met.ofW (cc := cL_plays) (maxL := 11) (ret := (some .int)) (by decide) rfl ?_
  intro p e u m args below meth c s₁ B hml0 hv
  obtain ⟨rfl, hP, hK⟩ := hv
  have C0 : kAt p u m #[.int (nI x), .int (set), .ref (a 6), .ref (a 9), .ref (a 0)] meth c cL_plays 11 (some .int) RL wsL_plays := kAt_of B hml0
  obtain ⟨hx, hb, hr, hml, hown, hts, hlocks⟩ := id C0
  have hS : va_S A u.heap u.heap [] := va_S.rf
  have hl := lv_entry ([.int (nI x), .int (set), .ref (a 6), .ref (a 9), .ref (a 0)]) (n := 11) (Nat.le_of_ble_eq_true rfl)
  rw [lg_entry_eq]
  generalize (lg_sl ([.int (nI x), .int (set), .ref (a 6), .ref (a 9), .ref (a 0)]) ++ List.replicate (11 - (lg_sl ([.int (nI x), .int (set), .ref (a 6), .ref (a 9), .ref (a 0)])).length) Slot.unset).toArray = ls at hl ⊢
  have hl : lv_has ls 11 [(0, .int (nI x)), (1, .int (set)), (2, .ref (a 6)), (3, .ref (a 9)), (4, .ref (a 0))] := hl
  refine lv_iconst (v := nI 0) hx hb dL_plays_0 (by decide) ?_
  refine lv_istore (lv' := [(5, .int (nI 0)), (0, .int (nI x)), (1, .int (set)), (2, .ref (a 6)), (3, .ref (a 9)), (4, .ref (a 0))]) hx hb dL_plays_1 hl (by decide) rfl (fun ls hl => ?_)
  refine lv_iconst (v := nI 0) hx hb dL_plays_3 (by decide) ?_
  refine lv_istore (lv' := [(6, .int (nI 0)), (5, .int (nI 0)), (0, .int (nI x)), (1, .int (set)), (2, .ref (a 6)), (3, .ref (a 9)), (4, .ref (a 0))]) hx hb dL_plays_4 hl (by decide) rfl (fun ls hl => ?_)
  refine lv_iconst (v := nI 0) hx hb dL_plays_6 (by decide) ?_
  refine lv_istore (lv' := [(7, .int (nI 0)), (6, .int (nI 0)), (5, .int (nI 0)), (0, .int (nI x)), (1, .int (set)), (2, .ref (a 6)), (3, .ref (a 9)), (4, .ref (a 0))]) hx hb dL_plays_7 hl (by decide) rfl (fun ls hl => ?_)
  exact lp_L_plays_9 a S w x set L hx12 hL C0 hK ((6 - 0) + 1) 0 S (nI 0) (nI 0) (nI 0) (by omega) (by first | omega | assumption) rfl (by rfl) (by rfl) rfl _ _ hP hS ls (lv_sub hl [3, 4, 5, 6, 7, 2, 1, 0] rfl)
