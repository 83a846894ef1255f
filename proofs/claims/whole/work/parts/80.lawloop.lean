theorem ll_gt {L i : Nat} (hL : L ≤ 3072) (hi : i ≤ 4000) (h : L < i + 6) : Int32.ofNat L - nI 6 < nI i := by
  show nI L - nI 6 < nI i
  rcases Nat.lt_or_ge L 6 with c | c
  · have h1 := pk_sneg (a := L) (b := 6) (by decide) c
    have h2 : ¬ nI i < 0 := nI_pos (by omega)
    exact Int32.lt_of_lt_of_le h1 (Int32.not_lt.mp h2)
  · rw [pk_sub c]
    exact (nI_ltI (by omega) (by omega)).mpr (by omega)
set_option maxHeartbeats 4000000 in
set_option maxRecDepth 100000 in
theorem law_loop {p : Program} {l : Launch} {e : Env} {s : State} {m : MethodId} {below : List Frame} {meth : Method} {c : Code} {b L : Nat} {xs : Nat → Int32} {D : va_G} {q : Nat → ClassId} {e0 : Nat} (E : lEnv p l s m meth c b L xs D q e0) (hL : L ≤ 3072) : ∀ (f j i k9 n9 : Nat), i = 6 * j → k9 = 60 + 9 * j → n9 = 24000 + 97 * j → j ≤ 513 → L < i + 6 * f → lK p l e s m below meth c b D q e0 i k9 n9 23 := by
  obtain ⟨⟨hx, hb, hr, hml, hown, hts0, hX0, hbl, hlocks, -⟩, hK, hX, hE, hl0⟩ := id E
  have hbA : ¬ lA s b := Nat.not_le.mpr hbl
  intro f
  induction f with
  | zero =>
    intro j i k9 n9 ei ek en hj hf H locs ls hst
    obtain ⟨S, T, a, am, o, g, cap, n, w, nl, L9, hP, hS, hR, hcap, hl⟩ := hst
    refine lv_iload hx hb dL_law_23 (lv_at hl 4 rfl) ?_
    refine lv_aload_n hx hb dL_law_25 rfl (lv_at hl 0 rfl) ?_
    refine va_slen hx hb hX0 hbl hbA hS dL_law_26 ?_
    refine lv_bipush (v := nI 6) hx hb dL_law_27 (by decide) ?_
    refine lv_isub hx hb dL_law_29 ?_
    refine lv_icmp_gt (tgt := 2032) hx hb dL_law_30 (by decide) (fun _ => ?_) (fun z => absurd (ll_gt (by omega) (by omega) (by omega)) z)
    refine lv_iconst (v := 1) hx hb dL_law_2032 (by decide) ?_
    refine va_forget (fun q hq => hS.2.2 q hq) ?_
    refine W.widen (k := 601024) (n := 7293034) (by omega) (by omega) ?_
    exact lw_ret hx hb hr hlocks dL_law_2033
  | succ f ih =>
    intro j i k9 n9 ei ek en hj hf H locs ls hst
    obtain ⟨S, T, a, am, o, g, cap, n, w, nl, L9, hP, hS, hR, hcap, hl⟩ := id hst
    refine lv_iload hx hb dL_law_23 (lv_at hl 4 rfl) ?_
    refine lv_aload_n hx hb dL_law_25 rfl (lv_at hl 0 rfl) ?_
    refine va_slen hx hb hX0 hbl hbA hS dL_law_26 ?_
    refine lv_bipush (v := nI 6) hx hb dL_law_27 (by decide) ?_
    refine lv_isub hx hb dL_law_29 ?_
    refine lv_icmp_gt (tgt := 2032) hx hb dL_law_30 (by decide) (fun _ => ?_) (fun z => ?_)
    · refine lv_iconst (v := 1) hx hb dL_law_2032 (by decide) ?_
      refine va_forget (fun q hq => hS.2.2 q hq) ?_
      refine W.widen (k := 601024) (n := 7293034) (by omega) (by omega) ?_
      exact lw_ret hx hb hr hlocks dL_law_2033
    · have hi : i + 6 ≤ L := by
        rcases Nat.lt_or_ge L (i + 6) with t | t
        · exact absurd (ll_gt (by omega) (by omega) t) z
        · exact t
      have hk : k9 + 9 ≤ 601024 := by omega
      have hn : n9 + 97 ≤ 7293034 := by omega
      have kk : lK p l e s m below meth c b D q e0 i (k9 + 9) (n9 + 97) 2026 := by
        rintro H locs ls ⟨S, T, a, am, o, g, cap, n, w, nl, L9, hP, hS, hR, hcap, hl⟩
        refine lv_iinc (v := nI (i + 6)) (lv' := [(4, .int (nI (i + 6))), (0, .ref b), (1, .ref (a 0)), (2, .ref (am 0)), (3, .ref o)]) hx hb dL_law_2026 hl (k := 4) rfl (nI_add i 6) (by decide) rfl (fun ls hl => ?_)
        refine lv_goto (tgt := 23) hx hb dL_law_2029 (by decide) ?_
        exact ih (j + 1) (i + 6) (k9 + 9) (n9 + 97) (by omega) (by omega) (by omega) (by omega) (by omega) H locs ls ⟨S, T, a, am, o, g, cap, n, w, nl, L9, hP, hS, hR, hcap, lv_sub hl [1, 2, 3, 4, 0] rfl⟩
      refine lv_aload_n hx hb dL_law_33 rfl (lv_at hl 0 rfl) ?_
      refine lv_iload hx hb dL_law_34 (lv_at hl 4 rfl) ?_
      refine va_sld hx hb hX0 hbl hbA hS (vp_in_nI (show i < L by omega) (by omega)) dL_law_36 ?_
      refine lv_bipush (v := nI 31) hx hb dL_law_37 (by decide) ?_
      refine lv_iand hx hb dL_law_39 ?_
      obtain ⟨v, hv, ev⟩ := pk_andE (xs (nI i).toNatClampNeg) (m := nI 31) 5 (by decide)
      rw [ev]
      clear ev
      have out : W p l e room_1 s m #[Value.ref b] below meth c H locs k9 n9 (lw_Z below #[Value.ref b] s) (F0 m 2026 ls []) := W.widen (k := k9 + 9) (n := n9 + 97) (by omega) (by omega) (kk H locs ls hst)
      rcases (show v = 0 ∨ v = 1 ∨ v = 2 ∨ v = 3 ∨ v = 4 ∨ v = 5 ∨ v = 6 ∨ v = 7 ∨ v = 8 ∨ v = 9 ∨ v = 10 ∨ v = 11 ∨ v = 12 ∨ v = 13 ∨ v = 14 ∨ v = 15 ∨ v = 16 ∨ v = 17 ∨ v = 18 ∨ v = 19 ∨ v = 20 ∨ v = 21 ∨ v = 22 ∨ v = 23 ∨ v = 24 ∨ v = 25 ∨ v = 26 ∨ v = 27 ∨ v = 28 ∨ v = 29 ∨ v = 30 ∨ v = 31 by omega) with rfl | rfl | rfl | rfl | rfl | rfl | rfl | rfl | rfl | rfl | rfl | rfl | rfl | rfl | rfl | rfl | rfl | rfl | rfl | rfl | rfl | rfl | rfl | rfl | rfl | rfl | rfl | rfl | rfl | rfl | rfl | rfl
      · refine lv_tableIn (off := 136) (tgt := 176) hx hb dL_law_40 (by decide) (by decide) (by decide +kernel) (by decide) ?_
        exact lc_setPeople E hL hi hk hn kk H locs ls hst
      · refine lv_tableIn (off := 216) (tgt := 256) hx hb dL_law_40 (by decide) (by decide) (by decide +kernel) (by decide) ?_
        exact lc_pass E hL hi hk hn kk H locs ls hst
      · refine lv_tableIn (off := 272) (tgt := 312) hx hb dL_law_40 (by decide) (by decide) (by decide +kernel) (by decide) ?_
        exact lc_setLamp E hL hi hk hn kk H locs ls hst
      · refine lv_tableIn (off := 368) (tgt := 408) hx hb dL_law_40 (by decide) (by decide) (by decide +kernel) (by decide) ?_
        exact lc_find E hL hi hk hn kk H locs ls hst
      · refine lv_tableIn (off := 448) (tgt := 488) hx hb dL_law_40 (by decide) (by decide) (by decide +kernel) (by decide) ?_
        exact lc_turnUp E hL hi hk hn kk H locs ls hst
      · refine lv_tableIn (off := 528) (tgt := 568) hx hb dL_law_40 (by decide) (by decide) (by decide +kernel) (by decide) ?_
        exact lc_lease E hL hi hk hn kk H locs ls hst
      · refine lv_tableIn (off := 632) (tgt := 672) hx hb dL_law_40 (by decide) (by decide) (by decide +kernel) (by decide) ?_
        exact lc_quit E hL hi hk hn kk H locs ls hst
      · refine lv_tableIn (off := 688) (tgt := 728) hx hb dL_law_40 (by decide) (by decide) (by decide +kernel) (by decide) ?_
        exact lc_pay E hL hi hk hn kk H locs ls hst
      · refine lv_tableIn (off := 756) (tgt := 796) hx hb dL_law_40 (by decide) (by decide) (by decide +kernel) (by decide) ?_
        exact lc_setSkill E hL hi hk hn kk H locs ls hst
      · refine lv_tableIn (off := 824) (tgt := 864) hx hb dL_law_40 (by decide) (by decide) (by decide +kernel) (by decide) ?_
        exact lc_ask E hL hi hk hn kk H locs ls hst
      · refine lv_tableIn (off := 892) (tgt := 932) hx hb dL_law_40 (by decide) (by decide) (by decide +kernel) (by decide) ?_
        exact lc_lot E hL hi hk hn kk H locs ls hst
      · refine lv_tableIn (off := 948) (tgt := 988) hx hb dL_law_40 (by decide) (by decide) (by decide +kernel) (by decide) ?_
        exact lc_hour E hL hi hk hn kk H locs ls hst
      · refine lv_tableIn (off := 961) (tgt := 1001) hx hb dL_law_40 (by decide) (by decide) (by decide +kernel) (by decide) ?_
        exact lc_steps E hL hi hk hn kk H locs ls hst
      · refine lv_tableIn (off := 1029) (tgt := 1069) hx hb dL_law_40 (by decide) (by decide) (by decide +kernel) (by decide) ?_
        exact lc_crowd E hL hi hk hn kk H locs ls hst
      · refine lv_tableIn (off := 1097) (tgt := 1137) hx hb dL_law_40 (by decide) (by decide) (by decide +kernel) (by decide) ?_
        exact lc_through E hL hi hk hn kk H locs ls hst
      · refine lv_tableIn (off := 1153) (tgt := 1193) hx hb dL_law_40 (by decide) (by decide) (by decide +kernel) (by decide) ?_
        exact lc_reading E hL hi hk hn kk H locs ls hst
      · refine lv_tableIn (off := 1221) (tgt := 1261) hx hb dL_law_40 (by decide) (by decide) (by decide +kernel) (by decide) ?_
        exact lc_taken E hL hi hk hn kk H locs ls hst
      · refine lv_tableIn (off := 1289) (tgt := 1329) hx hb dL_law_40 (by decide) (by decide) (by decide +kernel) (by decide) ?_
        exact lc_count E hL hi hk hn kk H locs ls hst
      · refine lv_tableIn (off := 1357) (tgt := 1397) hx hb dL_law_40 (by decide) (by decide) (by decide +kernel) (by decide) ?_
        exact lc_countAnew E hL hi hk hn kk H locs ls hst
      · refine lv_tableIn (off := 1425) (tgt := 1465) hx hb dL_law_40 (by decide) (by decide) (by decide +kernel) (by decide) ?_
        exact lc_missed E hL hi hk hn kk H locs ls hst
      · refine lv_tableIn (off := 1481) (tgt := 1521) hx hb dL_law_40 (by decide) (by decide) (by decide +kernel) (by decide) ?_
        exact lc_leases E hL hi hk hn kk H locs ls hst
      · refine lv_tableIn (off := 1494) (tgt := 1534) hx hb dL_law_40 (by decide) (by decide) (by decide +kernel) (by decide) ?_
        exact lc_isOf E hL hi hk hn kk H locs ls hst
      · refine lv_tableIn (off := 1569) (tgt := 1609) hx hb dL_law_40 (by decide) (by decide) (by decide +kernel) (by decide) ?_
        exact lc_billed E hL hi hk hn kk H locs ls hst
      · refine lv_tableIn (off := 1625) (tgt := 1665) hx hb dL_law_40 (by decide) (by decide) (by decide +kernel) (by decide) ?_
        exact lc_billedAnew E hL hi hk hn kk H locs ls hst
      · refine lv_tableIn (off := 1681) (tgt := 1721) hx hb dL_law_40 (by decide) (by decide) (by decide +kernel) (by decide) ?_
        exact lc_corrected E hL hi hk hn kk H locs ls hst
      · refine lv_tableIn (off := 1737) (tgt := 1777) hx hb dL_law_40 (by decide) (by decide) (by decide +kernel) (by decide) ?_
        exact lc_owes E hL hi hk hn kk H locs ls hst
      · refine lv_tableIn (off := 1793) (tgt := 1833) hx hb dL_law_40 (by decide) (by decide) (by decide +kernel) (by decide) ?_
        exact lc_player E hL hi hk hn kk H locs ls hst
      · refine lv_tableIn (off := 1861) (tgt := 1901) hx hb dL_law_40 (by decide) (by decide) (by decide +kernel) (by decide) ?_
        exact lc_played E hL hi hk hn kk H locs ls hst
      · refine lv_tableIn (off := 1917) (tgt := 1957) hx hb dL_law_40 (by decide) (by decide) (by decide +kernel) (by decide) ?_
        exact lc_coins E hL hi hk hn kk H locs ls hst
      · refine lv_tableIn (off := 1973) (tgt := 2013) hx hb dL_law_40 (by decide) (by decide) (by decide +kernel) (by decide) ?_
        exact lc_lots E hL hi hk hn kk H locs ls hst
      · refine lv_tableOut (tgt := 2026) hx hb dL_law_40 (by decide) (by decide) ?_
        exact out
      · refine lv_tableOut (tgt := 2026) hx hb dL_law_40 (by decide) (by decide) ?_
        exact out
