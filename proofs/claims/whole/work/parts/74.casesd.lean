set_option maxHeartbeats 4000000 in
set_option maxRecDepth 100000 in
theorem lc_billedAnew {p : Program} {l : Launch} {e : Env} {s : State} {m : MethodId} {below : List Frame} {meth : Method} {c : Code} {b L : Nat} {xs : Nat → Int32} {D : va_G} {q : Nat → ClassId} {e0 i k9 n9 : Nat} (E : lEnv p l s m meth c b L xs D q e0) (hL : L ≤ 3072) (hi : i + 6 ≤ L) (hk : k9 + 9 ≤ 601024) (hn9 : n9 + 97 ≤ 7293034) (kk : lK p l e s m below meth c b D q e0 i (k9 + 9) (n9 + 97) 2026) : lK p l e s m below meth c b D q e0 i k9 n9 1665 := by
  obtain ⟨⟨hx, hb, hr, hml, hown, hts0, hX0, hbl, hlocks, -⟩, hK, hX, hE, hl0⟩ := id E
  have hts := lEnv_hts hts0
  have hbA : ¬ lA s b := Nat.not_le.mpr hbl
  rintro H locs ls ⟨S, T, a, am, o, g, cap, n, w, nl, L9, hP, hS, hR, hcap, hl⟩
  have hA : ∀ z : Nat, H.size ≤ z → lA s z := fun z hz => Nat.le_trans hS.1 hz
  obtain ⟨⟨a1, a2, a3⟩, ⟨b1, b2, b3⟩, ⟨c1, c2⟩, d1, d2, d3⟩ := hR.1.2.1
  have hnl : nl ≤ cap ∧ cap ≤ 40 ∧ nl ≤ 30 := ⟨hcap.2, hcap.le, c2⟩
  refine lv_aload_n hx hb dL_law_1665 rfl (lv_at hl 1 rfl) ?_
  refine k_arg hx hb hX0 hbl hbA hS hl 0 4 rfl rfl 1 (by decide) (by omega) hL dL_law_1666 dL_law_1667 dL_law_1669 dL_law_1670 dL_law_1671 ?_
  refine lv_aload_n hx hb dL_law_1672 rfl (lv_at hl 3 rfl) ?_
  refine k_goW hP (fun z hz => hz) hS (vx_runSW (rest := []) ⟨hx, hb, hml, hown, hts⟩ (c_L_billedAnew l hl0 D q (va_A (wO q o g (wC q a S cap nl)) H.size) a S cap nl o g (xs (i + 1)) n w b1 b3 hnl a1 a3 (Rel_okC hR.1)) (vx_cwSW 3 hts gL_law_L_billedAnew rfl rfl rfl (by decide +kernel) ⟨Nat.le_of_ble_eq_true rfl, Nat.le_of_ble_eq_true rfl⟩) ⟨kBL_blind, fun U hU hW => ⟨rfl, ⟨by rw [hU]; exact kW_cut hP, hK.warm hW, (hX.at hS hU hW).narrow (kW_sub hP hA)⟩, fun z9 h9 => Or.inr (by rw [← hU]; exact h9)⟩⟩ rfl rfl hl.1 rfl (lv_room (Nat.le_of_ble_eq_true rfl)) dL_law_1673 ⟨by show k9 + 1 ≤ 601024; omega, by show n9 + 6 ≤ 7293034; omega⟩) (fun H1 locs1 hP hS => ?_)
  refine lv_istore (lv' := [(5, .int (coBilledAnew S n w nl (xs (i + 1))).1), (0, .ref b), (1, .ref (a 0)), (2, .ref (am 0)), (3, .ref o), (4, .int (nI i))]) hx hb dL_law_1676 hl (by decide) rfl (fun ls hl => ?_)
  refine lv_aload_n hx hb dL_law_1678 rfl (lv_at hl 3 rfl) ?_
  refine k_arg hx hb hX0 hbl hbA hS hl 1 5 rfl rfl 1 (by decide) (by omega) hL dL_law_1679 dL_law_1680 dL_law_1682 dL_law_1683 dL_law_1684 ?_
  have hP2 := kW_comm hP
  refine k_goW hP2 (fun z hz => hz) hS (va_runV (rest := []) ⟨hx, hb, hml, hown, hts⟩ (c_X5_billedAnew l D q (va_A (wM q am T) H1.size) am T (xs (i + 1)) n w nl b2 b3 hR.1.2.2.1.1 a2 a3 c1 c2 (Rel_okM hR.1)) (cwV 1 hts gL_law_X5_billedAnew rfl rfl rfl (by decide +kernel) ⟨Nat.le_of_ble_eq_true rfl, Nat.le_of_ble_eq_true rfl⟩) ⟨kB_blind, (va_recv hK.1 (kW_r hP2).1 (ci := 6) (q0 := 0) rfl rfl), fun U hU hW => ⟨rfl, by rw [hU]; exact kW_cut hP2, hK.warm hW⟩⟩ rfl rfl hl.1 rfl (lv_room (Nat.le_of_ble_eq_true rfl)) dL_law_1685 ⟨by show k9 + 1 + 0 ≤ 601024; omega, by show n9 + 6 + 0 ≤ 7293034; omega⟩) (fun H2 locs2 hP hS => ?_)
  obtain ⟨hans, n2, w2, L2, hR2⟩ := both_billedAnew hR (xs (i + 1))
  exact k_tail E (by omega) (by omega) hk hn9 kk dL_law_1688 dL_law_1690 dL_law_1691 dL_law_1694 dL_law_1696 dL_law_1701 dL_law_1703 dL_law_1706 dL_law_1707 dL_law_1708 dL_law_1709 dL_law_1711 dL_law_1712 dL_law_1713 dL_law_1718 (by decide) hans hR2 hcap outG_0 hP hS hl
set_option maxHeartbeats 4000000 in
set_option maxRecDepth 100000 in
theorem lc_corrected {p : Program} {l : Launch} {e : Env} {s : State} {m : MethodId} {below : List Frame} {meth : Method} {c : Code} {b L : Nat} {xs : Nat → Int32} {D : va_G} {q : Nat → ClassId} {e0 i k9 n9 : Nat} (E : lEnv p l s m meth c b L xs D q e0) (hL : L ≤ 3072) (hi : i + 6 ≤ L) (hk : k9 + 9 ≤ 601024) (hn9 : n9 + 97 ≤ 7293034) (kk : lK p l e s m below meth c b D q e0 i (k9 + 9) (n9 + 97) 2026) : lK p l e s m below meth c b D q e0 i k9 n9 1721 := by
  obtain ⟨⟨hx, hb, hr, hml, hown, hts0, hX0, hbl, hlocks, -⟩, hK, hX, hE, hl0⟩ := id E
  have hts := lEnv_hts hts0
  have hbA : ¬ lA s b := Nat.not_le.mpr hbl
  rintro H locs ls ⟨S, T, a, am, o, g, cap, n, w, nl, L9, hP, hS, hR, hcap, hl⟩
  have hA : ∀ z : Nat, H.size ≤ z → lA s z := fun z hz => Nat.le_trans hS.1 hz
  obtain ⟨⟨a1, a2, a3⟩, ⟨b1, b2, b3⟩, ⟨c1, c2⟩, d1, d2, d3⟩ := hR.1.2.1
  have hnl : nl ≤ cap ∧ cap ≤ 40 ∧ nl ≤ 30 := ⟨hcap.2, hcap.le, c2⟩
  refine lv_aload_n hx hb dL_law_1721 rfl (lv_at hl 1 rfl) ?_
  refine k_arg hx hb hX0 hbl hbA hS hl 0 4 rfl rfl 1 (by decide) (by omega) hL dL_law_1722 dL_law_1723 dL_law_1725 dL_law_1726 dL_law_1727 ?_
  refine lv_aload_n hx hb dL_law_1728 rfl (lv_at hl 3 rfl) ?_
  refine k_goW hP (fun z hz => hz) hS (vx_runSW (rest := []) ⟨hx, hb, hml, hown, hts⟩ (c_L_corrected l hl0 D q (va_A (wO q o g (wC q a S cap nl)) H.size) a S cap nl o g (xs (i + 1)) hnl) (vx_cwSW 3 hts gL_law_L_corrected rfl rfl rfl (by decide +kernel) ⟨Nat.le_of_ble_eq_true rfl, Nat.le_of_ble_eq_true rfl⟩) ⟨kBL_blind, fun U hU hW => ⟨rfl, ⟨by rw [hU]; exact kW_cut hP, hK.warm hW, (hX.at hS hU hW).narrow (kW_sub hP hA)⟩, fun z9 h9 => Or.inr (by rw [← hU]; exact h9)⟩⟩ rfl rfl hl.1 rfl (lv_room (Nat.le_of_ble_eq_true rfl)) dL_law_1729 ⟨by show k9 + 1 ≤ 601024; omega, by show n9 + 6 ≤ 7293034; omega⟩) (fun H1 locs1 hP hS => ?_)
  refine lv_istore (lv' := [(5, .int (coLs S 38 nl (xs (i + 1))).1), (0, .ref b), (1, .ref (a 0)), (2, .ref (am 0)), (3, .ref o), (4, .int (nI i))]) hx hb dL_law_1732 hl (by decide) rfl (fun ls hl => ?_)
  refine lv_aload_n hx hb dL_law_1734 rfl (lv_at hl 3 rfl) ?_
  refine k_arg hx hb hX0 hbl hbA hS hl 1 5 rfl rfl 1 (by decide) (by omega) hL dL_law_1735 dL_law_1736 dL_law_1738 dL_law_1739 dL_law_1740 ?_
  have hP2 := kW_comm hP
  refine k_goW hP2 (fun z hz => hz) hS (va_runV (rest := []) ⟨hx, hb, hml, hown, hts⟩ (c_X5_corrected l D q (va_A (wM q am T) H1.size) am T (xs (i + 1)) nl c1 c2) (cwV 1 hts gL_law_X5_corrected rfl rfl rfl (by decide +kernel) ⟨Nat.le_of_ble_eq_true rfl, Nat.le_of_ble_eq_true rfl⟩) ⟨kB_blind, (va_recv hK.1 (kW_r hP2).1 (ci := 6) (q0 := 0) rfl rfl), fun U hU hW => ⟨rfl, by rw [hU]; exact kW_cut hP2, hK.warm hW⟩⟩ rfl rfl hl.1 rfl (lv_room (Nat.le_of_ble_eq_true rfl)) dL_law_1741 ⟨by show k9 + 1 + 0 ≤ 601024; omega, by show n9 + 6 + 0 ≤ 7293034; omega⟩) (fun H2 locs2 hP hS => ?_)
  obtain ⟨hans, n2, w2, L2, hR2⟩ := both_corrected hR (xs (i + 1))
  exact k_tail E (by omega) (by omega) hk hn9 kk dL_law_1744 dL_law_1746 dL_law_1747 dL_law_1750 dL_law_1752 dL_law_1757 dL_law_1759 dL_law_1762 dL_law_1763 dL_law_1764 dL_law_1765 dL_law_1767 dL_law_1768 dL_law_1769 dL_law_1774 (by decide) hans hR2 hcap outG_0 hP hS hl
set_option maxHeartbeats 4000000 in
set_option maxRecDepth 100000 in
theorem lc_owes {p : Program} {l : Launch} {e : Env} {s : State} {m : MethodId} {below : List Frame} {meth : Method} {c : Code} {b L : Nat} {xs : Nat → Int32} {D : va_G} {q : Nat → ClassId} {e0 i k9 n9 : Nat} (E : lEnv p l s m meth c b L xs D q e0) (hL : L ≤ 3072) (hi : i + 6 ≤ L) (hk : k9 + 9 ≤ 601024) (hn9 : n9 + 97 ≤ 7293034) (kk : lK p l e s m below meth c b D q e0 i (k9 + 9) (n9 + 97) 2026) : lK p l e s m below meth c b D q e0 i k9 n9 1777 := by
  obtain ⟨⟨hx, hb, hr, hml, hown, hts0, hX0, hbl, hlocks, -⟩, hK, hX, hE, hl0⟩ := id E
  have hts := lEnv_hts hts0
  have hbA : ¬ lA s b := Nat.not_le.mpr hbl
  rintro H locs ls ⟨S, T, a, am, o, g, cap, n, w, nl, L9, hP, hS, hR, hcap, hl⟩
  have hA : ∀ z : Nat, H.size ≤ z → lA s z := fun z hz => Nat.le_trans hS.1 hz
  obtain ⟨⟨a1, a2, a3⟩, ⟨b1, b2, b3⟩, ⟨c1, c2⟩, d1, d2, d3⟩ := hR.1.2.1
  have hnl : nl ≤ cap ∧ cap ≤ 40 ∧ nl ≤ 30 := ⟨hcap.2, hcap.le, c2⟩
  refine lv_aload_n hx hb dL_law_1777 rfl (lv_at hl 1 rfl) ?_
  refine k_arg hx hb hX0 hbl hbA hS hl 0 4 rfl rfl 1 (by decide) (by omega) hL dL_law_1778 dL_law_1779 dL_law_1781 dL_law_1782 dL_law_1783 ?_
  refine lv_aload_n hx hb dL_law_1784 rfl (lv_at hl 3 rfl) ?_
  refine k_goW hP (fun z hz => hz) hS (vx_runSW (rest := []) ⟨hx, hb, hml, hown, hts⟩ (c_L_owes l hl0 D q (va_A (wO q o g (wC q a S cap nl)) H.size) a S cap nl o g (xs (i + 1)) hnl) (vx_cwSW 3 hts gL_law_L_owes rfl rfl rfl (by decide +kernel) ⟨Nat.le_of_ble_eq_true rfl, Nat.le_of_ble_eq_true rfl⟩) ⟨kBL_blind, fun U hU hW => ⟨rfl, ⟨by rw [hU]; exact kW_cut hP, hK.warm hW, (hX.at hS hU hW).narrow (kW_sub hP hA)⟩, fun z9 h9 => Or.inr (by rw [← hU]; exact h9)⟩⟩ rfl rfl hl.1 rfl (lv_room (Nat.le_of_ble_eq_true rfl)) dL_law_1785 ⟨by show k9 + 1 ≤ 601024; omega, by show n9 + 6 ≤ 7293034; omega⟩) (fun H1 locs1 hP hS => ?_)
  refine lv_istore (lv' := [(5, .int (coOwes S nl (xs (i + 1))).1), (0, .ref b), (1, .ref (a 0)), (2, .ref (am 0)), (3, .ref o), (4, .int (nI i))]) hx hb dL_law_1788 hl (by decide) rfl (fun ls hl => ?_)
  refine lv_aload_n hx hb dL_law_1790 rfl (lv_at hl 3 rfl) ?_
  refine k_arg hx hb hX0 hbl hbA hS hl 1 5 rfl rfl 1 (by decide) (by omega) hL dL_law_1791 dL_law_1792 dL_law_1794 dL_law_1795 dL_law_1796 ?_
  have hP2 := kW_comm hP
  refine k_goW hP2 (fun z hz => hz) hS (va_runV (rest := []) ⟨hx, hb, hml, hown, hts⟩ (c_X5_owes l D q (va_A (wM q am T) H1.size) am T (xs (i + 1)) n w nl b2 b3 hR.1.2.2.1.1 a2 a3 c1 c2 (Rel_okM hR.1)) (cwV 1 hts gL_law_X5_owes rfl rfl rfl (by decide +kernel) ⟨Nat.le_of_ble_eq_true rfl, Nat.le_of_ble_eq_true rfl⟩) ⟨kB_blind, (va_recv hK.1 (kW_r hP2).1 (ci := 6) (q0 := 0) rfl rfl), fun U hU hW => ⟨rfl, by rw [hU]; exact kW_cut hP2, hK.warm hW⟩⟩ rfl rfl hl.1 rfl (lv_room (Nat.le_of_ble_eq_true rfl)) dL_law_1797 ⟨by show k9 + 1 + 0 ≤ 601024; omega, by show n9 + 6 + 0 ≤ 7293034; omega⟩) (fun H2 locs2 hP hS => ?_)
  obtain ⟨hans, n2, w2, L2, hR2⟩ := both_owes hR (xs (i + 1))
  exact k_tail E (by omega) (by omega) hk hn9 kk dL_law_1800 dL_law_1802 dL_law_1803 dL_law_1806 dL_law_1808 dL_law_1813 dL_law_1815 dL_law_1818 dL_law_1819 dL_law_1820 dL_law_1821 dL_law_1823 dL_law_1824 dL_law_1825 dL_law_1830 (by decide) hans hR2 hcap outG_0 hP hS hl
set_option maxHeartbeats 4000000 in
set_option maxRecDepth 100000 in
theorem lc_player {p : Program} {l : Launch} {e : Env} {s : State} {m : MethodId} {below : List Frame} {meth : Method} {c : Code} {b L : Nat} {xs : Nat → Int32} {D : va_G} {q : Nat → ClassId} {e0 i k9 n9 : Nat} (E : lEnv p l s m meth c b L xs D q e0) (hL : L ≤ 3072) (hi : i + 6 ≤ L) (hk : k9 + 9 ≤ 601024) (hn9 : n9 + 97 ≤ 7293034) (kk : lK p l e s m below meth c b D q e0 i (k9 + 9) (n9 + 97) 2026) : lK p l e s m below meth c b D q e0 i k9 n9 1833 := by
  obtain ⟨⟨hx, hb, hr, hml, hown, hts0, hX0, hbl, hlocks, -⟩, hK, hX, hE, hl0⟩ := id E
  have hts := lEnv_hts hts0
  have hbA : ¬ lA s b := Nat.not_le.mpr hbl
  rintro H locs ls ⟨S, T, a, am, o, g, cap, n, w, nl, L9, hP, hS, hR, hcap, hl⟩
  have hA : ∀ z : Nat, H.size ≤ z → lA s z := fun z hz => Nat.le_trans hS.1 hz
  obtain ⟨⟨a1, a2, a3⟩, ⟨b1, b2, b3⟩, ⟨c1, c2⟩, d1, d2, d3⟩ := hR.1.2.1
  have hnl : nl ≤ cap ∧ cap ≤ 40 ∧ nl ≤ 30 := ⟨hcap.2, hcap.le, c2⟩
  refine lv_aload_n hx hb dL_law_1833 rfl (lv_at hl 1 rfl) ?_
  refine k_arg hx hb hX0 hbl hbA hS hl 0 4 rfl rfl 1 (by decide) (by omega) hL dL_law_1834 dL_law_1835 dL_law_1837 dL_law_1838 dL_law_1839 ?_
  refine k_arg hx hb hX0 hbl hbA hS hl 0 4 rfl rfl 2 (by decide) (by omega) hL dL_law_1840 dL_law_1841 dL_law_1843 dL_law_1844 dL_law_1845 ?_
  refine lv_aload_n hx hb dL_law_1846 rfl (lv_at hl 3 rfl) ?_
  refine k_goW hP (fun z hz => hz) hS (vx_runSW (rest := []) ⟨hx, hb, hml, hown, hts⟩ (c_L_player l hl0 D q (va_A (wO q o g (wC q a S cap nl)) H.size) a S cap nl o g (xs (i + 1)) (xs (i + 2)) w a1 a3) (vx_cwSW 4 hts gL_law_L_player rfl rfl rfl (by decide +kernel) ⟨Nat.le_of_ble_eq_true rfl, Nat.le_of_ble_eq_true rfl⟩) ⟨kBL_blind, fun U hU hW => ⟨rfl, ⟨by rw [hU]; exact kW_cut hP, hK.warm hW, (hX.at hS hU hW).narrow (kW_sub hP hA)⟩, fun z9 h9 => Or.inr (by rw [← hU]; exact h9)⟩⟩ rfl rfl hl.1 rfl (lv_room (Nat.le_of_ble_eq_true rfl)) dL_law_1847 ⟨by show k9 + 2 ≤ 601024; omega, by show n9 + 12 ≤ 7293034; omega⟩) (fun H1 locs1 hP hS => ?_)
  refine lv_istore (lv' := [(5, .int (coRow S 24 (xs (i + 1)) (xs (i + 2))).1), (0, .ref b), (1, .ref (a 0)), (2, .ref (am 0)), (3, .ref o), (4, .int (nI i))]) hx hb dL_law_1850 hl (by decide) rfl (fun ls hl => ?_)
  refine lv_aload_n hx hb dL_law_1852 rfl (lv_at hl 3 rfl) ?_
  refine k_arg hx hb hX0 hbl hbA hS hl 1 5 rfl rfl 1 (by decide) (by omega) hL dL_law_1853 dL_law_1854 dL_law_1856 dL_law_1857 dL_law_1858 ?_
  refine k_arg hx hb hX0 hbl hbA hS hl 1 5 rfl rfl 2 (by decide) (by omega) hL dL_law_1859 dL_law_1860 dL_law_1862 dL_law_1863 dL_law_1864 ?_
  have hP2 := kW_comm hP
  refine k_goW hP2 (fun z hz => hz) hS (va_runV (rest := []) ⟨hx, hb, hml, hown, hts⟩ (c_X5_player l D q (va_A (wM q am T) H1.size) am T (xs (i + 1)) (xs (i + 2)) w a2 a3) (cwV 2 hts gL_law_X5_player rfl rfl rfl (by decide +kernel) ⟨Nat.le_of_ble_eq_true rfl, Nat.le_of_ble_eq_true rfl⟩) ⟨kB_blind, (va_recv hK.1 (kW_r hP2).1 (ci := 6) (q0 := 0) rfl rfl), fun U hU hW => ⟨rfl, by rw [hU]; exact kW_cut hP2, hK.warm hW⟩⟩ rfl rfl hl.1 rfl (lv_room (Nat.le_of_ble_eq_true rfl)) dL_law_1865 ⟨by show k9 + 2 + 0 ≤ 601024; omega, by show n9 + 12 + 0 ≤ 7293034; omega⟩) (fun H2 locs2 hP hS => ?_)
  obtain ⟨hans, n2, w2, L2, hR2⟩ := both_row hR (k := 9) (k' := 24) (by decide) (xs (i + 1)) (xs (i + 2))
  exact k_tail E (by omega) (by omega) hk hn9 kk dL_law_1868 dL_law_1870 dL_law_1871 dL_law_1874 dL_law_1876 dL_law_1881 dL_law_1883 dL_law_1886 dL_law_1887 dL_law_1888 dL_law_1889 dL_law_1891 dL_law_1892 dL_law_1893 dL_law_1898 (by decide) hans hR2 hcap outG_0 hP hS hl
set_option maxHeartbeats 4000000 in
set_option maxRecDepth 100000 in
theorem lc_played {p : Program} {l : Launch} {e : Env} {s : State} {m : MethodId} {below : List Frame} {meth : Method} {c : Code} {b L : Nat} {xs : Nat → Int32} {D : va_G} {q : Nat → ClassId} {e0 i k9 n9 : Nat} (E : lEnv p l s m meth c b L xs D q e0) (hL : L ≤ 3072) (hi : i + 6 ≤ L) (hk : k9 + 9 ≤ 601024) (hn9 : n9 + 97 ≤ 7293034) (kk : lK p l e s m below meth c b D q e0 i (k9 + 9) (n9 + 97) 2026) : lK p l e s m below meth c b D q e0 i k9 n9 1901 := by
  obtain ⟨⟨hx, hb, hr, hml, hown, hts0, hX0, hbl, hlocks, -⟩, hK, hX, hE, hl0⟩ := id E
  have hts := lEnv_hts hts0
  have hbA : ¬ lA s b := Nat.not_le.mpr hbl
  rintro H locs ls ⟨S, T, a, am, o, g, cap, n, w, nl, L9, hP, hS, hR, hcap, hl⟩
  have hA : ∀ z : Nat, H.size ≤ z → lA s z := fun z hz => Nat.le_trans hS.1 hz
  obtain ⟨⟨a1, a2, a3⟩, ⟨b1, b2, b3⟩, ⟨c1, c2⟩, d1, d2, d3⟩ := hR.1.2.1
  have hnl : nl ≤ cap ∧ cap ≤ 40 ∧ nl ≤ 30 := ⟨hcap.2, hcap.le, c2⟩
  refine lv_aload_n hx hb dL_law_1901 rfl (lv_at hl 1 rfl) ?_
  refine k_arg hx hb hX0 hbl hbA hS hl 0 4 rfl rfl 1 (by decide) (by omega) hL dL_law_1902 dL_law_1903 dL_law_1905 dL_law_1906 dL_law_1907 ?_
  refine lv_aload_n hx hb dL_law_1908 rfl (lv_at hl 3 rfl) ?_
  refine k_goW hP (fun z hz => hz) hS (vx_runSW (rest := []) ⟨hx, hb, hml, hown, hts⟩ (c_L_played l hl0 D q (va_A (wO q o g (wC q a S cap nl)) H.size) a S cap nl o g (xs (i + 1)) ) (vx_cwSW 3 hts gL_law_L_played rfl rfl rfl (by decide +kernel) ⟨Nat.le_of_ble_eq_true rfl, Nat.le_of_ble_eq_true rfl⟩) ⟨kBL_blind, fun U hU hW => ⟨rfl, ⟨by rw [hU]; exact kW_cut hP, hK.warm hW, (hX.at hS hU hW).narrow (kW_sub hP hA)⟩, fun z9 h9 => Or.inr (by rw [← hU]; exact h9)⟩⟩ rfl rfl hl.1 rfl (lv_room (Nat.le_of_ble_eq_true rfl)) dL_law_1909 ⟨by show k9 + 1 ≤ 601024; omega, by show n9 + 6 ≤ 7293034; omega⟩) (fun H1 locs1 hP hS => ?_)
  refine lv_istore (lv' := [(5, .int (coBusker S 19 (xs (i + 1))).1), (0, .ref b), (1, .ref (a 0)), (2, .ref (am 0)), (3, .ref o), (4, .int (nI i))]) hx hb dL_law_1912 hl (by decide) rfl (fun ls hl => ?_)
  refine lv_aload_n hx hb dL_law_1914 rfl (lv_at hl 3 rfl) ?_
  refine k_arg hx hb hX0 hbl hbA hS hl 1 5 rfl rfl 1 (by decide) (by omega) hL dL_law_1915 dL_law_1916 dL_law_1918 dL_law_1919 dL_law_1920 ?_
  have hP2 := kW_comm hP
  refine k_goW hP2 (fun z hz => hz) hS (va_runV (rest := []) ⟨hx, hb, hml, hown, hts⟩ (c_X5_played l D q (va_A (wM q am T) H1.size) am T (xs (i + 1)) ) (cwV 1 hts gL_law_X5_played rfl rfl rfl (by decide +kernel) ⟨Nat.le_of_ble_eq_true rfl, Nat.le_of_ble_eq_true rfl⟩) ⟨kB_blind, (va_recv hK.1 (kW_r hP2).1 (ci := 6) (q0 := 0) rfl rfl), fun U hU hW => ⟨rfl, by rw [hU]; exact kW_cut hP2, hK.warm hW⟩⟩ rfl rfl hl.1 rfl (lv_room (Nat.le_of_ble_eq_true rfl)) dL_law_1921 ⟨by show k9 + 1 + 0 ≤ 601024; omega, by show n9 + 6 + 0 ≤ 7293034; omega⟩) (fun H2 locs2 hP hS => ?_)
  obtain ⟨hans, n2, w2, L2, hR2⟩ := both_busker hR (k := 27) (k' := 19) (by decide) (xs (i + 1))
  exact k_tail E (by omega) (by omega) hk hn9 kk dL_law_1924 dL_law_1926 dL_law_1927 dL_law_1930 dL_law_1932 dL_law_1937 dL_law_1939 dL_law_1942 dL_law_1943 dL_law_1944 dL_law_1945 dL_law_1947 dL_law_1948 dL_law_1949 dL_law_1954 (by decide) hans hR2 hcap outG_0 hP hS hl
set_option maxHeartbeats 4000000 in
set_option maxRecDepth 100000 in
theorem lc_coins {p : Program} {l : Launch} {e : Env} {s : State} {m : MethodId} {below : List Frame} {meth : Method} {c : Code} {b L : Nat} {xs : Nat → Int32} {D : va_G} {q : Nat → ClassId} {e0 i k9 n9 : Nat} (E : lEnv p l s m meth c b L xs D q e0) (hL : L ≤ 3072) (hi : i + 6 ≤ L) (hk : k9 + 9 ≤ 601024) (hn9 : n9 + 97 ≤ 7293034) (kk : lK p l e s m below meth c b D q e0 i (k9 + 9) (n9 + 97) 2026) : lK p l e s m below meth c b D q e0 i k9 n9 1957 := by
  obtain ⟨⟨hx, hb, hr, hml, hown, hts0, hX0, hbl, hlocks, -⟩, hK, hX, hE, hl0⟩ := id E
  have hts := lEnv_hts hts0
  have hbA : ¬ lA s b := Nat.not_le.mpr hbl
  rintro H locs ls ⟨S, T, a, am, o, g, cap, n, w, nl, L9, hP, hS, hR, hcap, hl⟩
  have hA : ∀ z : Nat, H.size ≤ z → lA s z := fun z hz => Nat.le_trans hS.1 hz
  obtain ⟨⟨a1, a2, a3⟩, ⟨b1, b2, b3⟩, ⟨c1, c2⟩, d1, d2, d3⟩ := hR.1.2.1
  have hnl : nl ≤ cap ∧ cap ≤ 40 ∧ nl ≤ 30 := ⟨hcap.2, hcap.le, c2⟩
  refine lv_aload_n hx hb dL_law_1957 rfl (lv_at hl 1 rfl) ?_
  refine k_arg hx hb hX0 hbl hbA hS hl 0 4 rfl rfl 1 (by decide) (by omega) hL dL_law_1958 dL_law_1959 dL_law_1961 dL_law_1962 dL_law_1963 ?_
  refine lv_aload_n hx hb dL_law_1964 rfl (lv_at hl 3 rfl) ?_
  refine k_goW hP (fun z hz => hz) hS (vx_runSW (rest := []) ⟨hx, hb, hml, hown, hts⟩ (c_L_coins l hl0 D q (va_A (wO q o g (wC q a S cap nl)) H.size) a S cap nl o g (xs (i + 1)) ) (vx_cwSW 3 hts gL_law_L_coins rfl rfl rfl (by decide +kernel) ⟨Nat.le_of_ble_eq_true rfl, Nat.le_of_ble_eq_true rfl⟩) ⟨kBL_blind, fun U hU hW => ⟨rfl, ⟨by rw [hU]; exact kW_cut hP, hK.warm hW, (hX.at hS hU hW).narrow (kW_sub hP hA)⟩, fun z9 h9 => Or.inr (by rw [← hU]; exact h9)⟩⟩ rfl rfl hl.1 rfl (lv_room (Nat.le_of_ble_eq_true rfl)) dL_law_1965 ⟨by show k9 + 1 ≤ 601024; omega, by show n9 + 6 ≤ 7293034; omega⟩) (fun H1 locs1 hP hS => ?_)
  refine lv_istore (lv' := [(5, .int (coBusker S 20 (xs (i + 1))).1), (0, .ref b), (1, .ref (a 0)), (2, .ref (am 0)), (3, .ref o), (4, .int (nI i))]) hx hb dL_law_1968 hl (by decide) rfl (fun ls hl => ?_)
  refine lv_aload_n hx hb dL_law_1970 rfl (lv_at hl 3 rfl) ?_
  refine k_arg hx hb hX0 hbl hbA hS hl 1 5 rfl rfl 1 (by decide) (by omega) hL dL_law_1971 dL_law_1972 dL_law_1974 dL_law_1975 dL_law_1976 ?_
  have hP2 := kW_comm hP
  refine k_goW hP2 (fun z hz => hz) hS (va_runV (rest := []) ⟨hx, hb, hml, hown, hts⟩ (c_X5_coins l D q (va_A (wM q am T) H1.size) am T (xs (i + 1)) ) (cwV 1 hts gL_law_X5_coins rfl rfl rfl (by decide +kernel) ⟨Nat.le_of_ble_eq_true rfl, Nat.le_of_ble_eq_true rfl⟩) ⟨kB_blind, (va_recv hK.1 (kW_r hP2).1 (ci := 6) (q0 := 0) rfl rfl), fun U hU hW => ⟨rfl, by rw [hU]; exact kW_cut hP2, hK.warm hW⟩⟩ rfl rfl hl.1 rfl (lv_room (Nat.le_of_ble_eq_true rfl)) dL_law_1977 ⟨by show k9 + 1 + 0 ≤ 601024; omega, by show n9 + 6 + 0 ≤ 7293034; omega⟩) (fun H2 locs2 hP hS => ?_)
  obtain ⟨hans, n2, w2, L2, hR2⟩ := both_busker hR (k := 28) (k' := 20) (by decide) (xs (i + 1))
  exact k_tail E (by omega) (by omega) hk hn9 kk dL_law_1980 dL_law_1982 dL_law_1983 dL_law_1986 dL_law_1988 dL_law_1993 dL_law_1995 dL_law_1998 dL_law_1999 dL_law_2000 dL_law_2001 dL_law_2003 dL_law_2004 dL_law_2005 dL_law_2010 (by decide) hans hR2 hcap outG_0 hP hS hl
set_option maxHeartbeats 4000000 in
set_option maxRecDepth 100000 in
theorem lc_lots {p : Program} {l : Launch} {e : Env} {s : State} {m : MethodId} {below : List Frame} {meth : Method} {c : Code} {b L : Nat} {xs : Nat → Int32} {D : va_G} {q : Nat → ClassId} {e0 i k9 n9 : Nat} (E : lEnv p l s m meth c b L xs D q e0) (hL : L ≤ 3072) (hi : i + 6 ≤ L) (hk : k9 + 9 ≤ 601024) (hn9 : n9 + 97 ≤ 7293034) (kk : lK p l e s m below meth c b D q e0 i (k9 + 9) (n9 + 97) 2026) : lK p l e s m below meth c b D q e0 i k9 n9 2013 := by
  obtain ⟨⟨hx, hb, hr, hml, hown, hts0, hX0, hbl, hlocks, -⟩, hK, hX, hE, hl0⟩ := id E
  have hts := lEnv_hts hts0
  have hbA : ¬ lA s b := Nat.not_le.mpr hbl
  rintro H locs ls ⟨S, T, a, am, o, g, cap, n, w, nl, L9, hP, hS, hR, hcap, hl⟩
  have hA : ∀ z : Nat, H.size ≤ z → lA s z := fun z hz => Nat.le_trans hS.1 hz
  obtain ⟨⟨a1, a2, a3⟩, ⟨b1, b2, b3⟩, ⟨c1, c2⟩, d1, d2, d3⟩ := hR.1.2.1
  have hnl : nl ≤ cap ∧ cap ≤ 40 ∧ nl ≤ 30 := ⟨hcap.2, hcap.le, c2⟩
  have hP2 := kW_comm hP
  have hPC : kW D (lA s) (wC q a S cap nl) H := kW_r (w1 := [(o, .inl (q 3, 1, .inr (.inl g)))]) (kW_r hP)
  refine lv_aload_n hx hb dL_law_2013 rfl (lv_at hl 1 rfl) ?_
  refine k_callV (rest := []) (r := S 0 2) ⟨hx, hb, hml, hown, hts⟩ (c_X4_lots l D q a S cap nl) (cwV 0 hts gL_law_X4_lots rfl rfl rfl (by decide +kernel) ⟨Nat.le_of_ble_eq_true rfl, Nat.le_of_ble_eq_true rfl⟩) hK hPC.1 (va_recv hK.1 hPC.1 (ci := 5) (q0 := 0) rfl rfl) rfl hl.1 rfl (Nat.le_of_ble_eq_true rfl) dL_law_2014 ⟨by show k9 ≤ 601024; omega, by show n9 ≤ 7293034; omega⟩ (fun _ h => h) ?_
  refine lv_aload_n hx hb dL_law_2017 rfl (lv_at hl 2 rfl) ?_
  refine k_goW (wo := wO q o g (wC q a S cap nl)) (w := wM q am T) hP2 (fun z hz => hz) hS (va_runV (rest := [.int (S 0 2)]) ⟨hx, hb, hml, hown, hts⟩ (c_X5_lots l D q (va_A (wM q am T) H.size) am T) (cwV 0 hts gL_law_X5_lots rfl rfl rfl (by decide +kernel) ⟨Nat.le_of_ble_eq_true rfl, Nat.le_of_ble_eq_true rfl⟩) ⟨kB_blind, (va_recv hK.1 (kW_r hP2).1 (ci := 6) (q0 := 0) rfl rfl), fun U hU hW => ⟨rfl, by rw [hU]; exact kW_cut hP2, hK.warm hW⟩⟩ rfl rfl hl.1 rfl (lv_room (Nat.le_of_ble_eq_true rfl)) dL_law_2018 ⟨by show k9 + 0 ≤ 601024; omega, by show n9 + 0 ≤ 7293034; omega⟩) (fun H2 locs2 hP hS => ?_)
  refine W.widen (k := k9 + 9) (n := n9 + 97) (by omega) (by omega) ?_
  refine lv_icmp_eq (tgt := 2026) hx hb dL_law_2021 (by decide) (fun _ => ?_) (fun z => absurd (d1.trans d2.symm) z)
  exact kk H2 locs2 ls ⟨S, _, a, am, o, g, cap, n, w, nl, L9, kW_comm hP, hS, hR.t, hcap, hl⟩
