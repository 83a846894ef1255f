set_option maxHeartbeats 4000000 in
set_option maxRecDepth 100000 in
theorem lc_setSkill {p : Program} {l : Launch} {e : Env} {s : State} {m : MethodId} {below : List Frame} {meth : Method} {c : Code} {b L : Nat} {xs : Nat → Int32} {D : va_G} {q : Nat → ClassId} {e0 i k9 n9 : Nat} (E : lEnv p l s m meth c b L xs D q e0) (hL : L ≤ 3072) (hi : i + 6 ≤ L) (hk : k9 + 9 ≤ 601024) (hn9 : n9 + 97 ≤ 7293034) (kk : lK p l e s m below meth c b D q e0 i (k9 + 9) (n9 + 97) 2026) : lK p l e s m below meth c b D q e0 i k9 n9 796 := by
  obtain ⟨⟨hx, hb, hr, hml, hown, hts0, hX0, hbl, hlocks, -⟩, hK, hX, hE, hl0⟩ := id E
  have hts := lEnv_hts hts0
  have hbA : ¬ lA s b := Nat.not_le.mpr hbl
  rintro H locs ls ⟨S, T, a, am, o, g, cap, n, w, nl, L9, hP, hS, hR, hcap, hl⟩
  have hA : ∀ z : Nat, H.size ≤ z → lA s z := fun z hz => Nat.le_trans hS.1 hz
  obtain ⟨⟨a1, a2, a3⟩, ⟨b1, b2, b3⟩, ⟨c1, c2⟩, d1, d2, d3⟩ := hR.1.2.1
  have hnl : nl ≤ cap ∧ cap ≤ 40 ∧ nl ≤ 30 := ⟨hcap.2, hcap.le, c2⟩
  refine lv_aload_n hx hb dL_law_796 rfl (lv_at hl 1 rfl) ?_
  refine k_arg hx hb hX0 hbl hbA hS hl 0 4 rfl rfl 1 (by decide) (by omega) hL dL_law_797 dL_law_798 dL_law_800 dL_law_801 dL_law_802 ?_
  refine k_arg hx hb hX0 hbl hbA hS hl 0 4 rfl rfl 2 (by decide) (by omega) hL dL_law_803 dL_law_804 dL_law_806 dL_law_807 dL_law_808 ?_
  refine lv_aload_n hx hb dL_law_809 rfl (lv_at hl 3 rfl) ?_
  refine k_goW hP (fun z hz => hz) hS (vx_runSW (rest := []) ⟨hx, hb, hml, hown, hts⟩ (c_L_setSkill l hl0 D q (va_A (wO q o g (wC q a S cap nl)) H.size) a S cap nl o g (xs (i + 1)) (xs (i + 2)) ) (vx_cwSW 4 hts gL_law_L_setSkill rfl rfl rfl (by decide +kernel) ⟨Nat.le_of_ble_eq_true rfl, Nat.le_of_ble_eq_true rfl⟩) ⟨kBL_blind, fun U hU hW => ⟨rfl, ⟨by rw [hU]; exact kW_cut hP, hK.warm hW, (hX.at hS hU hW).narrow (kW_sub hP hA)⟩, fun z9 h9 => Or.inr (by rw [← hU]; exact h9)⟩⟩ rfl rfl hl.1 rfl (lv_room (Nat.le_of_ble_eq_true rfl)) dL_law_810 ⟨by show k9 + 2 ≤ 601024; omega, by show n9 + 12 ≤ 7293034; omega⟩) (fun H1 locs1 hP hS => ?_)
  refine lv_istore (lv' := [(5, .int (coSetSkill S (xs (i + 1)) (xs (i + 2))).1), (0, .ref b), (1, .ref (a 0)), (2, .ref (am 0)), (3, .ref o), (4, .int (nI i))]) hx hb dL_law_813 hl (by decide) rfl (fun ls hl => ?_)
  refine lv_aload_n hx hb dL_law_815 rfl (lv_at hl 3 rfl) ?_
  refine k_arg hx hb hX0 hbl hbA hS hl 1 5 rfl rfl 1 (by decide) (by omega) hL dL_law_816 dL_law_817 dL_law_819 dL_law_820 dL_law_821 ?_
  refine k_arg hx hb hX0 hbl hbA hS hl 1 5 rfl rfl 2 (by decide) (by omega) hL dL_law_822 dL_law_823 dL_law_825 dL_law_826 dL_law_827 ?_
  have hP2 := kW_comm hP
  refine k_goW hP2 (fun z hz => hz) hS (va_runV (rest := []) ⟨hx, hb, hml, hown, hts⟩ (c_X5_setSkill l D q (va_A (wM q am T) H1.size) am T (xs (i + 1)) (xs (i + 2)) ) (cwV 2 hts gL_law_X5_setSkill rfl rfl rfl (by decide +kernel) ⟨Nat.le_of_ble_eq_true rfl, Nat.le_of_ble_eq_true rfl⟩) ⟨kB_blind, (va_recv hK.1 (kW_r hP2).1 (ci := 6) (q0 := 0) rfl rfl), fun U hU hW => ⟨rfl, by rw [hU]; exact kW_cut hP2, hK.warm hW⟩⟩ rfl rfl hl.1 rfl (lv_room (Nat.le_of_ble_eq_true rfl)) dL_law_828 ⟨by show k9 + 2 + 0 ≤ 601024; omega, by show n9 + 12 + 0 ≤ 7293034; omega⟩) (fun H2 locs2 hP hS => ?_)
  obtain ⟨hans, n2, w2, L2, hR2⟩ := both_setSkill hR (xs (i + 1)) (xs (i + 2))
  exact k_tail E (by omega) (by omega) hk hn9 kk dL_law_831 dL_law_833 dL_law_834 dL_law_837 dL_law_839 dL_law_844 dL_law_846 dL_law_849 dL_law_850 dL_law_851 dL_law_852 dL_law_854 dL_law_855 dL_law_856 dL_law_861 (by decide) hans hR2 hcap outG_0 hP hS hl
set_option maxHeartbeats 4000000 in
set_option maxRecDepth 100000 in
theorem lc_ask {p : Program} {l : Launch} {e : Env} {s : State} {m : MethodId} {below : List Frame} {meth : Method} {c : Code} {b L : Nat} {xs : Nat → Int32} {D : va_G} {q : Nat → ClassId} {e0 i k9 n9 : Nat} (E : lEnv p l s m meth c b L xs D q e0) (hL : L ≤ 3072) (hi : i + 6 ≤ L) (hk : k9 + 9 ≤ 601024) (hn9 : n9 + 97 ≤ 7293034) (kk : lK p l e s m below meth c b D q e0 i (k9 + 9) (n9 + 97) 2026) : lK p l e s m below meth c b D q e0 i k9 n9 864 := by
  obtain ⟨⟨hx, hb, hr, hml, hown, hts0, hX0, hbl, hlocks, -⟩, hK, hX, hE, hl0⟩ := id E
  have hts := lEnv_hts hts0
  have hbA : ¬ lA s b := Nat.not_le.mpr hbl
  rintro H locs ls ⟨S, T, a, am, o, g, cap, n, w, nl, L9, hP, hS, hR, hcap, hl⟩
  have hA : ∀ z : Nat, H.size ≤ z → lA s z := fun z hz => Nat.le_trans hS.1 hz
  obtain ⟨⟨a1, a2, a3⟩, ⟨b1, b2, b3⟩, ⟨c1, c2⟩, d1, d2, d3⟩ := hR.1.2.1
  have hnl : nl ≤ cap ∧ cap ≤ 40 ∧ nl ≤ 30 := ⟨hcap.2, hcap.le, c2⟩
  refine lv_aload_n hx hb dL_law_864 rfl (lv_at hl 1 rfl) ?_
  refine k_arg hx hb hX0 hbl hbA hS hl 0 4 rfl rfl 1 (by decide) (by omega) hL dL_law_865 dL_law_866 dL_law_868 dL_law_869 dL_law_870 ?_
  refine k_arg hx hb hX0 hbl hbA hS hl 0 4 rfl rfl 2 (by decide) (by omega) hL dL_law_871 dL_law_872 dL_law_874 dL_law_875 dL_law_876 ?_
  refine lv_aload_n hx hb dL_law_877 rfl (lv_at hl 3 rfl) ?_
  refine k_goW hP (fun z hz => hz) hS (vx_runSW (rest := []) ⟨hx, hb, hml, hown, hts⟩ (c_L_ask l hl0 D q (va_A (wO q o g (wC q a S cap nl)) H.size) a S cap nl o g (xs (i + 1)) (xs (i + 2)) ) (vx_cwSW 4 hts gL_law_L_ask rfl rfl rfl (by decide +kernel) ⟨Nat.le_of_ble_eq_true rfl, Nat.le_of_ble_eq_true rfl⟩) ⟨kBL_blind, fun U hU hW => ⟨rfl, ⟨by rw [hU]; exact kW_cut hP, hK.warm hW, (hX.at hS hU hW).narrow (kW_sub hP hA)⟩, fun z9 h9 => Or.inr (by rw [← hU]; exact h9)⟩⟩ rfl rfl hl.1 rfl (lv_room (Nat.le_of_ble_eq_true rfl)) dL_law_878 ⟨by show k9 + 3 ≤ 601024; omega, by show n9 + 18 ≤ 7293034; omega⟩) (fun H1 locs1 hP hS => ?_)
  refine lv_istore (lv' := [(5, .int (coAsk S (xs (i + 1)) (xs (i + 2))).1), (0, .ref b), (1, .ref (a 0)), (2, .ref (am 0)), (3, .ref o), (4, .int (nI i))]) hx hb dL_law_881 hl (by decide) rfl (fun ls hl => ?_)
  refine lv_aload_n hx hb dL_law_883 rfl (lv_at hl 3 rfl) ?_
  refine k_arg hx hb hX0 hbl hbA hS hl 1 5 rfl rfl 1 (by decide) (by omega) hL dL_law_884 dL_law_885 dL_law_887 dL_law_888 dL_law_889 ?_
  refine k_arg hx hb hX0 hbl hbA hS hl 1 5 rfl rfl 2 (by decide) (by omega) hL dL_law_890 dL_law_891 dL_law_893 dL_law_894 dL_law_895 ?_
  have hP2 := kW_comm hP
  refine k_goW hP2 (fun z hz => hz) hS (va_runV (rest := []) ⟨hx, hb, hml, hown, hts⟩ (c_X5_ask l D q (va_A (wM q am T) H1.size) am T (xs (i + 1)) (xs (i + 2)) ) (cwV 2 hts gL_law_X5_ask rfl rfl rfl (by decide +kernel) ⟨Nat.le_of_ble_eq_true rfl, Nat.le_of_ble_eq_true rfl⟩) ⟨kB_blind, (va_recv hK.1 (kW_r hP2).1 (ci := 6) (q0 := 0) rfl rfl), fun U hU hW => ⟨rfl, by rw [hU]; exact kW_cut hP2, hK.warm hW⟩⟩ rfl rfl hl.1 rfl (lv_room (Nat.le_of_ble_eq_true rfl)) dL_law_896 ⟨by show k9 + 3 + 0 ≤ 601024; omega, by show n9 + 18 + 0 ≤ 7293034; omega⟩) (fun H2 locs2 hP hS => ?_)
  obtain ⟨hans, n2, w2, L2, hR2⟩ := both_ask hR (xs (i + 1)) (xs (i + 2))
  exact k_tail E (by omega) (by omega) hk hn9 kk dL_law_899 dL_law_901 dL_law_902 dL_law_905 dL_law_907 dL_law_912 dL_law_914 dL_law_917 dL_law_918 dL_law_919 dL_law_920 dL_law_922 dL_law_923 dL_law_924 dL_law_929 (by decide) hans hR2 hcap outG_0 hP hS hl
set_option maxHeartbeats 4000000 in
set_option maxRecDepth 100000 in
theorem lc_lot {p : Program} {l : Launch} {e : Env} {s : State} {m : MethodId} {below : List Frame} {meth : Method} {c : Code} {b L : Nat} {xs : Nat → Int32} {D : va_G} {q : Nat → ClassId} {e0 i k9 n9 : Nat} (E : lEnv p l s m meth c b L xs D q e0) (hL : L ≤ 3072) (hi : i + 6 ≤ L) (hk : k9 + 9 ≤ 601024) (hn9 : n9 + 97 ≤ 7293034) (kk : lK p l e s m below meth c b D q e0 i (k9 + 9) (n9 + 97) 2026) : lK p l e s m below meth c b D q e0 i k9 n9 932 := by
  obtain ⟨⟨hx, hb, hr, hml, hown, hts0, hX0, hbl, hlocks, -⟩, hK, hX, hE, hl0⟩ := id E
  have hts := lEnv_hts hts0
  have hbA : ¬ lA s b := Nat.not_le.mpr hbl
  rintro H locs ls ⟨S, T, a, am, o, g, cap, n, w, nl, L9, hP, hS, hR, hcap, hl⟩
  have hA : ∀ z : Nat, H.size ≤ z → lA s z := fun z hz => Nat.le_trans hS.1 hz
  obtain ⟨⟨a1, a2, a3⟩, ⟨b1, b2, b3⟩, ⟨c1, c2⟩, d1, d2, d3⟩ := hR.1.2.1
  have hnl : nl ≤ cap ∧ cap ≤ 40 ∧ nl ≤ 30 := ⟨hcap.2, hcap.le, c2⟩
  refine lv_aload_n hx hb dL_law_932 rfl (lv_at hl 1 rfl) ?_
  refine k_arg hx hb hX0 hbl hbA hS hl 0 4 rfl rfl 1 (by decide) (by omega) hL dL_law_933 dL_law_934 dL_law_936 dL_law_937 dL_law_938 ?_
  refine lv_aload_n hx hb dL_law_939 rfl (lv_at hl 3 rfl) ?_
  refine k_goW hP (fun z hz => hz) hS (vx_runSW (rest := []) ⟨hx, hb, hml, hown, hts⟩ (c_L_lot l hl0 D q (va_A (wO q o g (wC q a S cap nl)) H.size) a S cap nl o g (xs (i + 1)) L9 d1 d3) (vx_cwSW 3 hts gL_law_L_lot rfl rfl rfl (by decide +kernel) ⟨Nat.le_of_ble_eq_true rfl, Nat.le_of_ble_eq_true rfl⟩) ⟨kBL_blind, fun U hU hW => ⟨rfl, ⟨by rw [hU]; exact kW_cut hP, hK.warm hW, (hX.at hS hU hW).narrow (kW_sub hP hA)⟩, fun z9 h9 => Or.inr (by rw [← hU]; exact h9)⟩⟩ rfl rfl hl.1 rfl (lv_room (Nat.le_of_ble_eq_true rfl)) dL_law_940 ⟨by show k9 + 2 ≤ 601024; omega, by show n9 + 12 ≤ 7293034; omega⟩) (fun H1 locs1 hP hS => ?_)
  refine lv_istore (lv' := [(5, .int (coLot S L9 (xs (i + 1))).1), (0, .ref b), (1, .ref (a 0)), (2, .ref (am 0)), (3, .ref o), (4, .int (nI i))]) hx hb dL_law_943 hl (by decide) rfl (fun ls hl => ?_)
  refine lv_aload_n hx hb dL_law_945 rfl (lv_at hl 3 rfl) ?_
  refine k_arg hx hb hX0 hbl hbA hS hl 1 5 rfl rfl 1 (by decide) (by omega) hL dL_law_946 dL_law_947 dL_law_949 dL_law_950 dL_law_951 ?_
  have hP2 := kW_comm hP
  refine k_goW hP2 (fun z hz => hz) hS (va_runV (rest := []) ⟨hx, hb, hml, hown, hts⟩ (c_X5_lot l D q (va_A (wM q am T) H1.size) am T (xs (i + 1)) L9 d2 d3) (cwV 1 hts gL_law_X5_lot rfl rfl rfl (by decide +kernel) ⟨Nat.le_of_ble_eq_true rfl, Nat.le_of_ble_eq_true rfl⟩) ⟨kB_blind, (va_recv hK.1 (kW_r hP2).1 (ci := 6) (q0 := 0) rfl rfl), fun U hU hW => ⟨rfl, by rw [hU]; exact kW_cut hP2, hK.warm hW⟩⟩ rfl rfl hl.1 rfl (lv_room (Nat.le_of_ble_eq_true rfl)) dL_law_952 ⟨by show k9 + 2 + 0 ≤ 601024; omega, by show n9 + 12 + 0 ≤ 7293034; omega⟩) (fun H2 locs2 hP hS => ?_)
  obtain ⟨hans, n2, w2, L2, hR2⟩ := both_lot hR (xs (i + 1))
  exact k_tail E (by omega) (by omega) hk hn9 kk dL_law_955 dL_law_957 dL_law_958 dL_law_961 dL_law_963 dL_law_968 dL_law_970 dL_law_973 dL_law_974 dL_law_975 dL_law_976 dL_law_978 dL_law_979 dL_law_980 dL_law_985 (by decide) hans hR2 hcap outG_0 hP hS hl
set_option maxHeartbeats 4000000 in
set_option maxRecDepth 100000 in
theorem lc_hour {p : Program} {l : Launch} {e : Env} {s : State} {m : MethodId} {below : List Frame} {meth : Method} {c : Code} {b L : Nat} {xs : Nat → Int32} {D : va_G} {q : Nat → ClassId} {e0 i k9 n9 : Nat} (E : lEnv p l s m meth c b L xs D q e0) (hL : L ≤ 3072) (hi : i + 6 ≤ L) (hk : k9 + 9 ≤ 601024) (hn9 : n9 + 97 ≤ 7293034) (kk : lK p l e s m below meth c b D q e0 i (k9 + 9) (n9 + 97) 2026) : lK p l e s m below meth c b D q e0 i k9 n9 988 := by
  obtain ⟨⟨hx, hb, hr, hml, hown, hts0, hX0, hbl, hlocks, -⟩, hK, hX, hE, hl0⟩ := id E
  have hts := lEnv_hts hts0
  have hbA : ¬ lA s b := Nat.not_le.mpr hbl
  rintro H locs ls ⟨S, T, a, am, o, g, cap, n, w, nl, L9, hP, hS, hR, hcap, hl⟩
  have hA : ∀ z : Nat, H.size ≤ z → lA s z := fun z hz => Nat.le_trans hS.1 hz
  obtain ⟨⟨a1, a2, a3⟩, ⟨b1, b2, b3⟩, ⟨c1, c2⟩, d1, d2, d3⟩ := hR.1.2.1
  have hnl : nl ≤ cap ∧ cap ≤ 40 ∧ nl ≤ 30 := ⟨hcap.2, hcap.le, c2⟩
  have hP2 := kW_comm hP
  have hPC : kW D (lA s) (wC q a S cap nl) H := kW_r (w1 := [(o, .inl (q 3, 1, .inr (.inl g)))]) (kW_r hP)
  refine lv_aload_n hx hb dL_law_988 rfl (lv_at hl 1 rfl) ?_
  refine k_callV (rest := []) (r := S 0 0) ⟨hx, hb, hml, hown, hts⟩ (c_X4_hour l D q a S cap nl) (cwV 0 hts gL_law_X4_hour rfl rfl rfl (by decide +kernel) ⟨Nat.le_of_ble_eq_true rfl, Nat.le_of_ble_eq_true rfl⟩) hK hPC.1 (va_recv hK.1 hPC.1 (ci := 5) (q0 := 0) rfl rfl) rfl hl.1 rfl (Nat.le_of_ble_eq_true rfl) dL_law_989 ⟨by show k9 ≤ 601024; omega, by show n9 ≤ 7293034; omega⟩ (fun _ h => h) ?_
  refine lv_aload_n hx hb dL_law_992 rfl (lv_at hl 2 rfl) ?_
  refine k_goW (wo := wO q o g (wC q a S cap nl)) (w := wM q am T) hP2 (fun z hz => hz) hS (va_runV (rest := [.int (S 0 0)]) ⟨hx, hb, hml, hown, hts⟩ (c_X5_hour l D q (va_A (wM q am T) H.size) am T) (cwV 0 hts gL_law_X5_hour rfl rfl rfl (by decide +kernel) ⟨Nat.le_of_ble_eq_true rfl, Nat.le_of_ble_eq_true rfl⟩) ⟨kB_blind, (va_recv hK.1 (kW_r hP2).1 (ci := 6) (q0 := 0) rfl rfl), fun U hU hW => ⟨rfl, by rw [hU]; exact kW_cut hP2, hK.warm hW⟩⟩ rfl rfl hl.1 rfl (lv_room (Nat.le_of_ble_eq_true rfl)) dL_law_993 ⟨by show k9 + 0 ≤ 601024; omega, by show n9 + 0 ≤ 7293034; omega⟩) (fun H2 locs2 hP hS => ?_)
  refine W.widen (k := k9 + 9) (n := n9 + 97) (by omega) (by omega) ?_
  refine lv_icmp_eq (tgt := 2026) hx hb dL_law_996 (by decide) (fun _ => ?_) (fun z => absurd (a1.trans a2.symm) z)
  exact kk H2 locs2 ls ⟨S, _, a, am, o, g, cap, n, w, nl, L9, kW_comm hP, hS, hR.t, hcap, hl⟩
set_option maxHeartbeats 4000000 in
set_option maxRecDepth 100000 in
theorem lc_steps {p : Program} {l : Launch} {e : Env} {s : State} {m : MethodId} {below : List Frame} {meth : Method} {c : Code} {b L : Nat} {xs : Nat → Int32} {D : va_G} {q : Nat → ClassId} {e0 i k9 n9 : Nat} (E : lEnv p l s m meth c b L xs D q e0) (hL : L ≤ 3072) (hi : i + 6 ≤ L) (hk : k9 + 9 ≤ 601024) (hn9 : n9 + 97 ≤ 7293034) (kk : lK p l e s m below meth c b D q e0 i (k9 + 9) (n9 + 97) 2026) : lK p l e s m below meth c b D q e0 i k9 n9 1001 := by
  obtain ⟨⟨hx, hb, hr, hml, hown, hts0, hX0, hbl, hlocks, -⟩, hK, hX, hE, hl0⟩ := id E
  have hts := lEnv_hts hts0
  have hbA : ¬ lA s b := Nat.not_le.mpr hbl
  rintro H locs ls ⟨S, T, a, am, o, g, cap, n, w, nl, L9, hP, hS, hR, hcap, hl⟩
  have hA : ∀ z : Nat, H.size ≤ z → lA s z := fun z hz => Nat.le_trans hS.1 hz
  obtain ⟨⟨a1, a2, a3⟩, ⟨b1, b2, b3⟩, ⟨c1, c2⟩, d1, d2, d3⟩ := hR.1.2.1
  have hnl : nl ≤ cap ∧ cap ≤ 40 ∧ nl ≤ 30 := ⟨hcap.2, hcap.le, c2⟩
  refine lv_aload_n hx hb dL_law_1001 rfl (lv_at hl 1 rfl) ?_
  refine k_arg hx hb hX0 hbl hbA hS hl 0 4 rfl rfl 1 (by decide) (by omega) hL dL_law_1002 dL_law_1003 dL_law_1005 dL_law_1006 dL_law_1007 ?_
  refine k_arg hx hb hX0 hbl hbA hS hl 0 4 rfl rfl 2 (by decide) (by omega) hL dL_law_1008 dL_law_1009 dL_law_1011 dL_law_1012 dL_law_1013 ?_
  refine lv_aload_n hx hb dL_law_1014 rfl (lv_at hl 3 rfl) ?_
  refine k_goW hP (fun z hz => hz) hS (vx_runSW (rest := []) ⟨hx, hb, hml, hown, hts⟩ (c_L_steps l hl0 D q (va_A (wO q o g (wC q a S cap nl)) H.size) a S cap nl o g (xs (i + 1)) (xs (i + 2)) w a1 a3) (vx_cwSW 4 hts gL_law_L_steps rfl rfl rfl (by decide +kernel) ⟨Nat.le_of_ble_eq_true rfl, Nat.le_of_ble_eq_true rfl⟩) ⟨kBL_blind, fun U hU hW => ⟨rfl, ⟨by rw [hU]; exact kW_cut hP, hK.warm hW, (hX.at hS hU hW).narrow (kW_sub hP hA)⟩, fun z9 h9 => Or.inr (by rw [← hU]; exact h9)⟩⟩ rfl rfl hl.1 rfl (lv_room (Nat.le_of_ble_eq_true rfl)) dL_law_1015 ⟨by show k9 + 2 ≤ 601024; omega, by show n9 + 12 ≤ 7293034; omega⟩) (fun H1 locs1 hP hS => ?_)
  refine lv_istore (lv' := [(5, .int (coRow S 8 (xs (i + 1)) (xs (i + 2))).1), (0, .ref b), (1, .ref (a 0)), (2, .ref (am 0)), (3, .ref o), (4, .int (nI i))]) hx hb dL_law_1018 hl (by decide) rfl (fun ls hl => ?_)
  refine lv_aload_n hx hb dL_law_1020 rfl (lv_at hl 3 rfl) ?_
  refine k_arg hx hb hX0 hbl hbA hS hl 1 5 rfl rfl 1 (by decide) (by omega) hL dL_law_1021 dL_law_1022 dL_law_1024 dL_law_1025 dL_law_1026 ?_
  refine k_arg hx hb hX0 hbl hbA hS hl 1 5 rfl rfl 2 (by decide) (by omega) hL dL_law_1027 dL_law_1028 dL_law_1030 dL_law_1031 dL_law_1032 ?_
  have hP2 := kW_comm hP
  refine k_goW hP2 (fun z hz => hz) hS (va_runV (rest := []) ⟨hx, hb, hml, hown, hts⟩ (c_X5_steps l D q (va_A (wM q am T) H1.size) am T (xs (i + 1)) (xs (i + 2)) w a2 a3) (cwV 2 hts gL_law_X5_steps rfl rfl rfl (by decide +kernel) ⟨Nat.le_of_ble_eq_true rfl, Nat.le_of_ble_eq_true rfl⟩) ⟨kB_blind, (va_recv hK.1 (kW_r hP2).1 (ci := 6) (q0 := 0) rfl rfl), fun U hU hW => ⟨rfl, by rw [hU]; exact kW_cut hP2, hK.warm hW⟩⟩ rfl rfl hl.1 rfl (lv_room (Nat.le_of_ble_eq_true rfl)) dL_law_1033 ⟨by show k9 + 2 + 0 ≤ 601024; omega, by show n9 + 12 + 0 ≤ 7293034; omega⟩) (fun H2 locs2 hP hS => ?_)
  obtain ⟨hans, n2, w2, L2, hR2⟩ := both_row hR (k := 6) (k' := 8) (by decide) (xs (i + 1)) (xs (i + 2))
  exact k_tail E (by omega) (by omega) hk hn9 kk dL_law_1036 dL_law_1038 dL_law_1039 dL_law_1042 dL_law_1044 dL_law_1049 dL_law_1051 dL_law_1054 dL_law_1055 dL_law_1056 dL_law_1057 dL_law_1059 dL_law_1060 dL_law_1061 dL_law_1066 (by decide) hans hR2 hcap outG_0 hP hS hl
set_option maxHeartbeats 4000000 in
set_option maxRecDepth 100000 in
theorem lc_crowd {p : Program} {l : Launch} {e : Env} {s : State} {m : MethodId} {below : List Frame} {meth : Method} {c : Code} {b L : Nat} {xs : Nat → Int32} {D : va_G} {q : Nat → ClassId} {e0 i k9 n9 : Nat} (E : lEnv p l s m meth c b L xs D q e0) (hL : L ≤ 3072) (hi : i + 6 ≤ L) (hk : k9 + 9 ≤ 601024) (hn9 : n9 + 97 ≤ 7293034) (kk : lK p l e s m below meth c b D q e0 i (k9 + 9) (n9 + 97) 2026) : lK p l e s m below meth c b D q e0 i k9 n9 1069 := by
  obtain ⟨⟨hx, hb, hr, hml, hown, hts0, hX0, hbl, hlocks, -⟩, hK, hX, hE, hl0⟩ := id E
  have hts := lEnv_hts hts0
  have hbA : ¬ lA s b := Nat.not_le.mpr hbl
  rintro H locs ls ⟨S, T, a, am, o, g, cap, n, w, nl, L9, hP, hS, hR, hcap, hl⟩
  have hA : ∀ z : Nat, H.size ≤ z → lA s z := fun z hz => Nat.le_trans hS.1 hz
  obtain ⟨⟨a1, a2, a3⟩, ⟨b1, b2, b3⟩, ⟨c1, c2⟩, d1, d2, d3⟩ := hR.1.2.1
  have hnl : nl ≤ cap ∧ cap ≤ 40 ∧ nl ≤ 30 := ⟨hcap.2, hcap.le, c2⟩
  refine lv_aload_n hx hb dL_law_1069 rfl (lv_at hl 1 rfl) ?_
  refine k_arg hx hb hX0 hbl hbA hS hl 0 4 rfl rfl 1 (by decide) (by omega) hL dL_law_1070 dL_law_1071 dL_law_1073 dL_law_1074 dL_law_1075 ?_
  refine k_arg hx hb hX0 hbl hbA hS hl 0 4 rfl rfl 2 (by decide) (by omega) hL dL_law_1076 dL_law_1077 dL_law_1079 dL_law_1080 dL_law_1081 ?_
  refine lv_aload_n hx hb dL_law_1082 rfl (lv_at hl 3 rfl) ?_
  refine k_goW hP (fun z hz => hz) hS (vx_runSW (rest := []) ⟨hx, hb, hml, hown, hts⟩ (c_L_crowd l hl0 D q (va_A (wO q o g (wC q a S cap nl)) H.size) a S cap nl o g (xs (i + 1)) (xs (i + 2)) w a1 a3) (vx_cwSW 4 hts gL_law_L_crowd rfl rfl rfl (by decide +kernel) ⟨Nat.le_of_ble_eq_true rfl, Nat.le_of_ble_eq_true rfl⟩) ⟨kBL_blind, fun U hU hW => ⟨rfl, ⟨by rw [hU]; exact kW_cut hP, hK.warm hW, (hX.at hS hU hW).narrow (kW_sub hP hA)⟩, fun z9 h9 => Or.inr (by rw [← hU]; exact h9)⟩⟩ rfl rfl hl.1 rfl (lv_room (Nat.le_of_ble_eq_true rfl)) dL_law_1083 ⟨by show k9 + 2 ≤ 601024; omega, by show n9 + 12 ≤ 7293034; omega⟩) (fun H1 locs1 hP hS => ?_)
  refine lv_istore (lv' := [(5, .int (coRow S 9 (xs (i + 1)) (xs (i + 2))).1), (0, .ref b), (1, .ref (a 0)), (2, .ref (am 0)), (3, .ref o), (4, .int (nI i))]) hx hb dL_law_1086 hl (by decide) rfl (fun ls hl => ?_)
  refine lv_aload_n hx hb dL_law_1088 rfl (lv_at hl 3 rfl) ?_
  refine k_arg hx hb hX0 hbl hbA hS hl 1 5 rfl rfl 1 (by decide) (by omega) hL dL_law_1089 dL_law_1090 dL_law_1092 dL_law_1093 dL_law_1094 ?_
  refine k_arg hx hb hX0 hbl hbA hS hl 1 5 rfl rfl 2 (by decide) (by omega) hL dL_law_1095 dL_law_1096 dL_law_1098 dL_law_1099 dL_law_1100 ?_
  have hP2 := kW_comm hP
  refine k_goW hP2 (fun z hz => hz) hS (va_runV (rest := []) ⟨hx, hb, hml, hown, hts⟩ (c_X5_crowd l D q (va_A (wM q am T) H1.size) am T (xs (i + 1)) (xs (i + 2)) w a2 a3) (cwV 2 hts gL_law_X5_crowd rfl rfl rfl (by decide +kernel) ⟨Nat.le_of_ble_eq_true rfl, Nat.le_of_ble_eq_true rfl⟩) ⟨kB_blind, (va_recv hK.1 (kW_r hP2).1 (ci := 6) (q0 := 0) rfl rfl), fun U hU hW => ⟨rfl, by rw [hU]; exact kW_cut hP2, hK.warm hW⟩⟩ rfl rfl hl.1 rfl (lv_room (Nat.le_of_ble_eq_true rfl)) dL_law_1101 ⟨by show k9 + 2 + 0 ≤ 601024; omega, by show n9 + 12 + 0 ≤ 7293034; omega⟩) (fun H2 locs2 hP hS => ?_)
  obtain ⟨hans, n2, w2, L2, hR2⟩ := both_row hR (k := 7) (k' := 9) (by decide) (xs (i + 1)) (xs (i + 2))
  exact k_tail E (by omega) (by omega) hk hn9 kk dL_law_1104 dL_law_1106 dL_law_1107 dL_law_1110 dL_law_1112 dL_law_1117 dL_law_1119 dL_law_1122 dL_law_1123 dL_law_1124 dL_law_1125 dL_law_1127 dL_law_1128 dL_law_1129 dL_law_1134 (by decide) hans hR2 hcap outG_0 hP hS hl
set_option maxHeartbeats 4000000 in
set_option maxRecDepth 100000 in
theorem lc_through {p : Program} {l : Launch} {e : Env} {s : State} {m : MethodId} {below : List Frame} {meth : Method} {c : Code} {b L : Nat} {xs : Nat → Int32} {D : va_G} {q : Nat → ClassId} {e0 i k9 n9 : Nat} (E : lEnv p l s m meth c b L xs D q e0) (hL : L ≤ 3072) (hi : i + 6 ≤ L) (hk : k9 + 9 ≤ 601024) (hn9 : n9 + 97 ≤ 7293034) (kk : lK p l e s m below meth c b D q e0 i (k9 + 9) (n9 + 97) 2026) : lK p l e s m below meth c b D q e0 i k9 n9 1137 := by
  obtain ⟨⟨hx, hb, hr, hml, hown, hts0, hX0, hbl, hlocks, -⟩, hK, hX, hE, hl0⟩ := id E
  have hts := lEnv_hts hts0
  have hbA : ¬ lA s b := Nat.not_le.mpr hbl
  rintro H locs ls ⟨S, T, a, am, o, g, cap, n, w, nl, L9, hP, hS, hR, hcap, hl⟩
  have hA : ∀ z : Nat, H.size ≤ z → lA s z := fun z hz => Nat.le_trans hS.1 hz
  obtain ⟨⟨a1, a2, a3⟩, ⟨b1, b2, b3⟩, ⟨c1, c2⟩, d1, d2, d3⟩ := hR.1.2.1
  have hnl : nl ≤ cap ∧ cap ≤ 40 ∧ nl ≤ 30 := ⟨hcap.2, hcap.le, c2⟩
  refine lv_aload_n hx hb dL_law_1137 rfl (lv_at hl 1 rfl) ?_
  refine k_arg hx hb hX0 hbl hbA hS hl 0 4 rfl rfl 1 (by decide) (by omega) hL dL_law_1138 dL_law_1139 dL_law_1141 dL_law_1142 dL_law_1143 ?_
  refine lv_aload_n hx hb dL_law_1144 rfl (lv_at hl 3 rfl) ?_
  refine k_goW hP (fun z hz => hz) hS (vx_runSW (rest := []) ⟨hx, hb, hml, hown, hts⟩ (c_L_through l hl0 D q (va_A (wO q o g (wC q a S cap nl)) H.size) a S cap nl o g (xs (i + 1)) w a1 a3) (vx_cwSW 3 hts gL_law_L_through rfl rfl rfl (by decide +kernel) ⟨Nat.le_of_ble_eq_true rfl, Nat.le_of_ble_eq_true rfl⟩) ⟨kBL_blind, fun U hU hW => ⟨rfl, ⟨by rw [hU]; exact kW_cut hP, hK.warm hW, (hX.at hS hU hW).narrow (kW_sub hP hA)⟩, fun z9 h9 => Or.inr (by rw [← hU]; exact h9)⟩⟩ rfl rfl hl.1 rfl (lv_room (Nat.le_of_ble_eq_true rfl)) dL_law_1145 ⟨by show k9 + 1 ≤ 601024; omega, by show n9 + 6 ≤ 7293034; omega⟩) (fun H1 locs1 hP hS => ?_)
  refine lv_istore (lv' := [(5, .int (coThrough S (xs (i + 1))).1), (0, .ref b), (1, .ref (a 0)), (2, .ref (am 0)), (3, .ref o), (4, .int (nI i))]) hx hb dL_law_1148 hl (by decide) rfl (fun ls hl => ?_)
  refine lv_aload_n hx hb dL_law_1150 rfl (lv_at hl 3 rfl) ?_
  refine k_arg hx hb hX0 hbl hbA hS hl 1 5 rfl rfl 1 (by decide) (by omega) hL dL_law_1151 dL_law_1152 dL_law_1154 dL_law_1155 dL_law_1156 ?_
  have hP2 := kW_comm hP
  refine k_goW hP2 (fun z hz => hz) hS (va_runV (rest := []) ⟨hx, hb, hml, hown, hts⟩ (c_X5_through l D q (va_A (wM q am T) H1.size) am T (xs (i + 1)) w a2 a3) (cwV 1 hts gL_law_X5_through rfl rfl rfl (by decide +kernel) ⟨Nat.le_of_ble_eq_true rfl, Nat.le_of_ble_eq_true rfl⟩) ⟨kB_blind, (va_recv hK.1 (kW_r hP2).1 (ci := 6) (q0 := 0) rfl rfl), fun U hU hW => ⟨rfl, by rw [hU]; exact kW_cut hP2, hK.warm hW⟩⟩ rfl rfl hl.1 rfl (lv_room (Nat.le_of_ble_eq_true rfl)) dL_law_1157 ⟨by show k9 + 1 + 0 ≤ 601024; omega, by show n9 + 6 + 0 ≤ 7293034; omega⟩) (fun H2 locs2 hP hS => ?_)
  obtain ⟨hans, n2, w2, L2, hR2⟩ := both_through hR (xs (i + 1))
  exact k_tail E (by omega) (by omega) hk hn9 kk dL_law_1160 dL_law_1162 dL_law_1163 dL_law_1166 dL_law_1168 dL_law_1173 dL_law_1175 dL_law_1178 dL_law_1179 dL_law_1180 dL_law_1181 dL_law_1183 dL_law_1184 dL_law_1185 dL_law_1190 (by decide) hans hR2 hcap outG_0 hP hS hl
set_option maxHeartbeats 4000000 in
set_option maxRecDepth 100000 in
theorem lc_reading {p : Program} {l : Launch} {e : Env} {s : State} {m : MethodId} {below : List Frame} {meth : Method} {c : Code} {b L : Nat} {xs : Nat → Int32} {D : va_G} {q : Nat → ClassId} {e0 i k9 n9 : Nat} (E : lEnv p l s m meth c b L xs D q e0) (hL : L ≤ 3072) (hi : i + 6 ≤ L) (hk : k9 + 9 ≤ 601024) (hn9 : n9 + 97 ≤ 7293034) (kk : lK p l e s m below meth c b D q e0 i (k9 + 9) (n9 + 97) 2026) : lK p l e s m below meth c b D q e0 i k9 n9 1193 := by
  obtain ⟨⟨hx, hb, hr, hml, hown, hts0, hX0, hbl, hlocks, -⟩, hK, hX, hE, hl0⟩ := id E
  have hts := lEnv_hts hts0
  have hbA : ¬ lA s b := Nat.not_le.mpr hbl
  rintro H locs ls ⟨S, T, a, am, o, g, cap, n, w, nl, L9, hP, hS, hR, hcap, hl⟩
  have hA : ∀ z : Nat, H.size ≤ z → lA s z := fun z hz => Nat.le_trans hS.1 hz
  obtain ⟨⟨a1, a2, a3⟩, ⟨b1, b2, b3⟩, ⟨c1, c2⟩, d1, d2, d3⟩ := hR.1.2.1
  have hnl : nl ≤ cap ∧ cap ≤ 40 ∧ nl ≤ 30 := ⟨hcap.2, hcap.le, c2⟩
  refine lv_aload_n hx hb dL_law_1193 rfl (lv_at hl 1 rfl) ?_
  refine k_arg hx hb hX0 hbl hbA hS hl 0 4 rfl rfl 1 (by decide) (by omega) hL dL_law_1194 dL_law_1195 dL_law_1197 dL_law_1198 dL_law_1199 ?_
  refine k_arg hx hb hX0 hbl hbA hS hl 0 4 rfl rfl 2 (by decide) (by omega) hL dL_law_1200 dL_law_1201 dL_law_1203 dL_law_1204 dL_law_1205 ?_
  refine lv_aload_n hx hb dL_law_1206 rfl (lv_at hl 3 rfl) ?_
  refine k_goW hP (fun z hz => hz) hS (vx_runSW (rest := []) ⟨hx, hb, hml, hown, hts⟩ (c_L_reading l hl0 D q (va_A (wO q o g (wC q a S cap nl)) H.size) a S cap nl o g (xs (i + 1)) (xs (i + 2)) w a1 a3) (vx_cwSW 4 hts gL_law_L_reading rfl rfl rfl (by decide +kernel) ⟨Nat.le_of_ble_eq_true rfl, Nat.le_of_ble_eq_true rfl⟩) ⟨kBL_blind, fun U hU hW => ⟨rfl, ⟨by rw [hU]; exact kW_cut hP, hK.warm hW, (hX.at hS hU hW).narrow (kW_sub hP hA)⟩, fun z9 h9 => Or.inr (by rw [← hU]; exact h9)⟩⟩ rfl rfl hl.1 rfl (lv_room (Nat.le_of_ble_eq_true rfl)) dL_law_1207 ⟨by show k9 + 2 ≤ 601024; omega, by show n9 + 12 ≤ 7293034; omega⟩) (fun H1 locs1 hP hS => ?_)
  refine lv_istore (lv' := [(5, .int (coRow S 13 (xs (i + 1)) (xs (i + 2))).1), (0, .ref b), (1, .ref (a 0)), (2, .ref (am 0)), (3, .ref o), (4, .int (nI i))]) hx hb dL_law_1210 hl (by decide) rfl (fun ls hl => ?_)
  refine lv_aload_n hx hb dL_law_1212 rfl (lv_at hl 3 rfl) ?_
  refine k_arg hx hb hX0 hbl hbA hS hl 1 5 rfl rfl 1 (by decide) (by omega) hL dL_law_1213 dL_law_1214 dL_law_1216 dL_law_1217 dL_law_1218 ?_
  refine k_arg hx hb hX0 hbl hbA hS hl 1 5 rfl rfl 2 (by decide) (by omega) hL dL_law_1219 dL_law_1220 dL_law_1222 dL_law_1223 dL_law_1224 ?_
  have hP2 := kW_comm hP
  refine k_goW hP2 (fun z hz => hz) hS (va_runV (rest := []) ⟨hx, hb, hml, hown, hts⟩ (c_X5_reading l D q (va_A (wM q am T) H1.size) am T (xs (i + 1)) (xs (i + 2)) w a2 a3) (cwV 2 hts gL_law_X5_reading rfl rfl rfl (by decide +kernel) ⟨Nat.le_of_ble_eq_true rfl, Nat.le_of_ble_eq_true rfl⟩) ⟨kB_blind, (va_recv hK.1 (kW_r hP2).1 (ci := 6) (q0 := 0) rfl rfl), fun U hU hW => ⟨rfl, by rw [hU]; exact kW_cut hP2, hK.warm hW⟩⟩ rfl rfl hl.1 rfl (lv_room (Nat.le_of_ble_eq_true rfl)) dL_law_1225 ⟨by show k9 + 2 + 0 ≤ 601024; omega, by show n9 + 12 + 0 ≤ 7293034; omega⟩) (fun H2 locs2 hP hS => ?_)
  obtain ⟨hans, n2, w2, L2, hR2⟩ := both_row hR (k := 8) (k' := 13) (by decide) (xs (i + 1)) (xs (i + 2))
  exact k_tail E (by omega) (by omega) hk hn9 kk dL_law_1228 dL_law_1230 dL_law_1231 dL_law_1234 dL_law_1236 dL_law_1241 dL_law_1243 dL_law_1246 dL_law_1247 dL_law_1248 dL_law_1249 dL_law_1251 dL_law_1252 dL_law_1253 dL_law_1258 (by decide) hans hR2 hcap outG_0 hP hS hl
