def wsL_law0_r23 : List Cond := [Cond.selects RX4 yX4_missed yX4_missed, Cond.code yX4_missed cX4_missed 5 (some .int), Cond.methodLink RX4 169 Lib.Math.abs.name, Cond.static Lib.Math.abs.name, Cond.code Lib.Math.abs.name Lib.Math.abs.code 1 (some .int)]
def wsL_law0 : List Cond := (wsL_law0_r1 ++ (wsL_law0_r2 ++ (wsL_law0_r3 ++ (wsL_law0_r4 ++ (wsL_law0_r5 ++ (wsL_law0_r6 ++ (wsL_law0_r7 ++ (wsL_law0_r8 ++ (wsL_law0_r9 ++ (wsL_law0_r10 ++ (wsL_law0_r11 ++ (wsL_law0_r12 ++ (wsL_law0_r13 ++ (wsL_law0_r14 ++ (wsL_law0_r15 ++ (wsL_law0_r16 ++ (wsL_law0_r17 ++ (wsL_law0_r18 ++ (wsL_law0_r19 ++ (wsL_law0_r20 ++ (wsL_law0_r21 ++ (wsL_law0_r22 ++ wsL_law0_r23)))))))))))))))))))))) ++ wsX40 ++ wsX30 ++ wsX10 ++ wsX00 ++ wsJx4a65c0 ++ wsX20 ++ ([] : List Cond)
def wsL_law : List Cond := wsL_law0 ++ (vx_atS RX4 203 "java/lang/IndexOutOfBoundsException" ["java/lang/RuntimeException", "java/lang/Exception"]).filter goodWord ++ (vx_atS RX4 210 "java/lang/IllegalArgumentException" ["java/lang/RuntimeException", "java/lang/Exception"]).filter goodWord ++ (vx_atS RX4 215 "java/lang/IllegalStateException" ["java/lang/RuntimeException", "java/lang/Exception"]).filter goodWord
set_option maxRecDepth 20000 in
theorem wsL_law0_r1_in : ∀ w ∈ wsL_law0_r1, w ∈ lw_tbl := fun w h => (goodIn_p wsL_law0_r1 [38, 41] (by decide +kernel) (by decide +kernel) w h).1
theorem wsL_law0_r2_in : ∀ w ∈ wsL_law0_r2, w ∈ lw_tbl := fun w h => (goodIn_p wsL_law0_r2 [46, 75] (by decide +kernel) (by decide +kernel) w h).1
theorem wsL_law0_r3_in : ∀ w ∈ wsL_law0_r3, w ∈ lw_tbl := fun w h => (goodIn_p wsL_law0_r3 [112, 116, 157] (by decide +kernel) (by decide +kernel) w h).1
theorem wsL_law0_r4_in : ∀ w ∈ wsL_law0_r4, w ∈ lw_tbl := fun w h => (goodIn_p wsL_law0_r4 [160, 163, 342, 347, 730] (by decide +kernel) (by decide +kernel) w h).1
theorem wsL_law0_r5_in : ∀ w ∈ wsL_law0_r5, w ∈ lw_tbl := fun w h => (goodIn_p wsL_law0_r5 [734, 204, 276, 738, 742] (by decide +kernel) (by decide +kernel) w h).1
theorem wsL_law0_r6_in : ∀ w ∈ wsL_law0_r6, w ∈ lw_tbl := fun w h => (goodIn_p wsL_law0_r6 [716, 719, 686, 613, 616, 619, 623] (by decide +kernel) (by decide +kernel) w h).1
theorem wsL_law0_r7_in : ∀ w ∈ wsL_law0_r7, w ∈ lw_tbl := fun w h => (goodIn_p wsL_law0_r7 [723, 296, 727, 372, 364, 367] (by decide +kernel) (by decide +kernel) w h).1
theorem wsL_law0_r8_in : ∀ w ∈ wsL_law0_r8, w ∈ lw_tbl := fun w h => (goodIn_p wsL_law0_r8 [376, 380, 384, 388] (by decide +kernel) (by decide +kernel) w h).1
theorem wsL_law0_r9_in : ∀ w ∈ wsL_law0_r9, w ∈ lw_tbl := fun w h => (goodIn_p wsL_law0_r9 [320, 324, 327, 330, 334, 392] (by decide +kernel) (by decide +kernel) w h).1
theorem wsL_law0_r10_in : ∀ w ∈ wsL_law0_r10, w ∈ lw_tbl := fun w h => (goodIn_p wsL_law0_r10 [396, 400, 404, 409, 412] (by decide +kernel) (by decide +kernel) w h).1
theorem wsL_law0_r11_in : ∀ w ∈ wsL_law0_r11, w ∈ lw_tbl := fun w h => (goodIn_p wsL_law0_r11 [603, 356, 360, 416] (by decide +kernel) (by decide +kernel) w h).1
theorem wsL_law0_r12_in : ∀ w ∈ wsL_law0_r12, w ∈ lw_tbl := fun w h => (goodIn_p wsL_law0_r12 [420, 459, 463, 467] (by decide +kernel) (by decide +kernel) w h).1
theorem wsL_law0_r13_in : ∀ w ∈ wsL_law0_r13, w ∈ lw_tbl := fun w h => (goodIn_p wsL_law0_r13 [471, 475, 479, 485, 482, 489] (by decide +kernel) (by decide +kernel) w h).1
theorem wsL_law0_r14_in : ∀ w ∈ wsL_law0_r14, w ∈ lw_tbl := fun w h => (goodIn_p wsL_law0_r14 [492, 508, 514, 523] (by decide +kernel) (by decide +kernel) w h).1
theorem wsL_law0_r15_in : ∀ w ∈ wsL_law0_r15, w ∈ lw_tbl := fun w h => (goodIn_p wsL_law0_r15 [527, 530, 534, 539, 543] (by decide +kernel) (by decide +kernel) w h).1
theorem wsL_law0_r16_in : ∀ w ∈ wsL_law0_r16, w ∈ lw_tbl := fun w h => (goodIn_p wsL_law0_r16 [547, 551, 555, 559, 563, 568] (by decide +kernel) (by decide +kernel) w h).1
theorem wsL_law0_r17_in : ∀ w ∈ wsL_law0_r17, w ∈ lw_tbl := fun w h => (goodIn_p wsL_law0_r17 [574, 578, 583, 587] (by decide +kernel) (by decide +kernel) w h).1
theorem wsL_law0_r18_in : ∀ w ∈ wsL_law0_r18, w ∈ lw_tbl := fun w h => (goodIn_p wsL_law0_r18 [593, 713, 339, 316, 201, 745] (by decide +kernel) (by decide +kernel) w h).1
theorem wsL_law0_r19_in : ∀ w ∈ wsL_law0_r19, w ∈ lw_tbl := fun w h => (goodIn_p wsL_law0_r19 [597, 600, 666, 670, 674, 678, 682] (by decide +kernel) (by decide +kernel) w h).1
theorem wsL_law0_r20_in : ∀ w ∈ wsL_law0_r20, w ∈ lw_tbl := fun w h => (goodIn_p wsL_law0_r20 [690, 694, 698, 702, 651] (by decide +kernel) (by decide +kernel) w h).1
theorem wsL_law0_r21_in : ∀ w ∈ wsL_law0_r21, w ∈ lw_tbl := fun w h => (goodIn_p wsL_law0_r21 [706, 710, 606, 610, 627, 631] (by decide +kernel) (by decide +kernel) w h).1
theorem wsL_law0_r22_in : ∀ w ∈ wsL_law0_r22, w ∈ lw_tbl := fun w h => (goodIn_p wsL_law0_r22 [635, 639, 643, 647, 655] (by decide +kernel) (by decide +kernel) w h).1
theorem wsL_law0_r23_in : ∀ w ∈ wsL_law0_r23, w ∈ lw_tbl := fun w h => (goodIn_p wsL_law0_r23 [660, 663] (by decide +kernel) (by decide +kernel) w h).1
theorem wsX40_inT : ∀ w ∈ wsX40, w ∈ lw_tbl := by decide +kernel
theorem wsX30_inT : ∀ w ∈ wsX30, w ∈ lw_tbl := by decide +kernel
theorem wsX10_inT : ∀ w ∈ wsX10, w ∈ lw_tbl := by decide +kernel
theorem wsX00_inT : ∀ w ∈ wsX00, w ∈ lw_tbl := by decide +kernel
theorem wsJx4a65c0_inT : ∀ w ∈ wsJx4a65c0, w ∈ lw_tbl := by decide +kernel
theorem wsX20_inT : ∀ w ∈ wsX20, w ∈ lw_tbl := by decide +kernel
theorem wsL_law_in0 : ∀ w ∈ wsL_law0, w ∈ lw_tbl := fun w h => (List.mem_append.mp h).elim (fun h => (List.mem_append.mp h).elim (fun h => (List.mem_append.mp h).elim (fun h => (List.mem_append.mp h).elim (fun h => (List.mem_append.mp h).elim (fun h => (List.mem_append.mp h).elim (fun h => (List.mem_append.mp h).elim (fun h => (List.mem_append.mp h).elim (fun h => wsL_law0_r1_in w h) (fun h => (List.mem_append.mp h).elim (fun h => wsL_law0_r2_in w h) (fun h => (List.mem_append.mp h).elim (fun h => wsL_law0_r3_in w h) (fun h => (List.mem_append.mp h).elim (fun h => wsL_law0_r4_in w h) (fun h => (List.mem_append.mp h).elim (fun h => wsL_law0_r5_in w h) (fun h => (List.mem_append.mp h).elim (fun h => wsL_law0_r6_in w h) (fun h => (List.mem_append.mp h).elim (fun h => wsL_law0_r7_in w h) (fun h => (List.mem_append.mp h).elim (fun h => wsL_law0_r8_in w h) (fun h => (List.mem_append.mp h).elim (fun h => wsL_law0_r9_in w h) (fun h => (List.mem_append.mp h).elim (fun h => wsL_law0_r10_in w h) (fun h => (List.mem_append.mp h).elim (fun h => wsL_law0_r11_in w h) (fun h => (List.mem_append.mp h).elim (fun h => wsL_law0_r12_in w h) (fun h => (List.mem_append.mp h).elim (fun h => wsL_law0_r13_in w h) (fun h => (List.mem_append.mp h).elim (fun h => wsL_law0_r14_in w h) (fun h => (List.mem_append.mp h).elim (fun h => wsL_law0_r15_in w h) (fun h => (List.mem_append.mp h).elim (fun h => wsL_law0_r16_in w h) (fun h => (List.mem_append.mp h).elim (fun h => wsL_law0_r17_in w h) (fun h => (List.mem_append.mp h).elim (fun h => wsL_law0_r18_in w h) (fun h => (List.mem_append.mp h).elim (fun h => wsL_law0_r19_in w h) (fun h => (List.mem_append.mp h).elim (fun h => wsL_law0_r20_in w h) (fun h => (List.mem_append.mp h).elim (fun h => wsL_law0_r21_in w h) (fun h => (List.mem_append.mp h).elim (fun h => wsL_law0_r22_in w h) (fun h => wsL_law0_r23_in w h))))))))))))))))))))))) (fun h => wsX40_inT w h)) (fun h => wsX30_inT w h)) (fun h => wsX10_inT w h)) (fun h => wsX00_inT w h)) (fun h => wsJx4a65c0_inT w h)) (fun h => wsX20_inT w h)) (fun h => absurd h List.not_mem_nil)
theorem wsL_law_x0 : ∀ w ∈ (vx_atS RX4 203 "java/lang/IndexOutOfBoundsException" ["java/lang/RuntimeException", "java/lang/Exception"]).filter goodWord, w ∈ lw_tbl := by decide +kernel
theorem wsL_law_x1 : ∀ w ∈ (vx_atS RX4 210 "java/lang/IllegalArgumentException" ["java/lang/RuntimeException", "java/lang/Exception"]).filter goodWord, w ∈ lw_tbl := by decide +kernel
theorem wsL_law_x2 : ∀ w ∈ (vx_atS RX4 215 "java/lang/IllegalStateException" ["java/lang/RuntimeException", "java/lang/Exception"]).filter goodWord, w ∈ lw_tbl := by decide +kernel
theorem wsL_law_in : ∀ w ∈ wsL_law, w ∈ lw_tbl := fun w h => (List.mem_append.mp h).elim (fun h => (List.mem_append.mp h).elim (fun h => (List.mem_append.mp h).elim (fun h => wsL_law_in0 w h) (fun h => wsL_law_x0 w h)) (fun h => wsL_law_x1 w h)) (fun h => wsL_law_x2 w h)
theorem inlX0 : ∀ w ∈ wsX00, w ∈ wsL_law := fun _ h => List.mem_append_left _ (List.mem_append_left _ (List.mem_append_left _ (List.mem_append_left _ (List.mem_append_left _ (List.mem_append_left _ (List.mem_append_right _ h))))))
theorem inX0 : ∀ w ∈ wsX00, w ∈ lw_tbl := fun w h => wsL_law_in w (inlX0 w h)
theorem inlX1 : ∀ w ∈ wsX10, w ∈ wsL_law := fun _ h => List.mem_append_left _ (List.mem_append_left _ (List.mem_append_left _ (List.mem_append_left _ (List.mem_append_left _ (List.mem_append_left _ (List.mem_append_left _ (List.mem_append_right _ h)))))))
theorem inX1 : ∀ w ∈ wsX10, w ∈ lw_tbl := fun w h => wsL_law_in w (inlX1 w h)
theorem inlX2 : ∀ w ∈ wsX20, w ∈ wsL_law := fun _ h => List.mem_append_left _ (List.mem_append_left _ (List.mem_append_left _ (List.mem_append_left _ (List.mem_append_right _ h))))
theorem inX2 : ∀ w ∈ wsX20, w ∈ lw_tbl := fun w h => wsL_law_in w (inlX2 w h)
theorem inlX3 : ∀ w ∈ wsX30, w ∈ wsL_law := fun _ h => List.mem_append_left _ (List.mem_append_left _ (List.mem_append_left _ (List.mem_append_left _ (List.mem_append_left _ (List.mem_append_left _ (List.mem_append_left _ (List.mem_append_left _ (List.mem_append_right _ h))))))))
theorem inX3 : ∀ w ∈ wsX30, w ∈ lw_tbl := fun w h => wsL_law_in w (inlX3 w h)
theorem inlX4 : ∀ w ∈ wsX40, w ∈ wsL_law := fun _ h => List.mem_append_left _ (List.mem_append_left _ (List.mem_append_left _ (List.mem_append_left _ (List.mem_append_left _ (List.mem_append_left _ (List.mem_append_left _ (List.mem_append_left _ (List.mem_append_left _ (List.mem_append_right _ h)))))))))
theorem inX4 : ∀ w ∈ wsX40, w ∈ lw_tbl := fun w h => wsL_law_in w (inlX4 w h)
theorem inX5 : ∀ w ∈ wsX50, w ∈ lw_tbl := by decide +kernel
theorem inJx145de : ∀ w ∈ wsJx145de0, w ∈ lw_tbl := by decide +kernel
theorem inJx8e188 : ∀ w ∈ wsJx8e1880, w ∈ lw_tbl := by decide +kernel
theorem inJxab1ab : ∀ w ∈ wsJxab1ab0, w ∈ lw_tbl := by decide +kernel
theorem inJ9 : ∀ w ∈ wsJ90, w ∈ lw_tbl := by decide +kernel
theorem inJ0 : ∀ w ∈ wsJ00, w ∈ lw_tbl := by decide +kernel
theorem inJ10 : ∀ w ∈ wsJ100, w ∈ lw_tbl := by decide +kernel
theorem inJxa1e45 : ∀ w ∈ wsJxa1e450, w ∈ lw_tbl := by decide +kernel
theorem inJxc12de : ∀ w ∈ wsJxc12de0, w ∈ lw_tbl := by decide +kernel
theorem inlJx4a65c : ∀ w ∈ wsJx4a65c0, w ∈ wsL_law := fun _ h => List.mem_append_left _ (List.mem_append_left _ (List.mem_append_left _ (List.mem_append_left _ (List.mem_append_left _ (List.mem_append_right _ h)))))
theorem inJx4a65c : ∀ w ∈ wsJx4a65c0, w ∈ lw_tbl := fun w h => wsL_law_in w (inlJx4a65c w h)
theorem inJ7 : ∀ w ∈ wsJ70, w ∈ lw_tbl := by decide +kernel
theorem inJx5ef63 : ∀ w ∈ wsJx5ef630, w ∈ lw_tbl := by decide +kernel
theorem inJxbd725 : ∀ w ∈ wsJxbd7250, w ∈ lw_tbl := by decide +kernel
theorem inJ15 : ∀ w ∈ wsJ150, w ∈ lw_tbl := by decide +kernel
theorem inJxf0a74 : ∀ w ∈ wsJxf0a740, w ∈ lw_tbl := by decide +kernel
theorem inJxa66e6 : ∀ w ∈ wsJxa66e60, w ∈ lw_tbl := by decide +kernel
theorem inJ8 : ∀ w ∈ wsJ80, w ∈ lw_tbl := by decide +kernel
theorem inJ3 : ∀ w ∈ wsJ30, w ∈ lw_tbl := by decide +kernel
set_option maxRecDepth 20000 in
theorem ggX0_init_J7_fill_53178 : GoodIn wsX0_init wsJ7_fill_53178 := goodIn_r _ [18] (by decide +kernel) (by decide +kernel)
set_option maxRecDepth 20000 in
theorem gX0_init_J7_fill_53178 : GoodIn wsX0_init (va_wsS RX0 41 yJ7_fill_53178 wsJ7_fill_53178) := goodIn_app (goodIn_of _ (by decide +kernel)) ggX0_init_J7_fill_53178
theorem dX0_init_0 : decode cX0_init 0 = .ok (.aload_n 0, 1) := by decide +kernel
theorem dX0_init_1 : decode cX0_init 1 = .ok (.invokespecial 3, 3) := by decide +kernel
theorem dX0_init_4 : decode cX0_init 4 = .ok (.aload_n 0, 1) := by decide +kernel
theorem dX0_init_5 : decode cX0_init 5 = .ok (.bipush 6, 2) := by decide +kernel
theorem dX0_init_7 : decode cX0_init 7 = .ok (.newarray .int, 2) := by decide +kernel
theorem dX0_init_9 : decode cX0_init 9 = .ok (.putfield 9, 3) := by decide +kernel
theorem dX0_init_12 : decode cX0_init 12 = .ok (.aload_n 0, 1) := by decide +kernel
theorem dX0_init_13 : decode cX0_init 13 = .ok (.bipush 6, 2) := by decide +kernel
theorem dX0_init_15 : decode cX0_init 15 = .ok (.newarray .int, 2) := by decide +kernel
theorem dX0_init_17 : decode cX0_init 17 = .ok (.putfield 15, 3) := by decide +kernel
theorem dX0_init_20 : decode cX0_init 20 = .ok (.aload_n 0, 1) := by decide +kernel
theorem dX0_init_21 : decode cX0_init 21 = .ok (.bipush 6, 2) := by decide +kernel
theorem dX0_init_23 : decode cX0_init 23 = .ok (.newarray .int, 2) := by decide +kernel
theorem dX0_init_25 : decode cX0_init 25 = .ok (.putfield 18, 3) := by decide +kernel
theorem dX0_init_28 : decode cX0_init 28 = .ok (.aload_n 0, 1) := by decide +kernel
theorem dX0_init_29 : decode cX0_init 29 = .ok (.bipush 72, 2) := by decide +kernel
theorem dX0_init_31 : decode cX0_init 31 = .ok (.newarray .boolean, 2) := by decide +kernel
theorem dX0_init_33 : decode cX0_init 33 = .ok (.putfield 21, 3) := by decide +kernel
theorem dX0_init_36 : decode cX0_init 36 = .ok (.aload_n 0, 1) := by decide +kernel
theorem dX0_init_37 : decode cX0_init 37 = .ok (.bipush 6, 2) := by decide +kernel
theorem dX0_init_39 : decode cX0_init 39 = .ok (.newarray .boolean, 2) := by decide +kernel
theorem dX0_init_41 : decode cX0_init 41 = .ok (.putfield 25, 3) := by decide +kernel
theorem dX0_init_44 : decode cX0_init 44 = .ok (.aload_n 0, 1) := by decide +kernel
theorem dX0_init_45 : decode cX0_init 45 = .ok (.bipush 6, 2) := by decide +kernel
theorem dX0_init_47 : decode cX0_init 47 = .ok (.newarray .int, 2) := by decide +kernel
theorem dX0_init_49 : decode cX0_init 49 = .ok (.putfield 28, 3) := by decide +kernel
theorem dX0_init_52 : decode cX0_init 52 = .ok (.aload_n 0, 1) := by decide +kernel
theorem dX0_init_53 : decode cX0_init 53 = .ok (.sipush 2400, 3) := by decide +kernel
theorem dX0_init_56 : decode cX0_init 56 = .ok (.newarray .int, 2) := by decide +kernel
theorem dX0_init_58 : decode cX0_init 58 = .ok (.putfield 31, 3) := by decide +kernel
theorem dX0_init_61 : decode cX0_init 61 = .ok (.aload_n 0, 1) := by decide +kernel
theorem dX0_init_62 : decode cX0_init 62 = .ok (.bipush 50, 2) := by decide +kernel
theorem dX0_init_64 : decode cX0_init 64 = .ok (.newarray .int, 2) := by decide +kernel
theorem dX0_init_66 : decode cX0_init 66 = .ok (.putfield 34, 3) := by decide +kernel
theorem dX0_init_69 : decode cX0_init 69 = .ok (.aload_n 0, 1) := by decide +kernel
theorem dX0_init_70 : decode cX0_init 70 = .ok (.iconst 0, 1) := by decide +kernel
theorem dX0_init_71 : decode cX0_init 71 = .ok (.putfield 37, 3) := by decide +kernel
theorem dX0_init_74 : decode cX0_init 74 = .ok (.aload_n 0, 1) := by decide +kernel
theorem dX0_init_75 : decode cX0_init 75 = .ok (.getfield 9, 3) := by decide +kernel
theorem dX0_init_78 : decode cX0_init 78 = .ok (.bipush 10, 2) := by decide +kernel
theorem dX0_init_80 : decode cX0_init 80 = .ok (.invokestatic 41, 3) := by decide +kernel
theorem dX0_init_83 : decode cX0_init 83 = .ok (.return_, 1) := by decide +kernel
theorem dX0_wish_0 : decode cX0_wish 0 = .ok (.iload_n 0, 1) := by decide +kernel
theorem dX0_wish_1 : decode cX0_wish 1 = .ok (.bipush 12, 2) := by decide +kernel
theorem dX0_wish_3 : decode cX0_wish 3 = .ok (.imul, 1) := by decide +kernel
theorem dX0_wish_4 : decode cX0_wish 4 = .ok (.iload_n 1, 1) := by decide +kernel
theorem dX0_wish_5 : decode cX0_wish 5 = .ok (.iadd, 1) := by decide +kernel
theorem dX0_wish_6 : decode cX0_wish 6 = .ok (.ireturn, 1) := by decide +kernel
set_option maxRecDepth 20000 in
theorem ggX0_askedBy_X0_wish : GoodIn wsX0_askedBy wsX0_wish := goodIn_r _ [5] (by decide +kernel) (by decide +kernel)
set_option maxRecDepth 20000 in
theorem gX0_askedBy_X0_wish : GoodIn wsX0_askedBy (va_wsS RX0 47 yX0_wish wsX0_wish) := goodIn_app (goodIn_of _ (by decide +kernel)) ggX0_askedBy_X0_wish
theorem dX0_askedBy_0 : decode cX0_askedBy 0 = .ok (.iconst 0, 1) := by decide +kernel
theorem dX0_askedBy_1 : decode cX0_askedBy 1 = .ok (.istore_n 2, 1) := by decide +kernel
theorem dX0_askedBy_2 : decode cX0_askedBy 2 = .ok (.iconst 0, 1) := by decide +kernel
theorem dX0_askedBy_3 : decode cX0_askedBy 3 = .ok (.istore_n 3, 1) := by decide +kernel
theorem dX0_askedBy_4 : decode cX0_askedBy 4 = .ok (.iload_n 3, 1) := by decide +kernel
theorem dX0_askedBy_5 : decode cX0_askedBy 5 = .ok (.bipush 12, 2) := by decide +kernel
theorem dX0_askedBy_7 : decode cX0_askedBy 7 = .ok (.if_icmp .ge 30, 3) := by decide +kernel
theorem dX0_askedBy_10 : decode cX0_askedBy 10 = .ok (.iload_n 2, 1) := by decide +kernel
theorem dX0_askedBy_11 : decode cX0_askedBy 11 = .ok (.aload_n 0, 1) := by decide +kernel
theorem dX0_askedBy_12 : decode cX0_askedBy 12 = .ok (.getfield 21, 3) := by decide +kernel
theorem dX0_askedBy_15 : decode cX0_askedBy 15 = .ok (.iload_n 1, 1) := by decide +kernel
theorem dX0_askedBy_16 : decode cX0_askedBy 16 = .ok (.iload_n 3, 1) := by decide +kernel
theorem dX0_askedBy_17 : decode cX0_askedBy 17 = .ok (.invokestatic 47, 3) := by decide +kernel
theorem dX0_askedBy_20 : decode cX0_askedBy 20 = .ok (.baload, 1) := by decide +kernel
theorem dX0_askedBy_21 : decode cX0_askedBy 21 = .ok (.ifCond .eq 7, 3) := by decide +kernel
theorem dX0_askedBy_24 : decode cX0_askedBy 24 = .ok (.iconst 1, 1) := by decide +kernel
theorem dX0_askedBy_25 : decode cX0_askedBy 25 = .ok (.goto 4, 3) := by decide +kernel
theorem dX0_askedBy_28 : decode cX0_askedBy 28 = .ok (.iconst 0, 1) := by decide +kernel
theorem dX0_askedBy_29 : decode cX0_askedBy 29 = .ok (.iadd, 1) := by decide +kernel
theorem dX0_askedBy_30 : decode cX0_askedBy 30 = .ok (.istore_n 2, 1) := by decide +kernel
theorem dX0_askedBy_31 : decode cX0_askedBy 31 = .ok (.iinc 3 1, 3) := by decide +kernel
theorem dX0_askedBy_34 : decode cX0_askedBy 34 = .ok (.goto (-30), 3) := by decide +kernel
theorem dX0_askedBy_37 : decode cX0_askedBy 37 = .ok (.iload_n 2, 1) := by decide +kernel
theorem dX0_askedBy_38 : decode cX0_askedBy 38 = .ok (.ireturn, 1) := by decide +kernel
set_option maxRecDepth 20000 in
theorem ggX0_takePlaces_X0_choose : GoodIn wsX0_takePlaces wsX0_choose := goodIn_r _ [8, 3, 9, 10, 11, 12, 7, 13, 14, 15, 16, 17, 18, 19, 20, 21, 22, 2, 23, 24, 25, 26, 27, 28, 29, 30, 31, 32, 33, 34, 35, 43, 44, 45, 46, 47, 48, 49, 50, 51] (by decide +kernel) (by decide +kernel)
set_option maxRecDepth 20000 in
theorem gX0_takePlaces_X0_choose : GoodIn wsX0_takePlaces (wsV RX0 51 RX0 yX0_choose wsX0_choose) := goodIn_app (goodIn_of _ (by decide +kernel)) ggX0_takePlaces_X0_choose
set_option maxRecDepth 20000 in
theorem ggX0_takePlaces_X4_cell : GoodIn wsX0_takePlaces wsX4_cell := goodIn_r _ [38] (by decide +kernel) (by decide +kernel)
set_option maxRecDepth 20000 in
theorem gX0_takePlaces_X4_cell_n55 : GoodIn wsX0_takePlaces (wsX4_cell) := ggX0_takePlaces_X4_cell
set_option maxRecDepth 20000 in
theorem ggX0_takePlaces_X0_endAsking : GoodIn wsX0_takePlaces wsX0_endAsking := goodIn_r _ [42, 2, 22, 23, 24, 7, 25, 43, 44, 45, 46, 47, 48, 49, 50, 51] (by decide +kernel) (by decide +kernel)
set_option maxRecDepth 20000 in
theorem gX0_takePlaces_X0_endAsking : GoodIn wsX0_takePlaces (wsV RX0 58 RX0 yX0_endAsking wsX0_endAsking) := goodIn_app (goodIn_of _ (by decide +kernel)) ggX0_takePlaces_X0_endAsking
theorem dX0_takePlaces_0 : decode cX0_takePlaces 0 = .ok (.iconst 0, 1) := by decide +kernel
theorem dX0_takePlaces_1 : decode cX0_takePlaces 1 = .ok (.istore_n 2, 1) := by decide +kernel
theorem dX0_takePlaces_2 : decode cX0_takePlaces 2 = .ok (.iload_n 2, 1) := by decide +kernel
theorem dX0_takePlaces_3 : decode cX0_takePlaces 3 = .ok (.bipush 12, 2) := by decide +kernel
theorem dX0_takePlaces_5 : decode cX0_takePlaces 5 = .ok (.if_icmp .ge 53, 3) := by decide +kernel
theorem dX0_takePlaces_8 : decode cX0_takePlaces 8 = .ok (.aload_n 0, 1) := by decide +kernel
theorem dX0_takePlaces_9 : decode cX0_takePlaces 9 = .ok (.iload_n 2, 1) := by decide +kernel
theorem dX0_takePlaces_10 : decode cX0_takePlaces 10 = .ok (.invokevirtual 51, 3) := by decide +kernel
theorem dX0_takePlaces_13 : decode cX0_takePlaces 13 = .ok (.istore_n 3, 1) := by decide +kernel
theorem dX0_takePlaces_14 : decode cX0_takePlaces 14 = .ok (.aload_n 0, 1) := by decide +kernel
theorem dX0_takePlaces_15 : decode cX0_takePlaces 15 = .ok (.getfield 31, 3) := by decide +kernel
theorem dX0_takePlaces_18 : decode cX0_takePlaces 18 = .ok (.iload_n 2, 1) := by decide +kernel
theorem dX0_takePlaces_19 : decode cX0_takePlaces 19 = .ok (.iload_n 1, 1) := by decide +kernel
theorem dX0_takePlaces_20 : decode cX0_takePlaces 20 = .ok (.invokestatic 55, 3) := by decide +kernel
theorem dX0_takePlaces_23 : decode cX0_takePlaces 23 = .ok (.iload_n 3, 1) := by decide +kernel
theorem dX0_takePlaces_24 : decode cX0_takePlaces 24 = .ok (.iastore, 1) := by decide +kernel
theorem dX0_takePlaces_25 : decode cX0_takePlaces 25 = .ok (.iload_n 3, 1) := by decide +kernel
theorem dX0_takePlaces_26 : decode cX0_takePlaces 26 = .ok (.ifCond .lt 26, 3) := by decide +kernel
theorem dX0_takePlaces_29 : decode cX0_takePlaces 29 = .ok (.iload_n 3, 1) := by decide +kernel
theorem dX0_takePlaces_30 : decode cX0_takePlaces 30 = .ok (.bipush 6, 2) := by decide +kernel
theorem dX0_takePlaces_32 : decode cX0_takePlaces 32 = .ok (.if_icmp .ge 20, 3) := by decide +kernel
theorem dX0_takePlaces_35 : decode cX0_takePlaces 35 = .ok (.aload_n 0, 1) := by decide +kernel
theorem dX0_takePlaces_36 : decode cX0_takePlaces 36 = .ok (.getfield 25, 3) := by decide +kernel
theorem dX0_takePlaces_39 : decode cX0_takePlaces 39 = .ok (.iload_n 3, 1) := by decide +kernel
theorem dX0_takePlaces_40 : decode cX0_takePlaces 40 = .ok (.iconst 1, 1) := by decide +kernel
theorem dX0_takePlaces_41 : decode cX0_takePlaces 41 = .ok (.bastore, 1) := by decide +kernel
theorem dX0_takePlaces_42 : decode cX0_takePlaces 42 = .ok (.aload_n 0, 1) := by decide +kernel
theorem dX0_takePlaces_43 : decode cX0_takePlaces 43 = .ok (.getfield 15, 3) := by decide +kernel
theorem dX0_takePlaces_46 : decode cX0_takePlaces 46 = .ok (.iload_n 3, 1) := by decide +kernel
theorem dX0_takePlaces_47 : decode cX0_takePlaces 47 = .ok (.dup2, 1) := by decide +kernel
theorem dX0_takePlaces_48 : decode cX0_takePlaces 48 = .ok (.iaload, 1) := by decide +kernel
theorem dX0_takePlaces_49 : decode cX0_takePlaces 49 = .ok (.iconst 1, 1) := by decide +kernel
theorem dX0_takePlaces_50 : decode cX0_takePlaces 50 = .ok (.iadd, 1) := by decide +kernel
theorem dX0_takePlaces_51 : decode cX0_takePlaces 51 = .ok (.iastore, 1) := by decide +kernel
theorem dX0_takePlaces_52 : decode cX0_takePlaces 52 = .ok (.iinc 2 1, 3) := by decide +kernel
theorem dX0_takePlaces_55 : decode cX0_takePlaces 55 = .ok (.goto (-53), 3) := by decide +kernel
theorem dX0_takePlaces_58 : decode cX0_takePlaces 58 = .ok (.aload_n 0, 1) := by decide +kernel
theorem dX0_takePlaces_59 : decode cX0_takePlaces 59 = .ok (.invokevirtual 58, 3) := by decide +kernel
theorem dX0_takePlaces_62 : decode cX0_takePlaces 62 = .ok (.return_, 1) := by decide +kernel
set_option maxRecDepth 20000 in
theorem ggX0_choose_X0_fewestHours : GoodIn wsX0_choose wsX0_fewestHours := goodIn_r _ [7, 1, 8, 9, 10, 11, 12, 13, 14, 6, 15, 16, 17, 18, 19, 20, 31, 32, 33, 34, 35, 36, 37, 38, 39] (by decide +kernel) (by decide +kernel)
set_option maxRecDepth 20000 in
theorem gX0_choose_X0_fewestHours : GoodIn wsX0_choose (wsV RX0 61 RX0 yX0_fewestHours wsX0_fewestHours) := goodIn_app (goodIn_of _ (by decide +kernel)) ggX0_choose_X0_fewestHours
set_option maxRecDepth 20000 in
theorem ggX0_choose_X0_wants : GoodIn wsX0_choose wsX0_wants := goodIn_r _ [15, 16, 17, 18, 19, 6, 20, 31, 32, 33, 34, 35, 36, 37, 38, 39] (by decide +kernel) (by decide +kernel)
set_option maxRecDepth 20000 in
theorem gX0_choose_X0_wants : GoodIn wsX0_choose (wsV RX0 64 RX0 yX0_wants wsX0_wants) := goodIn_app (goodIn_of _ (by decide +kernel)) ggX0_choose_X0_wants
set_option maxRecDepth 20000 in
theorem ggX0_choose_X0_drawLot : GoodIn wsX0_choose wsX0_drawLot := goodIn_r _ [24, 25, 26, 27, 28, 29, 30, 31, 32, 33, 34, 35, 36, 37, 38, 39] (by decide +kernel) (by decide +kernel)
set_option maxRecDepth 20000 in
theorem gX0_choose_X0_drawLot : GoodIn wsX0_choose (wsV RX0 68 RX0 yX0_drawLot wsX0_drawLot) := goodIn_app (goodIn_of _ (by decide +kernel)) ggX0_choose_X0_drawLot
theorem dX0_choose_0 : decode cX0_choose 0 = .ok (.aload_n 0, 1) := by decide +kernel
theorem dX0_choose_1 : decode cX0_choose 1 = .ok (.iload_n 1, 1) := by decide +kernel
theorem dX0_choose_2 : decode cX0_choose 2 = .ok (.invokevirtual 61, 3) := by decide +kernel
theorem dX0_choose_5 : decode cX0_choose 5 = .ok (.istore_n 2, 1) := by decide +kernel
theorem dX0_choose_6 : decode cX0_choose 6 = .ok (.iconst 0, 1) := by decide +kernel
theorem dX0_choose_7 : decode cX0_choose 7 = .ok (.istore_n 3, 1) := by decide +kernel
theorem dX0_choose_8 : decode cX0_choose 8 = .ok (.iconst 0, 1) := by decide +kernel
theorem dX0_choose_9 : decode cX0_choose 9 = .ok (.istore 4, 2) := by decide +kernel
theorem dX0_choose_11 : decode cX0_choose 11 = .ok (.iload 4, 2) := by decide +kernel
theorem dX0_choose_13 : decode cX0_choose 13 = .ok (.bipush 6, 2) := by decide +kernel
theorem dX0_choose_15 : decode cX0_choose 15 = .ok (.if_icmp .ge 41, 3) := by decide +kernel
theorem dX0_choose_18 : decode cX0_choose 18 = .ok (.aload_n 0, 1) := by decide +kernel
theorem dX0_choose_19 : decode cX0_choose 19 = .ok (.iload 4, 2) := by decide +kernel
theorem dX0_choose_21 : decode cX0_choose 21 = .ok (.iload_n 1, 1) := by decide +kernel
theorem dX0_choose_22 : decode cX0_choose 22 = .ok (.invokevirtual 64, 3) := by decide +kernel
theorem dX0_choose_25 : decode cX0_choose 25 = .ok (.ifCond .eq 25, 3) := by decide +kernel
theorem dX0_choose_28 : decode cX0_choose 28 = .ok (.aload_n 0, 1) := by decide +kernel
theorem dX0_choose_29 : decode cX0_choose 29 = .ok (.getfield 15, 3) := by decide +kernel
theorem dX0_choose_32 : decode cX0_choose 32 = .ok (.iload 4, 2) := by decide +kernel
theorem dX0_choose_34 : decode cX0_choose 34 = .ok (.iaload, 1) := by decide +kernel
theorem dX0_choose_35 : decode cX0_choose 35 = .ok (.iload_n 2, 1) := by decide +kernel
theorem dX0_choose_36 : decode cX0_choose 36 = .ok (.if_icmp .ne 14, 3) := by decide +kernel
theorem dX0_choose_39 : decode cX0_choose 39 = .ok (.aload_n 0, 1) := by decide +kernel
theorem dX0_choose_40 : decode cX0_choose 40 = .ok (.getfield 28, 3) := by decide +kernel
theorem dX0_choose_43 : decode cX0_choose 43 = .ok (.iload_n 3, 1) := by decide +kernel
theorem dX0_choose_44 : decode cX0_choose 44 = .ok (.iload 4, 2) := by decide +kernel
theorem dX0_choose_46 : decode cX0_choose 46 = .ok (.iastore, 1) := by decide +kernel
theorem dX0_choose_47 : decode cX0_choose 47 = .ok (.iinc 3 1, 3) := by decide +kernel
theorem dX0_choose_50 : decode cX0_choose 50 = .ok (.iinc 4 1, 3) := by decide +kernel
theorem dX0_choose_53 : decode cX0_choose 53 = .ok (.goto (-42), 3) := by decide +kernel
theorem dX0_choose_56 : decode cX0_choose 56 = .ok (.iload_n 3, 1) := by decide +kernel
theorem dX0_choose_57 : decode cX0_choose 57 = .ok (.ifCond .ne 5, 3) := by decide +kernel
theorem dX0_choose_60 : decode cX0_choose 60 = .ok (.iconst (-1), 1) := by decide +kernel
theorem dX0_choose_61 : decode cX0_choose 61 = .ok (.ireturn, 1) := by decide +kernel
theorem dX0_choose_62 : decode cX0_choose 62 = .ok (.iload_n 3, 1) := by decide +kernel
theorem dX0_choose_63 : decode cX0_choose 63 = .ok (.iconst 1, 1) := by decide +kernel
theorem dX0_choose_64 : decode cX0_choose 64 = .ok (.if_icmp .ne 12, 3) := by decide +kernel
theorem dX0_choose_67 : decode cX0_choose 67 = .ok (.aload_n 0, 1) := by decide +kernel
theorem dX0_choose_68 : decode cX0_choose 68 = .ok (.getfield 28, 3) := by decide +kernel
theorem dX0_choose_71 : decode cX0_choose 71 = .ok (.iconst 0, 1) := by decide +kernel
theorem dX0_choose_72 : decode cX0_choose 72 = .ok (.iaload, 1) := by decide +kernel
theorem dX0_choose_73 : decode cX0_choose 73 = .ok (.goto 14, 3) := by decide +kernel
theorem dX0_choose_76 : decode cX0_choose 76 = .ok (.aload_n 0, 1) := by decide +kernel
theorem dX0_choose_77 : decode cX0_choose 77 = .ok (.getfield 28, 3) := by decide +kernel
theorem dX0_choose_80 : decode cX0_choose 80 = .ok (.aload_n 0, 1) := by decide +kernel
theorem dX0_choose_81 : decode cX0_choose 81 = .ok (.invokevirtual 68, 3) := by decide +kernel
theorem dX0_choose_84 : decode cX0_choose 84 = .ok (.iload_n 3, 1) := by decide +kernel
theorem dX0_choose_85 : decode cX0_choose 85 = .ok (.irem, 1) := by decide +kernel
theorem dX0_choose_86 : decode cX0_choose 86 = .ok (.iaload, 1) := by decide +kernel
theorem dX0_choose_87 : decode cX0_choose 87 = .ok (.ireturn, 1) := by decide +kernel
set_option maxRecDepth 20000 in
theorem ggX0_fewestHours_X0_wants : GoodIn wsX0_fewestHours wsX0_wants := goodIn_r _ [10, 11, 12, 13, 14, 9, 15, 16, 17, 18, 19, 20, 21, 22, 23, 24] (by decide +kernel) (by decide +kernel)
set_option maxRecDepth 20000 in
theorem gX0_fewestHours_X0_wants : GoodIn wsX0_fewestHours (wsV RX0 64 RX0 yX0_wants wsX0_wants) := goodIn_app (goodIn_of _ (by decide +kernel)) ggX0_fewestHours_X0_wants
theorem dX0_fewestHours_0 : decode cX0_fewestHours 0 = .ok (.sipush 200, 3) := by decide +kernel
theorem dX0_fewestHours_3 : decode cX0_fewestHours 3 = .ok (.istore_n 2, 1) := by decide +kernel
theorem dX0_fewestHours_4 : decode cX0_fewestHours 4 = .ok (.iconst 0, 1) := by decide +kernel
theorem dX0_fewestHours_5 : decode cX0_fewestHours 5 = .ok (.istore_n 3, 1) := by decide +kernel
theorem dX0_fewestHours_6 : decode cX0_fewestHours 6 = .ok (.iload_n 3, 1) := by decide +kernel
theorem dX0_fewestHours_7 : decode cX0_fewestHours 7 = .ok (.bipush 6, 2) := by decide +kernel
theorem dX0_fewestHours_9 : decode cX0_fewestHours 9 = .ok (.if_icmp .ge 29, 3) := by decide +kernel
theorem dX0_fewestHours_12 : decode cX0_fewestHours 12 = .ok (.aload_n 0, 1) := by decide +kernel
theorem dX0_fewestHours_13 : decode cX0_fewestHours 13 = .ok (.iload_n 3, 1) := by decide +kernel
theorem dX0_fewestHours_14 : decode cX0_fewestHours 14 = .ok (.iload_n 1, 1) := by decide +kernel
theorem dX0_fewestHours_15 : decode cX0_fewestHours 15 = .ok (.invokevirtual 64, 3) := by decide +kernel
theorem dX0_fewestHours_18 : decode cX0_fewestHours 18 = .ok (.ifCond .eq 14, 3) := by decide +kernel
theorem dX0_fewestHours_21 : decode cX0_fewestHours 21 = .ok (.iload_n 2, 1) := by decide +kernel
theorem dX0_fewestHours_22 : decode cX0_fewestHours 22 = .ok (.aload_n 0, 1) := by decide +kernel
theorem dX0_fewestHours_23 : decode cX0_fewestHours 23 = .ok (.getfield 15, 3) := by decide +kernel
theorem dX0_fewestHours_26 : decode cX0_fewestHours 26 = .ok (.iload_n 3, 1) := by decide +kernel
theorem dX0_fewestHours_27 : decode cX0_fewestHours 27 = .ok (.iaload, 1) := by decide +kernel
theorem dX0_fewestHours_28 : decode cX0_fewestHours 28 = .ok (.invokestatic 72, 3) := by decide +kernel
theorem dX0_fewestHours_31 : decode cX0_fewestHours 31 = .ok (.istore_n 2, 1) := by decide +kernel
theorem dX0_fewestHours_32 : decode cX0_fewestHours 32 = .ok (.iinc 3 1, 3) := by decide +kernel
theorem dX0_fewestHours_35 : decode cX0_fewestHours 35 = .ok (.goto (-29), 3) := by decide +kernel
theorem dX0_fewestHours_38 : decode cX0_fewestHours 38 = .ok (.iload_n 2, 1) := by decide +kernel
theorem dX0_fewestHours_39 : decode cX0_fewestHours 39 = .ok (.ireturn, 1) := by decide +kernel
set_option maxRecDepth 20000 in
theorem ggX0_wants_X0_wish : GoodIn wsX0_wants wsX0_wish := goodIn_r _ [6] (by decide +kernel) (by decide +kernel)
set_option maxRecDepth 20000 in
theorem gX0_wants_X0_wish : GoodIn wsX0_wants (va_wsS RX0 47 yX0_wish wsX0_wish) := goodIn_app (goodIn_of _ (by decide +kernel)) ggX0_wants_X0_wish
theorem dX0_wants_0 : decode cX0_wants 0 = .ok (.aload_n 0, 1) := by decide +kernel
theorem dX0_wants_1 : decode cX0_wants 1 = .ok (.getfield 21, 3) := by decide +kernel
theorem dX0_wants_4 : decode cX0_wants 4 = .ok (.iload_n 1, 1) := by decide +kernel
theorem dX0_wants_5 : decode cX0_wants 5 = .ok (.iload_n 2, 1) := by decide +kernel
theorem dX0_wants_6 : decode cX0_wants 6 = .ok (.invokestatic 47, 3) := by decide +kernel
theorem dX0_wants_9 : decode cX0_wants 9 = .ok (.baload, 1) := by decide +kernel
theorem dX0_wants_10 : decode cX0_wants 10 = .ok (.ifCond .eq 16, 3) := by decide +kernel
theorem dX0_wants_13 : decode cX0_wants 13 = .ok (.aload_n 0, 1) := by decide +kernel
theorem dX0_wants_14 : decode cX0_wants 14 = .ok (.getfield 25, 3) := by decide +kernel
theorem dX0_wants_17 : decode cX0_wants 17 = .ok (.iload_n 1, 1) := by decide +kernel
theorem dX0_wants_18 : decode cX0_wants 18 = .ok (.baload, 1) := by decide +kernel
theorem dX0_wants_19 : decode cX0_wants 19 = .ok (.ifCond .ne 7, 3) := by decide +kernel
theorem dX0_wants_22 : decode cX0_wants 22 = .ok (.iconst 1, 1) := by decide +kernel
theorem dX0_wants_23 : decode cX0_wants 23 = .ok (.goto 4, 3) := by decide +kernel
theorem dX0_wants_26 : decode cX0_wants 26 = .ok (.iconst 0, 1) := by decide +kernel
theorem dX0_wants_27 : decode cX0_wants 27 = .ok (.ireturn, 1) := by decide +kernel
theorem dX0_drawLot_0 : decode cX0_drawLot 0 = .ok (.aload_n 0, 1) := by decide +kernel
theorem dX0_drawLot_1 : decode cX0_drawLot 1 = .ok (.getfield 37, 3) := by decide +kernel
theorem dX0_drawLot_4 : decode cX0_drawLot 4 = .ok (.ifCond .ne 5, 3) := by decide +kernel
theorem dX0_drawLot_7 : decode cX0_drawLot 7 = .ok (.iconst 0, 1) := by decide +kernel
theorem dX0_drawLot_8 : decode cX0_drawLot 8 = .ok (.ireturn, 1) := by decide +kernel
theorem dX0_drawLot_9 : decode cX0_drawLot 9 = .ok (.aload_n 0, 1) := by decide +kernel
theorem dX0_drawLot_10 : decode cX0_drawLot 10 = .ok (.getfield 34, 3) := by decide +kernel
theorem dX0_drawLot_13 : decode cX0_drawLot 13 = .ok (.iconst 0, 1) := by decide +kernel
theorem dX0_drawLot_14 : decode cX0_drawLot 14 = .ok (.iaload, 1) := by decide +kernel
theorem dX0_drawLot_15 : decode cX0_drawLot 15 = .ok (.istore_n 1, 1) := by decide +kernel
theorem dX0_drawLot_16 : decode cX0_drawLot 16 = .ok (.aload_n 0, 1) := by decide +kernel
theorem dX0_drawLot_17 : decode cX0_drawLot 17 = .ok (.dup, 1) := by decide +kernel
theorem dX0_drawLot_18 : decode cX0_drawLot 18 = .ok (.getfield 37, 3) := by decide +kernel
theorem dX0_drawLot_21 : decode cX0_drawLot 21 = .ok (.iconst 1, 1) := by decide +kernel
theorem dX0_drawLot_22 : decode cX0_drawLot 22 = .ok (.isub, 1) := by decide +kernel
theorem dX0_drawLot_23 : decode cX0_drawLot 23 = .ok (.putfield 37, 3) := by decide +kernel
theorem dX0_drawLot_26 : decode cX0_drawLot 26 = .ok (.aload_n 0, 1) := by decide +kernel
theorem dX0_drawLot_27 : decode cX0_drawLot 27 = .ok (.getfield 34, 3) := by decide +kernel
theorem dX0_drawLot_30 : decode cX0_drawLot 30 = .ok (.iconst 1, 1) := by decide +kernel
theorem dX0_drawLot_31 : decode cX0_drawLot 31 = .ok (.aload_n 0, 1) := by decide +kernel
theorem dX0_drawLot_32 : decode cX0_drawLot 32 = .ok (.getfield 34, 3) := by decide +kernel
theorem dX0_drawLot_35 : decode cX0_drawLot 35 = .ok (.iconst 0, 1) := by decide +kernel
theorem dX0_drawLot_36 : decode cX0_drawLot 36 = .ok (.aload_n 0, 1) := by decide +kernel
theorem dX0_drawLot_37 : decode cX0_drawLot 37 = .ok (.getfield 37, 3) := by decide +kernel
theorem dX0_drawLot_40 : decode cX0_drawLot 40 = .ok (.invokestatic 77, 3) := by decide +kernel
theorem dX0_drawLot_43 : decode cX0_drawLot 43 = .ok (.iload_n 1, 1) := by decide +kernel
theorem dX0_drawLot_44 : decode cX0_drawLot 44 = .ok (.ireturn, 1) := by decide +kernel
set_option maxRecDepth 20000 in
theorem ggX0_endAsking_X0_wish : GoodIn wsX0_endAsking wsX0_wish := goodIn_r _ [6] (by decide +kernel) (by decide +kernel)
set_option maxRecDepth 20000 in
theorem gX0_endAsking_X0_wish : GoodIn wsX0_endAsking (va_wsS RX0 47 yX0_wish wsX0_wish) := goodIn_app (goodIn_of _ (by decide +kernel)) ggX0_endAsking_X0_wish
theorem dX0_endAsking_0 : decode cX0_endAsking 0 = .ok (.iconst 0, 1) := by decide +kernel
theorem dX0_endAsking_1 : decode cX0_endAsking 1 = .ok (.istore_n 1, 1) := by decide +kernel
theorem dX0_endAsking_2 : decode cX0_endAsking 2 = .ok (.iload_n 1, 1) := by decide +kernel
theorem dX0_endAsking_3 : decode cX0_endAsking 3 = .ok (.bipush 6, 2) := by decide +kernel
theorem dX0_endAsking_5 : decode cX0_endAsking 5 = .ok (.if_icmp .ge 41, 3) := by decide +kernel
theorem dX0_endAsking_8 : decode cX0_endAsking 8 = .ok (.aload_n 0, 1) := by decide +kernel
theorem dX0_endAsking_9 : decode cX0_endAsking 9 = .ok (.getfield 25, 3) := by decide +kernel
theorem dX0_endAsking_12 : decode cX0_endAsking 12 = .ok (.iload_n 1, 1) := by decide +kernel
theorem dX0_endAsking_13 : decode cX0_endAsking 13 = .ok (.iconst 0, 1) := by decide +kernel
theorem dX0_endAsking_14 : decode cX0_endAsking 14 = .ok (.bastore, 1) := by decide +kernel
theorem dX0_endAsking_15 : decode cX0_endAsking 15 = .ok (.iconst 0, 1) := by decide +kernel
theorem dX0_endAsking_16 : decode cX0_endAsking 16 = .ok (.istore_n 2, 1) := by decide +kernel
theorem dX0_endAsking_17 : decode cX0_endAsking 17 = .ok (.iload_n 2, 1) := by decide +kernel
theorem dX0_endAsking_18 : decode cX0_endAsking 18 = .ok (.bipush 12, 2) := by decide +kernel
theorem dX0_endAsking_20 : decode cX0_endAsking 20 = .ok (.if_icmp .ge 20, 3) := by decide +kernel
theorem dX0_endAsking_23 : decode cX0_endAsking 23 = .ok (.aload_n 0, 1) := by decide +kernel
theorem dX0_endAsking_24 : decode cX0_endAsking 24 = .ok (.getfield 21, 3) := by decide +kernel
theorem dX0_endAsking_27 : decode cX0_endAsking 27 = .ok (.iload_n 1, 1) := by decide +kernel
theorem dX0_endAsking_28 : decode cX0_endAsking 28 = .ok (.iload_n 2, 1) := by decide +kernel
theorem dX0_endAsking_29 : decode cX0_endAsking 29 = .ok (.invokestatic 47, 3) := by decide +kernel
theorem dX0_endAsking_32 : decode cX0_endAsking 32 = .ok (.iconst 0, 1) := by decide +kernel
theorem dX0_endAsking_33 : decode cX0_endAsking 33 = .ok (.bastore, 1) := by decide +kernel
theorem dX0_endAsking_34 : decode cX0_endAsking 34 = .ok (.iinc 2 1, 3) := by decide +kernel
theorem dX0_endAsking_37 : decode cX0_endAsking 37 = .ok (.goto (-20), 3) := by decide +kernel
theorem dX0_endAsking_40 : decode cX0_endAsking 40 = .ok (.iinc 1 1, 3) := by decide +kernel
theorem dX0_endAsking_43 : decode cX0_endAsking 43 = .ok (.goto (-41), 3) := by decide +kernel
theorem dX0_endAsking_46 : decode cX0_endAsking 46 = .ok (.return_, 1) := by decide +kernel
theorem dX0_playTo_0 : decode cX0_playTo 0 = .ok (.iload_n 2, 1) := by decide +kernel
theorem dX0_playTo_1 : decode cX0_playTo 1 = .ok (.ifCond .lt 9, 3) := by decide +kernel
theorem dX0_playTo_4 : decode cX0_playTo 4 = .ok (.iload_n 2, 1) := by decide +kernel
theorem dX0_playTo_5 : decode cX0_playTo 5 = .ok (.bipush 6, 2) := by decide +kernel
theorem dX0_playTo_7 : decode cX0_playTo 7 = .ok (.if_icmp .lt 5, 3) := by decide +kernel
theorem dX0_playTo_10 : decode cX0_playTo 10 = .ok (.iconst 0, 1) := by decide +kernel
theorem dX0_playTo_11 : decode cX0_playTo 11 = .ok (.ireturn, 1) := by decide +kernel
theorem dX0_playTo_12 : decode cX0_playTo 12 = .ok (.iload_n 1, 1) := by decide +kernel
theorem dX0_playTo_13 : decode cX0_playTo 13 = .ok (.aload_n 0, 1) := by decide +kernel
theorem dX0_playTo_14 : decode cX0_playTo 14 = .ok (.getfield 9, 3) := by decide +kernel
theorem dX0_playTo_17 : decode cX0_playTo 17 = .ok (.iload_n 2, 1) := by decide +kernel
theorem dX0_playTo_18 : decode cX0_playTo 18 = .ok (.iaload, 1) := by decide +kernel
theorem dX0_playTo_19 : decode cX0_playTo 19 = .ok (.imul, 1) := by decide +kernel
theorem dX0_playTo_20 : decode cX0_playTo 20 = .ok (.bipush 100, 2) := by decide +kernel
theorem dX0_playTo_22 : decode cX0_playTo 22 = .ok (.idiv, 1) := by decide +kernel
theorem dX0_playTo_23 : decode cX0_playTo 23 = .ok (.istore_n 3, 1) := by decide +kernel
theorem dX0_playTo_24 : decode cX0_playTo 24 = .ok (.aload_n 0, 1) := by decide +kernel
theorem dX0_playTo_25 : decode cX0_playTo 25 = .ok (.getfield 18, 3) := by decide +kernel
theorem dX0_playTo_28 : decode cX0_playTo 28 = .ok (.iload_n 2, 1) := by decide +kernel
theorem dX0_playTo_29 : decode cX0_playTo 29 = .ok (.dup2, 1) := by decide +kernel
theorem dX0_playTo_30 : decode cX0_playTo 30 = .ok (.iaload, 1) := by decide +kernel
theorem dX0_playTo_31 : decode cX0_playTo 31 = .ok (.iload_n 3, 1) := by decide +kernel
theorem dX0_playTo_32 : decode cX0_playTo 32 = .ok (.bipush 10, 2) := by decide +kernel
theorem dX0_playTo_34 : decode cX0_playTo 34 = .ok (.idiv, 1) := by decide +kernel
theorem dX0_playTo_35 : decode cX0_playTo 35 = .ok (.iadd, 1) := by decide +kernel
theorem dX0_playTo_36 : decode cX0_playTo 36 = .ok (.iastore, 1) := by decide +kernel
theorem dX0_playTo_37 : decode cX0_playTo 37 = .ok (.iload_n 3, 1) := by decide +kernel
theorem dX0_playTo_38 : decode cX0_playTo 38 = .ok (.ireturn, 1) := by decide +kernel
theorem dX1_init_0 : decode cX1_init 0 = .ok (.aload_n 0, 1) := by decide +kernel
theorem dX1_init_1 : decode cX1_init 1 = .ok (.invokespecial 3, 3) := by decide +kernel
theorem dX1_init_4 : decode cX1_init 4 = .ok (.aload_n 0, 1) := by decide +kernel
theorem dX1_init_5 : decode cX1_init 5 = .ok (.bipush 12, 2) := by decide +kernel
theorem dX1_init_7 : decode cX1_init 7 = .ok (.newarray .boolean, 2) := by decide +kernel
theorem dX1_init_9 : decode cX1_init 9 = .ok (.putfield 9, 3) := by decide +kernel
theorem dX1_init_12 : decode cX1_init 12 = .ok (.aload_n 0, 1) := by decide +kernel
theorem dX1_init_13 : decode cX1_init 13 = .ok (.bipush 12, 2) := by decide +kernel
theorem dX1_init_15 : decode cX1_init 15 = .ok (.newarray .int, 2) := by decide +kernel
theorem dX1_init_17 : decode cX1_init 17 = .ok (.putfield 15, 3) := by decide +kernel
theorem dX1_init_20 : decode cX1_init 20 = .ok (.aload_n 0, 1) := by decide +kernel
theorem dX1_init_21 : decode cX1_init 21 = .ok (.sipush 2400, 3) := by decide +kernel
theorem dX1_init_24 : decode cX1_init 24 = .ok (.newarray .int, 2) := by decide +kernel
theorem dX1_init_26 : decode cX1_init 26 = .ok (.putfield 19, 3) := by decide +kernel
theorem dX1_init_29 : decode cX1_init 29 = .ok (.aload_n 0, 1) := by decide +kernel
theorem dX1_init_30 : decode cX1_init 30 = .ok (.sipush 2400, 3) := by decide +kernel
theorem dX1_init_33 : decode cX1_init 33 = .ok (.newarray .int, 2) := by decide +kernel
theorem dX1_init_35 : decode cX1_init 35 = .ok (.putfield 22, 3) := by decide +kernel
theorem dX1_init_38 : decode cX1_init 38 = .ok (.aload_n 0, 1) := by decide +kernel
theorem dX1_init_39 : decode cX1_init 39 = .ok (.bipush 60, 2) := by decide +kernel
theorem dX1_init_41 : decode cX1_init 41 = .ok (.newarray .int, 2) := by decide +kernel
theorem dX1_init_43 : decode cX1_init 43 = .ok (.putfield 25, 3) := by decide +kernel
theorem dX1_init_46 : decode cX1_init 46 = .ok (.aload_n 0, 1) := by decide +kernel
theorem dX1_init_47 : decode cX1_init 47 = .ok (.bipush 60, 2) := by decide +kernel
theorem dX1_init_49 : decode cX1_init 49 = .ok (.newarray .int, 2) := by decide +kernel
theorem dX1_init_51 : decode cX1_init 51 = .ok (.putfield 28, 3) := by decide +kernel
theorem dX1_init_54 : decode cX1_init 54 = .ok (.aload_n 0, 1) := by decide +kernel
theorem dX1_init_55 : decode cX1_init 55 = .ok (.bipush 60, 2) := by decide +kernel
theorem dX1_init_57 : decode cX1_init 57 = .ok (.newarray .int, 2) := by decide +kernel
theorem dX1_init_59 : decode cX1_init 59 = .ok (.putfield 31, 3) := by decide +kernel
theorem dX1_init_62 : decode cX1_init 62 = .ok (.aload_n 0, 1) := by decide +kernel
theorem dX1_init_63 : decode cX1_init 63 = .ok (.iconst 0, 1) := by decide +kernel
theorem dX1_init_64 : decode cX1_init 64 = .ok (.putfield 34, 3) := by decide +kernel
theorem dX1_init_67 : decode cX1_init 67 = .ok (.return_, 1) := by decide +kernel
theorem dX1_noteFinding_0 : decode cX1_noteFinding 0 = .ok (.aload_n 0, 1) := by decide +kernel
theorem dX1_noteFinding_1 : decode cX1_noteFinding 1 = .ok (.getfield 25, 3) := by decide +kernel
theorem dX1_noteFinding_4 : decode cX1_noteFinding 4 = .ok (.aload_n 0, 1) := by decide +kernel
theorem dX1_noteFinding_5 : decode cX1_noteFinding 5 = .ok (.getfield 34, 3) := by decide +kernel
theorem dX1_noteFinding_8 : decode cX1_noteFinding 8 = .ok (.iload_n 1, 1) := by decide +kernel
theorem dX1_noteFinding_9 : decode cX1_noteFinding 9 = .ok (.iastore, 1) := by decide +kernel
theorem dX1_noteFinding_10 : decode cX1_noteFinding 10 = .ok (.aload_n 0, 1) := by decide +kernel
theorem dX1_noteFinding_11 : decode cX1_noteFinding 11 = .ok (.getfield 28, 3) := by decide +kernel
theorem dX1_noteFinding_14 : decode cX1_noteFinding 14 = .ok (.aload_n 0, 1) := by decide +kernel
theorem dX1_noteFinding_15 : decode cX1_noteFinding 15 = .ok (.getfield 34, 3) := by decide +kernel
theorem dX1_noteFinding_18 : decode cX1_noteFinding 18 = .ok (.iload_n 2, 1) := by decide +kernel
theorem dX1_noteFinding_19 : decode cX1_noteFinding 19 = .ok (.iastore, 1) := by decide +kernel
theorem dX1_noteFinding_20 : decode cX1_noteFinding 20 = .ok (.aload_n 0, 1) := by decide +kernel
theorem dX1_noteFinding_21 : decode cX1_noteFinding 21 = .ok (.getfield 31, 3) := by decide +kernel
theorem dX1_noteFinding_24 : decode cX1_noteFinding 24 = .ok (.aload_n 0, 1) := by decide +kernel
theorem dX1_noteFinding_25 : decode cX1_noteFinding 25 = .ok (.getfield 34, 3) := by decide +kernel
theorem dX1_noteFinding_28 : decode cX1_noteFinding 28 = .ok (.iload_n 3, 1) := by decide +kernel
theorem dX1_noteFinding_29 : decode cX1_noteFinding 29 = .ok (.iastore, 1) := by decide +kernel
theorem dX1_noteFinding_30 : decode cX1_noteFinding 30 = .ok (.aload_n 0, 1) := by decide +kernel
theorem dX1_noteFinding_31 : decode cX1_noteFinding 31 = .ok (.dup, 1) := by decide +kernel
theorem dX1_noteFinding_32 : decode cX1_noteFinding 32 = .ok (.getfield 34, 3) := by decide +kernel
theorem dX1_noteFinding_35 : decode cX1_noteFinding 35 = .ok (.iconst 1, 1) := by decide +kernel
theorem dX1_noteFinding_36 : decode cX1_noteFinding 36 = .ok (.iadd, 1) := by decide +kernel
theorem dX1_noteFinding_37 : decode cX1_noteFinding 37 = .ok (.putfield 34, 3) := by decide +kernel
theorem dX1_noteFinding_40 : decode cX1_noteFinding 40 = .ok (.return_, 1) := by decide +kernel
theorem dX1_foundLast_0 : decode cX1_foundLast 0 = .ok (.iconst 0, 1) := by decide +kernel
theorem dX1_foundLast_1 : decode cX1_foundLast 1 = .ok (.istore_n 3, 1) := by decide +kernel
theorem dX1_foundLast_2 : decode cX1_foundLast 2 = .ok (.iconst 0, 1) := by decide +kernel
theorem dX1_foundLast_3 : decode cX1_foundLast 3 = .ok (.istore 4, 2) := by decide +kernel
theorem dX1_foundLast_5 : decode cX1_foundLast 5 = .ok (.iload 4, 2) := by decide +kernel
theorem dX1_foundLast_7 : decode cX1_foundLast 7 = .ok (.aload_n 0, 1) := by decide +kernel
theorem dX1_foundLast_8 : decode cX1_foundLast 8 = .ok (.getfield 34, 3) := by decide +kernel
theorem dX1_foundLast_11 : decode cX1_foundLast 11 = .ok (.if_icmp .ge 39, 3) := by decide +kernel
theorem dX1_foundLast_14 : decode cX1_foundLast 14 = .ok (.aload_n 0, 1) := by decide +kernel
theorem dX1_foundLast_15 : decode cX1_foundLast 15 = .ok (.getfield 25, 3) := by decide +kernel
theorem dX1_foundLast_18 : decode cX1_foundLast 18 = .ok (.iload 4, 2) := by decide +kernel
theorem dX1_foundLast_20 : decode cX1_foundLast 20 = .ok (.iaload, 1) := by decide +kernel
theorem dX1_foundLast_21 : decode cX1_foundLast 21 = .ok (.iload_n 1, 1) := by decide +kernel
theorem dX1_foundLast_22 : decode cX1_foundLast 22 = .ok (.if_icmp .ne 22, 3) := by decide +kernel
theorem dX1_foundLast_25 : decode cX1_foundLast 25 = .ok (.aload_n 0, 1) := by decide +kernel
theorem dX1_foundLast_26 : decode cX1_foundLast 26 = .ok (.getfield 28, 3) := by decide +kernel
theorem dX1_foundLast_29 : decode cX1_foundLast 29 = .ok (.iload 4, 2) := by decide +kernel
theorem dX1_foundLast_31 : decode cX1_foundLast 31 = .ok (.iaload, 1) := by decide +kernel
theorem dX1_foundLast_32 : decode cX1_foundLast 32 = .ok (.iload_n 2, 1) := by decide +kernel
theorem dX1_foundLast_33 : decode cX1_foundLast 33 = .ok (.if_icmp .gt 11, 3) := by decide +kernel
theorem dX1_foundLast_36 : decode cX1_foundLast 36 = .ok (.aload_n 0, 1) := by decide +kernel
theorem dX1_foundLast_37 : decode cX1_foundLast 37 = .ok (.getfield 31, 3) := by decide +kernel
theorem dX1_foundLast_40 : decode cX1_foundLast 40 = .ok (.iload 4, 2) := by decide +kernel
theorem dX1_foundLast_42 : decode cX1_foundLast 42 = .ok (.iaload, 1) := by decide +kernel
theorem dX1_foundLast_43 : decode cX1_foundLast 43 = .ok (.istore_n 3, 1) := by decide +kernel
theorem dX1_foundLast_44 : decode cX1_foundLast 44 = .ok (.iinc 4 1, 3) := by decide +kernel
theorem dX1_foundLast_47 : decode cX1_foundLast 47 = .ok (.goto (-42), 3) := by decide +kernel
theorem dX1_foundLast_50 : decode cX1_foundLast 50 = .ok (.iload_n 3, 1) := by decide +kernel
theorem dX1_foundLast_51 : decode cX1_foundLast 51 = .ok (.ireturn, 1) := by decide +kernel
set_option maxRecDepth 20000 in
theorem ggX1_isLost_X4_cell : GoodIn wsX1_isLost wsX4_cell := goodIn_r _ [4] (by decide +kernel) (by decide +kernel)
set_option maxRecDepth 20000 in
theorem gX1_isLost_X4_cell_n38 : GoodIn wsX1_isLost (wsX4_cell) := ggX1_isLost_X4_cell
theorem dX1_isLost_0 : decode cX1_isLost 0 = .ok (.aload_n 0, 1) := by decide +kernel
theorem dX1_isLost_1 : decode cX1_isLost 1 = .ok (.getfield 19, 3) := by decide +kernel
theorem dX1_isLost_4 : decode cX1_isLost 4 = .ok (.iload_n 1, 1) := by decide +kernel
theorem dX1_isLost_5 : decode cX1_isLost 5 = .ok (.iload_n 2, 1) := by decide +kernel
theorem dX1_isLost_6 : decode cX1_isLost 6 = .ok (.invokestatic 38, 3) := by decide +kernel
theorem dX1_isLost_9 : decode cX1_isLost 9 = .ok (.iaload, 1) := by decide +kernel
theorem dX1_isLost_10 : decode cX1_isLost 10 = .ok (.iconst (-1), 1) := by decide +kernel
theorem dX1_isLost_11 : decode cX1_isLost 11 = .ok (.if_icmp .ne 7, 3) := by decide +kernel
theorem dX1_isLost_14 : decode cX1_isLost 14 = .ok (.iconst 1, 1) := by decide +kernel
theorem dX1_isLost_15 : decode cX1_isLost 15 = .ok (.goto 4, 3) := by decide +kernel
theorem dX1_isLost_18 : decode cX1_isLost 18 = .ok (.iconst 0, 1) := by decide +kernel
theorem dX1_isLost_19 : decode cX1_isLost 19 = .ok (.ireturn, 1) := by decide +kernel
set_option maxRecDepth 20000 in
theorem ggX1_read_X4_cell : GoodIn wsX1_read wsX4_cell := goodIn_r _ [8] (by decide +kernel) (by decide +kernel)
set_option maxRecDepth 20000 in
theorem gX1_read_X4_cell_n38 : GoodIn wsX1_read (wsX4_cell) := ggX1_read_X4_cell
set_option maxRecDepth 20000 in
theorem ggX1_read_X1_isLost : GoodIn wsX1_read wsX1_isLost := goodIn_r _ [13, 2, 6, 7, 8, 46, 47, 48, 49, 50, 51, 52, 53] (by decide +kernel) (by decide +kernel)
set_option maxRecDepth 20000 in
theorem gX1_read_X1_isLost : GoodIn wsX1_read (wsV RX1 47 RX1 yX1_isLost wsX1_isLost) := goodIn_app (goodIn_of _ (by decide +kernel)) ggX1_read_X1_isLost
set_option maxRecDepth 20000 in
theorem ggX1_read_X1_countOfReading : GoodIn wsX1_read wsX1_countOfReading := goodIn_r _ [17, 2, 18, 19, 20, 12, 21, 22, 23, 24, 25, 6, 7, 8, 46, 47, 48, 49, 50, 51, 52, 53] (by decide +kernel) (by decide +kernel)
set_option maxRecDepth 20000 in
theorem gX1_read_X1_countOfReading : GoodIn wsX1_read (wsV RX1 51 RX1 yX1_countOfReading wsX1_countOfReading) := goodIn_app (goodIn_of _ (by decide +kernel)) ggX1_read_X1_countOfReading
set_option maxRecDepth 20000 in
theorem ggX1_read_X1_filledFromKept : GoodIn wsX1_read wsX1_filledFromKept := goodIn_r _ [29, 5, 30, 31, 32, 12, 33, 9, 10, 11, 13, 2, 6, 7, 8, 34, 35, 36, 37, 38, 39, 40, 46, 47, 48, 49, 50, 51, 52, 53] (by decide +kernel) (by decide +kernel)
set_option maxRecDepth 20000 in
theorem gX1_read_X1_filledFromKept : GoodIn wsX1_read (wsV RX1 54 RX1 yX1_filledFromKept wsX1_filledFromKept) := goodIn_app (goodIn_of _ (by decide +kernel)) ggX1_read_X1_filledFromKept
theorem dX1_read_0 : decode cX1_read 0 = .ok (.iconst 0, 1) := by decide +kernel
theorem dX1_read_1 : decode cX1_read 1 = .ok (.istore_n 3, 1) := by decide +kernel
theorem dX1_read_2 : decode cX1_read 2 = .ok (.iload_n 3, 1) := by decide +kernel
theorem dX1_read_3 : decode cX1_read 3 = .ok (.bipush 12, 2) := by decide +kernel
theorem dX1_read_5 : decode cX1_read 5 = .ok (.if_icmp .ge 60, 3) := by decide +kernel
theorem dX1_read_8 : decode cX1_read 8 = .ok (.iload_n 3, 1) := by decide +kernel
theorem dX1_read_9 : decode cX1_read 9 = .ok (.iload_n 1, 1) := by decide +kernel
theorem dX1_read_10 : decode cX1_read 10 = .ok (.invokestatic 38, 3) := by decide +kernel
theorem dX1_read_13 : decode cX1_read 13 = .ok (.istore 4, 2) := by decide +kernel
theorem dX1_read_15 : decode cX1_read 15 = .ok (.aload_n 2, 1) := by decide +kernel
theorem dX1_read_16 : decode cX1_read 16 = .ok (.getfield 42, 3) := by decide +kernel
theorem dX1_read_19 : decode cX1_read 19 = .ok (.iload 4, 2) := by decide +kernel
theorem dX1_read_21 : decode cX1_read 21 = .ok (.iaload, 1) := by decide +kernel
theorem dX1_read_22 : decode cX1_read 22 = .ok (.istore 5, 2) := by decide +kernel
theorem dX1_read_24 : decode cX1_read 24 = .ok (.aload_n 0, 1) := by decide +kernel
theorem dX1_read_25 : decode cX1_read 25 = .ok (.getfield 19, 3) := by decide +kernel
theorem dX1_read_28 : decode cX1_read 28 = .ok (.iload 4, 2) := by decide +kernel
theorem dX1_read_30 : decode cX1_read 30 = .ok (.aload_n 0, 1) := by decide +kernel
theorem dX1_read_31 : decode cX1_read 31 = .ok (.getfield 9, 3) := by decide +kernel
theorem dX1_read_34 : decode cX1_read 34 = .ok (.iload_n 3, 1) := by decide +kernel
theorem dX1_read_35 : decode cX1_read 35 = .ok (.baload, 1) := by decide +kernel
theorem dX1_read_36 : decode cX1_read 36 = .ok (.ifCond .eq 7, 3) := by decide +kernel
theorem dX1_read_39 : decode cX1_read 39 = .ok (.iconst (-1), 1) := by decide +kernel
theorem dX1_read_40 : decode cX1_read 40 = .ok (.goto 18, 3) := by decide +kernel
theorem dX1_read_43 : decode cX1_read 43 = .ok (.iload 5, 2) := by decide +kernel
theorem dX1_read_45 : decode cX1_read 45 = .ok (.iload 5, 2) := by decide +kernel
theorem dX1_read_47 : decode cX1_read 47 = .ok (.aload_n 0, 1) := by decide +kernel
theorem dX1_read_48 : decode cX1_read 48 = .ok (.getfield 15, 3) := by decide +kernel
theorem dX1_read_51 : decode cX1_read 51 = .ok (.iload_n 3, 1) := by decide +kernel
theorem dX1_read_52 : decode cX1_read 52 = .ok (.iaload, 1) := by decide +kernel
theorem dX1_read_53 : decode cX1_read 53 = .ok (.imul, 1) := by decide +kernel
theorem dX1_read_54 : decode cX1_read 54 = .ok (.bipush 100, 2) := by decide +kernel
theorem dX1_read_56 : decode cX1_read 56 = .ok (.idiv, 1) := by decide +kernel
theorem dX1_read_57 : decode cX1_read 57 = .ok (.isub, 1) := by decide +kernel
theorem dX1_read_58 : decode cX1_read 58 = .ok (.iastore, 1) := by decide +kernel
theorem dX1_read_59 : decode cX1_read 59 = .ok (.iinc 3 1, 3) := by decide +kernel
theorem dX1_read_62 : decode cX1_read 62 = .ok (.goto (-60), 3) := by decide +kernel
theorem dX1_read_65 : decode cX1_read 65 = .ok (.iconst 0, 1) := by decide +kernel
theorem dX1_read_66 : decode cX1_read 66 = .ok (.istore_n 3, 1) := by decide +kernel
theorem dX1_read_67 : decode cX1_read 67 = .ok (.iload_n 3, 1) := by decide +kernel
theorem dX1_read_68 : decode cX1_read 68 = .ok (.bipush 12, 2) := by decide +kernel
theorem dX1_read_70 : decode cX1_read 70 = .ok (.if_icmp .ge 34, 3) := by decide +kernel
theorem dX1_read_73 : decode cX1_read 73 = .ok (.aload_n 0, 1) := by decide +kernel
theorem dX1_read_74 : decode cX1_read 74 = .ok (.iload_n 3, 1) := by decide +kernel
theorem dX1_read_75 : decode cX1_read 75 = .ok (.iload_n 1, 1) := by decide +kernel
theorem dX1_read_76 : decode cX1_read 76 = .ok (.invokevirtual 47, 3) := by decide +kernel
theorem dX1_read_79 : decode cX1_read 79 = .ok (.ifCond .ne 19, 3) := by decide +kernel
theorem dX1_read_82 : decode cX1_read 82 = .ok (.aload_n 0, 1) := by decide +kernel
theorem dX1_read_83 : decode cX1_read 83 = .ok (.getfield 22, 3) := by decide +kernel
theorem dX1_read_86 : decode cX1_read 86 = .ok (.iload_n 3, 1) := by decide +kernel
theorem dX1_read_87 : decode cX1_read 87 = .ok (.iload_n 1, 1) := by decide +kernel
theorem dX1_read_88 : decode cX1_read 88 = .ok (.invokestatic 38, 3) := by decide +kernel
theorem dX1_read_91 : decode cX1_read 91 = .ok (.aload_n 0, 1) := by decide +kernel
theorem dX1_read_92 : decode cX1_read 92 = .ok (.iload_n 3, 1) := by decide +kernel
theorem dX1_read_93 : decode cX1_read 93 = .ok (.iload_n 1, 1) := by decide +kernel
theorem dX1_read_94 : decode cX1_read 94 = .ok (.invokevirtual 51, 3) := by decide +kernel
theorem dX1_read_97 : decode cX1_read 97 = .ok (.iastore, 1) := by decide +kernel
theorem dX1_read_98 : decode cX1_read 98 = .ok (.iinc 3 1, 3) := by decide +kernel
theorem dX1_read_101 : decode cX1_read 101 = .ok (.goto (-34), 3) := by decide +kernel
theorem dX1_read_104 : decode cX1_read 104 = .ok (.iconst 0, 1) := by decide +kernel
theorem dX1_read_105 : decode cX1_read 105 = .ok (.istore_n 3, 1) := by decide +kernel
theorem dX1_read_106 : decode cX1_read 106 = .ok (.iload_n 3, 1) := by decide +kernel
theorem dX1_read_107 : decode cX1_read 107 = .ok (.bipush 12, 2) := by decide +kernel
theorem dX1_read_109 : decode cX1_read 109 = .ok (.if_icmp .ge 34, 3) := by decide +kernel
theorem dX1_read_112 : decode cX1_read 112 = .ok (.aload_n 0, 1) := by decide +kernel
theorem dX1_read_113 : decode cX1_read 113 = .ok (.iload_n 3, 1) := by decide +kernel
theorem dX1_read_114 : decode cX1_read 114 = .ok (.iload_n 1, 1) := by decide +kernel
theorem dX1_read_115 : decode cX1_read 115 = .ok (.invokevirtual 47, 3) := by decide +kernel
theorem dX1_read_118 : decode cX1_read 118 = .ok (.ifCond .eq 19, 3) := by decide +kernel
theorem dX1_read_121 : decode cX1_read 121 = .ok (.aload_n 0, 1) := by decide +kernel
theorem dX1_read_122 : decode cX1_read 122 = .ok (.getfield 22, 3) := by decide +kernel
theorem dX1_read_125 : decode cX1_read 125 = .ok (.iload_n 3, 1) := by decide +kernel
theorem dX1_read_126 : decode cX1_read 126 = .ok (.iload_n 1, 1) := by decide +kernel
theorem dX1_read_127 : decode cX1_read 127 = .ok (.invokestatic 38, 3) := by decide +kernel
theorem dX1_read_130 : decode cX1_read 130 = .ok (.aload_n 0, 1) := by decide +kernel
theorem dX1_read_131 : decode cX1_read 131 = .ok (.iload_n 3, 1) := by decide +kernel
theorem dX1_read_132 : decode cX1_read 132 = .ok (.iload_n 1, 1) := by decide +kernel
theorem dX1_read_133 : decode cX1_read 133 = .ok (.invokevirtual 54, 3) := by decide +kernel
theorem dX1_read_136 : decode cX1_read 136 = .ok (.iastore, 1) := by decide +kernel
theorem dX1_read_137 : decode cX1_read 137 = .ok (.iinc 3 1, 3) := by decide +kernel
theorem dX1_read_140 : decode cX1_read 140 = .ok (.goto (-34), 3) := by decide +kernel
theorem dX1_read_143 : decode cX1_read 143 = .ok (.return_, 1) := by decide +kernel
set_option maxRecDepth 20000 in
theorem ggX1_countOfReading_X1_foundLast : GoodIn wsX1_countOfReading wsX1_foundLast := goodIn_r _ [6, 7, 8, 9, 10, 14, 15, 16, 17, 18, 19, 20, 21] (by decide +kernel) (by decide +kernel)
set_option maxRecDepth 20000 in
theorem gX1_countOfReading_X1_foundLast : GoodIn wsX1_countOfReading (wsV RX1 57 RX1 yX1_foundLast wsX1_foundLast) := goodIn_app (goodIn_of _ (by decide +kernel)) ggX1_countOfReading_X1_foundLast
set_option maxRecDepth 20000 in
theorem ggX1_countOfReading_X4_cell : GoodIn wsX1_countOfReading wsX4_cell := goodIn_r _ [13] (by decide +kernel) (by decide +kernel)
set_option maxRecDepth 20000 in
theorem gX1_countOfReading_X4_cell_n38 : GoodIn wsX1_countOfReading (wsX4_cell) := ggX1_countOfReading_X4_cell
theorem dX1_countOfReading_0 : decode cX1_countOfReading 0 = .ok (.bipush 100, 2) := by decide +kernel
theorem dX1_countOfReading_2 : decode cX1_countOfReading 2 = .ok (.aload_n 0, 1) := by decide +kernel
theorem dX1_countOfReading_3 : decode cX1_countOfReading 3 = .ok (.iload_n 1, 1) := by decide +kernel
theorem dX1_countOfReading_4 : decode cX1_countOfReading 4 = .ok (.iload_n 2, 1) := by decide +kernel
theorem dX1_countOfReading_5 : decode cX1_countOfReading 5 = .ok (.invokevirtual 57, 3) := by decide +kernel
theorem dX1_countOfReading_8 : decode cX1_countOfReading 8 = .ok (.isub, 1) := by decide +kernel
theorem dX1_countOfReading_9 : decode cX1_countOfReading 9 = .ok (.istore_n 3, 1) := by decide +kernel
theorem dX1_countOfReading_10 : decode cX1_countOfReading 10 = .ok (.iload_n 3, 1) := by decide +kernel
theorem dX1_countOfReading_11 : decode cX1_countOfReading 11 = .ok (.ifCond .le 21, 3) := by decide +kernel
theorem dX1_countOfReading_14 : decode cX1_countOfReading 14 = .ok (.bipush 100, 2) := by decide +kernel
theorem dX1_countOfReading_16 : decode cX1_countOfReading 16 = .ok (.aload_n 0, 1) := by decide +kernel
theorem dX1_countOfReading_17 : decode cX1_countOfReading 17 = .ok (.getfield 19, 3) := by decide +kernel
theorem dX1_countOfReading_20 : decode cX1_countOfReading 20 = .ok (.iload_n 1, 1) := by decide +kernel
theorem dX1_countOfReading_21 : decode cX1_countOfReading 21 = .ok (.iload_n 2, 1) := by decide +kernel
theorem dX1_countOfReading_22 : decode cX1_countOfReading 22 = .ok (.invokestatic 38, 3) := by decide +kernel
theorem dX1_countOfReading_25 : decode cX1_countOfReading 25 = .ok (.iaload, 1) := by decide +kernel
theorem dX1_countOfReading_26 : decode cX1_countOfReading 26 = .ok (.imul, 1) := by decide +kernel
theorem dX1_countOfReading_27 : decode cX1_countOfReading 27 = .ok (.iload_n 3, 1) := by decide +kernel
theorem dX1_countOfReading_28 : decode cX1_countOfReading 28 = .ok (.idiv, 1) := by decide +kernel
theorem dX1_countOfReading_29 : decode cX1_countOfReading 29 = .ok (.goto 4, 3) := by decide +kernel
theorem dX1_countOfReading_32 : decode cX1_countOfReading 32 = .ok (.iconst 0, 1) := by decide +kernel
theorem dX1_countOfReading_33 : decode cX1_countOfReading 33 = .ok (.ireturn, 1) := by decide +kernel
set_option maxRecDepth 20000 in
theorem ggX1_filledFromKept_X1_nearestAhead : GoodIn wsX1_filledFromKept wsX1_nearestAhead := goodIn_r _ [6, 7, 8, 9, 5, 10, 11, 12, 13, 14, 22, 23, 24, 25, 26, 27, 28, 29] (by decide +kernel) (by decide +kernel)
set_option maxRecDepth 20000 in
theorem gX1_filledFromKept_X1_nearestAhead : GoodIn wsX1_filledFromKept (wsV RX1 60 RX1 yX1_nearestAhead wsX1_nearestAhead) := goodIn_app (goodIn_of _ (by decide +kernel)) ggX1_filledFromKept_X1_nearestAhead
set_option maxRecDepth 20000 in
theorem ggX1_filledFromKept_X1_nearestBehind : GoodIn wsX1_filledFromKept wsX1_nearestBehind := goodIn_r _ [18, 7, 8, 9, 5, 10, 11, 12, 13, 14, 22, 23, 24, 25, 26, 27, 28, 29] (by decide +kernel) (by decide +kernel)
set_option maxRecDepth 20000 in
theorem gX1_filledFromKept_X1_nearestBehind : GoodIn wsX1_filledFromKept (wsV RX1 63 RX1 yX1_nearestBehind wsX1_nearestBehind) := goodIn_app (goodIn_of _ (by decide +kernel)) ggX1_filledFromKept_X1_nearestBehind
set_option maxRecDepth 20000 in
theorem ggX1_filledFromKept_X4_cell : GoodIn wsX1_filledFromKept wsX4_cell := goodIn_r _ [14] (by decide +kernel) (by decide +kernel)
set_option maxRecDepth 20000 in
theorem gX1_filledFromKept_X4_cell_n38 : GoodIn wsX1_filledFromKept (wsX4_cell) := ggX1_filledFromKept_X4_cell
set_option maxRecDepth 20000 in
theorem ggX1_filledFromKept_X1_filled : GoodIn wsX1_filledFromKept wsX1_filled := goodIn_r _ [21] (by decide +kernel) (by decide +kernel)
set_option maxRecDepth 20000 in
theorem gX1_filledFromKept_X1_filled : GoodIn wsX1_filledFromKept (va_wsS RX1 66 yX1_filled wsX1_filled) := goodIn_app (goodIn_of _ (by decide +kernel)) ggX1_filledFromKept_X1_filled
theorem dX1_filledFromKept_0 : decode cX1_filledFromKept 0 = .ok (.aload_n 0, 1) := by decide +kernel
theorem dX1_filledFromKept_1 : decode cX1_filledFromKept 1 = .ok (.iload_n 1, 1) := by decide +kernel
theorem dX1_filledFromKept_2 : decode cX1_filledFromKept 2 = .ok (.iload_n 2, 1) := by decide +kernel
theorem dX1_filledFromKept_3 : decode cX1_filledFromKept 3 = .ok (.invokevirtual 60, 3) := by decide +kernel
theorem dX1_filledFromKept_6 : decode cX1_filledFromKept 6 = .ok (.istore_n 3, 1) := by decide +kernel
theorem dX1_filledFromKept_7 : decode cX1_filledFromKept 7 = .ok (.aload_n 0, 1) := by decide +kernel
theorem dX1_filledFromKept_8 : decode cX1_filledFromKept 8 = .ok (.iload_n 1, 1) := by decide +kernel
theorem dX1_filledFromKept_9 : decode cX1_filledFromKept 9 = .ok (.iload_n 2, 1) := by decide +kernel
theorem dX1_filledFromKept_10 : decode cX1_filledFromKept 10 = .ok (.invokevirtual 63, 3) := by decide +kernel
theorem dX1_filledFromKept_13 : decode cX1_filledFromKept 13 = .ok (.istore 4, 2) := by decide +kernel
theorem dX1_filledFromKept_15 : decode cX1_filledFromKept 15 = .ok (.iload_n 3, 1) := by decide +kernel
theorem dX1_filledFromKept_16 : decode cX1_filledFromKept 16 = .ok (.iconst (-1), 1) := by decide +kernel
theorem dX1_filledFromKept_17 : decode cX1_filledFromKept 17 = .ok (.if_icmp .ne 7, 3) := by decide +kernel
theorem dX1_filledFromKept_20 : decode cX1_filledFromKept 20 = .ok (.iconst (-1), 1) := by decide +kernel
theorem dX1_filledFromKept_21 : decode cX1_filledFromKept 21 = .ok (.goto 13, 3) := by decide +kernel
theorem dX1_filledFromKept_24 : decode cX1_filledFromKept 24 = .ok (.aload_n 0, 1) := by decide +kernel
theorem dX1_filledFromKept_25 : decode cX1_filledFromKept 25 = .ok (.getfield 22, 3) := by decide +kernel
theorem dX1_filledFromKept_28 : decode cX1_filledFromKept 28 = .ok (.iload_n 3, 1) := by decide +kernel
theorem dX1_filledFromKept_29 : decode cX1_filledFromKept 29 = .ok (.iload_n 2, 1) := by decide +kernel
theorem dX1_filledFromKept_30 : decode cX1_filledFromKept 30 = .ok (.invokestatic 38, 3) := by decide +kernel
theorem dX1_filledFromKept_33 : decode cX1_filledFromKept 33 = .ok (.iaload, 1) := by decide +kernel
theorem dX1_filledFromKept_34 : decode cX1_filledFromKept 34 = .ok (.iload 4, 2) := by decide +kernel
theorem dX1_filledFromKept_36 : decode cX1_filledFromKept 36 = .ok (.iconst (-1), 1) := by decide +kernel
theorem dX1_filledFromKept_37 : decode cX1_filledFromKept 37 = .ok (.if_icmp .ne 7, 3) := by decide +kernel
theorem dX1_filledFromKept_40 : decode cX1_filledFromKept 40 = .ok (.iconst (-1), 1) := by decide +kernel
theorem dX1_filledFromKept_41 : decode cX1_filledFromKept 41 = .ok (.goto 14, 3) := by decide +kernel
theorem dX1_filledFromKept_44 : decode cX1_filledFromKept 44 = .ok (.aload_n 0, 1) := by decide +kernel
theorem dX1_filledFromKept_45 : decode cX1_filledFromKept 45 = .ok (.getfield 22, 3) := by decide +kernel
theorem dX1_filledFromKept_48 : decode cX1_filledFromKept 48 = .ok (.iload 4, 2) := by decide +kernel
theorem dX1_filledFromKept_50 : decode cX1_filledFromKept 50 = .ok (.iload_n 2, 1) := by decide +kernel
theorem dX1_filledFromKept_51 : decode cX1_filledFromKept 51 = .ok (.invokestatic 38, 3) := by decide +kernel
theorem dX1_filledFromKept_54 : decode cX1_filledFromKept 54 = .ok (.iaload, 1) := by decide +kernel
theorem dX1_filledFromKept_55 : decode cX1_filledFromKept 55 = .ok (.invokestatic 66, 3) := by decide +kernel
theorem dX1_filledFromKept_58 : decode cX1_filledFromKept 58 = .ok (.ireturn, 1) := by decide +kernel
set_option maxRecDepth 20000 in
theorem ggX1_foundAnew_X1_isLost : GoodIn wsX1_foundAnew wsX1_isLost := goodIn_r _ [5, 6, 7, 8, 9, 33, 34, 35, 36, 37, 38, 39, 40] (by decide +kernel) (by decide +kernel)
set_option maxRecDepth 20000 in
theorem gX1_foundAnew_X1_isLost : GoodIn wsX1_foundAnew (wsV RX1 47 RX1 yX1_isLost wsX1_isLost) := goodIn_app (goodIn_of _ (by decide +kernel)) ggX1_foundAnew_X1_isLost
set_option maxRecDepth 20000 in
theorem ggX1_foundAnew_X1_countOfReading : GoodIn wsX1_foundAnew wsX1_countOfReading := goodIn_r _ [13, 6, 14, 15, 16, 4, 17, 18, 19, 20, 21, 7, 8, 9, 33, 34, 35, 36, 37, 38, 39, 40] (by decide +kernel) (by decide +kernel)
set_option maxRecDepth 20000 in
theorem gX1_foundAnew_X1_countOfReading : GoodIn wsX1_foundAnew (wsV RX1 51 RX1 yX1_countOfReading wsX1_countOfReading) := goodIn_app (goodIn_of _ (by decide +kernel)) ggX1_foundAnew_X1_countOfReading
set_option maxRecDepth 20000 in
theorem ggX1_foundAnew_X1_nearestAhead : GoodIn wsX1_foundAnew wsX1_nearestAhead := goodIn_r _ [25, 1, 2, 3, 4, 5, 6, 7, 8, 9, 33, 34, 35, 36, 37, 38, 39, 40] (by decide +kernel) (by decide +kernel)
set_option maxRecDepth 20000 in
theorem gX1_foundAnew_X1_nearestAhead : GoodIn wsX1_foundAnew (wsV RX1 60 RX1 yX1_nearestAhead wsX1_nearestAhead) := goodIn_app (goodIn_of _ (by decide +kernel)) ggX1_foundAnew_X1_nearestAhead
set_option maxRecDepth 20000 in
theorem ggX1_foundAnew_X1_nearestBehind : GoodIn wsX1_foundAnew wsX1_nearestBehind := goodIn_r _ [29, 1, 2, 3, 4, 5, 6, 7, 8, 9, 33, 34, 35, 36, 37, 38, 39, 40] (by decide +kernel) (by decide +kernel)
set_option maxRecDepth 20000 in
theorem gX1_foundAnew_X1_nearestBehind : GoodIn wsX1_foundAnew (wsV RX1 63 RX1 yX1_nearestBehind wsX1_nearestBehind) := goodIn_app (goodIn_of _ (by decide +kernel)) ggX1_foundAnew_X1_nearestBehind
set_option maxRecDepth 20000 in
theorem ggX1_foundAnew_X1_filled : GoodIn wsX1_foundAnew wsX1_filled := goodIn_r _ [32] (by decide +kernel) (by decide +kernel)
set_option maxRecDepth 20000 in
theorem gX1_foundAnew_X1_filled : GoodIn wsX1_foundAnew (va_wsS RX1 66 yX1_filled wsX1_filled) := goodIn_app (goodIn_of _ (by decide +kernel)) ggX1_foundAnew_X1_filled
theorem dX1_foundAnew_0 : decode cX1_foundAnew 0 = .ok (.aload_n 0, 1) := by decide +kernel
theorem dX1_foundAnew_1 : decode cX1_foundAnew 1 = .ok (.iload_n 1, 1) := by decide +kernel
theorem dX1_foundAnew_2 : decode cX1_foundAnew 2 = .ok (.iload_n 2, 1) := by decide +kernel
theorem dX1_foundAnew_3 : decode cX1_foundAnew 3 = .ok (.invokevirtual 47, 3) := by decide +kernel
theorem dX1_foundAnew_6 : decode cX1_foundAnew 6 = .ok (.ifCond .ne 10, 3) := by decide +kernel
theorem dX1_foundAnew_9 : decode cX1_foundAnew 9 = .ok (.aload_n 0, 1) := by decide +kernel
theorem dX1_foundAnew_10 : decode cX1_foundAnew 10 = .ok (.iload_n 1, 1) := by decide +kernel
theorem dX1_foundAnew_11 : decode cX1_foundAnew 11 = .ok (.iload_n 2, 1) := by decide +kernel
theorem dX1_foundAnew_12 : decode cX1_foundAnew 12 = .ok (.invokevirtual 51, 3) := by decide +kernel
theorem dX1_foundAnew_15 : decode cX1_foundAnew 15 = .ok (.ireturn, 1) := by decide +kernel
theorem dX1_foundAnew_16 : decode cX1_foundAnew 16 = .ok (.aload_n 0, 1) := by decide +kernel
theorem dX1_foundAnew_17 : decode cX1_foundAnew 17 = .ok (.iload_n 1, 1) := by decide +kernel
theorem dX1_foundAnew_18 : decode cX1_foundAnew 18 = .ok (.iload_n 2, 1) := by decide +kernel
theorem dX1_foundAnew_19 : decode cX1_foundAnew 19 = .ok (.invokevirtual 60, 3) := by decide +kernel
theorem dX1_foundAnew_22 : decode cX1_foundAnew 22 = .ok (.istore_n 3, 1) := by decide +kernel
theorem dX1_foundAnew_23 : decode cX1_foundAnew 23 = .ok (.aload_n 0, 1) := by decide +kernel
theorem dX1_foundAnew_24 : decode cX1_foundAnew 24 = .ok (.iload_n 1, 1) := by decide +kernel
theorem dX1_foundAnew_25 : decode cX1_foundAnew 25 = .ok (.iload_n 2, 1) := by decide +kernel
theorem dX1_foundAnew_26 : decode cX1_foundAnew 26 = .ok (.invokevirtual 63, 3) := by decide +kernel
theorem dX1_foundAnew_29 : decode cX1_foundAnew 29 = .ok (.istore 4, 2) := by decide +kernel
theorem dX1_foundAnew_31 : decode cX1_foundAnew 31 = .ok (.iload_n 3, 1) := by decide +kernel
theorem dX1_foundAnew_32 : decode cX1_foundAnew 32 = .ok (.iconst (-1), 1) := by decide +kernel
theorem dX1_foundAnew_33 : decode cX1_foundAnew 33 = .ok (.if_icmp .ne 7, 3) := by decide +kernel
theorem dX1_foundAnew_36 : decode cX1_foundAnew 36 = .ok (.iconst (-1), 1) := by decide +kernel
theorem dX1_foundAnew_37 : decode cX1_foundAnew 37 = .ok (.goto 9, 3) := by decide +kernel
theorem dX1_foundAnew_40 : decode cX1_foundAnew 40 = .ok (.aload_n 0, 1) := by decide +kernel
theorem dX1_foundAnew_41 : decode cX1_foundAnew 41 = .ok (.iload_n 3, 1) := by decide +kernel
theorem dX1_foundAnew_42 : decode cX1_foundAnew 42 = .ok (.iload_n 2, 1) := by decide +kernel
theorem dX1_foundAnew_43 : decode cX1_foundAnew 43 = .ok (.invokevirtual 51, 3) := by decide +kernel
theorem dX1_foundAnew_46 : decode cX1_foundAnew 46 = .ok (.iload 4, 2) := by decide +kernel
theorem dX1_foundAnew_48 : decode cX1_foundAnew 48 = .ok (.iconst (-1), 1) := by decide +kernel
theorem dX1_foundAnew_49 : decode cX1_foundAnew 49 = .ok (.if_icmp .ne 7, 3) := by decide +kernel
theorem dX1_foundAnew_52 : decode cX1_foundAnew 52 = .ok (.iconst (-1), 1) := by decide +kernel
theorem dX1_foundAnew_53 : decode cX1_foundAnew 53 = .ok (.goto 10, 3) := by decide +kernel
theorem dX1_foundAnew_56 : decode cX1_foundAnew 56 = .ok (.aload_n 0, 1) := by decide +kernel
theorem dX1_foundAnew_57 : decode cX1_foundAnew 57 = .ok (.iload 4, 2) := by decide +kernel
theorem dX1_foundAnew_59 : decode cX1_foundAnew 59 = .ok (.iload_n 2, 1) := by decide +kernel
theorem dX1_foundAnew_60 : decode cX1_foundAnew 60 = .ok (.invokevirtual 51, 3) := by decide +kernel
theorem dX1_foundAnew_63 : decode cX1_foundAnew 63 = .ok (.invokestatic 66, 3) := by decide +kernel
theorem dX1_foundAnew_66 : decode cX1_foundAnew 66 = .ok (.ireturn, 1) := by decide +kernel
set_option maxRecDepth 20000 in
theorem ggX1_nearestAhead_X1_isLost : GoodIn wsX1_nearestAhead wsX1_isLost := goodIn_r _ [5, 6, 7, 8, 9, 10, 11, 12, 13, 14, 15, 16, 17] (by decide +kernel) (by decide +kernel)
set_option maxRecDepth 20000 in
theorem gX1_nearestAhead_X1_isLost : GoodIn wsX1_nearestAhead (wsV RX1 47 RX1 yX1_isLost wsX1_isLost) := goodIn_app (goodIn_of _ (by decide +kernel)) ggX1_nearestAhead_X1_isLost
theorem dX1_nearestAhead_0 : decode cX1_nearestAhead 0 = .ok (.iload_n 1, 1) := by decide +kernel
theorem dX1_nearestAhead_1 : decode cX1_nearestAhead 1 = .ok (.iconst 1, 1) := by decide +kernel
theorem dX1_nearestAhead_2 : decode cX1_nearestAhead 2 = .ok (.isub, 1) := by decide +kernel
theorem dX1_nearestAhead_3 : decode cX1_nearestAhead 3 = .ok (.istore_n 3, 1) := by decide +kernel
theorem dX1_nearestAhead_4 : decode cX1_nearestAhead 4 = .ok (.iload_n 3, 1) := by decide +kernel
theorem dX1_nearestAhead_5 : decode cX1_nearestAhead 5 = .ok (.ifCond .lt 20, 3) := by decide +kernel
theorem dX1_nearestAhead_8 : decode cX1_nearestAhead 8 = .ok (.aload_n 0, 1) := by decide +kernel
theorem dX1_nearestAhead_9 : decode cX1_nearestAhead 9 = .ok (.iload_n 3, 1) := by decide +kernel
theorem dX1_nearestAhead_10 : decode cX1_nearestAhead 10 = .ok (.iload_n 2, 1) := by decide +kernel
theorem dX1_nearestAhead_11 : decode cX1_nearestAhead 11 = .ok (.invokevirtual 47, 3) := by decide +kernel
theorem dX1_nearestAhead_14 : decode cX1_nearestAhead 14 = .ok (.ifCond .ne 5, 3) := by decide +kernel
theorem dX1_nearestAhead_17 : decode cX1_nearestAhead 17 = .ok (.iload_n 3, 1) := by decide +kernel
theorem dX1_nearestAhead_18 : decode cX1_nearestAhead 18 = .ok (.ireturn, 1) := by decide +kernel
theorem dX1_nearestAhead_19 : decode cX1_nearestAhead 19 = .ok (.iinc 3 (-1), 3) := by decide +kernel
theorem dX1_nearestAhead_22 : decode cX1_nearestAhead 22 = .ok (.goto (-18), 3) := by decide +kernel
theorem dX1_nearestAhead_25 : decode cX1_nearestAhead 25 = .ok (.iconst (-1), 1) := by decide +kernel
theorem dX1_nearestAhead_26 : decode cX1_nearestAhead 26 = .ok (.ireturn, 1) := by decide +kernel
set_option maxRecDepth 20000 in
theorem ggX1_nearestBehind_X1_isLost : GoodIn wsX1_nearestBehind wsX1_isLost := goodIn_r _ [5, 6, 7, 8, 9, 10, 11, 12, 13, 14, 15, 16, 17] (by decide +kernel) (by decide +kernel)
set_option maxRecDepth 20000 in
theorem gX1_nearestBehind_X1_isLost : GoodIn wsX1_nearestBehind (wsV RX1 47 RX1 yX1_isLost wsX1_isLost) := goodIn_app (goodIn_of _ (by decide +kernel)) ggX1_nearestBehind_X1_isLost
theorem dX1_nearestBehind_0 : decode cX1_nearestBehind 0 = .ok (.iload_n 1, 1) := by decide +kernel
theorem dX1_nearestBehind_1 : decode cX1_nearestBehind 1 = .ok (.iconst 1, 1) := by decide +kernel
theorem dX1_nearestBehind_2 : decode cX1_nearestBehind 2 = .ok (.iadd, 1) := by decide +kernel
theorem dX1_nearestBehind_3 : decode cX1_nearestBehind 3 = .ok (.istore_n 3, 1) := by decide +kernel
theorem dX1_nearestBehind_4 : decode cX1_nearestBehind 4 = .ok (.iload_n 3, 1) := by decide +kernel
theorem dX1_nearestBehind_5 : decode cX1_nearestBehind 5 = .ok (.bipush 12, 2) := by decide +kernel
theorem dX1_nearestBehind_7 : decode cX1_nearestBehind 7 = .ok (.if_icmp .ge 20, 3) := by decide +kernel
theorem dX1_nearestBehind_10 : decode cX1_nearestBehind 10 = .ok (.aload_n 0, 1) := by decide +kernel
theorem dX1_nearestBehind_11 : decode cX1_nearestBehind 11 = .ok (.iload_n 3, 1) := by decide +kernel
theorem dX1_nearestBehind_12 : decode cX1_nearestBehind 12 = .ok (.iload_n 2, 1) := by decide +kernel
theorem dX1_nearestBehind_13 : decode cX1_nearestBehind 13 = .ok (.invokevirtual 47, 3) := by decide +kernel
theorem dX1_nearestBehind_16 : decode cX1_nearestBehind 16 = .ok (.ifCond .ne 5, 3) := by decide +kernel
theorem dX1_nearestBehind_19 : decode cX1_nearestBehind 19 = .ok (.iload_n 3, 1) := by decide +kernel
theorem dX1_nearestBehind_20 : decode cX1_nearestBehind 20 = .ok (.ireturn, 1) := by decide +kernel
theorem dX1_nearestBehind_21 : decode cX1_nearestBehind 21 = .ok (.iinc 3 1, 3) := by decide +kernel
theorem dX1_nearestBehind_24 : decode cX1_nearestBehind 24 = .ok (.goto (-20), 3) := by decide +kernel
theorem dX1_nearestBehind_27 : decode cX1_nearestBehind 27 = .ok (.iconst (-1), 1) := by decide +kernel
theorem dX1_nearestBehind_28 : decode cX1_nearestBehind 28 = .ok (.ireturn, 1) := by decide +kernel
theorem dX1_filled_0 : decode cX1_filled 0 = .ok (.iload_n 0, 1) := by decide +kernel
theorem dX1_filled_1 : decode cX1_filled 1 = .ok (.iconst (-1), 1) := by decide +kernel
theorem dX1_filled_2 : decode cX1_filled 2 = .ok (.if_icmp .ne 10, 3) := by decide +kernel
theorem dX1_filled_5 : decode cX1_filled 5 = .ok (.iload_n 1, 1) := by decide +kernel
theorem dX1_filled_6 : decode cX1_filled 6 = .ok (.iconst (-1), 1) := by decide +kernel
theorem dX1_filled_7 : decode cX1_filled 7 = .ok (.if_icmp .ne 5, 3) := by decide +kernel
theorem dX1_filled_10 : decode cX1_filled 10 = .ok (.iconst 0, 1) := by decide +kernel
theorem dX1_filled_11 : decode cX1_filled 11 = .ok (.ireturn, 1) := by decide +kernel
theorem dX1_filled_12 : decode cX1_filled 12 = .ok (.iload_n 0, 1) := by decide +kernel
theorem dX1_filled_13 : decode cX1_filled 13 = .ok (.iconst (-1), 1) := by decide +kernel
theorem dX1_filled_14 : decode cX1_filled 14 = .ok (.if_icmp .ne 5, 3) := by decide +kernel
theorem dX1_filled_17 : decode cX1_filled 17 = .ok (.iload_n 1, 1) := by decide +kernel
theorem dX1_filled_18 : decode cX1_filled 18 = .ok (.ireturn, 1) := by decide +kernel
theorem dX1_filled_19 : decode cX1_filled 19 = .ok (.iload_n 1, 1) := by decide +kernel
theorem dX1_filled_20 : decode cX1_filled 20 = .ok (.iconst (-1), 1) := by decide +kernel
theorem dX1_filled_21 : decode cX1_filled 21 = .ok (.if_icmp .ne 7, 3) := by decide +kernel
theorem dX1_filled_24 : decode cX1_filled 24 = .ok (.iload_n 0, 1) := by decide +kernel
theorem dX1_filled_25 : decode cX1_filled 25 = .ok (.goto 8, 3) := by decide +kernel
theorem dX1_filled_28 : decode cX1_filled 28 = .ok (.iload_n 0, 1) := by decide +kernel
theorem dX1_filled_29 : decode cX1_filled 29 = .ok (.iload_n 1, 1) := by decide +kernel
theorem dX1_filled_30 : decode cX1_filled 30 = .ok (.iadd, 1) := by decide +kernel
theorem dX1_filled_31 : decode cX1_filled 31 = .ok (.iconst 2, 1) := by decide +kernel
theorem dX1_filled_32 : decode cX1_filled 32 = .ok (.idiv, 1) := by decide +kernel
theorem dX1_filled_33 : decode cX1_filled 33 = .ok (.ireturn, 1) := by decide +kernel
theorem dX2_init_0 : decode cX2_init 0 = .ok (.aload_n 0, 1) := by decide +kernel
theorem dX2_init_1 : decode cX2_init 1 = .ok (.invokespecial 3, 3) := by decide +kernel
theorem dX2_init_4 : decode cX2_init 4 = .ok (.aload_n 0, 1) := by decide +kernel
theorem dX2_init_5 : decode cX2_init 5 = .ok (.iconst 0, 1) := by decide +kernel
theorem dX2_init_6 : decode cX2_init 6 = .ok (.putfield 9, 3) := by decide +kernel
theorem dX2_init_9 : decode cX2_init 9 = .ok (.aload_n 0, 1) := by decide +kernel
theorem dX2_init_10 : decode cX2_init 10 = .ok (.iconst 0, 1) := by decide +kernel
theorem dX2_init_11 : decode cX2_init 11 = .ok (.putfield 15, 3) := by decide +kernel
theorem dX2_init_14 : decode cX2_init 14 = .ok (.aload_n 0, 1) := by decide +kernel
theorem dX2_init_15 : decode cX2_init 15 = .ok (.iload_n 1, 1) := by decide +kernel
theorem dX2_init_16 : decode cX2_init 16 = .ok (.putfield 18, 3) := by decide +kernel
theorem dX2_init_19 : decode cX2_init 19 = .ok (.aload_n 0, 1) := by decide +kernel
theorem dX2_init_20 : decode cX2_init 20 = .ok (.iload_n 1, 1) := by decide +kernel
theorem dX2_init_21 : decode cX2_init 21 = .ok (.iconst 3, 1) := by decide +kernel
theorem dX2_init_22 : decode cX2_init 22 = .ok (.idiv, 1) := by decide +kernel
theorem dX2_init_23 : decode cX2_init 23 = .ok (.putfield 21, 3) := by decide +kernel
theorem dX2_init_26 : decode cX2_init 26 = .ok (.aload_n 0, 1) := by decide +kernel
theorem dX2_init_27 : decode cX2_init 27 = .ok (.iload_n 2, 1) := by decide +kernel
theorem dX2_init_28 : decode cX2_init 28 = .ok (.putfield 24, 3) := by decide +kernel
theorem dX2_init_31 : decode cX2_init 31 = .ok (.aload_n 0, 1) := by decide +kernel
theorem dX2_init_32 : decode cX2_init 32 = .ok (.iload_n 3, 1) := by decide +kernel
theorem dX2_init_33 : decode cX2_init 33 = .ok (.putfield 27, 3) := by decide +kernel
theorem dX2_init_36 : decode cX2_init 36 = .ok (.aload_n 0, 1) := by decide +kernel
theorem dX2_init_37 : decode cX2_init 37 = .ok (.iload 4, 2) := by decide +kernel
theorem dX2_init_39 : decode cX2_init 39 = .ok (.putfield 30, 3) := by decide +kernel
theorem dX2_init_42 : decode cX2_init 42 = .ok (.aload_n 0, 1) := by decide +kernel
theorem dX2_init_43 : decode cX2_init 43 = .ok (.iload 5, 2) := by decide +kernel
theorem dX2_init_45 : decode cX2_init 45 = .ok (.putfield 33, 3) := by decide +kernel
theorem dX2_init_48 : decode cX2_init 48 = .ok (.aload_n 0, 1) := by decide +kernel
theorem dX2_init_49 : decode cX2_init 49 = .ok (.iload 6, 2) := by decide +kernel
theorem dX2_init_51 : decode cX2_init 51 = .ok (.putfield 36, 3) := by decide +kernel
theorem dX2_init_54 : decode cX2_init 54 = .ok (.return_, 1) := by decide +kernel
theorem dX2_covers_0 : decode cX2_covers 0 = .ok (.iload_n 1, 1) := by decide +kernel
theorem dX2_covers_1 : decode cX2_covers 1 = .ok (.aload_n 0, 1) := by decide +kernel
theorem dX2_covers_2 : decode cX2_covers 2 = .ok (.getfield 33, 3) := by decide +kernel
theorem dX2_covers_5 : decode cX2_covers 5 = .ok (.if_icmp .lt 15, 3) := by decide +kernel
theorem dX2_covers_8 : decode cX2_covers 8 = .ok (.iload_n 1, 1) := by decide +kernel
theorem dX2_covers_9 : decode cX2_covers 9 = .ok (.aload_n 0, 1) := by decide +kernel
theorem dX2_covers_10 : decode cX2_covers 10 = .ok (.getfield 36, 3) := by decide +kernel
theorem dX2_covers_13 : decode cX2_covers 13 = .ok (.if_icmp .ge 7, 3) := by decide +kernel
theorem dX2_covers_16 : decode cX2_covers 16 = .ok (.iconst 1, 1) := by decide +kernel
theorem dX2_covers_17 : decode cX2_covers 17 = .ok (.goto 4, 3) := by decide +kernel
theorem dX2_covers_20 : decode cX2_covers 20 = .ok (.iconst 0, 1) := by decide +kernel
theorem dX2_covers_21 : decode cX2_covers 21 = .ok (.ireturn, 1) := by decide +kernel
theorem dX2_clashesWith_0 : decode cX2_clashesWith 0 = .ok (.aload_n 0, 1) := by decide +kernel
theorem dX2_clashesWith_1 : decode cX2_clashesWith 1 = .ok (.getfield 18, 3) := by decide +kernel
theorem dX2_clashesWith_4 : decode cX2_clashesWith 4 = .ok (.aload_n 1, 1) := by decide +kernel
theorem dX2_clashesWith_5 : decode cX2_clashesWith 5 = .ok (.getfield 18, 3) := by decide +kernel
theorem dX2_clashesWith_8 : decode cX2_clashesWith 8 = .ok (.if_icmp .ne 29, 3) := by decide +kernel
theorem dX2_clashesWith_11 : decode cX2_clashesWith 11 = .ok (.aload_n 0, 1) := by decide +kernel
theorem dX2_clashesWith_12 : decode cX2_clashesWith 12 = .ok (.getfield 33, 3) := by decide +kernel
theorem dX2_clashesWith_15 : decode cX2_clashesWith 15 = .ok (.aload_n 1, 1) := by decide +kernel
theorem dX2_clashesWith_16 : decode cX2_clashesWith 16 = .ok (.getfield 36, 3) := by decide +kernel
theorem dX2_clashesWith_19 : decode cX2_clashesWith 19 = .ok (.if_icmp .ge 18, 3) := by decide +kernel
theorem dX2_clashesWith_22 : decode cX2_clashesWith 22 = .ok (.aload_n 1, 1) := by decide +kernel
theorem dX2_clashesWith_23 : decode cX2_clashesWith 23 = .ok (.getfield 33, 3) := by decide +kernel
theorem dX2_clashesWith_26 : decode cX2_clashesWith 26 = .ok (.aload_n 0, 1) := by decide +kernel
theorem dX2_clashesWith_27 : decode cX2_clashesWith 27 = .ok (.getfield 36, 3) := by decide +kernel
theorem dX2_clashesWith_30 : decode cX2_clashesWith 30 = .ok (.if_icmp .ge 7, 3) := by decide +kernel
theorem dX2_clashesWith_33 : decode cX2_clashesWith 33 = .ok (.iconst 1, 1) := by decide +kernel
theorem dX2_clashesWith_34 : decode cX2_clashesWith 34 = .ok (.goto 4, 3) := by decide +kernel
theorem dX2_clashesWith_37 : decode cX2_clashesWith 37 = .ok (.iconst 0, 1) := by decide +kernel
theorem dX2_clashesWith_38 : decode cX2_clashesWith 38 = .ok (.ireturn, 1) := by decide +kernel
theorem dX2_rentFor_0 : decode cX2_rentFor 0 = .ok (.aload_n 0, 1) := by decide +kernel
theorem dX2_rentFor_1 : decode cX2_rentFor 1 = .ok (.getfield 27, 3) := by decide +kernel
theorem dX2_rentFor_4 : decode cX2_rentFor 4 = .ok (.aload_n 0, 1) := by decide +kernel
theorem dX2_rentFor_5 : decode cX2_rentFor 5 = .ok (.getfield 30, 3) := by decide +kernel
theorem dX2_rentFor_8 : decode cX2_rentFor 8 = .ok (.iload_n 1, 1) := by decide +kernel
theorem dX2_rentFor_9 : decode cX2_rentFor 9 = .ok (.imul, 1) := by decide +kernel
theorem dX2_rentFor_10 : decode cX2_rentFor 10 = .ok (.bipush 100, 2) := by decide +kernel
theorem dX2_rentFor_12 : decode cX2_rentFor 12 = .ok (.idiv, 1) := by decide +kernel
theorem dX2_rentFor_13 : decode cX2_rentFor 13 = .ok (.iadd, 1) := by decide +kernel
theorem dX2_rentFor_14 : decode cX2_rentFor 14 = .ok (.ireturn, 1) := by decide +kernel
theorem dX3_init_0 : decode cX3_init 0 = .ok (.aload_n 0, 1) := by decide +kernel
theorem dX3_init_1 : decode cX3_init 1 = .ok (.invokespecial 3, 3) := by decide +kernel
theorem dX3_init_4 : decode cX3_init 4 = .ok (.aload_n 0, 1) := by decide +kernel
theorem dX3_init_5 : decode cX3_init 5 = .ok (.bipush 12, 2) := by decide +kernel
theorem dX3_init_7 : decode cX3_init 7 = .ok (.newarray .int, 2) := by decide +kernel
theorem dX3_init_9 : decode cX3_init 9 = .ok (.putfield 9, 3) := by decide +kernel
theorem dX3_init_12 : decode cX3_init 12 = .ok (.aload_n 0, 1) := by decide +kernel
theorem dX3_init_13 : decode cX3_init 13 = .ok (.bipush 12, 2) := by decide +kernel
theorem dX3_init_15 : decode cX3_init 15 = .ok (.newarray .int, 2) := by decide +kernel
theorem dX3_init_17 : decode cX3_init 17 = .ok (.putfield 15, 3) := by decide +kernel
theorem dX3_init_20 : decode cX3_init 20 = .ok (.aload_n 0, 1) := by decide +kernel
theorem dX3_init_21 : decode cX3_init 21 = .ok (.sipush 2400, 3) := by decide +kernel
theorem dX3_init_24 : decode cX3_init 24 = .ok (.newarray .int, 2) := by decide +kernel
theorem dX3_init_26 : decode cX3_init 26 = .ok (.putfield 18, 3) := by decide +kernel
theorem dX3_init_29 : decode cX3_init 29 = .ok (.aload_n 0, 1) := by decide +kernel
theorem dX3_init_30 : decode cX3_init 30 = .ok (.sipush 2400, 3) := by decide +kernel
theorem dX3_init_33 : decode cX3_init 33 = .ok (.newarray .int, 2) := by decide +kernel
theorem dX3_init_35 : decode cX3_init 35 = .ok (.putfield 21, 3) := by decide +kernel
theorem dX3_init_38 : decode cX3_init 38 = .ok (.aload_n 0, 1) := by decide +kernel
theorem dX3_init_39 : decode cX3_init 39 = .ok (.sipush 200, 3) := by decide +kernel
theorem dX3_init_42 : decode cX3_init 42 = .ok (.newarray .int, 2) := by decide +kernel
theorem dX3_init_44 : decode cX3_init 44 = .ok (.putfield 24, 3) := by decide +kernel
theorem dX3_init_47 : decode cX3_init 47 = .ok (.return_, 1) := by decide +kernel
set_option maxRecDepth 20000 in
theorem ggX3_walk_X4_cell : GoodIn wsX3_walk wsX4_cell := goodIn_r _ [9] (by decide +kernel) (by decide +kernel)
set_option maxRecDepth 20000 in
theorem gX3_walk_X4_cell_n27 : GoodIn wsX3_walk (wsX4_cell) := ggX3_walk_X4_cell
set_option maxRecDepth 20000 in
theorem ggX3_walk_X0_playTo : GoodIn wsX3_walk wsX0_playTo := goodIn_r _ [14, 15, 16, 22, 23, 24, 25, 26, 27, 28, 29, 30] (by decide +kernel) (by decide +kernel)
set_option maxRecDepth 20000 in
theorem gX3_walk_X0_playTo : GoodIn wsX3_walk (wsV RX3 36 RX0 yX0_playTo wsX0_playTo) := goodIn_app (goodIn_of _ (by decide +kernel)) ggX3_walk_X0_playTo
theorem dX3_walk_0 : decode cX3_walk 0 = .ok (.iconst 0, 1) := by decide +kernel
theorem dX3_walk_1 : decode cX3_walk 1 = .ok (.istore_n 3, 1) := by decide +kernel
theorem dX3_walk_2 : decode cX3_walk 2 = .ok (.iconst 0, 1) := by decide +kernel
theorem dX3_walk_3 : decode cX3_walk 3 = .ok (.istore 4, 2) := by decide +kernel
theorem dX3_walk_5 : decode cX3_walk 5 = .ok (.iconst 0, 1) := by decide +kernel
theorem dX3_walk_6 : decode cX3_walk 6 = .ok (.istore 5, 2) := by decide +kernel
theorem dX3_walk_8 : decode cX3_walk 8 = .ok (.iload 5, 2) := by decide +kernel
theorem dX3_walk_10 : decode cX3_walk 10 = .ok (.bipush 12, 2) := by decide +kernel
theorem dX3_walk_12 : decode cX3_walk 12 = .ok (.if_icmp .ge 100, 3) := by decide +kernel
theorem dX3_walk_15 : decode cX3_walk 15 = .ok (.iload 5, 2) := by decide +kernel
theorem dX3_walk_17 : decode cX3_walk 17 = .ok (.iload_n 1, 1) := by decide +kernel
theorem dX3_walk_18 : decode cX3_walk 18 = .ok (.invokestatic 27, 3) := by decide +kernel
theorem dX3_walk_21 : decode cX3_walk 21 = .ok (.istore 6, 2) := by decide +kernel
theorem dX3_walk_23 : decode cX3_walk 23 = .ok (.iload 4, 2) := by decide +kernel
theorem dX3_walk_25 : decode cX3_walk 25 = .ok (.aload_n 0, 1) := by decide +kernel
theorem dX3_walk_26 : decode cX3_walk 26 = .ok (.getfield 9, 3) := by decide +kernel
theorem dX3_walk_29 : decode cX3_walk 29 = .ok (.iload 5, 2) := by decide +kernel
theorem dX3_walk_31 : decode cX3_walk 31 = .ok (.iaload, 1) := by decide +kernel
theorem dX3_walk_32 : decode cX3_walk 32 = .ok (.iadd, 1) := by decide +kernel
theorem dX3_walk_33 : decode cX3_walk 33 = .ok (.istore 7, 2) := by decide +kernel
theorem dX3_walk_35 : decode cX3_walk 35 = .ok (.aload_n 2, 1) := by decide +kernel
theorem dX3_walk_36 : decode cX3_walk 36 = .ok (.iload 7, 2) := by decide +kernel
theorem dX3_walk_38 : decode cX3_walk 38 = .ok (.aload_n 2, 1) := by decide +kernel
theorem dX3_walk_39 : decode cX3_walk 39 = .ok (.getfield 31, 3) := by decide +kernel
theorem dX3_walk_42 : decode cX3_walk 42 = .ok (.iload 6, 2) := by decide +kernel
theorem dX3_walk_44 : decode cX3_walk 44 = .ok (.iaload, 1) := by decide +kernel
theorem dX3_walk_45 : decode cX3_walk 45 = .ok (.invokevirtual 36, 3) := by decide +kernel
theorem dX3_walk_48 : decode cX3_walk 48 = .ok (.istore 8, 2) := by decide +kernel
theorem dX3_walk_50 : decode cX3_walk 50 = .ok (.aload_n 0, 1) := by decide +kernel
theorem dX3_walk_51 : decode cX3_walk 51 = .ok (.getfield 21, 3) := by decide +kernel
theorem dX3_walk_54 : decode cX3_walk 54 = .ok (.iload 6, 2) := by decide +kernel
theorem dX3_walk_56 : decode cX3_walk 56 = .ok (.iload 8, 2) := by decide +kernel
theorem dX3_walk_58 : decode cX3_walk 58 = .ok (.iastore, 1) := by decide +kernel
theorem dX3_walk_59 : decode cX3_walk 59 = .ok (.aload_n 0, 1) := by decide +kernel
theorem dX3_walk_60 : decode cX3_walk 60 = .ok (.getfield 18, 3) := by decide +kernel
theorem dX3_walk_63 : decode cX3_walk 63 = .ok (.iload 6, 2) := by decide +kernel
theorem dX3_walk_65 : decode cX3_walk 65 = .ok (.iload 7, 2) := by decide +kernel
theorem dX3_walk_67 : decode cX3_walk 67 = .ok (.iload 8, 2) := by decide +kernel
theorem dX3_walk_69 : decode cX3_walk 69 = .ok (.iadd, 1) := by decide +kernel
theorem dX3_walk_70 : decode cX3_walk 70 = .ok (.iastore, 1) := by decide +kernel
theorem dX3_walk_71 : decode cX3_walk 71 = .ok (.iload_n 3, 1) := by decide +kernel
theorem dX3_walk_72 : decode cX3_walk 72 = .ok (.aload_n 0, 1) := by decide +kernel
theorem dX3_walk_73 : decode cX3_walk 73 = .ok (.getfield 18, 3) := by decide +kernel
theorem dX3_walk_76 : decode cX3_walk 76 = .ok (.iload 6, 2) := by decide +kernel
theorem dX3_walk_78 : decode cX3_walk 78 = .ok (.iaload, 1) := by decide +kernel
theorem dX3_walk_79 : decode cX3_walk 79 = .ok (.iadd, 1) := by decide +kernel
theorem dX3_walk_80 : decode cX3_walk 80 = .ok (.istore_n 3, 1) := by decide +kernel
theorem dX3_walk_81 : decode cX3_walk 81 = .ok (.iload 7, 2) := by decide +kernel
theorem dX3_walk_83 : decode cX3_walk 83 = .ok (.iload 8, 2) := by decide +kernel
theorem dX3_walk_85 : decode cX3_walk 85 = .ok (.isub, 1) := by decide +kernel
theorem dX3_walk_86 : decode cX3_walk 86 = .ok (.istore 9, 2) := by decide +kernel
theorem dX3_walk_88 : decode cX3_walk 88 = .ok (.iload 9, 2) := by decide +kernel
theorem dX3_walk_90 : decode cX3_walk 90 = .ok (.iload 9, 2) := by decide +kernel
theorem dX3_walk_92 : decode cX3_walk 92 = .ok (.aload_n 0, 1) := by decide +kernel
theorem dX3_walk_93 : decode cX3_walk 93 = .ok (.getfield 15, 3) := by decide +kernel
theorem dX3_walk_96 : decode cX3_walk 96 = .ok (.iload 5, 2) := by decide +kernel
theorem dX3_walk_98 : decode cX3_walk 98 = .ok (.iaload, 1) := by decide +kernel
theorem dX3_walk_99 : decode cX3_walk 99 = .ok (.imul, 1) := by decide +kernel
theorem dX3_walk_100 : decode cX3_walk 100 = .ok (.bipush 100, 2) := by decide +kernel
theorem dX3_walk_102 : decode cX3_walk 102 = .ok (.idiv, 1) := by decide +kernel
theorem dX3_walk_103 : decode cX3_walk 103 = .ok (.isub, 1) := by decide +kernel
theorem dX3_walk_104 : decode cX3_walk 104 = .ok (.istore 4, 2) := by decide +kernel
theorem dX3_walk_106 : decode cX3_walk 106 = .ok (.iinc 5 1, 3) := by decide +kernel
theorem dX3_walk_109 : decode cX3_walk 109 = .ok (.goto (-101), 3) := by decide +kernel
theorem dX3_walk_112 : decode cX3_walk 112 = .ok (.aload_n 0, 1) := by decide +kernel
theorem dX3_walk_113 : decode cX3_walk 113 = .ok (.getfield 24, 3) := by decide +kernel
theorem dX3_walk_116 : decode cX3_walk 116 = .ok (.iload_n 1, 1) := by decide +kernel
theorem dX3_walk_117 : decode cX3_walk 117 = .ok (.iload 4, 2) := by decide +kernel
theorem dX3_walk_119 : decode cX3_walk 119 = .ok (.iastore, 1) := by decide +kernel
theorem dX3_walk_120 : decode cX3_walk 120 = .ok (.iload_n 3, 1) := by decide +kernel
theorem dX3_walk_121 : decode cX3_walk 121 = .ok (.ireturn, 1) := by decide +kernel
set_option maxRecDepth 20000 in
theorem ggX4_init_X3_init : GoodIn wsX4_init wsX3_init := goodIn_r _ [24, 25, 2, 3, 20, 26, 27, 28, 29, 30, 75, 76, 77, 78, 79] (by decide +kernel) (by decide +kernel)
set_option maxRecDepth 20000 in
theorem gX4_init_X3_init_n11 : GoodIn wsX4_init (wsX3_init) := ggX4_init_X3_init
set_option maxRecDepth 20000 in
theorem ggX4_init_X1_init : GoodIn wsX4_init wsX1_init := goodIn_r _ [32, 33, 2, 3, 34, 35, 20, 36, 37, 38, 39, 40, 41, 42, 86, 87, 88, 89, 90, 91, 92, 93] (by decide +kernel) (by decide +kernel)
set_option maxRecDepth 20000 in
theorem gX4_init_X1_init_n18 : GoodIn wsX4_init (wsX1_init) := ggX4_init_X1_init
set_option maxRecDepth 20000 in
theorem ggX4_init_X0_init : GoodIn wsX4_init wsX0_init := goodIn_r _ [45, 46, 2, 3, 20, 47, 48, 49, 34, 50, 51, 52, 53, 54, 55, 56, 57, 58, 59, 94, 95, 96, 97, 98, 99, 100, 101, 102] (by decide +kernel) (by decide +kernel)
set_option maxRecDepth 20000 in
theorem gX4_init_X0_init : GoodIn wsX4_init (wsX0_init) := ggX4_init_X0_init
set_option maxRecDepth 20000 in
theorem ggX4_init_Jx4a65c_init_da8c8 : GoodIn wsX4_init wsJx4a65c_init_da8c8 := goodIn_r _ [62, 63, 64, 65, 66, 67, 68, 69, 70, 71, 72, 73, 74, 2, 3, 103, 104, 105] (by decide +kernel) (by decide +kernel)
set_option maxRecDepth 20000 in
theorem gX4_init_Jx4a65c_init_da8c8 : GoodIn wsX4_init (wsJx4a65c_init_da8c8) := ggX4_init_Jx4a65c_init_da8c8
theorem dX4_init_0 : decode cX4_init 0 = .ok (.aload_n 0, 1) := by decide +kernel
theorem dX4_init_1 : decode cX4_init 1 = .ok (.invokespecial 3, 3) := by decide +kernel
theorem dX4_init_4 : decode cX4_init 4 = .ok (.aload_n 0, 1) := by decide +kernel
theorem dX4_init_5 : decode cX4_init 5 = .ok (.new 9, 3) := by decide +kernel
theorem dX4_init_8 : decode cX4_init 8 = .ok (.dup, 1) := by decide +kernel
theorem dX4_init_9 : decode cX4_init 9 = .ok (.invokespecial 11, 3) := by decide +kernel
theorem dX4_init_12 : decode cX4_init 12 = .ok (.putfield 12, 3) := by decide +kernel
theorem dX4_init_15 : decode cX4_init 15 = .ok (.aload_n 0, 1) := by decide +kernel
theorem dX4_init_16 : decode cX4_init 16 = .ok (.new 16, 3) := by decide +kernel
theorem dX4_init_19 : decode cX4_init 19 = .ok (.dup, 1) := by decide +kernel
theorem dX4_init_20 : decode cX4_init 20 = .ok (.invokespecial 18, 3) := by decide +kernel
theorem dX4_init_23 : decode cX4_init 23 = .ok (.putfield 19, 3) := by decide +kernel
theorem dX4_init_26 : decode cX4_init 26 = .ok (.aload_n 0, 1) := by decide +kernel
theorem dX4_init_27 : decode cX4_init 27 = .ok (.new 23, 3) := by decide +kernel
theorem dX4_init_30 : decode cX4_init 30 = .ok (.dup, 1) := by decide +kernel
theorem dX4_init_31 : decode cX4_init 31 = .ok (.invokespecial 25, 3) := by decide +kernel
theorem dX4_init_34 : decode cX4_init 34 = .ok (.putfield 26, 3) := by decide +kernel
theorem dX4_init_37 : decode cX4_init 37 = .ok (.aload_n 0, 1) := by decide +kernel
theorem dX4_init_38 : decode cX4_init 38 = .ok (.new 30, 3) := by decide +kernel
theorem dX4_init_41 : decode cX4_init 41 = .ok (.dup, 1) := by decide +kernel
theorem dX4_init_42 : decode cX4_init 42 = .ok (.invokespecial 32, 3) := by decide +kernel
theorem dX4_init_45 : decode cX4_init 45 = .ok (.putfield 33, 3) := by decide +kernel
theorem dX4_init_48 : decode cX4_init 48 = .ok (.aload_n 0, 1) := by decide +kernel
theorem dX4_init_49 : decode cX4_init 49 = .ok (.bipush 6, 2) := by decide +kernel
theorem dX4_init_51 : decode cX4_init 51 = .ok (.newarray .int, 2) := by decide +kernel
theorem dX4_init_53 : decode cX4_init 53 = .ok (.putfield 37, 3) := by decide +kernel
theorem dX4_init_56 : decode cX4_init 56 = .ok (.aload_n 0, 1) := by decide +kernel
theorem dX4_init_57 : decode cX4_init 57 = .ok (.iconst 0, 1) := by decide +kernel
theorem dX4_init_58 : decode cX4_init 58 = .ok (.putfield 41, 3) := by decide +kernel
theorem dX4_init_61 : decode cX4_init 61 = .ok (.return_, 1) := by decide +kernel
set_option maxRecDepth 20000 in
theorem ggX4_setPeople_X4_requireIndex : GoodIn wsX4_setPeople wsX4_requireIndex := goodIn_ca (goodIn_r _ [7, 8, 9] (by decide +kernel) (by decide +kernel)) (goodIn_sub (fun _ h => List.mem_cons_of_mem _ (List.mem_append_left _ (List.mem_append_right _ h))) (by decide +kernel))
set_option maxRecDepth 20000 in
theorem gX4_setPeople_X4_requireIndex : GoodIn wsX4_setPeople (va_wsS RX4 45 yX4_requireIndex wsX4_requireIndex) := goodIn_app (goodIn_of _ (by decide +kernel)) ggX4_setPeople_X4_requireIndex
set_option maxRecDepth 20000 in
theorem ggX4_setPeople_X4_requireWithin : GoodIn wsX4_setPeople wsX4_requireWithin := goodIn_ca (goodIn_r _ [12, 13, 14] (by decide +kernel) (by decide +kernel)) (goodIn_sub (fun _ h => List.mem_cons_of_mem _ (List.mem_append_right _ h)) (by decide +kernel))
set_option maxRecDepth 20000 in
theorem gX4_setPeople_X4_requireWithin : GoodIn wsX4_setPeople (va_wsS RX4 49 yX4_requireWithin wsX4_requireWithin) := goodIn_app (goodIn_of _ (by decide +kernel)) ggX4_setPeople_X4_requireWithin
theorem dX4_setPeople_0 : decode cX4_setPeople 0 = .ok (.iload_n 1, 1) := by decide +kernel
theorem dX4_setPeople_1 : decode cX4_setPeople 1 = .ok (.bipush 12, 2) := by decide +kernel
theorem dX4_setPeople_3 : decode cX4_setPeople 3 = .ok (.invokestatic 45, 3) := by decide +kernel
theorem dX4_setPeople_6 : decode cX4_setPeople 6 = .ok (.iload_n 2, 1) := by decide +kernel
theorem dX4_setPeople_7 : decode cX4_setPeople 7 = .ok (.iconst 0, 1) := by decide +kernel
theorem dX4_setPeople_8 : decode cX4_setPeople 8 = .ok (.sipush 1000, 3) := by decide +kernel
theorem dX4_setPeople_11 : decode cX4_setPeople 11 = .ok (.invokestatic 49, 3) := by decide +kernel
theorem dX4_setPeople_14 : decode cX4_setPeople 14 = .ok (.iload_n 3, 1) := by decide +kernel
theorem dX4_setPeople_15 : decode cX4_setPeople 15 = .ok (.iconst 0, 1) := by decide +kernel
theorem dX4_setPeople_16 : decode cX4_setPeople 16 = .ok (.bipush 100, 2) := by decide +kernel
theorem dX4_setPeople_18 : decode cX4_setPeople 18 = .ok (.invokestatic 49, 3) := by decide +kernel
theorem dX4_setPeople_21 : decode cX4_setPeople 21 = .ok (.aload_n 0, 1) := by decide +kernel
theorem dX4_setPeople_22 : decode cX4_setPeople 22 = .ok (.getfield 12, 3) := by decide +kernel
theorem dX4_setPeople_25 : decode cX4_setPeople 25 = .ok (.getfield 53, 3) := by decide +kernel
theorem dX4_setPeople_28 : decode cX4_setPeople 28 = .ok (.iload_n 1, 1) := by decide +kernel
theorem dX4_setPeople_29 : decode cX4_setPeople 29 = .ok (.iaload, 1) := by decide +kernel
theorem dX4_setPeople_30 : decode cX4_setPeople 30 = .ok (.istore 4, 2) := by decide +kernel
theorem dX4_setPeople_32 : decode cX4_setPeople 32 = .ok (.aload_n 0, 1) := by decide +kernel
theorem dX4_setPeople_33 : decode cX4_setPeople 33 = .ok (.getfield 12, 3) := by decide +kernel
theorem dX4_setPeople_36 : decode cX4_setPeople 36 = .ok (.getfield 53, 3) := by decide +kernel
theorem dX4_setPeople_39 : decode cX4_setPeople 39 = .ok (.iload_n 1, 1) := by decide +kernel
theorem dX4_setPeople_40 : decode cX4_setPeople 40 = .ok (.iload_n 2, 1) := by decide +kernel
theorem dX4_setPeople_41 : decode cX4_setPeople 41 = .ok (.iastore, 1) := by decide +kernel
theorem dX4_setPeople_42 : decode cX4_setPeople 42 = .ok (.aload_n 0, 1) := by decide +kernel
theorem dX4_setPeople_43 : decode cX4_setPeople 43 = .ok (.getfield 12, 3) := by decide +kernel
theorem dX4_setPeople_46 : decode cX4_setPeople 46 = .ok (.getfield 56, 3) := by decide +kernel
theorem dX4_setPeople_49 : decode cX4_setPeople 49 = .ok (.iload_n 1, 1) := by decide +kernel
theorem dX4_setPeople_50 : decode cX4_setPeople 50 = .ok (.iload_n 3, 1) := by decide +kernel
theorem dX4_setPeople_51 : decode cX4_setPeople 51 = .ok (.iastore, 1) := by decide +kernel
theorem dX4_setPeople_52 : decode cX4_setPeople 52 = .ok (.iload 4, 2) := by decide +kernel
theorem dX4_setPeople_54 : decode cX4_setPeople 54 = .ok (.ireturn, 1) := by decide +kernel
set_option maxRecDepth 20000 in
theorem ggX4_pass_X4_requireWithin : GoodIn wsX4_pass wsX4_requireWithin := goodIn_ca (goodIn_r _ [5, 6, 7] (by decide +kernel) (by decide +kernel)) (goodIn_sub (fun _ h => List.mem_cons_of_mem _ (List.mem_append_left _ (List.mem_append_right _ h))) (by decide +kernel))
set_option maxRecDepth 20000 in
theorem gX4_pass_X4_requireWithin : GoodIn wsX4_pass (va_wsS RX4 49 yX4_requireWithin wsX4_requireWithin) := goodIn_app (goodIn_of _ (by decide +kernel)) ggX4_pass_X4_requireWithin
set_option maxRecDepth 20000 in
theorem ggX4_pass_X4_requireState : GoodIn wsX4_pass wsX4_requireState := goodIn_ca (goodIn_r _ [10, 11, 12] (by decide +kernel) (by decide +kernel)) (goodIn_sub (fun _ h => List.mem_cons_of_mem _ (List.mem_append_right _ h)) (by decide +kernel))
set_option maxRecDepth 20000 in
theorem gX4_pass_X4_requireState : GoodIn wsX4_pass (va_wsS RX4 59 yX4_requireState wsX4_requireState) := goodIn_app (goodIn_of _ (by decide +kernel)) ggX4_pass_X4_requireState
set_option maxRecDepth 20000 in
theorem ggX4_pass_X4_endHour : GoodIn wsX4_pass wsX4_endHour := goodIn_r _ [16, 17, 1, 18, 19, 20, 21, 22, 23, 24, 25, 26, 27, 28, 29, 30, 31, 32, 33, 34, 35, 36, 37, 38, 39, 40, 41, 42, 43, 44, 45, 46, 47, 48, 49, 50, 51, 52, 53, 54, 55, 56, 57, 58, 59, 4, 60, 61, 62, 63, 64, 65, 66, 67, 68, 69, 70, 71, 72, 73, 74, 75, 76, 77, 78, 79, 80, 81, 82, 83, 84, 85, 86, 87, 88, 89, 90, 91, 92, 93, 94, 95, 96, 97, 98, 99, 100, 101, 102, 103, 104, 105, 106, 107, 108, 109, 110, 111, 112, 113, 114, 115, 116, 117, 118, 119, 120, 121, 122, 123, 124, 125, 126, 127, 128, 129, 130, 131, 132, 133, 134, 135, 136, 137, 138, 139, 140, 141, 142, 143, 144, 145, 146, 147, 148, 149, 150, 151, 152, 153, 154, 155, 156, 157, 158, 159, 160, 161, 162, 163, 164, 165, 166, 167, 168, 169, 170, 171, 172, 173, 174, 175, 176, 177, 178, 179, 180, 181, 182, 183, 184, 185, 186, 187, 188, 189, 190, 191, 192, 193, 194, 195, 196, 197, 198, 199, 200, 201, 202, 203, 204, 205, 206, 207, 208] (by decide +kernel) (by decide +kernel)
set_option maxRecDepth 20000 in
theorem gX4_pass_X4_endHour : GoodIn wsX4_pass (wsV RX4 63 RX4 yX4_endHour wsX4_endHour) := goodIn_app (goodIn_of _ (by decide +kernel)) ggX4_pass_X4_endHour
theorem dX4_pass_0 : decode cX4_pass 0 = .ok (.iload_n 1, 1) := by decide +kernel
theorem dX4_pass_1 : decode cX4_pass 1 = .ok (.iconst 1, 1) := by decide +kernel
theorem dX4_pass_2 : decode cX4_pass 2 = .ok (.bipush 50, 2) := by decide +kernel
theorem dX4_pass_4 : decode cX4_pass 4 = .ok (.invokestatic 49, 3) := by decide +kernel
theorem dX4_pass_7 : decode cX4_pass 7 = .ok (.aload_n 0, 1) := by decide +kernel
theorem dX4_pass_8 : decode cX4_pass 8 = .ok (.getfield 41, 3) := by decide +kernel
theorem dX4_pass_11 : decode cX4_pass 11 = .ok (.iload_n 1, 1) := by decide +kernel
theorem dX4_pass_12 : decode cX4_pass 12 = .ok (.iadd, 1) := by decide +kernel
theorem dX4_pass_13 : decode cX4_pass 13 = .ok (.sipush 200, 3) := by decide +kernel
theorem dX4_pass_16 : decode cX4_pass 16 = .ok (.if_icmp .gt 7, 3) := by decide +kernel
theorem dX4_pass_19 : decode cX4_pass 19 = .ok (.iconst 1, 1) := by decide +kernel
theorem dX4_pass_20 : decode cX4_pass 20 = .ok (.goto 4, 3) := by decide +kernel
theorem dX4_pass_23 : decode cX4_pass 23 = .ok (.iconst 0, 1) := by decide +kernel
theorem dX4_pass_24 : decode cX4_pass 24 = .ok (.invokestatic 59, 3) := by decide +kernel
theorem dX4_pass_27 : decode cX4_pass 27 = .ok (.iconst 0, 1) := by decide +kernel
theorem dX4_pass_28 : decode cX4_pass 28 = .ok (.istore_n 2, 1) := by decide +kernel
theorem dX4_pass_29 : decode cX4_pass 29 = .ok (.iconst 0, 1) := by decide +kernel
theorem dX4_pass_30 : decode cX4_pass 30 = .ok (.istore_n 3, 1) := by decide +kernel
theorem dX4_pass_31 : decode cX4_pass 31 = .ok (.iload_n 3, 1) := by decide +kernel
theorem dX4_pass_32 : decode cX4_pass 32 = .ok (.iload_n 1, 1) := by decide +kernel
theorem dX4_pass_33 : decode cX4_pass 33 = .ok (.if_icmp .ge 16, 3) := by decide +kernel
theorem dX4_pass_36 : decode cX4_pass 36 = .ok (.iload_n 2, 1) := by decide +kernel
theorem dX4_pass_37 : decode cX4_pass 37 = .ok (.aload_n 0, 1) := by decide +kernel
theorem dX4_pass_38 : decode cX4_pass 38 = .ok (.invokevirtual 63, 3) := by decide +kernel
theorem dX4_pass_41 : decode cX4_pass 41 = .ok (.iadd, 1) := by decide +kernel
theorem dX4_pass_42 : decode cX4_pass 42 = .ok (.istore_n 2, 1) := by decide +kernel
theorem dX4_pass_43 : decode cX4_pass 43 = .ok (.iinc 3 1, 3) := by decide +kernel
theorem dX4_pass_46 : decode cX4_pass 46 = .ok (.goto (-15), 3) := by decide +kernel
theorem dX4_pass_49 : decode cX4_pass 49 = .ok (.iload_n 2, 1) := by decide +kernel
theorem dX4_pass_50 : decode cX4_pass 50 = .ok (.ireturn, 1) := by decide +kernel
set_option maxRecDepth 20000 in
theorem ggX4_setLamp_X4_requireIndex : GoodIn wsX4_setLamp wsX4_requireIndex := goodIn_ca (goodIn_r _ [7, 8, 9] (by decide +kernel) (by decide +kernel)) (goodIn_sub (fun _ h => List.mem_cons_of_mem _ (List.mem_append_left _ (List.mem_append_right _ h))) (by decide +kernel))
set_option maxRecDepth 20000 in
theorem gX4_setLamp_X4_requireIndex : GoodIn wsX4_setLamp (va_wsS RX4 45 yX4_requireIndex wsX4_requireIndex) := goodIn_app (goodIn_of _ (by decide +kernel)) ggX4_setLamp_X4_requireIndex
set_option maxRecDepth 20000 in
theorem ggX4_setLamp_X4_requireWithin : GoodIn wsX4_setLamp wsX4_requireWithin := goodIn_ca (goodIn_r _ [12, 13, 14] (by decide +kernel) (by decide +kernel)) (goodIn_sub (fun _ h => List.mem_cons_of_mem _ (List.mem_append_right _ h)) (by decide +kernel))
set_option maxRecDepth 20000 in
theorem gX4_setLamp_X4_requireWithin : GoodIn wsX4_setLamp (va_wsS RX4 49 yX4_requireWithin wsX4_requireWithin) := goodIn_app (goodIn_of _ (by decide +kernel)) ggX4_setLamp_X4_requireWithin
theorem dX4_setLamp_0 : decode cX4_setLamp 0 = .ok (.iload_n 1, 1) := by decide +kernel
theorem dX4_setLamp_1 : decode cX4_setLamp 1 = .ok (.bipush 12, 2) := by decide +kernel
theorem dX4_setLamp_3 : decode cX4_setLamp 3 = .ok (.invokestatic 45, 3) := by decide +kernel
theorem dX4_setLamp_6 : decode cX4_setLamp 6 = .ok (.iload_n 3, 1) := by decide +kernel
theorem dX4_setLamp_7 : decode cX4_setLamp 7 = .ok (.iconst 0, 1) := by decide +kernel
theorem dX4_setLamp_8 : decode cX4_setLamp 8 = .ok (.bipush 60, 2) := by decide +kernel
theorem dX4_setLamp_10 : decode cX4_setLamp 10 = .ok (.invokestatic 49, 3) := by decide +kernel
theorem dX4_setLamp_13 : decode cX4_setLamp 13 = .ok (.aload_n 0, 1) := by decide +kernel
theorem dX4_setLamp_14 : decode cX4_setLamp 14 = .ok (.getfield 19, 3) := by decide +kernel
theorem dX4_setLamp_17 : decode cX4_setLamp 17 = .ok (.getfield 67, 3) := by decide +kernel
theorem dX4_setLamp_20 : decode cX4_setLamp 20 = .ok (.iload_n 1, 1) := by decide +kernel
theorem dX4_setLamp_21 : decode cX4_setLamp 21 = .ok (.iaload, 1) := by decide +kernel
theorem dX4_setLamp_22 : decode cX4_setLamp 22 = .ok (.istore 4, 2) := by decide +kernel
theorem dX4_setLamp_24 : decode cX4_setLamp 24 = .ok (.aload_n 0, 1) := by decide +kernel
theorem dX4_setLamp_25 : decode cX4_setLamp 25 = .ok (.getfield 19, 3) := by decide +kernel
theorem dX4_setLamp_28 : decode cX4_setLamp 28 = .ok (.getfield 70, 3) := by decide +kernel
theorem dX4_setLamp_31 : decode cX4_setLamp 31 = .ok (.iload_n 1, 1) := by decide +kernel
theorem dX4_setLamp_32 : decode cX4_setLamp 32 = .ok (.iload_n 2, 1) := by decide +kernel
theorem dX4_setLamp_33 : decode cX4_setLamp 33 = .ok (.ifCond .ne 7, 3) := by decide +kernel
theorem dX4_setLamp_36 : decode cX4_setLamp 36 = .ok (.iconst 1, 1) := by decide +kernel
theorem dX4_setLamp_37 : decode cX4_setLamp 37 = .ok (.goto 4, 3) := by decide +kernel
theorem dX4_setLamp_40 : decode cX4_setLamp 40 = .ok (.iconst 0, 1) := by decide +kernel
theorem dX4_setLamp_41 : decode cX4_setLamp 41 = .ok (.bastore, 1) := by decide +kernel
theorem dX4_setLamp_42 : decode cX4_setLamp 42 = .ok (.aload_n 0, 1) := by decide +kernel
theorem dX4_setLamp_43 : decode cX4_setLamp 43 = .ok (.getfield 19, 3) := by decide +kernel
theorem dX4_setLamp_46 : decode cX4_setLamp 46 = .ok (.getfield 67, 3) := by decide +kernel
theorem dX4_setLamp_49 : decode cX4_setLamp 49 = .ok (.iload_n 1, 1) := by decide +kernel
theorem dX4_setLamp_50 : decode cX4_setLamp 50 = .ok (.iload_n 3, 1) := by decide +kernel
theorem dX4_setLamp_51 : decode cX4_setLamp 51 = .ok (.iastore, 1) := by decide +kernel
theorem dX4_setLamp_52 : decode cX4_setLamp 52 = .ok (.iload 4, 2) := by decide +kernel
theorem dX4_setLamp_54 : decode cX4_setLamp 54 = .ok (.ireturn, 1) := by decide +kernel
set_option maxRecDepth 20000 in
theorem ggX4_find_X4_requireIndex : GoodIn wsX4_find wsX4_requireIndex := goodIn_ca (goodIn_r _ [7, 8, 9] (by decide +kernel) (by decide +kernel)) (goodIn_sub (fun _ h => List.mem_cons_of_mem _ (List.mem_append_left _ (List.mem_append_left _ (List.mem_append_right _ h)))) (by decide +kernel))
set_option maxRecDepth 20000 in
theorem gX4_find_X4_requireIndex : GoodIn wsX4_find (va_wsS RX4 45 yX4_requireIndex wsX4_requireIndex) := goodIn_app (goodIn_of _ (by decide +kernel)) ggX4_find_X4_requireIndex
set_option maxRecDepth 20000 in
theorem ggX4_find_X4_requireWithin : GoodIn wsX4_find wsX4_requireWithin := goodIn_ca (goodIn_r _ [12, 13, 14] (by decide +kernel) (by decide +kernel)) (goodIn_sub (fun _ h => List.mem_cons_of_mem _ (List.mem_append_left _ (List.mem_append_right _ h))) (by decide +kernel))
set_option maxRecDepth 20000 in
theorem gX4_find_X4_requireWithin : GoodIn wsX4_find (va_wsS RX4 49 yX4_requireWithin wsX4_requireWithin) := goodIn_app (goodIn_of _ (by decide +kernel)) ggX4_find_X4_requireWithin
set_option maxRecDepth 20000 in
theorem ggX4_find_X4_requireState : GoodIn wsX4_find wsX4_requireState := goodIn_ca (goodIn_r _ [17, 18, 19] (by decide +kernel) (by decide +kernel)) (goodIn_sub (fun _ h => List.mem_cons_of_mem _ (List.mem_append_right _ h)) (by decide +kernel))
set_option maxRecDepth 20000 in
theorem gX4_find_X4_requireState : GoodIn wsX4_find (va_wsS RX4 59 yX4_requireState wsX4_requireState) := goodIn_app (goodIn_of _ (by decide +kernel)) ggX4_find_X4_requireState
set_option maxRecDepth 20000 in
theorem ggX4_find_X1_noteFinding : GoodIn wsX4_find wsX1_noteFinding := goodIn_r _ [24, 25, 26, 27, 28, 122, 123, 124, 125, 126, 127, 128, 129] (by decide +kernel) (by decide +kernel)
set_option maxRecDepth 20000 in
theorem gX4_find_X1_noteFinding : GoodIn wsX4_find (wsV RX4 77 RX1 yX1_noteFinding wsX1_noteFinding) := goodIn_app (goodIn_of _ (by decide +kernel)) ggX4_find_X1_noteFinding
set_option maxRecDepth 20000 in
theorem ggX4_find_X4_recount : GoodIn wsX4_find wsX4_recount := goodIn_r _ [32, 2, 33, 34, 35, 23, 36, 37, 38, 6, 39, 40, 41, 42, 43, 44, 45, 46, 47, 26, 25, 27, 28, 48, 49, 50, 51, 52, 53, 54, 55, 56, 57, 58, 59, 60, 61, 62, 63, 64, 65, 66, 67, 68, 69, 70, 71, 72, 73, 74, 75, 76, 77, 78, 79, 80, 81, 82, 83, 84, 85, 86, 87, 88, 89, 90, 91, 92, 93, 94, 95, 96, 97, 98, 99, 100, 101, 102, 103, 104, 105, 106, 107, 108, 109, 110, 111, 112, 113, 114, 115, 116, 117, 118, 119, 120, 121, 122, 123, 124, 125, 126, 127, 128, 129, 130, 131, 132, 133, 134, 135, 136, 137, 138, 139, 140, 141] (by decide +kernel) (by decide +kernel)
set_option maxRecDepth 20000 in
theorem gX4_find_X4_recount : GoodIn wsX4_find (wsV RX4 80 RX4 yX4_recount wsX4_recount) := goodIn_app (goodIn_of _ (by decide +kernel)) ggX4_find_X4_recount
theorem dX4_find_0 : decode cX4_find 0 = .ok (.iload_n 1, 1) := by decide +kernel
theorem dX4_find_1 : decode cX4_find 1 = .ok (.bipush 12, 2) := by decide +kernel
theorem dX4_find_3 : decode cX4_find 3 = .ok (.invokestatic 45, 3) := by decide +kernel
theorem dX4_find_6 : decode cX4_find 6 = .ok (.iload_n 2, 1) := by decide +kernel
theorem dX4_find_7 : decode cX4_find 7 = .ok (.iconst 0, 1) := by decide +kernel
theorem dX4_find_8 : decode cX4_find 8 = .ok (.aload_n 0, 1) := by decide +kernel
theorem dX4_find_9 : decode cX4_find 9 = .ok (.getfield 41, 3) := by decide +kernel
theorem dX4_find_12 : decode cX4_find 12 = .ok (.invokestatic 49, 3) := by decide +kernel
theorem dX4_find_15 : decode cX4_find 15 = .ok (.iload_n 3, 1) := by decide +kernel
theorem dX4_find_16 : decode cX4_find 16 = .ok (.iconst 0, 1) := by decide +kernel
theorem dX4_find_17 : decode cX4_find 17 = .ok (.bipush 60, 2) := by decide +kernel
theorem dX4_find_19 : decode cX4_find 19 = .ok (.invokestatic 49, 3) := by decide +kernel
theorem dX4_find_22 : decode cX4_find 22 = .ok (.aload_n 0, 1) := by decide +kernel
theorem dX4_find_23 : decode cX4_find 23 = .ok (.getfield 19, 3) := by decide +kernel
theorem dX4_find_26 : decode cX4_find 26 = .ok (.getfield 74, 3) := by decide +kernel
theorem dX4_find_29 : decode cX4_find 29 = .ok (.bipush 60, 2) := by decide +kernel
theorem dX4_find_31 : decode cX4_find 31 = .ok (.if_icmp .ge 7, 3) := by decide +kernel
theorem dX4_find_34 : decode cX4_find 34 = .ok (.iconst 1, 1) := by decide +kernel
theorem dX4_find_35 : decode cX4_find 35 = .ok (.goto 4, 3) := by decide +kernel
theorem dX4_find_38 : decode cX4_find 38 = .ok (.iconst 0, 1) := by decide +kernel
theorem dX4_find_39 : decode cX4_find 39 = .ok (.invokestatic 59, 3) := by decide +kernel
theorem dX4_find_42 : decode cX4_find 42 = .ok (.aload_n 0, 1) := by decide +kernel
theorem dX4_find_43 : decode cX4_find 43 = .ok (.getfield 19, 3) := by decide +kernel
theorem dX4_find_46 : decode cX4_find 46 = .ok (.iload_n 1, 1) := by decide +kernel
theorem dX4_find_47 : decode cX4_find 47 = .ok (.iload_n 2, 1) := by decide +kernel
theorem dX4_find_48 : decode cX4_find 48 = .ok (.iload_n 3, 1) := by decide +kernel
theorem dX4_find_49 : decode cX4_find 49 = .ok (.invokevirtual 77, 3) := by decide +kernel
theorem dX4_find_52 : decode cX4_find 52 = .ok (.iconst 0, 1) := by decide +kernel
theorem dX4_find_53 : decode cX4_find 53 = .ok (.istore 4, 2) := by decide +kernel
theorem dX4_find_55 : decode cX4_find 55 = .ok (.iload_n 2, 1) := by decide +kernel
theorem dX4_find_56 : decode cX4_find 56 = .ok (.istore 5, 2) := by decide +kernel
theorem dX4_find_58 : decode cX4_find 58 = .ok (.iload 5, 2) := by decide +kernel
theorem dX4_find_60 : decode cX4_find 60 = .ok (.aload_n 0, 1) := by decide +kernel
theorem dX4_find_61 : decode cX4_find 61 = .ok (.getfield 41, 3) := by decide +kernel
theorem dX4_find_64 : decode cX4_find 64 = .ok (.if_icmp .ge 21, 3) := by decide +kernel
theorem dX4_find_67 : decode cX4_find 67 = .ok (.iload 4, 2) := by decide +kernel
theorem dX4_find_69 : decode cX4_find 69 = .ok (.aload_n 0, 1) := by decide +kernel
theorem dX4_find_70 : decode cX4_find 70 = .ok (.iload_n 1, 1) := by decide +kernel
theorem dX4_find_71 : decode cX4_find 71 = .ok (.iload 5, 2) := by decide +kernel
theorem dX4_find_73 : decode cX4_find 73 = .ok (.invokevirtual 80, 3) := by decide +kernel
theorem dX4_find_76 : decode cX4_find 76 = .ok (.iadd, 1) := by decide +kernel
theorem dX4_find_77 : decode cX4_find 77 = .ok (.istore 4, 2) := by decide +kernel
theorem dX4_find_79 : decode cX4_find 79 = .ok (.iinc 5 1, 3) := by decide +kernel
theorem dX4_find_82 : decode cX4_find 82 = .ok (.goto (-24), 3) := by decide +kernel
theorem dX4_find_85 : decode cX4_find 85 = .ok (.iload 4, 2) := by decide +kernel
theorem dX4_find_87 : decode cX4_find 87 = .ok (.ireturn, 1) := by decide +kernel
set_option maxRecDepth 20000 in
theorem ggX4_turnUp_X4_requireIndex : GoodIn wsX4_turnUp wsX4_requireIndex := goodIn_ca (goodIn_r _ [6, 7, 8] (by decide +kernel) (by decide +kernel)) (goodIn_sub (fun _ h => List.mem_cons_of_mem _ (List.mem_append_left _ (List.mem_append_left _ (List.mem_append_right _ h)))) (by decide +kernel))
set_option maxRecDepth 20000 in
theorem gX4_turnUp_X4_requireIndex : GoodIn wsX4_turnUp (va_wsS RX4 45 yX4_requireIndex wsX4_requireIndex) := goodIn_app (goodIn_of _ (by decide +kernel)) ggX4_turnUp_X4_requireIndex
set_option maxRecDepth 20000 in
theorem ggX4_turnUp_X4_requireEnded : GoodIn wsX4_turnUp wsX4_requireEnded := goodIn_ca (goodIn_r _ [12, 13, 14, 15, 5, 16, 17, 18, 116, 117, 118, 119, 120, 121] (by decide +kernel) (by decide +kernel)) (goodIn_sub (fun _ h => List.mem_cons_of_mem _ (List.mem_append_left _ (List.mem_append_right _ h))) (by decide +kernel))
set_option maxRecDepth 20000 in
theorem gX4_turnUp_X4_requireEnded : GoodIn wsX4_turnUp (wsV RX4 84 RX4 yX4_requireEnded wsX4_requireEnded) := goodIn_app (goodIn_of _ (by decide +kernel)) ggX4_turnUp_X4_requireEnded
set_option maxRecDepth 20000 in
theorem ggX4_turnUp_X4_requireWithin : GoodIn wsX4_turnUp wsX4_requireWithin := goodIn_ca (goodIn_r _ [16, 17, 18] (by decide +kernel) (by decide +kernel)) (goodIn_sub (fun _ h => List.mem_cons_of_mem _ (List.mem_append_left _ (List.mem_append_right _ h))) (by decide +kernel))
set_option maxRecDepth 20000 in
theorem gX4_turnUp_X4_requireWithin : GoodIn wsX4_turnUp (va_wsS RX4 49 yX4_requireWithin wsX4_requireWithin) := goodIn_app (goodIn_of _ (by decide +kernel)) ggX4_turnUp_X4_requireWithin
set_option maxRecDepth 20000 in
theorem ggX4_turnUp_X1_isLost : GoodIn wsX4_turnUp wsX1_isLost := goodIn_r _ [23, 24, 25, 5, 26, 122, 123, 124, 125, 126, 127, 128, 129] (by decide +kernel) (by decide +kernel)
set_option maxRecDepth 20000 in
theorem gX4_turnUp_X1_isLost : GoodIn wsX4_turnUp (wsV RX4 88 RX1 yX1_isLost wsX1_isLost) := goodIn_app (goodIn_of _ (by decide +kernel)) ggX4_turnUp_X1_isLost
set_option maxRecDepth 20000 in
theorem ggX4_turnUp_X4_requireState : GoodIn wsX4_turnUp wsX4_requireState := goodIn_ca (goodIn_r _ [29, 30, 31] (by decide +kernel) (by decide +kernel)) (goodIn_sub (fun _ h => List.mem_cons_of_mem _ (List.mem_append_right _ h)) (by decide +kernel))
set_option maxRecDepth 20000 in
theorem gX4_turnUp_X4_requireState : GoodIn wsX4_turnUp (va_wsS RX4 59 yX4_requireState wsX4_requireState) := goodIn_app (goodIn_of _ (by decide +kernel)) ggX4_turnUp_X4_requireState
set_option maxRecDepth 20000 in
theorem ggX4_turnUp_X4_cell : GoodIn wsX4_turnUp wsX4_cell := goodIn_r _ [26] (by decide +kernel) (by decide +kernel)
set_option maxRecDepth 20000 in
theorem gX4_turnUp_X4_cell : GoodIn wsX4_turnUp (va_wsS RX4 95 yX4_cell wsX4_cell) := goodIn_app (goodIn_of _ (by decide +kernel)) ggX4_turnUp_X4_cell
set_option maxRecDepth 20000 in
theorem ggX4_turnUp_X4_recount : GoodIn wsX4_turnUp wsX4_recount := goodIn_r _ [36, 1, 19, 20, 21, 22, 23, 24, 25, 5, 26, 37, 38, 39, 40, 41, 42, 43, 44, 45, 46, 47, 48, 49, 50, 51, 52, 53, 32, 54, 55, 56, 57, 58, 59, 60, 61, 62, 63, 64, 65, 66, 67, 68, 69, 70, 71, 72, 73, 74, 75, 76, 77, 78, 79, 80, 81, 82, 83, 84, 85, 86, 87, 88, 89, 90, 91, 92, 93, 94, 95, 96, 97, 98, 99, 100, 101, 102, 103, 104, 105, 106, 107, 108, 109, 110, 111, 112, 113, 114, 115, 116, 117, 118, 119, 120, 121, 122, 123, 124, 125, 126, 127, 128, 129, 130, 131, 132, 133, 134, 135, 136, 137, 138, 139, 140, 141] (by decide +kernel) (by decide +kernel)
set_option maxRecDepth 20000 in
theorem gX4_turnUp_X4_recount : GoodIn wsX4_turnUp (wsV RX4 80 RX4 yX4_recount wsX4_recount) := goodIn_app (goodIn_of _ (by decide +kernel)) ggX4_turnUp_X4_recount
theorem dX4_turnUp_0 : decode cX4_turnUp 0 = .ok (.iload_n 1, 1) := by decide +kernel
theorem dX4_turnUp_1 : decode cX4_turnUp 1 = .ok (.bipush 12, 2) := by decide +kernel
theorem dX4_turnUp_3 : decode cX4_turnUp 3 = .ok (.invokestatic 45, 3) := by decide +kernel
theorem dX4_turnUp_6 : decode cX4_turnUp 6 = .ok (.aload_n 0, 1) := by decide +kernel
theorem dX4_turnUp_7 : decode cX4_turnUp 7 = .ok (.iload_n 2, 1) := by decide +kernel
theorem dX4_turnUp_8 : decode cX4_turnUp 8 = .ok (.invokevirtual 84, 3) := by decide +kernel
theorem dX4_turnUp_11 : decode cX4_turnUp 11 = .ok (.iload_n 3, 1) := by decide +kernel
theorem dX4_turnUp_12 : decode cX4_turnUp 12 = .ok (.iconst 0, 1) := by decide +kernel
theorem dX4_turnUp_13 : decode cX4_turnUp 13 = .ok (.sipush 30000, 3) := by decide +kernel
theorem dX4_turnUp_16 : decode cX4_turnUp 16 = .ok (.invokestatic 49, 3) := by decide +kernel
theorem dX4_turnUp_19 : decode cX4_turnUp 19 = .ok (.aload_n 0, 1) := by decide +kernel
theorem dX4_turnUp_20 : decode cX4_turnUp 20 = .ok (.getfield 19, 3) := by decide +kernel
theorem dX4_turnUp_23 : decode cX4_turnUp 23 = .ok (.iload_n 1, 1) := by decide +kernel
theorem dX4_turnUp_24 : decode cX4_turnUp 24 = .ok (.iload_n 2, 1) := by decide +kernel
theorem dX4_turnUp_25 : decode cX4_turnUp 25 = .ok (.invokevirtual 88, 3) := by decide +kernel
theorem dX4_turnUp_28 : decode cX4_turnUp 28 = .ok (.invokestatic 59, 3) := by decide +kernel
theorem dX4_turnUp_31 : decode cX4_turnUp 31 = .ok (.aload_n 0, 1) := by decide +kernel
theorem dX4_turnUp_32 : decode cX4_turnUp 32 = .ok (.getfield 19, 3) := by decide +kernel
theorem dX4_turnUp_35 : decode cX4_turnUp 35 = .ok (.getfield 92, 3) := by decide +kernel
theorem dX4_turnUp_38 : decode cX4_turnUp 38 = .ok (.iload_n 1, 1) := by decide +kernel
theorem dX4_turnUp_39 : decode cX4_turnUp 39 = .ok (.iload_n 2, 1) := by decide +kernel
theorem dX4_turnUp_40 : decode cX4_turnUp 40 = .ok (.invokestatic 95, 3) := by decide +kernel
theorem dX4_turnUp_43 : decode cX4_turnUp 43 = .ok (.iload_n 3, 1) := by decide +kernel
theorem dX4_turnUp_44 : decode cX4_turnUp 44 = .ok (.iastore, 1) := by decide +kernel
theorem dX4_turnUp_45 : decode cX4_turnUp 45 = .ok (.aload_n 0, 1) := by decide +kernel
theorem dX4_turnUp_46 : decode cX4_turnUp 46 = .ok (.iload_n 1, 1) := by decide +kernel
theorem dX4_turnUp_47 : decode cX4_turnUp 47 = .ok (.iload_n 2, 1) := by decide +kernel
theorem dX4_turnUp_48 : decode cX4_turnUp 48 = .ok (.invokevirtual 80, 3) := by decide +kernel
theorem dX4_turnUp_51 : decode cX4_turnUp 51 = .ok (.ireturn, 1) := by decide +kernel
set_option maxRecDepth 20000 in
theorem ggX4_lease_X4_requireIndex : GoodIn wsX4_lease wsX4_requireIndex := goodIn_ca (goodIn_r _ [9, 10, 11] (by decide +kernel) (by decide +kernel)) (goodIn_sub (fun _ h => List.mem_cons_of_mem _ (List.mem_append_left _ (List.mem_append_left _ (List.mem_append_right _ h)))) (by decide +kernel))
set_option maxRecDepth 20000 in
theorem gX4_lease_X4_requireIndex : GoodIn wsX4_lease (va_wsS RX4 45 yX4_requireIndex wsX4_requireIndex) := goodIn_app (goodIn_of _ (by decide +kernel)) ggX4_lease_X4_requireIndex
set_option maxRecDepth 20000 in
theorem ggX4_lease_X4_requireWithin : GoodIn wsX4_lease wsX4_requireWithin := goodIn_ca (goodIn_r _ [14, 15, 16] (by decide +kernel) (by decide +kernel)) (goodIn_sub (fun _ h => List.mem_cons_of_mem _ (List.mem_append_left _ (List.mem_append_right _ h))) (by decide +kernel))
set_option maxRecDepth 20000 in
theorem gX4_lease_X4_requireWithin : GoodIn wsX4_lease (va_wsS RX4 49 yX4_requireWithin wsX4_requireWithin) := goodIn_app (goodIn_of _ (by decide +kernel)) ggX4_lease_X4_requireWithin
set_option maxRecDepth 20000 in
theorem ggX4_lease_Jx4a65c_size_8abf5 : GoodIn wsX4_lease wsJx4a65c_size_8abf5 := goodIn_r _ [21, 22, 137, 138, 139] (by decide +kernel) (by decide +kernel)
set_option maxRecDepth 20000 in
theorem gX4_lease_Jx4a65c_size_8abf5 : GoodIn wsX4_lease (wsV RX4 98 RJx4a65c yJx4a65c_size_8abf5 wsJx4a65c_size_8abf5) := goodIn_app (goodIn_of _ (by decide +kernel)) ggX4_lease_Jx4a65c_size_8abf5
set_option maxRecDepth 20000 in
theorem ggX4_lease_X4_requireState : GoodIn wsX4_lease wsX4_requireState := goodIn_ca (goodIn_r _ [25, 26, 27] (by decide +kernel) (by decide +kernel)) (goodIn_sub (fun _ h => List.mem_cons_of_mem _ (List.mem_append_right _ h)) (by decide +kernel))
set_option maxRecDepth 20000 in
theorem gX4_lease_X4_requireState : GoodIn wsX4_lease (va_wsS RX4 59 yX4_requireState wsX4_requireState) := goodIn_app (goodIn_of _ (by decide +kernel)) ggX4_lease_X4_requireState
set_option maxRecDepth 20000 in
theorem ggX4_lease_X2_init : GoodIn wsX4_lease wsX2_init := goodIn_r _ [30, 31, 32, 33, 34, 35, 36, 37, 38, 39, 40, 41, 42, 128, 129, 130, 131, 132, 133, 134, 135, 136] (by decide +kernel) (by decide +kernel)
set_option maxRecDepth 20000 in
theorem gX4_lease_X2_init : GoodIn wsX4_lease (wsX2_init) := ggX4_lease_X2_init
set_option maxRecDepth 20000 in
theorem ggX4_lease_X4_isDoorHeld : GoodIn wsX4_lease wsX4_isDoorHeld := goodIn_r _ [46, 1, 47, 17, 18, 19, 20, 21, 22, 48, 49, 50, 51, 52, 53, 54, 55, 56, 57, 58, 59, 60, 61, 62, 63, 64, 65, 66, 67, 4, 68, 36, 41, 42, 122, 123, 124, 125, 126, 127, 137, 138, 139, 128, 129, 130, 131, 132, 133, 134, 135, 136] (by decide +kernel) (by decide +kernel)
set_option maxRecDepth 20000 in
theorem gX4_lease_X4_isDoorHeld : GoodIn wsX4_lease (wsV RX4 106 RX4 yX4_isDoorHeld wsX4_isDoorHeld) := goodIn_app (goodIn_of _ (by decide +kernel)) ggX4_lease_X4_isDoorHeld
set_option maxRecDepth 20000 in
theorem ggX4_lease_Jx4a65c_add_9ea2d : GoodIn wsX4_lease wsJx4a65c_add_9ea2d := goodIn_r _ [72, 73, 74, 64, 22, 75, 76, 77, 20, 78, 79, 80, 81, 82, 83, 84, 85, 86, 87, 88, 89, 90, 91, 92, 93, 94, 95, 96, 97, 98, 99, 100, 101, 102, 103, 104, 105, 106, 107, 108, 109, 110, 111, 112, 113, 114, 115, 116, 117, 118, 119, 120, 121, 137, 138, 139] (by decide +kernel) (by decide +kernel)
set_option maxRecDepth 20000 in
theorem gX4_lease_Jx4a65c_add_9ea2d : GoodIn wsX4_lease (wsV RX4 110 RJx4a65c yJx4a65c_add_9ea2d wsJx4a65c_add_9ea2d) := goodIn_app (goodIn_of _ (by decide +kernel)) ggX4_lease_Jx4a65c_add_9ea2d
theorem dX4_lease_0 : decode cX4_lease 0 = .ok (.iload_n 1, 1) := by decide +kernel
theorem dX4_lease_1 : decode cX4_lease 1 = .ok (.bipush 36, 2) := by decide +kernel
theorem dX4_lease_3 : decode cX4_lease 3 = .ok (.invokestatic 45, 3) := by decide +kernel
theorem dX4_lease_6 : decode cX4_lease 6 = .ok (.iload_n 2, 1) := by decide +kernel
theorem dX4_lease_7 : decode cX4_lease 7 = .ok (.bipush 6, 2) := by decide +kernel
theorem dX4_lease_9 : decode cX4_lease 9 = .ok (.invokestatic 45, 3) := by decide +kernel
theorem dX4_lease_12 : decode cX4_lease 12 = .ok (.iload_n 3, 1) := by decide +kernel
theorem dX4_lease_13 : decode cX4_lease 13 = .ok (.iconst 0, 1) := by decide +kernel
theorem dX4_lease_14 : decode cX4_lease 14 = .ok (.bipush 50, 2) := by decide +kernel
theorem dX4_lease_16 : decode cX4_lease 16 = .ok (.invokestatic 49, 3) := by decide +kernel
theorem dX4_lease_19 : decode cX4_lease 19 = .ok (.iload 4, 2) := by decide +kernel
theorem dX4_lease_21 : decode cX4_lease 21 = .ok (.iconst 0, 1) := by decide +kernel
theorem dX4_lease_22 : decode cX4_lease 22 = .ok (.bipush 50, 2) := by decide +kernel
theorem dX4_lease_24 : decode cX4_lease 24 = .ok (.invokestatic 49, 3) := by decide +kernel
theorem dX4_lease_27 : decode cX4_lease 27 = .ok (.iload 5, 2) := by decide +kernel
theorem dX4_lease_29 : decode cX4_lease 29 = .ok (.iconst 1, 1) := by decide +kernel
theorem dX4_lease_30 : decode cX4_lease 30 = .ok (.bipush 100, 2) := by decide +kernel
theorem dX4_lease_32 : decode cX4_lease 32 = .ok (.invokestatic 49, 3) := by decide +kernel
theorem dX4_lease_35 : decode cX4_lease 35 = .ok (.aload_n 0, 1) := by decide +kernel
theorem dX4_lease_36 : decode cX4_lease 36 = .ok (.getfield 33, 3) := by decide +kernel
theorem dX4_lease_39 : decode cX4_lease 39 = .ok (.invokevirtual 98, 3) := by decide +kernel
theorem dX4_lease_42 : decode cX4_lease 42 = .ok (.bipush 30, 2) := by decide +kernel
theorem dX4_lease_44 : decode cX4_lease 44 = .ok (.if_icmp .ge 7, 3) := by decide +kernel
theorem dX4_lease_47 : decode cX4_lease 47 = .ok (.iconst 1, 1) := by decide +kernel
theorem dX4_lease_48 : decode cX4_lease 48 = .ok (.goto 4, 3) := by decide +kernel
theorem dX4_lease_51 : decode cX4_lease 51 = .ok (.iconst 0, 1) := by decide +kernel
theorem dX4_lease_52 : decode cX4_lease 52 = .ok (.invokestatic 59, 3) := by decide +kernel
theorem dX4_lease_55 : decode cX4_lease 55 = .ok (.new 101, 3) := by decide +kernel
theorem dX4_lease_58 : decode cX4_lease 58 = .ok (.dup, 1) := by decide +kernel
theorem dX4_lease_59 : decode cX4_lease 59 = .ok (.iload_n 1, 1) := by decide +kernel
theorem dX4_lease_60 : decode cX4_lease 60 = .ok (.iload_n 2, 1) := by decide +kernel
theorem dX4_lease_61 : decode cX4_lease 61 = .ok (.iload_n 3, 1) := by decide +kernel
theorem dX4_lease_62 : decode cX4_lease 62 = .ok (.iload 4, 2) := by decide +kernel
theorem dX4_lease_64 : decode cX4_lease 64 = .ok (.aload_n 0, 1) := by decide +kernel
theorem dX4_lease_65 : decode cX4_lease 65 = .ok (.getfield 41, 3) := by decide +kernel
theorem dX4_lease_68 : decode cX4_lease 68 = .ok (.aload_n 0, 1) := by decide +kernel
theorem dX4_lease_69 : decode cX4_lease 69 = .ok (.getfield 41, 3) := by decide +kernel
theorem dX4_lease_72 : decode cX4_lease 72 = .ok (.iload 5, 2) := by decide +kernel
theorem dX4_lease_74 : decode cX4_lease 74 = .ok (.iadd, 1) := by decide +kernel
theorem dX4_lease_75 : decode cX4_lease 75 = .ok (.invokespecial 103, 3) := by decide +kernel
theorem dX4_lease_78 : decode cX4_lease 78 = .ok (.astore 6, 2) := by decide +kernel
theorem dX4_lease_80 : decode cX4_lease 80 = .ok (.aload_n 0, 1) := by decide +kernel
theorem dX4_lease_81 : decode cX4_lease 81 = .ok (.aload 6, 2) := by decide +kernel
theorem dX4_lease_83 : decode cX4_lease 83 = .ok (.invokevirtual 106, 3) := by decide +kernel
theorem dX4_lease_86 : decode cX4_lease 86 = .ok (.ifCond .ne 7, 3) := by decide +kernel
theorem dX4_lease_89 : decode cX4_lease 89 = .ok (.iconst 1, 1) := by decide +kernel
theorem dX4_lease_90 : decode cX4_lease 90 = .ok (.goto 4, 3) := by decide +kernel
theorem dX4_lease_93 : decode cX4_lease 93 = .ok (.iconst 0, 1) := by decide +kernel
theorem dX4_lease_94 : decode cX4_lease 94 = .ok (.invokestatic 59, 3) := by decide +kernel
theorem dX4_lease_97 : decode cX4_lease 97 = .ok (.aload_n 0, 1) := by decide +kernel
theorem dX4_lease_98 : decode cX4_lease 98 = .ok (.getfield 33, 3) := by decide +kernel
theorem dX4_lease_101 : decode cX4_lease 101 = .ok (.aload 6, 2) := by decide +kernel
theorem dX4_lease_103 : decode cX4_lease 103 = .ok (.invokevirtual 110, 3) := by decide +kernel
theorem dX4_lease_106 : decode cX4_lease 106 = .ok (.pop, 1) := by decide +kernel
theorem dX4_lease_107 : decode cX4_lease 107 = .ok (.aload_n 0, 1) := by decide +kernel
theorem dX4_lease_108 : decode cX4_lease 108 = .ok (.getfield 33, 3) := by decide +kernel
theorem dX4_lease_111 : decode cX4_lease 111 = .ok (.invokevirtual 98, 3) := by decide +kernel
theorem dX4_lease_114 : decode cX4_lease 114 = .ok (.iconst 1, 1) := by decide +kernel
theorem dX4_lease_115 : decode cX4_lease 115 = .ok (.isub, 1) := by decide +kernel
theorem dX4_lease_116 : decode cX4_lease 116 = .ok (.ireturn, 1) := by decide +kernel
set_option maxRecDepth 20000 in
theorem ggX4_quit_Jx4a65c_size_8abf5 : GoodIn wsX4_quit wsJx4a65c_size_8abf5 := goodIn_r _ [10, 11, 55, 56, 57] (by decide +kernel) (by decide +kernel)
set_option maxRecDepth 20000 in
theorem gX4_quit_Jx4a65c_size_8abf5 : GoodIn wsX4_quit (wsV RX4 98 RJx4a65c yJx4a65c_size_8abf5 wsJx4a65c_size_8abf5) := goodIn_app (goodIn_of _ (by decide +kernel)) ggX4_quit_Jx4a65c_size_8abf5
set_option maxRecDepth 20000 in
theorem ggX4_quit_X4_requireIndex : GoodIn wsX4_quit wsX4_requireIndex := goodIn_ca (goodIn_r _ [15, 16, 17] (by decide +kernel) (by decide +kernel)) (goodIn_sub (fun _ h => List.mem_cons_of_mem _ (List.mem_append_left _ (List.mem_append_right _ h))) (by decide +kernel))
set_option maxRecDepth 20000 in
theorem gX4_quit_X4_requireIndex : GoodIn wsX4_quit (va_wsS RX4 45 yX4_requireIndex wsX4_requireIndex) := goodIn_app (goodIn_of _ (by decide +kernel)) ggX4_quit_X4_requireIndex
set_option maxRecDepth 20000 in
theorem ggX4_quit_Jx4a65c_get_915e3 : GoodIn wsX4_quit wsJx4a65c_get_915e3 := goodIn_r _ [21, 11, 22, 23, 24, 25, 26, 27, 28, 29, 30, 31, 32, 9, 33, 34, 55, 56, 57] (by decide +kernel) (by decide +kernel)
set_option maxRecDepth 20000 in
theorem gX4_quit_Jx4a65c_get_915e3 : GoodIn wsX4_quit (wsV RX4 114 RJx4a65c yJx4a65c_get_915e3 wsJx4a65c_get_915e3) := goodIn_app (goodIn_of _ (by decide +kernel)) ggX4_quit_Jx4a65c_get_915e3
set_option maxRecDepth 20000 in
theorem ggX4_quit_X4_requireState : GoodIn wsX4_quit wsX4_requireState := goodIn_ca (goodIn_r _ [37, 38, 39] (by decide +kernel) (by decide +kernel)) (goodIn_sub (fun _ h => List.mem_cons_of_mem _ (List.mem_append_right _ h)) (by decide +kernel))
set_option maxRecDepth 20000 in
theorem gX4_quit_X4_requireState : GoodIn wsX4_quit (va_wsS RX4 59 yX4_requireState wsX4_requireState) := goodIn_app (goodIn_of _ (by decide +kernel)) ggX4_quit_X4_requireState
theorem dX4_quit_0 : decode cX4_quit 0 = .ok (.iload_n 1, 1) := by decide +kernel
theorem dX4_quit_1 : decode cX4_quit 1 = .ok (.aload_n 0, 1) := by decide +kernel
theorem dX4_quit_2 : decode cX4_quit 2 = .ok (.getfield 33, 3) := by decide +kernel
theorem dX4_quit_5 : decode cX4_quit 5 = .ok (.invokevirtual 98, 3) := by decide +kernel
theorem dX4_quit_8 : decode cX4_quit 8 = .ok (.invokestatic 45, 3) := by decide +kernel
theorem dX4_quit_11 : decode cX4_quit 11 = .ok (.aload_n 0, 1) := by decide +kernel
theorem dX4_quit_12 : decode cX4_quit 12 = .ok (.getfield 33, 3) := by decide +kernel
theorem dX4_quit_15 : decode cX4_quit 15 = .ok (.iload_n 1, 1) := by decide +kernel
theorem dX4_quit_16 : decode cX4_quit 16 = .ok (.invokevirtual 114, 3) := by decide +kernel
