theorem dL_cell_14 : decode cL_cell 14 = .ok (.iload_n 1, 1) := by decide +kernel
theorem dL_cell_15 : decode cL_cell 15 = .ok (.bipush 21, 2) := by decide +kernel
theorem dL_cell_17 : decode cL_cell 17 = .ok (.iadd, 1) := by decide +kernel
theorem dL_cell_18 : decode cL_cell 18 = .ok (.imul, 1) := by decide +kernel
theorem dL_cell_19 : decode cL_cell 19 = .ok (.ldc 8, 2) := by decide +kernel
theorem dL_cell_21 : decode cL_cell 21 = .ok (.iadd, 1) := by decide +kernel
theorem dL_cell_22 : decode cL_cell 22 = .ok (.ireturn, 1) := by decide +kernel
theorem dL_low_0 : decode cL_low 0 = .ok (.iload_n 0, 1) := by decide +kernel
theorem dL_low_1 : decode cL_low 1 = .ok (.ldc 9, 2) := by decide +kernel
theorem dL_low_3 : decode cL_low 3 = .ok (.iand, 1) := by decide +kernel
theorem dL_low_4 : decode cL_low 4 = .ok (.iload_n 1, 1) := by decide +kernel
theorem dL_low_5 : decode cL_low 5 = .ok (.irem, 1) := by decide +kernel
theorem dL_low_6 : decode cL_low 6 = .ok (.ireturn, 1) := by decide +kernel
set_option maxRecDepth 20000 in
theorem ggL_calls_X4_turnUp : GoodIn wsL_calls wsX4_turnUp := goodIn_ca (goodIn_ca (goodIn_ca (goodIn_r _ [7, 8, 9, 10, 11, 6, 12, 13, 14, 15, 16, 17, 18, 19, 20, 21, 22, 23, 24, 25, 26, 27, 28, 29, 30, 31, 32, 33, 34, 35, 36, 37, 38, 39, 40, 41, 42, 43, 44, 45, 46, 47, 48, 49, 50, 51, 52, 53, 54, 55, 56, 57, 58, 59, 60, 61, 62, 63, 64, 65, 66, 67, 68, 69, 70, 71, 72, 73, 74, 75, 76, 77, 78, 79, 80, 81, 82, 83, 84, 85, 86, 87, 88, 89, 90, 91, 92, 93, 94, 95, 96, 97, 98, 99, 100, 101, 102, 103, 104, 105, 106, 107, 108, 109, 110, 111, 112, 113, 114, 115, 116, 117, 118, 119, 120, 121, 299, 300, 301, 302, 303, 304, 305, 306, 307, 308, 309, 310, 311, 312, 313, 314, 315, 316, 317, 318, 319, 320, 321, 322, 323, 324] (by decide +kernel) (by decide +kernel)) (goodIn_sub (fun _ h => List.mem_cons_of_mem _ (List.mem_append_left _ (List.mem_append_left _ (List.mem_append_right _ h)))) (by decide +kernel))) (goodIn_sub (fun _ h => List.mem_cons_of_mem _ (List.mem_append_left _ (List.mem_append_right _ h))) (by decide +kernel))) (goodIn_sub (fun _ h => List.mem_cons_of_mem _ (List.mem_append_right _ h)) (by decide +kernel))
set_option maxRecDepth 20000 in
theorem gL_calls_X4_turnUp : GoodIn wsL_calls (wsV RL 10 RX4 yX4_turnUp wsX4_turnUp) := goodIn_app (goodIn_of _ (by decide +kernel)) ggL_calls_X4_turnUp
set_option maxRecDepth 20000 in
theorem ggL_calls_X4_lease : GoodIn wsL_calls wsX4_lease := goodIn_ca (goodIn_ca (goodIn_ca (goodIn_r _ [125, 64, 126, 127, 95, 19, 10, 11, 6, 12, 13, 14, 20, 21, 22, 23, 24, 69, 70, 71, 72, 73, 74, 33, 34, 35, 36, 37, 128, 129, 130, 131, 132, 133, 134, 135, 136, 137, 138, 103, 104, 97, 98, 139, 140, 141, 142, 65, 75, 76, 77, 78, 79, 80, 81, 82, 83, 84, 85, 86, 87, 88, 89, 90, 91, 143, 144, 145, 146, 147, 148, 149, 150, 151, 152, 153, 154, 155, 156, 157, 158, 159, 160, 161, 162, 163, 164, 165, 166, 167, 168, 169, 170, 171, 172, 173, 174, 175, 176, 177, 178, 179, 180, 181, 182, 183, 184, 185, 186, 187, 188, 189, 190, 191, 192, 193, 194, 195, 196, 197, 198, 199, 299, 300, 301, 302, 303, 304, 313, 314, 315, 316, 317, 318, 319, 320, 321, 322, 323, 324] (by decide +kernel) (by decide +kernel)) (goodIn_sub (fun _ h => List.mem_cons_of_mem _ (List.mem_append_left _ (List.mem_append_left _ (List.mem_append_right _ h)))) (by decide +kernel))) (goodIn_sub (fun _ h => List.mem_cons_of_mem _ (List.mem_append_left _ (List.mem_append_right _ h))) (by decide +kernel))) (goodIn_sub (fun _ h => List.mem_cons_of_mem _ (List.mem_append_right _ h)) (by decide +kernel))
set_option maxRecDepth 20000 in
theorem gL_calls_X4_lease : GoodIn wsL_calls (wsV RL 16 RX4 yX4_lease wsX4_lease) := goodIn_app (goodIn_of _ (by decide +kernel)) ggL_calls_X4_lease
set_option maxRecDepth 20000 in
theorem ggL_calls_X4_quit : GoodIn wsL_calls wsX4_quit := goodIn_ca (goodIn_ca (goodIn_r _ [203, 64, 65, 204, 19, 205, 69, 70, 71, 72, 73, 74, 10, 11, 6, 12, 13, 14, 75, 76, 77, 78, 79, 80, 81, 82, 83, 84, 85, 86, 87, 88, 89, 90, 91, 33, 34, 35, 36, 37, 299, 300, 301, 302, 303, 304, 313, 314, 315, 316, 317, 318, 319, 320, 321, 322, 323, 324] (by decide +kernel) (by decide +kernel)) (goodIn_sub (fun _ h => List.mem_cons_of_mem _ (List.mem_append_left _ (List.mem_append_left _ (List.mem_append_right _ h)))) (by decide +kernel))) (goodIn_sub (fun _ h => List.mem_cons_of_mem _ (List.mem_append_right _ h)) (by decide +kernel))
set_option maxRecDepth 20000 in
theorem gL_calls_X4_quit : GoodIn wsL_calls (wsV RL 20 RX4 yX4_quit wsX4_quit) := goodIn_app (goodIn_of _ (by decide +kernel)) ggL_calls_X4_quit
set_option maxRecDepth 20000 in
theorem ggL_calls_X4_ask : GoodIn wsL_calls wsX4_ask := goodIn_ca (goodIn_ca (goodIn_r _ [209, 210, 211, 10, 11, 6, 12, 13, 14, 212, 213, 214, 215, 33, 34, 35, 36, 37, 216, 217, 218, 219, 220, 221, 299, 300, 301, 302, 303, 304, 325, 326, 327, 328, 329, 330, 331, 332, 333] (by decide +kernel) (by decide +kernel)) (goodIn_sub (fun _ h => List.mem_cons_of_mem _ (List.mem_append_left _ (List.mem_append_left _ (List.mem_append_right _ h)))) (by decide +kernel))) (goodIn_sub (fun _ h => List.mem_cons_of_mem _ (List.mem_append_right _ h)) (by decide +kernel))
set_option maxRecDepth 20000 in
theorem gL_calls_X4_ask : GoodIn wsL_calls (wsV RL 24 RX4 yX4_ask wsX4_ask) := goodIn_app (goodIn_of _ (by decide +kernel)) ggL_calls_X4_ask
set_option maxRecDepth 20000 in
theorem ggL_calls_X4_lot : GoodIn wsL_calls wsX4_lot := goodIn_ca (goodIn_ca (goodIn_r _ [225, 210, 226, 227, 20, 21, 6, 22, 23, 24, 33, 34, 35, 36, 37, 299, 300, 301, 302, 303, 304, 325, 326, 327, 328, 329, 330, 331, 332, 333] (by decide +kernel) (by decide +kernel)) (goodIn_sub (fun _ h => List.mem_cons_of_mem _ (List.mem_append_left _ (List.mem_append_right _ h))) (by decide +kernel))) (goodIn_sub (fun _ h => List.mem_cons_of_mem _ (List.mem_append_right _ h)) (by decide +kernel))
set_option maxRecDepth 20000 in
theorem gL_calls_X4_lot : GoodIn wsL_calls (wsV RL 28 RX4 yX4_lot wsX4_lot) := goodIn_app (goodIn_of _ (by decide +kernel)) ggL_calls_X4_lot
set_option maxRecDepth 20000 in
theorem ggL_calls_X4_pass : GoodIn wsL_calls wsX4_pass := goodIn_ca (goodIn_ca (goodIn_r _ [231, 19, 20, 21, 6, 22, 23, 24, 33, 34, 35, 36, 37, 232, 233, 234, 235, 210, 236, 8, 237, 238, 239, 214, 240, 241, 242, 243, 244, 245, 246, 247, 248, 249, 250, 251, 252, 253, 194, 168, 195, 254, 255, 256, 257, 220, 221, 213, 215, 258, 259, 260, 261, 262, 263, 264, 197, 198, 199, 31, 32, 265, 266, 267, 268, 269, 270, 271, 272, 273, 274, 275, 276, 277, 278, 279, 280, 281, 282, 283, 284, 285, 286, 287, 288, 28, 289, 290, 30, 291, 292, 109, 114, 26, 27, 29, 293, 44, 45, 46, 47, 48, 49, 50, 51, 52, 53, 54, 294, 106, 107, 108, 110, 111, 112, 113, 115, 116, 117, 118, 119, 120, 121, 295, 296, 297, 298, 64, 65, 67, 59, 66, 69, 70, 71, 72, 73, 74, 75, 76, 77, 78, 79, 80, 81, 82, 83, 84, 85, 86, 87, 88, 89, 90, 91, 92, 93, 94, 95, 96, 97, 98, 38, 99, 100, 101, 102, 103, 104, 299, 300, 301, 302, 303, 304, 325, 326, 327, 328, 329, 330, 331, 332, 333, 334, 335, 336, 337, 338, 305, 306, 307, 308, 309, 310, 311, 312, 313, 314, 315, 316, 317, 318, 319, 320, 321, 322, 323, 324] (by decide +kernel) (by decide +kernel)) (goodIn_sub (fun _ h => List.mem_cons_of_mem _ (List.mem_append_left _ (List.mem_append_right _ h))) (by decide +kernel))) (goodIn_sub (fun _ h => List.mem_cons_of_mem _ (List.mem_append_right _ h)) (by decide +kernel))
set_option maxRecDepth 20000 in
theorem gL_calls_X4_pass : GoodIn wsL_calls (wsV RL 31 RX4 yX4_pass wsX4_pass) := goodIn_app (goodIn_of _ (by decide +kernel)) ggL_calls_X4_pass
theorem dL_calls_0 : decode cL_calls 0 = .ok (.iload_n 1, 1) := by decide +kernel
theorem dL_calls_1 : decode cL_calls 1 = .ok (.ifCond .ne 14, 3) := by decide +kernel
theorem dL_calls_4 : decode cL_calls 4 = .ok (.aload_n 0, 1) := by decide +kernel
theorem dL_calls_5 : decode cL_calls 5 = .ok (.iload_n 2, 1) := by decide +kernel
theorem dL_calls_6 : decode cL_calls 6 = .ok (.iload_n 3, 1) := by decide +kernel
theorem dL_calls_7 : decode cL_calls 7 = .ok (.iload 4, 2) := by decide +kernel
theorem dL_calls_9 : decode cL_calls 9 = .ok (.invokevirtual 10, 3) := by decide +kernel
theorem dL_calls_12 : decode cL_calls 12 = .ok (.goto 68, 3) := by decide +kernel
theorem dL_calls_15 : decode cL_calls 15 = .ok (.iload_n 1, 1) := by decide +kernel
theorem dL_calls_16 : decode cL_calls 16 = .ok (.iconst 1, 1) := by decide +kernel
theorem dL_calls_17 : decode cL_calls 17 = .ok (.if_icmp .ne 18, 3) := by decide +kernel
theorem dL_calls_20 : decode cL_calls 20 = .ok (.aload_n 0, 1) := by decide +kernel
theorem dL_calls_21 : decode cL_calls 21 = .ok (.iload_n 2, 1) := by decide +kernel
theorem dL_calls_22 : decode cL_calls 22 = .ok (.iload_n 3, 1) := by decide +kernel
theorem dL_calls_23 : decode cL_calls 23 = .ok (.iload 4, 2) := by decide +kernel
theorem dL_calls_25 : decode cL_calls 25 = .ok (.iload 5, 2) := by decide +kernel
theorem dL_calls_27 : decode cL_calls 27 = .ok (.iload 6, 2) := by decide +kernel
theorem dL_calls_29 : decode cL_calls 29 = .ok (.invokevirtual 16, 3) := by decide +kernel
theorem dL_calls_32 : decode cL_calls 32 = .ok (.goto 48, 3) := by decide +kernel
theorem dL_calls_35 : decode cL_calls 35 = .ok (.iload_n 1, 1) := by decide +kernel
theorem dL_calls_36 : decode cL_calls 36 = .ok (.iconst 2, 1) := by decide +kernel
theorem dL_calls_37 : decode cL_calls 37 = .ok (.if_icmp .ne 11, 3) := by decide +kernel
theorem dL_calls_40 : decode cL_calls 40 = .ok (.aload_n 0, 1) := by decide +kernel
theorem dL_calls_41 : decode cL_calls 41 = .ok (.iload_n 2, 1) := by decide +kernel
theorem dL_calls_42 : decode cL_calls 42 = .ok (.invokevirtual 20, 3) := by decide +kernel
theorem dL_calls_45 : decode cL_calls 45 = .ok (.goto 35, 3) := by decide +kernel
theorem dL_calls_48 : decode cL_calls 48 = .ok (.iload_n 1, 1) := by decide +kernel
theorem dL_calls_49 : decode cL_calls 49 = .ok (.iconst 3, 1) := by decide +kernel
theorem dL_calls_50 : decode cL_calls 50 = .ok (.if_icmp .ne 12, 3) := by decide +kernel
theorem dL_calls_53 : decode cL_calls 53 = .ok (.aload_n 0, 1) := by decide +kernel
theorem dL_calls_54 : decode cL_calls 54 = .ok (.iload_n 2, 1) := by decide +kernel
theorem dL_calls_55 : decode cL_calls 55 = .ok (.iload_n 3, 1) := by decide +kernel
theorem dL_calls_56 : decode cL_calls 56 = .ok (.invokevirtual 24, 3) := by decide +kernel
theorem dL_calls_59 : decode cL_calls 59 = .ok (.goto 21, 3) := by decide +kernel
theorem dL_calls_62 : decode cL_calls 62 = .ok (.iload_n 1, 1) := by decide +kernel
theorem dL_calls_63 : decode cL_calls 63 = .ok (.iconst 4, 1) := by decide +kernel
theorem dL_calls_64 : decode cL_calls 64 = .ok (.if_icmp .ne 11, 3) := by decide +kernel
theorem dL_calls_67 : decode cL_calls 67 = .ok (.aload_n 0, 1) := by decide +kernel
theorem dL_calls_68 : decode cL_calls 68 = .ok (.iload_n 2, 1) := by decide +kernel
theorem dL_calls_69 : decode cL_calls 69 = .ok (.invokevirtual 28, 3) := by decide +kernel
theorem dL_calls_72 : decode cL_calls 72 = .ok (.goto 8, 3) := by decide +kernel
theorem dL_calls_75 : decode cL_calls 75 = .ok (.aload_n 0, 1) := by decide +kernel
theorem dL_calls_76 : decode cL_calls 76 = .ok (.iload_n 2, 1) := by decide +kernel
theorem dL_calls_77 : decode cL_calls 77 = .ok (.invokevirtual 31, 3) := by decide +kernel
theorem dL_calls_80 : decode cL_calls 80 = .ok (.ireturn, 1) := by decide +kernel
theorem dL_calls_81 : decode cL_calls 81 = .ok (.astore 7, 2) := by decide +kernel
theorem dL_calls_83 : decode cL_calls 83 = .ok (.ldc 36, 2) := by decide +kernel
theorem dL_calls_85 : decode cL_calls 85 = .ok (.ireturn, 1) := by decide +kernel
theorem dL_get_0 : decode cL_get 0 = .ok (.aload_n 0, 1) := by decide +kernel
theorem dL_get_1 : decode cL_get 1 = .ok (.iconst 3, 1) := by decide +kernel
theorem dL_get_2 : decode cL_get 2 = .ok (.iload_n 2, 1) := by decide +kernel
theorem dL_get_3 : decode cL_get 3 = .ok (.imul, 1) := by decide +kernel
theorem dL_get_4 : decode cL_get 4 = .ok (.iload_n 1, 1) := by decide +kernel
theorem dL_get_5 : decode cL_get 5 = .ok (.iconst 4, 1) := by decide +kernel
theorem dL_get_6 : decode cL_get 6 = .ok (.idiv, 1) := by decide +kernel
theorem dL_get_7 : decode cL_get 7 = .ok (.iadd, 1) := by decide +kernel
theorem dL_get_8 : decode cL_get 8 = .ok (.laload, 1) := by decide +kernel
theorem dL_get_9 : decode cL_get 9 = .ok (.bipush 16, 2) := by decide +kernel
theorem dL_get_11 : decode cL_get 11 = .ok (.iload_n 1, 1) := by decide +kernel
theorem dL_get_12 : decode cL_get 12 = .ok (.iconst 4, 1) := by decide +kernel
theorem dL_get_13 : decode cL_get 13 = .ok (.irem, 1) := by decide +kernel
theorem dL_get_14 : decode cL_get 14 = .ok (.imul, 1) := by decide +kernel
theorem dL_get_15 : decode cL_get 15 = .ok (.lshr, 1) := by decide +kernel
theorem dL_get_16 : decode cL_get 16 = .ok (.ldc2_w 37, 3) := by decide +kernel
theorem dL_get_19 : decode cL_get 19 = .ok (.land, 1) := by decide +kernel
theorem dL_get_20 : decode cL_get 20 = .ok (.l2i, 1) := by decide +kernel
theorem dL_get_21 : decode cL_get 21 = .ok (.ireturn, 1) := by decide +kernel
theorem dL_put_0 : decode cL_put 0 = .ok (.aload_n 0, 1) := by decide +kernel
theorem dL_put_1 : decode cL_put 1 = .ok (.iconst 3, 1) := by decide +kernel
theorem dL_put_2 : decode cL_put 2 = .ok (.iload_n 2, 1) := by decide +kernel
theorem dL_put_3 : decode cL_put 3 = .ok (.imul, 1) := by decide +kernel
theorem dL_put_4 : decode cL_put 4 = .ok (.iload_n 1, 1) := by decide +kernel
theorem dL_put_5 : decode cL_put 5 = .ok (.iconst 4, 1) := by decide +kernel
theorem dL_put_6 : decode cL_put 6 = .ok (.idiv, 1) := by decide +kernel
theorem dL_put_7 : decode cL_put 7 = .ok (.iadd, 1) := by decide +kernel
theorem dL_put_8 : decode cL_put 8 = .ok (.dup2, 1) := by decide +kernel
theorem dL_put_9 : decode cL_put 9 = .ok (.laload, 1) := by decide +kernel
theorem dL_put_10 : decode cL_put 10 = .ok (.iload_n 3, 1) := by decide +kernel
theorem dL_put_11 : decode cL_put 11 = .ok (.i2l, 1) := by decide +kernel
theorem dL_put_12 : decode cL_put 12 = .ok (.bipush 16, 2) := by decide +kernel
theorem dL_put_14 : decode cL_put 14 = .ok (.iload_n 1, 1) := by decide +kernel
theorem dL_put_15 : decode cL_put 15 = .ok (.iconst 4, 1) := by decide +kernel
theorem dL_put_16 : decode cL_put 16 = .ok (.irem, 1) := by decide +kernel
theorem dL_put_17 : decode cL_put 17 = .ok (.imul, 1) := by decide +kernel
theorem dL_put_18 : decode cL_put 18 = .ok (.lshl, 1) := by decide +kernel
theorem dL_put_19 : decode cL_put 19 = .ok (.ladd, 1) := by decide +kernel
theorem dL_put_20 : decode cL_put 20 = .ok (.lastore, 1) := by decide +kernel
theorem dL_put_21 : decode cL_put 21 = .ok (.return_, 1) := by decide +kernel
theorem dL_spot_0 : decode cL_spot 0 = .ok (.aload_n 3, 1) := by decide +kernel
theorem dL_spot_1 : decode cL_spot 1 = .ok (.iconst 1, 1) := by decide +kernel
theorem dL_spot_2 : decode cL_spot 2 = .ok (.iaload, 1) := by decide +kernel
theorem dL_spot_3 : decode cL_spot 3 = .ok (.iconst 1, 1) := by decide +kernel
theorem dL_spot_4 : decode cL_spot 4 = .ok (.isub, 1) := by decide +kernel
theorem dL_spot_5 : decode cL_spot 5 = .ok (.istore 4, 2) := by decide +kernel
theorem dL_spot_7 : decode cL_spot 7 = .ok (.iload 4, 2) := by decide +kernel
theorem dL_spot_9 : decode cL_spot 9 = .ok (.ifCond .lt 40, 3) := by decide +kernel
theorem dL_spot_12 : decode cL_spot 12 = .ok (.aload_n 2, 1) := by decide +kernel
theorem dL_spot_13 : decode cL_spot 13 = .ok (.iconst 3, 1) := by decide +kernel
theorem dL_spot_14 : decode cL_spot 14 = .ok (.iload 4, 2) := by decide +kernel
theorem dL_spot_16 : decode cL_spot 16 = .ok (.imul, 1) := by decide +kernel
theorem dL_spot_17 : decode cL_spot 17 = .ok (.iaload, 1) := by decide +kernel
theorem dL_spot_18 : decode cL_spot 18 = .ok (.iload_n 0, 1) := by decide +kernel
theorem dL_spot_19 : decode cL_spot 19 = .ok (.if_icmp .ne 24, 3) := by decide +kernel
theorem dL_spot_22 : decode cL_spot 22 = .ok (.aload_n 2, 1) := by decide +kernel
theorem dL_spot_23 : decode cL_spot 23 = .ok (.iconst 3, 1) := by decide +kernel
theorem dL_spot_24 : decode cL_spot 24 = .ok (.iload 4, 2) := by decide +kernel
theorem dL_spot_26 : decode cL_spot 26 = .ok (.imul, 1) := by decide +kernel
theorem dL_spot_27 : decode cL_spot 27 = .ok (.iconst 1, 1) := by decide +kernel
theorem dL_spot_28 : decode cL_spot 28 = .ok (.iadd, 1) := by decide +kernel
theorem dL_spot_29 : decode cL_spot 29 = .ok (.iaload, 1) := by decide +kernel
theorem dL_spot_30 : decode cL_spot 30 = .ok (.iload_n 1, 1) := by decide +kernel
theorem dL_spot_31 : decode cL_spot 31 = .ok (.if_icmp .gt 12, 3) := by decide +kernel
theorem dL_spot_34 : decode cL_spot 34 = .ok (.aload_n 2, 1) := by decide +kernel
theorem dL_spot_35 : decode cL_spot 35 = .ok (.iconst 3, 1) := by decide +kernel
theorem dL_spot_36 : decode cL_spot 36 = .ok (.iload 4, 2) := by decide +kernel
theorem dL_spot_38 : decode cL_spot 38 = .ok (.imul, 1) := by decide +kernel
theorem dL_spot_39 : decode cL_spot 39 = .ok (.iconst 2, 1) := by decide +kernel
theorem dL_spot_40 : decode cL_spot 40 = .ok (.iadd, 1) := by decide +kernel
theorem dL_spot_41 : decode cL_spot 41 = .ok (.iaload, 1) := by decide +kernel
theorem dL_spot_42 : decode cL_spot 42 = .ok (.ireturn, 1) := by decide +kernel
theorem dL_spot_43 : decode cL_spot 43 = .ok (.iinc 4 (-1), 3) := by decide +kernel
theorem dL_spot_46 : decode cL_spot 46 = .ok (.goto (-39), 3) := by decide +kernel
theorem dL_spot_49 : decode cL_spot 49 = .ok (.iconst 0, 1) := by decide +kernel
theorem dL_spot_50 : decode cL_spot 50 = .ok (.ireturn, 1) := by decide +kernel
set_option maxRecDepth 20000 in
theorem ggL_read_L_get : GoodIn wsL_read wsL_get := goodIn_r _ [4, 5] (by decide +kernel) (by decide +kernel)
set_option maxRecDepth 20000 in
theorem gL_read_L_get : GoodIn wsL_read (va_wsS RL 39 yL_get wsL_get) := goodIn_app (goodIn_of _ (by decide +kernel)) ggL_read_L_get
set_option maxRecDepth 20000 in
theorem ggL_read_L_spot : GoodIn wsL_read wsL_spot := goodIn_r _ [8] (by decide +kernel) (by decide +kernel)
set_option maxRecDepth 20000 in
theorem gL_read_L_spot : GoodIn wsL_read (va_wsS RL 45 yL_spot wsL_spot) := goodIn_app (goodIn_of _ (by decide +kernel)) ggL_read_L_spot
theorem dL_read_0 : decode cL_read 0 = .ok (.iload_n 0, 1) := by decide +kernel
theorem dL_read_1 : decode cL_read 1 = .ok (.ifCond .lt 9, 3) := by decide +kernel
theorem dL_read_4 : decode cL_read 4 = .ok (.iload_n 0, 1) := by decide +kernel
theorem dL_read_5 : decode cL_read 5 = .ok (.bipush 11, 2) := by decide +kernel
theorem dL_read_7 : decode cL_read 7 = .ok (.if_icmp .le 7, 3) := by decide +kernel
theorem dL_read_10 : decode cL_read 10 = .ok (.iconst 0, 1) := by decide +kernel
theorem dL_read_11 : decode cL_read 11 = .ok (.goto 9, 3) := by decide +kernel
theorem dL_read_14 : decode cL_read 14 = .ok (.aload_n 2, 1) := by decide +kernel
theorem dL_read_15 : decode cL_read 15 = .ok (.iload_n 0, 1) := by decide +kernel
theorem dL_read_16 : decode cL_read 16 = .ok (.iload_n 1, 1) := by decide +kernel
theorem dL_read_17 : decode cL_read 17 = .ok (.invokestatic 39, 3) := by decide +kernel
theorem dL_read_20 : decode cL_read 20 = .ok (.istore 5, 2) := by decide +kernel
theorem dL_read_22 : decode cL_read 22 = .ok (.iload 5, 2) := by decide +kernel
theorem dL_read_24 : decode cL_read 24 = .ok (.ifCond .ne 7, 3) := by decide +kernel
theorem dL_read_27 : decode cL_read 27 = .ok (.iconst (-1), 1) := by decide +kernel
theorem dL_read_28 : decode cL_read 28 = .ok (.goto 22, 3) := by decide +kernel
theorem dL_read_31 : decode cL_read 31 = .ok (.iload 5, 2) := by decide +kernel
theorem dL_read_33 : decode cL_read 33 = .ok (.iconst 1, 1) := by decide +kernel
theorem dL_read_34 : decode cL_read 34 = .ok (.isub, 1) := by decide +kernel
theorem dL_read_35 : decode cL_read 35 = .ok (.bipush 100, 2) := by decide +kernel
theorem dL_read_37 : decode cL_read 37 = .ok (.imul, 1) := by decide +kernel
theorem dL_read_38 : decode cL_read 38 = .ok (.bipush 100, 2) := by decide +kernel
theorem dL_read_40 : decode cL_read 40 = .ok (.iload_n 0, 1) := by decide +kernel
theorem dL_read_41 : decode cL_read 41 = .ok (.iload_n 1, 1) := by decide +kernel
theorem dL_read_42 : decode cL_read 42 = .ok (.aload_n 3, 1) := by decide +kernel
theorem dL_read_43 : decode cL_read 43 = .ok (.aload 4, 2) := by decide +kernel
theorem dL_read_45 : decode cL_read 45 = .ok (.invokestatic 45, 3) := by decide +kernel
theorem dL_read_48 : decode cL_read 48 = .ok (.isub, 1) := by decide +kernel
theorem dL_read_49 : decode cL_read 49 = .ok (.idiv, 1) := by decide +kernel
theorem dL_read_50 : decode cL_read 50 = .ok (.ireturn, 1) := by decide +kernel
set_option maxRecDepth 20000 in
theorem ggL_count_L_read : GoodIn wsL_count wsL_read := goodIn_r _ [4, 5, 6, 3, 7, 8, 9, 10, 11] (by decide +kernel) (by decide +kernel)
set_option maxRecDepth 20000 in
theorem gL_count_L_read : GoodIn wsL_count (va_wsS RL 49 yL_read wsL_read) := goodIn_app (goodIn_of _ (by decide +kernel)) ggL_count_L_read
theorem dL_count_0 : decode cL_count 0 = .ok (.iconst (-1), 1) := by decide +kernel
theorem dL_count_1 : decode cL_count 1 = .ok (.istore 5, 2) := by decide +kernel
theorem dL_count_3 : decode cL_count 3 = .ok (.iconst (-1), 1) := by decide +kernel
theorem dL_count_4 : decode cL_count 4 = .ok (.istore 6, 2) := by decide +kernel
theorem dL_count_6 : decode cL_count 6 = .ok (.bipush 11, 2) := by decide +kernel
theorem dL_count_8 : decode cL_count 8 = .ok (.istore 7, 2) := by decide +kernel
theorem dL_count_10 : decode cL_count 10 = .ok (.iload 7, 2) := by decide +kernel
theorem dL_count_12 : decode cL_count 12 = .ok (.ifCond .le 65, 3) := by decide +kernel
theorem dL_count_15 : decode cL_count 15 = .ok (.iload_n 0, 1) := by decide +kernel
theorem dL_count_16 : decode cL_count 16 = .ok (.iload 7, 2) := by decide +kernel
theorem dL_count_18 : decode cL_count 18 = .ok (.isub, 1) := by decide +kernel
theorem dL_count_19 : decode cL_count 19 = .ok (.iload_n 1, 1) := by decide +kernel
theorem dL_count_20 : decode cL_count 20 = .ok (.aload_n 2, 1) := by decide +kernel
theorem dL_count_21 : decode cL_count 21 = .ok (.aload_n 3, 1) := by decide +kernel
theorem dL_count_22 : decode cL_count 22 = .ok (.aload 4, 2) := by decide +kernel
theorem dL_count_24 : decode cL_count 24 = .ok (.invokestatic 49, 3) := by decide +kernel
theorem dL_count_27 : decode cL_count 27 = .ok (.istore 8, 2) := by decide +kernel
theorem dL_count_29 : decode cL_count 29 = .ok (.iload_n 0, 1) := by decide +kernel
theorem dL_count_30 : decode cL_count 30 = .ok (.iload 7, 2) := by decide +kernel
theorem dL_count_32 : decode cL_count 32 = .ok (.iadd, 1) := by decide +kernel
theorem dL_count_33 : decode cL_count 33 = .ok (.iload_n 1, 1) := by decide +kernel
theorem dL_count_34 : decode cL_count 34 = .ok (.aload_n 2, 1) := by decide +kernel
theorem dL_count_35 : decode cL_count 35 = .ok (.aload_n 3, 1) := by decide +kernel
theorem dL_count_36 : decode cL_count 36 = .ok (.aload 4, 2) := by decide +kernel
theorem dL_count_38 : decode cL_count 38 = .ok (.invokestatic 49, 3) := by decide +kernel
theorem dL_count_41 : decode cL_count 41 = .ok (.istore 9, 2) := by decide +kernel
theorem dL_count_43 : decode cL_count 43 = .ok (.iload 8, 2) := by decide +kernel
theorem dL_count_45 : decode cL_count 45 = .ok (.ifCond .ge 8, 3) := by decide +kernel
theorem dL_count_48 : decode cL_count 48 = .ok (.iload 5, 2) := by decide +kernel
theorem dL_count_50 : decode cL_count 50 = .ok (.goto 5, 3) := by decide +kernel
theorem dL_count_53 : decode cL_count 53 = .ok (.iload 8, 2) := by decide +kernel
theorem dL_count_55 : decode cL_count 55 = .ok (.istore 5, 2) := by decide +kernel
theorem dL_count_57 : decode cL_count 57 = .ok (.iload 9, 2) := by decide +kernel
theorem dL_count_59 : decode cL_count 59 = .ok (.ifCond .ge 8, 3) := by decide +kernel
theorem dL_count_62 : decode cL_count 62 = .ok (.iload 6, 2) := by decide +kernel
theorem dL_count_64 : decode cL_count 64 = .ok (.goto 5, 3) := by decide +kernel
theorem dL_count_67 : decode cL_count 67 = .ok (.iload 9, 2) := by decide +kernel
theorem dL_count_69 : decode cL_count 69 = .ok (.istore 6, 2) := by decide +kernel
theorem dL_count_71 : decode cL_count 71 = .ok (.iinc 7 (-1), 3) := by decide +kernel
theorem dL_count_74 : decode cL_count 74 = .ok (.goto (-64), 3) := by decide +kernel
theorem dL_count_77 : decode cL_count 77 = .ok (.iload_n 0, 1) := by decide +kernel
theorem dL_count_78 : decode cL_count 78 = .ok (.iload_n 1, 1) := by decide +kernel
theorem dL_count_79 : decode cL_count 79 = .ok (.aload_n 2, 1) := by decide +kernel
theorem dL_count_80 : decode cL_count 80 = .ok (.aload_n 3, 1) := by decide +kernel
theorem dL_count_81 : decode cL_count 81 = .ok (.aload 4, 2) := by decide +kernel
theorem dL_count_83 : decode cL_count 83 = .ok (.invokestatic 49, 3) := by decide +kernel
theorem dL_count_86 : decode cL_count 86 = .ok (.istore 7, 2) := by decide +kernel
theorem dL_count_88 : decode cL_count 88 = .ok (.iload 7, 2) := by decide +kernel
theorem dL_count_90 : decode cL_count 90 = .ok (.ifCond .lt 8, 3) := by decide +kernel
theorem dL_count_93 : decode cL_count 93 = .ok (.iload 7, 2) := by decide +kernel
theorem dL_count_95 : decode cL_count 95 = .ok (.goto 44, 3) := by decide +kernel
theorem dL_count_98 : decode cL_count 98 = .ok (.iload 5, 2) := by decide +kernel
theorem dL_count_100 : decode cL_count 100 = .ok (.ifCond .ge 12, 3) := by decide +kernel
theorem dL_count_103 : decode cL_count 103 = .ok (.iload 6, 2) := by decide +kernel
theorem dL_count_105 : decode cL_count 105 = .ok (.ifCond .ge 7, 3) := by decide +kernel
theorem dL_count_108 : decode cL_count 108 = .ok (.iconst 0, 1) := by decide +kernel
theorem dL_count_109 : decode cL_count 109 = .ok (.goto 30, 3) := by decide +kernel
theorem dL_count_112 : decode cL_count 112 = .ok (.iload 5, 2) := by decide +kernel
theorem dL_count_114 : decode cL_count 114 = .ok (.ifCond .ge 8, 3) := by decide +kernel
theorem dL_count_117 : decode cL_count 117 = .ok (.iload 6, 2) := by decide +kernel
theorem dL_count_119 : decode cL_count 119 = .ok (.goto 20, 3) := by decide +kernel
theorem dL_count_122 : decode cL_count 122 = .ok (.iload 6, 2) := by decide +kernel
theorem dL_count_124 : decode cL_count 124 = .ok (.ifCond .ge 8, 3) := by decide +kernel
theorem dL_count_127 : decode cL_count 127 = .ok (.iload 5, 2) := by decide +kernel
theorem dL_count_129 : decode cL_count 129 = .ok (.goto 10, 3) := by decide +kernel
theorem dL_count_132 : decode cL_count 132 = .ok (.iload 5, 2) := by decide +kernel
theorem dL_count_134 : decode cL_count 134 = .ok (.iload 6, 2) := by decide +kernel
theorem dL_count_136 : decode cL_count 136 = .ok (.iadd, 1) := by decide +kernel
theorem dL_count_137 : decode cL_count 137 = .ok (.iconst 2, 1) := by decide +kernel
theorem dL_count_138 : decode cL_count 138 = .ok (.idiv, 1) := by decide +kernel
theorem dL_count_139 : decode cL_count 139 = .ok (.ireturn, 1) := by decide +kernel
set_option maxRecDepth 20000 in
theorem ggL_bill_L_count : GoodIn wsL_bill wsL_count := goodIn_r _ [4, 5, 6, 3, 7, 8, 9, 10, 11, 12, 13, 14] (by decide +kernel) (by decide +kernel)
set_option maxRecDepth 20000 in
theorem gL_bill_L_count : GoodIn wsL_bill (va_wsS RL 53 yL_count wsL_count) := goodIn_app (goodIn_of _ (by decide +kernel)) ggL_bill_L_count
theorem dL_bill_0 : decode cL_bill 0 = .ok (.iconst 0, 1) := by decide +kernel
theorem dL_bill_1 : decode cL_bill 1 = .ok (.istore 5, 2) := by decide +kernel
theorem dL_bill_3 : decode cL_bill 3 = .ok (.aload 4, 2) := by decide +kernel
theorem dL_bill_5 : decode cL_bill 5 = .ok (.iconst 0, 1) := by decide +kernel
theorem dL_bill_6 : decode cL_bill 6 = .ok (.iaload, 1) := by decide +kernel
theorem dL_bill_7 : decode cL_bill 7 = .ok (.iconst 1, 1) := by decide +kernel
theorem dL_bill_8 : decode cL_bill 8 = .ok (.isub, 1) := by decide +kernel
theorem dL_bill_9 : decode cL_bill 9 = .ok (.istore 6, 2) := by decide +kernel
theorem dL_bill_11 : decode cL_bill 11 = .ok (.iload 6, 2) := by decide +kernel
theorem dL_bill_13 : decode cL_bill 13 = .ok (.aload_n 3, 1) := by decide +kernel
theorem dL_bill_14 : decode cL_bill 14 = .ok (.bipush 6, 2) := by decide +kernel
theorem dL_bill_16 : decode cL_bill 16 = .ok (.iload_n 0, 1) := by decide +kernel
theorem dL_bill_17 : decode cL_bill 17 = .ok (.imul, 1) := by decide +kernel
theorem dL_bill_18 : decode cL_bill 18 = .ok (.iconst 3, 1) := by decide +kernel
theorem dL_bill_19 : decode cL_bill 19 = .ok (.iadd, 1) := by decide +kernel
theorem dL_bill_20 : decode cL_bill 20 = .ok (.iaload, 1) := by decide +kernel
theorem dL_bill_21 : decode cL_bill 21 = .ok (.if_icmp .lt 93, 3) := by decide +kernel
theorem dL_bill_24 : decode cL_bill 24 = .ok (.iload 6, 2) := by decide +kernel
theorem dL_bill_26 : decode cL_bill 26 = .ok (.aload_n 3, 1) := by decide +kernel
theorem dL_bill_27 : decode cL_bill 27 = .ok (.bipush 6, 2) := by decide +kernel
theorem dL_bill_29 : decode cL_bill 29 = .ok (.iload_n 0, 1) := by decide +kernel
theorem dL_bill_30 : decode cL_bill 30 = .ok (.imul, 1) := by decide +kernel
theorem dL_bill_31 : decode cL_bill 31 = .ok (.iconst 4, 1) := by decide +kernel
theorem dL_bill_32 : decode cL_bill 32 = .ok (.iadd, 1) := by decide +kernel
theorem dL_bill_33 : decode cL_bill 33 = .ok (.iaload, 1) := by decide +kernel
theorem dL_bill_34 : decode cL_bill 34 = .ok (.if_icmp .ge 26, 3) := by decide +kernel
theorem dL_bill_37 : decode cL_bill 37 = .ok (.aload_n 3, 1) := by decide +kernel
theorem dL_bill_38 : decode cL_bill 38 = .ok (.bipush 6, 2) := by decide +kernel
theorem dL_bill_40 : decode cL_bill 40 = .ok (.iload_n 0, 1) := by decide +kernel
theorem dL_bill_41 : decode cL_bill 41 = .ok (.imul, 1) := by decide +kernel
theorem dL_bill_42 : decode cL_bill 42 = .ok (.iaload, 1) := by decide +kernel
theorem dL_bill_43 : decode cL_bill 43 = .ok (.bipush 36, 2) := by decide +kernel
theorem dL_bill_45 : decode cL_bill 45 = .ok (.irem, 1) := by decide +kernel
theorem dL_bill_46 : decode cL_bill 46 = .ok (.iconst 3, 1) := by decide +kernel
theorem dL_bill_47 : decode cL_bill 47 = .ok (.idiv, 1) := by decide +kernel
theorem dL_bill_48 : decode cL_bill 48 = .ok (.iload 6, 2) := by decide +kernel
theorem dL_bill_50 : decode cL_bill 50 = .ok (.aload_n 1, 1) := by decide +kernel
theorem dL_bill_51 : decode cL_bill 51 = .ok (.aload_n 2, 1) := by decide +kernel
theorem dL_bill_52 : decode cL_bill 52 = .ok (.aload 4, 2) := by decide +kernel
theorem dL_bill_54 : decode cL_bill 54 = .ok (.invokestatic 53, 3) := by decide +kernel
theorem dL_bill_57 : decode cL_bill 57 = .ok (.goto 4, 3) := by decide +kernel
theorem dL_bill_60 : decode cL_bill 60 = .ok (.iconst 0, 1) := by decide +kernel
theorem dL_bill_61 : decode cL_bill 61 = .ok (.istore 7, 2) := by decide +kernel
theorem dL_bill_63 : decode cL_bill 63 = .ok (.iload 5, 2) := by decide +kernel
theorem dL_bill_65 : decode cL_bill 65 = .ok (.iload 6, 2) := by decide +kernel
theorem dL_bill_67 : decode cL_bill 67 = .ok (.aload_n 3, 1) := by decide +kernel
theorem dL_bill_68 : decode cL_bill 68 = .ok (.bipush 6, 2) := by decide +kernel
theorem dL_bill_70 : decode cL_bill 70 = .ok (.iload_n 0, 1) := by decide +kernel
theorem dL_bill_71 : decode cL_bill 71 = .ok (.imul, 1) := by decide +kernel
theorem dL_bill_72 : decode cL_bill 72 = .ok (.iconst 4, 1) := by decide +kernel
theorem dL_bill_73 : decode cL_bill 73 = .ok (.iadd, 1) := by decide +kernel
theorem dL_bill_74 : decode cL_bill 74 = .ok (.iaload, 1) := by decide +kernel
theorem dL_bill_75 : decode cL_bill 75 = .ok (.if_icmp .ge 29, 3) := by decide +kernel
theorem dL_bill_78 : decode cL_bill 78 = .ok (.aload_n 3, 1) := by decide +kernel
theorem dL_bill_79 : decode cL_bill 79 = .ok (.bipush 6, 2) := by decide +kernel
theorem dL_bill_81 : decode cL_bill 81 = .ok (.iload_n 0, 1) := by decide +kernel
theorem dL_bill_82 : decode cL_bill 82 = .ok (.imul, 1) := by decide +kernel
theorem dL_bill_83 : decode cL_bill 83 = .ok (.iconst 1, 1) := by decide +kernel
theorem dL_bill_84 : decode cL_bill 84 = .ok (.iadd, 1) := by decide +kernel
theorem dL_bill_85 : decode cL_bill 85 = .ok (.iaload, 1) := by decide +kernel
theorem dL_bill_86 : decode cL_bill 86 = .ok (.aload_n 3, 1) := by decide +kernel
theorem dL_bill_87 : decode cL_bill 87 = .ok (.bipush 6, 2) := by decide +kernel
theorem dL_bill_89 : decode cL_bill 89 = .ok (.iload_n 0, 1) := by decide +kernel
theorem dL_bill_90 : decode cL_bill 90 = .ok (.imul, 1) := by decide +kernel
theorem dL_bill_91 : decode cL_bill 91 = .ok (.iconst 2, 1) := by decide +kernel
theorem dL_bill_92 : decode cL_bill 92 = .ok (.iadd, 1) := by decide +kernel
theorem dL_bill_93 : decode cL_bill 93 = .ok (.iaload, 1) := by decide +kernel
theorem dL_bill_94 : decode cL_bill 94 = .ok (.iload 7, 2) := by decide +kernel
theorem dL_bill_96 : decode cL_bill 96 = .ok (.imul, 1) := by decide +kernel
theorem dL_bill_97 : decode cL_bill 97 = .ok (.bipush 100, 2) := by decide +kernel
theorem dL_bill_99 : decode cL_bill 99 = .ok (.idiv, 1) := by decide +kernel
theorem dL_bill_100 : decode cL_bill 100 = .ok (.iadd, 1) := by decide +kernel
theorem dL_bill_101 : decode cL_bill 101 = .ok (.goto 4, 3) := by decide +kernel
theorem dL_bill_104 : decode cL_bill 104 = .ok (.iconst 0, 1) := by decide +kernel
theorem dL_bill_105 : decode cL_bill 105 = .ok (.iadd, 1) := by decide +kernel
theorem dL_bill_106 : decode cL_bill 106 = .ok (.istore 5, 2) := by decide +kernel
theorem dL_bill_108 : decode cL_bill 108 = .ok (.iinc 6 (-1), 3) := by decide +kernel
theorem dL_bill_111 : decode cL_bill 111 = .ok (.goto (-100), 3) := by decide +kernel
theorem dL_bill_114 : decode cL_bill 114 = .ok (.iload 5, 2) := by decide +kernel
theorem dL_bill_116 : decode cL_bill 116 = .ok (.ireturn, 1) := by decide +kernel
set_option maxRecDepth 20000 in
theorem ggL_bills_L_bill : GoodIn wsL_bills wsL_bill := goodIn_r _ [4, 5, 6, 3, 7, 8, 9, 10, 11, 12, 13, 14, 15, 16, 17] (by decide +kernel) (by decide +kernel)
set_option maxRecDepth 20000 in
theorem gL_bills_L_bill : GoodIn wsL_bills (va_wsS RL 56 yL_bill wsL_bill) := goodIn_app (goodIn_of _ (by decide +kernel)) ggL_bills_L_bill
theorem dL_bills_0 : decode cL_bills 0 = .ok (.iconst 0, 1) := by decide +kernel
theorem dL_bills_1 : decode cL_bills 1 = .ok (.istore 5, 2) := by decide +kernel
theorem dL_bills_3 : decode cL_bills 3 = .ok (.iconst 0, 1) := by decide +kernel
theorem dL_bills_4 : decode cL_bills 4 = .ok (.istore 6, 2) := by decide +kernel
theorem dL_bills_6 : decode cL_bills 6 = .ok (.iload 6, 2) := by decide +kernel
theorem dL_bills_8 : decode cL_bills 8 = .ok (.aload 4, 2) := by decide +kernel
theorem dL_bills_10 : decode cL_bills 10 = .ok (.iconst 2, 1) := by decide +kernel
theorem dL_bills_11 : decode cL_bills 11 = .ok (.iaload, 1) := by decide +kernel
theorem dL_bills_12 : decode cL_bills 12 = .ok (.if_icmp .ge 44, 3) := by decide +kernel
theorem dL_bills_15 : decode cL_bills 15 = .ok (.iload_n 0, 1) := by decide +kernel
theorem dL_bills_16 : decode cL_bills 16 = .ok (.iload 6, 2) := by decide +kernel
theorem dL_bills_18 : decode cL_bills 18 = .ok (.aload_n 1, 1) := by decide +kernel
theorem dL_bills_19 : decode cL_bills 19 = .ok (.aload_n 2, 1) := by decide +kernel
theorem dL_bills_20 : decode cL_bills 20 = .ok (.aload_n 3, 1) := by decide +kernel
theorem dL_bills_21 : decode cL_bills 21 = .ok (.aload 4, 2) := by decide +kernel
theorem dL_bills_23 : decode cL_bills 23 = .ok (.invokestatic 56, 3) := by decide +kernel
theorem dL_bills_26 : decode cL_bills 26 = .ok (.imul, 1) := by decide +kernel
theorem dL_bills_27 : decode cL_bills 27 = .ok (.istore 7, 2) := by decide +kernel
theorem dL_bills_29 : decode cL_bills 29 = .ok (.aload_n 3, 1) := by decide +kernel
theorem dL_bills_30 : decode cL_bills 30 = .ok (.bipush 6, 2) := by decide +kernel
theorem dL_bills_32 : decode cL_bills 32 = .ok (.iload 6, 2) := by decide +kernel
theorem dL_bills_34 : decode cL_bills 34 = .ok (.imul, 1) := by decide +kernel
theorem dL_bills_35 : decode cL_bills 35 = .ok (.iconst 5, 1) := by decide +kernel
theorem dL_bills_36 : decode cL_bills 36 = .ok (.iadd, 1) := by decide +kernel
theorem dL_bills_37 : decode cL_bills 37 = .ok (.dup2, 1) := by decide +kernel
theorem dL_bills_38 : decode cL_bills 38 = .ok (.iaload, 1) := by decide +kernel
theorem dL_bills_39 : decode cL_bills 39 = .ok (.iload 7, 2) := by decide +kernel
theorem dL_bills_41 : decode cL_bills 41 = .ok (.iadd, 1) := by decide +kernel
theorem dL_bills_42 : decode cL_bills 42 = .ok (.iastore, 1) := by decide +kernel
theorem dL_bills_43 : decode cL_bills 43 = .ok (.iload 5, 2) := by decide +kernel
theorem dL_bills_45 : decode cL_bills 45 = .ok (.iload 7, 2) := by decide +kernel
theorem dL_bills_47 : decode cL_bills 47 = .ok (.iadd, 1) := by decide +kernel
theorem dL_bills_48 : decode cL_bills 48 = .ok (.istore 5, 2) := by decide +kernel
theorem dL_bills_50 : decode cL_bills 50 = .ok (.iinc 6 1, 3) := by decide +kernel
theorem dL_bills_53 : decode cL_bills 53 = .ok (.goto (-47), 3) := by decide +kernel
theorem dL_bills_56 : decode cL_bills 56 = .ok (.iload 5, 2) := by decide +kernel
theorem dL_bills_58 : decode cL_bills 58 = .ok (.ireturn, 1) := by decide +kernel
theorem dL_plays_0 : decode cL_plays 0 = .ok (.iconst 0, 1) := by decide +kernel
theorem dL_plays_1 : decode cL_plays 1 = .ok (.istore 5, 2) := by decide +kernel
theorem dL_plays_3 : decode cL_plays 3 = .ok (.iconst 0, 1) := by decide +kernel
theorem dL_plays_4 : decode cL_plays 4 = .ok (.istore 6, 2) := by decide +kernel
theorem dL_plays_6 : decode cL_plays 6 = .ok (.iconst 0, 1) := by decide +kernel
theorem dL_plays_7 : decode cL_plays 7 = .ok (.istore 7, 2) := by decide +kernel
theorem dL_plays_9 : decode cL_plays 9 = .ok (.iload 7, 2) := by decide +kernel
theorem dL_plays_11 : decode cL_plays 11 = .ok (.bipush 6, 2) := by decide +kernel
theorem dL_plays_13 : decode cL_plays 13 = .ok (.if_icmp .ge 155, 3) := by decide +kernel
theorem dL_plays_16 : decode cL_plays 16 = .ok (.aload_n 3, 1) := by decide +kernel
theorem dL_plays_17 : decode cL_plays 17 = .ok (.bipush 18, 2) := by decide +kernel
theorem dL_plays_19 : decode cL_plays 19 = .ok (.iload 7, 2) := by decide +kernel
theorem dL_plays_21 : decode cL_plays 21 = .ok (.iadd, 1) := by decide +kernel
theorem dL_plays_22 : decode cL_plays 22 = .ok (.iaload, 1) := by decide +kernel
theorem dL_plays_23 : decode cL_plays 23 = .ok (.iload_n 0, 1) := by decide +kernel
theorem dL_plays_24 : decode cL_plays 24 = .ok (.ishr, 1) := by decide +kernel
theorem dL_plays_25 : decode cL_plays 25 = .ok (.iconst 1, 1) := by decide +kernel
theorem dL_plays_26 : decode cL_plays 26 = .ok (.iand, 1) := by decide +kernel
theorem dL_plays_27 : decode cL_plays 27 = .ok (.iconst 1, 1) := by decide +kernel
theorem dL_plays_28 : decode cL_plays 28 = .ok (.if_icmp .ne 16, 3) := by decide +kernel
theorem dL_plays_31 : decode cL_plays 31 = .ok (.iload_n 1, 1) := by decide +kernel
theorem dL_plays_32 : decode cL_plays 32 = .ok (.iload 7, 2) := by decide +kernel
theorem dL_plays_34 : decode cL_plays 34 = .ok (.ishr, 1) := by decide +kernel
theorem dL_plays_35 : decode cL_plays 35 = .ok (.iconst 1, 1) := by decide +kernel
theorem dL_plays_36 : decode cL_plays 36 = .ok (.iand, 1) := by decide +kernel
theorem dL_plays_37 : decode cL_plays 37 = .ok (.ifCond .ne 7, 3) := by decide +kernel
theorem dL_plays_40 : decode cL_plays 40 = .ok (.iconst 1, 1) := by decide +kernel
theorem dL_plays_41 : decode cL_plays 41 = .ok (.goto 4, 3) := by decide +kernel
theorem dL_plays_44 : decode cL_plays 44 = .ok (.iconst 0, 1) := by decide +kernel
theorem dL_plays_45 : decode cL_plays 45 = .ok (.istore 8, 2) := by decide +kernel
theorem dL_plays_47 : decode cL_plays 47 = .ok (.iconst 1, 1) := by decide +kernel
theorem dL_plays_48 : decode cL_plays 48 = .ok (.istore 9, 2) := by decide +kernel
theorem dL_plays_50 : decode cL_plays 50 = .ok (.iconst 0, 1) := by decide +kernel
theorem dL_plays_51 : decode cL_plays 51 = .ok (.istore 10, 2) := by decide +kernel
theorem dL_plays_53 : decode cL_plays 53 = .ok (.iload 10, 2) := by decide +kernel
theorem dL_plays_55 : decode cL_plays 55 = .ok (.bipush 6, 2) := by decide +kernel
theorem dL_plays_57 : decode cL_plays 57 = .ok (.if_icmp .ge 62, 3) := by decide +kernel
theorem dL_plays_60 : decode cL_plays 60 = .ok (.iload 9, 2) := by decide +kernel
theorem dL_plays_62 : decode cL_plays 62 = .ok (.ifCond .eq 48, 3) := by decide +kernel
theorem dL_plays_65 : decode cL_plays 65 = .ok (.aload_n 3, 1) := by decide +kernel
theorem dL_plays_66 : decode cL_plays 66 = .ok (.bipush 18, 2) := by decide +kernel
theorem dL_plays_68 : decode cL_plays 68 = .ok (.iload 10, 2) := by decide +kernel
theorem dL_plays_70 : decode cL_plays 70 = .ok (.iadd, 1) := by decide +kernel
theorem dL_plays_71 : decode cL_plays 71 = .ok (.iaload, 1) := by decide +kernel
theorem dL_plays_72 : decode cL_plays 72 = .ok (.iload_n 0, 1) := by decide +kernel
theorem dL_plays_73 : decode cL_plays 73 = .ok (.ishr, 1) := by decide +kernel
theorem dL_plays_74 : decode cL_plays 74 = .ok (.iconst 1, 1) := by decide +kernel
theorem dL_plays_75 : decode cL_plays 75 = .ok (.iand, 1) := by decide +kernel
theorem dL_plays_76 : decode cL_plays 76 = .ok (.ifCond .eq 30, 3) := by decide +kernel
theorem dL_plays_79 : decode cL_plays 79 = .ok (.iload_n 1, 1) := by decide +kernel
theorem dL_plays_80 : decode cL_plays 80 = .ok (.iload 10, 2) := by decide +kernel
theorem dL_plays_82 : decode cL_plays 82 = .ok (.ishr, 1) := by decide +kernel
theorem dL_plays_83 : decode cL_plays 83 = .ok (.iconst 1, 1) := by decide +kernel
theorem dL_plays_84 : decode cL_plays 84 = .ok (.iand, 1) := by decide +kernel
theorem dL_plays_85 : decode cL_plays 85 = .ok (.iconst 1, 1) := by decide +kernel
theorem dL_plays_86 : decode cL_plays 86 = .ok (.if_icmp .eq 20, 3) := by decide +kernel
theorem dL_plays_89 : decode cL_plays 89 = .ok (.aload_n 3, 1) := by decide +kernel
theorem dL_plays_90 : decode cL_plays 90 = .ok (.bipush 6, 2) := by decide +kernel
theorem dL_plays_92 : decode cL_plays 92 = .ok (.iload 10, 2) := by decide +kernel
theorem dL_plays_94 : decode cL_plays 94 = .ok (.iadd, 1) := by decide +kernel
theorem dL_plays_95 : decode cL_plays 95 = .ok (.iaload, 1) := by decide +kernel
theorem dL_plays_96 : decode cL_plays 96 = .ok (.aload_n 3, 1) := by decide +kernel
theorem dL_plays_97 : decode cL_plays 97 = .ok (.bipush 6, 2) := by decide +kernel
theorem dL_plays_99 : decode cL_plays 99 = .ok (.iload 7, 2) := by decide +kernel
theorem dL_plays_101 : decode cL_plays 101 = .ok (.iadd, 1) := by decide +kernel
theorem dL_plays_102 : decode cL_plays 102 = .ok (.iaload, 1) := by decide +kernel
theorem dL_plays_103 : decode cL_plays 103 = .ok (.if_icmp .lt 7, 3) := by decide +kernel
theorem dL_plays_106 : decode cL_plays 106 = .ok (.iconst 1, 1) := by decide +kernel
theorem dL_plays_107 : decode cL_plays 107 = .ok (.goto 4, 3) := by decide +kernel
theorem dL_plays_110 : decode cL_plays 110 = .ok (.iconst 0, 1) := by decide +kernel
theorem dL_plays_111 : decode cL_plays 111 = .ok (.istore 9, 2) := by decide +kernel
theorem dL_plays_113 : decode cL_plays 113 = .ok (.iinc 10 1, 3) := by decide +kernel
theorem dL_plays_116 : decode cL_plays 116 = .ok (.goto (-63), 3) := by decide +kernel
theorem dL_plays_119 : decode cL_plays 119 = .ok (.iload 5, 2) := by decide +kernel
theorem dL_plays_121 : decode cL_plays 121 = .ok (.iload 8, 2) := by decide +kernel
theorem dL_plays_123 : decode cL_plays 123 = .ok (.ifCond .eq 15, 3) := by decide +kernel
theorem dL_plays_126 : decode cL_plays 126 = .ok (.iload 9, 2) := by decide +kernel
theorem dL_plays_128 : decode cL_plays 128 = .ok (.ifCond .eq 10, 3) := by decide +kernel
theorem dL_plays_131 : decode cL_plays 131 = .ok (.iconst 1, 1) := by decide +kernel
theorem dL_plays_132 : decode cL_plays 132 = .ok (.iload 7, 2) := by decide +kernel
theorem dL_plays_134 : decode cL_plays 134 = .ok (.ishl, 1) := by decide +kernel
theorem dL_plays_135 : decode cL_plays 135 = .ok (.goto 4, 3) := by decide +kernel
theorem dL_plays_138 : decode cL_plays 138 = .ok (.iconst 0, 1) := by decide +kernel
theorem dL_plays_139 : decode cL_plays 139 = .ok (.ior, 1) := by decide +kernel
theorem dL_plays_140 : decode cL_plays 140 = .ok (.istore 5, 2) := by decide +kernel
theorem dL_plays_142 : decode cL_plays 142 = .ok (.iload 6, 2) := by decide +kernel
theorem dL_plays_144 : decode cL_plays 144 = .ok (.iload 8, 2) := by decide +kernel
theorem dL_plays_146 : decode cL_plays 146 = .ok (.ifCond .eq 12, 3) := by decide +kernel
theorem dL_plays_149 : decode cL_plays 149 = .ok (.iload 9, 2) := by decide +kernel
theorem dL_plays_151 : decode cL_plays 151 = .ok (.ifCond .eq 7, 3) := by decide +kernel
theorem dL_plays_154 : decode cL_plays 154 = .ok (.iconst 1, 1) := by decide +kernel
theorem dL_plays_155 : decode cL_plays 155 = .ok (.goto 4, 3) := by decide +kernel
theorem dL_plays_158 : decode cL_plays 158 = .ok (.iconst 0, 1) := by decide +kernel
theorem dL_plays_159 : decode cL_plays 159 = .ok (.iadd, 1) := by decide +kernel
theorem dL_plays_160 : decode cL_plays 160 = .ok (.istore 6, 2) := by decide +kernel
theorem dL_plays_162 : decode cL_plays 162 = .ok (.iinc 7 1, 3) := by decide +kernel
theorem dL_plays_165 : decode cL_plays 165 = .ok (.goto (-156), 3) := by decide +kernel
theorem dL_plays_168 : decode cL_plays 168 = .ok (.iconst 0, 1) := by decide +kernel
theorem dL_plays_169 : decode cL_plays 169 = .ok (.istore 7, 2) := by decide +kernel
theorem dL_plays_171 : decode cL_plays 171 = .ok (.iload 6, 2) := by decide +kernel
theorem dL_plays_173 : decode cL_plays 173 = .ok (.iconst 1, 1) := by decide +kernel
theorem dL_plays_174 : decode cL_plays 174 = .ok (.if_icmp .le 59, 3) := by decide +kernel
theorem dL_plays_177 : decode cL_plays 177 = .ok (.aload 4, 2) := by decide +kernel
theorem dL_plays_179 : decode cL_plays 179 = .ok (.iconst 3, 1) := by decide +kernel
theorem dL_plays_180 : decode cL_plays 180 = .ok (.iaload, 1) := by decide +kernel
theorem dL_plays_181 : decode cL_plays 181 = .ok (.ifCond .le 52, 3) := by decide +kernel
theorem dL_plays_184 : decode cL_plays 184 = .ok (.aload_n 2, 1) := by decide +kernel
theorem dL_plays_185 : decode cL_plays 185 = .ok (.bipush 20, 2) := by decide +kernel
theorem dL_plays_187 : decode cL_plays 187 = .ok (.iaload, 1) := by decide +kernel
theorem dL_plays_188 : decode cL_plays 188 = .ok (.iload 6, 2) := by decide +kernel
theorem dL_plays_190 : decode cL_plays 190 = .ok (.irem, 1) := by decide +kernel
theorem dL_plays_191 : decode cL_plays 191 = .ok (.istore 7, 2) := by decide +kernel
theorem dL_plays_193 : decode cL_plays 193 = .ok (.aload 4, 2) := by decide +kernel
theorem dL_plays_195 : decode cL_plays 195 = .ok (.iconst 3, 1) := by decide +kernel
theorem dL_plays_196 : decode cL_plays 196 = .ok (.dup2, 1) := by decide +kernel
theorem dL_plays_197 : decode cL_plays 197 = .ok (.iaload, 1) := by decide +kernel
theorem dL_plays_198 : decode cL_plays 198 = .ok (.iconst 1, 1) := by decide +kernel
theorem dL_plays_199 : decode cL_plays 199 = .ok (.isub, 1) := by decide +kernel
theorem dL_plays_200 : decode cL_plays 200 = .ok (.iastore, 1) := by decide +kernel
theorem dL_plays_201 : decode cL_plays 201 = .ok (.bipush 20, 2) := by decide +kernel
theorem dL_plays_203 : decode cL_plays 203 = .ok (.istore 8, 2) := by decide +kernel
theorem dL_plays_205 : decode cL_plays 205 = .ok (.iload 8, 2) := by decide +kernel
theorem dL_plays_207 : decode cL_plays 207 = .ok (.bipush 20, 2) := by decide +kernel
theorem dL_plays_209 : decode cL_plays 209 = .ok (.aload 4, 2) := by decide +kernel
theorem dL_plays_211 : decode cL_plays 211 = .ok (.iconst 3, 1) := by decide +kernel
theorem dL_plays_212 : decode cL_plays 212 = .ok (.iaload, 1) := by decide +kernel
theorem dL_plays_213 : decode cL_plays 213 = .ok (.iadd, 1) := by decide +kernel
theorem dL_plays_214 : decode cL_plays 214 = .ok (.if_icmp .ge 19, 3) := by decide +kernel
theorem dL_plays_217 : decode cL_plays 217 = .ok (.aload_n 2, 1) := by decide +kernel
theorem dL_plays_218 : decode cL_plays 218 = .ok (.iload 8, 2) := by decide +kernel
theorem dL_plays_220 : decode cL_plays 220 = .ok (.aload_n 2, 1) := by decide +kernel
theorem dL_plays_221 : decode cL_plays 221 = .ok (.iload 8, 2) := by decide +kernel
theorem dL_plays_223 : decode cL_plays 223 = .ok (.iconst 1, 1) := by decide +kernel
theorem dL_plays_224 : decode cL_plays 224 = .ok (.iadd, 1) := by decide +kernel
theorem dL_plays_225 : decode cL_plays 225 = .ok (.iaload, 1) := by decide +kernel
theorem dL_plays_226 : decode cL_plays 226 = .ok (.iastore, 1) := by decide +kernel
theorem dL_plays_227 : decode cL_plays 227 = .ok (.iinc 8 1, 3) := by decide +kernel
theorem dL_plays_230 : decode cL_plays 230 = .ok (.goto (-25), 3) := by decide +kernel
theorem dL_plays_233 : decode cL_plays 233 = .ok (.iconst 0, 1) := by decide +kernel
theorem dL_plays_234 : decode cL_plays 234 = .ok (.istore 8, 2) := by decide +kernel
theorem dL_plays_236 : decode cL_plays 236 = .ok (.iload 8, 2) := by decide +kernel
theorem dL_plays_238 : decode cL_plays 238 = .ok (.bipush 6, 2) := by decide +kernel
theorem dL_plays_240 : decode cL_plays 240 = .ok (.if_icmp .ge 33, 3) := by decide +kernel
theorem dL_plays_243 : decode cL_plays 243 = .ok (.iload 5, 2) := by decide +kernel
theorem dL_plays_245 : decode cL_plays 245 = .ok (.iload 8, 2) := by decide +kernel
theorem dL_plays_247 : decode cL_plays 247 = .ok (.ishr, 1) := by decide +kernel
theorem dL_plays_248 : decode cL_plays 248 = .ok (.iconst 1, 1) := by decide +kernel
theorem dL_plays_249 : decode cL_plays 249 = .ok (.iand, 1) := by decide +kernel
theorem dL_plays_250 : decode cL_plays 250 = .ok (.iconst 1, 1) := by decide +kernel
theorem dL_plays_251 : decode cL_plays 251 = .ok (.if_icmp .ne 16, 3) := by decide +kernel
theorem dL_plays_254 : decode cL_plays 254 = .ok (.iload 7, 2) := by decide +kernel
theorem dL_plays_256 : decode cL_plays 256 = .ok (.ifCond .ne 8, 3) := by decide +kernel
theorem dL_plays_259 : decode cL_plays 259 = .ok (.iload 8, 2) := by decide +kernel
theorem dL_plays_261 : decode cL_plays 261 = .ok (.iconst 1, 1) := by decide +kernel
theorem dL_plays_262 : decode cL_plays 262 = .ok (.iadd, 1) := by decide +kernel
theorem dL_plays_263 : decode cL_plays 263 = .ok (.ireturn, 1) := by decide +kernel
theorem dL_plays_264 : decode cL_plays 264 = .ok (.iinc 7 (-1), 3) := by decide +kernel
theorem dL_plays_267 : decode cL_plays 267 = .ok (.iinc 8 1, 3) := by decide +kernel
theorem dL_plays_270 : decode cL_plays 270 = .ok (.goto (-34), 3) := by decide +kernel
theorem dL_plays_273 : decode cL_plays 273 = .ok (.iconst 0, 1) := by decide +kernel
theorem dL_plays_274 : decode cL_plays 274 = .ok (.ireturn, 1) := by decide +kernel
set_option maxRecDepth 20000 in
theorem ggL_hour_L_plays : GoodIn wsL_hour wsL_plays := goodIn_r _ [4] (by decide +kernel) (by decide +kernel)
set_option maxRecDepth 20000 in
theorem gL_hour_L_plays : GoodIn wsL_hour (va_wsS RL 60 yL_plays wsL_plays) := goodIn_app (goodIn_of _ (by decide +kernel)) ggL_hour_L_plays
set_option maxRecDepth 20000 in
theorem ggL_hour_L_put : GoodIn wsL_hour wsL_put := goodIn_r _ [7] (by decide +kernel) (by decide +kernel)
set_option maxRecDepth 20000 in
theorem gL_hour_L_put : GoodIn wsL_hour (va_wsS RL 64 yL_put wsL_put) := goodIn_app (goodIn_of _ (by decide +kernel)) ggL_hour_L_put
theorem dL_hour_0 : decode cL_hour 0 = .ok (.aload 7, 2) := by decide +kernel
theorem dL_hour_2 : decode cL_hour 2 = .ok (.iconst 0, 1) := by decide +kernel
theorem dL_hour_3 : decode cL_hour 3 = .ok (.iaload, 1) := by decide +kernel
theorem dL_hour_4 : decode cL_hour 4 = .ok (.istore 8, 2) := by decide +kernel
theorem dL_hour_6 : decode cL_hour 6 = .ok (.iconst 0, 1) := by decide +kernel
theorem dL_hour_7 : decode cL_hour 7 = .ok (.istore 9, 2) := by decide +kernel
theorem dL_hour_9 : decode cL_hour 9 = .ok (.iconst 0, 1) := by decide +kernel
theorem dL_hour_10 : decode cL_hour 10 = .ok (.istore 10, 2) := by decide +kernel
theorem dL_hour_12 : decode cL_hour 12 = .ok (.iconst 0, 1) := by decide +kernel
theorem dL_hour_13 : decode cL_hour 13 = .ok (.istore 11, 2) := by decide +kernel
theorem dL_hour_15 : decode cL_hour 15 = .ok (.iconst 0, 1) := by decide +kernel
theorem dL_hour_16 : decode cL_hour 16 = .ok (.istore 12, 2) := by decide +kernel
theorem dL_hour_18 : decode cL_hour 18 = .ok (.iload 12, 2) := by decide +kernel
theorem dL_hour_20 : decode cL_hour 20 = .ok (.bipush 12, 2) := by decide +kernel
theorem dL_hour_22 : decode cL_hour 22 = .ok (.if_icmp .ge 225, 3) := by decide +kernel
theorem dL_hour_25 : decode cL_hour 25 = .ok (.iload 12, 2) := by decide +kernel
theorem dL_hour_27 : decode cL_hour 27 = .ok (.iload 9, 2) := by decide +kernel
theorem dL_hour_29 : decode cL_hour 29 = .ok (.aload 5, 2) := by decide +kernel
theorem dL_hour_31 : decode cL_hour 31 = .ok (.aload 6, 2) := by decide +kernel
theorem dL_hour_33 : decode cL_hour 33 = .ok (.aload 7, 2) := by decide +kernel
theorem dL_hour_35 : decode cL_hour 35 = .ok (.invokestatic 60, 3) := by decide +kernel
theorem dL_hour_38 : decode cL_hour 38 = .ok (.istore 13, 2) := by decide +kernel
theorem dL_hour_40 : decode cL_hour 40 = .ok (.aload 4, 2) := by decide +kernel
theorem dL_hour_42 : decode cL_hour 42 = .ok (.iload 8, 2) := by decide +kernel
theorem dL_hour_44 : decode cL_hour 44 = .ok (.dup2, 1) := by decide +kernel
theorem dL_hour_45 : decode cL_hour 45 = .ok (.laload, 1) := by decide +kernel
theorem dL_hour_46 : decode cL_hour 46 = .ok (.iload 13, 2) := by decide +kernel
theorem dL_hour_48 : decode cL_hour 48 = .ok (.i2l, 1) := by decide +kernel
theorem dL_hour_49 : decode cL_hour 49 = .ok (.iconst 3, 1) := by decide +kernel
theorem dL_hour_50 : decode cL_hour 50 = .ok (.iload 12, 2) := by decide +kernel
theorem dL_hour_52 : decode cL_hour 52 = .ok (.imul, 1) := by decide +kernel
theorem dL_hour_53 : decode cL_hour 53 = .ok (.lshl, 1) := by decide +kernel
theorem dL_hour_54 : decode cL_hour 54 = .ok (.lor, 1) := by decide +kernel
theorem dL_hour_55 : decode cL_hour 55 = .ok (.lastore, 1) := by decide +kernel
theorem dL_hour_56 : decode cL_hour 56 = .ok (.iload 9, 2) := by decide +kernel
theorem dL_hour_58 : decode cL_hour 58 = .ok (.iload 13, 2) := by decide +kernel
theorem dL_hour_60 : decode cL_hour 60 = .ok (.ifCond .le 12, 3) := by decide +kernel
theorem dL_hour_63 : decode cL_hour 63 = .ok (.iconst 1, 1) := by decide +kernel
theorem dL_hour_64 : decode cL_hour 64 = .ok (.iload 13, 2) := by decide +kernel
theorem dL_hour_66 : decode cL_hour 66 = .ok (.iconst 1, 1) := by decide +kernel
theorem dL_hour_67 : decode cL_hour 67 = .ok (.isub, 1) := by decide +kernel
theorem dL_hour_68 : decode cL_hour 68 = .ok (.ishl, 1) := by decide +kernel
theorem dL_hour_69 : decode cL_hour 69 = .ok (.goto 4, 3) := by decide +kernel
theorem dL_hour_72 : decode cL_hour 72 = .ok (.iconst 0, 1) := by decide +kernel
theorem dL_hour_73 : decode cL_hour 73 = .ok (.ior, 1) := by decide +kernel
theorem dL_hour_74 : decode cL_hour 74 = .ok (.istore 9, 2) := by decide +kernel
theorem dL_hour_76 : decode cL_hour 76 = .ok (.iload 10, 2) := by decide +kernel
theorem dL_hour_78 : decode cL_hour 78 = .ok (.aload_n 0, 1) := by decide +kernel
theorem dL_hour_79 : decode cL_hour 79 = .ok (.iload 12, 2) := by decide +kernel
theorem dL_hour_81 : decode cL_hour 81 = .ok (.iaload, 1) := by decide +kernel
theorem dL_hour_82 : decode cL_hour 82 = .ok (.iadd, 1) := by decide +kernel
theorem dL_hour_83 : decode cL_hour 83 = .ok (.istore 10, 2) := by decide +kernel
theorem dL_hour_85 : decode cL_hour 85 = .ok (.iload 13, 2) := by decide +kernel
theorem dL_hour_87 : decode cL_hour 87 = .ok (.ifCond .le 19, 3) := by decide +kernel
theorem dL_hour_90 : decode cL_hour 90 = .ok (.iload 10, 2) := by decide +kernel
theorem dL_hour_92 : decode cL_hour 92 = .ok (.aload 6, 2) := by decide +kernel
theorem dL_hour_94 : decode cL_hour 94 = .ok (.iload 13, 2) := by decide +kernel
theorem dL_hour_96 : decode cL_hour 96 = .ok (.iconst 1, 1) := by decide +kernel
theorem dL_hour_97 : decode cL_hour 97 = .ok (.isub, 1) := by decide +kernel
theorem dL_hour_98 : decode cL_hour 98 = .ok (.iaload, 1) := by decide +kernel
theorem dL_hour_99 : decode cL_hour 99 = .ok (.imul, 1) := by decide +kernel
theorem dL_hour_100 : decode cL_hour 100 = .ok (.bipush 100, 2) := by decide +kernel
theorem dL_hour_102 : decode cL_hour 102 = .ok (.idiv, 1) := by decide +kernel
theorem dL_hour_103 : decode cL_hour 103 = .ok (.goto 4, 3) := by decide +kernel
theorem dL_hour_106 : decode cL_hour 106 = .ok (.iconst 0, 1) := by decide +kernel
theorem dL_hour_107 : decode cL_hour 107 = .ok (.istore 14, 2) := by decide +kernel
theorem dL_hour_109 : decode cL_hour 109 = .ok (.iload 10, 2) := by decide +kernel
theorem dL_hour_111 : decode cL_hour 111 = .ok (.iload 14, 2) := by decide +kernel
theorem dL_hour_113 : decode cL_hour 113 = .ok (.iadd, 1) := by decide +kernel
theorem dL_hour_114 : decode cL_hour 114 = .ok (.istore 15, 2) := by decide +kernel
theorem dL_hour_116 : decode cL_hour 116 = .ok (.iload 13, 2) := by decide +kernel
theorem dL_hour_118 : decode cL_hour 118 = .ok (.ifCond .le 30, 3) := by decide +kernel
theorem dL_hour_121 : decode cL_hour 121 = .ok (.aload 6, 2) := by decide +kernel
theorem dL_hour_123 : decode cL_hour 123 = .ok (.iconst 5, 1) := by decide +kernel
theorem dL_hour_124 : decode cL_hour 124 = .ok (.iload 13, 2) := by decide +kernel
theorem dL_hour_126 : decode cL_hour 126 = .ok (.iadd, 1) := by decide +kernel
theorem dL_hour_127 : decode cL_hour 127 = .ok (.dup2, 1) := by decide +kernel
theorem dL_hour_128 : decode cL_hour 128 = .ok (.iaload, 1) := by decide +kernel
theorem dL_hour_129 : decode cL_hour 129 = .ok (.iconst 1, 1) := by decide +kernel
theorem dL_hour_130 : decode cL_hour 130 = .ok (.iadd, 1) := by decide +kernel
theorem dL_hour_131 : decode cL_hour 131 = .ok (.iastore, 1) := by decide +kernel
theorem dL_hour_132 : decode cL_hour 132 = .ok (.aload 6, 2) := by decide +kernel
theorem dL_hour_134 : decode cL_hour 134 = .ok (.bipush 11, 2) := by decide +kernel
theorem dL_hour_136 : decode cL_hour 136 = .ok (.iload 13, 2) := by decide +kernel
theorem dL_hour_138 : decode cL_hour 138 = .ok (.iadd, 1) := by decide +kernel
theorem dL_hour_139 : decode cL_hour 139 = .ok (.dup2, 1) := by decide +kernel
theorem dL_hour_140 : decode cL_hour 140 = .ok (.iaload, 1) := by decide +kernel
theorem dL_hour_141 : decode cL_hour 141 = .ok (.iload 14, 2) := by decide +kernel
theorem dL_hour_143 : decode cL_hour 143 = .ok (.bipush 10, 2) := by decide +kernel
theorem dL_hour_145 : decode cL_hour 145 = .ok (.idiv, 1) := by decide +kernel
theorem dL_hour_146 : decode cL_hour 146 = .ok (.iadd, 1) := by decide +kernel
theorem dL_hour_147 : decode cL_hour 147 = .ok (.iastore, 1) := by decide +kernel
theorem dL_hour_148 : decode cL_hour 148 = .ok (.aload_n 1, 1) := by decide +kernel
theorem dL_hour_149 : decode cL_hour 149 = .ok (.iload 12, 2) := by decide +kernel
theorem dL_hour_151 : decode cL_hour 151 = .ok (.iload 8, 2) := by decide +kernel
theorem dL_hour_153 : decode cL_hour 153 = .ok (.iload 15, 2) := by decide +kernel
theorem dL_hour_155 : decode cL_hour 155 = .ok (.invokestatic 64, 3) := by decide +kernel
theorem dL_hour_158 : decode cL_hour 158 = .ok (.aload_n 2, 1) := by decide +kernel
theorem dL_hour_159 : decode cL_hour 159 = .ok (.iload 12, 2) := by decide +kernel
theorem dL_hour_161 : decode cL_hour 161 = .ok (.iload 8, 2) := by decide +kernel
theorem dL_hour_163 : decode cL_hour 163 = .ok (.iload 14, 2) := by decide +kernel
theorem dL_hour_165 : decode cL_hour 165 = .ok (.invokestatic 64, 3) := by decide +kernel
theorem dL_hour_168 : decode cL_hour 168 = .ok (.aload_n 0, 1) := by decide +kernel
theorem dL_hour_169 : decode cL_hour 169 = .ok (.bipush 24, 2) := by decide +kernel
theorem dL_hour_171 : decode cL_hour 171 = .ok (.iload 12, 2) := by decide +kernel
theorem dL_hour_173 : decode cL_hour 173 = .ok (.iadd, 1) := by decide +kernel
theorem dL_hour_174 : decode cL_hour 174 = .ok (.iaload, 1) := by decide +kernel
theorem dL_hour_175 : decode cL_hour 175 = .ok (.istore 16, 2) := by decide +kernel
theorem dL_hour_177 : decode cL_hour 177 = .ok (.aload_n 3, 1) := by decide +kernel
theorem dL_hour_178 : decode cL_hour 178 = .ok (.iload 12, 2) := by decide +kernel
theorem dL_hour_180 : decode cL_hour 180 = .ok (.iload 8, 2) := by decide +kernel
theorem dL_hour_182 : decode cL_hour 182 = .ok (.iload 16, 2) := by decide +kernel
theorem dL_hour_184 : decode cL_hour 184 = .ok (.bipush 100, 2) := by decide +kernel
theorem dL_hour_186 : decode cL_hour 186 = .ok (.if_icmp .lt 7, 3) := by decide +kernel
theorem dL_hour_189 : decode cL_hour 189 = .ok (.iconst 0, 1) := by decide +kernel
theorem dL_hour_190 : decode cL_hour 190 = .ok (.goto 16, 3) := by decide +kernel
theorem dL_hour_193 : decode cL_hour 193 = .ok (.iconst 1, 1) := by decide +kernel
theorem dL_hour_194 : decode cL_hour 194 = .ok (.iload 15, 2) := by decide +kernel
theorem dL_hour_196 : decode cL_hour 196 = .ok (.iadd, 1) := by decide +kernel
theorem dL_hour_197 : decode cL_hour 197 = .ok (.iload 15, 2) := by decide +kernel
theorem dL_hour_199 : decode cL_hour 199 = .ok (.iload 16, 2) := by decide +kernel
theorem dL_hour_201 : decode cL_hour 201 = .ok (.imul, 1) := by decide +kernel
theorem dL_hour_202 : decode cL_hour 202 = .ok (.bipush 100, 2) := by decide +kernel
theorem dL_hour_204 : decode cL_hour 204 = .ok (.idiv, 1) := by decide +kernel
theorem dL_hour_205 : decode cL_hour 205 = .ok (.isub, 1) := by decide +kernel
theorem dL_hour_206 : decode cL_hour 206 = .ok (.invokestatic 64, 3) := by decide +kernel
theorem dL_hour_209 : decode cL_hour 209 = .ok (.iload 10, 2) := by decide +kernel
theorem dL_hour_211 : decode cL_hour 211 = .ok (.iload 14, 2) := by decide +kernel
theorem dL_hour_213 : decode cL_hour 213 = .ok (.isub, 1) := by decide +kernel
theorem dL_hour_214 : decode cL_hour 214 = .ok (.istore 10, 2) := by decide +kernel
theorem dL_hour_216 : decode cL_hour 216 = .ok (.iload 10, 2) := by decide +kernel
theorem dL_hour_218 : decode cL_hour 218 = .ok (.iload 10, 2) := by decide +kernel
theorem dL_hour_220 : decode cL_hour 220 = .ok (.aload_n 0, 1) := by decide +kernel
theorem dL_hour_221 : decode cL_hour 221 = .ok (.bipush 12, 2) := by decide +kernel
theorem dL_hour_223 : decode cL_hour 223 = .ok (.iload 12, 2) := by decide +kernel
theorem dL_hour_225 : decode cL_hour 225 = .ok (.iadd, 1) := by decide +kernel
theorem dL_hour_226 : decode cL_hour 226 = .ok (.iaload, 1) := by decide +kernel
theorem dL_hour_227 : decode cL_hour 227 = .ok (.imul, 1) := by decide +kernel
theorem dL_hour_228 : decode cL_hour 228 = .ok (.bipush 100, 2) := by decide +kernel
theorem dL_hour_230 : decode cL_hour 230 = .ok (.idiv, 1) := by decide +kernel
theorem dL_hour_231 : decode cL_hour 231 = .ok (.isub, 1) := by decide +kernel
theorem dL_hour_232 : decode cL_hour 232 = .ok (.istore 10, 2) := by decide +kernel
theorem dL_hour_234 : decode cL_hour 234 = .ok (.iload 11, 2) := by decide +kernel
theorem dL_hour_236 : decode cL_hour 236 = .ok (.iload 15, 2) := by decide +kernel
theorem dL_hour_238 : decode cL_hour 238 = .ok (.iadd, 1) := by decide +kernel
theorem dL_hour_239 : decode cL_hour 239 = .ok (.istore 11, 2) := by decide +kernel
theorem dL_hour_241 : decode cL_hour 241 = .ok (.iinc 12 1, 3) := by decide +kernel
theorem dL_hour_244 : decode cL_hour 244 = .ok (.goto (-226), 3) := by decide +kernel
theorem dL_hour_247 : decode cL_hour 247 = .ok (.iconst 0, 1) := by decide +kernel
theorem dL_hour_248 : decode cL_hour 248 = .ok (.istore 12, 2) := by decide +kernel
theorem dL_hour_250 : decode cL_hour 250 = .ok (.iload 12, 2) := by decide +kernel
theorem dL_hour_252 : decode cL_hour 252 = .ok (.bipush 6, 2) := by decide +kernel
theorem dL_hour_254 : decode cL_hour 254 = .ok (.if_icmp .ge 18, 3) := by decide +kernel
theorem dL_hour_257 : decode cL_hour 257 = .ok (.aload 6, 2) := by decide +kernel
theorem dL_hour_259 : decode cL_hour 259 = .ok (.bipush 18, 2) := by decide +kernel
theorem dL_hour_261 : decode cL_hour 261 = .ok (.iload 12, 2) := by decide +kernel
theorem dL_hour_263 : decode cL_hour 263 = .ok (.iadd, 1) := by decide +kernel
theorem dL_hour_264 : decode cL_hour 264 = .ok (.iconst 0, 1) := by decide +kernel
theorem dL_hour_265 : decode cL_hour 265 = .ok (.iastore, 1) := by decide +kernel
theorem dL_hour_266 : decode cL_hour 266 = .ok (.iinc 12 1, 3) := by decide +kernel
theorem dL_hour_269 : decode cL_hour 269 = .ok (.goto (-19), 3) := by decide +kernel
theorem dL_hour_272 : decode cL_hour 272 = .ok (.aload 5, 2) := by decide +kernel
theorem dL_hour_274 : decode cL_hour 274 = .ok (.iload 8, 2) := by decide +kernel
theorem dL_hour_276 : decode cL_hour 276 = .ok (.iload 10, 2) := by decide +kernel
theorem dL_hour_278 : decode cL_hour 278 = .ok (.iastore, 1) := by decide +kernel
theorem dL_hour_279 : decode cL_hour 279 = .ok (.aload 7, 2) := by decide +kernel
theorem dL_hour_281 : decode cL_hour 281 = .ok (.iconst 0, 1) := by decide +kernel
theorem dL_hour_282 : decode cL_hour 282 = .ok (.dup2, 1) := by decide +kernel
theorem dL_hour_283 : decode cL_hour 283 = .ok (.iaload, 1) := by decide +kernel
theorem dL_hour_284 : decode cL_hour 284 = .ok (.iconst 1, 1) := by decide +kernel
theorem dL_hour_285 : decode cL_hour 285 = .ok (.iadd, 1) := by decide +kernel
theorem dL_hour_286 : decode cL_hour 286 = .ok (.iastore, 1) := by decide +kernel
theorem dL_hour_287 : decode cL_hour 287 = .ok (.iload 11, 2) := by decide +kernel
theorem dL_hour_289 : decode cL_hour 289 = .ok (.ireturn, 1) := by decide +kernel
set_option maxRecDepth 20000 in
theorem ggL_isHour_X4_through : GoodIn wsL_isHour wsX4_through := goodIn_ca (goodIn_r _ [6, 7, 8, 9, 10, 11, 5, 12, 13, 14, 15, 16, 17, 18, 117, 118, 119, 120, 121, 122, 123, 124, 125, 126, 127] (by decide +kernel) (by decide +kernel)) (goodIn_sub (fun _ h => List.mem_cons_of_mem _ (List.mem_append_left _ (List.mem_append_right _ h))) (by decide +kernel))
set_option maxRecDepth 20000 in
theorem gL_isHour_X4_through : GoodIn wsL_isHour (wsV RL 68 RX4 yX4_through wsX4_through) := goodIn_app (goodIn_of _ (by decide +kernel)) ggL_isHour_X4_through
set_option maxRecDepth 20000 in
theorem ggL_isHour_L_count : GoodIn wsL_isHour wsL_count := goodIn_r _ [22, 23, 24, 21, 25, 26, 27, 28, 29, 30, 31, 32] (by decide +kernel) (by decide +kernel)
set_option maxRecDepth 20000 in
theorem gL_isHour_L_count : GoodIn wsL_isHour (va_wsS RL 53 yL_count wsL_count) := goodIn_app (goodIn_of _ (by decide +kernel)) ggL_isHour_L_count
set_option maxRecDepth 20000 in
theorem ggL_isHour_L_get : GoodIn wsL_isHour wsL_get := goodIn_r _ [28, 29] (by decide +kernel) (by decide +kernel)
set_option maxRecDepth 20000 in
theorem gL_isHour_L_get : GoodIn wsL_isHour (va_wsS RL 39 yL_get wsL_get) := goodIn_app (goodIn_of _ (by decide +kernel)) ggL_isHour_L_get
set_option maxRecDepth 20000 in
theorem ggL_isHour_X4_steps : GoodIn wsL_isHour wsX4_steps := goodIn_ca (goodIn_ca (goodIn_r _ [36, 7, 37, 38, 39, 40, 5, 41, 42, 43, 44, 45, 46, 9, 10, 11, 12, 13, 14, 15, 16, 17, 18, 47, 48, 49, 117, 118, 119, 120, 121, 122, 123, 124, 125, 126, 127] (by decide +kernel) (by decide +kernel)) (goodIn_sub (fun _ h => List.mem_cons_of_mem _ (List.mem_append_right _ h)) (by decide +kernel))) (goodIn_sub (fun _ h => List.mem_cons_of_mem _ (List.mem_append_left _ (List.mem_append_right _ h))) (by decide +kernel))
set_option maxRecDepth 20000 in
theorem gL_isHour_X4_steps : GoodIn wsL_isHour (wsV RL 71 RX4 yX4_steps wsX4_steps) := goodIn_app (goodIn_of _ (by decide +kernel)) ggL_isHour_X4_steps
set_option maxRecDepth 20000 in
theorem ggL_isHour_X4_crowd : GoodIn wsL_isHour wsX4_crowd := goodIn_ca (goodIn_ca (goodIn_r _ [53, 7, 54, 38, 39, 40, 5, 41, 42, 43, 44, 45, 46, 9, 10, 11, 12, 13, 14, 15, 16, 17, 18, 47, 48, 49, 117, 118, 119, 120, 121, 122, 123, 124, 125, 126, 127] (by decide +kernel) (by decide +kernel)) (goodIn_sub (fun _ h => List.mem_cons_of_mem _ (List.mem_append_right _ h)) (by decide +kernel))) (goodIn_sub (fun _ h => List.mem_cons_of_mem _ (List.mem_append_left _ (List.mem_append_right _ h))) (by decide +kernel))
set_option maxRecDepth 20000 in
theorem gL_isHour_X4_crowd : GoodIn wsL_isHour (wsV RL 74 RX4 yX4_crowd wsX4_crowd) := goodIn_app (goodIn_of _ (by decide +kernel)) ggL_isHour_X4_crowd
set_option maxRecDepth 20000 in
theorem ggL_isHour_X4_reading : GoodIn wsL_isHour wsX4_reading := goodIn_ca (goodIn_ca (goodIn_r _ [58, 59, 60, 38, 39, 40, 5, 41, 42, 43, 44, 45, 46, 9, 10, 11, 12, 13, 14, 15, 16, 17, 18, 47, 48, 49, 117, 118, 119, 120, 121, 122, 128, 129, 130, 131, 132, 133, 134, 135] (by decide +kernel) (by decide +kernel)) (goodIn_sub (fun _ h => List.mem_cons_of_mem _ (List.mem_append_right _ h)) (by decide +kernel))) (goodIn_sub (fun _ h => List.mem_cons_of_mem _ (List.mem_append_left _ (List.mem_append_right _ h))) (by decide +kernel))
set_option maxRecDepth 20000 in
theorem gL_isHour_X4_reading : GoodIn wsL_isHour (wsV RL 77 RX4 yX4_reading wsX4_reading) := goodIn_app (goodIn_of _ (by decide +kernel)) ggL_isHour_X4_reading
set_option maxRecDepth 20000 in
theorem ggL_isHour_X4_count : GoodIn wsL_isHour wsX4_count := goodIn_ca (goodIn_ca (goodIn_r _ [64, 59, 65, 38, 39, 40, 5, 41, 42, 43, 44, 45, 46, 9, 10, 11, 12, 13, 14, 15, 16, 17, 18, 47, 48, 49, 117, 118, 119, 120, 121, 122, 128, 129, 130, 131, 132, 133, 134, 135] (by decide +kernel) (by decide +kernel)) (goodIn_sub (fun _ h => List.mem_cons_of_mem _ (List.mem_append_right _ h)) (by decide +kernel))) (goodIn_sub (fun _ h => List.mem_cons_of_mem _ (List.mem_append_left _ (List.mem_append_right _ h))) (by decide +kernel))
set_option maxRecDepth 20000 in
theorem gL_isHour_X4_count : GoodIn wsL_isHour (wsV RL 80 RX4 yX4_count wsX4_count) := goodIn_app (goodIn_of _ (by decide +kernel)) ggL_isHour_X4_count
set_option maxRecDepth 20000 in
theorem ggL_isHour_X4_countAnew : GoodIn wsL_isHour wsX4_countAnew := goodIn_ca (goodIn_ca (goodIn_r _ [69, 59, 42, 43, 5, 44, 45, 46, 9, 10, 11, 12, 13, 14, 15, 16, 17, 18, 70, 71, 72, 73, 74, 75, 76, 77, 78, 79, 48, 49, 80, 81, 82, 83, 84, 85, 86, 87, 88, 89, 90, 91, 92, 93, 94, 95, 96, 97, 98, 99, 100, 101, 102, 117, 118, 119, 120, 121, 122, 128, 129, 130, 131, 132, 133, 134, 135] (by decide +kernel) (by decide +kernel)) (goodIn_sub (fun _ h => List.mem_cons_of_mem _ (List.mem_append_right _ h)) (by decide +kernel))) (goodIn_sub (fun _ h => List.mem_cons_of_mem _ (List.mem_append_left _ (List.mem_append_right _ h))) (by decide +kernel))
set_option maxRecDepth 20000 in
theorem gL_isHour_X4_countAnew : GoodIn wsL_isHour (wsV RL 82 RX4 yX4_countAnew wsX4_countAnew) := goodIn_app (goodIn_of _ (by decide +kernel)) ggL_isHour_X4_countAnew
set_option maxRecDepth 20000 in
theorem ggL_isHour_X4_player : GoodIn wsL_isHour wsX4_player := goodIn_ca (goodIn_ca (goodIn_r _ [106, 107, 108, 38, 39, 40, 5, 41, 42, 43, 44, 45, 46, 9, 10, 11, 12, 13, 14, 15, 16, 17, 18, 47, 48, 49, 117, 118, 119, 120, 121, 122, 136, 137, 138, 139, 140, 141, 142, 143, 144] (by decide +kernel) (by decide +kernel)) (goodIn_sub (fun _ h => List.mem_cons_of_mem _ (List.mem_append_right _ h)) (by decide +kernel))) (goodIn_sub (fun _ h => List.mem_cons_of_mem _ (List.mem_append_left _ (List.mem_append_right _ h))) (by decide +kernel))
set_option maxRecDepth 20000 in
theorem gL_isHour_X4_player : GoodIn wsL_isHour (wsV RL 85 RX4 yX4_player wsX4_player) := goodIn_app (goodIn_of _ (by decide +kernel)) ggL_isHour_X4_player
set_option maxRecDepth 20000 in
theorem ggL_isHour_X4_missed : GoodIn wsL_isHour wsX4_missed := goodIn_ca (goodIn_r _ [112, 59, 65, 7, 37, 113, 114, 115, 116, 9, 10, 11, 5, 12, 13, 14, 15, 16, 17, 18, 47, 48, 49, 117, 118, 119, 120, 121, 122, 128, 129, 130, 131, 132, 133, 134, 135, 123, 124, 125, 126, 127] (by decide +kernel) (by decide +kernel)) (goodIn_sub (fun _ h => List.mem_cons_of_mem _ (List.mem_append_left _ (List.mem_append_right _ h))) (by decide +kernel))
set_option maxRecDepth 20000 in
theorem gL_isHour_X4_missed : GoodIn wsL_isHour (wsV RL 90 RX4 yX4_missed wsX4_missed) := goodIn_app (goodIn_of _ (by decide +kernel)) ggL_isHour_X4_missed
theorem dL_isHour_0 : decode cL_isHour 0 = .ok (.iconst 0, 1) := by decide +kernel
theorem dL_isHour_1 : decode cL_isHour 1 = .ok (.istore 9, 2) := by decide +kernel
theorem dL_isHour_3 : decode cL_isHour 3 = .ok (.aload_n 0, 1) := by decide +kernel
theorem dL_isHour_4 : decode cL_isHour 4 = .ok (.iload_n 1, 1) := by decide +kernel
theorem dL_isHour_5 : decode cL_isHour 5 = .ok (.invokevirtual 68, 3) := by decide +kernel
theorem dL_isHour_8 : decode cL_isHour 8 = .ok (.aload 6, 2) := by decide +kernel
theorem dL_isHour_10 : decode cL_isHour 10 = .ok (.iload_n 1, 1) := by decide +kernel
theorem dL_isHour_11 : decode cL_isHour 11 = .ok (.iaload, 1) := by decide +kernel
theorem dL_isHour_12 : decode cL_isHour 12 = .ok (.if_icmp .ne 7, 3) := by decide +kernel
theorem dL_isHour_15 : decode cL_isHour 15 = .ok (.iconst 1, 1) := by decide +kernel
theorem dL_isHour_16 : decode cL_isHour 16 = .ok (.goto 4, 3) := by decide +kernel
theorem dL_isHour_19 : decode cL_isHour 19 = .ok (.iconst 0, 1) := by decide +kernel
theorem dL_isHour_20 : decode cL_isHour 20 = .ok (.istore 10, 2) := by decide +kernel
theorem dL_isHour_22 : decode cL_isHour 22 = .ok (.iconst 0, 1) := by decide +kernel
theorem dL_isHour_23 : decode cL_isHour 23 = .ok (.istore 11, 2) := by decide +kernel
theorem dL_isHour_25 : decode cL_isHour 25 = .ok (.iload 11, 2) := by decide +kernel
theorem dL_isHour_27 : decode cL_isHour 27 = .ok (.bipush 12, 2) := by decide +kernel
theorem dL_isHour_29 : decode cL_isHour 29 = .ok (.if_icmp .ge 168, 3) := by decide +kernel
theorem dL_isHour_32 : decode cL_isHour 32 = .ok (.iload 10, 2) := by decide +kernel
theorem dL_isHour_34 : decode cL_isHour 34 = .ok (.ifCond .eq 163, 3) := by decide +kernel
theorem dL_isHour_37 : decode cL_isHour 37 = .ok (.iload 11, 2) := by decide +kernel
theorem dL_isHour_39 : decode cL_isHour 39 = .ok (.iload_n 1, 1) := by decide +kernel
theorem dL_isHour_40 : decode cL_isHour 40 = .ok (.aload 4, 2) := by decide +kernel
theorem dL_isHour_42 : decode cL_isHour 42 = .ok (.aload 7, 2) := by decide +kernel
theorem dL_isHour_44 : decode cL_isHour 44 = .ok (.aload 8, 2) := by decide +kernel
theorem dL_isHour_46 : decode cL_isHour 46 = .ok (.invokestatic 53, 3) := by decide +kernel
theorem dL_isHour_49 : decode cL_isHour 49 = .ok (.istore 12, 2) := by decide +kernel
theorem dL_isHour_51 : decode cL_isHour 51 = .ok (.aload_n 2, 1) := by decide +kernel
theorem dL_isHour_52 : decode cL_isHour 52 = .ok (.iload 11, 2) := by decide +kernel
theorem dL_isHour_54 : decode cL_isHour 54 = .ok (.iload_n 1, 1) := by decide +kernel
theorem dL_isHour_55 : decode cL_isHour 55 = .ok (.invokestatic 39, 3) := by decide +kernel
theorem dL_isHour_58 : decode cL_isHour 58 = .ok (.istore 13, 2) := by decide +kernel
theorem dL_isHour_60 : decode cL_isHour 60 = .ok (.iload 9, 2) := by decide +kernel
theorem dL_isHour_62 : decode cL_isHour 62 = .ok (.iload 12, 2) := by decide +kernel
theorem dL_isHour_64 : decode cL_isHour 64 = .ok (.iload 13, 2) := by decide +kernel
theorem dL_isHour_66 : decode cL_isHour 66 = .ok (.if_icmp .le 11, 3) := by decide +kernel
theorem dL_isHour_69 : decode cL_isHour 69 = .ok (.iload 12, 2) := by decide +kernel
theorem dL_isHour_71 : decode cL_isHour 71 = .ok (.iload 13, 2) := by decide +kernel
theorem dL_isHour_73 : decode cL_isHour 73 = .ok (.isub, 1) := by decide +kernel
theorem dL_isHour_74 : decode cL_isHour 74 = .ok (.goto 8, 3) := by decide +kernel
theorem dL_isHour_77 : decode cL_isHour 77 = .ok (.iload 13, 2) := by decide +kernel
theorem dL_isHour_79 : decode cL_isHour 79 = .ok (.iload 12, 2) := by decide +kernel
theorem dL_isHour_81 : decode cL_isHour 81 = .ok (.isub, 1) := by decide +kernel
theorem dL_isHour_82 : decode cL_isHour 82 = .ok (.iadd, 1) := by decide +kernel
theorem dL_isHour_83 : decode cL_isHour 83 = .ok (.istore 9, 2) := by decide +kernel
theorem dL_isHour_85 : decode cL_isHour 85 = .ok (.aload_n 0, 1) := by decide +kernel
theorem dL_isHour_86 : decode cL_isHour 86 = .ok (.iload 11, 2) := by decide +kernel
theorem dL_isHour_88 : decode cL_isHour 88 = .ok (.iload_n 1, 1) := by decide +kernel
theorem dL_isHour_89 : decode cL_isHour 89 = .ok (.invokevirtual 71, 3) := by decide +kernel
theorem dL_isHour_92 : decode cL_isHour 92 = .ok (.iload 13, 2) := by decide +kernel
theorem dL_isHour_94 : decode cL_isHour 94 = .ok (.if_icmp .ne 94, 3) := by decide +kernel
theorem dL_isHour_97 : decode cL_isHour 97 = .ok (.aload_n 0, 1) := by decide +kernel
theorem dL_isHour_98 : decode cL_isHour 98 = .ok (.iload 11, 2) := by decide +kernel
theorem dL_isHour_100 : decode cL_isHour 100 = .ok (.iload_n 1, 1) := by decide +kernel
theorem dL_isHour_101 : decode cL_isHour 101 = .ok (.invokevirtual 74, 3) := by decide +kernel
theorem dL_isHour_104 : decode cL_isHour 104 = .ok (.aload_n 3, 1) := by decide +kernel
theorem dL_isHour_105 : decode cL_isHour 105 = .ok (.iload 11, 2) := by decide +kernel
theorem dL_isHour_107 : decode cL_isHour 107 = .ok (.iload_n 1, 1) := by decide +kernel
theorem dL_isHour_108 : decode cL_isHour 108 = .ok (.invokestatic 39, 3) := by decide +kernel
theorem dL_isHour_111 : decode cL_isHour 111 = .ok (.if_icmp .ne 77, 3) := by decide +kernel
theorem dL_isHour_114 : decode cL_isHour 114 = .ok (.aload_n 0, 1) := by decide +kernel
theorem dL_isHour_115 : decode cL_isHour 115 = .ok (.iload 11, 2) := by decide +kernel
theorem dL_isHour_117 : decode cL_isHour 117 = .ok (.iload_n 1, 1) := by decide +kernel
theorem dL_isHour_118 : decode cL_isHour 118 = .ok (.invokevirtual 77, 3) := by decide +kernel
theorem dL_isHour_121 : decode cL_isHour 121 = .ok (.aload 4, 2) := by decide +kernel
theorem dL_isHour_123 : decode cL_isHour 123 = .ok (.iload 11, 2) := by decide +kernel
theorem dL_isHour_125 : decode cL_isHour 125 = .ok (.iload_n 1, 1) := by decide +kernel
theorem dL_isHour_126 : decode cL_isHour 126 = .ok (.invokestatic 39, 3) := by decide +kernel
theorem dL_isHour_129 : decode cL_isHour 129 = .ok (.iconst 1, 1) := by decide +kernel
theorem dL_isHour_130 : decode cL_isHour 130 = .ok (.isub, 1) := by decide +kernel
theorem dL_isHour_131 : decode cL_isHour 131 = .ok (.if_icmp .ne 57, 3) := by decide +kernel
theorem dL_isHour_134 : decode cL_isHour 134 = .ok (.aload_n 0, 1) := by decide +kernel
theorem dL_isHour_135 : decode cL_isHour 135 = .ok (.iload 11, 2) := by decide +kernel
theorem dL_isHour_137 : decode cL_isHour 137 = .ok (.iload_n 1, 1) := by decide +kernel
theorem dL_isHour_138 : decode cL_isHour 138 = .ok (.invokevirtual 80, 3) := by decide +kernel
theorem dL_isHour_141 : decode cL_isHour 141 = .ok (.iload 12, 2) := by decide +kernel
theorem dL_isHour_143 : decode cL_isHour 143 = .ok (.if_icmp .ne 45, 3) := by decide +kernel
theorem dL_isHour_146 : decode cL_isHour 146 = .ok (.aload_n 0, 1) := by decide +kernel
theorem dL_isHour_147 : decode cL_isHour 147 = .ok (.iload 11, 2) := by decide +kernel
theorem dL_isHour_149 : decode cL_isHour 149 = .ok (.iload_n 1, 1) := by decide +kernel
theorem dL_isHour_150 : decode cL_isHour 150 = .ok (.invokevirtual 82, 3) := by decide +kernel
theorem dL_isHour_153 : decode cL_isHour 153 = .ok (.iload 12, 2) := by decide +kernel
theorem dL_isHour_155 : decode cL_isHour 155 = .ok (.if_icmp .ne 33, 3) := by decide +kernel
theorem dL_isHour_158 : decode cL_isHour 158 = .ok (.aload_n 0, 1) := by decide +kernel
theorem dL_isHour_159 : decode cL_isHour 159 = .ok (.iload 11, 2) := by decide +kernel
theorem dL_isHour_161 : decode cL_isHour 161 = .ok (.iload_n 1, 1) := by decide +kernel
theorem dL_isHour_162 : decode cL_isHour 162 = .ok (.invokevirtual 85, 3) := by decide +kernel
theorem dL_isHour_165 : decode cL_isHour 165 = .ok (.aload 5, 2) := by decide +kernel
theorem dL_isHour_167 : decode cL_isHour 167 = .ok (.iload_n 1, 1) := by decide +kernel
theorem dL_isHour_168 : decode cL_isHour 168 = .ok (.laload, 1) := by decide +kernel
theorem dL_isHour_169 : decode cL_isHour 169 = .ok (.iconst 3, 1) := by decide +kernel
theorem dL_isHour_170 : decode cL_isHour 170 = .ok (.iload 11, 2) := by decide +kernel
theorem dL_isHour_172 : decode cL_isHour 172 = .ok (.imul, 1) := by decide +kernel
theorem dL_isHour_173 : decode cL_isHour 173 = .ok (.lshr, 1) := by decide +kernel
theorem dL_isHour_174 : decode cL_isHour 174 = .ok (.ldc2_w 88, 3) := by decide +kernel
theorem dL_isHour_177 : decode cL_isHour 177 = .ok (.land, 1) := by decide +kernel
theorem dL_isHour_178 : decode cL_isHour 178 = .ok (.l2i, 1) := by decide +kernel
theorem dL_isHour_179 : decode cL_isHour 179 = .ok (.iconst 1, 1) := by decide +kernel
theorem dL_isHour_180 : decode cL_isHour 180 = .ok (.isub, 1) := by decide +kernel
theorem dL_isHour_181 : decode cL_isHour 181 = .ok (.if_icmp .ne 7, 3) := by decide +kernel
theorem dL_isHour_184 : decode cL_isHour 184 = .ok (.iconst 1, 1) := by decide +kernel
theorem dL_isHour_185 : decode cL_isHour 185 = .ok (.goto 4, 3) := by decide +kernel
theorem dL_isHour_188 : decode cL_isHour 188 = .ok (.iconst 0, 1) := by decide +kernel
theorem dL_isHour_189 : decode cL_isHour 189 = .ok (.istore 10, 2) := by decide +kernel
theorem dL_isHour_191 : decode cL_isHour 191 = .ok (.iinc 11 1, 3) := by decide +kernel
theorem dL_isHour_194 : decode cL_isHour 194 = .ok (.goto (-169), 3) := by decide +kernel
theorem dL_isHour_197 : decode cL_isHour 197 = .ok (.iload 10, 2) := by decide +kernel
theorem dL_isHour_199 : decode cL_isHour 199 = .ok (.ifCond .eq 17, 3) := by decide +kernel
theorem dL_isHour_202 : decode cL_isHour 202 = .ok (.aload_n 0, 1) := by decide +kernel
theorem dL_isHour_203 : decode cL_isHour 203 = .ok (.iload_n 1, 1) := by decide +kernel
theorem dL_isHour_204 : decode cL_isHour 204 = .ok (.invokevirtual 90, 3) := by decide +kernel
theorem dL_isHour_207 : decode cL_isHour 207 = .ok (.iload 9, 2) := by decide +kernel
theorem dL_isHour_209 : decode cL_isHour 209 = .ok (.if_icmp .ne 7, 3) := by decide +kernel
theorem dL_isHour_212 : decode cL_isHour 212 = .ok (.iconst 1, 1) := by decide +kernel
theorem dL_isHour_213 : decode cL_isHour 213 = .ok (.goto 4, 3) := by decide +kernel
theorem dL_isHour_216 : decode cL_isHour 216 = .ok (.iconst 0, 1) := by decide +kernel
theorem dL_isHour_217 : decode cL_isHour 217 = .ok (.ireturn, 1) := by decide +kernel
set_option maxRecDepth 20000 in
theorem ggL_isSo_L_low : GoodIn wsL_isSo wsL_low := goodIn_r _ [4, 5] (by decide +kernel) (by decide +kernel)
set_option maxRecDepth 20000 in
theorem gL_isSo_L_low : GoodIn wsL_isSo (va_wsS RL 93 yL_low wsL_low) := goodIn_app (goodIn_of _ (by decide +kernel)) ggL_isSo_L_low
set_option maxRecDepth 20000 in
theorem ggL_isSo_X4_hour : GoodIn wsL_isSo wsX4_hour := goodIn_r _ [10, 11, 168, 169, 170, 171, 172, 173] (by decide +kernel) (by decide +kernel)
set_option maxRecDepth 20000 in
theorem gL_isSo_X4_hour : GoodIn wsL_isSo (wsV RL 96 RX4 yX4_hour wsX4_hour) := goodIn_app (goodIn_of _ (by decide +kernel)) ggL_isSo_X4_hour
set_option maxRecDepth 20000 in
theorem ggL_isSo_X4_leases : GoodIn wsL_isSo wsX4_leases := goodIn_r _ [15, 16, 17, 18, 19, 20, 21, 22, 168, 169, 170, 171, 172, 173, 174, 175, 176] (by decide +kernel) (by decide +kernel)
set_option maxRecDepth 20000 in
theorem gL_isSo_X4_leases : GoodIn wsL_isSo (wsV RL 100 RX4 yX4_leases wsX4_leases) := goodIn_app (goodIn_of _ (by decide +kernel)) ggL_isSo_X4_leases
set_option maxRecDepth 20000 in
theorem ggL_isSo_X4_lots : GoodIn wsL_isSo wsX4_lots := goodIn_r _ [26, 27, 28, 168, 169, 170, 171, 172, 173, 177, 178, 179, 180, 181, 182, 183, 184, 185] (by decide +kernel) (by decide +kernel)
set_option maxRecDepth 20000 in
theorem gL_isSo_X4_lots : GoodIn wsL_isSo (wsV RL 103 RX4 yX4_lots wsX4_lots) := goodIn_app (goodIn_of _ (by decide +kernel)) ggL_isSo_X4_lots
set_option maxRecDepth 20000 in
theorem ggL_isSo_X4_taken : GoodIn wsL_isSo wsX4_taken := goodIn_ca (goodIn_ca (goodIn_r _ [32, 33, 34, 35, 9, 36, 37, 38, 39, 40, 41, 42, 43, 44, 45, 46, 47, 48, 49, 50, 51, 52, 168, 169, 170, 171, 172, 173, 186, 187, 188, 189, 190, 191, 192, 193] (by decide +kernel) (by decide +kernel)) (goodIn_sub (fun _ h => List.mem_cons_of_mem _ (List.mem_append_left _ (List.mem_append_right _ h))) (by decide +kernel))) (goodIn_sub (fun _ h => List.mem_cons_of_mem _ (List.mem_append_right _ h)) (by decide +kernel))
set_option maxRecDepth 20000 in
theorem gL_isSo_X4_taken : GoodIn wsL_isSo (wsV RL 106 RX4 yX4_taken wsX4_taken) := goodIn_app (goodIn_of _ (by decide +kernel)) ggL_isSo_X4_taken
set_option maxRecDepth 20000 in
theorem ggL_isSo_L_spot : GoodIn wsL_isSo wsL_spot := goodIn_r _ [55] (by decide +kernel) (by decide +kernel)
set_option maxRecDepth 20000 in
theorem gL_isSo_L_spot : GoodIn wsL_isSo (va_wsS RL 45 yL_spot wsL_spot) := goodIn_app (goodIn_of _ (by decide +kernel)) ggL_isSo_L_spot
set_option maxRecDepth 20000 in
theorem ggL_isSo_L_bill : GoodIn wsL_isSo wsL_bill := goodIn_r _ [58, 59, 60, 3, 61, 62, 63, 64, 65, 66, 67, 68, 53, 54, 55] (by decide +kernel) (by decide +kernel)
set_option maxRecDepth 20000 in
theorem gL_isSo_L_bill : GoodIn wsL_isSo (va_wsS RL 56 yL_bill wsL_bill) := goodIn_app (goodIn_of _ (by decide +kernel)) ggL_isSo_L_bill
set_option maxRecDepth 20000 in
theorem ggL_isSo_X4_played : GoodIn wsL_isSo wsX4_played := goodIn_ca (goodIn_r _ [72, 27, 73, 34, 35, 9, 36, 37, 38, 168, 169, 170, 171, 172, 173, 177, 178, 179, 180, 181, 182, 183, 184, 185] (by decide +kernel) (by decide +kernel)) (goodIn_sub (fun _ h => List.mem_cons_of_mem _ (List.mem_append_left _ (List.mem_append_right _ h))) (by decide +kernel))
set_option maxRecDepth 20000 in
theorem gL_isSo_X4_played : GoodIn wsL_isSo (wsV RL 109 RX4 yX4_played wsX4_played) := goodIn_app (goodIn_of _ (by decide +kernel)) ggL_isSo_X4_played
set_option maxRecDepth 20000 in
theorem ggL_isSo_X4_coins : GoodIn wsL_isSo wsX4_coins := goodIn_ca (goodIn_r _ [77, 27, 78, 34, 35, 9, 36, 37, 38, 168, 169, 170, 171, 172, 173, 177, 178, 179, 180, 181, 182, 183, 184, 185] (by decide +kernel) (by decide +kernel)) (goodIn_sub (fun _ h => List.mem_cons_of_mem _ (List.mem_append_left _ (List.mem_append_right _ h))) (by decide +kernel))
set_option maxRecDepth 20000 in
theorem gL_isSo_X4_coins : GoodIn wsL_isSo (wsV RL 112 RX4 yX4_coins wsX4_coins) := goodIn_app (goodIn_of _ (by decide +kernel)) ggL_isSo_X4_coins
set_option maxRecDepth 20000 in
theorem ggL_isSo_X4_owes : GoodIn wsL_isSo wsX4_owes := goodIn_ca (goodIn_r _ [82, 34, 35, 9, 36, 37, 38, 83, 84, 85, 86, 87, 16, 88, 89, 90, 17, 18, 19, 20, 21, 22, 91, 92, 93, 94, 95, 96, 97, 98, 99, 100, 101, 102, 103, 104, 105, 106, 107, 168, 169, 170, 171, 172, 173, 194, 195, 196, 197, 198, 199, 200, 201, 202, 174, 175, 176] (by decide +kernel) (by decide +kernel)) (goodIn_sub (fun _ h => List.mem_cons_of_mem _ (List.mem_append_left _ (List.mem_append_right _ h))) (by decide +kernel))
set_option maxRecDepth 20000 in
theorem gL_isSo_X4_owes : GoodIn wsL_isSo (wsV RL 115 RX4 yX4_owes wsX4_owes) := goodIn_app (goodIn_of _ (by decide +kernel)) ggL_isSo_X4_owes
set_option maxRecDepth 20000 in
theorem ggL_isSo_X4_billed : GoodIn wsL_isSo wsX4_billed := goodIn_ca (goodIn_r _ [111, 16, 88, 90, 17, 18, 19, 20, 21, 22, 34, 35, 9, 36, 37, 38, 91, 92, 93, 94, 95, 96, 97, 98, 99, 100, 101, 102, 103, 104, 105, 106, 107, 168, 169, 170, 171, 172, 173, 194, 195, 196, 197, 198, 199, 200, 201, 202, 174, 175, 176] (by decide +kernel) (by decide +kernel)) (goodIn_sub (fun _ h => List.mem_cons_of_mem _ (List.mem_append_left _ (List.mem_append_right _ h))) (by decide +kernel))
set_option maxRecDepth 20000 in
theorem gL_isSo_X4_billed : GoodIn wsL_isSo (wsV RL 118 RX4 yX4_billed wsX4_billed) := goodIn_app (goodIn_of _ (by decide +kernel)) ggL_isSo_X4_billed
set_option maxRecDepth 20000 in
theorem ggL_isSo_X4_billedAnew : GoodIn wsL_isSo wsX4_billedAnew := goodIn_ca (goodIn_r _ [115, 16, 88, 116, 117, 11, 33, 118, 17, 18, 19, 20, 21, 22, 34, 35, 9, 36, 37, 38, 91, 92, 93, 94, 95, 96, 97, 98, 99, 100, 101, 102, 103, 104, 105, 106, 107, 119, 120, 121, 47, 122, 123, 124, 125, 126, 127, 128, 129, 130, 131, 132, 133, 134, 45, 46, 48, 49, 50, 51, 52, 135, 136, 137, 138, 139, 140, 141, 142, 143, 144, 145, 146, 147, 148, 149, 150, 151, 152, 168, 169, 170, 171, 172, 173, 194, 195, 196, 197, 198, 199, 200, 201, 202, 174, 175, 176, 186, 187, 188, 189, 190, 191, 192, 193] (by decide +kernel) (by decide +kernel)) (goodIn_sub (fun _ h => List.mem_cons_of_mem _ (List.mem_append_left _ (List.mem_append_right _ h))) (by decide +kernel))
set_option maxRecDepth 20000 in
theorem gL_isSo_X4_billedAnew : GoodIn wsL_isSo (wsV RL 121 RX4 yX4_billedAnew wsX4_billedAnew) := goodIn_app (goodIn_of _ (by decide +kernel)) ggL_isSo_X4_billedAnew
set_option maxRecDepth 20000 in
theorem ggL_isSo_X4_corrected : GoodIn wsL_isSo wsX4_corrected := goodIn_ca (goodIn_r _ [156, 16, 88, 157, 17, 18, 19, 20, 21, 22, 34, 35, 9, 36, 37, 38, 91, 92, 93, 94, 95, 96, 97, 98, 99, 100, 101, 102, 103, 104, 105, 106, 107, 168, 169, 170, 171, 172, 173, 194, 195, 196, 197, 198, 199, 200, 201, 202, 174, 175, 176] (by decide +kernel) (by decide +kernel)) (goodIn_sub (fun _ h => List.mem_cons_of_mem _ (List.mem_append_left _ (List.mem_append_right _ h))) (by decide +kernel))
set_option maxRecDepth 20000 in
theorem gL_isSo_X4_corrected : GoodIn wsL_isSo (wsV RL 124 RX4 yX4_corrected wsX4_corrected) := goodIn_app (goodIn_of _ (by decide +kernel)) ggL_isSo_X4_corrected
set_option maxRecDepth 20000 in
theorem ggL_isSo_X4_isOf : GoodIn wsL_isSo wsX4_isOf := goodIn_ca (goodIn_r _ [161, 16, 88, 17, 18, 19, 20, 21, 22, 34, 35, 9, 36, 37, 38, 91, 92, 93, 94, 95, 96, 97, 98, 99, 100, 101, 102, 103, 104, 105, 106, 107, 162, 163, 164, 149, 165, 166, 167, 168, 169, 170, 171, 172, 173, 174, 175, 176, 194, 195, 196, 197, 198, 199, 200, 201, 202] (by decide +kernel) (by decide +kernel)) (goodIn_sub (fun _ h => List.mem_cons_of_mem _ (List.mem_append_left _ (List.mem_append_right _ h))) (by decide +kernel))
set_option maxRecDepth 20000 in
theorem gL_isSo_X4_isOf : GoodIn wsL_isSo (wsV RL 127 RX4 yX4_isOf wsX4_isOf) := goodIn_app (goodIn_of _ (by decide +kernel)) ggL_isSo_X4_isOf
theorem dL_isSo_0 : decode cL_isSo 0 = .ok (.iload_n 1, 1) := by decide +kernel
theorem dL_isSo_1 : decode cL_isSo 1 = .ok (.bipush 12, 2) := by decide +kernel
theorem dL_isSo_3 : decode cL_isSo 3 = .ok (.invokestatic 93, 3) := by decide +kernel
theorem dL_isSo_6 : decode cL_isSo 6 = .ok (.istore 7, 2) := by decide +kernel
theorem dL_isSo_8 : decode cL_isSo 8 = .ok (.iload_n 1, 1) := by decide +kernel
theorem dL_isSo_9 : decode cL_isSo 9 = .ok (.iconst 4, 1) := by decide +kernel
theorem dL_isSo_10 : decode cL_isSo 10 = .ok (.ishr, 1) := by decide +kernel
theorem dL_isSo_11 : decode cL_isSo 11 = .ok (.sipush 200, 3) := by decide +kernel
theorem dL_isSo_14 : decode cL_isSo 14 = .ok (.invokestatic 93, 3) := by decide +kernel
theorem dL_isSo_17 : decode cL_isSo 17 = .ok (.istore 8, 2) := by decide +kernel
theorem dL_isSo_19 : decode cL_isSo 19 = .ok (.aload_n 0, 1) := by decide +kernel
theorem dL_isSo_20 : decode cL_isSo 20 = .ok (.invokevirtual 96, 3) := by decide +kernel
theorem dL_isSo_23 : decode cL_isSo 23 = .ok (.aload 6, 2) := by decide +kernel
theorem dL_isSo_25 : decode cL_isSo 25 = .ok (.iconst 0, 1) := by decide +kernel
theorem dL_isSo_26 : decode cL_isSo 26 = .ok (.iaload, 1) := by decide +kernel
theorem dL_isSo_27 : decode cL_isSo 27 = .ok (.if_icmp .ne 50, 3) := by decide +kernel
theorem dL_isSo_30 : decode cL_isSo 30 = .ok (.aload_n 0, 1) := by decide +kernel
theorem dL_isSo_31 : decode cL_isSo 31 = .ok (.invokevirtual 100, 3) := by decide +kernel
theorem dL_isSo_34 : decode cL_isSo 34 = .ok (.aload 6, 2) := by decide +kernel
theorem dL_isSo_36 : decode cL_isSo 36 = .ok (.iconst 2, 1) := by decide +kernel
theorem dL_isSo_37 : decode cL_isSo 37 = .ok (.iaload, 1) := by decide +kernel
theorem dL_isSo_38 : decode cL_isSo 38 = .ok (.if_icmp .ne 39, 3) := by decide +kernel
theorem dL_isSo_41 : decode cL_isSo 41 = .ok (.aload_n 0, 1) := by decide +kernel
theorem dL_isSo_42 : decode cL_isSo 42 = .ok (.invokevirtual 103, 3) := by decide +kernel
theorem dL_isSo_45 : decode cL_isSo 45 = .ok (.aload 6, 2) := by decide +kernel
theorem dL_isSo_47 : decode cL_isSo 47 = .ok (.iconst 3, 1) := by decide +kernel
theorem dL_isSo_48 : decode cL_isSo 48 = .ok (.iaload, 1) := by decide +kernel
theorem dL_isSo_49 : decode cL_isSo 49 = .ok (.if_icmp .ne 28, 3) := by decide +kernel
theorem dL_isSo_52 : decode cL_isSo 52 = .ok (.aload_n 0, 1) := by decide +kernel
theorem dL_isSo_53 : decode cL_isSo 53 = .ok (.iload 7, 2) := by decide +kernel
theorem dL_isSo_55 : decode cL_isSo 55 = .ok (.iload 8, 2) := by decide +kernel
theorem dL_isSo_57 : decode cL_isSo 57 = .ok (.invokevirtual 106, 3) := by decide +kernel
theorem dL_isSo_60 : decode cL_isSo 60 = .ok (.iload 7, 2) := by decide +kernel
theorem dL_isSo_62 : decode cL_isSo 62 = .ok (.iload 8, 2) := by decide +kernel
theorem dL_isSo_64 : decode cL_isSo 64 = .ok (.aload_n 3, 1) := by decide +kernel
theorem dL_isSo_65 : decode cL_isSo 65 = .ok (.aload 6, 2) := by decide +kernel
theorem dL_isSo_67 : decode cL_isSo 67 = .ok (.invokestatic 45, 3) := by decide +kernel
theorem dL_isSo_70 : decode cL_isSo 70 = .ok (.if_icmp .ne 7, 3) := by decide +kernel
theorem dL_isSo_73 : decode cL_isSo 73 = .ok (.iconst 1, 1) := by decide +kernel
theorem dL_isSo_74 : decode cL_isSo 74 = .ok (.goto 4, 3) := by decide +kernel
theorem dL_isSo_77 : decode cL_isSo 77 = .ok (.iconst 0, 1) := by decide +kernel
theorem dL_isSo_78 : decode cL_isSo 78 = .ok (.istore 9, 2) := by decide +kernel
theorem dL_isSo_80 : decode cL_isSo 80 = .ok (.iconst 0, 1) := by decide +kernel
theorem dL_isSo_81 : decode cL_isSo 81 = .ok (.istore 10, 2) := by decide +kernel
theorem dL_isSo_83 : decode cL_isSo 83 = .ok (.iload 10, 2) := by decide +kernel
theorem dL_isSo_85 : decode cL_isSo 85 = .ok (.bipush 6, 2) := by decide +kernel
theorem dL_isSo_87 : decode cL_isSo 87 = .ok (.if_icmp .ge 131, 3) := by decide +kernel
theorem dL_isSo_90 : decode cL_isSo 90 = .ok (.iload 9, 2) := by decide +kernel
theorem dL_isSo_92 : decode cL_isSo 92 = .ok (.ifCond .eq 126, 3) := by decide +kernel
theorem dL_isSo_95 : decode cL_isSo 95 = .ok (.aload 5, 2) := by decide +kernel
theorem dL_isSo_97 : decode cL_isSo 97 = .ok (.bipush 24, 2) := by decide +kernel
theorem dL_isSo_99 : decode cL_isSo 99 = .ok (.iload 10, 2) := by decide +kernel
theorem dL_isSo_101 : decode cL_isSo 101 = .ok (.iadd, 1) := by decide +kernel
theorem dL_isSo_102 : decode cL_isSo 102 = .ok (.iaload, 1) := by decide +kernel
theorem dL_isSo_103 : decode cL_isSo 103 = .ok (.ineg, 1) := by decide +kernel
theorem dL_isSo_104 : decode cL_isSo 104 = .ok (.istore 11, 2) := by decide +kernel
theorem dL_isSo_106 : decode cL_isSo 106 = .ok (.iconst 0, 1) := by decide +kernel
theorem dL_isSo_107 : decode cL_isSo 107 = .ok (.istore 12, 2) := by decide +kernel
theorem dL_isSo_109 : decode cL_isSo 109 = .ok (.iload 12, 2) := by decide +kernel
theorem dL_isSo_111 : decode cL_isSo 111 = .ok (.aload 6, 2) := by decide +kernel
theorem dL_isSo_113 : decode cL_isSo 113 = .ok (.iconst 2, 1) := by decide +kernel
theorem dL_isSo_114 : decode cL_isSo 114 = .ok (.iaload, 1) := by decide +kernel
theorem dL_isSo_115 : decode cL_isSo 115 = .ok (.if_icmp .ge 45, 3) := by decide +kernel
theorem dL_isSo_118 : decode cL_isSo 118 = .ok (.iload 11, 2) := by decide +kernel
theorem dL_isSo_120 : decode cL_isSo 120 = .ok (.aload 4, 2) := by decide +kernel
theorem dL_isSo_122 : decode cL_isSo 122 = .ok (.bipush 6, 2) := by decide +kernel
theorem dL_isSo_124 : decode cL_isSo 124 = .ok (.iload 12, 2) := by decide +kernel
theorem dL_isSo_126 : decode cL_isSo 126 = .ok (.imul, 1) := by decide +kernel
theorem dL_isSo_127 : decode cL_isSo 127 = .ok (.iaload, 1) := by decide +kernel
theorem dL_isSo_128 : decode cL_isSo 128 = .ok (.bipush 36, 2) := by decide +kernel
theorem dL_isSo_130 : decode cL_isSo 130 = .ok (.idiv, 1) := by decide +kernel
theorem dL_isSo_131 : decode cL_isSo 131 = .ok (.iload 10, 2) := by decide +kernel
theorem dL_isSo_133 : decode cL_isSo 133 = .ok (.if_icmp .ne 17, 3) := by decide +kernel
theorem dL_isSo_136 : decode cL_isSo 136 = .ok (.iload 12, 2) := by decide +kernel
theorem dL_isSo_138 : decode cL_isSo 138 = .ok (.aload_n 2, 1) := by decide +kernel
theorem dL_isSo_139 : decode cL_isSo 139 = .ok (.aload_n 3, 1) := by decide +kernel
theorem dL_isSo_140 : decode cL_isSo 140 = .ok (.aload 4, 2) := by decide +kernel
theorem dL_isSo_142 : decode cL_isSo 142 = .ok (.aload 6, 2) := by decide +kernel
theorem dL_isSo_144 : decode cL_isSo 144 = .ok (.invokestatic 56, 3) := by decide +kernel
theorem dL_isSo_147 : decode cL_isSo 147 = .ok (.goto 4, 3) := by decide +kernel
theorem dL_isSo_150 : decode cL_isSo 150 = .ok (.iconst 0, 1) := by decide +kernel
theorem dL_isSo_151 : decode cL_isSo 151 = .ok (.iadd, 1) := by decide +kernel
theorem dL_isSo_152 : decode cL_isSo 152 = .ok (.istore 11, 2) := by decide +kernel
theorem dL_isSo_154 : decode cL_isSo 154 = .ok (.iinc 12 1, 3) := by decide +kernel
theorem dL_isSo_157 : decode cL_isSo 157 = .ok (.goto (-48), 3) := by decide +kernel
theorem dL_isSo_160 : decode cL_isSo 160 = .ok (.aload_n 0, 1) := by decide +kernel
theorem dL_isSo_161 : decode cL_isSo 161 = .ok (.iload 10, 2) := by decide +kernel
theorem dL_isSo_163 : decode cL_isSo 163 = .ok (.invokevirtual 109, 3) := by decide +kernel
theorem dL_isSo_166 : decode cL_isSo 166 = .ok (.aload 5, 2) := by decide +kernel
theorem dL_isSo_168 : decode cL_isSo 168 = .ok (.bipush 6, 2) := by decide +kernel
theorem dL_isSo_170 : decode cL_isSo 170 = .ok (.iload 10, 2) := by decide +kernel
theorem dL_isSo_172 : decode cL_isSo 172 = .ok (.iadd, 1) := by decide +kernel
theorem dL_isSo_173 : decode cL_isSo 173 = .ok (.iaload, 1) := by decide +kernel
theorem dL_isSo_174 : decode cL_isSo 174 = .ok (.if_icmp .ne 35, 3) := by decide +kernel
theorem dL_isSo_177 : decode cL_isSo 177 = .ok (.aload_n 0, 1) := by decide +kernel
theorem dL_isSo_178 : decode cL_isSo 178 = .ok (.iload 10, 2) := by decide +kernel
theorem dL_isSo_180 : decode cL_isSo 180 = .ok (.invokevirtual 112, 3) := by decide +kernel
theorem dL_isSo_183 : decode cL_isSo 183 = .ok (.aload 5, 2) := by decide +kernel
theorem dL_isSo_185 : decode cL_isSo 185 = .ok (.bipush 12, 2) := by decide +kernel
theorem dL_isSo_187 : decode cL_isSo 187 = .ok (.iload 10, 2) := by decide +kernel
theorem dL_isSo_189 : decode cL_isSo 189 = .ok (.iadd, 1) := by decide +kernel
theorem dL_isSo_190 : decode cL_isSo 190 = .ok (.iaload, 1) := by decide +kernel
theorem dL_isSo_191 : decode cL_isSo 191 = .ok (.if_icmp .ne 18, 3) := by decide +kernel
theorem dL_isSo_194 : decode cL_isSo 194 = .ok (.aload_n 0, 1) := by decide +kernel
theorem dL_isSo_195 : decode cL_isSo 195 = .ok (.iload 10, 2) := by decide +kernel
theorem dL_isSo_197 : decode cL_isSo 197 = .ok (.invokevirtual 115, 3) := by decide +kernel
theorem dL_isSo_200 : decode cL_isSo 200 = .ok (.iload 11, 2) := by decide +kernel
theorem dL_isSo_202 : decode cL_isSo 202 = .ok (.if_icmp .ne 7, 3) := by decide +kernel
theorem dL_isSo_205 : decode cL_isSo 205 = .ok (.iconst 1, 1) := by decide +kernel
theorem dL_isSo_206 : decode cL_isSo 206 = .ok (.goto 4, 3) := by decide +kernel
theorem dL_isSo_209 : decode cL_isSo 209 = .ok (.iconst 0, 1) := by decide +kernel
theorem dL_isSo_210 : decode cL_isSo 210 = .ok (.istore 9, 2) := by decide +kernel
theorem dL_isSo_212 : decode cL_isSo 212 = .ok (.iinc 10 1, 3) := by decide +kernel
theorem dL_isSo_215 : decode cL_isSo 215 = .ok (.goto (-132), 3) := by decide +kernel
theorem dL_isSo_218 : decode cL_isSo 218 = .ok (.iconst 0, 1) := by decide +kernel
theorem dL_isSo_219 : decode cL_isSo 219 = .ok (.istore 10, 2) := by decide +kernel
theorem dL_isSo_221 : decode cL_isSo 221 = .ok (.iload 10, 2) := by decide +kernel
theorem dL_isSo_223 : decode cL_isSo 223 = .ok (.aload 6, 2) := by decide +kernel
theorem dL_isSo_225 : decode cL_isSo 225 = .ok (.iconst 2, 1) := by decide +kernel
theorem dL_isSo_226 : decode cL_isSo 226 = .ok (.iaload, 1) := by decide +kernel
theorem dL_isSo_227 : decode cL_isSo 227 = .ok (.if_icmp .ge 131, 3) := by decide +kernel
theorem dL_isSo_230 : decode cL_isSo 230 = .ok (.iload 9, 2) := by decide +kernel
theorem dL_isSo_232 : decode cL_isSo 232 = .ok (.ifCond .eq 126, 3) := by decide +kernel
theorem dL_isSo_235 : decode cL_isSo 235 = .ok (.iload 10, 2) := by decide +kernel
theorem dL_isSo_237 : decode cL_isSo 237 = .ok (.aload_n 2, 1) := by decide +kernel
theorem dL_isSo_238 : decode cL_isSo 238 = .ok (.aload_n 3, 1) := by decide +kernel
theorem dL_isSo_239 : decode cL_isSo 239 = .ok (.aload 4, 2) := by decide +kernel
theorem dL_isSo_241 : decode cL_isSo 241 = .ok (.aload 6, 2) := by decide +kernel
theorem dL_isSo_243 : decode cL_isSo 243 = .ok (.invokestatic 56, 3) := by decide +kernel
theorem dL_isSo_246 : decode cL_isSo 246 = .ok (.istore 11, 2) := by decide +kernel
theorem dL_isSo_248 : decode cL_isSo 248 = .ok (.iload_n 1, 1) := by decide +kernel
theorem dL_isSo_249 : decode cL_isSo 249 = .ok (.iconst 2, 1) := by decide +kernel
theorem dL_isSo_250 : decode cL_isSo 250 = .ok (.ishr, 1) := by decide +kernel
theorem dL_isSo_251 : decode cL_isSo 251 = .ok (.bipush 40, 2) := by decide +kernel
theorem dL_isSo_253 : decode cL_isSo 253 = .ok (.invokestatic 93, 3) := by decide +kernel
theorem dL_isSo_256 : decode cL_isSo 256 = .ok (.istore 12, 2) := by decide +kernel
theorem dL_isSo_258 : decode cL_isSo 258 = .ok (.aload_n 0, 1) := by decide +kernel
theorem dL_isSo_259 : decode cL_isSo 259 = .ok (.iload 10, 2) := by decide +kernel
theorem dL_isSo_261 : decode cL_isSo 261 = .ok (.invokevirtual 118, 3) := by decide +kernel
theorem dL_isSo_264 : decode cL_isSo 264 = .ok (.iload 11, 2) := by decide +kernel
theorem dL_isSo_266 : decode cL_isSo 266 = .ok (.if_icmp .ne 83, 3) := by decide +kernel
theorem dL_isSo_269 : decode cL_isSo 269 = .ok (.aload_n 0, 1) := by decide +kernel
theorem dL_isSo_270 : decode cL_isSo 270 = .ok (.iload 10, 2) := by decide +kernel
theorem dL_isSo_272 : decode cL_isSo 272 = .ok (.invokevirtual 121, 3) := by decide +kernel
theorem dL_isSo_275 : decode cL_isSo 275 = .ok (.iload 11, 2) := by decide +kernel
theorem dL_isSo_277 : decode cL_isSo 277 = .ok (.if_icmp .ne 72, 3) := by decide +kernel
theorem dL_isSo_280 : decode cL_isSo 280 = .ok (.aload_n 0, 1) := by decide +kernel
theorem dL_isSo_281 : decode cL_isSo 281 = .ok (.iload 10, 2) := by decide +kernel
theorem dL_isSo_283 : decode cL_isSo 283 = .ok (.invokevirtual 124, 3) := by decide +kernel
theorem dL_isSo_286 : decode cL_isSo 286 = .ok (.aload 4, 2) := by decide +kernel
theorem dL_isSo_288 : decode cL_isSo 288 = .ok (.bipush 6, 2) := by decide +kernel
theorem dL_isSo_290 : decode cL_isSo 290 = .ok (.iload 10, 2) := by decide +kernel
theorem dL_isSo_292 : decode cL_isSo 292 = .ok (.imul, 1) := by decide +kernel
theorem dL_isSo_293 : decode cL_isSo 293 = .ok (.iconst 5, 1) := by decide +kernel
theorem dL_isSo_294 : decode cL_isSo 294 = .ok (.iadd, 1) := by decide +kernel
theorem dL_isSo_295 : decode cL_isSo 295 = .ok (.iaload, 1) := by decide +kernel
theorem dL_isSo_296 : decode cL_isSo 296 = .ok (.if_icmp .ne 53, 3) := by decide +kernel
theorem dL_isSo_299 : decode cL_isSo 299 = .ok (.aload_n 0, 1) := by decide +kernel
theorem dL_isSo_300 : decode cL_isSo 300 = .ok (.iload 10, 2) := by decide +kernel
theorem dL_isSo_302 : decode cL_isSo 302 = .ok (.iload 12, 2) := by decide +kernel
theorem dL_isSo_304 : decode cL_isSo 304 = .ok (.invokevirtual 127, 3) := by decide +kernel
theorem dL_isSo_307 : decode cL_isSo 307 = .ok (.iload 12, 2) := by decide +kernel
theorem dL_isSo_309 : decode cL_isSo 309 = .ok (.aload 4, 2) := by decide +kernel
theorem dL_isSo_311 : decode cL_isSo 311 = .ok (.bipush 6, 2) := by decide +kernel
theorem dL_isSo_313 : decode cL_isSo 313 = .ok (.iload 10, 2) := by decide +kernel
theorem dL_isSo_315 : decode cL_isSo 315 = .ok (.imul, 1) := by decide +kernel
theorem dL_isSo_316 : decode cL_isSo 316 = .ok (.iconst 3, 1) := by decide +kernel
theorem dL_isSo_317 : decode cL_isSo 317 = .ok (.iadd, 1) := by decide +kernel
theorem dL_isSo_318 : decode cL_isSo 318 = .ok (.iaload, 1) := by decide +kernel
theorem dL_isSo_319 : decode cL_isSo 319 = .ok (.if_icmp .lt 22, 3) := by decide +kernel
theorem dL_isSo_322 : decode cL_isSo 322 = .ok (.iload 12, 2) := by decide +kernel
theorem dL_isSo_324 : decode cL_isSo 324 = .ok (.aload 4, 2) := by decide +kernel
theorem dL_isSo_326 : decode cL_isSo 326 = .ok (.bipush 6, 2) := by decide +kernel
theorem dL_isSo_328 : decode cL_isSo 328 = .ok (.iload 10, 2) := by decide +kernel
theorem dL_isSo_330 : decode cL_isSo 330 = .ok (.imul, 1) := by decide +kernel
theorem dL_isSo_331 : decode cL_isSo 331 = .ok (.iconst 4, 1) := by decide +kernel
theorem dL_isSo_332 : decode cL_isSo 332 = .ok (.iadd, 1) := by decide +kernel
theorem dL_isSo_333 : decode cL_isSo 333 = .ok (.iaload, 1) := by decide +kernel
theorem dL_isSo_334 : decode cL_isSo 334 = .ok (.if_icmp .ge 7, 3) := by decide +kernel
theorem dL_isSo_337 : decode cL_isSo 337 = .ok (.iconst 1, 1) := by decide +kernel
theorem dL_isSo_338 : decode cL_isSo 338 = .ok (.goto 4, 3) := by decide +kernel
theorem dL_isSo_341 : decode cL_isSo 341 = .ok (.iconst 0, 1) := by decide +kernel
theorem dL_isSo_342 : decode cL_isSo 342 = .ok (.if_icmp .ne 7, 3) := by decide +kernel
theorem dL_isSo_345 : decode cL_isSo 345 = .ok (.iconst 1, 1) := by decide +kernel
theorem dL_isSo_346 : decode cL_isSo 346 = .ok (.goto 4, 3) := by decide +kernel
theorem dL_isSo_349 : decode cL_isSo 349 = .ok (.iconst 0, 1) := by decide +kernel
theorem dL_isSo_350 : decode cL_isSo 350 = .ok (.istore 9, 2) := by decide +kernel
theorem dL_isSo_352 : decode cL_isSo 352 = .ok (.iinc 10 1, 3) := by decide +kernel
theorem dL_isSo_355 : decode cL_isSo 355 = .ok (.goto (-134), 3) := by decide +kernel
theorem dL_isSo_358 : decode cL_isSo 358 = .ok (.iload 9, 2) := by decide +kernel
theorem dL_isSo_360 : decode cL_isSo 360 = .ok (.ireturn, 1) := by decide +kernel
set_option maxRecDepth 20000 in
theorem ggL_leases_L_low : GoodIn wsL_leases wsL_low := goodIn_r _ [5, 6] (by decide +kernel) (by decide +kernel)
set_option maxRecDepth 20000 in
theorem gL_leases_L_low : GoodIn wsL_leases (va_wsS RL 93 yL_low wsL_low) := goodIn_app (goodIn_of _ (by decide +kernel)) ggL_leases_L_low
set_option maxRecDepth 20000 in
theorem ggL_leases_L_calls : GoodIn wsL_leases wsL_calls := goodIn_ca (goodIn_ca (goodIn_ca (goodIn_r _ [9, 10, 1, 11, 12, 13, 14, 15, 16, 17, 18, 19, 20, 21, 22, 23, 24, 25, 26, 27, 28, 29, 30, 31, 32, 33, 34, 35, 36, 37, 38, 39, 40, 41, 42, 43, 44, 45, 46, 47, 48, 49, 50, 51, 52, 53, 54, 55, 56, 57, 58, 59, 60, 61, 62, 63, 64, 65, 66, 67, 68, 69, 70, 71, 72, 73, 74, 75, 76, 77, 78, 79, 80, 81, 82, 83, 84, 85, 86, 87, 88, 89, 90, 91, 92, 93, 94, 95, 96, 97, 98, 99, 100, 101, 102, 103, 104, 105, 106, 107, 108, 109, 110, 111, 112, 113, 114, 115, 116, 117, 118, 119, 120, 121, 122, 123, 124, 125, 126, 127, 128, 129, 130, 131, 132, 133, 134, 135, 136, 137, 138, 139, 140, 141, 142, 143, 144, 145, 146, 147, 148, 149, 150, 151, 152, 153, 154, 155, 156, 157, 158, 159, 160, 161, 162, 163, 164, 165, 166, 167, 168, 169, 170, 171, 172, 173, 174, 175, 176, 177, 178, 179, 180, 181, 182, 183, 184, 185, 186, 187, 188, 189, 190, 191, 192, 193, 194, 195, 196, 197, 198, 199, 200, 201, 202, 203, 204, 205, 206, 207, 208, 209, 210, 211, 212, 213, 214, 215, 216, 217, 218, 219, 220, 221, 222, 223, 224, 225, 226, 227, 228, 229, 230, 231, 232, 233, 234, 235, 236, 237, 238, 239, 240, 241, 242, 243, 244, 245, 246, 247, 248, 249, 250, 251, 252, 253, 254, 255, 256, 257, 258, 259, 260, 261, 262, 263, 264, 265, 266, 267, 268, 269, 270, 271, 272, 273, 274, 275, 276, 277, 278, 279, 280, 281, 282, 283, 284, 285, 286, 287, 288, 289, 290, 291, 292, 293, 294, 295, 296, 297, 298, 299, 300, 301, 302, 303, 304, 305, 306, 307, 308, 309, 310, 311, 312, 313, 314, 315, 316, 317, 318, 319, 320, 321, 322, 323, 324, 325, 326, 327, 328, 329, 330, 331, 332, 333, 334, 335, 336, 337, 338, 339, 340, 341, 342, 343, 344, 345, 346] (by decide +kernel) (by decide +kernel)) (goodIn_sub (fun _ h => List.mem_cons_of_mem _ (List.mem_append_left _ (List.mem_append_left _ (List.mem_append_right _ h)))) (by decide +kernel))) (goodIn_sub (fun _ h => List.mem_cons_of_mem _ (List.mem_append_left _ (List.mem_append_right _ h))) (by decide +kernel))) (goodIn_sub (fun _ h => List.mem_cons_of_mem _ (List.mem_append_right _ h)) (by decide +kernel))
set_option maxRecDepth 20000 in
theorem gL_leases_L_calls : GoodIn wsL_leases (va_wsS RL 131 yL_calls wsL_calls) := goodIn_app (goodIn_of _ (by decide +kernel)) ggL_leases_L_calls
theorem dL_leases_0 : decode cL_leases 0 = .ok (.iload_n 1, 1) := by decide +kernel
theorem dL_leases_1 : decode cL_leases 1 = .ok (.ifCond .ne 323, 3) := by decide +kernel
theorem dL_leases_4 : decode cL_leases 4 = .ok (.iload_n 2, 1) := by decide +kernel
theorem dL_leases_5 : decode cL_leases 5 = .ok (.iload_n 2, 1) := by decide +kernel
theorem dL_leases_6 : decode cL_leases 6 = .ok (.bipush 9, 2) := by decide +kernel
theorem dL_leases_8 : decode cL_leases 8 = .ok (.ishr, 1) := by decide +kernel
theorem dL_leases_9 : decode cL_leases 9 = .ok (.iconst 2, 1) := by decide +kernel
theorem dL_leases_10 : decode cL_leases 10 = .ok (.invokestatic 93, 3) := by decide +kernel
theorem dL_leases_13 : decode cL_leases 13 = .ok (.ifCond .ne 8, 3) := by decide +kernel
theorem dL_leases_16 : decode cL_leases 16 = .ok (.bipush 36, 2) := by decide +kernel
theorem dL_leases_18 : decode cL_leases 18 = .ok (.goto 5, 3) := by decide +kernel
theorem dL_leases_21 : decode cL_leases 21 = .ok (.bipush 8, 2) := by decide +kernel
theorem dL_leases_23 : decode cL_leases 23 = .ok (.invokestatic 93, 3) := by decide +kernel
theorem dL_leases_26 : decode cL_leases 26 = .ok (.istore 5, 2) := by decide +kernel
theorem dL_leases_28 : decode cL_leases 28 = .ok (.iload_n 2, 1) := by decide +kernel
theorem dL_leases_29 : decode cL_leases 29 = .ok (.iconst 3, 1) := by decide +kernel
theorem dL_leases_30 : decode cL_leases 30 = .ok (.ishr, 1) := by decide +kernel
theorem dL_leases_31 : decode cL_leases 31 = .ok (.bipush 6, 2) := by decide +kernel
theorem dL_leases_33 : decode cL_leases 33 = .ok (.invokestatic 93, 3) := by decide +kernel
theorem dL_leases_36 : decode cL_leases 36 = .ok (.istore 6, 2) := by decide +kernel
theorem dL_leases_38 : decode cL_leases 38 = .ok (.iload_n 2, 1) := by decide +kernel
theorem dL_leases_39 : decode cL_leases 39 = .ok (.iconst 5, 1) := by decide +kernel
theorem dL_leases_40 : decode cL_leases 40 = .ok (.ishr, 1) := by decide +kernel
theorem dL_leases_41 : decode cL_leases 41 = .ok (.bipush 51, 2) := by decide +kernel
theorem dL_leases_43 : decode cL_leases 43 = .ok (.invokestatic 93, 3) := by decide +kernel
theorem dL_leases_46 : decode cL_leases 46 = .ok (.istore 7, 2) := by decide +kernel
theorem dL_leases_48 : decode cL_leases 48 = .ok (.iload_n 2, 1) := by decide +kernel
theorem dL_leases_49 : decode cL_leases 49 = .ok (.bipush 7, 2) := by decide +kernel
theorem dL_leases_51 : decode cL_leases 51 = .ok (.ishr, 1) := by decide +kernel
theorem dL_leases_52 : decode cL_leases 52 = .ok (.bipush 51, 2) := by decide +kernel
theorem dL_leases_54 : decode cL_leases 54 = .ok (.invokestatic 93, 3) := by decide +kernel
theorem dL_leases_57 : decode cL_leases 57 = .ok (.istore 8, 2) := by decide +kernel
theorem dL_leases_59 : decode cL_leases 59 = .ok (.iconst 1, 1) := by decide +kernel
theorem dL_leases_60 : decode cL_leases 60 = .ok (.iload_n 2, 1) := by decide +kernel
theorem dL_leases_61 : decode cL_leases 61 = .ok (.bipush 9, 2) := by decide +kernel
theorem dL_leases_63 : decode cL_leases 63 = .ok (.ishr, 1) := by decide +kernel
theorem dL_leases_64 : decode cL_leases 64 = .ok (.iload_n 2, 1) := by decide +kernel
theorem dL_leases_65 : decode cL_leases 65 = .ok (.bipush 11, 2) := by decide +kernel
theorem dL_leases_67 : decode cL_leases 67 = .ok (.ishr, 1) := by decide +kernel
theorem dL_leases_68 : decode cL_leases 68 = .ok (.iconst 3, 1) := by decide +kernel
theorem dL_leases_69 : decode cL_leases 69 = .ok (.invokestatic 93, 3) := by decide +kernel
theorem dL_leases_72 : decode cL_leases 72 = .ok (.ifCond .ne 8, 3) := by decide +kernel
theorem dL_leases_75 : decode cL_leases 75 = .ok (.bipush 100, 2) := by decide +kernel
theorem dL_leases_77 : decode cL_leases 77 = .ok (.goto 5, 3) := by decide +kernel
theorem dL_leases_80 : decode cL_leases 80 = .ok (.bipush 6, 2) := by decide +kernel
theorem dL_leases_82 : decode cL_leases 82 = .ok (.invokestatic 93, 3) := by decide +kernel
theorem dL_leases_85 : decode cL_leases 85 = .ok (.iadd, 1) := by decide +kernel
theorem dL_leases_86 : decode cL_leases 86 = .ok (.istore 9, 2) := by decide +kernel
theorem dL_leases_88 : decode cL_leases 88 = .ok (.aload 4, 2) := by decide +kernel
theorem dL_leases_90 : decode cL_leases 90 = .ok (.iconst 2, 1) := by decide +kernel
theorem dL_leases_91 : decode cL_leases 91 = .ok (.iaload, 1) := by decide +kernel
theorem dL_leases_92 : decode cL_leases 92 = .ok (.bipush 10, 2) := by decide +kernel
theorem dL_leases_94 : decode cL_leases 94 = .ok (.if_icmp .ge 7, 3) := by decide +kernel
theorem dL_leases_97 : decode cL_leases 97 = .ok (.iconst 1, 1) := by decide +kernel
theorem dL_leases_98 : decode cL_leases 98 = .ok (.goto 4, 3) := by decide +kernel
theorem dL_leases_101 : decode cL_leases 101 = .ok (.iconst 0, 1) := by decide +kernel
theorem dL_leases_102 : decode cL_leases 102 = .ok (.istore 10, 2) := by decide +kernel
theorem dL_leases_104 : decode cL_leases 104 = .ok (.iconst 0, 1) := by decide +kernel
theorem dL_leases_105 : decode cL_leases 105 = .ok (.istore 11, 2) := by decide +kernel
theorem dL_leases_107 : decode cL_leases 107 = .ok (.iload 11, 2) := by decide +kernel
theorem dL_leases_109 : decode cL_leases 109 = .ok (.aload 4, 2) := by decide +kernel
theorem dL_leases_111 : decode cL_leases 111 = .ok (.iconst 2, 1) := by decide +kernel
theorem dL_leases_112 : decode cL_leases 112 = .ok (.iaload, 1) := by decide +kernel
theorem dL_leases_113 : decode cL_leases 113 = .ok (.if_icmp .ge 71, 3) := by decide +kernel
theorem dL_leases_116 : decode cL_leases 116 = .ok (.iload 10, 2) := by decide +kernel
theorem dL_leases_118 : decode cL_leases 118 = .ok (.ifCond .eq 57, 3) := by decide +kernel
theorem dL_leases_121 : decode cL_leases 121 = .ok (.aload_n 3, 1) := by decide +kernel
theorem dL_leases_122 : decode cL_leases 122 = .ok (.bipush 6, 2) := by decide +kernel
theorem dL_leases_124 : decode cL_leases 124 = .ok (.iload 11, 2) := by decide +kernel
theorem dL_leases_126 : decode cL_leases 126 = .ok (.imul, 1) := by decide +kernel
theorem dL_leases_127 : decode cL_leases 127 = .ok (.iaload, 1) := by decide +kernel
theorem dL_leases_128 : decode cL_leases 128 = .ok (.bipush 36, 2) := by decide +kernel
theorem dL_leases_130 : decode cL_leases 130 = .ok (.irem, 1) := by decide +kernel
theorem dL_leases_131 : decode cL_leases 131 = .ok (.iload 5, 2) := by decide +kernel
theorem dL_leases_133 : decode cL_leases 133 = .ok (.if_icmp .ne 38, 3) := by decide +kernel
theorem dL_leases_136 : decode cL_leases 136 = .ok (.aload_n 3, 1) := by decide +kernel
theorem dL_leases_137 : decode cL_leases 137 = .ok (.bipush 6, 2) := by decide +kernel
theorem dL_leases_139 : decode cL_leases 139 = .ok (.iload 11, 2) := by decide +kernel
theorem dL_leases_141 : decode cL_leases 141 = .ok (.imul, 1) := by decide +kernel
theorem dL_leases_142 : decode cL_leases 142 = .ok (.iconst 4, 1) := by decide +kernel
theorem dL_leases_143 : decode cL_leases 143 = .ok (.iadd, 1) := by decide +kernel
theorem dL_leases_144 : decode cL_leases 144 = .ok (.iaload, 1) := by decide +kernel
theorem dL_leases_145 : decode cL_leases 145 = .ok (.aload 4, 2) := by decide +kernel
theorem dL_leases_147 : decode cL_leases 147 = .ok (.iconst 0, 1) := by decide +kernel
theorem dL_leases_148 : decode cL_leases 148 = .ok (.iaload, 1) := by decide +kernel
theorem dL_leases_149 : decode cL_leases 149 = .ok (.if_icmp .le 22, 3) := by decide +kernel
theorem dL_leases_152 : decode cL_leases 152 = .ok (.aload_n 3, 1) := by decide +kernel
theorem dL_leases_153 : decode cL_leases 153 = .ok (.bipush 6, 2) := by decide +kernel
theorem dL_leases_155 : decode cL_leases 155 = .ok (.iload 11, 2) := by decide +kernel
theorem dL_leases_157 : decode cL_leases 157 = .ok (.imul, 1) := by decide +kernel
theorem dL_leases_158 : decode cL_leases 158 = .ok (.iconst 3, 1) := by decide +kernel
theorem dL_leases_159 : decode cL_leases 159 = .ok (.iadd, 1) := by decide +kernel
theorem dL_leases_160 : decode cL_leases 160 = .ok (.iaload, 1) := by decide +kernel
theorem dL_leases_161 : decode cL_leases 161 = .ok (.aload 4, 2) := by decide +kernel
theorem dL_leases_163 : decode cL_leases 163 = .ok (.iconst 0, 1) := by decide +kernel
theorem dL_leases_164 : decode cL_leases 164 = .ok (.iaload, 1) := by decide +kernel
theorem dL_leases_165 : decode cL_leases 165 = .ok (.iload 9, 2) := by decide +kernel
theorem dL_leases_167 : decode cL_leases 167 = .ok (.iadd, 1) := by decide +kernel
theorem dL_leases_168 : decode cL_leases 168 = .ok (.if_icmp .lt 7, 3) := by decide +kernel
theorem dL_leases_171 : decode cL_leases 171 = .ok (.iconst 1, 1) := by decide +kernel
theorem dL_leases_172 : decode cL_leases 172 = .ok (.goto 4, 3) := by decide +kernel
theorem dL_leases_175 : decode cL_leases 175 = .ok (.iconst 0, 1) := by decide +kernel
theorem dL_leases_176 : decode cL_leases 176 = .ok (.istore 10, 2) := by decide +kernel
theorem dL_leases_178 : decode cL_leases 178 = .ok (.iinc 11 1, 3) := by decide +kernel
theorem dL_leases_181 : decode cL_leases 181 = .ok (.goto (-74), 3) := by decide +kernel
theorem dL_leases_184 : decode cL_leases 184 = .ok (.aload 4, 2) := by decide +kernel
theorem dL_leases_186 : decode cL_leases 186 = .ok (.iconst 2, 1) := by decide +kernel
theorem dL_leases_187 : decode cL_leases 187 = .ok (.iaload, 1) := by decide +kernel
theorem dL_leases_188 : decode cL_leases 188 = .ok (.bipush 10, 2) := by decide +kernel
theorem dL_leases_190 : decode cL_leases 190 = .ok (.if_icmp .ne 5, 3) := by decide +kernel
theorem dL_leases_193 : decode cL_leases 193 = .ok (.iconst 1, 1) := by decide +kernel
theorem dL_leases_194 : decode cL_leases 194 = .ok (.ireturn, 1) := by decide +kernel
theorem dL_leases_195 : decode cL_leases 195 = .ok (.iload 10, 2) := by decide +kernel
theorem dL_leases_197 : decode cL_leases 197 = .ok (.ifCond .eq 87, 3) := by decide +kernel
theorem dL_leases_200 : decode cL_leases 200 = .ok (.aload_n 3, 1) := by decide +kernel
theorem dL_leases_201 : decode cL_leases 201 = .ok (.bipush 6, 2) := by decide +kernel
theorem dL_leases_203 : decode cL_leases 203 = .ok (.aload 4, 2) := by decide +kernel
theorem dL_leases_205 : decode cL_leases 205 = .ok (.iconst 2, 1) := by decide +kernel
theorem dL_leases_206 : decode cL_leases 206 = .ok (.iaload, 1) := by decide +kernel
theorem dL_leases_207 : decode cL_leases 207 = .ok (.imul, 1) := by decide +kernel
theorem dL_leases_208 : decode cL_leases 208 = .ok (.iload 5, 2) := by decide +kernel
theorem dL_leases_210 : decode cL_leases 210 = .ok (.bipush 36, 2) := by decide +kernel
theorem dL_leases_212 : decode cL_leases 212 = .ok (.iload 6, 2) := by decide +kernel
theorem dL_leases_214 : decode cL_leases 214 = .ok (.imul, 1) := by decide +kernel
theorem dL_leases_215 : decode cL_leases 215 = .ok (.iadd, 1) := by decide +kernel
theorem dL_leases_216 : decode cL_leases 216 = .ok (.iastore, 1) := by decide +kernel
theorem dL_leases_217 : decode cL_leases 217 = .ok (.aload_n 3, 1) := by decide +kernel
theorem dL_leases_218 : decode cL_leases 218 = .ok (.bipush 6, 2) := by decide +kernel
theorem dL_leases_220 : decode cL_leases 220 = .ok (.aload 4, 2) := by decide +kernel
theorem dL_leases_222 : decode cL_leases 222 = .ok (.iconst 2, 1) := by decide +kernel
theorem dL_leases_223 : decode cL_leases 223 = .ok (.iaload, 1) := by decide +kernel
theorem dL_leases_224 : decode cL_leases 224 = .ok (.imul, 1) := by decide +kernel
theorem dL_leases_225 : decode cL_leases 225 = .ok (.iconst 1, 1) := by decide +kernel
theorem dL_leases_226 : decode cL_leases 226 = .ok (.iadd, 1) := by decide +kernel
theorem dL_leases_227 : decode cL_leases 227 = .ok (.iload 7, 2) := by decide +kernel
theorem dL_leases_229 : decode cL_leases 229 = .ok (.iastore, 1) := by decide +kernel
theorem dL_leases_230 : decode cL_leases 230 = .ok (.aload_n 3, 1) := by decide +kernel
theorem dL_leases_231 : decode cL_leases 231 = .ok (.bipush 6, 2) := by decide +kernel
theorem dL_leases_233 : decode cL_leases 233 = .ok (.aload 4, 2) := by decide +kernel
theorem dL_leases_235 : decode cL_leases 235 = .ok (.iconst 2, 1) := by decide +kernel
theorem dL_leases_236 : decode cL_leases 236 = .ok (.iaload, 1) := by decide +kernel
theorem dL_leases_237 : decode cL_leases 237 = .ok (.imul, 1) := by decide +kernel
theorem dL_leases_238 : decode cL_leases 238 = .ok (.iconst 2, 1) := by decide +kernel
theorem dL_leases_239 : decode cL_leases 239 = .ok (.iadd, 1) := by decide +kernel
theorem dL_leases_240 : decode cL_leases 240 = .ok (.iload 8, 2) := by decide +kernel
theorem dL_leases_242 : decode cL_leases 242 = .ok (.iastore, 1) := by decide +kernel
theorem dL_leases_243 : decode cL_leases 243 = .ok (.aload_n 3, 1) := by decide +kernel
theorem dL_leases_244 : decode cL_leases 244 = .ok (.bipush 6, 2) := by decide +kernel
theorem dL_leases_246 : decode cL_leases 246 = .ok (.aload 4, 2) := by decide +kernel
theorem dL_leases_248 : decode cL_leases 248 = .ok (.iconst 2, 1) := by decide +kernel
theorem dL_leases_249 : decode cL_leases 249 = .ok (.iaload, 1) := by decide +kernel
theorem dL_leases_250 : decode cL_leases 250 = .ok (.imul, 1) := by decide +kernel
theorem dL_leases_251 : decode cL_leases 251 = .ok (.iconst 3, 1) := by decide +kernel
theorem dL_leases_252 : decode cL_leases 252 = .ok (.iadd, 1) := by decide +kernel
theorem dL_leases_253 : decode cL_leases 253 = .ok (.aload 4, 2) := by decide +kernel
theorem dL_leases_255 : decode cL_leases 255 = .ok (.iconst 0, 1) := by decide +kernel
theorem dL_leases_256 : decode cL_leases 256 = .ok (.iaload, 1) := by decide +kernel
theorem dL_leases_257 : decode cL_leases 257 = .ok (.iastore, 1) := by decide +kernel
theorem dL_leases_258 : decode cL_leases 258 = .ok (.aload_n 3, 1) := by decide +kernel
theorem dL_leases_259 : decode cL_leases 259 = .ok (.bipush 6, 2) := by decide +kernel
theorem dL_leases_261 : decode cL_leases 261 = .ok (.aload 4, 2) := by decide +kernel
theorem dL_leases_263 : decode cL_leases 263 = .ok (.iconst 2, 1) := by decide +kernel
theorem dL_leases_264 : decode cL_leases 264 = .ok (.iaload, 1) := by decide +kernel
theorem dL_leases_265 : decode cL_leases 265 = .ok (.imul, 1) := by decide +kernel
theorem dL_leases_266 : decode cL_leases 266 = .ok (.iconst 4, 1) := by decide +kernel
theorem dL_leases_267 : decode cL_leases 267 = .ok (.iadd, 1) := by decide +kernel
theorem dL_leases_268 : decode cL_leases 268 = .ok (.aload 4, 2) := by decide +kernel
theorem dL_leases_270 : decode cL_leases 270 = .ok (.iconst 0, 1) := by decide +kernel
theorem dL_leases_271 : decode cL_leases 271 = .ok (.iaload, 1) := by decide +kernel
theorem dL_leases_272 : decode cL_leases 272 = .ok (.iload 9, 2) := by decide +kernel
theorem dL_leases_274 : decode cL_leases 274 = .ok (.iadd, 1) := by decide +kernel
theorem dL_leases_275 : decode cL_leases 275 = .ok (.iastore, 1) := by decide +kernel
theorem dL_leases_276 : decode cL_leases 276 = .ok (.aload 4, 2) := by decide +kernel
theorem dL_leases_278 : decode cL_leases 278 = .ok (.iconst 2, 1) := by decide +kernel
theorem dL_leases_279 : decode cL_leases 279 = .ok (.dup2, 1) := by decide +kernel
theorem dL_leases_280 : decode cL_leases 280 = .ok (.iaload, 1) := by decide +kernel
theorem dL_leases_281 : decode cL_leases 281 = .ok (.iconst 1, 1) := by decide +kernel
theorem dL_leases_282 : decode cL_leases 282 = .ok (.iadd, 1) := by decide +kernel
theorem dL_leases_283 : decode cL_leases 283 = .ok (.iastore, 1) := by decide +kernel
theorem dL_leases_284 : decode cL_leases 284 = .ok (.aload_n 0, 1) := by decide +kernel
theorem dL_leases_285 : decode cL_leases 285 = .ok (.iconst 1, 1) := by decide +kernel
theorem dL_leases_286 : decode cL_leases 286 = .ok (.iload 5, 2) := by decide +kernel
theorem dL_leases_288 : decode cL_leases 288 = .ok (.iload 6, 2) := by decide +kernel
theorem dL_leases_290 : decode cL_leases 290 = .ok (.iload 7, 2) := by decide +kernel
theorem dL_leases_292 : decode cL_leases 292 = .ok (.iload 8, 2) := by decide +kernel
theorem dL_leases_294 : decode cL_leases 294 = .ok (.iload 9, 2) := by decide +kernel
theorem dL_leases_296 : decode cL_leases 296 = .ok (.invokestatic 131, 3) := by decide +kernel
theorem dL_leases_299 : decode cL_leases 299 = .ok (.iload 10, 2) := by decide +kernel
theorem dL_leases_301 : decode cL_leases 301 = .ok (.ifCond .eq 12, 3) := by decide +kernel
theorem dL_leases_304 : decode cL_leases 304 = .ok (.aload 4, 2) := by decide +kernel
theorem dL_leases_306 : decode cL_leases 306 = .ok (.iconst 2, 1) := by decide +kernel
theorem dL_leases_307 : decode cL_leases 307 = .ok (.iaload, 1) := by decide +kernel
theorem dL_leases_308 : decode cL_leases 308 = .ok (.iconst 1, 1) := by decide +kernel
theorem dL_leases_309 : decode cL_leases 309 = .ok (.isub, 1) := by decide +kernel
theorem dL_leases_310 : decode cL_leases 310 = .ok (.goto 5, 3) := by decide +kernel
theorem dL_leases_313 : decode cL_leases 313 = .ok (.ldc 36, 2) := by decide +kernel
theorem dL_leases_315 : decode cL_leases 315 = .ok (.if_icmp .ne 7, 3) := by decide +kernel
theorem dL_leases_318 : decode cL_leases 318 = .ok (.iconst 1, 1) := by decide +kernel
theorem dL_leases_319 : decode cL_leases 319 = .ok (.goto 4, 3) := by decide +kernel
theorem dL_leases_322 : decode cL_leases 322 = .ok (.iconst 0, 1) := by decide +kernel
theorem dL_leases_323 : decode cL_leases 323 = .ok (.ireturn, 1) := by decide +kernel
theorem dL_leases_324 : decode cL_leases 324 = .ok (.aload 4, 2) := by decide +kernel
theorem dL_leases_326 : decode cL_leases 326 = .ok (.iconst 2, 1) := by decide +kernel
theorem dL_leases_327 : decode cL_leases 327 = .ok (.iaload, 1) := by decide +kernel
theorem dL_leases_328 : decode cL_leases 328 = .ok (.ifCond .ne 5, 3) := by decide +kernel
theorem dL_leases_331 : decode cL_leases 331 = .ok (.iconst 1, 1) := by decide +kernel
theorem dL_leases_332 : decode cL_leases 332 = .ok (.ireturn, 1) := by decide +kernel
theorem dL_leases_333 : decode cL_leases 333 = .ok (.iload_n 2, 1) := by decide +kernel
theorem dL_leases_334 : decode cL_leases 334 = .ok (.aload 4, 2) := by decide +kernel
theorem dL_leases_336 : decode cL_leases 336 = .ok (.iconst 2, 1) := by decide +kernel
theorem dL_leases_337 : decode cL_leases 337 = .ok (.iaload, 1) := by decide +kernel
theorem dL_leases_338 : decode cL_leases 338 = .ok (.invokestatic 93, 3) := by decide +kernel
theorem dL_leases_341 : decode cL_leases 341 = .ok (.istore 5, 2) := by decide +kernel
theorem dL_leases_343 : decode cL_leases 343 = .ok (.aload 4, 2) := by decide +kernel
theorem dL_leases_345 : decode cL_leases 345 = .ok (.iconst 4, 1) := by decide +kernel
theorem dL_leases_346 : decode cL_leases 346 = .ok (.iaload, 1) := by decide +kernel
theorem dL_leases_347 : decode cL_leases 347 = .ok (.iload 5, 2) := by decide +kernel
theorem dL_leases_349 : decode cL_leases 349 = .ok (.ishr, 1) := by decide +kernel
theorem dL_leases_350 : decode cL_leases 350 = .ok (.iconst 1, 1) := by decide +kernel
theorem dL_leases_351 : decode cL_leases 351 = .ok (.iand, 1) := by decide +kernel
theorem dL_leases_352 : decode cL_leases 352 = .ok (.ifCond .ne 23, 3) := by decide +kernel
theorem dL_leases_355 : decode cL_leases 355 = .ok (.aload_n 3, 1) := by decide +kernel
theorem dL_leases_356 : decode cL_leases 356 = .ok (.bipush 6, 2) := by decide +kernel
theorem dL_leases_358 : decode cL_leases 358 = .ok (.iload 5, 2) := by decide +kernel
theorem dL_leases_360 : decode cL_leases 360 = .ok (.imul, 1) := by decide +kernel
theorem dL_leases_361 : decode cL_leases 361 = .ok (.iconst 4, 1) := by decide +kernel
theorem dL_leases_362 : decode cL_leases 362 = .ok (.iadd, 1) := by decide +kernel
theorem dL_leases_363 : decode cL_leases 363 = .ok (.iaload, 1) := by decide +kernel
theorem dL_leases_364 : decode cL_leases 364 = .ok (.aload 4, 2) := by decide +kernel
theorem dL_leases_366 : decode cL_leases 366 = .ok (.iconst 0, 1) := by decide +kernel
theorem dL_leases_367 : decode cL_leases 367 = .ok (.iaload, 1) := by decide +kernel
theorem dL_leases_368 : decode cL_leases 368 = .ok (.if_icmp .le 7, 3) := by decide +kernel
theorem dL_leases_371 : decode cL_leases 371 = .ok (.iconst 1, 1) := by decide +kernel
theorem dL_leases_372 : decode cL_leases 372 = .ok (.goto 4, 3) := by decide +kernel
theorem dL_leases_375 : decode cL_leases 375 = .ok (.iconst 0, 1) := by decide +kernel
theorem dL_leases_376 : decode cL_leases 376 = .ok (.istore 6, 2) := by decide +kernel
theorem dL_leases_378 : decode cL_leases 378 = .ok (.aload_n 3, 1) := by decide +kernel
theorem dL_leases_379 : decode cL_leases 379 = .ok (.bipush 6, 2) := by decide +kernel
theorem dL_leases_381 : decode cL_leases 381 = .ok (.iload 5, 2) := by decide +kernel
theorem dL_leases_383 : decode cL_leases 383 = .ok (.imul, 1) := by decide +kernel
theorem dL_leases_384 : decode cL_leases 384 = .ok (.iconst 4, 1) := by decide +kernel
theorem dL_leases_385 : decode cL_leases 385 = .ok (.iadd, 1) := by decide +kernel
theorem dL_leases_386 : decode cL_leases 386 = .ok (.iload 6, 2) := by decide +kernel
theorem dL_leases_388 : decode cL_leases 388 = .ok (.ifCond .eq 10, 3) := by decide +kernel
theorem dL_leases_391 : decode cL_leases 391 = .ok (.aload 4, 2) := by decide +kernel
theorem dL_leases_393 : decode cL_leases 393 = .ok (.iconst 0, 1) := by decide +kernel
theorem dL_leases_394 : decode cL_leases 394 = .ok (.iaload, 1) := by decide +kernel
theorem dL_leases_395 : decode cL_leases 395 = .ok (.goto 12, 3) := by decide +kernel
