set_option maxRecDepth 20000 in
theorem gX4_requireEnded_X4_requireWithin : GoodIn wsX4_requireEnded (va_wsS RX4 49 yX4_requireWithin wsX4_requireWithin) := goodIn_app (goodIn_of _ (by decide +kernel)) ggX4_requireEnded_X4_requireWithin
theorem dX4_requireEnded_0 : decode cX4_requireEnded 0 = .ok (.iload_n 1, 1) := by decide +kernel
theorem dX4_requireEnded_1 : decode cX4_requireEnded 1 = .ok (.iconst 0, 1) := by decide +kernel
theorem dX4_requireEnded_2 : decode cX4_requireEnded 2 = .ok (.aload_n 0, 1) := by decide +kernel
theorem dX4_requireEnded_3 : decode cX4_requireEnded 3 = .ok (.getfield 41, 3) := by decide +kernel
theorem dX4_requireEnded_6 : decode cX4_requireEnded 6 = .ok (.iconst 1, 1) := by decide +kernel
theorem dX4_requireEnded_7 : decode cX4_requireEnded 7 = .ok (.isub, 1) := by decide +kernel
theorem dX4_requireEnded_8 : decode cX4_requireEnded 8 = .ok (.invokestatic 49, 3) := by decide +kernel
theorem dX4_requireEnded_11 : decode cX4_requireEnded 11 = .ok (.return_, 1) := by decide +kernel
set_option maxRecDepth 20000 in
theorem ggX4_endedCell_X4_requireIndex : GoodIn wsX4_endedCell wsX4_requireIndex := goodIn_ca (goodIn_r _ [4, 5, 6] (by decide +kernel) (by decide +kernel)) (goodIn_sub (fun _ h => List.mem_cons_of_mem _ (List.mem_append_left _ (List.mem_append_right _ h))) (by decide +kernel))
set_option maxRecDepth 20000 in
theorem gX4_endedCell_X4_requireIndex : GoodIn wsX4_endedCell (va_wsS RX4 45 yX4_requireIndex wsX4_requireIndex) := goodIn_app (goodIn_of _ (by decide +kernel)) ggX4_endedCell_X4_requireIndex
set_option maxRecDepth 20000 in
theorem ggX4_endedCell_X4_requireEnded : GoodIn wsX4_endedCell wsX4_requireEnded := goodIn_ca (goodIn_r _ [10, 11, 12, 13, 3, 14, 15, 16, 20, 21, 22, 23, 24, 25] (by decide +kernel) (by decide +kernel)) (goodIn_sub (fun _ h => List.mem_cons_of_mem _ (List.mem_append_right _ h)) (by decide +kernel))
set_option maxRecDepth 20000 in
theorem gX4_endedCell_X4_requireEnded : GoodIn wsX4_endedCell (wsV RX4 84 RX4 yX4_requireEnded wsX4_requireEnded) := goodIn_app (goodIn_of _ (by decide +kernel)) ggX4_endedCell_X4_requireEnded
set_option maxRecDepth 20000 in
theorem ggX4_endedCell_X4_cell : GoodIn wsX4_endedCell wsX4_cell := goodIn_r _ [19] (by decide +kernel) (by decide +kernel)
set_option maxRecDepth 20000 in
theorem gX4_endedCell_X4_cell : GoodIn wsX4_endedCell (va_wsS RX4 95 yX4_cell wsX4_cell) := goodIn_app (goodIn_of _ (by decide +kernel)) ggX4_endedCell_X4_cell
theorem dX4_endedCell_0 : decode cX4_endedCell 0 = .ok (.iload_n 1, 1) := by decide +kernel
theorem dX4_endedCell_1 : decode cX4_endedCell 1 = .ok (.bipush 12, 2) := by decide +kernel
theorem dX4_endedCell_3 : decode cX4_endedCell 3 = .ok (.invokestatic 45, 3) := by decide +kernel
theorem dX4_endedCell_6 : decode cX4_endedCell 6 = .ok (.aload_n 0, 1) := by decide +kernel
theorem dX4_endedCell_7 : decode cX4_endedCell 7 = .ok (.iload_n 2, 1) := by decide +kernel
theorem dX4_endedCell_8 : decode cX4_endedCell 8 = .ok (.invokevirtual 84, 3) := by decide +kernel
theorem dX4_endedCell_11 : decode cX4_endedCell 11 = .ok (.iload_n 1, 1) := by decide +kernel
theorem dX4_endedCell_12 : decode cX4_endedCell 12 = .ok (.iload_n 2, 1) := by decide +kernel
theorem dX4_endedCell_13 : decode cX4_endedCell 13 = .ok (.invokestatic 95, 3) := by decide +kernel
theorem dX4_endedCell_16 : decode cX4_endedCell 16 = .ok (.ireturn, 1) := by decide +kernel
theorem dX4_cell_0 : decode cX4_cell 0 = .ok (.iload_n 1, 1) := by decide +kernel
theorem dX4_cell_1 : decode cX4_cell 1 = .ok (.bipush 12, 2) := by decide +kernel
theorem dX4_cell_3 : decode cX4_cell 3 = .ok (.imul, 1) := by decide +kernel
theorem dX4_cell_4 : decode cX4_cell 4 = .ok (.iload_n 0, 1) := by decide +kernel
theorem dX4_cell_5 : decode cX4_cell 5 = .ok (.iadd, 1) := by decide +kernel
theorem dX4_cell_6 : decode cX4_cell 6 = .ok (.ireturn, 1) := by decide +kernel
set_option maxRecDepth 20000 in
theorem ggX4_endHour_X0_takePlaces : GoodIn wsX4_endHour wsX0_takePlaces := goodIn_r _ [9, 10, 11, 12, 13, 14, 15, 8, 16, 17, 18, 19, 20, 21, 22, 23, 24, 25, 26, 27, 28, 29, 30, 31, 32, 33, 34, 35, 36, 37, 38, 39, 40, 41, 42, 43, 44, 45, 46, 47, 48, 49, 50, 161, 162, 163, 164, 165, 166, 167, 168, 169] (by decide +kernel) (by decide +kernel)
set_option maxRecDepth 20000 in
theorem gX4_endHour_X0_takePlaces : GoodIn wsX4_endHour (wsV RX4 216 RX0 yX0_takePlaces wsX0_takePlaces) := goodIn_app (goodIn_of _ (by decide +kernel)) ggX4_endHour_X0_takePlaces
set_option maxRecDepth 20000 in
theorem ggX4_endHour_X3_walk : GoodIn wsX4_endHour wsX3_walk := goodIn_r _ [55, 56, 57, 58, 59, 60, 61, 44, 45, 46, 62, 63, 64, 8, 65, 66, 67, 170, 171, 172, 173, 174, 161, 162, 163, 164, 165, 166, 167, 168, 169] (by decide +kernel) (by decide +kernel)
set_option maxRecDepth 20000 in
theorem gX4_endHour_X3_walk : GoodIn wsX4_endHour (wsV RX4 219 RX3 yX3_walk wsX3_walk) := goodIn_app (goodIn_of _ (by decide +kernel)) ggX4_endHour_X3_walk
set_option maxRecDepth 20000 in
theorem ggX4_endHour_X1_read : GoodIn wsX4_endHour wsX1_read := goodIn_r _ [72, 73, 74, 75, 76, 77, 44, 45, 46, 78, 79, 80, 71, 81, 82, 83, 84, 85, 86, 87, 88, 89, 90, 91, 92, 93, 94, 95, 96, 97, 98, 99, 100, 101, 102, 103, 104, 105, 106, 107, 108, 170, 171, 172, 173, 174, 175, 176, 177, 178, 179, 180, 181, 182] (by decide +kernel) (by decide +kernel)
set_option maxRecDepth 20000 in
theorem gX4_endHour_X1_read : GoodIn wsX4_endHour (wsV RX4 223 RX1 yX1_read wsX1_read) := goodIn_app (goodIn_of _ (by decide +kernel)) ggX4_endHour_X1_read
set_option maxRecDepth 20000 in
theorem ggX4_endHour_X4_billHour : GoodIn wsX4_endHour wsX4_billHour := goodIn_r _ [112, 113, 114, 2, 115, 4, 116, 117, 118, 119, 120, 121, 122, 123, 124, 125, 126, 127, 128, 129, 130, 131, 132, 133, 134, 135, 136, 137, 138, 139, 140, 141, 142, 143, 144, 145, 146, 147, 148, 44, 45, 46, 149, 150, 151, 152, 153, 154, 155, 156, 157, 158, 159, 160, 183, 184, 185, 186, 187, 188, 189, 190, 191, 175, 176, 177, 178, 179, 180, 181, 182, 192, 193, 194] (by decide +kernel) (by decide +kernel)
set_option maxRecDepth 20000 in
theorem gX4_endHour_X4_billHour : GoodIn wsX4_endHour (wsV RX4 227 RX4 yX4_billHour wsX4_billHour) := goodIn_app (goodIn_of _ (by decide +kernel)) ggX4_endHour_X4_billHour
theorem dX4_endHour_0 : decode cX4_endHour 0 = .ok (.aload_n 0, 1) := by decide +kernel
theorem dX4_endHour_1 : decode cX4_endHour 1 = .ok (.getfield 26, 3) := by decide +kernel
theorem dX4_endHour_4 : decode cX4_endHour 4 = .ok (.aload_n 0, 1) := by decide +kernel
theorem dX4_endHour_5 : decode cX4_endHour 5 = .ok (.getfield 41, 3) := by decide +kernel
theorem dX4_endHour_8 : decode cX4_endHour 8 = .ok (.invokevirtual 216, 3) := by decide +kernel
theorem dX4_endHour_11 : decode cX4_endHour 11 = .ok (.aload_n 0, 1) := by decide +kernel
theorem dX4_endHour_12 : decode cX4_endHour 12 = .ok (.getfield 12, 3) := by decide +kernel
theorem dX4_endHour_15 : decode cX4_endHour 15 = .ok (.aload_n 0, 1) := by decide +kernel
theorem dX4_endHour_16 : decode cX4_endHour 16 = .ok (.getfield 41, 3) := by decide +kernel
theorem dX4_endHour_19 : decode cX4_endHour 19 = .ok (.aload_n 0, 1) := by decide +kernel
theorem dX4_endHour_20 : decode cX4_endHour 20 = .ok (.getfield 26, 3) := by decide +kernel
theorem dX4_endHour_23 : decode cX4_endHour 23 = .ok (.invokevirtual 219, 3) := by decide +kernel
theorem dX4_endHour_26 : decode cX4_endHour 26 = .ok (.istore_n 1, 1) := by decide +kernel
theorem dX4_endHour_27 : decode cX4_endHour 27 = .ok (.aload_n 0, 1) := by decide +kernel
theorem dX4_endHour_28 : decode cX4_endHour 28 = .ok (.getfield 19, 3) := by decide +kernel
theorem dX4_endHour_31 : decode cX4_endHour 31 = .ok (.aload_n 0, 1) := by decide +kernel
theorem dX4_endHour_32 : decode cX4_endHour 32 = .ok (.getfield 41, 3) := by decide +kernel
theorem dX4_endHour_35 : decode cX4_endHour 35 = .ok (.aload_n 0, 1) := by decide +kernel
theorem dX4_endHour_36 : decode cX4_endHour 36 = .ok (.getfield 12, 3) := by decide +kernel
theorem dX4_endHour_39 : decode cX4_endHour 39 = .ok (.invokevirtual 223, 3) := by decide +kernel
theorem dX4_endHour_42 : decode cX4_endHour 42 = .ok (.aload_n 0, 1) := by decide +kernel
theorem dX4_endHour_43 : decode cX4_endHour 43 = .ok (.invokevirtual 227, 3) := by decide +kernel
theorem dX4_endHour_46 : decode cX4_endHour 46 = .ok (.aload_n 0, 1) := by decide +kernel
theorem dX4_endHour_47 : decode cX4_endHour 47 = .ok (.dup, 1) := by decide +kernel
theorem dX4_endHour_48 : decode cX4_endHour 48 = .ok (.getfield 41, 3) := by decide +kernel
theorem dX4_endHour_51 : decode cX4_endHour 51 = .ok (.iconst 1, 1) := by decide +kernel
theorem dX4_endHour_52 : decode cX4_endHour 52 = .ok (.iadd, 1) := by decide +kernel
theorem dX4_endHour_53 : decode cX4_endHour 53 = .ok (.putfield 41, 3) := by decide +kernel
theorem dX4_endHour_56 : decode cX4_endHour 56 = .ok (.iload_n 1, 1) := by decide +kernel
theorem dX4_endHour_57 : decode cX4_endHour 57 = .ok (.ireturn, 1) := by decide +kernel
set_option maxRecDepth 20000 in
theorem ggX4_billHour_Jx4a65c_size_8abf5 : GoodIn wsX4_billHour wsJx4a65c_size_8abf5 := goodIn_r _ [12, 13, 71, 72, 73] (by decide +kernel) (by decide +kernel)
set_option maxRecDepth 20000 in
theorem gX4_billHour_Jx4a65c_size_8abf5 : GoodIn wsX4_billHour (wsV RX4 98 RJx4a65c yJx4a65c_size_8abf5 wsJx4a65c_size_8abf5) := goodIn_app (goodIn_of _ (by decide +kernel)) ggX4_billHour_Jx4a65c_size_8abf5
set_option maxRecDepth 20000 in
theorem ggX4_billHour_Jx4a65c_get_915e3 : GoodIn wsX4_billHour wsJx4a65c_get_915e3 := goodIn_r _ [17, 13, 18, 19, 20, 21, 22, 23, 24, 25, 26, 27, 28, 11, 29, 30, 71, 72, 73] (by decide +kernel) (by decide +kernel)
set_option maxRecDepth 20000 in
theorem gX4_billHour_Jx4a65c_get_915e3 : GoodIn wsX4_billHour (wsV RX4 114 RJx4a65c yJx4a65c_get_915e3 wsJx4a65c_get_915e3) := goodIn_app (goodIn_of _ (by decide +kernel)) ggX4_billHour_Jx4a65c_get_915e3
set_option maxRecDepth 20000 in
theorem ggX4_billHour_X2_covers : GoodIn wsX4_billHour wsX2_covers := goodIn_r _ [35, 36, 37, 54, 55, 56, 57, 58, 59, 60, 61, 62] (by decide +kernel) (by decide +kernel)
set_option maxRecDepth 20000 in
theorem gX4_billHour_X2_covers : GoodIn wsX4_billHour (wsV RX4 174 RX2 yX2_covers wsX2_covers) := goodIn_app (goodIn_of _ (by decide +kernel)) ggX4_billHour_X2_covers
set_option maxRecDepth 20000 in
theorem ggX4_billHour_X4_cell : GoodIn wsX4_billHour wsX4_cell := goodIn_r _ [41] (by decide +kernel) (by decide +kernel)
set_option maxRecDepth 20000 in
theorem gX4_billHour_X4_cell : GoodIn wsX4_billHour (va_wsS RX4 95 yX4_cell wsX4_cell) := goodIn_app (goodIn_of _ (by decide +kernel)) ggX4_billHour_X4_cell
set_option maxRecDepth 20000 in
theorem ggX4_billHour_X2_rentFor : GoodIn wsX4_billHour wsX2_rentFor := goodIn_r _ [45, 46, 47, 54, 55, 56, 57, 58, 59, 60, 61, 62] (by decide +kernel) (by decide +kernel)
set_option maxRecDepth 20000 in
theorem gX4_billHour_X2_rentFor : GoodIn wsX4_billHour (wsV RX4 184 RX2 yX2_rentFor wsX2_rentFor) := goodIn_app (goodIn_of _ (by decide +kernel)) ggX4_billHour_X2_rentFor
theorem dX4_billHour_0 : decode cX4_billHour 0 = .ok (.iconst 0, 1) := by decide +kernel
theorem dX4_billHour_1 : decode cX4_billHour 1 = .ok (.istore_n 1, 1) := by decide +kernel
theorem dX4_billHour_2 : decode cX4_billHour 2 = .ok (.iload_n 1, 1) := by decide +kernel
theorem dX4_billHour_3 : decode cX4_billHour 3 = .ok (.aload_n 0, 1) := by decide +kernel
theorem dX4_billHour_4 : decode cX4_billHour 4 = .ok (.getfield 33, 3) := by decide +kernel
theorem dX4_billHour_7 : decode cX4_billHour 7 = .ok (.invokevirtual 98, 3) := by decide +kernel
theorem dX4_billHour_10 : decode cX4_billHour 10 = .ok (.if_icmp .ge 64, 3) := by decide +kernel
theorem dX4_billHour_13 : decode cX4_billHour 13 = .ok (.aload_n 0, 1) := by decide +kernel
theorem dX4_billHour_14 : decode cX4_billHour 14 = .ok (.getfield 33, 3) := by decide +kernel
theorem dX4_billHour_17 : decode cX4_billHour 17 = .ok (.iload_n 1, 1) := by decide +kernel
theorem dX4_billHour_18 : decode cX4_billHour 18 = .ok (.invokevirtual 114, 3) := by decide +kernel
theorem dX4_billHour_21 : decode cX4_billHour 21 = .ok (.checkcast 101, 3) := by decide +kernel
theorem dX4_billHour_24 : decode cX4_billHour 24 = .ok (.astore_n 2, 1) := by decide +kernel
theorem dX4_billHour_25 : decode cX4_billHour 25 = .ok (.aload_n 2, 1) := by decide +kernel
theorem dX4_billHour_26 : decode cX4_billHour 26 = .ok (.aload_n 0, 1) := by decide +kernel
theorem dX4_billHour_27 : decode cX4_billHour 27 = .ok (.getfield 41, 3) := by decide +kernel
theorem dX4_billHour_30 : decode cX4_billHour 30 = .ok (.invokevirtual 174, 3) := by decide +kernel
theorem dX4_billHour_33 : decode cX4_billHour 33 = .ok (.ifCond .eq 35, 3) := by decide +kernel
theorem dX4_billHour_36 : decode cX4_billHour 36 = .ok (.aload_n 2, 1) := by decide +kernel
theorem dX4_billHour_37 : decode cX4_billHour 37 = .ok (.dup, 1) := by decide +kernel
theorem dX4_billHour_38 : decode cX4_billHour 38 = .ok (.getfield 178, 3) := by decide +kernel
theorem dX4_billHour_41 : decode cX4_billHour 41 = .ok (.aload_n 2, 1) := by decide +kernel
theorem dX4_billHour_42 : decode cX4_billHour 42 = .ok (.aload_n 0, 1) := by decide +kernel
theorem dX4_billHour_43 : decode cX4_billHour 43 = .ok (.getfield 19, 3) := by decide +kernel
theorem dX4_billHour_46 : decode cX4_billHour 46 = .ok (.getfield 163, 3) := by decide +kernel
theorem dX4_billHour_49 : decode cX4_billHour 49 = .ok (.aload_n 2, 1) := by decide +kernel
theorem dX4_billHour_50 : decode cX4_billHour 50 = .ok (.getfield 181, 3) := by decide +kernel
theorem dX4_billHour_53 : decode cX4_billHour 53 = .ok (.aload_n 0, 1) := by decide +kernel
theorem dX4_billHour_54 : decode cX4_billHour 54 = .ok (.getfield 41, 3) := by decide +kernel
theorem dX4_billHour_57 : decode cX4_billHour 57 = .ok (.invokestatic 95, 3) := by decide +kernel
theorem dX4_billHour_60 : decode cX4_billHour 60 = .ok (.iaload, 1) := by decide +kernel
theorem dX4_billHour_61 : decode cX4_billHour 61 = .ok (.invokevirtual 184, 3) := by decide +kernel
theorem dX4_billHour_64 : decode cX4_billHour 64 = .ok (.iadd, 1) := by decide +kernel
theorem dX4_billHour_65 : decode cX4_billHour 65 = .ok (.putfield 178, 3) := by decide +kernel
theorem dX4_billHour_68 : decode cX4_billHour 68 = .ok (.iinc 1 1, 3) := by decide +kernel
theorem dX4_billHour_71 : decode cX4_billHour 71 = .ok (.goto (-69), 3) := by decide +kernel
theorem dX4_billHour_74 : decode cX4_billHour 74 = .ok (.return_, 1) := by decide +kernel
set_option maxRecDepth 20000 in
theorem ggX4_recount_X1_isLost : GoodIn wsX4_recount wsX1_isLost := goodIn_r _ [6, 7, 8, 9, 10, 97, 98, 99, 100, 101, 102, 103, 104] (by decide +kernel) (by decide +kernel)
set_option maxRecDepth 20000 in
theorem gX4_recount_X1_isLost : GoodIn wsX4_recount (wsV RX4 88 RX1 yX1_isLost wsX1_isLost) := goodIn_app (goodIn_of _ (by decide +kernel)) ggX4_recount_X1_isLost
set_option maxRecDepth 20000 in
theorem ggX4_recount_X1_countOfReading : GoodIn wsX4_recount wsX1_countOfReading := goodIn_r _ [14, 7, 15, 16, 17, 5, 18, 19, 20, 21, 22, 8, 9, 10, 97, 98, 99, 100, 101, 102, 103, 104] (by decide +kernel) (by decide +kernel)
set_option maxRecDepth 20000 in
theorem gX4_recount_X1_countOfReading : GoodIn wsX4_recount (wsV RX4 230 RX1 yX1_countOfReading wsX1_countOfReading) := goodIn_app (goodIn_of _ (by decide +kernel)) ggX4_recount_X1_countOfReading
set_option maxRecDepth 20000 in
theorem ggX4_recount_X4_keepCount : GoodIn wsX4_recount wsX4_keepCount := goodIn_r _ [26, 1, 27, 28, 8, 9, 10, 29, 30, 31, 32, 33, 34, 35, 36, 37, 38, 39, 40, 41, 42, 43, 44, 45, 46, 47, 48, 49, 50, 51, 52, 53, 54, 55, 56, 57, 58, 59, 60, 61, 62, 63, 64, 65, 66, 67, 68, 69, 70, 71, 72, 73, 91, 92, 93, 94, 95, 96, 97, 98, 99, 100, 101, 102, 103, 104, 105, 106, 107, 108, 109, 110, 111, 112, 113, 114, 115, 116] (by decide +kernel) (by decide +kernel)
set_option maxRecDepth 20000 in
theorem gX4_recount_X4_keepCount : GoodIn wsX4_recount (wsV RX4 233 RX4 yX4_keepCount wsX4_keepCount) := goodIn_app (goodIn_of _ (by decide +kernel)) ggX4_recount_X4_keepCount
set_option maxRecDepth 20000 in
theorem ggX4_recount_X1_filledFromKept : GoodIn wsX4_recount wsX1_filledFromKept := goodIn_r _ [77, 78, 79, 80, 81, 5, 82, 83, 3, 4, 6, 7, 8, 9, 10, 84, 85, 86, 87, 88, 89, 90, 97, 98, 99, 100, 101, 102, 103, 104] (by decide +kernel) (by decide +kernel)
set_option maxRecDepth 20000 in
theorem gX4_recount_X1_filledFromKept : GoodIn wsX4_recount (wsV RX4 237 RX1 yX1_filledFromKept wsX1_filledFromKept) := goodIn_app (goodIn_of _ (by decide +kernel)) ggX4_recount_X1_filledFromKept
theorem dX4_recount_0 : decode cX4_recount 0 = .ok (.aload_n 0, 1) := by decide +kernel
theorem dX4_recount_1 : decode cX4_recount 1 = .ok (.getfield 19, 3) := by decide +kernel
theorem dX4_recount_4 : decode cX4_recount 4 = .ok (.iload_n 1, 1) := by decide +kernel
theorem dX4_recount_5 : decode cX4_recount 5 = .ok (.iload_n 2, 1) := by decide +kernel
theorem dX4_recount_6 : decode cX4_recount 6 = .ok (.invokevirtual 88, 3) := by decide +kernel
theorem dX4_recount_9 : decode cX4_recount 9 = .ok (.ifCond .eq 5, 3) := by decide +kernel
theorem dX4_recount_12 : decode cX4_recount 12 = .ok (.iconst 0, 1) := by decide +kernel
theorem dX4_recount_13 : decode cX4_recount 13 = .ok (.ireturn, 1) := by decide +kernel
theorem dX4_recount_14 : decode cX4_recount 14 = .ok (.aload_n 0, 1) := by decide +kernel
theorem dX4_recount_15 : decode cX4_recount 15 = .ok (.iload_n 1, 1) := by decide +kernel
theorem dX4_recount_16 : decode cX4_recount 16 = .ok (.iload_n 2, 1) := by decide +kernel
theorem dX4_recount_17 : decode cX4_recount 17 = .ok (.aload_n 0, 1) := by decide +kernel
theorem dX4_recount_18 : decode cX4_recount 18 = .ok (.getfield 19, 3) := by decide +kernel
theorem dX4_recount_21 : decode cX4_recount 21 = .ok (.iload_n 1, 1) := by decide +kernel
theorem dX4_recount_22 : decode cX4_recount 22 = .ok (.iload_n 2, 1) := by decide +kernel
theorem dX4_recount_23 : decode cX4_recount 23 = .ok (.invokevirtual 230, 3) := by decide +kernel
theorem dX4_recount_26 : decode cX4_recount 26 = .ok (.invokevirtual 233, 3) := by decide +kernel
theorem dX4_recount_29 : decode cX4_recount 29 = .ok (.istore_n 3, 1) := by decide +kernel
theorem dX4_recount_30 : decode cX4_recount 30 = .ok (.iload_n 1, 1) := by decide +kernel
theorem dX4_recount_31 : decode cX4_recount 31 = .ok (.iconst 1, 1) := by decide +kernel
theorem dX4_recount_32 : decode cX4_recount 32 = .ok (.isub, 1) := by decide +kernel
theorem dX4_recount_33 : decode cX4_recount 33 = .ok (.istore 4, 2) := by decide +kernel
theorem dX4_recount_35 : decode cX4_recount 35 = .ok (.iload 4, 2) := by decide +kernel
theorem dX4_recount_37 : decode cX4_recount 37 = .ok (.ifCond .lt 42, 3) := by decide +kernel
theorem dX4_recount_40 : decode cX4_recount 40 = .ok (.aload_n 0, 1) := by decide +kernel
theorem dX4_recount_41 : decode cX4_recount 41 = .ok (.getfield 19, 3) := by decide +kernel
theorem dX4_recount_44 : decode cX4_recount 44 = .ok (.iload 4, 2) := by decide +kernel
theorem dX4_recount_46 : decode cX4_recount 46 = .ok (.iload_n 2, 1) := by decide +kernel
theorem dX4_recount_47 : decode cX4_recount 47 = .ok (.invokevirtual 88, 3) := by decide +kernel
theorem dX4_recount_50 : decode cX4_recount 50 = .ok (.ifCond .eq 29, 3) := by decide +kernel
theorem dX4_recount_53 : decode cX4_recount 53 = .ok (.iload_n 3, 1) := by decide +kernel
theorem dX4_recount_54 : decode cX4_recount 54 = .ok (.aload_n 0, 1) := by decide +kernel
theorem dX4_recount_55 : decode cX4_recount 55 = .ok (.iload 4, 2) := by decide +kernel
theorem dX4_recount_57 : decode cX4_recount 57 = .ok (.iload_n 2, 1) := by decide +kernel
theorem dX4_recount_58 : decode cX4_recount 58 = .ok (.aload_n 0, 1) := by decide +kernel
theorem dX4_recount_59 : decode cX4_recount 59 = .ok (.getfield 19, 3) := by decide +kernel
theorem dX4_recount_62 : decode cX4_recount 62 = .ok (.iload 4, 2) := by decide +kernel
theorem dX4_recount_64 : decode cX4_recount 64 = .ok (.iload_n 2, 1) := by decide +kernel
theorem dX4_recount_65 : decode cX4_recount 65 = .ok (.invokevirtual 237, 3) := by decide +kernel
theorem dX4_recount_68 : decode cX4_recount 68 = .ok (.invokevirtual 233, 3) := by decide +kernel
theorem dX4_recount_71 : decode cX4_recount 71 = .ok (.iadd, 1) := by decide +kernel
theorem dX4_recount_72 : decode cX4_recount 72 = .ok (.istore_n 3, 1) := by decide +kernel
theorem dX4_recount_73 : decode cX4_recount 73 = .ok (.iinc 4 (-1), 3) := by decide +kernel
theorem dX4_recount_76 : decode cX4_recount 76 = .ok (.goto (-41), 3) := by decide +kernel
theorem dX4_recount_79 : decode cX4_recount 79 = .ok (.iload_n 1, 1) := by decide +kernel
theorem dX4_recount_80 : decode cX4_recount 80 = .ok (.iconst 1, 1) := by decide +kernel
theorem dX4_recount_81 : decode cX4_recount 81 = .ok (.iadd, 1) := by decide +kernel
theorem dX4_recount_82 : decode cX4_recount 82 = .ok (.istore 4, 2) := by decide +kernel
theorem dX4_recount_84 : decode cX4_recount 84 = .ok (.iload 4, 2) := by decide +kernel
theorem dX4_recount_86 : decode cX4_recount 86 = .ok (.bipush 12, 2) := by decide +kernel
theorem dX4_recount_88 : decode cX4_recount 88 = .ok (.if_icmp .ge 42, 3) := by decide +kernel
theorem dX4_recount_91 : decode cX4_recount 91 = .ok (.aload_n 0, 1) := by decide +kernel
theorem dX4_recount_92 : decode cX4_recount 92 = .ok (.getfield 19, 3) := by decide +kernel
theorem dX4_recount_95 : decode cX4_recount 95 = .ok (.iload 4, 2) := by decide +kernel
theorem dX4_recount_97 : decode cX4_recount 97 = .ok (.iload_n 2, 1) := by decide +kernel
theorem dX4_recount_98 : decode cX4_recount 98 = .ok (.invokevirtual 88, 3) := by decide +kernel
theorem dX4_recount_101 : decode cX4_recount 101 = .ok (.ifCond .eq 29, 3) := by decide +kernel
theorem dX4_recount_104 : decode cX4_recount 104 = .ok (.iload_n 3, 1) := by decide +kernel
theorem dX4_recount_105 : decode cX4_recount 105 = .ok (.aload_n 0, 1) := by decide +kernel
theorem dX4_recount_106 : decode cX4_recount 106 = .ok (.iload 4, 2) := by decide +kernel
theorem dX4_recount_108 : decode cX4_recount 108 = .ok (.iload_n 2, 1) := by decide +kernel
theorem dX4_recount_109 : decode cX4_recount 109 = .ok (.aload_n 0, 1) := by decide +kernel
theorem dX4_recount_110 : decode cX4_recount 110 = .ok (.getfield 19, 3) := by decide +kernel
theorem dX4_recount_113 : decode cX4_recount 113 = .ok (.iload 4, 2) := by decide +kernel
theorem dX4_recount_115 : decode cX4_recount 115 = .ok (.iload_n 2, 1) := by decide +kernel
theorem dX4_recount_116 : decode cX4_recount 116 = .ok (.invokevirtual 237, 3) := by decide +kernel
theorem dX4_recount_119 : decode cX4_recount 119 = .ok (.invokevirtual 233, 3) := by decide +kernel
theorem dX4_recount_122 : decode cX4_recount 122 = .ok (.iadd, 1) := by decide +kernel
theorem dX4_recount_123 : decode cX4_recount 123 = .ok (.istore_n 3, 1) := by decide +kernel
theorem dX4_recount_124 : decode cX4_recount 124 = .ok (.iinc 4 1, 3) := by decide +kernel
theorem dX4_recount_127 : decode cX4_recount 127 = .ok (.goto (-43), 3) := by decide +kernel
theorem dX4_recount_130 : decode cX4_recount 130 = .ok (.iload_n 3, 1) := by decide +kernel
theorem dX4_recount_131 : decode cX4_recount 131 = .ok (.ireturn, 1) := by decide +kernel
set_option maxRecDepth 20000 in
theorem ggX4_keepCount_X4_cell : GoodIn wsX4_keepCount wsX4_cell := goodIn_r _ [6] (by decide +kernel) (by decide +kernel)
set_option maxRecDepth 20000 in
theorem gX4_keepCount_X4_cell : GoodIn wsX4_keepCount (va_wsS RX4 95 yX4_cell wsX4_cell) := goodIn_app (goodIn_of _ (by decide +kernel)) ggX4_keepCount_X4_cell
set_option maxRecDepth 20000 in
theorem ggX4_keepCount_X4_correctRents : GoodIn wsX4_keepCount wsX4_correctRents := goodIn_r _ [10, 11, 12, 13, 14, 15, 16, 17, 18, 19, 20, 21, 22, 23, 24, 25, 26, 27, 28, 29, 30, 31, 32, 33, 34, 35, 36, 37, 38, 39, 40, 41, 42, 43, 44, 45, 46, 47, 48, 49, 50, 51, 52, 53, 54, 55, 56, 57, 66, 67, 68, 69, 70, 71, 72, 73, 74, 75, 76, 77] (by decide +kernel) (by decide +kernel)
set_option maxRecDepth 20000 in
theorem gX4_keepCount_X4_correctRents : GoodIn wsX4_keepCount (wsV RX4 240 RX4 yX4_correctRents wsX4_correctRents) := goodIn_app (goodIn_of _ (by decide +kernel)) ggX4_keepCount_X4_correctRents
theorem dX4_keepCount_0 : decode cX4_keepCount 0 = .ok (.iload_n 1, 1) := by decide +kernel
theorem dX4_keepCount_1 : decode cX4_keepCount 1 = .ok (.iload_n 2, 1) := by decide +kernel
theorem dX4_keepCount_2 : decode cX4_keepCount 2 = .ok (.invokestatic 95, 3) := by decide +kernel
theorem dX4_keepCount_5 : decode cX4_keepCount 5 = .ok (.istore 4, 2) := by decide +kernel
theorem dX4_keepCount_7 : decode cX4_keepCount 7 = .ok (.aload_n 0, 1) := by decide +kernel
theorem dX4_keepCount_8 : decode cX4_keepCount 8 = .ok (.getfield 19, 3) := by decide +kernel
theorem dX4_keepCount_11 : decode cX4_keepCount 11 = .ok (.getfield 163, 3) := by decide +kernel
theorem dX4_keepCount_14 : decode cX4_keepCount 14 = .ok (.iload 4, 2) := by decide +kernel
theorem dX4_keepCount_16 : decode cX4_keepCount 16 = .ok (.iaload, 1) := by decide +kernel
theorem dX4_keepCount_17 : decode cX4_keepCount 17 = .ok (.istore 5, 2) := by decide +kernel
theorem dX4_keepCount_19 : decode cX4_keepCount 19 = .ok (.aload_n 0, 1) := by decide +kernel
theorem dX4_keepCount_20 : decode cX4_keepCount 20 = .ok (.getfield 19, 3) := by decide +kernel
theorem dX4_keepCount_23 : decode cX4_keepCount 23 = .ok (.getfield 163, 3) := by decide +kernel
theorem dX4_keepCount_26 : decode cX4_keepCount 26 = .ok (.iload 4, 2) := by decide +kernel
theorem dX4_keepCount_28 : decode cX4_keepCount 28 = .ok (.iload_n 3, 1) := by decide +kernel
theorem dX4_keepCount_29 : decode cX4_keepCount 29 = .ok (.iastore, 1) := by decide +kernel
theorem dX4_keepCount_30 : decode cX4_keepCount 30 = .ok (.iload_n 3, 1) := by decide +kernel
theorem dX4_keepCount_31 : decode cX4_keepCount 31 = .ok (.iload 5, 2) := by decide +kernel
theorem dX4_keepCount_33 : decode cX4_keepCount 33 = .ok (.if_icmp .ne 7, 3) := by decide +kernel
theorem dX4_keepCount_36 : decode cX4_keepCount 36 = .ok (.iconst 0, 1) := by decide +kernel
theorem dX4_keepCount_37 : decode cX4_keepCount 37 = .ok (.goto 12, 3) := by decide +kernel
theorem dX4_keepCount_40 : decode cX4_keepCount 40 = .ok (.aload_n 0, 1) := by decide +kernel
theorem dX4_keepCount_41 : decode cX4_keepCount 41 = .ok (.iload_n 1, 1) := by decide +kernel
theorem dX4_keepCount_42 : decode cX4_keepCount 42 = .ok (.iload_n 2, 1) := by decide +kernel
theorem dX4_keepCount_43 : decode cX4_keepCount 43 = .ok (.iload 5, 2) := by decide +kernel
theorem dX4_keepCount_45 : decode cX4_keepCount 45 = .ok (.iload_n 3, 1) := by decide +kernel
theorem dX4_keepCount_46 : decode cX4_keepCount 46 = .ok (.invokevirtual 240, 3) := by decide +kernel
theorem dX4_keepCount_49 : decode cX4_keepCount 49 = .ok (.ireturn, 1) := by decide +kernel
set_option maxRecDepth 20000 in
theorem ggX4_correctRents_Jx4a65c_size_8abf5 : GoodIn wsX4_correctRents wsJx4a65c_size_8abf5 := goodIn_r _ [10, 11, 57, 58, 59] (by decide +kernel) (by decide +kernel)
set_option maxRecDepth 20000 in
theorem gX4_correctRents_Jx4a65c_size_8abf5 : GoodIn wsX4_correctRents (wsV RX4 98 RJx4a65c yJx4a65c_size_8abf5 wsJx4a65c_size_8abf5) := goodIn_app (goodIn_of _ (by decide +kernel)) ggX4_correctRents_Jx4a65c_size_8abf5
set_option maxRecDepth 20000 in
theorem ggX4_correctRents_Jx4a65c_get_915e3 : GoodIn wsX4_correctRents wsJx4a65c_get_915e3 := goodIn_r _ [15, 11, 16, 17, 18, 19, 20, 21, 22, 23, 24, 25, 26, 9, 27, 28, 57, 58, 59] (by decide +kernel) (by decide +kernel)
set_option maxRecDepth 20000 in
theorem gX4_correctRents_Jx4a65c_get_915e3 : GoodIn wsX4_correctRents (wsV RX4 114 RJx4a65c yJx4a65c_get_915e3 wsJx4a65c_get_915e3) := goodIn_app (goodIn_of _ (by decide +kernel)) ggX4_correctRents_Jx4a65c_get_915e3
set_option maxRecDepth 20000 in
theorem ggX4_correctRents_X2_covers : GoodIn wsX4_correctRents wsX2_covers := goodIn_r _ [33, 34, 35, 48, 49, 50, 51, 52, 53, 54, 55, 56] (by decide +kernel) (by decide +kernel)
set_option maxRecDepth 20000 in
theorem gX4_correctRents_X2_covers : GoodIn wsX4_correctRents (wsV RX4 174 RX2 yX2_covers wsX2_covers) := goodIn_app (goodIn_of _ (by decide +kernel)) ggX4_correctRents_X2_covers
set_option maxRecDepth 20000 in
theorem ggX4_correctRents_X2_rentFor : GoodIn wsX4_correctRents wsX2_rentFor := goodIn_r _ [39, 40, 41, 48, 49, 50, 51, 52, 53, 54, 55, 56] (by decide +kernel) (by decide +kernel)
set_option maxRecDepth 20000 in
theorem gX4_correctRents_X2_rentFor : GoodIn wsX4_correctRents (wsV RX4 184 RX2 yX2_rentFor wsX2_rentFor) := goodIn_app (goodIn_of _ (by decide +kernel)) ggX4_correctRents_X2_rentFor
theorem dX4_correctRents_0 : decode cX4_correctRents 0 = .ok (.iconst 0, 1) := by decide +kernel
theorem dX4_correctRents_1 : decode cX4_correctRents 1 = .ok (.istore 5, 2) := by decide +kernel
theorem dX4_correctRents_3 : decode cX4_correctRents 3 = .ok (.iconst 0, 1) := by decide +kernel
theorem dX4_correctRents_4 : decode cX4_correctRents 4 = .ok (.istore 6, 2) := by decide +kernel
theorem dX4_correctRents_6 : decode cX4_correctRents 6 = .ok (.iload 6, 2) := by decide +kernel
theorem dX4_correctRents_8 : decode cX4_correctRents 8 = .ok (.aload_n 0, 1) := by decide +kernel
theorem dX4_correctRents_9 : decode cX4_correctRents 9 = .ok (.getfield 33, 3) := by decide +kernel
theorem dX4_correctRents_12 : decode cX4_correctRents 12 = .ok (.invokevirtual 98, 3) := by decide +kernel
theorem dX4_correctRents_15 : decode cX4_correctRents 15 = .ok (.if_icmp .ge 88, 3) := by decide +kernel
theorem dX4_correctRents_18 : decode cX4_correctRents 18 = .ok (.aload_n 0, 1) := by decide +kernel
theorem dX4_correctRents_19 : decode cX4_correctRents 19 = .ok (.getfield 33, 3) := by decide +kernel
theorem dX4_correctRents_22 : decode cX4_correctRents 22 = .ok (.iload 6, 2) := by decide +kernel
theorem dX4_correctRents_24 : decode cX4_correctRents 24 = .ok (.invokevirtual 114, 3) := by decide +kernel
theorem dX4_correctRents_27 : decode cX4_correctRents 27 = .ok (.checkcast 101, 3) := by decide +kernel
theorem dX4_correctRents_30 : decode cX4_correctRents 30 = .ok (.astore 7, 2) := by decide +kernel
theorem dX4_correctRents_32 : decode cX4_correctRents 32 = .ok (.aload 7, 2) := by decide +kernel
theorem dX4_correctRents_34 : decode cX4_correctRents 34 = .ok (.getfield 181, 3) := by decide +kernel
theorem dX4_correctRents_37 : decode cX4_correctRents 37 = .ok (.iload_n 1, 1) := by decide +kernel
theorem dX4_correctRents_38 : decode cX4_correctRents 38 = .ok (.if_icmp .ne 59, 3) := by decide +kernel
theorem dX4_correctRents_41 : decode cX4_correctRents 41 = .ok (.aload 7, 2) := by decide +kernel
theorem dX4_correctRents_43 : decode cX4_correctRents 43 = .ok (.iload_n 2, 1) := by decide +kernel
theorem dX4_correctRents_44 : decode cX4_correctRents 44 = .ok (.invokevirtual 174, 3) := by decide +kernel
theorem dX4_correctRents_47 : decode cX4_correctRents 47 = .ok (.ifCond .eq 50, 3) := by decide +kernel
theorem dX4_correctRents_50 : decode cX4_correctRents 50 = .ok (.aload 7, 2) := by decide +kernel
theorem dX4_correctRents_52 : decode cX4_correctRents 52 = .ok (.iload 4, 2) := by decide +kernel
theorem dX4_correctRents_54 : decode cX4_correctRents 54 = .ok (.invokevirtual 184, 3) := by decide +kernel
theorem dX4_correctRents_57 : decode cX4_correctRents 57 = .ok (.aload 7, 2) := by decide +kernel
theorem dX4_correctRents_59 : decode cX4_correctRents 59 = .ok (.iload_n 3, 1) := by decide +kernel
theorem dX4_correctRents_60 : decode cX4_correctRents 60 = .ok (.invokevirtual 184, 3) := by decide +kernel
theorem dX4_correctRents_63 : decode cX4_correctRents 63 = .ok (.isub, 1) := by decide +kernel
theorem dX4_correctRents_64 : decode cX4_correctRents 64 = .ok (.istore 8, 2) := by decide +kernel
theorem dX4_correctRents_66 : decode cX4_correctRents 66 = .ok (.aload 7, 2) := by decide +kernel
theorem dX4_correctRents_68 : decode cX4_correctRents 68 = .ok (.dup, 1) := by decide +kernel
theorem dX4_correctRents_69 : decode cX4_correctRents 69 = .ok (.getfield 178, 3) := by decide +kernel
theorem dX4_correctRents_72 : decode cX4_correctRents 72 = .ok (.iload 8, 2) := by decide +kernel
theorem dX4_correctRents_74 : decode cX4_correctRents 74 = .ok (.iadd, 1) := by decide +kernel
theorem dX4_correctRents_75 : decode cX4_correctRents 75 = .ok (.putfield 178, 3) := by decide +kernel
theorem dX4_correctRents_78 : decode cX4_correctRents 78 = .ok (.aload 7, 2) := by decide +kernel
theorem dX4_correctRents_80 : decode cX4_correctRents 80 = .ok (.dup, 1) := by decide +kernel
theorem dX4_correctRents_81 : decode cX4_correctRents 81 = .ok (.getfield 187, 3) := by decide +kernel
theorem dX4_correctRents_84 : decode cX4_correctRents 84 = .ok (.iload 8, 2) := by decide +kernel
theorem dX4_correctRents_86 : decode cX4_correctRents 86 = .ok (.iadd, 1) := by decide +kernel
theorem dX4_correctRents_87 : decode cX4_correctRents 87 = .ok (.putfield 187, 3) := by decide +kernel
theorem dX4_correctRents_90 : decode cX4_correctRents 90 = .ok (.iload 5, 2) := by decide +kernel
theorem dX4_correctRents_92 : decode cX4_correctRents 92 = .ok (.iload 8, 2) := by decide +kernel
theorem dX4_correctRents_94 : decode cX4_correctRents 94 = .ok (.iadd, 1) := by decide +kernel
theorem dX4_correctRents_95 : decode cX4_correctRents 95 = .ok (.istore 5, 2) := by decide +kernel
theorem dX4_correctRents_97 : decode cX4_correctRents 97 = .ok (.iinc 6 1, 3) := by decide +kernel
theorem dX4_correctRents_100 : decode cX4_correctRents 100 = .ok (.goto (-94), 3) := by decide +kernel
theorem dX4_correctRents_103 : decode cX4_correctRents 103 = .ok (.iload 5, 2) := by decide +kernel
theorem dX4_correctRents_105 : decode cX4_correctRents 105 = .ok (.ireturn, 1) := by decide +kernel
set_option maxRecDepth 20000 in
theorem ggX4_isDoorHeld_Jx4a65c_size_8abf5 : GoodIn wsX4_isDoorHeld wsJx4a65c_size_8abf5 := goodIn_r _ [7, 8, 40, 41, 42] (by decide +kernel) (by decide +kernel)
set_option maxRecDepth 20000 in
theorem gX4_isDoorHeld_Jx4a65c_size_8abf5 : GoodIn wsX4_isDoorHeld (wsV RX4 98 RJx4a65c yJx4a65c_size_8abf5 wsJx4a65c_size_8abf5) := goodIn_app (goodIn_of _ (by decide +kernel)) ggX4_isDoorHeld_Jx4a65c_size_8abf5
set_option maxRecDepth 20000 in
theorem ggX4_isDoorHeld_Jx4a65c_get_915e3 : GoodIn wsX4_isDoorHeld wsJx4a65c_get_915e3 := goodIn_r _ [12, 8, 13, 14, 15, 16, 17, 18, 19, 20, 21, 22, 23, 6, 24, 25, 40, 41, 42] (by decide +kernel) (by decide +kernel)
set_option maxRecDepth 20000 in
theorem gX4_isDoorHeld_Jx4a65c_get_915e3 : GoodIn wsX4_isDoorHeld (wsV RX4 114 RJx4a65c yJx4a65c_get_915e3 wsJx4a65c_get_915e3) := goodIn_app (goodIn_of _ (by decide +kernel)) ggX4_isDoorHeld_Jx4a65c_get_915e3
set_option maxRecDepth 20000 in
theorem ggX4_isDoorHeld_X2_clashesWith : GoodIn wsX4_isDoorHeld wsX2_clashesWith := goodIn_r _ [30, 31, 32, 33, 43, 44, 45, 46, 47, 48, 49, 50, 51] (by decide +kernel) (by decide +kernel)
set_option maxRecDepth 20000 in
theorem gX4_isDoorHeld_X2_clashesWith : GoodIn wsX4_isDoorHeld (wsV RX4 244 RX2 yX2_clashesWith wsX2_clashesWith) := goodIn_app (goodIn_of _ (by decide +kernel)) ggX4_isDoorHeld_X2_clashesWith
theorem dX4_isDoorHeld_0 : decode cX4_isDoorHeld 0 = .ok (.iconst 0, 1) := by decide +kernel
theorem dX4_isDoorHeld_1 : decode cX4_isDoorHeld 1 = .ok (.istore_n 2, 1) := by decide +kernel
theorem dX4_isDoorHeld_2 : decode cX4_isDoorHeld 2 = .ok (.iload_n 2, 1) := by decide +kernel
theorem dX4_isDoorHeld_3 : decode cX4_isDoorHeld 3 = .ok (.aload_n 0, 1) := by decide +kernel
theorem dX4_isDoorHeld_4 : decode cX4_isDoorHeld 4 = .ok (.getfield 33, 3) := by decide +kernel
theorem dX4_isDoorHeld_7 : decode cX4_isDoorHeld 7 = .ok (.invokevirtual 98, 3) := by decide +kernel
theorem dX4_isDoorHeld_10 : decode cX4_isDoorHeld 10 = .ok (.if_icmp .ge 29, 3) := by decide +kernel
theorem dX4_isDoorHeld_13 : decode cX4_isDoorHeld 13 = .ok (.aload_n 0, 1) := by decide +kernel
theorem dX4_isDoorHeld_14 : decode cX4_isDoorHeld 14 = .ok (.getfield 33, 3) := by decide +kernel
theorem dX4_isDoorHeld_17 : decode cX4_isDoorHeld 17 = .ok (.iload_n 2, 1) := by decide +kernel
theorem dX4_isDoorHeld_18 : decode cX4_isDoorHeld 18 = .ok (.invokevirtual 114, 3) := by decide +kernel
theorem dX4_isDoorHeld_21 : decode cX4_isDoorHeld 21 = .ok (.checkcast 101, 3) := by decide +kernel
theorem dX4_isDoorHeld_24 : decode cX4_isDoorHeld 24 = .ok (.aload_n 1, 1) := by decide +kernel
theorem dX4_isDoorHeld_25 : decode cX4_isDoorHeld 25 = .ok (.invokevirtual 244, 3) := by decide +kernel
theorem dX4_isDoorHeld_28 : decode cX4_isDoorHeld 28 = .ok (.ifCond .eq 5, 3) := by decide +kernel
theorem dX4_isDoorHeld_31 : decode cX4_isDoorHeld 31 = .ok (.iconst 1, 1) := by decide +kernel
theorem dX4_isDoorHeld_32 : decode cX4_isDoorHeld 32 = .ok (.ireturn, 1) := by decide +kernel
theorem dX4_isDoorHeld_33 : decode cX4_isDoorHeld 33 = .ok (.iinc 2 1, 3) := by decide +kernel
theorem dX4_isDoorHeld_36 : decode cX4_isDoorHeld 36 = .ok (.goto (-34), 3) := by decide +kernel
theorem dX4_isDoorHeld_39 : decode cX4_isDoorHeld 39 = .ok (.iconst 0, 1) := by decide +kernel
theorem dX4_isDoorHeld_40 : decode cX4_isDoorHeld 40 = .ok (.ireturn, 1) := by decide +kernel
set_option maxRecDepth 20000 in
theorem ggX4_debt_Jx4a65c_size_8abf5 : GoodIn wsX4_debt wsJx4a65c_size_8abf5 := goodIn_r _ [10, 11, 44, 45, 46] (by decide +kernel) (by decide +kernel)
set_option maxRecDepth 20000 in
theorem gX4_debt_Jx4a65c_size_8abf5 : GoodIn wsX4_debt (wsV RX4 98 RJx4a65c yJx4a65c_size_8abf5 wsJx4a65c_size_8abf5) := goodIn_app (goodIn_of _ (by decide +kernel)) ggX4_debt_Jx4a65c_size_8abf5
set_option maxRecDepth 20000 in
theorem ggX4_debt_Jx4a65c_get_915e3 : GoodIn wsX4_debt wsJx4a65c_get_915e3 := goodIn_r _ [15, 11, 16, 17, 18, 19, 20, 21, 22, 23, 24, 25, 26, 9, 27, 28, 44, 45, 46] (by decide +kernel) (by decide +kernel)
set_option maxRecDepth 20000 in
theorem gX4_debt_Jx4a65c_get_915e3 : GoodIn wsX4_debt (wsV RX4 114 RJx4a65c yJx4a65c_get_915e3 wsJx4a65c_get_915e3) := goodIn_app (goodIn_of _ (by decide +kernel)) ggX4_debt_Jx4a65c_get_915e3
theorem dX4_debt_0 : decode cX4_debt 0 = .ok (.aload_n 0, 1) := by decide +kernel
theorem dX4_debt_1 : decode cX4_debt 1 = .ok (.getfield 37, 3) := by decide +kernel
theorem dX4_debt_4 : decode cX4_debt 4 = .ok (.iload_n 1, 1) := by decide +kernel
theorem dX4_debt_5 : decode cX4_debt 5 = .ok (.iaload, 1) := by decide +kernel
theorem dX4_debt_6 : decode cX4_debt 6 = .ok (.ineg, 1) := by decide +kernel
theorem dX4_debt_7 : decode cX4_debt 7 = .ok (.istore_n 2, 1) := by decide +kernel
theorem dX4_debt_8 : decode cX4_debt 8 = .ok (.iconst 0, 1) := by decide +kernel
theorem dX4_debt_9 : decode cX4_debt 9 = .ok (.istore_n 3, 1) := by decide +kernel
theorem dX4_debt_10 : decode cX4_debt 10 = .ok (.iload_n 3, 1) := by decide +kernel
theorem dX4_debt_11 : decode cX4_debt 11 = .ok (.aload_n 0, 1) := by decide +kernel
theorem dX4_debt_12 : decode cX4_debt 12 = .ok (.getfield 33, 3) := by decide +kernel
theorem dX4_debt_15 : decode cX4_debt 15 = .ok (.invokevirtual 98, 3) := by decide +kernel
theorem dX4_debt_18 : decode cX4_debt 18 = .ok (.if_icmp .ge 39, 3) := by decide +kernel
theorem dX4_debt_21 : decode cX4_debt 21 = .ok (.aload_n 0, 1) := by decide +kernel
theorem dX4_debt_22 : decode cX4_debt 22 = .ok (.getfield 33, 3) := by decide +kernel
theorem dX4_debt_25 : decode cX4_debt 25 = .ok (.iload_n 3, 1) := by decide +kernel
theorem dX4_debt_26 : decode cX4_debt 26 = .ok (.invokevirtual 114, 3) := by decide +kernel
theorem dX4_debt_29 : decode cX4_debt 29 = .ok (.checkcast 101, 3) := by decide +kernel
theorem dX4_debt_32 : decode cX4_debt 32 = .ok (.astore 4, 2) := by decide +kernel
theorem dX4_debt_34 : decode cX4_debt 34 = .ok (.aload 4, 2) := by decide +kernel
theorem dX4_debt_36 : decode cX4_debt 36 = .ok (.getfield 247, 3) := by decide +kernel
theorem dX4_debt_39 : decode cX4_debt 39 = .ok (.iload_n 1, 1) := by decide +kernel
theorem dX4_debt_40 : decode cX4_debt 40 = .ok (.if_icmp .ne 11, 3) := by decide +kernel
theorem dX4_debt_43 : decode cX4_debt 43 = .ok (.iload_n 2, 1) := by decide +kernel
theorem dX4_debt_44 : decode cX4_debt 44 = .ok (.aload 4, 2) := by decide +kernel
theorem dX4_debt_46 : decode cX4_debt 46 = .ok (.getfield 178, 3) := by decide +kernel
theorem dX4_debt_49 : decode cX4_debt 49 = .ok (.iadd, 1) := by decide +kernel
theorem dX4_debt_50 : decode cX4_debt 50 = .ok (.istore_n 2, 1) := by decide +kernel
theorem dX4_debt_51 : decode cX4_debt 51 = .ok (.iinc 3 1, 3) := by decide +kernel
theorem dX4_debt_54 : decode cX4_debt 54 = .ok (.goto (-44), 3) := by decide +kernel
theorem dX4_debt_57 : decode cX4_debt 57 = .ok (.iload_n 2, 1) := by decide +kernel
theorem dX4_debt_58 : decode cX4_debt 58 = .ok (.ireturn, 1) := by decide +kernel
theorem dX5_init_0 : decode cX5_init 0 = .ok (.aload_n 0, 1) := by decide +kernel
theorem dX5_init_1 : decode cX5_init 1 = .ok (.invokespecial 1, 3) := by decide +kernel
theorem dX5_init_4 : decode cX5_init 4 = .ok (.aload_n 0, 1) := by decide +kernel
theorem dX5_init_5 : decode cX5_init 5 = .ok (.bipush 12, 2) := by decide +kernel
theorem dX5_init_7 : decode cX5_init 7 = .ok (.newarray .int, 2) := by decide +kernel
theorem dX5_init_9 : decode cX5_init 9 = .ok (.putfield 7, 3) := by decide +kernel
theorem dX5_init_12 : decode cX5_init 12 = .ok (.aload_n 0, 1) := by decide +kernel
theorem dX5_init_13 : decode cX5_init 13 = .ok (.bipush 12, 2) := by decide +kernel
theorem dX5_init_15 : decode cX5_init 15 = .ok (.newarray .int, 2) := by decide +kernel
theorem dX5_init_17 : decode cX5_init 17 = .ok (.putfield 13, 3) := by decide +kernel
theorem dX5_init_20 : decode cX5_init 20 = .ok (.aload_n 0, 1) := by decide +kernel
theorem dX5_init_21 : decode cX5_init 21 = .ok (.bipush 12, 2) := by decide +kernel
theorem dX5_init_23 : decode cX5_init 23 = .ok (.newarray .boolean, 2) := by decide +kernel
theorem dX5_init_25 : decode cX5_init 25 = .ok (.putfield 16, 3) := by decide +kernel
theorem dX5_init_28 : decode cX5_init 28 = .ok (.aload_n 0, 1) := by decide +kernel
theorem dX5_init_29 : decode cX5_init 29 = .ok (.bipush 12, 2) := by decide +kernel
theorem dX5_init_31 : decode cX5_init 31 = .ok (.newarray .int, 2) := by decide +kernel
theorem dX5_init_33 : decode cX5_init 33 = .ok (.putfield 20, 3) := by decide +kernel
theorem dX5_init_36 : decode cX5_init 36 = .ok (.aload_n 0, 1) := by decide +kernel
theorem dX5_init_37 : decode cX5_init 37 = .ok (.sipush 2400, 3) := by decide +kernel
theorem dX5_init_40 : decode cX5_init 40 = .ok (.newarray .int, 2) := by decide +kernel
theorem dX5_init_42 : decode cX5_init 42 = .ok (.putfield 23, 3) := by decide +kernel
theorem dX5_init_45 : decode cX5_init 45 = .ok (.aload_n 0, 1) := by decide +kernel
theorem dX5_init_46 : decode cX5_init 46 = .ok (.sipush 2400, 3) := by decide +kernel
theorem dX5_init_49 : decode cX5_init 49 = .ok (.newarray .int, 2) := by decide +kernel
theorem dX5_init_51 : decode cX5_init 51 = .ok (.putfield 26, 3) := by decide +kernel
theorem dX5_init_54 : decode cX5_init 54 = .ok (.aload_n 0, 1) := by decide +kernel
theorem dX5_init_55 : decode cX5_init 55 = .ok (.sipush 2400, 3) := by decide +kernel
theorem dX5_init_58 : decode cX5_init 58 = .ok (.newarray .int, 2) := by decide +kernel
theorem dX5_init_60 : decode cX5_init 60 = .ok (.putfield 29, 3) := by decide +kernel
theorem dX5_init_63 : decode cX5_init 63 = .ok (.aload_n 0, 1) := by decide +kernel
theorem dX5_init_64 : decode cX5_init 64 = .ok (.sipush 2400, 3) := by decide +kernel
theorem dX5_init_67 : decode cX5_init 67 = .ok (.newarray .int, 2) := by decide +kernel
theorem dX5_init_69 : decode cX5_init 69 = .ok (.putfield 32, 3) := by decide +kernel
theorem dX5_init_72 : decode cX5_init 72 = .ok (.aload_n 0, 1) := by decide +kernel
theorem dX5_init_73 : decode cX5_init 73 = .ok (.sipush 200, 3) := by decide +kernel
theorem dX5_init_76 : decode cX5_init 76 = .ok (.newarray .int, 2) := by decide +kernel
theorem dX5_init_78 : decode cX5_init 78 = .ok (.putfield 35, 3) := by decide +kernel
theorem dX5_init_81 : decode cX5_init 81 = .ok (.aload_n 0, 1) := by decide +kernel
theorem dX5_init_82 : decode cX5_init 82 = .ok (.bipush 60, 2) := by decide +kernel
theorem dX5_init_84 : decode cX5_init 84 = .ok (.newarray .int, 2) := by decide +kernel
theorem dX5_init_86 : decode cX5_init 86 = .ok (.putfield 38, 3) := by decide +kernel
theorem dX5_init_89 : decode cX5_init 89 = .ok (.aload_n 0, 1) := by decide +kernel
theorem dX5_init_90 : decode cX5_init 90 = .ok (.bipush 60, 2) := by decide +kernel
theorem dX5_init_92 : decode cX5_init 92 = .ok (.newarray .int, 2) := by decide +kernel
theorem dX5_init_94 : decode cX5_init 94 = .ok (.putfield 41, 3) := by decide +kernel
theorem dX5_init_97 : decode cX5_init 97 = .ok (.aload_n 0, 1) := by decide +kernel
theorem dX5_init_98 : decode cX5_init 98 = .ok (.bipush 60, 2) := by decide +kernel
theorem dX5_init_100 : decode cX5_init 100 = .ok (.newarray .int, 2) := by decide +kernel
theorem dX5_init_102 : decode cX5_init 102 = .ok (.putfield 44, 3) := by decide +kernel
theorem dX5_init_105 : decode cX5_init 105 = .ok (.aload_n 0, 1) := by decide +kernel
theorem dX5_init_106 : decode cX5_init 106 = .ok (.bipush 30, 2) := by decide +kernel
theorem dX5_init_108 : decode cX5_init 108 = .ok (.newarray .int, 2) := by decide +kernel
theorem dX5_init_110 : decode cX5_init 110 = .ok (.putfield 47, 3) := by decide +kernel
theorem dX5_init_113 : decode cX5_init 113 = .ok (.aload_n 0, 1) := by decide +kernel
theorem dX5_init_114 : decode cX5_init 114 = .ok (.bipush 30, 2) := by decide +kernel
theorem dX5_init_116 : decode cX5_init 116 = .ok (.newarray .int, 2) := by decide +kernel
theorem dX5_init_118 : decode cX5_init 118 = .ok (.putfield 50, 3) := by decide +kernel
theorem dX5_init_121 : decode cX5_init 121 = .ok (.aload_n 0, 1) := by decide +kernel
theorem dX5_init_122 : decode cX5_init 122 = .ok (.bipush 30, 2) := by decide +kernel
theorem dX5_init_124 : decode cX5_init 124 = .ok (.newarray .int, 2) := by decide +kernel
theorem dX5_init_126 : decode cX5_init 126 = .ok (.putfield 53, 3) := by decide +kernel
theorem dX5_init_129 : decode cX5_init 129 = .ok (.aload_n 0, 1) := by decide +kernel
theorem dX5_init_130 : decode cX5_init 130 = .ok (.bipush 30, 2) := by decide +kernel
theorem dX5_init_132 : decode cX5_init 132 = .ok (.newarray .int, 2) := by decide +kernel
theorem dX5_init_134 : decode cX5_init 134 = .ok (.putfield 56, 3) := by decide +kernel
theorem dX5_init_137 : decode cX5_init 137 = .ok (.aload_n 0, 1) := by decide +kernel
theorem dX5_init_138 : decode cX5_init 138 = .ok (.bipush 30, 2) := by decide +kernel
theorem dX5_init_140 : decode cX5_init 140 = .ok (.newarray .int, 2) := by decide +kernel
theorem dX5_init_142 : decode cX5_init 142 = .ok (.putfield 59, 3) := by decide +kernel
theorem dX5_init_145 : decode cX5_init 145 = .ok (.aload_n 0, 1) := by decide +kernel
theorem dX5_init_146 : decode cX5_init 146 = .ok (.bipush 30, 2) := by decide +kernel
theorem dX5_init_148 : decode cX5_init 148 = .ok (.newarray .int, 2) := by decide +kernel
theorem dX5_init_150 : decode cX5_init 150 = .ok (.putfield 62, 3) := by decide +kernel
theorem dX5_init_153 : decode cX5_init 153 = .ok (.aload_n 0, 1) := by decide +kernel
theorem dX5_init_154 : decode cX5_init 154 = .ok (.bipush 30, 2) := by decide +kernel
theorem dX5_init_156 : decode cX5_init 156 = .ok (.newarray .boolean, 2) := by decide +kernel
theorem dX5_init_158 : decode cX5_init 158 = .ok (.putfield 65, 3) := by decide +kernel
theorem dX5_init_161 : decode cX5_init 161 = .ok (.aload_n 0, 1) := by decide +kernel
theorem dX5_init_162 : decode cX5_init 162 = .ok (.bipush 30, 2) := by decide +kernel
theorem dX5_init_164 : decode cX5_init 164 = .ok (.newarray .int, 2) := by decide +kernel
theorem dX5_init_166 : decode cX5_init 166 = .ok (.putfield 68, 3) := by decide +kernel
theorem dX5_init_169 : decode cX5_init 169 = .ok (.aload_n 0, 1) := by decide +kernel
theorem dX5_init_170 : decode cX5_init 170 = .ok (.bipush 30, 2) := by decide +kernel
theorem dX5_init_172 : decode cX5_init 172 = .ok (.newarray .int, 2) := by decide +kernel
theorem dX5_init_174 : decode cX5_init 174 = .ok (.putfield 71, 3) := by decide +kernel
theorem dX5_init_177 : decode cX5_init 177 = .ok (.aload_n 0, 1) := by decide +kernel
theorem dX5_init_178 : decode cX5_init 178 = .ok (.bipush 6, 2) := by decide +kernel
theorem dX5_init_180 : decode cX5_init 180 = .ok (.newarray .int, 2) := by decide +kernel
theorem dX5_init_182 : decode cX5_init 182 = .ok (.putfield 74, 3) := by decide +kernel
theorem dX5_init_185 : decode cX5_init 185 = .ok (.aload_n 0, 1) := by decide +kernel
theorem dX5_init_186 : decode cX5_init 186 = .ok (.bipush 6, 2) := by decide +kernel
theorem dX5_init_188 : decode cX5_init 188 = .ok (.newarray .int, 2) := by decide +kernel
theorem dX5_init_190 : decode cX5_init 190 = .ok (.putfield 77, 3) := by decide +kernel
theorem dX5_init_193 : decode cX5_init 193 = .ok (.aload_n 0, 1) := by decide +kernel
theorem dX5_init_194 : decode cX5_init 194 = .ok (.bipush 6, 2) := by decide +kernel
theorem dX5_init_196 : decode cX5_init 196 = .ok (.newarray .int, 2) := by decide +kernel
theorem dX5_init_198 : decode cX5_init 198 = .ok (.putfield 80, 3) := by decide +kernel
theorem dX5_init_201 : decode cX5_init 201 = .ok (.aload_n 0, 1) := by decide +kernel
theorem dX5_init_202 : decode cX5_init 202 = .ok (.bipush 6, 2) := by decide +kernel
theorem dX5_init_204 : decode cX5_init 204 = .ok (.newarray .int, 2) := by decide +kernel
theorem dX5_init_206 : decode cX5_init 206 = .ok (.putfield 83, 3) := by decide +kernel
theorem dX5_init_209 : decode cX5_init 209 = .ok (.aload_n 0, 1) := by decide +kernel
theorem dX5_init_210 : decode cX5_init 210 = .ok (.bipush 6, 2) := by decide +kernel
theorem dX5_init_212 : decode cX5_init 212 = .ok (.newarray .int, 2) := by decide +kernel
theorem dX5_init_214 : decode cX5_init 214 = .ok (.putfield 86, 3) := by decide +kernel
theorem dX5_init_217 : decode cX5_init 217 = .ok (.aload_n 0, 1) := by decide +kernel
theorem dX5_init_218 : decode cX5_init 218 = .ok (.bipush 6, 2) := by decide +kernel
theorem dX5_init_220 : decode cX5_init 220 = .ok (.newarray .int, 2) := by decide +kernel
theorem dX5_init_222 : decode cX5_init 222 = .ok (.putfield 89, 3) := by decide +kernel
theorem dX5_init_225 : decode cX5_init 225 = .ok (.aload_n 0, 1) := by decide +kernel
theorem dX5_init_226 : decode cX5_init 226 = .ok (.bipush 50, 2) := by decide +kernel
theorem dX5_init_228 : decode cX5_init 228 = .ok (.newarray .int, 2) := by decide +kernel
theorem dX5_init_230 : decode cX5_init 230 = .ok (.putfield 92, 3) := by decide +kernel
theorem dX5_init_233 : decode cX5_init 233 = .ok (.iconst 0, 1) := by decide +kernel
theorem dX5_init_234 : decode cX5_init 234 = .ok (.istore_n 1, 1) := by decide +kernel
theorem dX5_init_235 : decode cX5_init 235 = .ok (.iload_n 1, 1) := by decide +kernel
theorem dX5_init_236 : decode cX5_init 236 = .ok (.bipush 6, 2) := by decide +kernel
theorem dX5_init_238 : decode cX5_init 238 = .ok (.if_icmp .ge 17, 3) := by decide +kernel
theorem dX5_init_241 : decode cX5_init 241 = .ok (.aload_n 0, 1) := by decide +kernel
theorem dX5_init_242 : decode cX5_init 242 = .ok (.getfield 77, 3) := by decide +kernel
theorem dX5_init_245 : decode cX5_init 245 = .ok (.iload_n 1, 1) := by decide +kernel
theorem dX5_init_246 : decode cX5_init 246 = .ok (.bipush 10, 2) := by decide +kernel
theorem dX5_init_248 : decode cX5_init 248 = .ok (.iastore, 1) := by decide +kernel
theorem dX5_init_249 : decode cX5_init 249 = .ok (.iinc 1 1, 3) := by decide +kernel
theorem dX5_init_252 : decode cX5_init 252 = .ok (.goto (-17), 3) := by decide +kernel
theorem dX5_init_255 : decode cX5_init 255 = .ok (.return_, 1) := by decide +kernel
theorem dX5_thrown_0 : decode cX5_thrown 0 = .ok (.aload_n 0, 1) := by decide +kernel
theorem dX5_thrown_1 : decode cX5_thrown 1 = .ok (.getfield 95, 3) := by decide +kernel
theorem dX5_thrown_4 : decode cX5_thrown 4 = .ok (.ireturn, 1) := by decide +kernel
theorem dX5_fails_0 : decode cX5_fails 0 = .ok (.aload_n 0, 1) := by decide +kernel
theorem dX5_fails_1 : decode cX5_fails 1 = .ok (.iload_n 1, 1) := by decide +kernel
theorem dX5_fails_2 : decode cX5_fails 2 = .ok (.putfield 95, 3) := by decide +kernel
theorem dX5_fails_5 : decode cX5_fails 5 = .ok (.iconst 0, 1) := by decide +kernel
theorem dX5_fails_6 : decode cX5_fails 6 = .ok (.ireturn, 1) := by decide +kernel
theorem dX5_in_0 : decode cX5_in 0 = .ok (.iload_n 0, 1) := by decide +kernel
theorem dX5_in_1 : decode cX5_in 1 = .ok (.iload_n 1, 1) := by decide +kernel
theorem dX5_in_2 : decode cX5_in 2 = .ok (.if_icmp .lt 12, 3) := by decide +kernel
theorem dX5_in_5 : decode cX5_in 5 = .ok (.iload_n 0, 1) := by decide +kernel
theorem dX5_in_6 : decode cX5_in 6 = .ok (.iload_n 2, 1) := by decide +kernel
theorem dX5_in_7 : decode cX5_in 7 = .ok (.if_icmp .gt 7, 3) := by decide +kernel
theorem dX5_in_10 : decode cX5_in 10 = .ok (.iconst 1, 1) := by decide +kernel
theorem dX5_in_11 : decode cX5_in 11 = .ok (.goto 4, 3) := by decide +kernel
theorem dX5_in_14 : decode cX5_in 14 = .ok (.iconst 0, 1) := by decide +kernel
theorem dX5_in_15 : decode cX5_in 15 = .ok (.ireturn, 1) := by decide +kernel
set_option maxRecDepth 20000 in
theorem ggX5_isSection_X5_in : GoodIn wsX5_isSection wsX5_in := goodIn_r _ [4] (by decide +kernel) (by decide +kernel)
set_option maxRecDepth 20000 in
theorem gX5_isSection_X5_in : GoodIn wsX5_isSection (va_wsS RX5 99 yX5_in wsX5_in) := goodIn_app (goodIn_of _ (by decide +kernel)) ggX5_isSection_X5_in
theorem dX5_isSection_0 : decode cX5_isSection 0 = .ok (.iload_n 0, 1) := by decide +kernel
theorem dX5_isSection_1 : decode cX5_isSection 1 = .ok (.iconst 0, 1) := by decide +kernel
theorem dX5_isSection_2 : decode cX5_isSection 2 = .ok (.bipush 11, 2) := by decide +kernel
theorem dX5_isSection_4 : decode cX5_isSection 4 = .ok (.invokestatic 99, 3) := by decide +kernel
theorem dX5_isSection_7 : decode cX5_isSection 7 = .ok (.ireturn, 1) := by decide +kernel
set_option maxRecDepth 20000 in
theorem ggX5_isBusker_X5_in : GoodIn wsX5_isBusker wsX5_in := goodIn_r _ [4] (by decide +kernel) (by decide +kernel)
set_option maxRecDepth 20000 in
theorem gX5_isBusker_X5_in : GoodIn wsX5_isBusker (va_wsS RX5 99 yX5_in wsX5_in) := goodIn_app (goodIn_of _ (by decide +kernel)) ggX5_isBusker_X5_in
theorem dX5_isBusker_0 : decode cX5_isBusker 0 = .ok (.iload_n 0, 1) := by decide +kernel
theorem dX5_isBusker_1 : decode cX5_isBusker 1 = .ok (.iconst 0, 1) := by decide +kernel
theorem dX5_isBusker_2 : decode cX5_isBusker 2 = .ok (.iconst 5, 1) := by decide +kernel
theorem dX5_isBusker_3 : decode cX5_isBusker 3 = .ok (.invokestatic 99, 3) := by decide +kernel
theorem dX5_isBusker_6 : decode cX5_isBusker 6 = .ok (.ireturn, 1) := by decide +kernel
set_option maxRecDepth 20000 in
theorem ggX5_isOver_X5_in : GoodIn wsX5_isOver wsX5_in := goodIn_r _ [5] (by decide +kernel) (by decide +kernel)
set_option maxRecDepth 20000 in
theorem gX5_isOver_X5_in : GoodIn wsX5_isOver (va_wsS RX5 99 yX5_in wsX5_in) := goodIn_app (goodIn_of _ (by decide +kernel)) ggX5_isOver_X5_in
theorem dX5_isOver_0 : decode cX5_isOver 0 = .ok (.iload_n 1, 1) := by decide +kernel
theorem dX5_isOver_1 : decode cX5_isOver 1 = .ok (.iconst 0, 1) := by decide +kernel
theorem dX5_isOver_2 : decode cX5_isOver 2 = .ok (.aload_n 0, 1) := by decide +kernel
theorem dX5_isOver_3 : decode cX5_isOver 3 = .ok (.getfield 103, 3) := by decide +kernel
theorem dX5_isOver_6 : decode cX5_isOver 6 = .ok (.iconst 1, 1) := by decide +kernel
theorem dX5_isOver_7 : decode cX5_isOver 7 = .ok (.isub, 1) := by decide +kernel
theorem dX5_isOver_8 : decode cX5_isOver 8 = .ok (.invokestatic 99, 3) := by decide +kernel
theorem dX5_isOver_11 : decode cX5_isOver 11 = .ok (.ireturn, 1) := by decide +kernel
set_option maxRecDepth 20000 in
theorem ggX5_isLease_X5_in : GoodIn wsX5_isLease wsX5_in := goodIn_r _ [5] (by decide +kernel) (by decide +kernel)
set_option maxRecDepth 20000 in
theorem gX5_isLease_X5_in : GoodIn wsX5_isLease (va_wsS RX5 99 yX5_in wsX5_in) := goodIn_app (goodIn_of _ (by decide +kernel)) ggX5_isLease_X5_in
theorem dX5_isLease_0 : decode cX5_isLease 0 = .ok (.iload_n 1, 1) := by decide +kernel
theorem dX5_isLease_1 : decode cX5_isLease 1 = .ok (.iconst 0, 1) := by decide +kernel
theorem dX5_isLease_2 : decode cX5_isLease 2 = .ok (.aload_n 0, 1) := by decide +kernel
theorem dX5_isLease_3 : decode cX5_isLease 3 = .ok (.getfield 106, 3) := by decide +kernel
theorem dX5_isLease_6 : decode cX5_isLease 6 = .ok (.iconst 1, 1) := by decide +kernel
theorem dX5_isLease_7 : decode cX5_isLease 7 = .ok (.isub, 1) := by decide +kernel
theorem dX5_isLease_8 : decode cX5_isLease 8 = .ok (.invokestatic 99, 3) := by decide +kernel
theorem dX5_isLease_11 : decode cX5_isLease 11 = .ok (.ireturn, 1) := by decide +kernel
theorem dX5_cell_0 : decode cX5_cell 0 = .ok (.bipush 12, 2) := by decide +kernel
theorem dX5_cell_2 : decode cX5_cell 2 = .ok (.iload_n 1, 1) := by decide +kernel
theorem dX5_cell_3 : decode cX5_cell 3 = .ok (.imul, 1) := by decide +kernel
theorem dX5_cell_4 : decode cX5_cell 4 = .ok (.iload_n 0, 1) := by decide +kernel
theorem dX5_cell_5 : decode cX5_cell 5 = .ok (.iadd, 1) := by decide +kernel
theorem dX5_cell_6 : decode cX5_cell 6 = .ok (.ireturn, 1) := by decide +kernel
theorem dX5_takesLot_0 : decode cX5_takesLot 0 = .ok (.aload_n 0, 1) := by decide +kernel
theorem dX5_takesLot_1 : decode cX5_takesLot 1 = .ok (.getfield 109, 3) := by decide +kernel
theorem dX5_takesLot_4 : decode cX5_takesLot 4 = .ok (.ifCond .ne 5, 3) := by decide +kernel
theorem dX5_takesLot_7 : decode cX5_takesLot 7 = .ok (.iconst 0, 1) := by decide +kernel
theorem dX5_takesLot_8 : decode cX5_takesLot 8 = .ok (.ireturn, 1) := by decide +kernel
theorem dX5_takesLot_9 : decode cX5_takesLot 9 = .ok (.aload_n 0, 1) := by decide +kernel
theorem dX5_takesLot_10 : decode cX5_takesLot 10 = .ok (.getfield 92, 3) := by decide +kernel
theorem dX5_takesLot_13 : decode cX5_takesLot 13 = .ok (.iconst 0, 1) := by decide +kernel
theorem dX5_takesLot_14 : decode cX5_takesLot 14 = .ok (.iaload, 1) := by decide +kernel
theorem dX5_takesLot_15 : decode cX5_takesLot 15 = .ok (.istore_n 1, 1) := by decide +kernel
theorem dX5_takesLot_16 : decode cX5_takesLot 16 = .ok (.aload_n 0, 1) := by decide +kernel
theorem dX5_takesLot_17 : decode cX5_takesLot 17 = .ok (.dup, 1) := by decide +kernel
theorem dX5_takesLot_18 : decode cX5_takesLot 18 = .ok (.getfield 109, 3) := by decide +kernel
theorem dX5_takesLot_21 : decode cX5_takesLot 21 = .ok (.iconst 1, 1) := by decide +kernel
theorem dX5_takesLot_22 : decode cX5_takesLot 22 = .ok (.isub, 1) := by decide +kernel
theorem dX5_takesLot_23 : decode cX5_takesLot 23 = .ok (.putfield 109, 3) := by decide +kernel
theorem dX5_takesLot_26 : decode cX5_takesLot 26 = .ok (.iconst 0, 1) := by decide +kernel
theorem dX5_takesLot_27 : decode cX5_takesLot 27 = .ok (.istore_n 2, 1) := by decide +kernel
theorem dX5_takesLot_28 : decode cX5_takesLot 28 = .ok (.iload_n 2, 1) := by decide +kernel
theorem dX5_takesLot_29 : decode cX5_takesLot 29 = .ok (.aload_n 0, 1) := by decide +kernel
theorem dX5_takesLot_30 : decode cX5_takesLot 30 = .ok (.getfield 109, 3) := by decide +kernel
theorem dX5_takesLot_33 : decode cX5_takesLot 33 = .ok (.if_icmp .ge 23, 3) := by decide +kernel
theorem dX5_takesLot_36 : decode cX5_takesLot 36 = .ok (.aload_n 0, 1) := by decide +kernel
theorem dX5_takesLot_37 : decode cX5_takesLot 37 = .ok (.getfield 92, 3) := by decide +kernel
theorem dX5_takesLot_40 : decode cX5_takesLot 40 = .ok (.iload_n 2, 1) := by decide +kernel
theorem dX5_takesLot_41 : decode cX5_takesLot 41 = .ok (.aload_n 0, 1) := by decide +kernel
theorem dX5_takesLot_42 : decode cX5_takesLot 42 = .ok (.getfield 92, 3) := by decide +kernel
theorem dX5_takesLot_45 : decode cX5_takesLot 45 = .ok (.iload_n 2, 1) := by decide +kernel
theorem dX5_takesLot_46 : decode cX5_takesLot 46 = .ok (.iconst 1, 1) := by decide +kernel
theorem dX5_takesLot_47 : decode cX5_takesLot 47 = .ok (.iadd, 1) := by decide +kernel
theorem dX5_takesLot_48 : decode cX5_takesLot 48 = .ok (.iaload, 1) := by decide +kernel
theorem dX5_takesLot_49 : decode cX5_takesLot 49 = .ok (.iastore, 1) := by decide +kernel
theorem dX5_takesLot_50 : decode cX5_takesLot 50 = .ok (.iinc 2 1, 3) := by decide +kernel
theorem dX5_takesLot_53 : decode cX5_takesLot 53 = .ok (.goto (-25), 3) := by decide +kernel
theorem dX5_takesLot_56 : decode cX5_takesLot 56 = .ok (.iload_n 1, 1) := by decide +kernel
theorem dX5_takesLot_57 : decode cX5_takesLot 57 = .ok (.ireturn, 1) := by decide +kernel
theorem dX5_mayPlay_0 : decode cX5_mayPlay 0 = .ok (.aload_n 0, 1) := by decide +kernel
theorem dX5_mayPlay_1 : decode cX5_mayPlay 1 = .ok (.getfield 86, 3) := by decide +kernel
theorem dX5_mayPlay_4 : decode cX5_mayPlay 4 = .ok (.iload_n 1, 1) := by decide +kernel
theorem dX5_mayPlay_5 : decode cX5_mayPlay 5 = .ok (.iaload, 1) := by decide +kernel
theorem dX5_mayPlay_6 : decode cX5_mayPlay 6 = .ok (.iload_n 2, 1) := by decide +kernel
theorem dX5_mayPlay_7 : decode cX5_mayPlay 7 = .ok (.ishr, 1) := by decide +kernel
theorem dX5_mayPlay_8 : decode cX5_mayPlay 8 = .ok (.iconst 1, 1) := by decide +kernel
theorem dX5_mayPlay_9 : decode cX5_mayPlay 9 = .ok (.iand, 1) := by decide +kernel
theorem dX5_mayPlay_10 : decode cX5_mayPlay 10 = .ok (.iconst 1, 1) := by decide +kernel
theorem dX5_mayPlay_11 : decode cX5_mayPlay 11 = .ok (.if_icmp .ne 15, 3) := by decide +kernel
theorem dX5_mayPlay_14 : decode cX5_mayPlay 14 = .ok (.iload_n 3, 1) := by decide +kernel
theorem dX5_mayPlay_15 : decode cX5_mayPlay 15 = .ok (.iload_n 1, 1) := by decide +kernel
theorem dX5_mayPlay_16 : decode cX5_mayPlay 16 = .ok (.ishr, 1) := by decide +kernel
theorem dX5_mayPlay_17 : decode cX5_mayPlay 17 = .ok (.iconst 1, 1) := by decide +kernel
theorem dX5_mayPlay_18 : decode cX5_mayPlay 18 = .ok (.iand, 1) := by decide +kernel
theorem dX5_mayPlay_19 : decode cX5_mayPlay 19 = .ok (.ifCond .ne 7, 3) := by decide +kernel
theorem dX5_mayPlay_22 : decode cX5_mayPlay 22 = .ok (.iconst 1, 1) := by decide +kernel
theorem dX5_mayPlay_23 : decode cX5_mayPlay 23 = .ok (.goto 4, 3) := by decide +kernel
theorem dX5_mayPlay_26 : decode cX5_mayPlay 26 = .ok (.iconst 0, 1) := by decide +kernel
theorem dX5_mayPlay_27 : decode cX5_mayPlay 27 = .ok (.ireturn, 1) := by decide +kernel
set_option maxRecDepth 20000 in
theorem ggX5_plays_X5_mayPlay : GoodIn wsX5_plays wsX5_mayPlay := goodIn_r _ [6, 7, 14, 15, 16, 17, 18, 19, 20, 21, 22, 23, 24, 25, 26, 27, 28, 29, 30, 31, 32, 33, 34, 35, 36, 37, 38, 39, 40, 41, 42, 43, 44, 45, 46] (by decide +kernel) (by decide +kernel)
set_option maxRecDepth 20000 in
theorem gX5_plays_X5_mayPlay : GoodIn wsX5_plays (wsV RX5 112 RX5 yX5_mayPlay wsX5_mayPlay) := goodIn_app (goodIn_of _ (by decide +kernel)) ggX5_plays_X5_mayPlay
set_option maxRecDepth 20000 in
theorem ggX5_plays_X5_takesLot : GoodIn wsX5_plays wsX5_takesLot := goodIn_r _ [11, 12, 13, 14, 15, 16, 17, 18, 19, 20, 21, 22, 23, 24, 25, 26, 27, 28, 29, 30, 31, 32, 33, 34, 35, 36, 37, 38, 39, 40, 41, 42, 43, 44, 45, 46] (by decide +kernel) (by decide +kernel)
set_option maxRecDepth 20000 in
theorem gX5_plays_X5_takesLot : GoodIn wsX5_plays (wsV RX5 115 RX5 yX5_takesLot wsX5_takesLot) := goodIn_app (goodIn_of _ (by decide +kernel)) ggX5_plays_X5_takesLot
theorem dX5_plays_0 : decode cX5_plays 0 = .ok (.iconst (-1), 1) := by decide +kernel
theorem dX5_plays_1 : decode cX5_plays 1 = .ok (.istore_n 3, 1) := by decide +kernel
theorem dX5_plays_2 : decode cX5_plays 2 = .ok (.iconst 0, 1) := by decide +kernel
theorem dX5_plays_3 : decode cX5_plays 3 = .ok (.istore 4, 2) := by decide +kernel
theorem dX5_plays_5 : decode cX5_plays 5 = .ok (.iconst 0, 1) := by decide +kernel
theorem dX5_plays_6 : decode cX5_plays 6 = .ok (.istore 5, 2) := by decide +kernel
theorem dX5_plays_8 : decode cX5_plays 8 = .ok (.iload 5, 2) := by decide +kernel
theorem dX5_plays_10 : decode cX5_plays 10 = .ok (.bipush 6, 2) := by decide +kernel
theorem dX5_plays_12 : decode cX5_plays 12 = .ok (.if_icmp .ge 90, 3) := by decide +kernel
theorem dX5_plays_15 : decode cX5_plays 15 = .ok (.aload_n 0, 1) := by decide +kernel
theorem dX5_plays_16 : decode cX5_plays 16 = .ok (.iload 5, 2) := by decide +kernel
theorem dX5_plays_18 : decode cX5_plays 18 = .ok (.iload_n 1, 1) := by decide +kernel
theorem dX5_plays_19 : decode cX5_plays 19 = .ok (.iload_n 2, 1) := by decide +kernel
theorem dX5_plays_20 : decode cX5_plays 20 = .ok (.invokevirtual 112, 3) := by decide +kernel
theorem dX5_plays_23 : decode cX5_plays 23 = .ok (.ifCond .eq 73, 3) := by decide +kernel
theorem dX5_plays_26 : decode cX5_plays 26 = .ok (.iload_n 3, 1) := by decide +kernel
theorem dX5_plays_27 : decode cX5_plays 27 = .ok (.iconst (-1), 1) := by decide +kernel
theorem dX5_plays_28 : decode cX5_plays 28 = .ok (.if_icmp .eq 14, 3) := by decide +kernel
theorem dX5_plays_31 : decode cX5_plays 31 = .ok (.aload_n 0, 1) := by decide +kernel
theorem dX5_plays_32 : decode cX5_plays 32 = .ok (.getfield 89, 3) := by decide +kernel
theorem dX5_plays_35 : decode cX5_plays 35 = .ok (.iload 5, 2) := by decide +kernel
theorem dX5_plays_37 : decode cX5_plays 37 = .ok (.iaload, 1) := by decide +kernel
theorem dX5_plays_38 : decode cX5_plays 38 = .ok (.iload_n 3, 1) := by decide +kernel
theorem dX5_plays_39 : decode cX5_plays 39 = .ok (.if_icmp .ge 7, 3) := by decide +kernel
theorem dX5_plays_42 : decode cX5_plays 42 = .ok (.iconst 1, 1) := by decide +kernel
theorem dX5_plays_43 : decode cX5_plays 43 = .ok (.goto 23, 3) := by decide +kernel
theorem dX5_plays_46 : decode cX5_plays 46 = .ok (.aload_n 0, 1) := by decide +kernel
theorem dX5_plays_47 : decode cX5_plays 47 = .ok (.getfield 89, 3) := by decide +kernel
theorem dX5_plays_50 : decode cX5_plays 50 = .ok (.iload 5, 2) := by decide +kernel
theorem dX5_plays_52 : decode cX5_plays 52 = .ok (.iaload, 1) := by decide +kernel
theorem dX5_plays_53 : decode cX5_plays 53 = .ok (.iload_n 3, 1) := by decide +kernel
theorem dX5_plays_54 : decode cX5_plays 54 = .ok (.if_icmp .ne 10, 3) := by decide +kernel
theorem dX5_plays_57 : decode cX5_plays 57 = .ok (.iload 4, 2) := by decide +kernel
theorem dX5_plays_59 : decode cX5_plays 59 = .ok (.iconst 1, 1) := by decide +kernel
theorem dX5_plays_60 : decode cX5_plays 60 = .ok (.iadd, 1) := by decide +kernel
theorem dX5_plays_61 : decode cX5_plays 61 = .ok (.goto 5, 3) := by decide +kernel
theorem dX5_plays_64 : decode cX5_plays 64 = .ok (.iload 4, 2) := by decide +kernel
theorem dX5_plays_66 : decode cX5_plays 66 = .ok (.istore 4, 2) := by decide +kernel
theorem dX5_plays_68 : decode cX5_plays 68 = .ok (.iload_n 3, 1) := by decide +kernel
theorem dX5_plays_69 : decode cX5_plays 69 = .ok (.iconst (-1), 1) := by decide +kernel
theorem dX5_plays_70 : decode cX5_plays 70 = .ok (.if_icmp .eq 14, 3) := by decide +kernel
theorem dX5_plays_73 : decode cX5_plays 73 = .ok (.aload_n 0, 1) := by decide +kernel
theorem dX5_plays_74 : decode cX5_plays 74 = .ok (.getfield 89, 3) := by decide +kernel
theorem dX5_plays_77 : decode cX5_plays 77 = .ok (.iload 5, 2) := by decide +kernel
theorem dX5_plays_79 : decode cX5_plays 79 = .ok (.iaload, 1) := by decide +kernel
theorem dX5_plays_80 : decode cX5_plays 80 = .ok (.iload_n 3, 1) := by decide +kernel
theorem dX5_plays_81 : decode cX5_plays 81 = .ok (.if_icmp .ge 13, 3) := by decide +kernel
theorem dX5_plays_84 : decode cX5_plays 84 = .ok (.aload_n 0, 1) := by decide +kernel
theorem dX5_plays_85 : decode cX5_plays 85 = .ok (.getfield 89, 3) := by decide +kernel
theorem dX5_plays_88 : decode cX5_plays 88 = .ok (.iload 5, 2) := by decide +kernel
theorem dX5_plays_90 : decode cX5_plays 90 = .ok (.iaload, 1) := by decide +kernel
theorem dX5_plays_91 : decode cX5_plays 91 = .ok (.goto 4, 3) := by decide +kernel
theorem dX5_plays_94 : decode cX5_plays 94 = .ok (.iload_n 3, 1) := by decide +kernel
theorem dX5_plays_95 : decode cX5_plays 95 = .ok (.istore_n 3, 1) := by decide +kernel
theorem dX5_plays_96 : decode cX5_plays 96 = .ok (.iinc 5 1, 3) := by decide +kernel
theorem dX5_plays_99 : decode cX5_plays 99 = .ok (.goto (-91), 3) := by decide +kernel
theorem dX5_plays_102 : decode cX5_plays 102 = .ok (.iload 4, 2) := by decide +kernel
theorem dX5_plays_104 : decode cX5_plays 104 = .ok (.iconst 1, 1) := by decide +kernel
theorem dX5_plays_105 : decode cX5_plays 105 = .ok (.if_icmp .le 13, 3) := by decide +kernel
theorem dX5_plays_108 : decode cX5_plays 108 = .ok (.aload_n 0, 1) := by decide +kernel
theorem dX5_plays_109 : decode cX5_plays 109 = .ok (.invokevirtual 115, 3) := by decide +kernel
theorem dX5_plays_112 : decode cX5_plays 112 = .ok (.iload 4, 2) := by decide +kernel
theorem dX5_plays_114 : decode cX5_plays 114 = .ok (.irem, 1) := by decide +kernel
theorem dX5_plays_115 : decode cX5_plays 115 = .ok (.goto 4, 3) := by decide +kernel
theorem dX5_plays_118 : decode cX5_plays 118 = .ok (.iconst 0, 1) := by decide +kernel
theorem dX5_plays_119 : decode cX5_plays 119 = .ok (.istore 5, 2) := by decide +kernel
theorem dX5_plays_121 : decode cX5_plays 121 = .ok (.iconst (-1), 1) := by decide +kernel
theorem dX5_plays_122 : decode cX5_plays 122 = .ok (.istore 6, 2) := by decide +kernel
theorem dX5_plays_124 : decode cX5_plays 124 = .ok (.iconst 0, 1) := by decide +kernel
theorem dX5_plays_125 : decode cX5_plays 125 = .ok (.istore 7, 2) := by decide +kernel
theorem dX5_plays_127 : decode cX5_plays 127 = .ok (.iload 7, 2) := by decide +kernel
theorem dX5_plays_129 : decode cX5_plays 129 = .ok (.bipush 6, 2) := by decide +kernel
theorem dX5_plays_131 : decode cX5_plays 131 = .ok (.if_icmp .ge 48, 3) := by decide +kernel
theorem dX5_plays_134 : decode cX5_plays 134 = .ok (.aload_n 0, 1) := by decide +kernel
theorem dX5_plays_135 : decode cX5_plays 135 = .ok (.iload 7, 2) := by decide +kernel
theorem dX5_plays_137 : decode cX5_plays 137 = .ok (.iload_n 1, 1) := by decide +kernel
theorem dX5_plays_138 : decode cX5_plays 138 = .ok (.iload_n 2, 1) := by decide +kernel
theorem dX5_plays_139 : decode cX5_plays 139 = .ok (.invokevirtual 112, 3) := by decide +kernel
theorem dX5_plays_142 : decode cX5_plays 142 = .ok (.ifCond .eq 31, 3) := by decide +kernel
theorem dX5_plays_145 : decode cX5_plays 145 = .ok (.aload_n 0, 1) := by decide +kernel
theorem dX5_plays_146 : decode cX5_plays 146 = .ok (.getfield 89, 3) := by decide +kernel
theorem dX5_plays_149 : decode cX5_plays 149 = .ok (.iload 7, 2) := by decide +kernel
theorem dX5_plays_151 : decode cX5_plays 151 = .ok (.iaload, 1) := by decide +kernel
theorem dX5_plays_152 : decode cX5_plays 152 = .ok (.iload_n 3, 1) := by decide +kernel
theorem dX5_plays_153 : decode cX5_plays 153 = .ok (.if_icmp .ne 20, 3) := by decide +kernel
theorem dX5_plays_156 : decode cX5_plays 156 = .ok (.iload 5, 2) := by decide +kernel
theorem dX5_plays_158 : decode cX5_plays 158 = .ok (.ifCond .ne 8, 3) := by decide +kernel
theorem dX5_plays_161 : decode cX5_plays 161 = .ok (.iload 7, 2) := by decide +kernel
theorem dX5_plays_163 : decode cX5_plays 163 = .ok (.goto 5, 3) := by decide +kernel
theorem dX5_plays_166 : decode cX5_plays 166 = .ok (.iload 6, 2) := by decide +kernel
theorem dX5_plays_168 : decode cX5_plays 168 = .ok (.istore 6, 2) := by decide +kernel
theorem dX5_plays_170 : decode cX5_plays 170 = .ok (.iinc 5 (-1), 3) := by decide +kernel
theorem dX5_plays_173 : decode cX5_plays 173 = .ok (.iinc 7 1, 3) := by decide +kernel
theorem dX5_plays_176 : decode cX5_plays 176 = .ok (.goto (-49), 3) := by decide +kernel
theorem dX5_plays_179 : decode cX5_plays 179 = .ok (.iload 6, 2) := by decide +kernel
theorem dX5_plays_181 : decode cX5_plays 181 = .ok (.ireturn, 1) := by decide +kernel
set_option maxRecDepth 20000 in
theorem ggX5_places_X5_plays : GoodIn wsX5_places wsX5_plays := goodIn_r _ [10, 1, 11, 12, 13, 9, 14, 5, 15, 16, 17, 18, 19, 20, 24, 25, 26, 27, 28, 29, 30, 31, 32, 33, 34, 35, 36, 37, 38, 39, 40, 41, 42, 43, 44, 45, 46, 47, 48, 49, 50, 51, 52, 53, 54, 55, 56] (by decide +kernel) (by decide +kernel)
set_option maxRecDepth 20000 in
theorem gX5_places_X5_plays : GoodIn wsX5_places (wsV RX5 119 RX5 yX5_plays wsX5_plays) := goodIn_app (goodIn_of _ (by decide +kernel)) ggX5_places_X5_plays
set_option maxRecDepth 20000 in
theorem ggX5_places_X5_cell : GoodIn wsX5_places wsX5_cell := goodIn_r _ [23] (by decide +kernel) (by decide +kernel)
set_option maxRecDepth 20000 in
theorem gX5_places_X5_cell : GoodIn wsX5_places (va_wsS RX5 123 yX5_cell wsX5_cell) := goodIn_app (goodIn_of _ (by decide +kernel)) ggX5_places_X5_cell
theorem dX5_places_0 : decode cX5_places 0 = .ok (.iconst 0, 1) := by decide +kernel
theorem dX5_places_1 : decode cX5_places 1 = .ok (.istore_n 1, 1) := by decide +kernel
theorem dX5_places_2 : decode cX5_places 2 = .ok (.iload_n 1, 1) := by decide +kernel
theorem dX5_places_3 : decode cX5_places 3 = .ok (.bipush 6, 2) := by decide +kernel
theorem dX5_places_5 : decode cX5_places 5 = .ok (.if_icmp .ge 21, 3) := by decide +kernel
theorem dX5_places_8 : decode cX5_places 8 = .ok (.aload_n 0, 1) := by decide +kernel
theorem dX5_places_9 : decode cX5_places 9 = .ok (.getfield 89, 3) := by decide +kernel
theorem dX5_places_12 : decode cX5_places 12 = .ok (.iload_n 1, 1) := by decide +kernel
theorem dX5_places_13 : decode cX5_places 13 = .ok (.aload_n 0, 1) := by decide +kernel
theorem dX5_places_14 : decode cX5_places 14 = .ok (.getfield 80, 3) := by decide +kernel
theorem dX5_places_17 : decode cX5_places 17 = .ok (.iload_n 1, 1) := by decide +kernel
theorem dX5_places_18 : decode cX5_places 18 = .ok (.iaload, 1) := by decide +kernel
theorem dX5_places_19 : decode cX5_places 19 = .ok (.iastore, 1) := by decide +kernel
theorem dX5_places_20 : decode cX5_places 20 = .ok (.iinc 1 1, 3) := by decide +kernel
theorem dX5_places_23 : decode cX5_places 23 = .ok (.goto (-21), 3) := by decide +kernel
theorem dX5_places_26 : decode cX5_places 26 = .ok (.iconst 0, 1) := by decide +kernel
theorem dX5_places_27 : decode cX5_places 27 = .ok (.istore_n 1, 1) := by decide +kernel
theorem dX5_places_28 : decode cX5_places 28 = .ok (.iconst 0, 1) := by decide +kernel
theorem dX5_places_29 : decode cX5_places 29 = .ok (.istore_n 2, 1) := by decide +kernel
theorem dX5_places_30 : decode cX5_places 30 = .ok (.iload_n 2, 1) := by decide +kernel
theorem dX5_places_31 : decode cX5_places 31 = .ok (.bipush 12, 2) := by decide +kernel
theorem dX5_places_33 : decode cX5_places 33 = .ok (.if_icmp .ge 51, 3) := by decide +kernel
theorem dX5_places_36 : decode cX5_places 36 = .ok (.aload_n 0, 1) := by decide +kernel
theorem dX5_places_37 : decode cX5_places 37 = .ok (.iload_n 2, 1) := by decide +kernel
theorem dX5_places_38 : decode cX5_places 38 = .ok (.iload_n 1, 1) := by decide +kernel
theorem dX5_places_39 : decode cX5_places 39 = .ok (.invokevirtual 119, 3) := by decide +kernel
theorem dX5_places_42 : decode cX5_places 42 = .ok (.istore_n 3, 1) := by decide +kernel
theorem dX5_places_43 : decode cX5_places 43 = .ok (.aload_n 0, 1) := by decide +kernel
theorem dX5_places_44 : decode cX5_places 44 = .ok (.getfield 32, 3) := by decide +kernel
theorem dX5_places_47 : decode cX5_places 47 = .ok (.iload_n 2, 1) := by decide +kernel
theorem dX5_places_48 : decode cX5_places 48 = .ok (.aload_n 0, 1) := by decide +kernel
theorem dX5_places_49 : decode cX5_places 49 = .ok (.getfield 103, 3) := by decide +kernel
theorem dX5_places_52 : decode cX5_places 52 = .ok (.invokestatic 123, 3) := by decide +kernel
theorem dX5_places_55 : decode cX5_places 55 = .ok (.iload_n 3, 1) := by decide +kernel
theorem dX5_places_56 : decode cX5_places 56 = .ok (.iastore, 1) := by decide +kernel
theorem dX5_places_57 : decode cX5_places 57 = .ok (.iload_n 3, 1) := by decide +kernel
theorem dX5_places_58 : decode cX5_places 58 = .ok (.iconst (-1), 1) := by decide +kernel
theorem dX5_places_59 : decode cX5_places 59 = .ok (.if_icmp .eq 19, 3) := by decide +kernel
theorem dX5_places_62 : decode cX5_places 62 = .ok (.iload_n 1, 1) := by decide +kernel
theorem dX5_places_63 : decode cX5_places 63 = .ok (.iconst 1, 1) := by decide +kernel
theorem dX5_places_64 : decode cX5_places 64 = .ok (.iload_n 3, 1) := by decide +kernel
theorem dX5_places_65 : decode cX5_places 65 = .ok (.ishl, 1) := by decide +kernel
theorem dX5_places_66 : decode cX5_places 66 = .ok (.ior, 1) := by decide +kernel
theorem dX5_places_67 : decode cX5_places 67 = .ok (.istore_n 1, 1) := by decide +kernel
theorem dX5_places_68 : decode cX5_places 68 = .ok (.aload_n 0, 1) := by decide +kernel
theorem dX5_places_69 : decode cX5_places 69 = .ok (.getfield 80, 3) := by decide +kernel
theorem dX5_places_72 : decode cX5_places 72 = .ok (.iload_n 3, 1) := by decide +kernel
theorem dX5_places_73 : decode cX5_places 73 = .ok (.dup2, 1) := by decide +kernel
theorem dX5_places_74 : decode cX5_places 74 = .ok (.iaload, 1) := by decide +kernel
theorem dX5_places_75 : decode cX5_places 75 = .ok (.iconst 1, 1) := by decide +kernel
theorem dX5_places_76 : decode cX5_places 76 = .ok (.iadd, 1) := by decide +kernel
theorem dX5_places_77 : decode cX5_places 77 = .ok (.iastore, 1) := by decide +kernel
theorem dX5_places_78 : decode cX5_places 78 = .ok (.iinc 2 1, 3) := by decide +kernel
theorem dX5_places_81 : decode cX5_places 81 = .ok (.goto (-51), 3) := by decide +kernel
theorem dX5_places_84 : decode cX5_places 84 = .ok (.iconst 0, 1) := by decide +kernel
theorem dX5_places_85 : decode cX5_places 85 = .ok (.istore_n 2, 1) := by decide +kernel
theorem dX5_places_86 : decode cX5_places 86 = .ok (.iload_n 2, 1) := by decide +kernel
theorem dX5_places_87 : decode cX5_places 87 = .ok (.bipush 6, 2) := by decide +kernel
theorem dX5_places_89 : decode cX5_places 89 = .ok (.if_icmp .ge 16, 3) := by decide +kernel
theorem dX5_places_92 : decode cX5_places 92 = .ok (.aload_n 0, 1) := by decide +kernel
theorem dX5_places_93 : decode cX5_places 93 = .ok (.getfield 86, 3) := by decide +kernel
theorem dX5_places_96 : decode cX5_places 96 = .ok (.iload_n 2, 1) := by decide +kernel
theorem dX5_places_97 : decode cX5_places 97 = .ok (.iconst 0, 1) := by decide +kernel
theorem dX5_places_98 : decode cX5_places 98 = .ok (.iastore, 1) := by decide +kernel
theorem dX5_places_99 : decode cX5_places 99 = .ok (.iinc 2 1, 3) := by decide +kernel
theorem dX5_places_102 : decode cX5_places 102 = .ok (.goto (-16), 3) := by decide +kernel
theorem dX5_places_105 : decode cX5_places 105 = .ok (.return_, 1) := by decide +kernel
theorem dX5_reads_0 : decode cX5_reads 0 = .ok (.iload_n 0, 1) := by decide +kernel
theorem dX5_reads_1 : decode cX5_reads 1 = .ok (.iload_n 0, 1) := by decide +kernel
theorem dX5_reads_2 : decode cX5_reads 2 = .ok (.iload_n 1, 1) := by decide +kernel
theorem dX5_reads_3 : decode cX5_reads 3 = .ok (.imul, 1) := by decide +kernel
theorem dX5_reads_4 : decode cX5_reads 4 = .ok (.bipush 100, 2) := by decide +kernel
theorem dX5_reads_6 : decode cX5_reads 6 = .ok (.idiv, 1) := by decide +kernel
theorem dX5_reads_7 : decode cX5_reads 7 = .ok (.isub, 1) := by decide +kernel
theorem dX5_reads_8 : decode cX5_reads 8 = .ok (.ireturn, 1) := by decide +kernel
set_option maxRecDepth 20000 in
theorem ggX5_ends_X5_places : GoodIn wsX5_ends wsX5_places := goodIn_r _ [17, 18, 19, 2, 1, 20, 21, 22, 23, 16, 24, 25, 26, 27, 28, 29, 30, 31, 32, 33, 34, 35, 36, 37, 41, 42, 43, 44, 45, 46, 47, 48, 49, 50, 51, 52, 53, 54, 55, 56, 57, 58, 59, 60, 61, 62, 63, 64, 65, 66, 67, 68, 69, 70, 71, 72, 73] (by decide +kernel) (by decide +kernel)
set_option maxRecDepth 20000 in
theorem gX5_ends_X5_places : GoodIn wsX5_ends (wsV RX5 126 RX5 yX5_places wsX5_places) := goodIn_app (goodIn_of _ (by decide +kernel)) ggX5_ends_X5_places
set_option maxRecDepth 20000 in
theorem ggX5_ends_X5_cell : GoodIn wsX5_ends wsX5_cell := goodIn_r _ [37] (by decide +kernel) (by decide +kernel)
set_option maxRecDepth 20000 in
theorem gX5_ends_X5_cell : GoodIn wsX5_ends (va_wsS RX5 123 yX5_cell wsX5_cell) := goodIn_app (goodIn_of _ (by decide +kernel)) ggX5_ends_X5_cell
set_option maxRecDepth 20000 in
theorem ggX5_ends_X5_reads : GoodIn wsX5_ends wsX5_reads := goodIn_r _ [40] (by decide +kernel) (by decide +kernel)
set_option maxRecDepth 20000 in
theorem gX5_ends_X5_reads : GoodIn wsX5_ends (va_wsS RX5 129 yX5_reads wsX5_reads) := goodIn_app (goodIn_of _ (by decide +kernel)) ggX5_ends_X5_reads
theorem dX5_ends_0 : decode cX5_ends 0 = .ok (.iconst 0, 1) := by decide +kernel
theorem dX5_ends_1 : decode cX5_ends 1 = .ok (.istore_n 1, 1) := by decide +kernel
theorem dX5_ends_2 : decode cX5_ends 2 = .ok (.iconst 0, 1) := by decide +kernel
theorem dX5_ends_3 : decode cX5_ends 3 = .ok (.istore_n 2, 1) := by decide +kernel
theorem dX5_ends_4 : decode cX5_ends 4 = .ok (.aload_n 0, 1) := by decide +kernel
theorem dX5_ends_5 : decode cX5_ends 5 = .ok (.invokevirtual 126, 3) := by decide +kernel
theorem dX5_ends_8 : decode cX5_ends 8 = .ok (.iconst 0, 1) := by decide +kernel
theorem dX5_ends_9 : decode cX5_ends 9 = .ok (.istore_n 3, 1) := by decide +kernel
theorem dX5_ends_10 : decode cX5_ends 10 = .ok (.iload_n 3, 1) := by decide +kernel
theorem dX5_ends_11 : decode cX5_ends 11 = .ok (.bipush 12, 2) := by decide +kernel
theorem dX5_ends_13 : decode cX5_ends 13 = .ok (.if_icmp .ge 189, 3) := by decide +kernel
theorem dX5_ends_16 : decode cX5_ends 16 = .ok (.iload_n 3, 1) := by decide +kernel
theorem dX5_ends_17 : decode cX5_ends 17 = .ok (.aload_n 0, 1) := by decide +kernel
theorem dX5_ends_18 : decode cX5_ends 18 = .ok (.getfield 103, 3) := by decide +kernel
theorem dX5_ends_21 : decode cX5_ends 21 = .ok (.invokestatic 123, 3) := by decide +kernel
theorem dX5_ends_24 : decode cX5_ends 24 = .ok (.istore 4, 2) := by decide +kernel
theorem dX5_ends_26 : decode cX5_ends 26 = .ok (.aload_n 0, 1) := by decide +kernel
theorem dX5_ends_27 : decode cX5_ends 27 = .ok (.getfield 32, 3) := by decide +kernel
theorem dX5_ends_30 : decode cX5_ends 30 = .ok (.iload 4, 2) := by decide +kernel
theorem dX5_ends_32 : decode cX5_ends 32 = .ok (.iaload, 1) := by decide +kernel
theorem dX5_ends_33 : decode cX5_ends 33 = .ok (.istore 5, 2) := by decide +kernel
theorem dX5_ends_35 : decode cX5_ends 35 = .ok (.iload_n 2, 1) := by decide +kernel
theorem dX5_ends_36 : decode cX5_ends 36 = .ok (.aload_n 0, 1) := by decide +kernel
theorem dX5_ends_37 : decode cX5_ends 37 = .ok (.getfield 7, 3) := by decide +kernel
theorem dX5_ends_40 : decode cX5_ends 40 = .ok (.iload_n 3, 1) := by decide +kernel
theorem dX5_ends_41 : decode cX5_ends 41 = .ok (.iaload, 1) := by decide +kernel
theorem dX5_ends_42 : decode cX5_ends 42 = .ok (.iadd, 1) := by decide +kernel
theorem dX5_ends_43 : decode cX5_ends 43 = .ok (.istore 6, 2) := by decide +kernel
theorem dX5_ends_45 : decode cX5_ends 45 = .ok (.aload_n 0, 1) := by decide +kernel
theorem dX5_ends_46 : decode cX5_ends 46 = .ok (.getfield 26, 3) := by decide +kernel
theorem dX5_ends_49 : decode cX5_ends 49 = .ok (.iload 4, 2) := by decide +kernel
theorem dX5_ends_51 : decode cX5_ends 51 = .ok (.iload 5, 2) := by decide +kernel
theorem dX5_ends_53 : decode cX5_ends 53 = .ok (.iconst (-1), 1) := by decide +kernel
theorem dX5_ends_54 : decode cX5_ends 54 = .ok (.if_icmp .ne 7, 3) := by decide +kernel
theorem dX5_ends_57 : decode cX5_ends 57 = .ok (.iconst 0, 1) := by decide +kernel
theorem dX5_ends_58 : decode cX5_ends 58 = .ok (.goto 16, 3) := by decide +kernel
theorem dX5_ends_61 : decode cX5_ends 61 = .ok (.iload 6, 2) := by decide +kernel
theorem dX5_ends_63 : decode cX5_ends 63 = .ok (.aload_n 0, 1) := by decide +kernel
theorem dX5_ends_64 : decode cX5_ends 64 = .ok (.getfield 77, 3) := by decide +kernel
theorem dX5_ends_67 : decode cX5_ends 67 = .ok (.iload 5, 2) := by decide +kernel
theorem dX5_ends_69 : decode cX5_ends 69 = .ok (.iaload, 1) := by decide +kernel
theorem dX5_ends_70 : decode cX5_ends 70 = .ok (.imul, 1) := by decide +kernel
theorem dX5_ends_71 : decode cX5_ends 71 = .ok (.bipush 100, 2) := by decide +kernel
theorem dX5_ends_73 : decode cX5_ends 73 = .ok (.idiv, 1) := by decide +kernel
theorem dX5_ends_74 : decode cX5_ends 74 = .ok (.iastore, 1) := by decide +kernel
theorem dX5_ends_75 : decode cX5_ends 75 = .ok (.aload_n 0, 1) := by decide +kernel
theorem dX5_ends_76 : decode cX5_ends 76 = .ok (.getfield 23, 3) := by decide +kernel
theorem dX5_ends_79 : decode cX5_ends 79 = .ok (.iload 4, 2) := by decide +kernel
theorem dX5_ends_81 : decode cX5_ends 81 = .ok (.iload 6, 2) := by decide +kernel
theorem dX5_ends_83 : decode cX5_ends 83 = .ok (.aload_n 0, 1) := by decide +kernel
theorem dX5_ends_84 : decode cX5_ends 84 = .ok (.getfield 26, 3) := by decide +kernel
theorem dX5_ends_87 : decode cX5_ends 87 = .ok (.iload 4, 2) := by decide +kernel
theorem dX5_ends_89 : decode cX5_ends 89 = .ok (.iaload, 1) := by decide +kernel
theorem dX5_ends_90 : decode cX5_ends 90 = .ok (.iadd, 1) := by decide +kernel
theorem dX5_ends_91 : decode cX5_ends 91 = .ok (.iastore, 1) := by decide +kernel
theorem dX5_ends_92 : decode cX5_ends 92 = .ok (.iload 5, 2) := by decide +kernel
theorem dX5_ends_94 : decode cX5_ends 94 = .ok (.iconst (-1), 1) := by decide +kernel
theorem dX5_ends_95 : decode cX5_ends 95 = .ok (.if_icmp .eq 23, 3) := by decide +kernel
theorem dX5_ends_98 : decode cX5_ends 98 = .ok (.aload_n 0, 1) := by decide +kernel
theorem dX5_ends_99 : decode cX5_ends 99 = .ok (.getfield 83, 3) := by decide +kernel
theorem dX5_ends_102 : decode cX5_ends 102 = .ok (.iload 5, 2) := by decide +kernel
theorem dX5_ends_104 : decode cX5_ends 104 = .ok (.dup2, 1) := by decide +kernel
theorem dX5_ends_105 : decode cX5_ends 105 = .ok (.iaload, 1) := by decide +kernel
theorem dX5_ends_106 : decode cX5_ends 106 = .ok (.aload_n 0, 1) := by decide +kernel
theorem dX5_ends_107 : decode cX5_ends 107 = .ok (.getfield 26, 3) := by decide +kernel
theorem dX5_ends_110 : decode cX5_ends 110 = .ok (.iload 4, 2) := by decide +kernel
theorem dX5_ends_112 : decode cX5_ends 112 = .ok (.iaload, 1) := by decide +kernel
theorem dX5_ends_113 : decode cX5_ends 113 = .ok (.bipush 10, 2) := by decide +kernel
theorem dX5_ends_115 : decode cX5_ends 115 = .ok (.idiv, 1) := by decide +kernel
theorem dX5_ends_116 : decode cX5_ends 116 = .ok (.iadd, 1) := by decide +kernel
theorem dX5_ends_117 : decode cX5_ends 117 = .ok (.iastore, 1) := by decide +kernel
theorem dX5_ends_118 : decode cX5_ends 118 = .ok (.aload_n 0, 1) := by decide +kernel
theorem dX5_ends_119 : decode cX5_ends 119 = .ok (.getfield 29, 3) := by decide +kernel
theorem dX5_ends_122 : decode cX5_ends 122 = .ok (.iload 4, 2) := by decide +kernel
theorem dX5_ends_124 : decode cX5_ends 124 = .ok (.aload_n 0, 1) := by decide +kernel
theorem dX5_ends_125 : decode cX5_ends 125 = .ok (.getfield 16, 3) := by decide +kernel
theorem dX5_ends_128 : decode cX5_ends 128 = .ok (.iload_n 3, 1) := by decide +kernel
theorem dX5_ends_129 : decode cX5_ends 129 = .ok (.baload, 1) := by decide +kernel
theorem dX5_ends_130 : decode cX5_ends 130 = .ok (.ifCond .eq 7, 3) := by decide +kernel
theorem dX5_ends_133 : decode cX5_ends 133 = .ok (.iconst (-1), 1) := by decide +kernel
theorem dX5_ends_134 : decode cX5_ends 134 = .ok (.goto 19, 3) := by decide +kernel
theorem dX5_ends_137 : decode cX5_ends 137 = .ok (.aload_n 0, 1) := by decide +kernel
theorem dX5_ends_138 : decode cX5_ends 138 = .ok (.getfield 23, 3) := by decide +kernel
theorem dX5_ends_141 : decode cX5_ends 141 = .ok (.iload 4, 2) := by decide +kernel
theorem dX5_ends_143 : decode cX5_ends 143 = .ok (.iaload, 1) := by decide +kernel
theorem dX5_ends_144 : decode cX5_ends 144 = .ok (.aload_n 0, 1) := by decide +kernel
theorem dX5_ends_145 : decode cX5_ends 145 = .ok (.getfield 20, 3) := by decide +kernel
theorem dX5_ends_148 : decode cX5_ends 148 = .ok (.iload_n 3, 1) := by decide +kernel
theorem dX5_ends_149 : decode cX5_ends 149 = .ok (.iaload, 1) := by decide +kernel
theorem dX5_ends_150 : decode cX5_ends 150 = .ok (.invokestatic 129, 3) := by decide +kernel
theorem dX5_ends_153 : decode cX5_ends 153 = .ok (.iastore, 1) := by decide +kernel
theorem dX5_ends_154 : decode cX5_ends 154 = .ok (.iload 6, 2) := by decide +kernel
theorem dX5_ends_156 : decode cX5_ends 156 = .ok (.aload_n 0, 1) := by decide +kernel
theorem dX5_ends_157 : decode cX5_ends 157 = .ok (.getfield 26, 3) := by decide +kernel
theorem dX5_ends_160 : decode cX5_ends 160 = .ok (.iload 4, 2) := by decide +kernel
theorem dX5_ends_162 : decode cX5_ends 162 = .ok (.iaload, 1) := by decide +kernel
theorem dX5_ends_163 : decode cX5_ends 163 = .ok (.isub, 1) := by decide +kernel
theorem dX5_ends_164 : decode cX5_ends 164 = .ok (.iload 6, 2) := by decide +kernel
theorem dX5_ends_166 : decode cX5_ends 166 = .ok (.aload_n 0, 1) := by decide +kernel
theorem dX5_ends_167 : decode cX5_ends 167 = .ok (.getfield 26, 3) := by decide +kernel
theorem dX5_ends_170 : decode cX5_ends 170 = .ok (.iload 4, 2) := by decide +kernel
theorem dX5_ends_172 : decode cX5_ends 172 = .ok (.iaload, 1) := by decide +kernel
theorem dX5_ends_173 : decode cX5_ends 173 = .ok (.isub, 1) := by decide +kernel
theorem dX5_ends_174 : decode cX5_ends 174 = .ok (.aload_n 0, 1) := by decide +kernel
theorem dX5_ends_175 : decode cX5_ends 175 = .ok (.getfield 13, 3) := by decide +kernel
theorem dX5_ends_178 : decode cX5_ends 178 = .ok (.iload_n 3, 1) := by decide +kernel
theorem dX5_ends_179 : decode cX5_ends 179 = .ok (.iaload, 1) := by decide +kernel
theorem dX5_ends_180 : decode cX5_ends 180 = .ok (.imul, 1) := by decide +kernel
theorem dX5_ends_181 : decode cX5_ends 181 = .ok (.bipush 100, 2) := by decide +kernel
theorem dX5_ends_183 : decode cX5_ends 183 = .ok (.idiv, 1) := by decide +kernel
theorem dX5_ends_184 : decode cX5_ends 184 = .ok (.isub, 1) := by decide +kernel
theorem dX5_ends_185 : decode cX5_ends 185 = .ok (.istore_n 2, 1) := by decide +kernel
theorem dX5_ends_186 : decode cX5_ends 186 = .ok (.iload_n 1, 1) := by decide +kernel
theorem dX5_ends_187 : decode cX5_ends 187 = .ok (.aload_n 0, 1) := by decide +kernel
theorem dX5_ends_188 : decode cX5_ends 188 = .ok (.getfield 23, 3) := by decide +kernel
theorem dX5_ends_191 : decode cX5_ends 191 = .ok (.iload 4, 2) := by decide +kernel
theorem dX5_ends_193 : decode cX5_ends 193 = .ok (.iaload, 1) := by decide +kernel
theorem dX5_ends_194 : decode cX5_ends 194 = .ok (.iadd, 1) := by decide +kernel
theorem dX5_ends_195 : decode cX5_ends 195 = .ok (.istore_n 1, 1) := by decide +kernel
theorem dX5_ends_196 : decode cX5_ends 196 = .ok (.iinc 3 1, 3) := by decide +kernel
theorem dX5_ends_199 : decode cX5_ends 199 = .ok (.goto (-189), 3) := by decide +kernel
theorem dX5_ends_202 : decode cX5_ends 202 = .ok (.aload_n 0, 1) := by decide +kernel
theorem dX5_ends_203 : decode cX5_ends 203 = .ok (.getfield 35, 3) := by decide +kernel
theorem dX5_ends_206 : decode cX5_ends 206 = .ok (.aload_n 0, 1) := by decide +kernel
theorem dX5_ends_207 : decode cX5_ends 207 = .ok (.getfield 103, 3) := by decide +kernel
theorem dX5_ends_210 : decode cX5_ends 210 = .ok (.iload_n 2, 1) := by decide +kernel
theorem dX5_ends_211 : decode cX5_ends 211 = .ok (.iastore, 1) := by decide +kernel
theorem dX5_ends_212 : decode cX5_ends 212 = .ok (.aload_n 0, 1) := by decide +kernel
theorem dX5_ends_213 : decode cX5_ends 213 = .ok (.dup, 1) := by decide +kernel
theorem dX5_ends_214 : decode cX5_ends 214 = .ok (.getfield 103, 3) := by decide +kernel
theorem dX5_ends_217 : decode cX5_ends 217 = .ok (.iconst 1, 1) := by decide +kernel
theorem dX5_ends_218 : decode cX5_ends 218 = .ok (.iadd, 1) := by decide +kernel
theorem dX5_ends_219 : decode cX5_ends 219 = .ok (.putfield 103, 3) := by decide +kernel
theorem dX5_ends_222 : decode cX5_ends 222 = .ok (.iload_n 1, 1) := by decide +kernel
theorem dX5_ends_223 : decode cX5_ends 223 = .ok (.ireturn, 1) := by decide +kernel
set_option maxRecDepth 20000 in
theorem ggX5_pass_X5_in : GoodIn wsX5_pass wsX5_in := goodIn_r _ [6] (by decide +kernel) (by decide +kernel)
set_option maxRecDepth 20000 in
theorem gX5_pass_X5_in : GoodIn wsX5_pass (va_wsS RX5 99 yX5_in wsX5_in) := goodIn_app (goodIn_of _ (by decide +kernel)) ggX5_pass_X5_in
set_option maxRecDepth 20000 in
theorem ggX5_pass_X5_fails : GoodIn wsX5_pass wsX5_fails := goodIn_r _ [10, 1, 53, 54, 55, 56, 57, 58, 59, 60, 61, 62, 63, 64, 65, 66, 67, 68, 69, 70, 71, 72, 73, 74, 75, 76, 77, 78, 79, 80, 81, 82, 83, 84, 85] (by decide +kernel) (by decide +kernel)
set_option maxRecDepth 20000 in
theorem gX5_pass_X5_fails : GoodIn wsX5_pass (wsV RX5 132 RX5 yX5_fails wsX5_fails) := goodIn_app (goodIn_of _ (by decide +kernel)) ggX5_pass_X5_fails
set_option maxRecDepth 20000 in
theorem ggX5_pass_X5_ends : GoodIn wsX5_pass wsX5_ends := goodIn_r _ [14, 2, 15, 16, 17, 18, 19, 20, 21, 22, 23, 24, 25, 26, 27, 28, 5, 29, 30, 31, 32, 33, 34, 35, 36, 37, 38, 39, 40, 41, 42, 43, 44, 45, 46, 47, 48, 49, 50, 51, 52, 53, 54, 55, 56, 57, 58, 59, 60, 61, 62, 63, 64, 65, 66, 67, 68, 69, 70, 71, 72, 73, 74, 75, 76, 77, 78, 79, 80, 81, 82, 83, 84, 85] (by decide +kernel) (by decide +kernel)
set_option maxRecDepth 20000 in
theorem gX5_pass_X5_ends : GoodIn wsX5_pass (wsV RX5 136 RX5 yX5_ends wsX5_ends) := goodIn_app (goodIn_of _ (by decide +kernel)) ggX5_pass_X5_ends
theorem dX5_pass_0 : decode cX5_pass 0 = .ok (.aload_n 0, 1) := by decide +kernel
theorem dX5_pass_1 : decode cX5_pass 1 = .ok (.iconst 0, 1) := by decide +kernel
theorem dX5_pass_2 : decode cX5_pass 2 = .ok (.putfield 95, 3) := by decide +kernel
theorem dX5_pass_5 : decode cX5_pass 5 = .ok (.iload_n 1, 1) := by decide +kernel
theorem dX5_pass_6 : decode cX5_pass 6 = .ok (.iconst 1, 1) := by decide +kernel
theorem dX5_pass_7 : decode cX5_pass 7 = .ok (.bipush 50, 2) := by decide +kernel
theorem dX5_pass_9 : decode cX5_pass 9 = .ok (.invokestatic 99, 3) := by decide +kernel
theorem dX5_pass_12 : decode cX5_pass 12 = .ok (.ifCond .ne 9, 3) := by decide +kernel
theorem dX5_pass_15 : decode cX5_pass 15 = .ok (.aload_n 0, 1) := by decide +kernel
theorem dX5_pass_16 : decode cX5_pass 16 = .ok (.iconst 1, 1) := by decide +kernel
theorem dX5_pass_17 : decode cX5_pass 17 = .ok (.invokevirtual 132, 3) := by decide +kernel
theorem dX5_pass_20 : decode cX5_pass 20 = .ok (.ireturn, 1) := by decide +kernel
theorem dX5_pass_21 : decode cX5_pass 21 = .ok (.aload_n 0, 1) := by decide +kernel
theorem dX5_pass_22 : decode cX5_pass 22 = .ok (.getfield 103, 3) := by decide +kernel
theorem dX5_pass_25 : decode cX5_pass 25 = .ok (.iload_n 1, 1) := by decide +kernel
theorem dX5_pass_26 : decode cX5_pass 26 = .ok (.iadd, 1) := by decide +kernel
theorem dX5_pass_27 : decode cX5_pass 27 = .ok (.sipush 200, 3) := by decide +kernel
theorem dX5_pass_30 : decode cX5_pass 30 = .ok (.if_icmp .le 9, 3) := by decide +kernel
theorem dX5_pass_33 : decode cX5_pass 33 = .ok (.aload_n 0, 1) := by decide +kernel
theorem dX5_pass_34 : decode cX5_pass 34 = .ok (.iconst 2, 1) := by decide +kernel
theorem dX5_pass_35 : decode cX5_pass 35 = .ok (.invokevirtual 132, 3) := by decide +kernel
theorem dX5_pass_38 : decode cX5_pass 38 = .ok (.ireturn, 1) := by decide +kernel
theorem dX5_pass_39 : decode cX5_pass 39 = .ok (.iconst 0, 1) := by decide +kernel
theorem dX5_pass_40 : decode cX5_pass 40 = .ok (.istore_n 2, 1) := by decide +kernel
theorem dX5_pass_41 : decode cX5_pass 41 = .ok (.iconst 0, 1) := by decide +kernel
theorem dX5_pass_42 : decode cX5_pass 42 = .ok (.istore_n 3, 1) := by decide +kernel
theorem dX5_pass_43 : decode cX5_pass 43 = .ok (.iload_n 3, 1) := by decide +kernel
theorem dX5_pass_44 : decode cX5_pass 44 = .ok (.iload_n 1, 1) := by decide +kernel
theorem dX5_pass_45 : decode cX5_pass 45 = .ok (.if_icmp .ge 16, 3) := by decide +kernel
theorem dX5_pass_48 : decode cX5_pass 48 = .ok (.iload_n 2, 1) := by decide +kernel
theorem dX5_pass_49 : decode cX5_pass 49 = .ok (.aload_n 0, 1) := by decide +kernel
theorem dX5_pass_50 : decode cX5_pass 50 = .ok (.invokevirtual 136, 3) := by decide +kernel
theorem dX5_pass_53 : decode cX5_pass 53 = .ok (.iadd, 1) := by decide +kernel
theorem dX5_pass_54 : decode cX5_pass 54 = .ok (.istore_n 2, 1) := by decide +kernel
theorem dX5_pass_55 : decode cX5_pass 55 = .ok (.iinc 3 1, 3) := by decide +kernel
theorem dX5_pass_58 : decode cX5_pass 58 = .ok (.goto (-15), 3) := by decide +kernel
theorem dX5_pass_61 : decode cX5_pass 61 = .ok (.iload_n 2, 1) := by decide +kernel
theorem dX5_pass_62 : decode cX5_pass 62 = .ok (.ireturn, 1) := by decide +kernel
set_option maxRecDepth 20000 in
theorem ggX5_setPeople_X5_isSection : GoodIn wsX5_setPeople wsX5_isSection := goodIn_r _ [7, 8, 9, 6, 10] (by decide +kernel) (by decide +kernel)
set_option maxRecDepth 20000 in
theorem gX5_setPeople_X5_isSection : GoodIn wsX5_setPeople (va_wsS RX5 139 yX5_isSection wsX5_isSection) := goodIn_app (goodIn_of _ (by decide +kernel)) ggX5_setPeople_X5_isSection
set_option maxRecDepth 20000 in
theorem ggX5_setPeople_X5_fails : GoodIn wsX5_setPeople wsX5_fails := goodIn_r _ [14, 1, 15, 16, 17, 18, 19, 20, 21, 22, 23, 24, 25, 26, 27, 28, 29, 30, 31, 32, 33, 34, 35, 36, 37, 38, 39, 40, 41, 42, 43, 44, 45, 46, 47] (by decide +kernel) (by decide +kernel)
set_option maxRecDepth 20000 in
theorem gX5_setPeople_X5_fails : GoodIn wsX5_setPeople (wsV RX5 132 RX5 yX5_fails wsX5_fails) := goodIn_app (goodIn_of _ (by decide +kernel)) ggX5_setPeople_X5_fails
set_option maxRecDepth 20000 in
theorem ggX5_setPeople_X5_in : GoodIn wsX5_setPeople wsX5_in := goodIn_r _ [10] (by decide +kernel) (by decide +kernel)
set_option maxRecDepth 20000 in
theorem gX5_setPeople_X5_in : GoodIn wsX5_setPeople (va_wsS RX5 99 yX5_in wsX5_in) := goodIn_app (goodIn_of _ (by decide +kernel)) ggX5_setPeople_X5_in
theorem dX5_setPeople_0 : decode cX5_setPeople 0 = .ok (.aload_n 0, 1) := by decide +kernel
theorem dX5_setPeople_1 : decode cX5_setPeople 1 = .ok (.iconst 0, 1) := by decide +kernel
theorem dX5_setPeople_2 : decode cX5_setPeople 2 = .ok (.putfield 95, 3) := by decide +kernel
theorem dX5_setPeople_5 : decode cX5_setPeople 5 = .ok (.iload_n 1, 1) := by decide +kernel
theorem dX5_setPeople_6 : decode cX5_setPeople 6 = .ok (.invokestatic 139, 3) := by decide +kernel
theorem dX5_setPeople_9 : decode cX5_setPeople 9 = .ok (.ifCond .ne 9, 3) := by decide +kernel
theorem dX5_setPeople_12 : decode cX5_setPeople 12 = .ok (.aload_n 0, 1) := by decide +kernel
theorem dX5_setPeople_13 : decode cX5_setPeople 13 = .ok (.iconst 1, 1) := by decide +kernel
theorem dX5_setPeople_14 : decode cX5_setPeople 14 = .ok (.invokevirtual 132, 3) := by decide +kernel
theorem dX5_setPeople_17 : decode cX5_setPeople 17 = .ok (.ireturn, 1) := by decide +kernel
theorem dX5_setPeople_18 : decode cX5_setPeople 18 = .ok (.iload_n 2, 1) := by decide +kernel
theorem dX5_setPeople_19 : decode cX5_setPeople 19 = .ok (.iconst 0, 1) := by decide +kernel
theorem dX5_setPeople_20 : decode cX5_setPeople 20 = .ok (.sipush 1000, 3) := by decide +kernel
theorem dX5_setPeople_23 : decode cX5_setPeople 23 = .ok (.invokestatic 99, 3) := by decide +kernel
theorem dX5_setPeople_26 : decode cX5_setPeople 26 = .ok (.ifCond .eq 13, 3) := by decide +kernel
theorem dX5_setPeople_29 : decode cX5_setPeople 29 = .ok (.iload_n 3, 1) := by decide +kernel
theorem dX5_setPeople_30 : decode cX5_setPeople 30 = .ok (.iconst 0, 1) := by decide +kernel
theorem dX5_setPeople_31 : decode cX5_setPeople 31 = .ok (.bipush 100, 2) := by decide +kernel
theorem dX5_setPeople_33 : decode cX5_setPeople 33 = .ok (.invokestatic 99, 3) := by decide +kernel
theorem dX5_setPeople_36 : decode cX5_setPeople 36 = .ok (.ifCond .ne 9, 3) := by decide +kernel
theorem dX5_setPeople_39 : decode cX5_setPeople 39 = .ok (.aload_n 0, 1) := by decide +kernel
theorem dX5_setPeople_40 : decode cX5_setPeople 40 = .ok (.iconst 2, 1) := by decide +kernel
theorem dX5_setPeople_41 : decode cX5_setPeople 41 = .ok (.invokevirtual 132, 3) := by decide +kernel
theorem dX5_setPeople_44 : decode cX5_setPeople 44 = .ok (.ireturn, 1) := by decide +kernel
theorem dX5_setPeople_45 : decode cX5_setPeople 45 = .ok (.aload_n 0, 1) := by decide +kernel
theorem dX5_setPeople_46 : decode cX5_setPeople 46 = .ok (.getfield 7, 3) := by decide +kernel
theorem dX5_setPeople_49 : decode cX5_setPeople 49 = .ok (.iload_n 1, 1) := by decide +kernel
theorem dX5_setPeople_50 : decode cX5_setPeople 50 = .ok (.iaload, 1) := by decide +kernel
theorem dX5_setPeople_51 : decode cX5_setPeople 51 = .ok (.istore 4, 2) := by decide +kernel
theorem dX5_setPeople_53 : decode cX5_setPeople 53 = .ok (.aload_n 0, 1) := by decide +kernel
theorem dX5_setPeople_54 : decode cX5_setPeople 54 = .ok (.getfield 7, 3) := by decide +kernel
theorem dX5_setPeople_57 : decode cX5_setPeople 57 = .ok (.iload_n 1, 1) := by decide +kernel
theorem dX5_setPeople_58 : decode cX5_setPeople 58 = .ok (.iload_n 2, 1) := by decide +kernel
theorem dX5_setPeople_59 : decode cX5_setPeople 59 = .ok (.iastore, 1) := by decide +kernel
theorem dX5_setPeople_60 : decode cX5_setPeople 60 = .ok (.aload_n 0, 1) := by decide +kernel
theorem dX5_setPeople_61 : decode cX5_setPeople 61 = .ok (.getfield 13, 3) := by decide +kernel
theorem dX5_setPeople_64 : decode cX5_setPeople 64 = .ok (.iload_n 1, 1) := by decide +kernel
theorem dX5_setPeople_65 : decode cX5_setPeople 65 = .ok (.iload_n 3, 1) := by decide +kernel
theorem dX5_setPeople_66 : decode cX5_setPeople 66 = .ok (.iastore, 1) := by decide +kernel
theorem dX5_setPeople_67 : decode cX5_setPeople 67 = .ok (.iload 4, 2) := by decide +kernel
theorem dX5_setPeople_69 : decode cX5_setPeople 69 = .ok (.ireturn, 1) := by decide +kernel
set_option maxRecDepth 20000 in
theorem ggX5_setLamp_X5_isSection : GoodIn wsX5_setLamp wsX5_isSection := goodIn_r _ [7, 8, 9, 6, 10] (by decide +kernel) (by decide +kernel)
set_option maxRecDepth 20000 in
theorem gX5_setLamp_X5_isSection : GoodIn wsX5_setLamp (va_wsS RX5 139 yX5_isSection wsX5_isSection) := goodIn_app (goodIn_of _ (by decide +kernel)) ggX5_setLamp_X5_isSection
set_option maxRecDepth 20000 in
theorem ggX5_setLamp_X5_fails : GoodIn wsX5_setLamp wsX5_fails := goodIn_r _ [14, 1, 15, 16, 17, 18, 19, 20, 21, 22, 23, 24, 25, 26, 27, 28, 29, 30, 31, 32, 33, 34, 35, 36, 37, 38, 39, 40, 41, 42, 43, 44, 45, 46, 47] (by decide +kernel) (by decide +kernel)
set_option maxRecDepth 20000 in
theorem gX5_setLamp_X5_fails : GoodIn wsX5_setLamp (wsV RX5 132 RX5 yX5_fails wsX5_fails) := goodIn_app (goodIn_of _ (by decide +kernel)) ggX5_setLamp_X5_fails
set_option maxRecDepth 20000 in
theorem ggX5_setLamp_X5_in : GoodIn wsX5_setLamp wsX5_in := goodIn_r _ [10] (by decide +kernel) (by decide +kernel)
set_option maxRecDepth 20000 in
theorem gX5_setLamp_X5_in : GoodIn wsX5_setLamp (va_wsS RX5 99 yX5_in wsX5_in) := goodIn_app (goodIn_of _ (by decide +kernel)) ggX5_setLamp_X5_in
theorem dX5_setLamp_0 : decode cX5_setLamp 0 = .ok (.aload_n 0, 1) := by decide +kernel
theorem dX5_setLamp_1 : decode cX5_setLamp 1 = .ok (.iconst 0, 1) := by decide +kernel
theorem dX5_setLamp_2 : decode cX5_setLamp 2 = .ok (.putfield 95, 3) := by decide +kernel
theorem dX5_setLamp_5 : decode cX5_setLamp 5 = .ok (.iload_n 1, 1) := by decide +kernel
theorem dX5_setLamp_6 : decode cX5_setLamp 6 = .ok (.invokestatic 139, 3) := by decide +kernel
theorem dX5_setLamp_9 : decode cX5_setLamp 9 = .ok (.ifCond .ne 9, 3) := by decide +kernel
theorem dX5_setLamp_12 : decode cX5_setLamp 12 = .ok (.aload_n 0, 1) := by decide +kernel
theorem dX5_setLamp_13 : decode cX5_setLamp 13 = .ok (.iconst 1, 1) := by decide +kernel
theorem dX5_setLamp_14 : decode cX5_setLamp 14 = .ok (.invokevirtual 132, 3) := by decide +kernel
theorem dX5_setLamp_17 : decode cX5_setLamp 17 = .ok (.ireturn, 1) := by decide +kernel
theorem dX5_setLamp_18 : decode cX5_setLamp 18 = .ok (.iload_n 3, 1) := by decide +kernel
theorem dX5_setLamp_19 : decode cX5_setLamp 19 = .ok (.iconst 0, 1) := by decide +kernel
theorem dX5_setLamp_20 : decode cX5_setLamp 20 = .ok (.bipush 60, 2) := by decide +kernel
theorem dX5_setLamp_22 : decode cX5_setLamp 22 = .ok (.invokestatic 99, 3) := by decide +kernel
theorem dX5_setLamp_25 : decode cX5_setLamp 25 = .ok (.ifCond .ne 9, 3) := by decide +kernel
theorem dX5_setLamp_28 : decode cX5_setLamp 28 = .ok (.aload_n 0, 1) := by decide +kernel
theorem dX5_setLamp_29 : decode cX5_setLamp 29 = .ok (.iconst 2, 1) := by decide +kernel
theorem dX5_setLamp_30 : decode cX5_setLamp 30 = .ok (.invokevirtual 132, 3) := by decide +kernel
theorem dX5_setLamp_33 : decode cX5_setLamp 33 = .ok (.ireturn, 1) := by decide +kernel
theorem dX5_setLamp_34 : decode cX5_setLamp 34 = .ok (.aload_n 0, 1) := by decide +kernel
theorem dX5_setLamp_35 : decode cX5_setLamp 35 = .ok (.getfield 20, 3) := by decide +kernel
theorem dX5_setLamp_38 : decode cX5_setLamp 38 = .ok (.iload_n 1, 1) := by decide +kernel
theorem dX5_setLamp_39 : decode cX5_setLamp 39 = .ok (.iaload, 1) := by decide +kernel
theorem dX5_setLamp_40 : decode cX5_setLamp 40 = .ok (.istore 4, 2) := by decide +kernel
theorem dX5_setLamp_42 : decode cX5_setLamp 42 = .ok (.aload_n 0, 1) := by decide +kernel
theorem dX5_setLamp_43 : decode cX5_setLamp 43 = .ok (.getfield 16, 3) := by decide +kernel
theorem dX5_setLamp_46 : decode cX5_setLamp 46 = .ok (.iload_n 1, 1) := by decide +kernel
theorem dX5_setLamp_47 : decode cX5_setLamp 47 = .ok (.iload_n 2, 1) := by decide +kernel
theorem dX5_setLamp_48 : decode cX5_setLamp 48 = .ok (.ifCond .ne 7, 3) := by decide +kernel
theorem dX5_setLamp_51 : decode cX5_setLamp 51 = .ok (.iconst 1, 1) := by decide +kernel
theorem dX5_setLamp_52 : decode cX5_setLamp 52 = .ok (.goto 4, 3) := by decide +kernel
theorem dX5_setLamp_55 : decode cX5_setLamp 55 = .ok (.iconst 0, 1) := by decide +kernel
theorem dX5_setLamp_56 : decode cX5_setLamp 56 = .ok (.bastore, 1) := by decide +kernel
theorem dX5_setLamp_57 : decode cX5_setLamp 57 = .ok (.aload_n 0, 1) := by decide +kernel
theorem dX5_setLamp_58 : decode cX5_setLamp 58 = .ok (.getfield 20, 3) := by decide +kernel
theorem dX5_setLamp_61 : decode cX5_setLamp 61 = .ok (.iload_n 1, 1) := by decide +kernel
theorem dX5_setLamp_62 : decode cX5_setLamp 62 = .ok (.iload_n 3, 1) := by decide +kernel
theorem dX5_setLamp_63 : decode cX5_setLamp 63 = .ok (.iastore, 1) := by decide +kernel
theorem dX5_setLamp_64 : decode cX5_setLamp 64 = .ok (.iload 4, 2) := by decide +kernel
theorem dX5_setLamp_66 : decode cX5_setLamp 66 = .ok (.ireturn, 1) := by decide +kernel
theorem dX5_takenFor_0 : decode cX5_takenFor 0 = .ok (.iconst 0, 1) := by decide +kernel
theorem dX5_takenFor_1 : decode cX5_takenFor 1 = .ok (.istore_n 3, 1) := by decide +kernel
theorem dX5_takenFor_2 : decode cX5_takenFor 2 = .ok (.iconst 0, 1) := by decide +kernel
theorem dX5_takenFor_3 : decode cX5_takenFor 3 = .ok (.istore 4, 2) := by decide +kernel
theorem dX5_takenFor_5 : decode cX5_takenFor 5 = .ok (.iload 4, 2) := by decide +kernel
theorem dX5_takenFor_7 : decode cX5_takenFor 7 = .ok (.aload_n 0, 1) := by decide +kernel
theorem dX5_takenFor_8 : decode cX5_takenFor 8 = .ok (.getfield 143, 3) := by decide +kernel
theorem dX5_takenFor_11 : decode cX5_takenFor 11 = .ok (.if_icmp .ge 43, 3) := by decide +kernel
theorem dX5_takenFor_14 : decode cX5_takenFor 14 = .ok (.aload_n 0, 1) := by decide +kernel
theorem dX5_takenFor_15 : decode cX5_takenFor 15 = .ok (.getfield 38, 3) := by decide +kernel
theorem dX5_takenFor_18 : decode cX5_takenFor 18 = .ok (.iload 4, 2) := by decide +kernel
theorem dX5_takenFor_20 : decode cX5_takenFor 20 = .ok (.iaload, 1) := by decide +kernel
theorem dX5_takenFor_21 : decode cX5_takenFor 21 = .ok (.iload_n 1, 1) := by decide +kernel
theorem dX5_takenFor_22 : decode cX5_takenFor 22 = .ok (.if_icmp .ne 24, 3) := by decide +kernel
theorem dX5_takenFor_25 : decode cX5_takenFor 25 = .ok (.aload_n 0, 1) := by decide +kernel
theorem dX5_takenFor_26 : decode cX5_takenFor 26 = .ok (.getfield 41, 3) := by decide +kernel
theorem dX5_takenFor_29 : decode cX5_takenFor 29 = .ok (.iload 4, 2) := by decide +kernel
theorem dX5_takenFor_31 : decode cX5_takenFor 31 = .ok (.iaload, 1) := by decide +kernel
theorem dX5_takenFor_32 : decode cX5_takenFor 32 = .ok (.iload_n 2, 1) := by decide +kernel
theorem dX5_takenFor_33 : decode cX5_takenFor 33 = .ok (.if_icmp .gt 13, 3) := by decide +kernel
theorem dX5_takenFor_36 : decode cX5_takenFor 36 = .ok (.aload_n 0, 1) := by decide +kernel
theorem dX5_takenFor_37 : decode cX5_takenFor 37 = .ok (.getfield 44, 3) := by decide +kernel
theorem dX5_takenFor_40 : decode cX5_takenFor 40 = .ok (.iload 4, 2) := by decide +kernel
theorem dX5_takenFor_42 : decode cX5_takenFor 42 = .ok (.iaload, 1) := by decide +kernel
theorem dX5_takenFor_43 : decode cX5_takenFor 43 = .ok (.goto 4, 3) := by decide +kernel
theorem dX5_takenFor_46 : decode cX5_takenFor 46 = .ok (.iload_n 3, 1) := by decide +kernel
theorem dX5_takenFor_47 : decode cX5_takenFor 47 = .ok (.istore_n 3, 1) := by decide +kernel
theorem dX5_takenFor_48 : decode cX5_takenFor 48 = .ok (.iinc 4 1, 3) := by decide +kernel
theorem dX5_takenFor_51 : decode cX5_takenFor 51 = .ok (.goto (-46), 3) := by decide +kernel
theorem dX5_takenFor_54 : decode cX5_takenFor 54 = .ok (.iload_n 3, 1) := by decide +kernel
theorem dX5_takenFor_55 : decode cX5_takenFor 55 = .ok (.ireturn, 1) := by decide +kernel
set_option maxRecDepth 20000 in
theorem ggX5_counts_X5_cell : GoodIn wsX5_counts wsX5_cell := goodIn_r _ [5] (by decide +kernel) (by decide +kernel)
set_option maxRecDepth 20000 in
theorem gX5_counts_X5_cell : GoodIn wsX5_counts (va_wsS RX5 123 yX5_cell wsX5_cell) := goodIn_app (goodIn_of _ (by decide +kernel)) ggX5_counts_X5_cell
set_option maxRecDepth 20000 in
theorem ggX5_counts_X5_takenFor : GoodIn wsX5_counts wsX5_takenFor := goodIn_r _ [9, 10, 11, 12, 13, 14, 15, 16, 17, 18, 19, 20, 21, 22, 23, 24, 25, 26, 27, 28, 29, 30, 31, 32, 33, 34, 35, 36, 37, 38, 39, 40, 41, 42, 43, 44, 45, 46] (by decide +kernel) (by decide +kernel)
set_option maxRecDepth 20000 in
theorem gX5_counts_X5_takenFor : GoodIn wsX5_counts (wsV RX5 146 RX5 yX5_takenFor wsX5_takenFor) := goodIn_app (goodIn_of _ (by decide +kernel)) ggX5_counts_X5_takenFor
theorem dX5_counts_0 : decode cX5_counts 0 = .ok (.bipush 100, 2) := by decide +kernel
theorem dX5_counts_2 : decode cX5_counts 2 = .ok (.aload_n 0, 1) := by decide +kernel
theorem dX5_counts_3 : decode cX5_counts 3 = .ok (.getfield 29, 3) := by decide +kernel
theorem dX5_counts_6 : decode cX5_counts 6 = .ok (.iload_n 1, 1) := by decide +kernel
theorem dX5_counts_7 : decode cX5_counts 7 = .ok (.iload_n 2, 1) := by decide +kernel
theorem dX5_counts_8 : decode cX5_counts 8 = .ok (.invokestatic 123, 3) := by decide +kernel
theorem dX5_counts_11 : decode cX5_counts 11 = .ok (.iaload, 1) := by decide +kernel
theorem dX5_counts_12 : decode cX5_counts 12 = .ok (.imul, 1) := by decide +kernel
theorem dX5_counts_13 : decode cX5_counts 13 = .ok (.bipush 100, 2) := by decide +kernel
theorem dX5_counts_15 : decode cX5_counts 15 = .ok (.aload_n 0, 1) := by decide +kernel
theorem dX5_counts_16 : decode cX5_counts 16 = .ok (.iload_n 1, 1) := by decide +kernel
theorem dX5_counts_17 : decode cX5_counts 17 = .ok (.iload_n 2, 1) := by decide +kernel
theorem dX5_counts_18 : decode cX5_counts 18 = .ok (.invokevirtual 146, 3) := by decide +kernel
theorem dX5_counts_21 : decode cX5_counts 21 = .ok (.isub, 1) := by decide +kernel
theorem dX5_counts_22 : decode cX5_counts 22 = .ok (.idiv, 1) := by decide +kernel
theorem dX5_counts_23 : decode cX5_counts 23 = .ok (.ireturn, 1) := by decide +kernel
set_option maxRecDepth 20000 in
theorem ggX5_nearest_X5_isSection : GoodIn wsX5_nearest wsX5_isSection := goodIn_r _ [5, 6, 7, 4, 8] (by decide +kernel) (by decide +kernel)
set_option maxRecDepth 20000 in
theorem gX5_nearest_X5_isSection : GoodIn wsX5_nearest (va_wsS RX5 139 yX5_isSection wsX5_isSection) := goodIn_app (goodIn_of _ (by decide +kernel)) ggX5_nearest_X5_isSection
set_option maxRecDepth 20000 in
theorem ggX5_nearest_X5_cell : GoodIn wsX5_nearest wsX5_cell := goodIn_r _ [11] (by decide +kernel) (by decide +kernel)
set_option maxRecDepth 20000 in
theorem gX5_nearest_X5_cell : GoodIn wsX5_nearest (va_wsS RX5 123 yX5_cell wsX5_cell) := goodIn_app (goodIn_of _ (by decide +kernel)) ggX5_nearest_X5_cell
theorem dX5_nearest_0 : decode cX5_nearest 0 = .ok (.iload_n 1, 1) := by decide +kernel
theorem dX5_nearest_1 : decode cX5_nearest 1 = .ok (.istore 4, 2) := by decide +kernel
theorem dX5_nearest_3 : decode cX5_nearest 3 = .ok (.iload 4, 2) := by decide +kernel
theorem dX5_nearest_5 : decode cX5_nearest 5 = .ok (.invokestatic 139, 3) := by decide +kernel
theorem dX5_nearest_8 : decode cX5_nearest 8 = .ok (.ifCond .eq 27, 3) := by decide +kernel
theorem dX5_nearest_11 : decode cX5_nearest 11 = .ok (.aload_n 0, 1) := by decide +kernel
theorem dX5_nearest_12 : decode cX5_nearest 12 = .ok (.getfield 29, 3) := by decide +kernel
theorem dX5_nearest_15 : decode cX5_nearest 15 = .ok (.iload 4, 2) := by decide +kernel
theorem dX5_nearest_17 : decode cX5_nearest 17 = .ok (.iload_n 2, 1) := by decide +kernel
theorem dX5_nearest_18 : decode cX5_nearest 18 = .ok (.invokestatic 123, 3) := by decide +kernel
theorem dX5_nearest_21 : decode cX5_nearest 21 = .ok (.iaload, 1) := by decide +kernel
theorem dX5_nearest_22 : decode cX5_nearest 22 = .ok (.iconst (-1), 1) := by decide +kernel
theorem dX5_nearest_23 : decode cX5_nearest 23 = .ok (.if_icmp .ne 12, 3) := by decide +kernel
theorem dX5_nearest_26 : decode cX5_nearest 26 = .ok (.iload 4, 2) := by decide +kernel
theorem dX5_nearest_28 : decode cX5_nearest 28 = .ok (.iload_n 3, 1) := by decide +kernel
theorem dX5_nearest_29 : decode cX5_nearest 29 = .ok (.iadd, 1) := by decide +kernel
theorem dX5_nearest_30 : decode cX5_nearest 30 = .ok (.istore 4, 2) := by decide +kernel
theorem dX5_nearest_32 : decode cX5_nearest 32 = .ok (.goto (-29), 3) := by decide +kernel
theorem dX5_nearest_35 : decode cX5_nearest 35 = .ok (.iload 4, 2) := by decide +kernel
theorem dX5_nearest_37 : decode cX5_nearest 37 = .ok (.invokestatic 139, 3) := by decide +kernel
theorem dX5_nearest_40 : decode cX5_nearest 40 = .ok (.ifCond .eq 8, 3) := by decide +kernel
theorem dX5_nearest_43 : decode cX5_nearest 43 = .ok (.iload 4, 2) := by decide +kernel
theorem dX5_nearest_45 : decode cX5_nearest 45 = .ok (.goto 4, 3) := by decide +kernel
theorem dX5_nearest_48 : decode cX5_nearest 48 = .ok (.iconst (-1), 1) := by decide +kernel
theorem dX5_nearest_49 : decode cX5_nearest 49 = .ok (.ireturn, 1) := by decide +kernel
set_option maxRecDepth 20000 in
theorem ggX5_countOf_X5_nearest : GoodIn wsX5_countOf wsX5_nearest := goodIn_r _ [5, 6, 7, 8, 4, 9, 10, 11, 12, 13, 14, 15, 28, 29, 30, 31, 32, 33, 34, 35, 36, 37, 38, 39, 40, 41, 42, 43, 44, 45, 46, 47, 48, 49, 50, 51, 52, 53, 54, 55, 56, 57, 58, 59, 60] (by decide +kernel) (by decide +kernel)
set_option maxRecDepth 20000 in
theorem gX5_countOf_X5_nearest : GoodIn wsX5_countOf (wsV RX5 149 RX5 yX5_nearest wsX5_nearest) := goodIn_app (goodIn_of _ (by decide +kernel)) ggX5_countOf_X5_nearest
set_option maxRecDepth 20000 in
theorem ggX5_countOf_X5_counts : GoodIn wsX5_countOf wsX5_counts := goodIn_r _ [19, 6, 13, 14, 4, 15, 20, 21, 22, 23, 24, 25, 26, 27, 28, 29, 30, 31, 32, 33, 34, 35, 36, 37, 38, 39, 40, 41, 42, 43, 44, 45, 46, 47, 48, 49, 50, 51, 52, 53, 54, 55, 56, 57, 58, 59, 60] (by decide +kernel) (by decide +kernel)
set_option maxRecDepth 20000 in
theorem gX5_countOf_X5_counts : GoodIn wsX5_countOf (wsV RX5 153 RX5 yX5_counts wsX5_counts) := goodIn_app (goodIn_of _ (by decide +kernel)) ggX5_countOf_X5_counts
theorem dX5_countOf_0 : decode cX5_countOf 0 = .ok (.aload_n 0, 1) := by decide +kernel
theorem dX5_countOf_1 : decode cX5_countOf 1 = .ok (.iload_n 1, 1) := by decide +kernel
theorem dX5_countOf_2 : decode cX5_countOf 2 = .ok (.iload_n 2, 1) := by decide +kernel
theorem dX5_countOf_3 : decode cX5_countOf 3 = .ok (.iconst (-1), 1) := by decide +kernel
theorem dX5_countOf_4 : decode cX5_countOf 4 = .ok (.invokevirtual 149, 3) := by decide +kernel
theorem dX5_countOf_7 : decode cX5_countOf 7 = .ok (.istore_n 3, 1) := by decide +kernel
theorem dX5_countOf_8 : decode cX5_countOf 8 = .ok (.aload_n 0, 1) := by decide +kernel
theorem dX5_countOf_9 : decode cX5_countOf 9 = .ok (.iload_n 1, 1) := by decide +kernel
theorem dX5_countOf_10 : decode cX5_countOf 10 = .ok (.iload_n 2, 1) := by decide +kernel
theorem dX5_countOf_11 : decode cX5_countOf 11 = .ok (.iconst 1, 1) := by decide +kernel
theorem dX5_countOf_12 : decode cX5_countOf 12 = .ok (.invokevirtual 149, 3) := by decide +kernel
theorem dX5_countOf_15 : decode cX5_countOf 15 = .ok (.istore 4, 2) := by decide +kernel
theorem dX5_countOf_17 : decode cX5_countOf 17 = .ok (.iload_n 3, 1) := by decide +kernel
theorem dX5_countOf_18 : decode cX5_countOf 18 = .ok (.iconst (-1), 1) := by decide +kernel
theorem dX5_countOf_19 : decode cX5_countOf 19 = .ok (.if_icmp .eq 9, 3) := by decide +kernel
theorem dX5_countOf_22 : decode cX5_countOf 22 = .ok (.iload 4, 2) := by decide +kernel
theorem dX5_countOf_24 : decode cX5_countOf 24 = .ok (.iconst (-1), 1) := by decide +kernel
theorem dX5_countOf_25 : decode cX5_countOf 25 = .ok (.if_icmp .ne 30, 3) := by decide +kernel
theorem dX5_countOf_28 : decode cX5_countOf 28 = .ok (.iload_n 3, 1) := by decide +kernel
theorem dX5_countOf_29 : decode cX5_countOf 29 = .ok (.iload 4, 2) := by decide +kernel
theorem dX5_countOf_31 : decode cX5_countOf 31 = .ok (.if_icmp .ne 7, 3) := by decide +kernel
theorem dX5_countOf_34 : decode cX5_countOf 34 = .ok (.iconst 0, 1) := by decide +kernel
theorem dX5_countOf_35 : decode cX5_countOf 35 = .ok (.goto 19, 3) := by decide +kernel
theorem dX5_countOf_38 : decode cX5_countOf 38 = .ok (.aload_n 0, 1) := by decide +kernel
theorem dX5_countOf_39 : decode cX5_countOf 39 = .ok (.iload_n 3, 1) := by decide +kernel
theorem dX5_countOf_40 : decode cX5_countOf 40 = .ok (.iconst (-1), 1) := by decide +kernel
theorem dX5_countOf_41 : decode cX5_countOf 41 = .ok (.if_icmp .ne 8, 3) := by decide +kernel
theorem dX5_countOf_44 : decode cX5_countOf 44 = .ok (.iload 4, 2) := by decide +kernel
theorem dX5_countOf_46 : decode cX5_countOf 46 = .ok (.goto 4, 3) := by decide +kernel
theorem dX5_countOf_49 : decode cX5_countOf 49 = .ok (.iload_n 3, 1) := by decide +kernel
theorem dX5_countOf_50 : decode cX5_countOf 50 = .ok (.iload_n 2, 1) := by decide +kernel
theorem dX5_countOf_51 : decode cX5_countOf 51 = .ok (.invokevirtual 153, 3) := by decide +kernel
theorem dX5_countOf_54 : decode cX5_countOf 54 = .ok (.ireturn, 1) := by decide +kernel
theorem dX5_countOf_55 : decode cX5_countOf 55 = .ok (.iload_n 3, 1) := by decide +kernel
theorem dX5_countOf_56 : decode cX5_countOf 56 = .ok (.iload 4, 2) := by decide +kernel
theorem dX5_countOf_58 : decode cX5_countOf 58 = .ok (.if_icmp .ne 12, 3) := by decide +kernel
theorem dX5_countOf_61 : decode cX5_countOf 61 = .ok (.aload_n 0, 1) := by decide +kernel
theorem dX5_countOf_62 : decode cX5_countOf 62 = .ok (.iload_n 1, 1) := by decide +kernel
theorem dX5_countOf_63 : decode cX5_countOf 63 = .ok (.iload_n 2, 1) := by decide +kernel
theorem dX5_countOf_64 : decode cX5_countOf 64 = .ok (.invokevirtual 153, 3) := by decide +kernel
theorem dX5_countOf_67 : decode cX5_countOf 67 = .ok (.goto 19, 3) := by decide +kernel
theorem dX5_countOf_70 : decode cX5_countOf 70 = .ok (.aload_n 0, 1) := by decide +kernel
theorem dX5_countOf_71 : decode cX5_countOf 71 = .ok (.iload_n 3, 1) := by decide +kernel
theorem dX5_countOf_72 : decode cX5_countOf 72 = .ok (.iload_n 2, 1) := by decide +kernel
theorem dX5_countOf_73 : decode cX5_countOf 73 = .ok (.invokevirtual 153, 3) := by decide +kernel
theorem dX5_countOf_76 : decode cX5_countOf 76 = .ok (.aload_n 0, 1) := by decide +kernel
theorem dX5_countOf_77 : decode cX5_countOf 77 = .ok (.iload 4, 2) := by decide +kernel
theorem dX5_countOf_79 : decode cX5_countOf 79 = .ok (.iload_n 2, 1) := by decide +kernel
theorem dX5_countOf_80 : decode cX5_countOf 80 = .ok (.invokevirtual 153, 3) := by decide +kernel
theorem dX5_countOf_83 : decode cX5_countOf 83 = .ok (.iadd, 1) := by decide +kernel
theorem dX5_countOf_84 : decode cX5_countOf 84 = .ok (.iconst 2, 1) := by decide +kernel
theorem dX5_countOf_85 : decode cX5_countOf 85 = .ok (.idiv, 1) := by decide +kernel
theorem dX5_countOf_86 : decode cX5_countOf 86 = .ok (.ireturn, 1) := by decide +kernel
set_option maxRecDepth 20000 in
theorem ggX5_rents_X5_countOf : GoodIn wsX5_rents wsX5_countOf := goodIn_r _ [11, 12, 13, 14, 10, 15, 16, 17, 18, 19, 20, 21, 22, 23, 24, 25, 26, 27, 28, 29, 30, 31, 32, 33, 34, 35, 36, 37, 38, 39, 40, 41, 42, 43, 44, 45, 46, 47, 48, 49, 50, 51, 52, 53, 54, 55, 56, 57, 58, 59, 60, 61, 62, 63, 64, 65, 66, 67, 68, 69, 70] (by decide +kernel) (by decide +kernel)
set_option maxRecDepth 20000 in
theorem gX5_rents_X5_countOf : GoodIn wsX5_rents (wsV RX5 156 RX5 yX5_countOf wsX5_countOf) := goodIn_app (goodIn_of _ (by decide +kernel)) ggX5_rents_X5_countOf
theorem dX5_rents_0 : decode cX5_rents 0 = .ok (.iconst 0, 1) := by decide +kernel
theorem dX5_rents_1 : decode cX5_rents 1 = .ok (.istore_n 2, 1) := by decide +kernel
theorem dX5_rents_2 : decode cX5_rents 2 = .ok (.aload_n 0, 1) := by decide +kernel
theorem dX5_rents_3 : decode cX5_rents 3 = .ok (.getfield 59, 3) := by decide +kernel
theorem dX5_rents_6 : decode cX5_rents 6 = .ok (.iload_n 1, 1) := by decide +kernel
theorem dX5_rents_7 : decode cX5_rents 7 = .ok (.iaload, 1) := by decide +kernel
theorem dX5_rents_8 : decode cX5_rents 8 = .ok (.istore_n 3, 1) := by decide +kernel
theorem dX5_rents_9 : decode cX5_rents 9 = .ok (.iload_n 3, 1) := by decide +kernel
theorem dX5_rents_10 : decode cX5_rents 10 = .ok (.aload_n 0, 1) := by decide +kernel
theorem dX5_rents_11 : decode cX5_rents 11 = .ok (.getfield 62, 3) := by decide +kernel
theorem dX5_rents_14 : decode cX5_rents 14 = .ok (.iload_n 1, 1) := by decide +kernel
theorem dX5_rents_15 : decode cX5_rents 15 = .ok (.iaload, 1) := by decide +kernel
theorem dX5_rents_16 : decode cX5_rents 16 = .ok (.if_icmp .ge 50, 3) := by decide +kernel
theorem dX5_rents_19 : decode cX5_rents 19 = .ok (.iload_n 3, 1) := by decide +kernel
theorem dX5_rents_20 : decode cX5_rents 20 = .ok (.aload_n 0, 1) := by decide +kernel
theorem dX5_rents_21 : decode cX5_rents 21 = .ok (.getfield 103, 3) := by decide +kernel
theorem dX5_rents_24 : decode cX5_rents 24 = .ok (.if_icmp .ge 42, 3) := by decide +kernel
theorem dX5_rents_27 : decode cX5_rents 27 = .ok (.iload_n 2, 1) := by decide +kernel
theorem dX5_rents_28 : decode cX5_rents 28 = .ok (.aload_n 0, 1) := by decide +kernel
theorem dX5_rents_29 : decode cX5_rents 29 = .ok (.getfield 53, 3) := by decide +kernel
theorem dX5_rents_32 : decode cX5_rents 32 = .ok (.iload_n 1, 1) := by decide +kernel
theorem dX5_rents_33 : decode cX5_rents 33 = .ok (.iaload, 1) := by decide +kernel
theorem dX5_rents_34 : decode cX5_rents 34 = .ok (.aload_n 0, 1) := by decide +kernel
theorem dX5_rents_35 : decode cX5_rents 35 = .ok (.getfield 56, 3) := by decide +kernel
theorem dX5_rents_38 : decode cX5_rents 38 = .ok (.iload_n 1, 1) := by decide +kernel
theorem dX5_rents_39 : decode cX5_rents 39 = .ok (.iaload, 1) := by decide +kernel
theorem dX5_rents_40 : decode cX5_rents 40 = .ok (.aload_n 0, 1) := by decide +kernel
theorem dX5_rents_41 : decode cX5_rents 41 = .ok (.aload_n 0, 1) := by decide +kernel
theorem dX5_rents_42 : decode cX5_rents 42 = .ok (.getfield 47, 3) := by decide +kernel
theorem dX5_rents_45 : decode cX5_rents 45 = .ok (.iload_n 1, 1) := by decide +kernel
theorem dX5_rents_46 : decode cX5_rents 46 = .ok (.iaload, 1) := by decide +kernel
theorem dX5_rents_47 : decode cX5_rents 47 = .ok (.iconst 3, 1) := by decide +kernel
theorem dX5_rents_48 : decode cX5_rents 48 = .ok (.idiv, 1) := by decide +kernel
theorem dX5_rents_49 : decode cX5_rents 49 = .ok (.iload_n 3, 1) := by decide +kernel
theorem dX5_rents_50 : decode cX5_rents 50 = .ok (.invokevirtual 156, 3) := by decide +kernel
theorem dX5_rents_53 : decode cX5_rents 53 = .ok (.imul, 1) := by decide +kernel
theorem dX5_rents_54 : decode cX5_rents 54 = .ok (.bipush 100, 2) := by decide +kernel
theorem dX5_rents_56 : decode cX5_rents 56 = .ok (.idiv, 1) := by decide +kernel
theorem dX5_rents_57 : decode cX5_rents 57 = .ok (.iadd, 1) := by decide +kernel
theorem dX5_rents_58 : decode cX5_rents 58 = .ok (.iadd, 1) := by decide +kernel
theorem dX5_rents_59 : decode cX5_rents 59 = .ok (.istore_n 2, 1) := by decide +kernel
theorem dX5_rents_60 : decode cX5_rents 60 = .ok (.iinc 3 1, 3) := by decide +kernel
theorem dX5_rents_63 : decode cX5_rents 63 = .ok (.goto (-54), 3) := by decide +kernel
theorem dX5_rents_66 : decode cX5_rents 66 = .ok (.iload_n 2, 1) := by decide +kernel
theorem dX5_rents_67 : decode cX5_rents 67 = .ok (.ireturn, 1) := by decide +kernel
set_option maxRecDepth 20000 in
theorem ggX5_keeps_X5_rents : GoodIn wsX5_keeps wsX5_rents := goodIn_r _ [7, 8, 9, 10, 11, 12, 13, 14, 15, 16, 6, 17, 18, 19, 20, 21, 22, 23, 24, 25, 26, 27, 28, 29, 30, 31, 32, 33, 34, 35, 36, 37, 38, 39, 40, 41, 42, 43, 44, 45, 46, 47, 48, 49, 50, 51, 52, 53, 54, 55, 56, 57, 58, 59, 60, 61, 62, 63, 64, 65, 66, 67, 68, 69, 70, 71, 72, 73, 74, 75, 76] (by decide +kernel) (by decide +kernel)
set_option maxRecDepth 20000 in
theorem gX5_keeps_X5_rents : GoodIn wsX5_keeps (wsV RX5 159 RX5 yX5_rents wsX5_rents) := goodIn_app (goodIn_of _ (by decide +kernel)) ggX5_keeps_X5_rents
theorem dX5_keeps_0 : decode cX5_keeps 0 = .ok (.iconst 0, 1) := by decide +kernel
theorem dX5_keeps_1 : decode cX5_keeps 1 = .ok (.istore_n 1, 1) := by decide +kernel
theorem dX5_keeps_2 : decode cX5_keeps 2 = .ok (.iload_n 1, 1) := by decide +kernel
theorem dX5_keeps_3 : decode cX5_keeps 3 = .ok (.aload_n 0, 1) := by decide +kernel
theorem dX5_keeps_4 : decode cX5_keeps 4 = .ok (.getfield 106, 3) := by decide +kernel
theorem dX5_keeps_7 : decode cX5_keeps 7 = .ok (.if_icmp .ge 20, 3) := by decide +kernel
theorem dX5_keeps_10 : decode cX5_keeps 10 = .ok (.aload_n 0, 1) := by decide +kernel
theorem dX5_keeps_11 : decode cX5_keeps 11 = .ok (.getfield 71, 3) := by decide +kernel
theorem dX5_keeps_14 : decode cX5_keeps 14 = .ok (.iload_n 1, 1) := by decide +kernel
theorem dX5_keeps_15 : decode cX5_keeps 15 = .ok (.aload_n 0, 1) := by decide +kernel
theorem dX5_keeps_16 : decode cX5_keeps 16 = .ok (.iload_n 1, 1) := by decide +kernel
theorem dX5_keeps_17 : decode cX5_keeps 17 = .ok (.invokevirtual 159, 3) := by decide +kernel
theorem dX5_keeps_20 : decode cX5_keeps 20 = .ok (.iastore, 1) := by decide +kernel
theorem dX5_keeps_21 : decode cX5_keeps 21 = .ok (.iinc 1 1, 3) := by decide +kernel
theorem dX5_keeps_24 : decode cX5_keeps 24 = .ok (.goto (-22), 3) := by decide +kernel
theorem dX5_keeps_27 : decode cX5_keeps 27 = .ok (.return_, 1) := by decide +kernel
set_option maxRecDepth 20000 in
theorem ggX5_corrects_X5_rents : GoodIn wsX5_corrects wsX5_rents := goodIn_r _ [8, 9, 10, 11, 12, 13, 14, 15, 16, 17, 7, 18, 19, 20, 21, 22, 23, 24, 25, 26, 27, 28, 29, 30, 31, 32, 33, 34, 35, 36, 37, 38, 39, 40, 41, 42, 43, 44, 45, 46, 47, 48, 49, 50, 51, 52, 53, 54, 55, 56, 57, 58, 59, 60, 61, 62, 63, 64, 65, 66, 67, 68, 69, 70, 71, 72, 73, 74, 75, 76, 77] (by decide +kernel) (by decide +kernel)
set_option maxRecDepth 20000 in
theorem gX5_corrects_X5_rents : GoodIn wsX5_corrects (wsV RX5 159 RX5 yX5_rents wsX5_rents) := goodIn_app (goodIn_of _ (by decide +kernel)) ggX5_corrects_X5_rents
theorem dX5_corrects_0 : decode cX5_corrects 0 = .ok (.iconst 0, 1) := by decide +kernel
theorem dX5_corrects_1 : decode cX5_corrects 1 = .ok (.istore_n 1, 1) := by decide +kernel
theorem dX5_corrects_2 : decode cX5_corrects 2 = .ok (.iconst 0, 1) := by decide +kernel
theorem dX5_corrects_3 : decode cX5_corrects 3 = .ok (.istore_n 2, 1) := by decide +kernel
theorem dX5_corrects_4 : decode cX5_corrects 4 = .ok (.iload_n 2, 1) := by decide +kernel
theorem dX5_corrects_5 : decode cX5_corrects 5 = .ok (.aload_n 0, 1) := by decide +kernel
theorem dX5_corrects_6 : decode cX5_corrects 6 = .ok (.getfield 106, 3) := by decide +kernel
theorem dX5_corrects_9 : decode cX5_corrects 9 = .ok (.if_icmp .ge 36, 3) := by decide +kernel
theorem dX5_corrects_12 : decode cX5_corrects 12 = .ok (.aload_n 0, 1) := by decide +kernel
theorem dX5_corrects_13 : decode cX5_corrects 13 = .ok (.iload_n 2, 1) := by decide +kernel
theorem dX5_corrects_14 : decode cX5_corrects 14 = .ok (.invokevirtual 159, 3) := by decide +kernel
theorem dX5_corrects_17 : decode cX5_corrects 17 = .ok (.aload_n 0, 1) := by decide +kernel
theorem dX5_corrects_18 : decode cX5_corrects 18 = .ok (.getfield 71, 3) := by decide +kernel
theorem dX5_corrects_21 : decode cX5_corrects 21 = .ok (.iload_n 2, 1) := by decide +kernel
theorem dX5_corrects_22 : decode cX5_corrects 22 = .ok (.iaload, 1) := by decide +kernel
theorem dX5_corrects_23 : decode cX5_corrects 23 = .ok (.isub, 1) := by decide +kernel
theorem dX5_corrects_24 : decode cX5_corrects 24 = .ok (.istore_n 3, 1) := by decide +kernel
theorem dX5_corrects_25 : decode cX5_corrects 25 = .ok (.aload_n 0, 1) := by decide +kernel
theorem dX5_corrects_26 : decode cX5_corrects 26 = .ok (.getfield 68, 3) := by decide +kernel
theorem dX5_corrects_29 : decode cX5_corrects 29 = .ok (.iload_n 2, 1) := by decide +kernel
theorem dX5_corrects_30 : decode cX5_corrects 30 = .ok (.dup2, 1) := by decide +kernel
theorem dX5_corrects_31 : decode cX5_corrects 31 = .ok (.iaload, 1) := by decide +kernel
theorem dX5_corrects_32 : decode cX5_corrects 32 = .ok (.iload_n 3, 1) := by decide +kernel
theorem dX5_corrects_33 : decode cX5_corrects 33 = .ok (.iadd, 1) := by decide +kernel
theorem dX5_corrects_34 : decode cX5_corrects 34 = .ok (.iastore, 1) := by decide +kernel
theorem dX5_corrects_35 : decode cX5_corrects 35 = .ok (.iload_n 1, 1) := by decide +kernel
theorem dX5_corrects_36 : decode cX5_corrects 36 = .ok (.iload_n 3, 1) := by decide +kernel
theorem dX5_corrects_37 : decode cX5_corrects 37 = .ok (.iadd, 1) := by decide +kernel
theorem dX5_corrects_38 : decode cX5_corrects 38 = .ok (.istore_n 1, 1) := by decide +kernel
theorem dX5_corrects_39 : decode cX5_corrects 39 = .ok (.iinc 2 1, 3) := by decide +kernel
theorem dX5_corrects_42 : decode cX5_corrects 42 = .ok (.goto (-38), 3) := by decide +kernel
