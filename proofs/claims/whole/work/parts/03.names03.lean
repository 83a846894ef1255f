theorem dX1_filledFromKept_0 : decode cX1_filledFromKept 0 = .ok (.aload_n 0, 1) := by decide +kernel
theorem dX1_filledFromKept_1 : decode cX1_filledFromKept 1 = .ok (.iload_n 1, 1) := by decide +kernel
theorem dX1_filledFromKept_2 : decode cX1_filledFromKept 2 = .ok (.iload_n 2, 1) := by decide +kernel
theorem dX1_filledFromKept_3 : decode cX1_filledFromKept 3 = .ok (.invokevirtual 60, 3) := by decide +kernel
theorem dX1_filledFromKept_6 : decode cX1_filledFromKept 6 = .ok (.istore_n 3, 1) := by decide +kernel
theorem dX1_filledFromKept_7 : decode cX1_filledFromKept 7 = .ok (.aload_n 0, 1) := by decide +kernel
theorem dX1_filledFromKept_8 : decode cX1_filledFromKept 8 = .ok (.iload_n 1, 1) := by decide +kernel
theorem dX1_filledFromKept_9 : decode cX1_filledFromKept 9 = .ok (.iload_n 2, 1) := by decide +kernel
theorem dX1_filledFromKept_10 : decode cX1_filledFromKept 10 = .ok (.invokevirtual 63, 3) := by decide +kernel
theorem dX1_filledFromKept_13 : decode cX1_filledFromKept 13 = .ok (.istore 4, 2) := by decide +kernel
theorem dX1_filledFromKept_15 : decode cX1_filledFromKept 15 = .ok (.iload_n 3, 1) := by decide +kernel
theorem dX1_filledFromKept_16 : decode cX1_filledFromKept 16 = .ok (.iconst (-1), 1) := by decide +kernel
theorem dX1_filledFromKept_17 : decode cX1_filledFromKept 17 = .ok (.if_icmp .ne 7, 3) := by decide +kernel
theorem dX1_filledFromKept_20 : decode cX1_filledFromKept 20 = .ok (.iconst (-1), 1) := by decide +kernel
theorem dX1_filledFromKept_21 : decode cX1_filledFromKept 21 = .ok (.goto 13, 3) := by decide +kernel
theorem dX1_filledFromKept_24 : decode cX1_filledFromKept 24 = .ok (.aload_n 0, 1) := by decide +kernel
theorem dX1_filledFromKept_25 : decode cX1_filledFromKept 25 = .ok (.getfield 22, 3) := by decide +kernel
theorem dX1_filledFromKept_28 : decode cX1_filledFromKept 28 = .ok (.iload_n 3, 1) := by decide +kernel
theorem dX1_filledFromKept_29 : decode cX1_filledFromKept 29 = .ok (.iload_n 2, 1) := by decide +kernel
theorem dX1_filledFromKept_30 : decode cX1_filledFromKept 30 = .ok (.invokestatic 38, 3) := by decide +kernel
theorem dX1_filledFromKept_33 : decode cX1_filledFromKept 33 = .ok (.iaload, 1) := by decide +kernel
theorem dX1_filledFromKept_34 : decode cX1_filledFromKept 34 = .ok (.iload 4, 2) := by decide +kernel
theorem dX1_filledFromKept_36 : decode cX1_filledFromKept 36 = .ok (.iconst (-1), 1) := by decide +kernel
theorem dX1_filledFromKept_37 : decode cX1_filledFromKept 37 = .ok (.if_icmp .ne 7, 3) := by decide +kernel
theorem dX1_filledFromKept_40 : decode cX1_filledFromKept 40 = .ok (.iconst (-1), 1) := by decide +kernel
theorem dX1_filledFromKept_41 : decode cX1_filledFromKept 41 = .ok (.goto 14, 3) := by decide +kernel
theorem dX1_filledFromKept_44 : decode cX1_filledFromKept 44 = .ok (.aload_n 0, 1) := by decide +kernel
theorem dX1_filledFromKept_45 : decode cX1_filledFromKept 45 = .ok (.getfield 22, 3) := by decide +kernel
theorem dX1_filledFromKept_48 : decode cX1_filledFromKept 48 = .ok (.iload 4, 2) := by decide +kernel
theorem dX1_filledFromKept_50 : decode cX1_filledFromKept 50 = .ok (.iload_n 2, 1) := by decide +kernel
theorem dX1_filledFromKept_51 : decode cX1_filledFromKept 51 = .ok (.invokestatic 38, 3) := by decide +kernel
theorem dX1_filledFromKept_54 : decode cX1_filledFromKept 54 = .ok (.iaload, 1) := by decide +kernel
theorem dX1_filledFromKept_55 : decode cX1_filledFromKept 55 = .ok (.invokestatic 66, 3) := by decide +kernel
theorem dX1_filledFromKept_58 : decode cX1_filledFromKept 58 = .ok (.ireturn, 1) := by decide +kernel
set_option maxRecDepth 20000 in
theorem ggX1_foundAnew_X1_isLost : GoodIn wsX1_foundAnew wsX1_isLost := goodIn_r _ [5, 6, 7, 8, 9, 33, 34, 35, 36, 37, 38, 39, 40] (by decide +kernel) (by decide +kernel)
set_option maxRecDepth 20000 in
theorem gX1_foundAnew_X1_isLost : GoodIn wsX1_foundAnew (wsV RX1 47 RX1 yX1_isLost wsX1_isLost) := goodIn_app (goodIn_of _ (by decide +kernel)) ggX1_foundAnew_X1_isLost
set_option maxRecDepth 20000 in
theorem ggX1_foundAnew_X1_countOfReading : GoodIn wsX1_foundAnew wsX1_countOfReading := goodIn_r _ [13, 6, 14, 15, 16, 4, 17, 18, 19, 20, 21, 7, 8, 9, 33, 34, 35, 36, 37, 38, 39, 40] (by decide +kernel) (by decide +kernel)
set_option maxRecDepth 20000 in
theorem gX1_foundAnew_X1_countOfReading : GoodIn wsX1_foundAnew (wsV RX1 51 RX1 yX1_countOfReading wsX1_countOfReading) := goodIn_app (goodIn_of _ (by decide +kernel)) ggX1_foundAnew_X1_countOfReading
set_option maxRecDepth 20000 in
theorem ggX1_foundAnew_X1_nearestAhead : GoodIn wsX1_foundAnew wsX1_nearestAhead := goodIn_r _ [25, 1, 2, 3, 4, 5, 6, 7, 8, 9, 33, 34, 35, 36, 37, 38, 39, 40] (by decide +kernel) (by decide +kernel)
set_option maxRecDepth 20000 in
theorem gX1_foundAnew_X1_nearestAhead : GoodIn wsX1_foundAnew (wsV RX1 60 RX1 yX1_nearestAhead wsX1_nearestAhead) := goodIn_app (goodIn_of _ (by decide +kernel)) ggX1_foundAnew_X1_nearestAhead
set_option maxRecDepth 20000 in
theorem ggX1_foundAnew_X1_nearestBehind : GoodIn wsX1_foundAnew wsX1_nearestBehind := goodIn_r _ [29, 1, 2, 3, 4, 5, 6, 7, 8, 9, 33, 34, 35, 36, 37, 38, 39, 40] (by decide +kernel) (by decide +kernel)
set_option maxRecDepth 20000 in
theorem gX1_foundAnew_X1_nearestBehind : GoodIn wsX1_foundAnew (wsV RX1 63 RX1 yX1_nearestBehind wsX1_nearestBehind) := goodIn_app (goodIn_of _ (by decide +kernel)) ggX1_foundAnew_X1_nearestBehind
set_option maxRecDepth 20000 in
theorem ggX1_foundAnew_X1_filled : GoodIn wsX1_foundAnew wsX1_filled := goodIn_r _ [32] (by decide +kernel) (by decide +kernel)
set_option maxRecDepth 20000 in
theorem gX1_foundAnew_X1_filled : GoodIn wsX1_foundAnew (va_wsS RX1 66 yX1_filled wsX1_filled) := goodIn_app (goodIn_of _ (by decide +kernel)) ggX1_foundAnew_X1_filled
theorem dX1_foundAnew_0 : decode cX1_foundAnew 0 = .ok (.aload_n 0, 1) := by decide +kernel
theorem dX1_foundAnew_1 : decode cX1_foundAnew 1 = .ok (.iload_n 1, 1) := by decide +kernel
theorem dX1_foundAnew_2 : decode cX1_foundAnew 2 = .ok (.iload_n 2, 1) := by decide +kernel
theorem dX1_foundAnew_3 : decode cX1_foundAnew 3 = .ok (.invokevirtual 47, 3) := by decide +kernel
theorem dX1_foundAnew_6 : decode cX1_foundAnew 6 = .ok (.ifCond .ne 10, 3) := by decide +kernel
theorem dX1_foundAnew_9 : decode cX1_foundAnew 9 = .ok (.aload_n 0, 1) := by decide +kernel
theorem dX1_foundAnew_10 : decode cX1_foundAnew 10 = .ok (.iload_n 1, 1) := by decide +kernel
theorem dX1_foundAnew_11 : decode cX1_foundAnew 11 = .ok (.iload_n 2, 1) := by decide +kernel
theorem dX1_foundAnew_12 : decode cX1_foundAnew 12 = .ok (.invokevirtual 51, 3) := by decide +kernel
theorem dX1_foundAnew_15 : decode cX1_foundAnew 15 = .ok (.ireturn, 1) := by decide +kernel
theorem dX1_foundAnew_16 : decode cX1_foundAnew 16 = .ok (.aload_n 0, 1) := by decide +kernel
theorem dX1_foundAnew_17 : decode cX1_foundAnew 17 = .ok (.iload_n 1, 1) := by decide +kernel
theorem dX1_foundAnew_18 : decode cX1_foundAnew 18 = .ok (.iload_n 2, 1) := by decide +kernel
theorem dX1_foundAnew_19 : decode cX1_foundAnew 19 = .ok (.invokevirtual 60, 3) := by decide +kernel
theorem dX1_foundAnew_22 : decode cX1_foundAnew 22 = .ok (.istore_n 3, 1) := by decide +kernel
theorem dX1_foundAnew_23 : decode cX1_foundAnew 23 = .ok (.aload_n 0, 1) := by decide +kernel
theorem dX1_foundAnew_24 : decode cX1_foundAnew 24 = .ok (.iload_n 1, 1) := by decide +kernel
theorem dX1_foundAnew_25 : decode cX1_foundAnew 25 = .ok (.iload_n 2, 1) := by decide +kernel
theorem dX1_foundAnew_26 : decode cX1_foundAnew 26 = .ok (.invokevirtual 63, 3) := by decide +kernel
theorem dX1_foundAnew_29 : decode cX1_foundAnew 29 = .ok (.istore 4, 2) := by decide +kernel
theorem dX1_foundAnew_31 : decode cX1_foundAnew 31 = .ok (.iload_n 3, 1) := by decide +kernel
theorem dX1_foundAnew_32 : decode cX1_foundAnew 32 = .ok (.iconst (-1), 1) := by decide +kernel
theorem dX1_foundAnew_33 : decode cX1_foundAnew 33 = .ok (.if_icmp .ne 7, 3) := by decide +kernel
theorem dX1_foundAnew_36 : decode cX1_foundAnew 36 = .ok (.iconst (-1), 1) := by decide +kernel
theorem dX1_foundAnew_37 : decode cX1_foundAnew 37 = .ok (.goto 9, 3) := by decide +kernel
theorem dX1_foundAnew_40 : decode cX1_foundAnew 40 = .ok (.aload_n 0, 1) := by decide +kernel
theorem dX1_foundAnew_41 : decode cX1_foundAnew 41 = .ok (.iload_n 3, 1) := by decide +kernel
theorem dX1_foundAnew_42 : decode cX1_foundAnew 42 = .ok (.iload_n 2, 1) := by decide +kernel
theorem dX1_foundAnew_43 : decode cX1_foundAnew 43 = .ok (.invokevirtual 51, 3) := by decide +kernel
theorem dX1_foundAnew_46 : decode cX1_foundAnew 46 = .ok (.iload 4, 2) := by decide +kernel
theorem dX1_foundAnew_48 : decode cX1_foundAnew 48 = .ok (.iconst (-1), 1) := by decide +kernel
theorem dX1_foundAnew_49 : decode cX1_foundAnew 49 = .ok (.if_icmp .ne 7, 3) := by decide +kernel
theorem dX1_foundAnew_52 : decode cX1_foundAnew 52 = .ok (.iconst (-1), 1) := by decide +kernel
theorem dX1_foundAnew_53 : decode cX1_foundAnew 53 = .ok (.goto 10, 3) := by decide +kernel
theorem dX1_foundAnew_56 : decode cX1_foundAnew 56 = .ok (.aload_n 0, 1) := by decide +kernel
theorem dX1_foundAnew_57 : decode cX1_foundAnew 57 = .ok (.iload 4, 2) := by decide +kernel
theorem dX1_foundAnew_59 : decode cX1_foundAnew 59 = .ok (.iload_n 2, 1) := by decide +kernel
theorem dX1_foundAnew_60 : decode cX1_foundAnew 60 = .ok (.invokevirtual 51, 3) := by decide +kernel
theorem dX1_foundAnew_63 : decode cX1_foundAnew 63 = .ok (.invokestatic 66, 3) := by decide +kernel
theorem dX1_foundAnew_66 : decode cX1_foundAnew 66 = .ok (.ireturn, 1) := by decide +kernel
set_option maxRecDepth 20000 in
theorem ggX1_nearestAhead_X1_isLost : GoodIn wsX1_nearestAhead wsX1_isLost := goodIn_r _ [5, 6, 7, 8, 9, 10, 11, 12, 13, 14, 15, 16, 17] (by decide +kernel) (by decide +kernel)
set_option maxRecDepth 20000 in
theorem gX1_nearestAhead_X1_isLost : GoodIn wsX1_nearestAhead (wsV RX1 47 RX1 yX1_isLost wsX1_isLost) := goodIn_app (goodIn_of _ (by decide +kernel)) ggX1_nearestAhead_X1_isLost
theorem dX1_nearestAhead_0 : decode cX1_nearestAhead 0 = .ok (.iload_n 1, 1) := by decide +kernel
theorem dX1_nearestAhead_1 : decode cX1_nearestAhead 1 = .ok (.iconst 1, 1) := by decide +kernel
theorem dX1_nearestAhead_2 : decode cX1_nearestAhead 2 = .ok (.isub, 1) := by decide +kernel
theorem dX1_nearestAhead_3 : decode cX1_nearestAhead 3 = .ok (.istore_n 3, 1) := by decide +kernel
theorem dX1_nearestAhead_4 : decode cX1_nearestAhead 4 = .ok (.iload_n 3, 1) := by decide +kernel
theorem dX1_nearestAhead_5 : decode cX1_nearestAhead 5 = .ok (.ifCond .lt 20, 3) := by decide +kernel
theorem dX1_nearestAhead_8 : decode cX1_nearestAhead 8 = .ok (.aload_n 0, 1) := by decide +kernel
theorem dX1_nearestAhead_9 : decode cX1_nearestAhead 9 = .ok (.iload_n 3, 1) := by decide +kernel
theorem dX1_nearestAhead_10 : decode cX1_nearestAhead 10 = .ok (.iload_n 2, 1) := by decide +kernel
theorem dX1_nearestAhead_11 : decode cX1_nearestAhead 11 = .ok (.invokevirtual 47, 3) := by decide +kernel
theorem dX1_nearestAhead_14 : decode cX1_nearestAhead 14 = .ok (.ifCond .ne 5, 3) := by decide +kernel
theorem dX1_nearestAhead_17 : decode cX1_nearestAhead 17 = .ok (.iload_n 3, 1) := by decide +kernel
theorem dX1_nearestAhead_18 : decode cX1_nearestAhead 18 = .ok (.ireturn, 1) := by decide +kernel
theorem dX1_nearestAhead_19 : decode cX1_nearestAhead 19 = .ok (.iinc 3 (-1), 3) := by decide +kernel
theorem dX1_nearestAhead_22 : decode cX1_nearestAhead 22 = .ok (.goto (-18), 3) := by decide +kernel
theorem dX1_nearestAhead_25 : decode cX1_nearestAhead 25 = .ok (.iconst (-1), 1) := by decide +kernel
theorem dX1_nearestAhead_26 : decode cX1_nearestAhead 26 = .ok (.ireturn, 1) := by decide +kernel
set_option maxRecDepth 20000 in
theorem ggX1_nearestBehind_X1_isLost : GoodIn wsX1_nearestBehind wsX1_isLost := goodIn_r _ [5, 6, 7, 8, 9, 10, 11, 12, 13, 14, 15, 16, 17] (by decide +kernel) (by decide +kernel)
set_option maxRecDepth 20000 in
theorem gX1_nearestBehind_X1_isLost : GoodIn wsX1_nearestBehind (wsV RX1 47 RX1 yX1_isLost wsX1_isLost) := goodIn_app (goodIn_of _ (by decide +kernel)) ggX1_nearestBehind_X1_isLost
theorem dX1_nearestBehind_0 : decode cX1_nearestBehind 0 = .ok (.iload_n 1, 1) := by decide +kernel
theorem dX1_nearestBehind_1 : decode cX1_nearestBehind 1 = .ok (.iconst 1, 1) := by decide +kernel
theorem dX1_nearestBehind_2 : decode cX1_nearestBehind 2 = .ok (.iadd, 1) := by decide +kernel
theorem dX1_nearestBehind_3 : decode cX1_nearestBehind 3 = .ok (.istore_n 3, 1) := by decide +kernel
theorem dX1_nearestBehind_4 : decode cX1_nearestBehind 4 = .ok (.iload_n 3, 1) := by decide +kernel
theorem dX1_nearestBehind_5 : decode cX1_nearestBehind 5 = .ok (.bipush 12, 2) := by decide +kernel
theorem dX1_nearestBehind_7 : decode cX1_nearestBehind 7 = .ok (.if_icmp .ge 20, 3) := by decide +kernel
theorem dX1_nearestBehind_10 : decode cX1_nearestBehind 10 = .ok (.aload_n 0, 1) := by decide +kernel
theorem dX1_nearestBehind_11 : decode cX1_nearestBehind 11 = .ok (.iload_n 3, 1) := by decide +kernel
theorem dX1_nearestBehind_12 : decode cX1_nearestBehind 12 = .ok (.iload_n 2, 1) := by decide +kernel
theorem dX1_nearestBehind_13 : decode cX1_nearestBehind 13 = .ok (.invokevirtual 47, 3) := by decide +kernel
theorem dX1_nearestBehind_16 : decode cX1_nearestBehind 16 = .ok (.ifCond .ne 5, 3) := by decide +kernel
theorem dX1_nearestBehind_19 : decode cX1_nearestBehind 19 = .ok (.iload_n 3, 1) := by decide +kernel
theorem dX1_nearestBehind_20 : decode cX1_nearestBehind 20 = .ok (.ireturn, 1) := by decide +kernel
theorem dX1_nearestBehind_21 : decode cX1_nearestBehind 21 = .ok (.iinc 3 1, 3) := by decide +kernel
theorem dX1_nearestBehind_24 : decode cX1_nearestBehind 24 = .ok (.goto (-20), 3) := by decide +kernel
theorem dX1_nearestBehind_27 : decode cX1_nearestBehind 27 = .ok (.iconst (-1), 1) := by decide +kernel
theorem dX1_nearestBehind_28 : decode cX1_nearestBehind 28 = .ok (.ireturn, 1) := by decide +kernel
theorem dX1_filled_0 : decode cX1_filled 0 = .ok (.iload_n 0, 1) := by decide +kernel
theorem dX1_filled_1 : decode cX1_filled 1 = .ok (.iconst (-1), 1) := by decide +kernel
theorem dX1_filled_2 : decode cX1_filled 2 = .ok (.if_icmp .ne 10, 3) := by decide +kernel
theorem dX1_filled_5 : decode cX1_filled 5 = .ok (.iload_n 1, 1) := by decide +kernel
theorem dX1_filled_6 : decode cX1_filled 6 = .ok (.iconst (-1), 1) := by decide +kernel
theorem dX1_filled_7 : decode cX1_filled 7 = .ok (.if_icmp .ne 5, 3) := by decide +kernel
theorem dX1_filled_10 : decode cX1_filled 10 = .ok (.iconst 0, 1) := by decide +kernel
theorem dX1_filled_11 : decode cX1_filled 11 = .ok (.ireturn, 1) := by decide +kernel
theorem dX1_filled_12 : decode cX1_filled 12 = .ok (.iload_n 0, 1) := by decide +kernel
theorem dX1_filled_13 : decode cX1_filled 13 = .ok (.iconst (-1), 1) := by decide +kernel
theorem dX1_filled_14 : decode cX1_filled 14 = .ok (.if_icmp .ne 5, 3) := by decide +kernel
theorem dX1_filled_17 : decode cX1_filled 17 = .ok (.iload_n 1, 1) := by decide +kernel
theorem dX1_filled_18 : decode cX1_filled 18 = .ok (.ireturn, 1) := by decide +kernel
theorem dX1_filled_19 : decode cX1_filled 19 = .ok (.iload_n 1, 1) := by decide +kernel
theorem dX1_filled_20 : decode cX1_filled 20 = .ok (.iconst (-1), 1) := by decide +kernel
theorem dX1_filled_21 : decode cX1_filled 21 = .ok (.if_icmp .ne 7, 3) := by decide +kernel
theorem dX1_filled_24 : decode cX1_filled 24 = .ok (.iload_n 0, 1) := by decide +kernel
theorem dX1_filled_25 : decode cX1_filled 25 = .ok (.goto 8, 3) := by decide +kernel
theorem dX1_filled_28 : decode cX1_filled 28 = .ok (.iload_n 0, 1) := by decide +kernel
theorem dX1_filled_29 : decode cX1_filled 29 = .ok (.iload_n 1, 1) := by decide +kernel
theorem dX1_filled_30 : decode cX1_filled 30 = .ok (.iadd, 1) := by decide +kernel
theorem dX1_filled_31 : decode cX1_filled 31 = .ok (.iconst 2, 1) := by decide +kernel
theorem dX1_filled_32 : decode cX1_filled 32 = .ok (.idiv, 1) := by decide +kernel
theorem dX1_filled_33 : decode cX1_filled 33 = .ok (.ireturn, 1) := by decide +kernel
theorem dX2_init_0 : decode cX2_init 0 = .ok (.aload_n 0, 1) := by decide +kernel
theorem dX2_init_1 : decode cX2_init 1 = .ok (.invokespecial 3, 3) := by decide +kernel
theorem dX2_init_4 : decode cX2_init 4 = .ok (.aload_n 0, 1) := by decide +kernel
theorem dX2_init_5 : decode cX2_init 5 = .ok (.iconst 0, 1) := by decide +kernel
theorem dX2_init_6 : decode cX2_init 6 = .ok (.putfield 9, 3) := by decide +kernel
theorem dX2_init_9 : decode cX2_init 9 = .ok (.aload_n 0, 1) := by decide +kernel
theorem dX2_init_10 : decode cX2_init 10 = .ok (.iconst 0, 1) := by decide +kernel
theorem dX2_init_11 : decode cX2_init 11 = .ok (.putfield 15, 3) := by decide +kernel
theorem dX2_init_14 : decode cX2_init 14 = .ok (.aload_n 0, 1) := by decide +kernel
theorem dX2_init_15 : decode cX2_init 15 = .ok (.iload_n 1, 1) := by decide +kernel
theorem dX2_init_16 : decode cX2_init 16 = .ok (.putfield 18, 3) := by decide +kernel
theorem dX2_init_19 : decode cX2_init 19 = .ok (.aload_n 0, 1) := by decide +kernel
theorem dX2_init_20 : decode cX2_init 20 = .ok (.iload_n 1, 1) := by decide +kernel
theorem dX2_init_21 : decode cX2_init 21 = .ok (.iconst 3, 1) := by decide +kernel
theorem dX2_init_22 : decode cX2_init 22 = .ok (.idiv, 1) := by decide +kernel
theorem dX2_init_23 : decode cX2_init 23 = .ok (.putfield 21, 3) := by decide +kernel
theorem dX2_init_26 : decode cX2_init 26 = .ok (.aload_n 0, 1) := by decide +kernel
theorem dX2_init_27 : decode cX2_init 27 = .ok (.iload_n 2, 1) := by decide +kernel
theorem dX2_init_28 : decode cX2_init 28 = .ok (.putfield 24, 3) := by decide +kernel
theorem dX2_init_31 : decode cX2_init 31 = .ok (.aload_n 0, 1) := by decide +kernel
theorem dX2_init_32 : decode cX2_init 32 = .ok (.iload_n 3, 1) := by decide +kernel
theorem dX2_init_33 : decode cX2_init 33 = .ok (.putfield 27, 3) := by decide +kernel
theorem dX2_init_36 : decode cX2_init 36 = .ok (.aload_n 0, 1) := by decide +kernel
theorem dX2_init_37 : decode cX2_init 37 = .ok (.iload 4, 2) := by decide +kernel
theorem dX2_init_39 : decode cX2_init 39 = .ok (.putfield 30, 3) := by decide +kernel
theorem dX2_init_42 : decode cX2_init 42 = .ok (.aload_n 0, 1) := by decide +kernel
theorem dX2_init_43 : decode cX2_init 43 = .ok (.iload 5, 2) := by decide +kernel
theorem dX2_init_45 : decode cX2_init 45 = .ok (.putfield 33, 3) := by decide +kernel
theorem dX2_init_48 : decode cX2_init 48 = .ok (.aload_n 0, 1) := by decide +kernel
theorem dX2_init_49 : decode cX2_init 49 = .ok (.iload 6, 2) := by decide +kernel
theorem dX2_init_51 : decode cX2_init 51 = .ok (.putfield 36, 3) := by decide +kernel
theorem dX2_init_54 : decode cX2_init 54 = .ok (.return_, 1) := by decide +kernel
theorem dX2_covers_0 : decode cX2_covers 0 = .ok (.iload_n 1, 1) := by decide +kernel
theorem dX2_covers_1 : decode cX2_covers 1 = .ok (.aload_n 0, 1) := by decide +kernel
theorem dX2_covers_2 : decode cX2_covers 2 = .ok (.getfield 33, 3) := by decide +kernel
theorem dX2_covers_5 : decode cX2_covers 5 = .ok (.if_icmp .lt 15, 3) := by decide +kernel
theorem dX2_covers_8 : decode cX2_covers 8 = .ok (.iload_n 1, 1) := by decide +kernel
theorem dX2_covers_9 : decode cX2_covers 9 = .ok (.aload_n 0, 1) := by decide +kernel
theorem dX2_covers_10 : decode cX2_covers 10 = .ok (.getfield 36, 3) := by decide +kernel
theorem dX2_covers_13 : decode cX2_covers 13 = .ok (.if_icmp .ge 7, 3) := by decide +kernel
theorem dX2_covers_16 : decode cX2_covers 16 = .ok (.iconst 1, 1) := by decide +kernel
theorem dX2_covers_17 : decode cX2_covers 17 = .ok (.goto 4, 3) := by decide +kernel
theorem dX2_covers_20 : decode cX2_covers 20 = .ok (.iconst 0, 1) := by decide +kernel
theorem dX2_covers_21 : decode cX2_covers 21 = .ok (.ireturn, 1) := by decide +kernel
theorem dX2_clashesWith_0 : decode cX2_clashesWith 0 = .ok (.aload_n 0, 1) := by decide +kernel
theorem dX2_clashesWith_1 : decode cX2_clashesWith 1 = .ok (.getfield 18, 3) := by decide +kernel
theorem dX2_clashesWith_4 : decode cX2_clashesWith 4 = .ok (.aload_n 1, 1) := by decide +kernel
theorem dX2_clashesWith_5 : decode cX2_clashesWith 5 = .ok (.getfield 18, 3) := by decide +kernel
theorem dX2_clashesWith_8 : decode cX2_clashesWith 8 = .ok (.if_icmp .ne 29, 3) := by decide +kernel
theorem dX2_clashesWith_11 : decode cX2_clashesWith 11 = .ok (.aload_n 0, 1) := by decide +kernel
theorem dX2_clashesWith_12 : decode cX2_clashesWith 12 = .ok (.getfield 33, 3) := by decide +kernel
theorem dX2_clashesWith_15 : decode cX2_clashesWith 15 = .ok (.aload_n 1, 1) := by decide +kernel
theorem dX2_clashesWith_16 : decode cX2_clashesWith 16 = .ok (.getfield 36, 3) := by decide +kernel
theorem dX2_clashesWith_19 : decode cX2_clashesWith 19 = .ok (.if_icmp .ge 18, 3) := by decide +kernel
theorem dX2_clashesWith_22 : decode cX2_clashesWith 22 = .ok (.aload_n 1, 1) := by decide +kernel
theorem dX2_clashesWith_23 : decode cX2_clashesWith 23 = .ok (.getfield 33, 3) := by decide +kernel
theorem dX2_clashesWith_26 : decode cX2_clashesWith 26 = .ok (.aload_n 0, 1) := by decide +kernel
theorem dX2_clashesWith_27 : decode cX2_clashesWith 27 = .ok (.getfield 36, 3) := by decide +kernel
theorem dX2_clashesWith_30 : decode cX2_clashesWith 30 = .ok (.if_icmp .ge 7, 3) := by decide +kernel
theorem dX2_clashesWith_33 : decode cX2_clashesWith 33 = .ok (.iconst 1, 1) := by decide +kernel
theorem dX2_clashesWith_34 : decode cX2_clashesWith 34 = .ok (.goto 4, 3) := by decide +kernel
theorem dX2_clashesWith_37 : decode cX2_clashesWith 37 = .ok (.iconst 0, 1) := by decide +kernel
theorem dX2_clashesWith_38 : decode cX2_clashesWith 38 = .ok (.ireturn, 1) := by decide +kernel
theorem dX2_rentFor_0 : decode cX2_rentFor 0 = .ok (.aload_n 0, 1) := by decide +kernel
theorem dX2_rentFor_1 : decode cX2_rentFor 1 = .ok (.getfield 27, 3) := by decide +kernel
theorem dX2_rentFor_4 : decode cX2_rentFor 4 = .ok (.aload_n 0, 1) := by decide +kernel
theorem dX2_rentFor_5 : decode cX2_rentFor 5 = .ok (.getfield 30, 3) := by decide +kernel
theorem dX2_rentFor_8 : decode cX2_rentFor 8 = .ok (.iload_n 1, 1) := by decide +kernel
theorem dX2_rentFor_9 : decode cX2_rentFor 9 = .ok (.imul, 1) := by decide +kernel
theorem dX2_rentFor_10 : decode cX2_rentFor 10 = .ok (.bipush 100, 2) := by decide +kernel
theorem dX2_rentFor_12 : decode cX2_rentFor 12 = .ok (.idiv, 1) := by decide +kernel
theorem dX2_rentFor_13 : decode cX2_rentFor 13 = .ok (.iadd, 1) := by decide +kernel
theorem dX2_rentFor_14 : decode cX2_rentFor 14 = .ok (.ireturn, 1) := by decide +kernel
theorem dX3_init_0 : decode cX3_init 0 = .ok (.aload_n 0, 1) := by decide +kernel
theorem dX3_init_1 : decode cX3_init 1 = .ok (.invokespecial 3, 3) := by decide +kernel
theorem dX3_init_4 : decode cX3_init 4 = .ok (.aload_n 0, 1) := by decide +kernel
theorem dX3_init_5 : decode cX3_init 5 = .ok (.bipush 12, 2) := by decide +kernel
theorem dX3_init_7 : decode cX3_init 7 = .ok (.newarray .int, 2) := by decide +kernel
theorem dX3_init_9 : decode cX3_init 9 = .ok (.putfield 9, 3) := by decide +kernel
theorem dX3_init_12 : decode cX3_init 12 = .ok (.aload_n 0, 1) := by decide +kernel
theorem dX3_init_13 : decode cX3_init 13 = .ok (.bipush 12, 2) := by decide +kernel
theorem dX3_init_15 : decode cX3_init 15 = .ok (.newarray .int, 2) := by decide +kernel
theorem dX3_init_17 : decode cX3_init 17 = .ok (.putfield 15, 3) := by decide +kernel
theorem dX3_init_20 : decode cX3_init 20 = .ok (.aload_n 0, 1) := by decide +kernel
theorem dX3_init_21 : decode cX3_init 21 = .ok (.sipush 2400, 3) := by decide +kernel
theorem dX3_init_24 : decode cX3_init 24 = .ok (.newarray .int, 2) := by decide +kernel
theorem dX3_init_26 : decode cX3_init 26 = .ok (.putfield 18, 3) := by decide +kernel
theorem dX3_init_29 : decode cX3_init 29 = .ok (.aload_n 0, 1) := by decide +kernel
theorem dX3_init_30 : decode cX3_init 30 = .ok (.sipush 2400, 3) := by decide +kernel
theorem dX3_init_33 : decode cX3_init 33 = .ok (.newarray .int, 2) := by decide +kernel
theorem dX3_init_35 : decode cX3_init 35 = .ok (.putfield 21, 3) := by decide +kernel
theorem dX3_init_38 : decode cX3_init 38 = .ok (.aload_n 0, 1) := by decide +kernel
theorem dX3_init_39 : decode cX3_init 39 = .ok (.sipush 200, 3) := by decide +kernel
theorem dX3_init_42 : decode cX3_init 42 = .ok (.newarray .int, 2) := by decide +kernel
theorem dX3_init_44 : decode cX3_init 44 = .ok (.putfield 24, 3) := by decide +kernel
theorem dX3_init_47 : decode cX3_init 47 = .ok (.return_, 1) := by decide +kernel
set_option maxRecDepth 20000 in
theorem ggX3_walk_X4_cell : GoodIn wsX3_walk wsX4_cell := goodIn_r _ [9] (by decide +kernel) (by decide +kernel)
set_option maxRecDepth 20000 in
theorem gX3_walk_X4_cell_n27 : GoodIn wsX3_walk (wsX4_cell) := ggX3_walk_X4_cell
set_option maxRecDepth 20000 in
theorem ggX3_walk_X0_playTo : GoodIn wsX3_walk wsX0_playTo := goodIn_r _ [14, 15, 16, 22, 23, 24, 25, 26, 27, 28, 29, 30] (by decide +kernel) (by decide +kernel)
set_option maxRecDepth 20000 in
theorem gX3_walk_X0_playTo : GoodIn wsX3_walk (wsV RX3 36 RX0 yX0_playTo wsX0_playTo) := goodIn_app (goodIn_of _ (by decide +kernel)) ggX3_walk_X0_playTo
theorem dX3_walk_0 : decode cX3_walk 0 = .ok (.iconst 0, 1) := by decide +kernel
theorem dX3_walk_1 : decode cX3_walk 1 = .ok (.istore_n 3, 1) := by decide +kernel
theorem dX3_walk_2 : decode cX3_walk 2 = .ok (.iconst 0, 1) := by decide +kernel
theorem dX3_walk_3 : decode cX3_walk 3 = .ok (.istore 4, 2) := by decide +kernel
theorem dX3_walk_5 : decode cX3_walk 5 = .ok (.iconst 0, 1) := by decide +kernel
theorem dX3_walk_6 : decode cX3_walk 6 = .ok (.istore 5, 2) := by decide +kernel
theorem dX3_walk_8 : decode cX3_walk 8 = .ok (.iload 5, 2) := by decide +kernel
theorem dX3_walk_10 : decode cX3_walk 10 = .ok (.bipush 12, 2) := by decide +kernel
theorem dX3_walk_12 : decode cX3_walk 12 = .ok (.if_icmp .ge 100, 3) := by decide +kernel
theorem dX3_walk_15 : decode cX3_walk 15 = .ok (.iload 5, 2) := by decide +kernel
theorem dX3_walk_17 : decode cX3_walk 17 = .ok (.iload_n 1, 1) := by decide +kernel
theorem dX3_walk_18 : decode cX3_walk 18 = .ok (.invokestatic 27, 3) := by decide +kernel
theorem dX3_walk_21 : decode cX3_walk 21 = .ok (.istore 6, 2) := by decide +kernel
theorem dX3_walk_23 : decode cX3_walk 23 = .ok (.iload 4, 2) := by decide +kernel
theorem dX3_walk_25 : decode cX3_walk 25 = .ok (.aload_n 0, 1) := by decide +kernel
theorem dX3_walk_26 : decode cX3_walk 26 = .ok (.getfield 9, 3) := by decide +kernel
theorem dX3_walk_29 : decode cX3_walk 29 = .ok (.iload 5, 2) := by decide +kernel
theorem dX3_walk_31 : decode cX3_walk 31 = .ok (.iaload, 1) := by decide +kernel
theorem dX3_walk_32 : decode cX3_walk 32 = .ok (.iadd, 1) := by decide +kernel
theorem dX3_walk_33 : decode cX3_walk 33 = .ok (.istore 7, 2) := by decide +kernel
theorem dX3_walk_35 : decode cX3_walk 35 = .ok (.aload_n 2, 1) := by decide +kernel
theorem dX3_walk_36 : decode cX3_walk 36 = .ok (.iload 7, 2) := by decide +kernel
theorem dX3_walk_38 : decode cX3_walk 38 = .ok (.aload_n 2, 1) := by decide +kernel
theorem dX3_walk_39 : decode cX3_walk 39 = .ok (.getfield 31, 3) := by decide +kernel
theorem dX3_walk_42 : decode cX3_walk 42 = .ok (.iload 6, 2) := by decide +kernel
theorem dX3_walk_44 : decode cX3_walk 44 = .ok (.iaload, 1) := by decide +kernel
theorem dX3_walk_45 : decode cX3_walk 45 = .ok (.invokevirtual 36, 3) := by decide +kernel
theorem dX3_walk_48 : decode cX3_walk 48 = .ok (.istore 8, 2) := by decide +kernel
theorem dX3_walk_50 : decode cX3_walk 50 = .ok (.aload_n 0, 1) := by decide +kernel
theorem dX3_walk_51 : decode cX3_walk 51 = .ok (.getfield 21, 3) := by decide +kernel
theorem dX3_walk_54 : decode cX3_walk 54 = .ok (.iload 6, 2) := by decide +kernel
theorem dX3_walk_56 : decode cX3_walk 56 = .ok (.iload 8, 2) := by decide +kernel
theorem dX3_walk_58 : decode cX3_walk 58 = .ok (.iastore, 1) := by decide +kernel
theorem dX3_walk_59 : decode cX3_walk 59 = .ok (.aload_n 0, 1) := by decide +kernel
theorem dX3_walk_60 : decode cX3_walk 60 = .ok (.getfield 18, 3) := by decide +kernel
theorem dX3_walk_63 : decode cX3_walk 63 = .ok (.iload 6, 2) := by decide +kernel
theorem dX3_walk_65 : decode cX3_walk 65 = .ok (.iload 7, 2) := by decide +kernel
theorem dX3_walk_67 : decode cX3_walk 67 = .ok (.iload 8, 2) := by decide +kernel
theorem dX3_walk_69 : decode cX3_walk 69 = .ok (.iadd, 1) := by decide +kernel
theorem dX3_walk_70 : decode cX3_walk 70 = .ok (.iastore, 1) := by decide +kernel
theorem dX3_walk_71 : decode cX3_walk 71 = .ok (.iload_n 3, 1) := by decide +kernel
theorem dX3_walk_72 : decode cX3_walk 72 = .ok (.aload_n 0, 1) := by decide +kernel
theorem dX3_walk_73 : decode cX3_walk 73 = .ok (.getfield 18, 3) := by decide +kernel
theorem dX3_walk_76 : decode cX3_walk 76 = .ok (.iload 6, 2) := by decide +kernel
theorem dX3_walk_78 : decode cX3_walk 78 = .ok (.iaload, 1) := by decide +kernel
theorem dX3_walk_79 : decode cX3_walk 79 = .ok (.iadd, 1) := by decide +kernel
theorem dX3_walk_80 : decode cX3_walk 80 = .ok (.istore_n 3, 1) := by decide +kernel
theorem dX3_walk_81 : decode cX3_walk 81 = .ok (.iload 7, 2) := by decide +kernel
theorem dX3_walk_83 : decode cX3_walk 83 = .ok (.iload 8, 2) := by decide +kernel
theorem dX3_walk_85 : decode cX3_walk 85 = .ok (.isub, 1) := by decide +kernel
theorem dX3_walk_86 : decode cX3_walk 86 = .ok (.istore 9, 2) := by decide +kernel
theorem dX3_walk_88 : decode cX3_walk 88 = .ok (.iload 9, 2) := by decide +kernel
theorem dX3_walk_90 : decode cX3_walk 90 = .ok (.iload 9, 2) := by decide +kernel
theorem dX3_walk_92 : decode cX3_walk 92 = .ok (.aload_n 0, 1) := by decide +kernel
theorem dX3_walk_93 : decode cX3_walk 93 = .ok (.getfield 15, 3) := by decide +kernel
theorem dX3_walk_96 : decode cX3_walk 96 = .ok (.iload 5, 2) := by decide +kernel
theorem dX3_walk_98 : decode cX3_walk 98 = .ok (.iaload, 1) := by decide +kernel
theorem dX3_walk_99 : decode cX3_walk 99 = .ok (.imul, 1) := by decide +kernel
theorem dX3_walk_100 : decode cX3_walk 100 = .ok (.bipush 100, 2) := by decide +kernel
theorem dX3_walk_102 : decode cX3_walk 102 = .ok (.idiv, 1) := by decide +kernel
theorem dX3_walk_103 : decode cX3_walk 103 = .ok (.isub, 1) := by decide +kernel
theorem dX3_walk_104 : decode cX3_walk 104 = .ok (.istore 4, 2) := by decide +kernel
theorem dX3_walk_106 : decode cX3_walk 106 = .ok (.iinc 5 1, 3) := by decide +kernel
theorem dX3_walk_109 : decode cX3_walk 109 = .ok (.goto (-101), 3) := by decide +kernel
theorem dX3_walk_112 : decode cX3_walk 112 = .ok (.aload_n 0, 1) := by decide +kernel
theorem dX3_walk_113 : decode cX3_walk 113 = .ok (.getfield 24, 3) := by decide +kernel
theorem dX3_walk_116 : decode cX3_walk 116 = .ok (.iload_n 1, 1) := by decide +kernel
theorem dX3_walk_117 : decode cX3_walk 117 = .ok (.iload 4, 2) := by decide +kernel
theorem dX3_walk_119 : decode cX3_walk 119 = .ok (.iastore, 1) := by decide +kernel
theorem dX3_walk_120 : decode cX3_walk 120 = .ok (.iload_n 3, 1) := by decide +kernel
theorem dX3_walk_121 : decode cX3_walk 121 = .ok (.ireturn, 1) := by decide +kernel
set_option maxRecDepth 20000 in
theorem ggX4_init_X3_init : GoodIn wsX4_init wsX3_init := goodIn_r _ [24, 25, 2, 3, 20, 26, 27, 28, 29, 30, 75, 76, 77, 78, 79] (by decide +kernel) (by decide +kernel)
set_option maxRecDepth 20000 in
theorem gX4_init_X3_init_n11 : GoodIn wsX4_init (wsX3_init) := ggX4_init_X3_init
set_option maxRecDepth 20000 in
theorem ggX4_init_X1_init : GoodIn wsX4_init wsX1_init := goodIn_r _ [32, 33, 2, 3, 34, 35, 20, 36, 37, 38, 39, 40, 41, 42, 86, 87, 88, 89, 90, 91, 92, 93] (by decide +kernel) (by decide +kernel)
set_option maxRecDepth 20000 in
theorem gX4_init_X1_init_n18 : GoodIn wsX4_init (wsX1_init) := ggX4_init_X1_init
set_option maxRecDepth 20000 in
theorem ggX4_init_X0_init : GoodIn wsX4_init wsX0_init := goodIn_r _ [45, 46, 2, 3, 20, 47, 48, 49, 34, 50, 51, 52, 53, 54, 55, 56, 57, 58, 59, 94, 95, 96, 97, 98, 99, 100, 101, 102] (by decide +kernel) (by decide +kernel)
set_option maxRecDepth 20000 in
theorem gX4_init_X0_init : GoodIn wsX4_init (wsX0_init) := ggX4_init_X0_init
set_option maxRecDepth 20000 in
theorem ggX4_init_Jx4a65c_init_da8c8 : GoodIn wsX4_init wsJx4a65c_init_da8c8 := goodIn_r _ [62, 63, 64, 65, 66, 67, 68, 69, 70, 71, 72, 73, 74, 2, 3, 103, 104, 105] (by decide +kernel) (by decide +kernel)
set_option maxRecDepth 20000 in
theorem gX4_init_Jx4a65c_init_da8c8 : GoodIn wsX4_init (wsJx4a65c_init_da8c8) := ggX4_init_Jx4a65c_init_da8c8
theorem dX4_init_0 : decode cX4_init 0 = .ok (.aload_n 0, 1) := by decide +kernel
theorem dX4_init_1 : decode cX4_init 1 = .ok (.invokespecial 3, 3) := by decide +kernel
theorem dX4_init_4 : decode cX4_init 4 = .ok (.aload_n 0, 1) := by decide +kernel
theorem dX4_init_5 : decode cX4_init 5 = .ok (.new 9, 3) := by decide +kernel
theorem dX4_init_8 : decode cX4_init 8 = .ok (.dup, 1) := by decide +kernel
theorem dX4_init_9 : decode cX4_init 9 = .ok (.invokespecial 11, 3) := by decide +kernel
theorem dX4_init_12 : decode cX4_init 12 = .ok (.putfield 12, 3) := by decide +kernel
theorem dX4_init_15 : decode cX4_init 15 = .ok (.aload_n 0, 1) := by decide +kernel
theorem dX4_init_16 : decode cX4_init 16 = .ok (.new 16, 3) := by decide +kernel
theorem dX4_init_19 : decode cX4_init 19 = .ok (.dup, 1) := by decide +kernel
theorem dX4_init_20 : decode cX4_init 20 = .ok (.invokespecial 18, 3) := by decide +kernel
theorem dX4_init_23 : decode cX4_init 23 = .ok (.putfield 19, 3) := by decide +kernel
theorem dX4_init_26 : decode cX4_init 26 = .ok (.aload_n 0, 1) := by decide +kernel
theorem dX4_init_27 : decode cX4_init 27 = .ok (.new 23, 3) := by decide +kernel
theorem dX4_init_30 : decode cX4_init 30 = .ok (.dup, 1) := by decide +kernel
theorem dX4_init_31 : decode cX4_init 31 = .ok (.invokespecial 25, 3) := by decide +kernel
theorem dX4_init_34 : decode cX4_init 34 = .ok (.putfield 26, 3) := by decide +kernel
theorem dX4_init_37 : decode cX4_init 37 = .ok (.aload_n 0, 1) := by decide +kernel
theorem dX4_init_38 : decode cX4_init 38 = .ok (.new 30, 3) := by decide +kernel
theorem dX4_init_41 : decode cX4_init 41 = .ok (.dup, 1) := by decide +kernel
theorem dX4_init_42 : decode cX4_init 42 = .ok (.invokespecial 32, 3) := by decide +kernel
theorem dX4_init_45 : decode cX4_init 45 = .ok (.putfield 33, 3) := by decide +kernel
theorem dX4_init_48 : decode cX4_init 48 = .ok (.aload_n 0, 1) := by decide +kernel
theorem dX4_init_49 : decode cX4_init 49 = .ok (.bipush 6, 2) := by decide +kernel
theorem dX4_init_51 : decode cX4_init 51 = .ok (.newarray .int, 2) := by decide +kernel
theorem dX4_init_53 : decode cX4_init 53 = .ok (.putfield 37, 3) := by decide +kernel
theorem dX4_init_56 : decode cX4_init 56 = .ok (.aload_n 0, 1) := by decide +kernel
theorem dX4_init_57 : decode cX4_init 57 = .ok (.iconst 0, 1) := by decide +kernel
theorem dX4_init_58 : decode cX4_init 58 = .ok (.putfield 41, 3) := by decide +kernel
theorem dX4_init_61 : decode cX4_init 61 = .ok (.return_, 1) := by decide +kernel
set_option maxRecDepth 20000 in
theorem ggX4_setPeople_X4_requireIndex : GoodIn wsX4_setPeople wsX4_requireIndex := goodIn_ca (goodIn_r _ [7, 8, 9] (by decide +kernel) (by decide +kernel)) (goodIn_sub (fun _ h => List.mem_cons_of_mem _ (List.mem_append_left _ (List.mem_append_right _ h))) (by decide +kernel))
set_option maxRecDepth 20000 in
theorem gX4_setPeople_X4_requireIndex : GoodIn wsX4_setPeople (va_wsS RX4 45 yX4_requireIndex wsX4_requireIndex) := goodIn_app (goodIn_of _ (by decide +kernel)) ggX4_setPeople_X4_requireIndex
set_option maxRecDepth 20000 in
theorem ggX4_setPeople_X4_requireWithin : GoodIn wsX4_setPeople wsX4_requireWithin := goodIn_ca (goodIn_r _ [12, 13, 14] (by decide +kernel) (by decide +kernel)) (goodIn_sub (fun _ h => List.mem_cons_of_mem _ (List.mem_append_right _ h)) (by decide +kernel))
set_option maxRecDepth 20000 in
theorem gX4_setPeople_X4_requireWithin : GoodIn wsX4_setPeople (va_wsS RX4 49 yX4_requireWithin wsX4_requireWithin) := goodIn_app (goodIn_of _ (by decide +kernel)) ggX4_setPeople_X4_requireWithin
theorem dX4_setPeople_0 : decode cX4_setPeople 0 = .ok (.iload_n 1, 1) := by decide +kernel
theorem dX4_setPeople_1 : decode cX4_setPeople 1 = .ok (.bipush 12, 2) := by decide +kernel
theorem dX4_setPeople_3 : decode cX4_setPeople 3 = .ok (.invokestatic 45, 3) := by decide +kernel
theorem dX4_setPeople_6 : decode cX4_setPeople 6 = .ok (.iload_n 2, 1) := by decide +kernel
theorem dX4_setPeople_7 : decode cX4_setPeople 7 = .ok (.iconst 0, 1) := by decide +kernel
theorem dX4_setPeople_8 : decode cX4_setPeople 8 = .ok (.sipush 1000, 3) := by decide +kernel
theorem dX4_setPeople_11 : decode cX4_setPeople 11 = .ok (.invokestatic 49, 3) := by decide +kernel
theorem dX4_setPeople_14 : decode cX4_setPeople 14 = .ok (.iload_n 3, 1) := by decide +kernel
theorem dX4_setPeople_15 : decode cX4_setPeople 15 = .ok (.iconst 0, 1) := by decide +kernel
theorem dX4_setPeople_16 : decode cX4_setPeople 16 = .ok (.bipush 100, 2) := by decide +kernel
theorem dX4_setPeople_18 : decode cX4_setPeople 18 = .ok (.invokestatic 49, 3) := by decide +kernel
theorem dX4_setPeople_21 : decode cX4_setPeople 21 = .ok (.aload_n 0, 1) := by decide +kernel
theorem dX4_setPeople_22 : decode cX4_setPeople 22 = .ok (.getfield 12, 3) := by decide +kernel
theorem dX4_setPeople_25 : decode cX4_setPeople 25 = .ok (.getfield 53, 3) := by decide +kernel
theorem dX4_setPeople_28 : decode cX4_setPeople 28 = .ok (.iload_n 1, 1) := by decide +kernel
theorem dX4_setPeople_29 : decode cX4_setPeople 29 = .ok (.iaload, 1) := by decide +kernel
theorem dX4_setPeople_30 : decode cX4_setPeople 30 = .ok (.istore 4, 2) := by decide +kernel
theorem dX4_setPeople_32 : decode cX4_setPeople 32 = .ok (.aload_n 0, 1) := by decide +kernel
theorem dX4_setPeople_33 : decode cX4_setPeople 33 = .ok (.getfield 12, 3) := by decide +kernel
theorem dX4_setPeople_36 : decode cX4_setPeople 36 = .ok (.getfield 53, 3) := by decide +kernel
theorem dX4_setPeople_39 : decode cX4_setPeople 39 = .ok (.iload_n 1, 1) := by decide +kernel
theorem dX4_setPeople_40 : decode cX4_setPeople 40 = .ok (.iload_n 2, 1) := by decide +kernel
theorem dX4_setPeople_41 : decode cX4_setPeople 41 = .ok (.iastore, 1) := by decide +kernel
theorem dX4_setPeople_42 : decode cX4_setPeople 42 = .ok (.aload_n 0, 1) := by decide +kernel
theorem dX4_setPeople_43 : decode cX4_setPeople 43 = .ok (.getfield 12, 3) := by decide +kernel
theorem dX4_setPeople_46 : decode cX4_setPeople 46 = .ok (.getfield 56, 3) := by decide +kernel
theorem dX4_setPeople_49 : decode cX4_setPeople 49 = .ok (.iload_n 1, 1) := by decide +kernel
theorem dX4_setPeople_50 : decode cX4_setPeople 50 = .ok (.iload_n 3, 1) := by decide +kernel
theorem dX4_setPeople_51 : decode cX4_setPeople 51 = .ok (.iastore, 1) := by decide +kernel
theorem dX4_setPeople_52 : decode cX4_setPeople 52 = .ok (.iload 4, 2) := by decide +kernel
theorem dX4_setPeople_54 : decode cX4_setPeople 54 = .ok (.ireturn, 1) := by decide +kernel
set_option maxRecDepth 20000 in
theorem ggX4_pass_X4_requireWithin : GoodIn wsX4_pass wsX4_requireWithin := goodIn_ca (goodIn_r _ [5, 6, 7] (by decide +kernel) (by decide +kernel)) (goodIn_sub (fun _ h => List.mem_cons_of_mem _ (List.mem_append_left _ (List.mem_append_right _ h))) (by decide +kernel))
set_option maxRecDepth 20000 in
theorem gX4_pass_X4_requireWithin : GoodIn wsX4_pass (va_wsS RX4 49 yX4_requireWithin wsX4_requireWithin) := goodIn_app (goodIn_of _ (by decide +kernel)) ggX4_pass_X4_requireWithin
set_option maxRecDepth 20000 in
theorem ggX4_pass_X4_requireState : GoodIn wsX4_pass wsX4_requireState := goodIn_ca (goodIn_r _ [10, 11, 12] (by decide +kernel) (by decide +kernel)) (goodIn_sub (fun _ h => List.mem_cons_of_mem _ (List.mem_append_right _ h)) (by decide +kernel))
set_option maxRecDepth 20000 in
theorem gX4_pass_X4_requireState : GoodIn wsX4_pass (va_wsS RX4 59 yX4_requireState wsX4_requireState) := goodIn_app (goodIn_of _ (by decide +kernel)) ggX4_pass_X4_requireState
set_option maxRecDepth 20000 in
theorem ggX4_pass_X4_endHour : GoodIn wsX4_pass wsX4_endHour := goodIn_r _ [16, 17, 1, 18, 19, 20, 21, 22, 23, 24, 25, 26, 27, 28, 29, 30, 31, 32, 33, 34, 35, 36, 37, 38, 39, 40, 41, 42, 43, 44, 45, 46, 47, 48, 49, 50, 51, 52, 53, 54, 55, 56, 57, 58, 59, 4, 60, 61, 62, 63, 64, 65, 66, 67, 68, 69, 70, 71, 72, 73, 74, 75, 76, 77, 78, 79, 80, 81, 82, 83, 84, 85, 86, 87, 88, 89, 90, 91, 92, 93, 94, 95, 96, 97, 98, 99, 100, 101, 102, 103, 104, 105, 106, 107, 108, 109, 110, 111, 112, 113, 114, 115, 116, 117, 118, 119, 120, 121, 122, 123, 124, 125, 126, 127, 128, 129, 130, 131, 132, 133, 134, 135, 136, 137, 138, 139, 140, 141, 142, 143, 144, 145, 146, 147, 148, 149, 150, 151, 152, 153, 154, 155, 156, 157, 158, 159, 160, 161, 162, 163, 164, 165, 166, 167, 168, 169, 170, 171, 172, 173, 174, 175, 176, 177, 178, 179, 180, 181, 182, 183, 184, 185, 186, 187, 188, 189, 190, 191, 192, 193, 194, 195, 196, 197, 198, 199, 200, 201, 202, 203, 204, 205, 206, 207, 208] (by decide +kernel) (by decide +kernel)
set_option maxRecDepth 20000 in
theorem gX4_pass_X4_endHour : GoodIn wsX4_pass (wsV RX4 63 RX4 yX4_endHour wsX4_endHour) := goodIn_app (goodIn_of _ (by decide +kernel)) ggX4_pass_X4_endHour
theorem dX4_pass_0 : decode cX4_pass 0 = .ok (.iload_n 1, 1) := by decide +kernel
theorem dX4_pass_1 : decode cX4_pass 1 = .ok (.iconst 1, 1) := by decide +kernel
theorem dX4_pass_2 : decode cX4_pass 2 = .ok (.bipush 50, 2) := by decide +kernel
theorem dX4_pass_4 : decode cX4_pass 4 = .ok (.invokestatic 49, 3) := by decide +kernel
theorem dX4_pass_7 : decode cX4_pass 7 = .ok (.aload_n 0, 1) := by decide +kernel
theorem dX4_pass_8 : decode cX4_pass 8 = .ok (.getfield 41, 3) := by decide +kernel
theorem dX4_pass_11 : decode cX4_pass 11 = .ok (.iload_n 1, 1) := by decide +kernel
theorem dX4_pass_12 : decode cX4_pass 12 = .ok (.iadd, 1) := by decide +kernel
theorem dX4_pass_13 : decode cX4_pass 13 = .ok (.sipush 200, 3) := by decide +kernel
theorem dX4_pass_16 : decode cX4_pass 16 = .ok (.if_icmp .gt 7, 3) := by decide +kernel
theorem dX4_pass_19 : decode cX4_pass 19 = .ok (.iconst 1, 1) := by decide +kernel
theorem dX4_pass_20 : decode cX4_pass 20 = .ok (.goto 4, 3) := by decide +kernel
theorem dX4_pass_23 : decode cX4_pass 23 = .ok (.iconst 0, 1) := by decide +kernel
theorem dX4_pass_24 : decode cX4_pass 24 = .ok (.invokestatic 59, 3) := by decide +kernel
theorem dX4_pass_27 : decode cX4_pass 27 = .ok (.iconst 0, 1) := by decide +kernel
theorem dX4_pass_28 : decode cX4_pass 28 = .ok (.istore_n 2, 1) := by decide +kernel
theorem dX4_pass_29 : decode cX4_pass 29 = .ok (.iconst 0, 1) := by decide +kernel
theorem dX4_pass_30 : decode cX4_pass 30 = .ok (.istore_n 3, 1) := by decide +kernel
theorem dX4_pass_31 : decode cX4_pass 31 = .ok (.iload_n 3, 1) := by decide +kernel
theorem dX4_pass_32 : decode cX4_pass 32 = .ok (.iload_n 1, 1) := by decide +kernel
theorem dX4_pass_33 : decode cX4_pass 33 = .ok (.if_icmp .ge 16, 3) := by decide +kernel
theorem dX4_pass_36 : decode cX4_pass 36 = .ok (.iload_n 2, 1) := by decide +kernel
theorem dX4_pass_37 : decode cX4_pass 37 = .ok (.aload_n 0, 1) := by decide +kernel
theorem dX4_pass_38 : decode cX4_pass 38 = .ok (.invokevirtual 63, 3) := by decide +kernel
theorem dX4_pass_41 : decode cX4_pass 41 = .ok (.iadd, 1) := by decide +kernel
theorem dX4_pass_42 : decode cX4_pass 42 = .ok (.istore_n 2, 1) := by decide +kernel
theorem dX4_pass_43 : decode cX4_pass 43 = .ok (.iinc 3 1, 3) := by decide +kernel
theorem dX4_pass_46 : decode cX4_pass 46 = .ok (.goto (-15), 3) := by decide +kernel
theorem dX4_pass_49 : decode cX4_pass 49 = .ok (.iload_n 2, 1) := by decide +kernel
theorem dX4_pass_50 : decode cX4_pass 50 = .ok (.ireturn, 1) := by decide +kernel
set_option maxRecDepth 20000 in
theorem ggX4_setLamp_X4_requireIndex : GoodIn wsX4_setLamp wsX4_requireIndex := goodIn_ca (goodIn_r _ [7, 8, 9] (by decide +kernel) (by decide +kernel)) (goodIn_sub (fun _ h => List.mem_cons_of_mem _ (List.mem_append_left _ (List.mem_append_right _ h))) (by decide +kernel))
set_option maxRecDepth 20000 in
theorem gX4_setLamp_X4_requireIndex : GoodIn wsX4_setLamp (va_wsS RX4 45 yX4_requireIndex wsX4_requireIndex) := goodIn_app (goodIn_of _ (by decide +kernel)) ggX4_setLamp_X4_requireIndex
set_option maxRecDepth 20000 in
theorem ggX4_setLamp_X4_requireWithin : GoodIn wsX4_setLamp wsX4_requireWithin := goodIn_ca (goodIn_r _ [12, 13, 14] (by decide +kernel) (by decide +kernel)) (goodIn_sub (fun _ h => List.mem_cons_of_mem _ (List.mem_append_right _ h)) (by decide +kernel))
set_option maxRecDepth 20000 in
theorem gX4_setLamp_X4_requireWithin : GoodIn wsX4_setLamp (va_wsS RX4 49 yX4_requireWithin wsX4_requireWithin) := goodIn_app (goodIn_of _ (by decide +kernel)) ggX4_setLamp_X4_requireWithin
theorem dX4_setLamp_0 : decode cX4_setLamp 0 = .ok (.iload_n 1, 1) := by decide +kernel
theorem dX4_setLamp_1 : decode cX4_setLamp 1 = .ok (.bipush 12, 2) := by decide +kernel
theorem dX4_setLamp_3 : decode cX4_setLamp 3 = .ok (.invokestatic 45, 3) := by decide +kernel
theorem dX4_setLamp_6 : decode cX4_setLamp 6 = .ok (.iload_n 3, 1) := by decide +kernel
theorem dX4_setLamp_7 : decode cX4_setLamp 7 = .ok (.iconst 0, 1) := by decide +kernel
theorem dX4_setLamp_8 : decode cX4_setLamp 8 = .ok (.bipush 60, 2) := by decide +kernel
theorem dX4_setLamp_10 : decode cX4_setLamp 10 = .ok (.invokestatic 49, 3) := by decide +kernel
theorem dX4_setLamp_13 : decode cX4_setLamp 13 = .ok (.aload_n 0, 1) := by decide +kernel
theorem dX4_setLamp_14 : decode cX4_setLamp 14 = .ok (.getfield 19, 3) := by decide +kernel
theorem dX4_setLamp_17 : decode cX4_setLamp 17 = .ok (.getfield 67, 3) := by decide +kernel
theorem dX4_setLamp_20 : decode cX4_setLamp 20 = .ok (.iload_n 1, 1) := by decide +kernel
theorem dX4_setLamp_21 : decode cX4_setLamp 21 = .ok (.iaload, 1) := by decide +kernel
theorem dX4_setLamp_22 : decode cX4_setLamp 22 = .ok (.istore 4, 2) := by decide +kernel
theorem dX4_setLamp_24 : decode cX4_setLamp 24 = .ok (.aload_n 0, 1) := by decide +kernel
theorem dX4_setLamp_25 : decode cX4_setLamp 25 = .ok (.getfield 19, 3) := by decide +kernel
theorem dX4_setLamp_28 : decode cX4_setLamp 28 = .ok (.getfield 70, 3) := by decide +kernel
theorem dX4_setLamp_31 : decode cX4_setLamp 31 = .ok (.iload_n 1, 1) := by decide +kernel
theorem dX4_setLamp_32 : decode cX4_setLamp 32 = .ok (.iload_n 2, 1) := by decide +kernel
theorem dX4_setLamp_33 : decode cX4_setLamp 33 = .ok (.ifCond .ne 7, 3) := by decide +kernel
theorem dX4_setLamp_36 : decode cX4_setLamp 36 = .ok (.iconst 1, 1) := by decide +kernel
theorem dX4_setLamp_37 : decode cX4_setLamp 37 = .ok (.goto 4, 3) := by decide +kernel
theorem dX4_setLamp_40 : decode cX4_setLamp 40 = .ok (.iconst 0, 1) := by decide +kernel
theorem dX4_setLamp_41 : decode cX4_setLamp 41 = .ok (.bastore, 1) := by decide +kernel
theorem dX4_setLamp_42 : decode cX4_setLamp 42 = .ok (.aload_n 0, 1) := by decide +kernel
theorem dX4_setLamp_43 : decode cX4_setLamp 43 = .ok (.getfield 19, 3) := by decide +kernel
theorem dX4_setLamp_46 : decode cX4_setLamp 46 = .ok (.getfield 67, 3) := by decide +kernel
theorem dX4_setLamp_49 : decode cX4_setLamp 49 = .ok (.iload_n 1, 1) := by decide +kernel
theorem dX4_setLamp_50 : decode cX4_setLamp 50 = .ok (.iload_n 3, 1) := by decide +kernel
theorem dX4_setLamp_51 : decode cX4_setLamp 51 = .ok (.iastore, 1) := by decide +kernel
theorem dX4_setLamp_52 : decode cX4_setLamp 52 = .ok (.iload 4, 2) := by decide +kernel
theorem dX4_setLamp_54 : decode cX4_setLamp 54 = .ok (.ireturn, 1) := by decide +kernel
set_option maxRecDepth 20000 in
theorem ggX4_find_X4_requireIndex : GoodIn wsX4_find wsX4_requireIndex := goodIn_ca (goodIn_r _ [7, 8, 9] (by decide +kernel) (by decide +kernel)) (goodIn_sub (fun _ h => List.mem_cons_of_mem _ (List.mem_append_left _ (List.mem_append_left _ (List.mem_append_right _ h)))) (by decide +kernel))
set_option maxRecDepth 20000 in
theorem gX4_find_X4_requireIndex : GoodIn wsX4_find (va_wsS RX4 45 yX4_requireIndex wsX4_requireIndex) := goodIn_app (goodIn_of _ (by decide +kernel)) ggX4_find_X4_requireIndex
set_option maxRecDepth 20000 in
theorem ggX4_find_X4_requireWithin : GoodIn wsX4_find wsX4_requireWithin := goodIn_ca (goodIn_r _ [12, 13, 14] (by decide +kernel) (by decide +kernel)) (goodIn_sub (fun _ h => List.mem_cons_of_mem _ (List.mem_append_left _ (List.mem_append_right _ h))) (by decide +kernel))
set_option maxRecDepth 20000 in
theorem gX4_find_X4_requireWithin : GoodIn wsX4_find (va_wsS RX4 49 yX4_requireWithin wsX4_requireWithin) := goodIn_app (goodIn_of _ (by decide +kernel)) ggX4_find_X4_requireWithin
set_option maxRecDepth 20000 in
theorem ggX4_find_X4_requireState : GoodIn wsX4_find wsX4_requireState := goodIn_ca (goodIn_r _ [17, 18, 19] (by decide +kernel) (by decide +kernel)) (goodIn_sub (fun _ h => List.mem_cons_of_mem _ (List.mem_append_right _ h)) (by decide +kernel))
set_option maxRecDepth 20000 in
theorem gX4_find_X4_requireState : GoodIn wsX4_find (va_wsS RX4 59 yX4_requireState wsX4_requireState) := goodIn_app (goodIn_of _ (by decide +kernel)) ggX4_find_X4_requireState
set_option maxRecDepth 20000 in
theorem ggX4_find_X1_noteFinding : GoodIn wsX4_find wsX1_noteFinding := goodIn_r _ [24, 25, 26, 27, 28, 122, 123, 124, 125, 126, 127, 128, 129] (by decide +kernel) (by decide +kernel)
set_option maxRecDepth 20000 in
theorem gX4_find_X1_noteFinding : GoodIn wsX4_find (wsV RX4 77 RX1 yX1_noteFinding wsX1_noteFinding) := goodIn_app (goodIn_of _ (by decide +kernel)) ggX4_find_X1_noteFinding
set_option maxRecDepth 20000 in
theorem ggX4_find_X4_recount : GoodIn wsX4_find wsX4_recount := goodIn_r _ [32, 2, 33, 34, 35, 23, 36, 37, 38, 6, 39, 40, 41, 42, 43, 44, 45, 46, 47, 26, 25, 27, 28, 48, 49, 50, 51, 52, 53, 54, 55, 56, 57, 58, 59, 60, 61, 62, 63, 64, 65, 66, 67, 68, 69, 70, 71, 72, 73, 74, 75, 76, 77, 78, 79, 80, 81, 82, 83, 84, 85, 86, 87, 88, 89, 90, 91, 92, 93, 94, 95, 96, 97, 98, 99, 100, 101, 102, 103, 104, 105, 106, 107, 108, 109, 110, 111, 112, 113, 114, 115, 116, 117, 118, 119, 120, 121, 122, 123, 124, 125, 126, 127, 128, 129, 130, 131, 132, 133, 134, 135, 136, 137, 138, 139, 140, 141] (by decide +kernel) (by decide +kernel)
set_option maxRecDepth 20000 in
theorem gX4_find_X4_recount : GoodIn wsX4_find (wsV RX4 80 RX4 yX4_recount wsX4_recount) := goodIn_app (goodIn_of _ (by decide +kernel)) ggX4_find_X4_recount
theorem dX4_find_0 : decode cX4_find 0 = .ok (.iload_n 1, 1) := by decide +kernel
theorem dX4_find_1 : decode cX4_find 1 = .ok (.bipush 12, 2) := by decide +kernel
theorem dX4_find_3 : decode cX4_find 3 = .ok (.invokestatic 45, 3) := by decide +kernel
theorem dX4_find_6 : decode cX4_find 6 = .ok (.iload_n 2, 1) := by decide +kernel
theorem dX4_find_7 : decode cX4_find 7 = .ok (.iconst 0, 1) := by decide +kernel
theorem dX4_find_8 : decode cX4_find 8 = .ok (.aload_n 0, 1) := by decide +kernel
theorem dX4_find_9 : decode cX4_find 9 = .ok (.getfield 41, 3) := by decide +kernel
theorem dX4_find_12 : decode cX4_find 12 = .ok (.invokestatic 49, 3) := by decide +kernel
theorem dX4_find_15 : decode cX4_find 15 = .ok (.iload_n 3, 1) := by decide +kernel
theorem dX4_find_16 : decode cX4_find 16 = .ok (.iconst 0, 1) := by decide +kernel
theorem dX4_find_17 : decode cX4_find 17 = .ok (.bipush 60, 2) := by decide +kernel
theorem dX4_find_19 : decode cX4_find 19 = .ok (.invokestatic 49, 3) := by decide +kernel
theorem dX4_find_22 : decode cX4_find 22 = .ok (.aload_n 0, 1) := by decide +kernel
theorem dX4_find_23 : decode cX4_find 23 = .ok (.getfield 19, 3) := by decide +kernel
theorem dX4_find_26 : decode cX4_find 26 = .ok (.getfield 74, 3) := by decide +kernel
theorem dX4_find_29 : decode cX4_find 29 = .ok (.bipush 60, 2) := by decide +kernel
theorem dX4_find_31 : decode cX4_find 31 = .ok (.if_icmp .ge 7, 3) := by decide +kernel
theorem dX4_find_34 : decode cX4_find 34 = .ok (.iconst 1, 1) := by decide +kernel
theorem dX4_find_35 : decode cX4_find 35 = .ok (.goto 4, 3) := by decide +kernel
theorem dX4_find_38 : decode cX4_find 38 = .ok (.iconst 0, 1) := by decide +kernel
theorem dX4_find_39 : decode cX4_find 39 = .ok (.invokestatic 59, 3) := by decide +kernel
theorem dX4_find_42 : decode cX4_find 42 = .ok (.aload_n 0, 1) := by decide +kernel
theorem dX4_find_43 : decode cX4_find 43 = .ok (.getfield 19, 3) := by decide +kernel
theorem dX4_find_46 : decode cX4_find 46 = .ok (.iload_n 1, 1) := by decide +kernel
theorem dX4_find_47 : decode cX4_find 47 = .ok (.iload_n 2, 1) := by decide +kernel
theorem dX4_find_48 : decode cX4_find 48 = .ok (.iload_n 3, 1) := by decide +kernel
theorem dX4_find_49 : decode cX4_find 49 = .ok (.invokevirtual 77, 3) := by decide +kernel
theorem dX4_find_52 : decode cX4_find 52 = .ok (.iconst 0, 1) := by decide +kernel
theorem dX4_find_53 : decode cX4_find 53 = .ok (.istore 4, 2) := by decide +kernel
theorem dX4_find_55 : decode cX4_find 55 = .ok (.iload_n 2, 1) := by decide +kernel
theorem dX4_find_56 : decode cX4_find 56 = .ok (.istore 5, 2) := by decide +kernel
theorem dX4_find_58 : decode cX4_find 58 = .ok (.iload 5, 2) := by decide +kernel
theorem dX4_find_60 : decode cX4_find 60 = .ok (.aload_n 0, 1) := by decide +kernel
theorem dX4_find_61 : decode cX4_find 61 = .ok (.getfield 41, 3) := by decide +kernel
theorem dX4_find_64 : decode cX4_find 64 = .ok (.if_icmp .ge 21, 3) := by decide +kernel
theorem dX4_find_67 : decode cX4_find 67 = .ok (.iload 4, 2) := by decide +kernel
theorem dX4_find_69 : decode cX4_find 69 = .ok (.aload_n 0, 1) := by decide +kernel
theorem dX4_find_70 : decode cX4_find 70 = .ok (.iload_n 1, 1) := by decide +kernel
theorem dX4_find_71 : decode cX4_find 71 = .ok (.iload 5, 2) := by decide +kernel
theorem dX4_find_73 : decode cX4_find 73 = .ok (.invokevirtual 80, 3) := by decide +kernel
theorem dX4_find_76 : decode cX4_find 76 = .ok (.iadd, 1) := by decide +kernel
theorem dX4_find_77 : decode cX4_find 77 = .ok (.istore 4, 2) := by decide +kernel
theorem dX4_find_79 : decode cX4_find 79 = .ok (.iinc 5 1, 3) := by decide +kernel
theorem dX4_find_82 : decode cX4_find 82 = .ok (.goto (-24), 3) := by decide +kernel
theorem dX4_find_85 : decode cX4_find 85 = .ok (.iload 4, 2) := by decide +kernel
theorem dX4_find_87 : decode cX4_find 87 = .ok (.ireturn, 1) := by decide +kernel
set_option maxRecDepth 20000 in
theorem ggX4_turnUp_X4_requireIndex : GoodIn wsX4_turnUp wsX4_requireIndex := goodIn_ca (goodIn_r _ [6, 7, 8] (by decide +kernel) (by decide +kernel)) (goodIn_sub (fun _ h => List.mem_cons_of_mem _ (List.mem_append_left _ (List.mem_append_left _ (List.mem_append_right _ h)))) (by decide +kernel))
set_option maxRecDepth 20000 in
theorem gX4_turnUp_X4_requireIndex : GoodIn wsX4_turnUp (va_wsS RX4 45 yX4_requireIndex wsX4_requireIndex) := goodIn_app (goodIn_of _ (by decide +kernel)) ggX4_turnUp_X4_requireIndex
set_option maxRecDepth 20000 in
theorem ggX4_turnUp_X4_requireEnded : GoodIn wsX4_turnUp wsX4_requireEnded := goodIn_ca (goodIn_r _ [12, 13, 14, 15, 5, 16, 17, 18, 116, 117, 118, 119, 120, 121] (by decide +kernel) (by decide +kernel)) (goodIn_sub (fun _ h => List.mem_cons_of_mem _ (List.mem_append_left _ (List.mem_append_right _ h))) (by decide +kernel))
set_option maxRecDepth 20000 in
theorem gX4_turnUp_X4_requireEnded : GoodIn wsX4_turnUp (wsV RX4 84 RX4 yX4_requireEnded wsX4_requireEnded) := goodIn_app (goodIn_of _ (by decide +kernel)) ggX4_turnUp_X4_requireEnded
set_option maxRecDepth 20000 in
theorem ggX4_turnUp_X4_requireWithin : GoodIn wsX4_turnUp wsX4_requireWithin := goodIn_ca (goodIn_r _ [16, 17, 18] (by decide +kernel) (by decide +kernel)) (goodIn_sub (fun _ h => List.mem_cons_of_mem _ (List.mem_append_left _ (List.mem_append_right _ h))) (by decide +kernel))
set_option maxRecDepth 20000 in
theorem gX4_turnUp_X4_requireWithin : GoodIn wsX4_turnUp (va_wsS RX4 49 yX4_requireWithin wsX4_requireWithin) := goodIn_app (goodIn_of _ (by decide +kernel)) ggX4_turnUp_X4_requireWithin
set_option maxRecDepth 20000 in
theorem ggX4_turnUp_X1_isLost : GoodIn wsX4_turnUp wsX1_isLost := goodIn_r _ [23, 24, 25, 5, 26, 122, 123, 124, 125, 126, 127, 128, 129] (by decide +kernel) (by decide +kernel)
set_option maxRecDepth 20000 in
theorem gX4_turnUp_X1_isLost : GoodIn wsX4_turnUp (wsV RX4 88 RX1 yX1_isLost wsX1_isLost) := goodIn_app (goodIn_of _ (by decide +kernel)) ggX4_turnUp_X1_isLost
set_option maxRecDepth 20000 in
theorem ggX4_turnUp_X4_requireState : GoodIn wsX4_turnUp wsX4_requireState := goodIn_ca (goodIn_r _ [29, 30, 31] (by decide +kernel) (by decide +kernel)) (goodIn_sub (fun _ h => List.mem_cons_of_mem _ (List.mem_append_right _ h)) (by decide +kernel))
set_option maxRecDepth 20000 in
theorem gX4_turnUp_X4_requireState : GoodIn wsX4_turnUp (va_wsS RX4 59 yX4_requireState wsX4_requireState) := goodIn_app (goodIn_of _ (by decide +kernel)) ggX4_turnUp_X4_requireState
set_option maxRecDepth 20000 in
theorem ggX4_turnUp_X4_cell : GoodIn wsX4_turnUp wsX4_cell := goodIn_r _ [26] (by decide +kernel) (by decide +kernel)
set_option maxRecDepth 20000 in
theorem gX4_turnUp_X4_cell : GoodIn wsX4_turnUp (va_wsS RX4 95 yX4_cell wsX4_cell) := goodIn_app (goodIn_of _ (by decide +kernel)) ggX4_turnUp_X4_cell
set_option maxRecDepth 20000 in
theorem ggX4_turnUp_X4_recount : GoodIn wsX4_turnUp wsX4_recount := goodIn_r _ [36, 1, 19, 20, 21, 22, 23, 24, 25, 5, 26, 37, 38, 39, 40, 41, 42, 43, 44, 45, 46, 47, 48, 49, 50, 51, 52, 53, 32, 54, 55, 56, 57, 58, 59, 60, 61, 62, 63, 64, 65, 66, 67, 68, 69, 70, 71, 72, 73, 74, 75, 76, 77, 78, 79, 80, 81, 82, 83, 84, 85, 86, 87, 88, 89, 90, 91, 92, 93, 94, 95, 96, 97, 98, 99, 100, 101, 102, 103, 104, 105, 106, 107, 108, 109, 110, 111, 112, 113, 114, 115, 116, 117, 118, 119, 120, 121, 122, 123, 124, 125, 126, 127, 128, 129, 130, 131, 132, 133, 134, 135, 136, 137, 138, 139, 140, 141] (by decide +kernel) (by decide +kernel)
set_option maxRecDepth 20000 in
theorem gX4_turnUp_X4_recount : GoodIn wsX4_turnUp (wsV RX4 80 RX4 yX4_recount wsX4_recount) := goodIn_app (goodIn_of _ (by decide +kernel)) ggX4_turnUp_X4_recount
theorem dX4_turnUp_0 : decode cX4_turnUp 0 = .ok (.iload_n 1, 1) := by decide +kernel
theorem dX4_turnUp_1 : decode cX4_turnUp 1 = .ok (.bipush 12, 2) := by decide +kernel
theorem dX4_turnUp_3 : decode cX4_turnUp 3 = .ok (.invokestatic 45, 3) := by decide +kernel
theorem dX4_turnUp_6 : decode cX4_turnUp 6 = .ok (.aload_n 0, 1) := by decide +kernel
theorem dX4_turnUp_7 : decode cX4_turnUp 7 = .ok (.iload_n 2, 1) := by decide +kernel
theorem dX4_turnUp_8 : decode cX4_turnUp 8 = .ok (.invokevirtual 84, 3) := by decide +kernel
theorem dX4_turnUp_11 : decode cX4_turnUp 11 = .ok (.iload_n 3, 1) := by decide +kernel
theorem dX4_turnUp_12 : decode cX4_turnUp 12 = .ok (.iconst 0, 1) := by decide +kernel
theorem dX4_turnUp_13 : decode cX4_turnUp 13 = .ok (.sipush 30000, 3) := by decide +kernel
theorem dX4_turnUp_16 : decode cX4_turnUp 16 = .ok (.invokestatic 49, 3) := by decide +kernel
theorem dX4_turnUp_19 : decode cX4_turnUp 19 = .ok (.aload_n 0, 1) := by decide +kernel
theorem dX4_turnUp_20 : decode cX4_turnUp 20 = .ok (.getfield 19, 3) := by decide +kernel
theorem dX4_turnUp_23 : decode cX4_turnUp 23 = .ok (.iload_n 1, 1) := by decide +kernel
theorem dX4_turnUp_24 : decode cX4_turnUp 24 = .ok (.iload_n 2, 1) := by decide +kernel
theorem dX4_turnUp_25 : decode cX4_turnUp 25 = .ok (.invokevirtual 88, 3) := by decide +kernel
theorem dX4_turnUp_28 : decode cX4_turnUp 28 = .ok (.invokestatic 59, 3) := by decide +kernel
theorem dX4_turnUp_31 : decode cX4_turnUp 31 = .ok (.aload_n 0, 1) := by decide +kernel
theorem dX4_turnUp_32 : decode cX4_turnUp 32 = .ok (.getfield 19, 3) := by decide +kernel
theorem dX4_turnUp_35 : decode cX4_turnUp 35 = .ok (.getfield 92, 3) := by decide +kernel
theorem dX4_turnUp_38 : decode cX4_turnUp 38 = .ok (.iload_n 1, 1) := by decide +kernel
theorem dX4_turnUp_39 : decode cX4_turnUp 39 = .ok (.iload_n 2, 1) := by decide +kernel
theorem dX4_turnUp_40 : decode cX4_turnUp 40 = .ok (.invokestatic 95, 3) := by decide +kernel
theorem dX4_turnUp_43 : decode cX4_turnUp 43 = .ok (.iload_n 3, 1) := by decide +kernel
theorem dX4_turnUp_44 : decode cX4_turnUp 44 = .ok (.iastore, 1) := by decide +kernel
theorem dX4_turnUp_45 : decode cX4_turnUp 45 = .ok (.aload_n 0, 1) := by decide +kernel
theorem dX4_turnUp_46 : decode cX4_turnUp 46 = .ok (.iload_n 1, 1) := by decide +kernel
theorem dX4_turnUp_47 : decode cX4_turnUp 47 = .ok (.iload_n 2, 1) := by decide +kernel
theorem dX4_turnUp_48 : decode cX4_turnUp 48 = .ok (.invokevirtual 80, 3) := by decide +kernel
theorem dX4_turnUp_51 : decode cX4_turnUp 51 = .ok (.ireturn, 1) := by decide +kernel
set_option maxRecDepth 20000 in
theorem ggX4_lease_X4_requireIndex : GoodIn wsX4_lease wsX4_requireIndex := goodIn_ca (goodIn_r _ [9, 10, 11] (by decide +kernel) (by decide +kernel)) (goodIn_sub (fun _ h => List.mem_cons_of_mem _ (List.mem_append_left _ (List.mem_append_left _ (List.mem_append_right _ h)))) (by decide +kernel))
set_option maxRecDepth 20000 in
theorem gX4_lease_X4_requireIndex : GoodIn wsX4_lease (va_wsS RX4 45 yX4_requireIndex wsX4_requireIndex) := goodIn_app (goodIn_of _ (by decide +kernel)) ggX4_lease_X4_requireIndex
set_option maxRecDepth 20000 in
theorem ggX4_lease_X4_requireWithin : GoodIn wsX4_lease wsX4_requireWithin := goodIn_ca (goodIn_r _ [14, 15, 16] (by decide +kernel) (by decide +kernel)) (goodIn_sub (fun _ h => List.mem_cons_of_mem _ (List.mem_append_left _ (List.mem_append_right _ h))) (by decide +kernel))
set_option maxRecDepth 20000 in
theorem gX4_lease_X4_requireWithin : GoodIn wsX4_lease (va_wsS RX4 49 yX4_requireWithin wsX4_requireWithin) := goodIn_app (goodIn_of _ (by decide +kernel)) ggX4_lease_X4_requireWithin
set_option maxRecDepth 20000 in
theorem ggX4_lease_Jx4a65c_size_8abf5 : GoodIn wsX4_lease wsJx4a65c_size_8abf5 := goodIn_r _ [21, 22, 137, 138, 139] (by decide +kernel) (by decide +kernel)
set_option maxRecDepth 20000 in
theorem gX4_lease_Jx4a65c_size_8abf5 : GoodIn wsX4_lease (wsV RX4 98 RJx4a65c yJx4a65c_size_8abf5 wsJx4a65c_size_8abf5) := goodIn_app (goodIn_of _ (by decide +kernel)) ggX4_lease_Jx4a65c_size_8abf5
set_option maxRecDepth 20000 in
theorem ggX4_lease_X4_requireState : GoodIn wsX4_lease wsX4_requireState := goodIn_ca (goodIn_r _ [25, 26, 27] (by decide +kernel) (by decide +kernel)) (goodIn_sub (fun _ h => List.mem_cons_of_mem _ (List.mem_append_right _ h)) (by decide +kernel))
set_option maxRecDepth 20000 in
theorem gX4_lease_X4_requireState : GoodIn wsX4_lease (va_wsS RX4 59 yX4_requireState wsX4_requireState) := goodIn_app (goodIn_of _ (by decide +kernel)) ggX4_lease_X4_requireState
set_option maxRecDepth 20000 in
theorem ggX4_lease_X2_init : GoodIn wsX4_lease wsX2_init := goodIn_r _ [30, 31, 32, 33, 34, 35, 36, 37, 38, 39, 40, 41, 42, 128, 129, 130, 131, 132, 133, 134, 135, 136] (by decide +kernel) (by decide +kernel)
set_option maxRecDepth 20000 in
theorem gX4_lease_X2_init : GoodIn wsX4_lease (wsX2_init) := ggX4_lease_X2_init
set_option maxRecDepth 20000 in
theorem ggX4_lease_X4_isDoorHeld : GoodIn wsX4_lease wsX4_isDoorHeld := goodIn_r _ [46, 1, 47, 17, 18, 19, 20, 21, 22, 48, 49, 50, 51, 52, 53, 54, 55, 56, 57, 58, 59, 60, 61, 62, 63, 64, 65, 66, 67, 4, 68, 36, 41, 42, 122, 123, 124, 125, 126, 127, 137, 138, 139, 128, 129, 130, 131, 132, 133, 134, 135, 136] (by decide +kernel) (by decide +kernel)
set_option maxRecDepth 20000 in
theorem gX4_lease_X4_isDoorHeld : GoodIn wsX4_lease (wsV RX4 106 RX4 yX4_isDoorHeld wsX4_isDoorHeld) := goodIn_app (goodIn_of _ (by decide +kernel)) ggX4_lease_X4_isDoorHeld
set_option maxRecDepth 20000 in
theorem ggX4_lease_Jx4a65c_add_9ea2d : GoodIn wsX4_lease wsJx4a65c_add_9ea2d := goodIn_r _ [72, 73, 74, 64, 22, 75, 76, 77, 20, 78, 79, 80, 81, 82, 83, 84, 85, 86, 87, 88, 89, 90, 91, 92, 93, 94, 95, 96, 97, 98, 99, 100, 101, 102, 103, 104, 105, 106, 107, 108, 109, 110, 111, 112, 113, 114, 115, 116, 117, 118, 119, 120, 121, 137, 138, 139] (by decide +kernel) (by decide +kernel)
set_option maxRecDepth 20000 in
theorem gX4_lease_Jx4a65c_add_9ea2d : GoodIn wsX4_lease (wsV RX4 110 RJx4a65c yJx4a65c_add_9ea2d wsJx4a65c_add_9ea2d) := goodIn_app (goodIn_of _ (by decide +kernel)) ggX4_lease_Jx4a65c_add_9ea2d
theorem dX4_lease_0 : decode cX4_lease 0 = .ok (.iload_n 1, 1) := by decide +kernel
theorem dX4_lease_1 : decode cX4_lease 1 = .ok (.bipush 36, 2) := by decide +kernel
theorem dX4_lease_3 : decode cX4_lease 3 = .ok (.invokestatic 45, 3) := by decide +kernel
theorem dX4_lease_6 : decode cX4_lease 6 = .ok (.iload_n 2, 1) := by decide +kernel
theorem dX4_lease_7 : decode cX4_lease 7 = .ok (.bipush 6, 2) := by decide +kernel
theorem dX4_lease_9 : decode cX4_lease 9 = .ok (.invokestatic 45, 3) := by decide +kernel
theorem dX4_lease_12 : decode cX4_lease 12 = .ok (.iload_n 3, 1) := by decide +kernel
theorem dX4_lease_13 : decode cX4_lease 13 = .ok (.iconst 0, 1) := by decide +kernel
theorem dX4_lease_14 : decode cX4_lease 14 = .ok (.bipush 50, 2) := by decide +kernel
theorem dX4_lease_16 : decode cX4_lease 16 = .ok (.invokestatic 49, 3) := by decide +kernel
theorem dX4_lease_19 : decode cX4_lease 19 = .ok (.iload 4, 2) := by decide +kernel
theorem dX4_lease_21 : decode cX4_lease 21 = .ok (.iconst 0, 1) := by decide +kernel
theorem dX4_lease_22 : decode cX4_lease 22 = .ok (.bipush 50, 2) := by decide +kernel
theorem dX4_lease_24 : decode cX4_lease 24 = .ok (.invokestatic 49, 3) := by decide +kernel
theorem dX4_lease_27 : decode cX4_lease 27 = .ok (.iload 5, 2) := by decide +kernel
theorem dX4_lease_29 : decode cX4_lease 29 = .ok (.iconst 1, 1) := by decide +kernel
theorem dX4_lease_30 : decode cX4_lease 30 = .ok (.bipush 100, 2) := by decide +kernel
theorem dX4_lease_32 : decode cX4_lease 32 = .ok (.invokestatic 49, 3) := by decide +kernel
theorem dX4_lease_35 : decode cX4_lease 35 = .ok (.aload_n 0, 1) := by decide +kernel
theorem dX4_lease_36 : decode cX4_lease 36 = .ok (.getfield 33, 3) := by decide +kernel
theorem dX4_lease_39 : decode cX4_lease 39 = .ok (.invokevirtual 98, 3) := by decide +kernel
theorem dX4_lease_42 : decode cX4_lease 42 = .ok (.bipush 30, 2) := by decide +kernel
theorem dX4_lease_44 : decode cX4_lease 44 = .ok (.if_icmp .ge 7, 3) := by decide +kernel
theorem dX4_lease_47 : decode cX4_lease 47 = .ok (.iconst 1, 1) := by decide +kernel
theorem dX4_lease_48 : decode cX4_lease 48 = .ok (.goto 4, 3) := by decide +kernel
theorem dX4_lease_51 : decode cX4_lease 51 = .ok (.iconst 0, 1) := by decide +kernel
theorem dX4_lease_52 : decode cX4_lease 52 = .ok (.invokestatic 59, 3) := by decide +kernel
theorem dX4_lease_55 : decode cX4_lease 55 = .ok (.new 101, 3) := by decide +kernel
theorem dX4_lease_58 : decode cX4_lease 58 = .ok (.dup, 1) := by decide +kernel
theorem dX4_lease_59 : decode cX4_lease 59 = .ok (.iload_n 1, 1) := by decide +kernel
theorem dX4_lease_60 : decode cX4_lease 60 = .ok (.iload_n 2, 1) := by decide +kernel
theorem dX4_lease_61 : decode cX4_lease 61 = .ok (.iload_n 3, 1) := by decide +kernel
theorem dX4_lease_62 : decode cX4_lease 62 = .ok (.iload 4, 2) := by decide +kernel
theorem dX4_lease_64 : decode cX4_lease 64 = .ok (.aload_n 0, 1) := by decide +kernel
theorem dX4_lease_65 : decode cX4_lease 65 = .ok (.getfield 41, 3) := by decide +kernel
theorem dX4_lease_68 : decode cX4_lease 68 = .ok (.aload_n 0, 1) := by decide +kernel
theorem dX4_lease_69 : decode cX4_lease 69 = .ok (.getfield 41, 3) := by decide +kernel
theorem dX4_lease_72 : decode cX4_lease 72 = .ok (.iload 5, 2) := by decide +kernel
theorem dX4_lease_74 : decode cX4_lease 74 = .ok (.iadd, 1) := by decide +kernel
theorem dX4_lease_75 : decode cX4_lease 75 = .ok (.invokespecial 103, 3) := by decide +kernel
theorem dX4_lease_78 : decode cX4_lease 78 = .ok (.astore 6, 2) := by decide +kernel
theorem dX4_lease_80 : decode cX4_lease 80 = .ok (.aload_n 0, 1) := by decide +kernel
theorem dX4_lease_81 : decode cX4_lease 81 = .ok (.aload 6, 2) := by decide +kernel
theorem dX4_lease_83 : decode cX4_lease 83 = .ok (.invokevirtual 106, 3) := by decide +kernel
theorem dX4_lease_86 : decode cX4_lease 86 = .ok (.ifCond .ne 7, 3) := by decide +kernel
theorem dX4_lease_89 : decode cX4_lease 89 = .ok (.iconst 1, 1) := by decide +kernel
theorem dX4_lease_90 : decode cX4_lease 90 = .ok (.goto 4, 3) := by decide +kernel
theorem dX4_lease_93 : decode cX4_lease 93 = .ok (.iconst 0, 1) := by decide +kernel
theorem dX4_lease_94 : decode cX4_lease 94 = .ok (.invokestatic 59, 3) := by decide +kernel
theorem dX4_lease_97 : decode cX4_lease 97 = .ok (.aload_n 0, 1) := by decide +kernel
theorem dX4_lease_98 : decode cX4_lease 98 = .ok (.getfield 33, 3) := by decide +kernel
theorem dX4_lease_101 : decode cX4_lease 101 = .ok (.aload 6, 2) := by decide +kernel
theorem dX4_lease_103 : decode cX4_lease 103 = .ok (.invokevirtual 110, 3) := by decide +kernel
theorem dX4_lease_106 : decode cX4_lease 106 = .ok (.pop, 1) := by decide +kernel
theorem dX4_lease_107 : decode cX4_lease 107 = .ok (.aload_n 0, 1) := by decide +kernel
theorem dX4_lease_108 : decode cX4_lease 108 = .ok (.getfield 33, 3) := by decide +kernel
theorem dX4_lease_111 : decode cX4_lease 111 = .ok (.invokevirtual 98, 3) := by decide +kernel
theorem dX4_lease_114 : decode cX4_lease 114 = .ok (.iconst 1, 1) := by decide +kernel
theorem dX4_lease_115 : decode cX4_lease 115 = .ok (.isub, 1) := by decide +kernel
theorem dX4_lease_116 : decode cX4_lease 116 = .ok (.ireturn, 1) := by decide +kernel
set_option maxRecDepth 20000 in
theorem ggX4_quit_Jx4a65c_size_8abf5 : GoodIn wsX4_quit wsJx4a65c_size_8abf5 := goodIn_r _ [10, 11, 55, 56, 57] (by decide +kernel) (by decide +kernel)
set_option maxRecDepth 20000 in
theorem gX4_quit_Jx4a65c_size_8abf5 : GoodIn wsX4_quit (wsV RX4 98 RJx4a65c yJx4a65c_size_8abf5 wsJx4a65c_size_8abf5) := goodIn_app (goodIn_of _ (by decide +kernel)) ggX4_quit_Jx4a65c_size_8abf5
set_option maxRecDepth 20000 in
theorem ggX4_quit_X4_requireIndex : GoodIn wsX4_quit wsX4_requireIndex := goodIn_ca (goodIn_r _ [15, 16, 17] (by decide +kernel) (by decide +kernel)) (goodIn_sub (fun _ h => List.mem_cons_of_mem _ (List.mem_append_left _ (List.mem_append_right _ h))) (by decide +kernel))
set_option maxRecDepth 20000 in
theorem gX4_quit_X4_requireIndex : GoodIn wsX4_quit (va_wsS RX4 45 yX4_requireIndex wsX4_requireIndex) := goodIn_app (goodIn_of _ (by decide +kernel)) ggX4_quit_X4_requireIndex
set_option maxRecDepth 20000 in
theorem ggX4_quit_Jx4a65c_get_915e3 : GoodIn wsX4_quit wsJx4a65c_get_915e3 := goodIn_r _ [21, 11, 22, 23, 24, 25, 26, 27, 28, 29, 30, 31, 32, 9, 33, 34, 55, 56, 57] (by decide +kernel) (by decide +kernel)
set_option maxRecDepth 20000 in
theorem gX4_quit_Jx4a65c_get_915e3 : GoodIn wsX4_quit (wsV RX4 114 RJx4a65c yJx4a65c_get_915e3 wsJx4a65c_get_915e3) := goodIn_app (goodIn_of _ (by decide +kernel)) ggX4_quit_Jx4a65c_get_915e3
set_option maxRecDepth 20000 in
theorem ggX4_quit_X4_requireState : GoodIn wsX4_quit wsX4_requireState := goodIn_ca (goodIn_r _ [37, 38, 39] (by decide +kernel) (by decide +kernel)) (goodIn_sub (fun _ h => List.mem_cons_of_mem _ (List.mem_append_right _ h)) (by decide +kernel))
set_option maxRecDepth 20000 in
theorem gX4_quit_X4_requireState : GoodIn wsX4_quit (va_wsS RX4 59 yX4_requireState wsX4_requireState) := goodIn_app (goodIn_of _ (by decide +kernel)) ggX4_quit_X4_requireState
theorem dX4_quit_0 : decode cX4_quit 0 = .ok (.iload_n 1, 1) := by decide +kernel
theorem dX4_quit_1 : decode cX4_quit 1 = .ok (.aload_n 0, 1) := by decide +kernel
theorem dX4_quit_2 : decode cX4_quit 2 = .ok (.getfield 33, 3) := by decide +kernel
theorem dX4_quit_5 : decode cX4_quit 5 = .ok (.invokevirtual 98, 3) := by decide +kernel
theorem dX4_quit_8 : decode cX4_quit 8 = .ok (.invokestatic 45, 3) := by decide +kernel
theorem dX4_quit_11 : decode cX4_quit 11 = .ok (.aload_n 0, 1) := by decide +kernel
theorem dX4_quit_12 : decode cX4_quit 12 = .ok (.getfield 33, 3) := by decide +kernel
theorem dX4_quit_15 : decode cX4_quit 15 = .ok (.iload_n 1, 1) := by decide +kernel
theorem dX4_quit_16 : decode cX4_quit 16 = .ok (.invokevirtual 114, 3) := by decide +kernel
theorem dX4_quit_19 : decode cX4_quit 19 = .ok (.checkcast 101, 3) := by decide +kernel
theorem dX4_quit_22 : decode cX4_quit 22 = .ok (.astore_n 2, 1) := by decide +kernel
theorem dX4_quit_23 : decode cX4_quit 23 = .ok (.aload_n 2, 1) := by decide +kernel
theorem dX4_quit_24 : decode cX4_quit 24 = .ok (.getfield 118, 3) := by decide +kernel
theorem dX4_quit_27 : decode cX4_quit 27 = .ok (.aload_n 0, 1) := by decide +kernel
theorem dX4_quit_28 : decode cX4_quit 28 = .ok (.getfield 41, 3) := by decide +kernel
theorem dX4_quit_31 : decode cX4_quit 31 = .ok (.if_icmp .le 7, 3) := by decide +kernel
theorem dX4_quit_34 : decode cX4_quit 34 = .ok (.iconst 1, 1) := by decide +kernel
theorem dX4_quit_35 : decode cX4_quit 35 = .ok (.goto 4, 3) := by decide +kernel
theorem dX4_quit_38 : decode cX4_quit 38 = .ok (.iconst 0, 1) := by decide +kernel
theorem dX4_quit_39 : decode cX4_quit 39 = .ok (.invokestatic 59, 3) := by decide +kernel
theorem dX4_quit_42 : decode cX4_quit 42 = .ok (.aload_n 2, 1) := by decide +kernel
theorem dX4_quit_43 : decode cX4_quit 43 = .ok (.aload_n 0, 1) := by decide +kernel
theorem dX4_quit_44 : decode cX4_quit 44 = .ok (.getfield 41, 3) := by decide +kernel
theorem dX4_quit_47 : decode cX4_quit 47 = .ok (.putfield 118, 3) := by decide +kernel
theorem dX4_quit_50 : decode cX4_quit 50 = .ok (.aload_n 0, 1) := by decide +kernel
theorem dX4_quit_51 : decode cX4_quit 51 = .ok (.getfield 41, 3) := by decide +kernel
theorem dX4_quit_54 : decode cX4_quit 54 = .ok (.aload_n 2, 1) := by decide +kernel
theorem dX4_quit_55 : decode cX4_quit 55 = .ok (.getfield 121, 3) := by decide +kernel
theorem dX4_quit_58 : decode cX4_quit 58 = .ok (.isub, 1) := by decide +kernel
theorem dX4_quit_59 : decode cX4_quit 59 = .ok (.ireturn, 1) := by decide +kernel
set_option maxRecDepth 20000 in
theorem ggX4_pay_X4_requireIndex : GoodIn wsX4_pay wsX4_requireIndex := goodIn_ca (goodIn_r _ [7, 8, 9] (by decide +kernel) (by decide +kernel)) (goodIn_sub (fun _ h => List.mem_cons_of_mem _ (List.mem_append_left _ (List.mem_append_left _ (List.mem_append_right _ h)))) (by decide +kernel))
set_option maxRecDepth 20000 in
theorem gX4_pay_X4_requireIndex : GoodIn wsX4_pay (va_wsS RX4 45 yX4_requireIndex wsX4_requireIndex) := goodIn_app (goodIn_of _ (by decide +kernel)) ggX4_pay_X4_requireIndex
set_option maxRecDepth 20000 in
theorem ggX4_pay_X4_requireWithin : GoodIn wsX4_pay wsX4_requireWithin := goodIn_ca (goodIn_r _ [12, 13, 14] (by decide +kernel) (by decide +kernel)) (goodIn_sub (fun _ h => List.mem_cons_of_mem _ (List.mem_append_left _ (List.mem_append_right _ h))) (by decide +kernel))
set_option maxRecDepth 20000 in
theorem gX4_pay_X4_requireWithin : GoodIn wsX4_pay (va_wsS RX4 49 yX4_requireWithin wsX4_requireWithin) := goodIn_app (goodIn_of _ (by decide +kernel)) ggX4_pay_X4_requireWithin
set_option maxRecDepth 20000 in
theorem ggX4_pay_X4_requireState : GoodIn wsX4_pay wsX4_requireState := goodIn_ca (goodIn_r _ [17, 18, 19] (by decide +kernel) (by decide +kernel)) (goodIn_sub (fun _ h => List.mem_cons_of_mem _ (List.mem_append_right _ h)) (by decide +kernel))
set_option maxRecDepth 20000 in
theorem gX4_pay_X4_requireState : GoodIn wsX4_pay (va_wsS RX4 59 yX4_requireState wsX4_requireState) := goodIn_app (goodIn_of _ (by decide +kernel)) ggX4_pay_X4_requireState
set_option maxRecDepth 20000 in
theorem ggX4_pay_X4_debt : GoodIn wsX4_pay wsX4_debt := goodIn_r _ [23, 2, 24, 25, 26, 27, 28, 29, 30, 31, 32, 33, 34, 35, 36, 37, 38, 39, 40, 41, 42, 43, 44, 45, 46, 47, 48, 49, 50, 51, 52, 53, 54, 55, 56, 57, 58, 59, 60, 61, 62, 63, 64, 65, 66, 67, 68] (by decide +kernel) (by decide +kernel)
set_option maxRecDepth 20000 in
theorem gX4_pay_X4_debt : GoodIn wsX4_pay (wsV RX4 126 RX4 yX4_debt wsX4_debt) := goodIn_app (goodIn_of _ (by decide +kernel)) ggX4_pay_X4_debt
theorem dX4_pay_0 : decode cX4_pay 0 = .ok (.iload_n 1, 1) := by decide +kernel
theorem dX4_pay_1 : decode cX4_pay 1 = .ok (.bipush 6, 2) := by decide +kernel
theorem dX4_pay_3 : decode cX4_pay 3 = .ok (.invokestatic 45, 3) := by decide +kernel
theorem dX4_pay_6 : decode cX4_pay 6 = .ok (.iload_n 2, 1) := by decide +kernel
theorem dX4_pay_7 : decode cX4_pay 7 = .ok (.iconst 1, 1) := by decide +kernel
theorem dX4_pay_8 : decode cX4_pay 8 = .ok (.ldc 124, 2) := by decide +kernel
theorem dX4_pay_10 : decode cX4_pay 10 = .ok (.invokestatic 49, 3) := by decide +kernel
theorem dX4_pay_13 : decode cX4_pay 13 = .ok (.aload_n 0, 1) := by decide +kernel
theorem dX4_pay_14 : decode cX4_pay 14 = .ok (.getfield 37, 3) := by decide +kernel
theorem dX4_pay_17 : decode cX4_pay 17 = .ok (.iload_n 1, 1) := by decide +kernel
theorem dX4_pay_18 : decode cX4_pay 18 = .ok (.iaload, 1) := by decide +kernel
theorem dX4_pay_19 : decode cX4_pay 19 = .ok (.iload_n 2, 1) := by decide +kernel
theorem dX4_pay_20 : decode cX4_pay 20 = .ok (.iadd, 1) := by decide +kernel
theorem dX4_pay_21 : decode cX4_pay 21 = .ok (.ldc 125, 2) := by decide +kernel
theorem dX4_pay_23 : decode cX4_pay 23 = .ok (.if_icmp .gt 7, 3) := by decide +kernel
theorem dX4_pay_26 : decode cX4_pay 26 = .ok (.iconst 1, 1) := by decide +kernel
theorem dX4_pay_27 : decode cX4_pay 27 = .ok (.goto 4, 3) := by decide +kernel
theorem dX4_pay_30 : decode cX4_pay 30 = .ok (.iconst 0, 1) := by decide +kernel
theorem dX4_pay_31 : decode cX4_pay 31 = .ok (.invokestatic 59, 3) := by decide +kernel
theorem dX4_pay_34 : decode cX4_pay 34 = .ok (.aload_n 0, 1) := by decide +kernel
theorem dX4_pay_35 : decode cX4_pay 35 = .ok (.getfield 37, 3) := by decide +kernel
theorem dX4_pay_38 : decode cX4_pay 38 = .ok (.iload_n 1, 1) := by decide +kernel
theorem dX4_pay_39 : decode cX4_pay 39 = .ok (.dup2, 1) := by decide +kernel
theorem dX4_pay_40 : decode cX4_pay 40 = .ok (.iaload, 1) := by decide +kernel
theorem dX4_pay_41 : decode cX4_pay 41 = .ok (.iload_n 2, 1) := by decide +kernel
theorem dX4_pay_42 : decode cX4_pay 42 = .ok (.iadd, 1) := by decide +kernel
theorem dX4_pay_43 : decode cX4_pay 43 = .ok (.iastore, 1) := by decide +kernel
theorem dX4_pay_44 : decode cX4_pay 44 = .ok (.aload_n 0, 1) := by decide +kernel
theorem dX4_pay_45 : decode cX4_pay 45 = .ok (.iload_n 1, 1) := by decide +kernel
theorem dX4_pay_46 : decode cX4_pay 46 = .ok (.invokevirtual 126, 3) := by decide +kernel
theorem dX4_pay_49 : decode cX4_pay 49 = .ok (.ireturn, 1) := by decide +kernel
set_option maxRecDepth 20000 in
theorem ggX4_setSkill_X4_requireIndex : GoodIn wsX4_setSkill wsX4_requireIndex := goodIn_ca (goodIn_r _ [6, 7, 8] (by decide +kernel) (by decide +kernel)) (goodIn_sub (fun _ h => List.mem_cons_of_mem _ (List.mem_append_left _ (List.mem_append_right _ h))) (by decide +kernel))
set_option maxRecDepth 20000 in
theorem gX4_setSkill_X4_requireIndex : GoodIn wsX4_setSkill (va_wsS RX4 45 yX4_requireIndex wsX4_requireIndex) := goodIn_app (goodIn_of _ (by decide +kernel)) ggX4_setSkill_X4_requireIndex
set_option maxRecDepth 20000 in
theorem ggX4_setSkill_X4_requireWithin : GoodIn wsX4_setSkill wsX4_requireWithin := goodIn_ca (goodIn_r _ [11, 12, 13] (by decide +kernel) (by decide +kernel)) (goodIn_sub (fun _ h => List.mem_cons_of_mem _ (List.mem_append_right _ h)) (by decide +kernel))
set_option maxRecDepth 20000 in
theorem gX4_setSkill_X4_requireWithin : GoodIn wsX4_setSkill (va_wsS RX4 49 yX4_requireWithin wsX4_requireWithin) := goodIn_app (goodIn_of _ (by decide +kernel)) ggX4_setSkill_X4_requireWithin
theorem dX4_setSkill_0 : decode cX4_setSkill 0 = .ok (.iload_n 1, 1) := by decide +kernel
theorem dX4_setSkill_1 : decode cX4_setSkill 1 = .ok (.bipush 6, 2) := by decide +kernel
theorem dX4_setSkill_3 : decode cX4_setSkill 3 = .ok (.invokestatic 45, 3) := by decide +kernel
theorem dX4_setSkill_6 : decode cX4_setSkill 6 = .ok (.iload_n 2, 1) := by decide +kernel
theorem dX4_setSkill_7 : decode cX4_setSkill 7 = .ok (.iconst 0, 1) := by decide +kernel
theorem dX4_setSkill_8 : decode cX4_setSkill 8 = .ok (.bipush 50, 2) := by decide +kernel
theorem dX4_setSkill_10 : decode cX4_setSkill 10 = .ok (.invokestatic 49, 3) := by decide +kernel
theorem dX4_setSkill_13 : decode cX4_setSkill 13 = .ok (.aload_n 0, 1) := by decide +kernel
theorem dX4_setSkill_14 : decode cX4_setSkill 14 = .ok (.getfield 26, 3) := by decide +kernel
theorem dX4_setSkill_17 : decode cX4_setSkill 17 = .ok (.getfield 130, 3) := by decide +kernel
theorem dX4_setSkill_20 : decode cX4_setSkill 20 = .ok (.iload_n 1, 1) := by decide +kernel
theorem dX4_setSkill_21 : decode cX4_setSkill 21 = .ok (.iaload, 1) := by decide +kernel
theorem dX4_setSkill_22 : decode cX4_setSkill 22 = .ok (.istore_n 3, 1) := by decide +kernel
theorem dX4_setSkill_23 : decode cX4_setSkill 23 = .ok (.aload_n 0, 1) := by decide +kernel
theorem dX4_setSkill_24 : decode cX4_setSkill 24 = .ok (.getfield 26, 3) := by decide +kernel
theorem dX4_setSkill_27 : decode cX4_setSkill 27 = .ok (.getfield 130, 3) := by decide +kernel
theorem dX4_setSkill_30 : decode cX4_setSkill 30 = .ok (.iload_n 1, 1) := by decide +kernel
theorem dX4_setSkill_31 : decode cX4_setSkill 31 = .ok (.iload_n 2, 1) := by decide +kernel
theorem dX4_setSkill_32 : decode cX4_setSkill 32 = .ok (.iastore, 1) := by decide +kernel
theorem dX4_setSkill_33 : decode cX4_setSkill 33 = .ok (.iload_n 3, 1) := by decide +kernel
theorem dX4_setSkill_34 : decode cX4_setSkill 34 = .ok (.ireturn, 1) := by decide +kernel
set_option maxRecDepth 20000 in
theorem ggX4_ask_X4_requireIndex : GoodIn wsX4_ask wsX4_requireIndex := goodIn_ca (goodIn_r _ [6, 7, 8] (by decide +kernel) (by decide +kernel)) (goodIn_sub (fun _ h => List.mem_cons_of_mem _ (List.mem_append_left _ (List.mem_append_right _ h))) (by decide +kernel))
set_option maxRecDepth 20000 in
theorem gX4_ask_X4_requireIndex : GoodIn wsX4_ask (va_wsS RX4 45 yX4_requireIndex wsX4_requireIndex) := goodIn_app (goodIn_of _ (by decide +kernel)) ggX4_ask_X4_requireIndex
set_option maxRecDepth 20000 in
theorem ggX4_ask_X0_wish : GoodIn wsX4_ask wsX0_wish := goodIn_r _ [12] (by decide +kernel) (by decide +kernel)
set_option maxRecDepth 20000 in
theorem gX4_ask_X0_wish : GoodIn wsX4_ask (va_wsS RX4 133 yX0_wish wsX0_wish) := goodIn_app (goodIn_of _ (by decide +kernel)) ggX4_ask_X0_wish
set_option maxRecDepth 20000 in
theorem ggX4_ask_X4_requireState : GoodIn wsX4_ask wsX4_requireState := goodIn_ca (goodIn_r _ [15, 16, 17] (by decide +kernel) (by decide +kernel)) (goodIn_sub (fun _ h => List.mem_cons_of_mem _ (List.mem_append_right _ h)) (by decide +kernel))
set_option maxRecDepth 20000 in
theorem gX4_ask_X4_requireState : GoodIn wsX4_ask (va_wsS RX4 59 yX4_requireState wsX4_requireState) := goodIn_app (goodIn_of _ (by decide +kernel)) ggX4_ask_X4_requireState
set_option maxRecDepth 20000 in
theorem ggX4_ask_X0_askedBy : GoodIn wsX4_ask wsX0_askedBy := goodIn_r _ [21, 22, 23, 10, 11, 12, 30, 31, 32, 33, 34, 35, 36, 37, 38] (by decide +kernel) (by decide +kernel)
set_option maxRecDepth 20000 in
theorem gX4_ask_X0_askedBy : GoodIn wsX4_ask (wsV RX4 139 RX0 yX0_askedBy wsX0_askedBy) := goodIn_app (goodIn_of _ (by decide +kernel)) ggX4_ask_X0_askedBy
theorem dX4_ask_0 : decode cX4_ask 0 = .ok (.iload_n 1, 1) := by decide +kernel
theorem dX4_ask_1 : decode cX4_ask 1 = .ok (.bipush 6, 2) := by decide +kernel
theorem dX4_ask_3 : decode cX4_ask 3 = .ok (.invokestatic 45, 3) := by decide +kernel
theorem dX4_ask_6 : decode cX4_ask 6 = .ok (.iload_n 2, 1) := by decide +kernel
theorem dX4_ask_7 : decode cX4_ask 7 = .ok (.bipush 12, 2) := by decide +kernel
theorem dX4_ask_9 : decode cX4_ask 9 = .ok (.invokestatic 45, 3) := by decide +kernel
theorem dX4_ask_12 : decode cX4_ask 12 = .ok (.iload_n 1, 1) := by decide +kernel
theorem dX4_ask_13 : decode cX4_ask 13 = .ok (.iload_n 2, 1) := by decide +kernel
theorem dX4_ask_14 : decode cX4_ask 14 = .ok (.invokestatic 133, 3) := by decide +kernel
theorem dX4_ask_17 : decode cX4_ask 17 = .ok (.istore_n 3, 1) := by decide +kernel
theorem dX4_ask_18 : decode cX4_ask 18 = .ok (.aload_n 0, 1) := by decide +kernel
theorem dX4_ask_19 : decode cX4_ask 19 = .ok (.getfield 26, 3) := by decide +kernel
theorem dX4_ask_22 : decode cX4_ask 22 = .ok (.getfield 136, 3) := by decide +kernel
theorem dX4_ask_25 : decode cX4_ask 25 = .ok (.iload_n 3, 1) := by decide +kernel
theorem dX4_ask_26 : decode cX4_ask 26 = .ok (.baload, 1) := by decide +kernel
theorem dX4_ask_27 : decode cX4_ask 27 = .ok (.ifCond .ne 7, 3) := by decide +kernel
theorem dX4_ask_30 : decode cX4_ask 30 = .ok (.iconst 1, 1) := by decide +kernel
theorem dX4_ask_31 : decode cX4_ask 31 = .ok (.goto 4, 3) := by decide +kernel
theorem dX4_ask_34 : decode cX4_ask 34 = .ok (.iconst 0, 1) := by decide +kernel
theorem dX4_ask_35 : decode cX4_ask 35 = .ok (.invokestatic 59, 3) := by decide +kernel
theorem dX4_ask_38 : decode cX4_ask 38 = .ok (.aload_n 0, 1) := by decide +kernel
theorem dX4_ask_39 : decode cX4_ask 39 = .ok (.getfield 26, 3) := by decide +kernel
theorem dX4_ask_42 : decode cX4_ask 42 = .ok (.getfield 136, 3) := by decide +kernel
theorem dX4_ask_45 : decode cX4_ask 45 = .ok (.iload_n 3, 1) := by decide +kernel
theorem dX4_ask_46 : decode cX4_ask 46 = .ok (.iconst 1, 1) := by decide +kernel
theorem dX4_ask_47 : decode cX4_ask 47 = .ok (.bastore, 1) := by decide +kernel
theorem dX4_ask_48 : decode cX4_ask 48 = .ok (.aload_n 0, 1) := by decide +kernel
theorem dX4_ask_49 : decode cX4_ask 49 = .ok (.getfield 26, 3) := by decide +kernel
theorem dX4_ask_52 : decode cX4_ask 52 = .ok (.iload_n 1, 1) := by decide +kernel
theorem dX4_ask_53 : decode cX4_ask 53 = .ok (.invokevirtual 139, 3) := by decide +kernel
theorem dX4_ask_56 : decode cX4_ask 56 = .ok (.ireturn, 1) := by decide +kernel
set_option maxRecDepth 20000 in
theorem ggX4_lot_X4_requireWithin : GoodIn wsX4_lot wsX4_requireWithin := goodIn_ca (goodIn_r _ [7, 8, 9] (by decide +kernel) (by decide +kernel)) (goodIn_sub (fun _ h => List.mem_cons_of_mem _ (List.mem_append_left _ (List.mem_append_right _ h))) (by decide +kernel))
set_option maxRecDepth 20000 in
theorem gX4_lot_X4_requireWithin : GoodIn wsX4_lot (va_wsS RX4 49 yX4_requireWithin wsX4_requireWithin) := goodIn_app (goodIn_of _ (by decide +kernel)) ggX4_lot_X4_requireWithin
set_option maxRecDepth 20000 in
theorem ggX4_lot_X4_requireState : GoodIn wsX4_lot wsX4_requireState := goodIn_ca (goodIn_r _ [12, 13, 14] (by decide +kernel) (by decide +kernel)) (goodIn_sub (fun _ h => List.mem_cons_of_mem _ (List.mem_append_right _ h)) (by decide +kernel))
set_option maxRecDepth 20000 in
theorem gX4_lot_X4_requireState : GoodIn wsX4_lot (va_wsS RX4 59 yX4_requireState wsX4_requireState) := goodIn_app (goodIn_of _ (by decide +kernel)) ggX4_lot_X4_requireState
theorem dX4_lot_0 : decode cX4_lot 0 = .ok (.iload_n 1, 1) := by decide +kernel
theorem dX4_lot_1 : decode cX4_lot 1 = .ok (.iconst 0, 1) := by decide +kernel
theorem dX4_lot_2 : decode cX4_lot 2 = .ok (.sipush 1000, 3) := by decide +kernel
theorem dX4_lot_5 : decode cX4_lot 5 = .ok (.invokestatic 49, 3) := by decide +kernel
theorem dX4_lot_8 : decode cX4_lot 8 = .ok (.aload_n 0, 1) := by decide +kernel
theorem dX4_lot_9 : decode cX4_lot 9 = .ok (.getfield 26, 3) := by decide +kernel
theorem dX4_lot_12 : decode cX4_lot 12 = .ok (.getfield 142, 3) := by decide +kernel
theorem dX4_lot_15 : decode cX4_lot 15 = .ok (.bipush 50, 2) := by decide +kernel
theorem dX4_lot_17 : decode cX4_lot 17 = .ok (.if_icmp .ge 7, 3) := by decide +kernel
theorem dX4_lot_20 : decode cX4_lot 20 = .ok (.iconst 1, 1) := by decide +kernel
theorem dX4_lot_21 : decode cX4_lot 21 = .ok (.goto 4, 3) := by decide +kernel
theorem dX4_lot_24 : decode cX4_lot 24 = .ok (.iconst 0, 1) := by decide +kernel
theorem dX4_lot_25 : decode cX4_lot 25 = .ok (.invokestatic 59, 3) := by decide +kernel
theorem dX4_lot_28 : decode cX4_lot 28 = .ok (.aload_n 0, 1) := by decide +kernel
theorem dX4_lot_29 : decode cX4_lot 29 = .ok (.getfield 26, 3) := by decide +kernel
theorem dX4_lot_32 : decode cX4_lot 32 = .ok (.getfield 145, 3) := by decide +kernel
theorem dX4_lot_35 : decode cX4_lot 35 = .ok (.aload_n 0, 1) := by decide +kernel
theorem dX4_lot_36 : decode cX4_lot 36 = .ok (.getfield 26, 3) := by decide +kernel
theorem dX4_lot_39 : decode cX4_lot 39 = .ok (.getfield 142, 3) := by decide +kernel
theorem dX4_lot_42 : decode cX4_lot 42 = .ok (.iload_n 1, 1) := by decide +kernel
theorem dX4_lot_43 : decode cX4_lot 43 = .ok (.iastore, 1) := by decide +kernel
theorem dX4_lot_44 : decode cX4_lot 44 = .ok (.aload_n 0, 1) := by decide +kernel
theorem dX4_lot_45 : decode cX4_lot 45 = .ok (.getfield 26, 3) := by decide +kernel
theorem dX4_lot_48 : decode cX4_lot 48 = .ok (.dup, 1) := by decide +kernel
theorem dX4_lot_49 : decode cX4_lot 49 = .ok (.getfield 142, 3) := by decide +kernel
theorem dX4_lot_52 : decode cX4_lot 52 = .ok (.iconst 1, 1) := by decide +kernel
theorem dX4_lot_53 : decode cX4_lot 53 = .ok (.iadd, 1) := by decide +kernel
theorem dX4_lot_54 : decode cX4_lot 54 = .ok (.putfield 142, 3) := by decide +kernel
theorem dX4_lot_57 : decode cX4_lot 57 = .ok (.aload_n 0, 1) := by decide +kernel
theorem dX4_lot_58 : decode cX4_lot 58 = .ok (.getfield 26, 3) := by decide +kernel
theorem dX4_lot_61 : decode cX4_lot 61 = .ok (.getfield 142, 3) := by decide +kernel
theorem dX4_lot_64 : decode cX4_lot 64 = .ok (.ireturn, 1) := by decide +kernel
theorem dX4_hour_0 : decode cX4_hour 0 = .ok (.aload_n 0, 1) := by decide +kernel
theorem dX4_hour_1 : decode cX4_hour 1 = .ok (.getfield 41, 3) := by decide +kernel
theorem dX4_hour_4 : decode cX4_hour 4 = .ok (.ireturn, 1) := by decide +kernel
set_option maxRecDepth 20000 in
theorem ggX4_steps_X4_endedCell : GoodIn wsX4_steps wsX4_endedCell := goodIn_ca (goodIn_ca (goodIn_r _ [7, 8, 9, 6, 10, 11, 12, 13, 14, 15, 16, 17, 18, 19, 20, 21, 22, 23, 24, 25, 26, 27, 28, 29, 30, 31] (by decide +kernel) (by decide +kernel)) (goodIn_sub (fun _ h => List.mem_cons_of_mem _ (List.mem_append_left _ (List.mem_append_right _ h))) (by decide +kernel))) (goodIn_sub (fun _ h => List.mem_cons_of_mem _ (List.mem_append_right _ h)) (by decide +kernel))
set_option maxRecDepth 20000 in
theorem gX4_steps_X4_endedCell : GoodIn wsX4_steps (wsV RX4 151 RX4 yX4_endedCell wsX4_endedCell) := goodIn_app (goodIn_of _ (by decide +kernel)) ggX4_steps_X4_endedCell
theorem dX4_steps_0 : decode cX4_steps 0 = .ok (.aload_n 0, 1) := by decide +kernel
theorem dX4_steps_1 : decode cX4_steps 1 = .ok (.getfield 12, 3) := by decide +kernel
theorem dX4_steps_4 : decode cX4_steps 4 = .ok (.getfield 148, 3) := by decide +kernel
theorem dX4_steps_7 : decode cX4_steps 7 = .ok (.aload_n 0, 1) := by decide +kernel
theorem dX4_steps_8 : decode cX4_steps 8 = .ok (.iload_n 1, 1) := by decide +kernel
theorem dX4_steps_9 : decode cX4_steps 9 = .ok (.iload_n 2, 1) := by decide +kernel
theorem dX4_steps_10 : decode cX4_steps 10 = .ok (.invokevirtual 151, 3) := by decide +kernel
theorem dX4_steps_13 : decode cX4_steps 13 = .ok (.iaload, 1) := by decide +kernel
theorem dX4_steps_14 : decode cX4_steps 14 = .ok (.ireturn, 1) := by decide +kernel
set_option maxRecDepth 20000 in
theorem ggX4_crowd_X4_endedCell : GoodIn wsX4_crowd wsX4_endedCell := goodIn_ca (goodIn_ca (goodIn_r _ [7, 8, 9, 6, 10, 11, 12, 13, 14, 15, 16, 17, 18, 19, 20, 21, 22, 23, 24, 25, 26, 27, 28, 29, 30, 31] (by decide +kernel) (by decide +kernel)) (goodIn_sub (fun _ h => List.mem_cons_of_mem _ (List.mem_append_left _ (List.mem_append_right _ h))) (by decide +kernel))) (goodIn_sub (fun _ h => List.mem_cons_of_mem _ (List.mem_append_right _ h)) (by decide +kernel))
set_option maxRecDepth 20000 in
theorem gX4_crowd_X4_endedCell : GoodIn wsX4_crowd (wsV RX4 151 RX4 yX4_endedCell wsX4_endedCell) := goodIn_app (goodIn_of _ (by decide +kernel)) ggX4_crowd_X4_endedCell
theorem dX4_crowd_0 : decode cX4_crowd 0 = .ok (.aload_n 0, 1) := by decide +kernel
theorem dX4_crowd_1 : decode cX4_crowd 1 = .ok (.getfield 12, 3) := by decide +kernel
theorem dX4_crowd_4 : decode cX4_crowd 4 = .ok (.getfield 154, 3) := by decide +kernel
theorem dX4_crowd_7 : decode cX4_crowd 7 = .ok (.aload_n 0, 1) := by decide +kernel
theorem dX4_crowd_8 : decode cX4_crowd 8 = .ok (.iload_n 1, 1) := by decide +kernel
theorem dX4_crowd_9 : decode cX4_crowd 9 = .ok (.iload_n 2, 1) := by decide +kernel
theorem dX4_crowd_10 : decode cX4_crowd 10 = .ok (.invokevirtual 151, 3) := by decide +kernel
theorem dX4_crowd_13 : decode cX4_crowd 13 = .ok (.iaload, 1) := by decide +kernel
theorem dX4_crowd_14 : decode cX4_crowd 14 = .ok (.ireturn, 1) := by decide +kernel
set_option maxRecDepth 20000 in
theorem ggX4_through_X4_requireEnded : GoodIn wsX4_through wsX4_requireEnded := goodIn_ca (goodIn_r _ [7, 8, 9, 10, 6, 11, 12, 13, 14, 15, 16, 17, 18, 19] (by decide +kernel) (by decide +kernel)) (goodIn_sub (fun _ h => List.mem_cons_of_mem _ (List.mem_append_right _ h)) (by decide +kernel))
set_option maxRecDepth 20000 in
theorem gX4_through_X4_requireEnded : GoodIn wsX4_through (wsV RX4 84 RX4 yX4_requireEnded wsX4_requireEnded) := goodIn_app (goodIn_of _ (by decide +kernel)) ggX4_through_X4_requireEnded
theorem dX4_through_0 : decode cX4_through 0 = .ok (.aload_n 0, 1) := by decide +kernel
theorem dX4_through_1 : decode cX4_through 1 = .ok (.iload_n 1, 1) := by decide +kernel
theorem dX4_through_2 : decode cX4_through 2 = .ok (.invokevirtual 84, 3) := by decide +kernel
theorem dX4_through_5 : decode cX4_through 5 = .ok (.aload_n 0, 1) := by decide +kernel
theorem dX4_through_6 : decode cX4_through 6 = .ok (.getfield 12, 3) := by decide +kernel
theorem dX4_through_9 : decode cX4_through 9 = .ok (.getfield 157, 3) := by decide +kernel
theorem dX4_through_12 : decode cX4_through 12 = .ok (.iload_n 1, 1) := by decide +kernel
theorem dX4_through_13 : decode cX4_through 13 = .ok (.iaload, 1) := by decide +kernel
theorem dX4_through_14 : decode cX4_through 14 = .ok (.ireturn, 1) := by decide +kernel
set_option maxRecDepth 20000 in
theorem ggX4_reading_X4_endedCell : GoodIn wsX4_reading wsX4_endedCell := goodIn_ca (goodIn_ca (goodIn_r _ [7, 8, 9, 6, 10, 11, 12, 13, 14, 15, 16, 17, 18, 19, 20, 21, 22, 23, 24, 25, 26, 27, 28, 29, 30, 31] (by decide +kernel) (by decide +kernel)) (goodIn_sub (fun _ h => List.mem_cons_of_mem _ (List.mem_append_left _ (List.mem_append_right _ h))) (by decide +kernel))) (goodIn_sub (fun _ h => List.mem_cons_of_mem _ (List.mem_append_right _ h)) (by decide +kernel))
set_option maxRecDepth 20000 in
theorem gX4_reading_X4_endedCell : GoodIn wsX4_reading (wsV RX4 151 RX4 yX4_endedCell wsX4_endedCell) := goodIn_app (goodIn_of _ (by decide +kernel)) ggX4_reading_X4_endedCell
theorem dX4_reading_0 : decode cX4_reading 0 = .ok (.aload_n 0, 1) := by decide +kernel
theorem dX4_reading_1 : decode cX4_reading 1 = .ok (.getfield 19, 3) := by decide +kernel
theorem dX4_reading_4 : decode cX4_reading 4 = .ok (.getfield 92, 3) := by decide +kernel
theorem dX4_reading_7 : decode cX4_reading 7 = .ok (.aload_n 0, 1) := by decide +kernel
theorem dX4_reading_8 : decode cX4_reading 8 = .ok (.iload_n 1, 1) := by decide +kernel
theorem dX4_reading_9 : decode cX4_reading 9 = .ok (.iload_n 2, 1) := by decide +kernel
theorem dX4_reading_10 : decode cX4_reading 10 = .ok (.invokevirtual 151, 3) := by decide +kernel
theorem dX4_reading_13 : decode cX4_reading 13 = .ok (.iaload, 1) := by decide +kernel
theorem dX4_reading_14 : decode cX4_reading 14 = .ok (.ireturn, 1) := by decide +kernel
set_option maxRecDepth 20000 in
theorem ggX4_taken_X4_requireIndex : GoodIn wsX4_taken wsX4_requireIndex := goodIn_ca (goodIn_r _ [5, 6, 7] (by decide +kernel) (by decide +kernel)) (goodIn_sub (fun _ h => List.mem_cons_of_mem _ (List.mem_append_left _ (List.mem_append_right _ h))) (by decide +kernel))
set_option maxRecDepth 20000 in
theorem gX4_taken_X4_requireIndex : GoodIn wsX4_taken (va_wsS RX4 45 yX4_requireIndex wsX4_requireIndex) := goodIn_app (goodIn_of _ (by decide +kernel)) ggX4_taken_X4_requireIndex
set_option maxRecDepth 20000 in
theorem ggX4_taken_X4_requireWithin : GoodIn wsX4_taken wsX4_requireWithin := goodIn_ca (goodIn_r _ [10, 11, 12] (by decide +kernel) (by decide +kernel)) (goodIn_sub (fun _ h => List.mem_cons_of_mem _ (List.mem_append_right _ h)) (by decide +kernel))
set_option maxRecDepth 20000 in
theorem gX4_taken_X4_requireWithin : GoodIn wsX4_taken (va_wsS RX4 49 yX4_requireWithin wsX4_requireWithin) := goodIn_app (goodIn_of _ (by decide +kernel)) ggX4_taken_X4_requireWithin
set_option maxRecDepth 20000 in
theorem ggX4_taken_X1_foundLast : GoodIn wsX4_taken wsX1_foundLast := goodIn_r _ [17, 18, 19, 20, 21, 28, 29, 30, 31, 32, 33, 34, 35] (by decide +kernel) (by decide +kernel)
set_option maxRecDepth 20000 in
theorem gX4_taken_X1_foundLast : GoodIn wsX4_taken (wsV RX4 160 RX1 yX1_foundLast wsX1_foundLast) := goodIn_app (goodIn_of _ (by decide +kernel)) ggX4_taken_X1_foundLast
theorem dX4_taken_0 : decode cX4_taken 0 = .ok (.iload_n 1, 1) := by decide +kernel
theorem dX4_taken_1 : decode cX4_taken 1 = .ok (.bipush 12, 2) := by decide +kernel
theorem dX4_taken_3 : decode cX4_taken 3 = .ok (.invokestatic 45, 3) := by decide +kernel
theorem dX4_taken_6 : decode cX4_taken 6 = .ok (.iload_n 2, 1) := by decide +kernel
theorem dX4_taken_7 : decode cX4_taken 7 = .ok (.iconst 0, 1) := by decide +kernel
theorem dX4_taken_8 : decode cX4_taken 8 = .ok (.sipush 199, 3) := by decide +kernel
theorem dX4_taken_11 : decode cX4_taken 11 = .ok (.invokestatic 49, 3) := by decide +kernel
theorem dX4_taken_14 : decode cX4_taken 14 = .ok (.aload_n 0, 1) := by decide +kernel
theorem dX4_taken_15 : decode cX4_taken 15 = .ok (.getfield 19, 3) := by decide +kernel
theorem dX4_taken_18 : decode cX4_taken 18 = .ok (.iload_n 1, 1) := by decide +kernel
theorem dX4_taken_19 : decode cX4_taken 19 = .ok (.iload_n 2, 1) := by decide +kernel
theorem dX4_taken_20 : decode cX4_taken 20 = .ok (.invokevirtual 160, 3) := by decide +kernel
theorem dX4_taken_23 : decode cX4_taken 23 = .ok (.ireturn, 1) := by decide +kernel
set_option maxRecDepth 20000 in
theorem ggX4_count_X4_endedCell : GoodIn wsX4_count wsX4_endedCell := goodIn_ca (goodIn_ca (goodIn_r _ [7, 8, 9, 6, 10, 11, 12, 13, 14, 15, 16, 17, 18, 19, 20, 21, 22, 23, 24, 25, 26, 27, 28, 29, 30, 31] (by decide +kernel) (by decide +kernel)) (goodIn_sub (fun _ h => List.mem_cons_of_mem _ (List.mem_append_left _ (List.mem_append_right _ h))) (by decide +kernel))) (goodIn_sub (fun _ h => List.mem_cons_of_mem _ (List.mem_append_right _ h)) (by decide +kernel))
set_option maxRecDepth 20000 in
theorem gX4_count_X4_endedCell : GoodIn wsX4_count (wsV RX4 151 RX4 yX4_endedCell wsX4_endedCell) := goodIn_app (goodIn_of _ (by decide +kernel)) ggX4_count_X4_endedCell
theorem dX4_count_0 : decode cX4_count 0 = .ok (.aload_n 0, 1) := by decide +kernel
theorem dX4_count_1 : decode cX4_count 1 = .ok (.getfield 19, 3) := by decide +kernel
theorem dX4_count_4 : decode cX4_count 4 = .ok (.getfield 163, 3) := by decide +kernel
theorem dX4_count_7 : decode cX4_count 7 = .ok (.aload_n 0, 1) := by decide +kernel
theorem dX4_count_8 : decode cX4_count 8 = .ok (.iload_n 1, 1) := by decide +kernel
theorem dX4_count_9 : decode cX4_count 9 = .ok (.iload_n 2, 1) := by decide +kernel
theorem dX4_count_10 : decode cX4_count 10 = .ok (.invokevirtual 151, 3) := by decide +kernel
theorem dX4_count_13 : decode cX4_count 13 = .ok (.iaload, 1) := by decide +kernel
theorem dX4_count_14 : decode cX4_count 14 = .ok (.ireturn, 1) := by decide +kernel
set_option maxRecDepth 20000 in
theorem ggX4_countAnew_X4_requireIndex : GoodIn wsX4_countAnew wsX4_requireIndex := goodIn_ca (goodIn_r _ [5, 6, 7] (by decide +kernel) (by decide +kernel)) (goodIn_sub (fun _ h => List.mem_cons_of_mem _ (List.mem_append_left _ (List.mem_append_right _ h))) (by decide +kernel))
set_option maxRecDepth 20000 in
theorem gX4_countAnew_X4_requireIndex : GoodIn wsX4_countAnew (va_wsS RX4 45 yX4_requireIndex wsX4_requireIndex) := goodIn_app (goodIn_of _ (by decide +kernel)) ggX4_countAnew_X4_requireIndex
set_option maxRecDepth 20000 in
theorem ggX4_countAnew_X4_requireEnded : GoodIn wsX4_countAnew wsX4_requireEnded := goodIn_ca (goodIn_r _ [11, 12, 13, 14, 4, 15, 16, 17, 53, 54, 55, 56, 57, 58] (by decide +kernel) (by decide +kernel)) (goodIn_sub (fun _ h => List.mem_cons_of_mem _ (List.mem_append_right _ h)) (by decide +kernel))
set_option maxRecDepth 20000 in
theorem gX4_countAnew_X4_requireEnded : GoodIn wsX4_countAnew (wsV RX4 84 RX4 yX4_requireEnded wsX4_requireEnded) := goodIn_app (goodIn_of _ (by decide +kernel)) ggX4_countAnew_X4_requireEnded
set_option maxRecDepth 20000 in
theorem ggX4_countAnew_X1_foundAnew : GoodIn wsX4_countAnew wsX1_foundAnew := goodIn_r _ [22, 23, 24, 25, 21, 26, 27, 28, 4, 29, 30, 31, 32, 33, 34, 35, 36, 37, 38, 39, 40, 41, 42, 43, 44, 45, 46, 47, 48, 49, 50, 51, 52, 59, 60, 61, 62, 63, 64, 65, 66] (by decide +kernel) (by decide +kernel)
set_option maxRecDepth 20000 in
theorem gX4_countAnew_X1_foundAnew : GoodIn wsX4_countAnew (wsV RX4 166 RX1 yX1_foundAnew wsX1_foundAnew) := goodIn_app (goodIn_of _ (by decide +kernel)) ggX4_countAnew_X1_foundAnew
theorem dX4_countAnew_0 : decode cX4_countAnew 0 = .ok (.iload_n 1, 1) := by decide +kernel
theorem dX4_countAnew_1 : decode cX4_countAnew 1 = .ok (.bipush 12, 2) := by decide +kernel
theorem dX4_countAnew_3 : decode cX4_countAnew 3 = .ok (.invokestatic 45, 3) := by decide +kernel
theorem dX4_countAnew_6 : decode cX4_countAnew 6 = .ok (.aload_n 0, 1) := by decide +kernel
theorem dX4_countAnew_7 : decode cX4_countAnew 7 = .ok (.iload_n 2, 1) := by decide +kernel
theorem dX4_countAnew_8 : decode cX4_countAnew 8 = .ok (.invokevirtual 84, 3) := by decide +kernel
theorem dX4_countAnew_11 : decode cX4_countAnew 11 = .ok (.aload_n 0, 1) := by decide +kernel
theorem dX4_countAnew_12 : decode cX4_countAnew 12 = .ok (.getfield 19, 3) := by decide +kernel
theorem dX4_countAnew_15 : decode cX4_countAnew 15 = .ok (.iload_n 1, 1) := by decide +kernel
theorem dX4_countAnew_16 : decode cX4_countAnew 16 = .ok (.iload_n 2, 1) := by decide +kernel
theorem dX4_countAnew_17 : decode cX4_countAnew 17 = .ok (.invokevirtual 166, 3) := by decide +kernel
theorem dX4_countAnew_20 : decode cX4_countAnew 20 = .ok (.ireturn, 1) := by decide +kernel
set_option maxRecDepth 20000 in
theorem ggX4_missed_X4_requireEnded : GoodIn wsX4_missed wsX4_requireEnded := goodIn_ca (goodIn_r _ [13, 14, 15, 16, 12, 17, 18, 19, 23, 24, 25, 26, 27, 28] (by decide +kernel) (by decide +kernel)) (goodIn_sub (fun _ h => List.mem_cons_of_mem _ (List.mem_append_right _ h)) (by decide +kernel))
set_option maxRecDepth 20000 in
theorem gX4_missed_X4_requireEnded : GoodIn wsX4_missed (wsV RX4 84 RX4 yX4_requireEnded wsX4_requireEnded) := goodIn_app (goodIn_of _ (by decide +kernel)) ggX4_missed_X4_requireEnded
set_option maxRecDepth 20000 in
theorem ggX4_missed_X4_cell : GoodIn wsX4_missed wsX4_cell := goodIn_r _ [22] (by decide +kernel) (by decide +kernel)
set_option maxRecDepth 20000 in
theorem gX4_missed_X4_cell : GoodIn wsX4_missed (va_wsS RX4 95 yX4_cell wsX4_cell) := goodIn_app (goodIn_of _ (by decide +kernel)) ggX4_missed_X4_cell
theorem dX4_missed_0 : decode cX4_missed 0 = .ok (.aload_n 0, 1) := by decide +kernel
theorem dX4_missed_1 : decode cX4_missed 1 = .ok (.iload_n 1, 1) := by decide +kernel
theorem dX4_missed_2 : decode cX4_missed 2 = .ok (.invokevirtual 84, 3) := by decide +kernel
theorem dX4_missed_5 : decode cX4_missed 5 = .ok (.iconst 0, 1) := by decide +kernel
theorem dX4_missed_6 : decode cX4_missed 6 = .ok (.istore_n 2, 1) := by decide +kernel
theorem dX4_missed_7 : decode cX4_missed 7 = .ok (.iconst 0, 1) := by decide +kernel
theorem dX4_missed_8 : decode cX4_missed 8 = .ok (.istore_n 3, 1) := by decide +kernel
theorem dX4_missed_9 : decode cX4_missed 9 = .ok (.iload_n 3, 1) := by decide +kernel
theorem dX4_missed_10 : decode cX4_missed 10 = .ok (.bipush 12, 2) := by decide +kernel
theorem dX4_missed_12 : decode cX4_missed 12 = .ok (.if_icmp .ge 43, 3) := by decide +kernel
theorem dX4_missed_15 : decode cX4_missed 15 = .ok (.iload_n 3, 1) := by decide +kernel
theorem dX4_missed_16 : decode cX4_missed 16 = .ok (.iload_n 1, 1) := by decide +kernel
theorem dX4_missed_17 : decode cX4_missed 17 = .ok (.invokestatic 95, 3) := by decide +kernel
theorem dX4_missed_20 : decode cX4_missed 20 = .ok (.istore 4, 2) := by decide +kernel
theorem dX4_missed_22 : decode cX4_missed 22 = .ok (.iload_n 2, 1) := by decide +kernel
theorem dX4_missed_23 : decode cX4_missed 23 = .ok (.aload_n 0, 1) := by decide +kernel
theorem dX4_missed_24 : decode cX4_missed 24 = .ok (.getfield 19, 3) := by decide +kernel
theorem dX4_missed_27 : decode cX4_missed 27 = .ok (.getfield 163, 3) := by decide +kernel
theorem dX4_missed_30 : decode cX4_missed 30 = .ok (.iload 4, 2) := by decide +kernel
theorem dX4_missed_32 : decode cX4_missed 32 = .ok (.iaload, 1) := by decide +kernel
theorem dX4_missed_33 : decode cX4_missed 33 = .ok (.aload_n 0, 1) := by decide +kernel
theorem dX4_missed_34 : decode cX4_missed 34 = .ok (.getfield 12, 3) := by decide +kernel
theorem dX4_missed_37 : decode cX4_missed 37 = .ok (.getfield 148, 3) := by decide +kernel
theorem dX4_missed_40 : decode cX4_missed 40 = .ok (.iload 4, 2) := by decide +kernel
theorem dX4_missed_42 : decode cX4_missed 42 = .ok (.iaload, 1) := by decide +kernel
theorem dX4_missed_43 : decode cX4_missed 43 = .ok (.isub, 1) := by decide +kernel
theorem dX4_missed_44 : decode cX4_missed 44 = .ok (.invokestatic 169, 3) := by decide +kernel
theorem dX4_missed_47 : decode cX4_missed 47 = .ok (.iadd, 1) := by decide +kernel
theorem dX4_missed_48 : decode cX4_missed 48 = .ok (.istore_n 2, 1) := by decide +kernel
theorem dX4_missed_49 : decode cX4_missed 49 = .ok (.iinc 3 1, 3) := by decide +kernel
theorem dX4_missed_52 : decode cX4_missed 52 = .ok (.goto (-43), 3) := by decide +kernel
theorem dX4_missed_55 : decode cX4_missed 55 = .ok (.iload_n 2, 1) := by decide +kernel
theorem dX4_missed_56 : decode cX4_missed 56 = .ok (.ireturn, 1) := by decide +kernel
set_option maxRecDepth 20000 in
theorem ggX4_leases_Jx4a65c_size_8abf5 : GoodIn wsX4_leases wsJx4a65c_size_8abf5 := goodIn_r _ [6, 7, 14, 15, 16] (by decide +kernel) (by decide +kernel)
set_option maxRecDepth 20000 in
theorem gX4_leases_Jx4a65c_size_8abf5 : GoodIn wsX4_leases (wsV RX4 98 RJx4a65c yJx4a65c_size_8abf5 wsJx4a65c_size_8abf5) := goodIn_app (goodIn_of _ (by decide +kernel)) ggX4_leases_Jx4a65c_size_8abf5
theorem dX4_leases_0 : decode cX4_leases 0 = .ok (.aload_n 0, 1) := by decide +kernel
theorem dX4_leases_1 : decode cX4_leases 1 = .ok (.getfield 33, 3) := by decide +kernel
theorem dX4_leases_4 : decode cX4_leases 4 = .ok (.invokevirtual 98, 3) := by decide +kernel
theorem dX4_leases_7 : decode cX4_leases 7 = .ok (.ireturn, 1) := by decide +kernel
set_option maxRecDepth 20000 in
theorem ggX4_isOf_Jx4a65c_size_8abf5 : GoodIn wsX4_isOf wsJx4a65c_size_8abf5 := goodIn_r _ [7, 8, 45, 46, 47] (by decide +kernel) (by decide +kernel)
set_option maxRecDepth 20000 in
theorem gX4_isOf_Jx4a65c_size_8abf5 : GoodIn wsX4_isOf (wsV RX4 98 RJx4a65c yJx4a65c_size_8abf5 wsJx4a65c_size_8abf5) := goodIn_app (goodIn_of _ (by decide +kernel)) ggX4_isOf_Jx4a65c_size_8abf5
set_option maxRecDepth 20000 in
theorem ggX4_isOf_X4_requireIndex : GoodIn wsX4_isOf wsX4_requireIndex := goodIn_ca (goodIn_r _ [12, 13, 14] (by decide +kernel) (by decide +kernel)) (goodIn_sub (fun _ h => List.mem_cons_of_mem _ (List.mem_append_right _ h)) (by decide +kernel))
set_option maxRecDepth 20000 in
theorem gX4_isOf_X4_requireIndex : GoodIn wsX4_isOf (va_wsS RX4 45 yX4_requireIndex wsX4_requireIndex) := goodIn_app (goodIn_of _ (by decide +kernel)) ggX4_isOf_X4_requireIndex
set_option maxRecDepth 20000 in
theorem ggX4_isOf_Jx4a65c_get_915e3 : GoodIn wsX4_isOf wsJx4a65c_get_915e3 := goodIn_r _ [18, 8, 19, 20, 21, 22, 23, 24, 25, 26, 27, 28, 29, 6, 30, 31, 45, 46, 47] (by decide +kernel) (by decide +kernel)
set_option maxRecDepth 20000 in
theorem gX4_isOf_Jx4a65c_get_915e3 : GoodIn wsX4_isOf (wsV RX4 114 RJx4a65c yJx4a65c_get_915e3 wsJx4a65c_get_915e3) := goodIn_app (goodIn_of _ (by decide +kernel)) ggX4_isOf_Jx4a65c_get_915e3
set_option maxRecDepth 20000 in
theorem ggX4_isOf_X2_covers : GoodIn wsX4_isOf wsX2_covers := goodIn_r _ [36, 37, 38, 48, 49, 50, 51, 52, 53, 54, 55, 56] (by decide +kernel) (by decide +kernel)
set_option maxRecDepth 20000 in
theorem gX4_isOf_X2_covers : GoodIn wsX4_isOf (wsV RX4 174 RX2 yX2_covers wsX2_covers) := goodIn_app (goodIn_of _ (by decide +kernel)) ggX4_isOf_X2_covers
theorem dX4_isOf_0 : decode cX4_isOf 0 = .ok (.iload_n 1, 1) := by decide +kernel
theorem dX4_isOf_1 : decode cX4_isOf 1 = .ok (.aload_n 0, 1) := by decide +kernel
theorem dX4_isOf_2 : decode cX4_isOf 2 = .ok (.getfield 33, 3) := by decide +kernel
theorem dX4_isOf_5 : decode cX4_isOf 5 = .ok (.invokevirtual 98, 3) := by decide +kernel
theorem dX4_isOf_8 : decode cX4_isOf 8 = .ok (.invokestatic 45, 3) := by decide +kernel
theorem dX4_isOf_11 : decode cX4_isOf 11 = .ok (.aload_n 0, 1) := by decide +kernel
theorem dX4_isOf_12 : decode cX4_isOf 12 = .ok (.getfield 33, 3) := by decide +kernel
theorem dX4_isOf_15 : decode cX4_isOf 15 = .ok (.iload_n 1, 1) := by decide +kernel
theorem dX4_isOf_16 : decode cX4_isOf 16 = .ok (.invokevirtual 114, 3) := by decide +kernel
theorem dX4_isOf_19 : decode cX4_isOf 19 = .ok (.checkcast 101, 3) := by decide +kernel
theorem dX4_isOf_22 : decode cX4_isOf 22 = .ok (.iload_n 2, 1) := by decide +kernel
theorem dX4_isOf_23 : decode cX4_isOf 23 = .ok (.invokevirtual 174, 3) := by decide +kernel
theorem dX4_isOf_26 : decode cX4_isOf 26 = .ok (.ireturn, 1) := by decide +kernel
set_option maxRecDepth 20000 in
theorem ggX4_billed_Jx4a65c_size_8abf5 : GoodIn wsX4_billed wsJx4a65c_size_8abf5 := goodIn_r _ [8, 9, 48, 49, 50] (by decide +kernel) (by decide +kernel)
set_option maxRecDepth 20000 in
theorem gX4_billed_Jx4a65c_size_8abf5 : GoodIn wsX4_billed (wsV RX4 98 RJx4a65c yJx4a65c_size_8abf5 wsJx4a65c_size_8abf5) := goodIn_app (goodIn_of _ (by decide +kernel)) ggX4_billed_Jx4a65c_size_8abf5
set_option maxRecDepth 20000 in
theorem ggX4_billed_X4_requireIndex : GoodIn wsX4_billed wsX4_requireIndex := goodIn_ca (goodIn_r _ [13, 14, 15] (by decide +kernel) (by decide +kernel)) (goodIn_sub (fun _ h => List.mem_cons_of_mem _ (List.mem_append_right _ h)) (by decide +kernel))
set_option maxRecDepth 20000 in
theorem gX4_billed_X4_requireIndex : GoodIn wsX4_billed (va_wsS RX4 45 yX4_requireIndex wsX4_requireIndex) := goodIn_app (goodIn_of _ (by decide +kernel)) ggX4_billed_X4_requireIndex
set_option maxRecDepth 20000 in
theorem ggX4_billed_Jx4a65c_get_915e3 : GoodIn wsX4_billed wsJx4a65c_get_915e3 := goodIn_r _ [19, 9, 20, 21, 22, 23, 24, 25, 26, 27, 28, 29, 30, 7, 31, 32, 48, 49, 50] (by decide +kernel) (by decide +kernel)
set_option maxRecDepth 20000 in
theorem gX4_billed_Jx4a65c_get_915e3 : GoodIn wsX4_billed (wsV RX4 114 RJx4a65c yJx4a65c_get_915e3 wsJx4a65c_get_915e3) := goodIn_app (goodIn_of _ (by decide +kernel)) ggX4_billed_Jx4a65c_get_915e3
theorem dX4_billed_0 : decode cX4_billed 0 = .ok (.iload_n 1, 1) := by decide +kernel
theorem dX4_billed_1 : decode cX4_billed 1 = .ok (.aload_n 0, 1) := by decide +kernel
theorem dX4_billed_2 : decode cX4_billed 2 = .ok (.getfield 33, 3) := by decide +kernel
theorem dX4_billed_5 : decode cX4_billed 5 = .ok (.invokevirtual 98, 3) := by decide +kernel
theorem dX4_billed_8 : decode cX4_billed 8 = .ok (.invokestatic 45, 3) := by decide +kernel
theorem dX4_billed_11 : decode cX4_billed 11 = .ok (.aload_n 0, 1) := by decide +kernel
theorem dX4_billed_12 : decode cX4_billed 12 = .ok (.getfield 33, 3) := by decide +kernel
theorem dX4_billed_15 : decode cX4_billed 15 = .ok (.iload_n 1, 1) := by decide +kernel
theorem dX4_billed_16 : decode cX4_billed 16 = .ok (.invokevirtual 114, 3) := by decide +kernel
theorem dX4_billed_19 : decode cX4_billed 19 = .ok (.checkcast 101, 3) := by decide +kernel
theorem dX4_billed_22 : decode cX4_billed 22 = .ok (.getfield 178, 3) := by decide +kernel
theorem dX4_billed_25 : decode cX4_billed 25 = .ok (.ireturn, 1) := by decide +kernel
set_option maxRecDepth 20000 in
theorem ggX4_billedAnew_Jx4a65c_size_8abf5 : GoodIn wsX4_billedAnew wsJx4a65c_size_8abf5 := goodIn_r _ [12, 13, 94, 95, 96] (by decide +kernel) (by decide +kernel)
set_option maxRecDepth 20000 in
theorem gX4_billedAnew_Jx4a65c_size_8abf5 : GoodIn wsX4_billedAnew (wsV RX4 98 RJx4a65c yJx4a65c_size_8abf5 wsJx4a65c_size_8abf5) := goodIn_app (goodIn_of _ (by decide +kernel)) ggX4_billedAnew_Jx4a65c_size_8abf5
set_option maxRecDepth 20000 in
theorem ggX4_billedAnew_X4_requireIndex : GoodIn wsX4_billedAnew wsX4_requireIndex := goodIn_ca (goodIn_r _ [17, 18, 19] (by decide +kernel) (by decide +kernel)) (goodIn_sub (fun _ h => List.mem_cons_of_mem _ (List.mem_append_right _ h)) (by decide +kernel))
set_option maxRecDepth 20000 in
theorem gX4_billedAnew_X4_requireIndex : GoodIn wsX4_billedAnew (va_wsS RX4 45 yX4_requireIndex wsX4_requireIndex) := goodIn_app (goodIn_of _ (by decide +kernel)) ggX4_billedAnew_X4_requireIndex
set_option maxRecDepth 20000 in
theorem ggX4_billedAnew_Jx4a65c_get_915e3 : GoodIn wsX4_billedAnew wsJx4a65c_get_915e3 := goodIn_r _ [23, 13, 24, 25, 26, 27, 28, 29, 30, 31, 32, 33, 34, 11, 35, 36, 94, 95, 96] (by decide +kernel) (by decide +kernel)
set_option maxRecDepth 20000 in
theorem gX4_billedAnew_Jx4a65c_get_915e3 : GoodIn wsX4_billedAnew (wsV RX4 114 RJx4a65c yJx4a65c_get_915e3 wsJx4a65c_get_915e3) := goodIn_app (goodIn_of _ (by decide +kernel)) ggX4_billedAnew_Jx4a65c_get_915e3
set_option maxRecDepth 20000 in
theorem ggX4_billedAnew_X1_foundAnew : GoodIn wsX4_billedAnew wsX1_foundAnew := goodIn_r _ [41, 42, 43, 44, 40, 45, 46, 47, 16, 48, 49, 50, 51, 52, 53, 54, 55, 56, 57, 58, 59, 60, 61, 62, 63, 64, 65, 66, 67, 68, 69, 70, 71, 97, 98, 99, 100, 101, 102, 103, 104] (by decide +kernel) (by decide +kernel)
set_option maxRecDepth 20000 in
theorem gX4_billedAnew_X1_foundAnew : GoodIn wsX4_billedAnew (wsV RX4 166 RX1 yX1_foundAnew wsX1_foundAnew) := goodIn_app (goodIn_of _ (by decide +kernel)) ggX4_billedAnew_X1_foundAnew
set_option maxRecDepth 20000 in
theorem ggX4_billedAnew_X2_rentFor : GoodIn wsX4_billedAnew wsX2_rentFor := goodIn_r _ [76, 77, 78, 85, 86, 87, 88, 89, 90, 91, 92, 93] (by decide +kernel) (by decide +kernel)
set_option maxRecDepth 20000 in
theorem gX4_billedAnew_X2_rentFor : GoodIn wsX4_billedAnew (wsV RX4 184 RX2 yX2_rentFor wsX2_rentFor) := goodIn_app (goodIn_of _ (by decide +kernel)) ggX4_billedAnew_X2_rentFor
theorem dX4_billedAnew_0 : decode cX4_billedAnew 0 = .ok (.iload_n 1, 1) := by decide +kernel
theorem dX4_billedAnew_1 : decode cX4_billedAnew 1 = .ok (.aload_n 0, 1) := by decide +kernel
theorem dX4_billedAnew_2 : decode cX4_billedAnew 2 = .ok (.getfield 33, 3) := by decide +kernel
theorem dX4_billedAnew_5 : decode cX4_billedAnew 5 = .ok (.invokevirtual 98, 3) := by decide +kernel
theorem dX4_billedAnew_8 : decode cX4_billedAnew 8 = .ok (.invokestatic 45, 3) := by decide +kernel
theorem dX4_billedAnew_11 : decode cX4_billedAnew 11 = .ok (.aload_n 0, 1) := by decide +kernel
theorem dX4_billedAnew_12 : decode cX4_billedAnew 12 = .ok (.getfield 33, 3) := by decide +kernel
theorem dX4_billedAnew_15 : decode cX4_billedAnew 15 = .ok (.iload_n 1, 1) := by decide +kernel
theorem dX4_billedAnew_16 : decode cX4_billedAnew 16 = .ok (.invokevirtual 114, 3) := by decide +kernel
theorem dX4_billedAnew_19 : decode cX4_billedAnew 19 = .ok (.checkcast 101, 3) := by decide +kernel
theorem dX4_billedAnew_22 : decode cX4_billedAnew 22 = .ok (.astore_n 2, 1) := by decide +kernel
theorem dX4_billedAnew_23 : decode cX4_billedAnew 23 = .ok (.iconst 0, 1) := by decide +kernel
theorem dX4_billedAnew_24 : decode cX4_billedAnew 24 = .ok (.istore_n 3, 1) := by decide +kernel
theorem dX4_billedAnew_25 : decode cX4_billedAnew 25 = .ok (.aload_n 2, 1) := by decide +kernel
theorem dX4_billedAnew_26 : decode cX4_billedAnew 26 = .ok (.getfield 121, 3) := by decide +kernel
theorem dX4_billedAnew_29 : decode cX4_billedAnew 29 = .ok (.istore 4, 2) := by decide +kernel
theorem dX4_billedAnew_31 : decode cX4_billedAnew 31 = .ok (.iload 4, 2) := by decide +kernel
theorem dX4_billedAnew_33 : decode cX4_billedAnew 33 = .ok (.aload_n 2, 1) := by decide +kernel
theorem dX4_billedAnew_34 : decode cX4_billedAnew 34 = .ok (.getfield 118, 3) := by decide +kernel
theorem dX4_billedAnew_37 : decode cX4_billedAnew 37 = .ok (.if_icmp .ge 38, 3) := by decide +kernel
theorem dX4_billedAnew_40 : decode cX4_billedAnew 40 = .ok (.iload 4, 2) := by decide +kernel
theorem dX4_billedAnew_42 : decode cX4_billedAnew 42 = .ok (.aload_n 0, 1) := by decide +kernel
theorem dX4_billedAnew_43 : decode cX4_billedAnew 43 = .ok (.getfield 41, 3) := by decide +kernel
theorem dX4_billedAnew_46 : decode cX4_billedAnew 46 = .ok (.if_icmp .ge 29, 3) := by decide +kernel
theorem dX4_billedAnew_49 : decode cX4_billedAnew 49 = .ok (.iload_n 3, 1) := by decide +kernel
theorem dX4_billedAnew_50 : decode cX4_billedAnew 50 = .ok (.aload_n 2, 1) := by decide +kernel
theorem dX4_billedAnew_51 : decode cX4_billedAnew 51 = .ok (.aload_n 0, 1) := by decide +kernel
theorem dX4_billedAnew_52 : decode cX4_billedAnew 52 = .ok (.getfield 19, 3) := by decide +kernel
theorem dX4_billedAnew_55 : decode cX4_billedAnew 55 = .ok (.aload_n 2, 1) := by decide +kernel
theorem dX4_billedAnew_56 : decode cX4_billedAnew 56 = .ok (.getfield 181, 3) := by decide +kernel
theorem dX4_billedAnew_59 : decode cX4_billedAnew 59 = .ok (.iload 4, 2) := by decide +kernel
theorem dX4_billedAnew_61 : decode cX4_billedAnew 61 = .ok (.invokevirtual 166, 3) := by decide +kernel
theorem dX4_billedAnew_64 : decode cX4_billedAnew 64 = .ok (.invokevirtual 184, 3) := by decide +kernel
theorem dX4_billedAnew_67 : decode cX4_billedAnew 67 = .ok (.iadd, 1) := by decide +kernel
theorem dX4_billedAnew_68 : decode cX4_billedAnew 68 = .ok (.istore_n 3, 1) := by decide +kernel
theorem dX4_billedAnew_69 : decode cX4_billedAnew 69 = .ok (.iinc 4 1, 3) := by decide +kernel
theorem dX4_billedAnew_72 : decode cX4_billedAnew 72 = .ok (.goto (-41), 3) := by decide +kernel
theorem dX4_billedAnew_75 : decode cX4_billedAnew 75 = .ok (.iload_n 3, 1) := by decide +kernel
theorem dX4_billedAnew_76 : decode cX4_billedAnew 76 = .ok (.ireturn, 1) := by decide +kernel
set_option maxRecDepth 20000 in
theorem ggX4_corrected_Jx4a65c_size_8abf5 : GoodIn wsX4_corrected wsJx4a65c_size_8abf5 := goodIn_r _ [8, 9, 48, 49, 50] (by decide +kernel) (by decide +kernel)
set_option maxRecDepth 20000 in
theorem gX4_corrected_Jx4a65c_size_8abf5 : GoodIn wsX4_corrected (wsV RX4 98 RJx4a65c yJx4a65c_size_8abf5 wsJx4a65c_size_8abf5) := goodIn_app (goodIn_of _ (by decide +kernel)) ggX4_corrected_Jx4a65c_size_8abf5
set_option maxRecDepth 20000 in
theorem ggX4_corrected_X4_requireIndex : GoodIn wsX4_corrected wsX4_requireIndex := goodIn_ca (goodIn_r _ [13, 14, 15] (by decide +kernel) (by decide +kernel)) (goodIn_sub (fun _ h => List.mem_cons_of_mem _ (List.mem_append_right _ h)) (by decide +kernel))
set_option maxRecDepth 20000 in
theorem gX4_corrected_X4_requireIndex : GoodIn wsX4_corrected (va_wsS RX4 45 yX4_requireIndex wsX4_requireIndex) := goodIn_app (goodIn_of _ (by decide +kernel)) ggX4_corrected_X4_requireIndex
set_option maxRecDepth 20000 in
theorem ggX4_corrected_Jx4a65c_get_915e3 : GoodIn wsX4_corrected wsJx4a65c_get_915e3 := goodIn_r _ [19, 9, 20, 21, 22, 23, 24, 25, 26, 27, 28, 29, 30, 7, 31, 32, 48, 49, 50] (by decide +kernel) (by decide +kernel)
set_option maxRecDepth 20000 in
theorem gX4_corrected_Jx4a65c_get_915e3 : GoodIn wsX4_corrected (wsV RX4 114 RJx4a65c yJx4a65c_get_915e3 wsJx4a65c_get_915e3) := goodIn_app (goodIn_of _ (by decide +kernel)) ggX4_corrected_Jx4a65c_get_915e3
theorem dX4_corrected_0 : decode cX4_corrected 0 = .ok (.iload_n 1, 1) := by decide +kernel
theorem dX4_corrected_1 : decode cX4_corrected 1 = .ok (.aload_n 0, 1) := by decide +kernel
theorem dX4_corrected_2 : decode cX4_corrected 2 = .ok (.getfield 33, 3) := by decide +kernel
theorem dX4_corrected_5 : decode cX4_corrected 5 = .ok (.invokevirtual 98, 3) := by decide +kernel
theorem dX4_corrected_8 : decode cX4_corrected 8 = .ok (.invokestatic 45, 3) := by decide +kernel
theorem dX4_corrected_11 : decode cX4_corrected 11 = .ok (.aload_n 0, 1) := by decide +kernel
theorem dX4_corrected_12 : decode cX4_corrected 12 = .ok (.getfield 33, 3) := by decide +kernel
theorem dX4_corrected_15 : decode cX4_corrected 15 = .ok (.iload_n 1, 1) := by decide +kernel
theorem dX4_corrected_16 : decode cX4_corrected 16 = .ok (.invokevirtual 114, 3) := by decide +kernel
theorem dX4_corrected_19 : decode cX4_corrected 19 = .ok (.checkcast 101, 3) := by decide +kernel
theorem dX4_corrected_22 : decode cX4_corrected 22 = .ok (.getfield 187, 3) := by decide +kernel
theorem dX4_corrected_25 : decode cX4_corrected 25 = .ok (.ireturn, 1) := by decide +kernel
set_option maxRecDepth 20000 in
theorem ggX4_owes_X4_requireIndex : GoodIn wsX4_owes wsX4_requireIndex := goodIn_ca (goodIn_r _ [4, 5, 6] (by decide +kernel) (by decide +kernel)) (goodIn_sub (fun _ h => List.mem_cons_of_mem _ (List.mem_append_right _ h)) (by decide +kernel))
set_option maxRecDepth 20000 in
theorem gX4_owes_X4_requireIndex : GoodIn wsX4_owes (va_wsS RX4 45 yX4_requireIndex wsX4_requireIndex) := goodIn_app (goodIn_of _ (by decide +kernel)) ggX4_owes_X4_requireIndex
set_option maxRecDepth 20000 in
theorem ggX4_owes_X4_debt : GoodIn wsX4_owes wsX4_debt := goodIn_r _ [10, 11, 12, 13, 14, 15, 16, 17, 18, 19, 20, 21, 22, 23, 24, 25, 26, 27, 28, 29, 30, 31, 32, 33, 34, 35, 36, 37, 38, 39, 40, 41, 42, 43, 44, 45, 46, 47, 48, 49, 50, 51, 52, 53, 54, 55, 56] (by decide +kernel) (by decide +kernel)
set_option maxRecDepth 20000 in
theorem gX4_owes_X4_debt : GoodIn wsX4_owes (wsV RX4 126 RX4 yX4_debt wsX4_debt) := goodIn_app (goodIn_of _ (by decide +kernel)) ggX4_owes_X4_debt
theorem dX4_owes_0 : decode cX4_owes 0 = .ok (.iload_n 1, 1) := by decide +kernel
theorem dX4_owes_1 : decode cX4_owes 1 = .ok (.bipush 6, 2) := by decide +kernel
theorem dX4_owes_3 : decode cX4_owes 3 = .ok (.invokestatic 45, 3) := by decide +kernel
theorem dX4_owes_6 : decode cX4_owes 6 = .ok (.aload_n 0, 1) := by decide +kernel
theorem dX4_owes_7 : decode cX4_owes 7 = .ok (.iload_n 1, 1) := by decide +kernel
theorem dX4_owes_8 : decode cX4_owes 8 = .ok (.invokevirtual 126, 3) := by decide +kernel
theorem dX4_owes_11 : decode cX4_owes 11 = .ok (.ireturn, 1) := by decide +kernel
set_option maxRecDepth 20000 in
theorem ggX4_player_X4_endedCell : GoodIn wsX4_player wsX4_endedCell := goodIn_ca (goodIn_ca (goodIn_r _ [7, 8, 9, 6, 10, 11, 12, 13, 14, 15, 16, 17, 18, 19, 20, 21, 22, 23, 24, 25, 26, 27, 28, 29, 30, 31] (by decide +kernel) (by decide +kernel)) (goodIn_sub (fun _ h => List.mem_cons_of_mem _ (List.mem_append_left _ (List.mem_append_right _ h))) (by decide +kernel))) (goodIn_sub (fun _ h => List.mem_cons_of_mem _ (List.mem_append_right _ h)) (by decide +kernel))
set_option maxRecDepth 20000 in
theorem gX4_player_X4_endedCell : GoodIn wsX4_player (wsV RX4 151 RX4 yX4_endedCell wsX4_endedCell) := goodIn_app (goodIn_of _ (by decide +kernel)) ggX4_player_X4_endedCell
theorem dX4_player_0 : decode cX4_player 0 = .ok (.aload_n 0, 1) := by decide +kernel
theorem dX4_player_1 : decode cX4_player 1 = .ok (.getfield 26, 3) := by decide +kernel
theorem dX4_player_4 : decode cX4_player 4 = .ok (.getfield 190, 3) := by decide +kernel
theorem dX4_player_7 : decode cX4_player 7 = .ok (.aload_n 0, 1) := by decide +kernel
theorem dX4_player_8 : decode cX4_player 8 = .ok (.iload_n 1, 1) := by decide +kernel
theorem dX4_player_9 : decode cX4_player 9 = .ok (.iload_n 2, 1) := by decide +kernel
theorem dX4_player_10 : decode cX4_player 10 = .ok (.invokevirtual 151, 3) := by decide +kernel
theorem dX4_player_13 : decode cX4_player 13 = .ok (.iaload, 1) := by decide +kernel
theorem dX4_player_14 : decode cX4_player 14 = .ok (.ireturn, 1) := by decide +kernel
set_option maxRecDepth 20000 in
theorem ggX4_played_X4_requireIndex : GoodIn wsX4_played wsX4_requireIndex := goodIn_ca (goodIn_r _ [6, 7, 8] (by decide +kernel) (by decide +kernel)) (goodIn_sub (fun _ h => List.mem_cons_of_mem _ (List.mem_append_right _ h)) (by decide +kernel))
set_option maxRecDepth 20000 in
theorem gX4_played_X4_requireIndex : GoodIn wsX4_played (va_wsS RX4 45 yX4_requireIndex wsX4_requireIndex) := goodIn_app (goodIn_of _ (by decide +kernel)) ggX4_played_X4_requireIndex
theorem dX4_played_0 : decode cX4_played 0 = .ok (.iload_n 1, 1) := by decide +kernel
theorem dX4_played_1 : decode cX4_played 1 = .ok (.bipush 6, 2) := by decide +kernel
theorem dX4_played_3 : decode cX4_played 3 = .ok (.invokestatic 45, 3) := by decide +kernel
theorem dX4_played_6 : decode cX4_played 6 = .ok (.aload_n 0, 1) := by decide +kernel
theorem dX4_played_7 : decode cX4_played 7 = .ok (.getfield 26, 3) := by decide +kernel
theorem dX4_played_10 : decode cX4_played 10 = .ok (.getfield 193, 3) := by decide +kernel
theorem dX4_played_13 : decode cX4_played 13 = .ok (.iload_n 1, 1) := by decide +kernel
theorem dX4_played_14 : decode cX4_played 14 = .ok (.iaload, 1) := by decide +kernel
theorem dX4_played_15 : decode cX4_played 15 = .ok (.ireturn, 1) := by decide +kernel
set_option maxRecDepth 20000 in
theorem ggX4_coins_X4_requireIndex : GoodIn wsX4_coins wsX4_requireIndex := goodIn_ca (goodIn_r _ [6, 7, 8] (by decide +kernel) (by decide +kernel)) (goodIn_sub (fun _ h => List.mem_cons_of_mem _ (List.mem_append_right _ h)) (by decide +kernel))
set_option maxRecDepth 20000 in
theorem gX4_coins_X4_requireIndex : GoodIn wsX4_coins (va_wsS RX4 45 yX4_requireIndex wsX4_requireIndex) := goodIn_app (goodIn_of _ (by decide +kernel)) ggX4_coins_X4_requireIndex
theorem dX4_coins_0 : decode cX4_coins 0 = .ok (.iload_n 1, 1) := by decide +kernel
theorem dX4_coins_1 : decode cX4_coins 1 = .ok (.bipush 6, 2) := by decide +kernel
theorem dX4_coins_3 : decode cX4_coins 3 = .ok (.invokestatic 45, 3) := by decide +kernel
theorem dX4_coins_6 : decode cX4_coins 6 = .ok (.aload_n 0, 1) := by decide +kernel
theorem dX4_coins_7 : decode cX4_coins 7 = .ok (.getfield 26, 3) := by decide +kernel
theorem dX4_coins_10 : decode cX4_coins 10 = .ok (.getfield 196, 3) := by decide +kernel
theorem dX4_coins_13 : decode cX4_coins 13 = .ok (.iload_n 1, 1) := by decide +kernel
theorem dX4_coins_14 : decode cX4_coins 14 = .ok (.iaload, 1) := by decide +kernel
theorem dX4_coins_15 : decode cX4_coins 15 = .ok (.ireturn, 1) := by decide +kernel
theorem dX4_lots_0 : decode cX4_lots 0 = .ok (.aload_n 0, 1) := by decide +kernel
theorem dX4_lots_1 : decode cX4_lots 1 = .ok (.getfield 26, 3) := by decide +kernel
theorem dX4_lots_4 : decode cX4_lots 4 = .ok (.getfield 142, 3) := by decide +kernel
theorem dX4_lots_7 : decode cX4_lots 7 = .ok (.ireturn, 1) := by decide +kernel
theorem dX4_requireIndex_0 : decode cX4_requireIndex 0 = .ok (.iload_n 0, 1) := by decide +kernel
theorem dX4_requireIndex_1 : decode cX4_requireIndex 1 = .ok (.ifCond .lt 8, 3) := by decide +kernel
theorem dX4_requireIndex_4 : decode cX4_requireIndex 4 = .ok (.iload_n 0, 1) := by decide +kernel
theorem dX4_requireIndex_5 : decode cX4_requireIndex 5 = .ok (.iload_n 1, 1) := by decide +kernel
theorem dX4_requireIndex_6 : decode cX4_requireIndex 6 = .ok (.if_icmp .lt 13, 3) := by decide +kernel
theorem dX4_requireIndex_9 : decode cX4_requireIndex 9 = .ok (.new 199, 3) := by decide +kernel
theorem dX4_requireIndex_12 : decode cX4_requireIndex 12 = .ok (.dup, 1) := by decide +kernel
theorem dX4_requireIndex_13 : decode cX4_requireIndex 13 = .ok (.ldc 201, 2) := by decide +kernel
theorem dX4_requireIndex_15 : decode cX4_requireIndex 15 = .ok (.invokespecial 203, 3) := by decide +kernel
theorem dX4_requireIndex_18 : decode cX4_requireIndex 18 = .ok (.athrow, 1) := by decide +kernel
theorem dX4_requireIndex_19 : decode cX4_requireIndex 19 = .ok (.return_, 1) := by decide +kernel
theorem dX4_requireWithin_0 : decode cX4_requireWithin 0 = .ok (.iload_n 0, 1) := by decide +kernel
theorem dX4_requireWithin_1 : decode cX4_requireWithin 1 = .ok (.iload_n 1, 1) := by decide +kernel
theorem dX4_requireWithin_2 : decode cX4_requireWithin 2 = .ok (.if_icmp .lt 8, 3) := by decide +kernel
theorem dX4_requireWithin_5 : decode cX4_requireWithin 5 = .ok (.iload_n 0, 1) := by decide +kernel
theorem dX4_requireWithin_6 : decode cX4_requireWithin 6 = .ok (.iload_n 2, 1) := by decide +kernel
theorem dX4_requireWithin_7 : decode cX4_requireWithin 7 = .ok (.if_icmp .le 13, 3) := by decide +kernel
theorem dX4_requireWithin_10 : decode cX4_requireWithin 10 = .ok (.new 206, 3) := by decide +kernel
theorem dX4_requireWithin_13 : decode cX4_requireWithin 13 = .ok (.dup, 1) := by decide +kernel
theorem dX4_requireWithin_14 : decode cX4_requireWithin 14 = .ok (.ldc 208, 2) := by decide +kernel
theorem dX4_requireWithin_16 : decode cX4_requireWithin 16 = .ok (.invokespecial 210, 3) := by decide +kernel
theorem dX4_requireWithin_19 : decode cX4_requireWithin 19 = .ok (.athrow, 1) := by decide +kernel
theorem dX4_requireWithin_20 : decode cX4_requireWithin 20 = .ok (.return_, 1) := by decide +kernel
theorem dX4_requireState_0 : decode cX4_requireState 0 = .ok (.iload_n 0, 1) := by decide +kernel
theorem dX4_requireState_1 : decode cX4_requireState 1 = .ok (.ifCond .ne 13, 3) := by decide +kernel
theorem dX4_requireState_4 : decode cX4_requireState 4 = .ok (.new 211, 3) := by decide +kernel
theorem dX4_requireState_7 : decode cX4_requireState 7 = .ok (.dup, 1) := by decide +kernel
theorem dX4_requireState_8 : decode cX4_requireState 8 = .ok (.ldc 213, 2) := by decide +kernel
theorem dX4_requireState_10 : decode cX4_requireState 10 = .ok (.invokespecial 215, 3) := by decide +kernel
theorem dX4_requireState_13 : decode cX4_requireState 13 = .ok (.athrow, 1) := by decide +kernel
theorem dX4_requireState_14 : decode cX4_requireState 14 = .ok (.return_, 1) := by decide +kernel
set_option maxRecDepth 20000 in
theorem ggX4_requireEnded_X4_requireWithin : GoodIn wsX4_requireEnded wsX4_requireWithin := goodIn_ca (goodIn_r _ [5, 6, 7] (by decide +kernel) (by decide +kernel)) (goodIn_sub (fun _ h => List.mem_cons_of_mem _ (List.mem_append_right _ h)) (by decide +kernel))
