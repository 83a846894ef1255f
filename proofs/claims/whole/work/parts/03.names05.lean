theorem dX5_corrects_45 : decode cX5_corrects 45 = .ok (.iload_n 1, 1) := by decide +kernel
theorem dX5_corrects_46 : decode cX5_corrects 46 = .ok (.ireturn, 1) := by decide +kernel
set_option maxRecDepth 20000 in
theorem ggX5_find_X5_isSection : GoodIn wsX5_find wsX5_isSection := goodIn_r _ [10, 11, 12, 9, 13] (by decide +kernel) (by decide +kernel)
set_option maxRecDepth 20000 in
theorem gX5_find_X5_isSection : GoodIn wsX5_find (va_wsS RX5 139 yX5_isSection wsX5_isSection) := goodIn_app (goodIn_of _ (by decide +kernel)) ggX5_find_X5_isSection
set_option maxRecDepth 20000 in
theorem ggX5_find_X5_fails : GoodIn wsX5_find wsX5_fails := goodIn_r _ [17, 1, 58, 59, 60, 61, 62, 63, 64, 65, 66, 67, 68, 69, 70, 71, 72, 73, 74, 75, 76, 77, 78, 79, 80, 81, 82, 83, 84, 85, 86, 87, 88, 89, 90] (by decide +kernel) (by decide +kernel)
set_option maxRecDepth 20000 in
theorem gX5_find_X5_fails : GoodIn wsX5_find (wsV RX5 132 RX5 yX5_fails wsX5_fails) := goodIn_app (goodIn_of _ (by decide +kernel)) ggX5_find_X5_fails
set_option maxRecDepth 20000 in
theorem ggX5_find_X5_in : GoodIn wsX5_find wsX5_in := goodIn_r _ [13] (by decide +kernel) (by decide +kernel)
set_option maxRecDepth 20000 in
theorem gX5_find_X5_in : GoodIn wsX5_find (va_wsS RX5 99 yX5_in wsX5_in) := goodIn_app (goodIn_of _ (by decide +kernel)) ggX5_find_X5_in
set_option maxRecDepth 20000 in
theorem ggX5_find_X5_keeps : GoodIn wsX5_find wsX5_keeps := goodIn_r _ [21, 22, 23, 24, 25, 26, 9, 27, 28, 29, 2, 30, 31, 32, 33, 34, 35, 36, 37, 38, 39, 40, 41, 7, 8, 10, 11, 12, 13, 42, 43, 44, 45, 46, 47, 48, 49, 50, 51, 52, 3, 4, 5, 6, 58, 59, 60, 61, 62, 63, 64, 65, 66, 67, 68, 69, 70, 71, 72, 73, 74, 75, 76, 77, 78, 79, 80, 81, 82, 83, 84, 85, 86, 87, 88, 89, 90] (by decide +kernel) (by decide +kernel)
set_option maxRecDepth 20000 in
theorem gX5_find_X5_keeps : GoodIn wsX5_find (wsV RX5 162 RX5 yX5_keeps wsX5_keeps) := goodIn_app (goodIn_of _ (by decide +kernel)) ggX5_find_X5_keeps
set_option maxRecDepth 20000 in
theorem ggX5_find_X5_corrects : GoodIn wsX5_find wsX5_corrects := goodIn_r _ [56, 22, 23, 57, 24, 25, 26, 9, 27, 28, 29, 2, 30, 31, 32, 33, 34, 35, 36, 37, 38, 39, 40, 41, 7, 8, 10, 11, 12, 13, 42, 43, 44, 45, 46, 47, 48, 49, 50, 51, 52, 3, 4, 5, 6, 58, 59, 60, 61, 62, 63, 64, 65, 66, 67, 68, 69, 70, 71, 72, 73, 74, 75, 76, 77, 78, 79, 80, 81, 82, 83, 84, 85, 86, 87, 88, 89, 90] (by decide +kernel) (by decide +kernel)
set_option maxRecDepth 20000 in
theorem gX5_find_X5_corrects : GoodIn wsX5_find (wsV RX5 165 RX5 yX5_corrects wsX5_corrects) := goodIn_app (goodIn_of _ (by decide +kernel)) ggX5_find_X5_corrects
theorem dX5_find_0 : decode cX5_find 0 = .ok (.aload_n 0, 1) := by decide +kernel
theorem dX5_find_1 : decode cX5_find 1 = .ok (.iconst 0, 1) := by decide +kernel
theorem dX5_find_2 : decode cX5_find 2 = .ok (.putfield 95, 3) := by decide +kernel
theorem dX5_find_5 : decode cX5_find 5 = .ok (.iload_n 1, 1) := by decide +kernel
theorem dX5_find_6 : decode cX5_find 6 = .ok (.invokestatic 139, 3) := by decide +kernel
theorem dX5_find_9 : decode cX5_find 9 = .ok (.ifCond .ne 9, 3) := by decide +kernel
theorem dX5_find_12 : decode cX5_find 12 = .ok (.aload_n 0, 1) := by decide +kernel
theorem dX5_find_13 : decode cX5_find 13 = .ok (.iconst 1, 1) := by decide +kernel
theorem dX5_find_14 : decode cX5_find 14 = .ok (.invokevirtual 132, 3) := by decide +kernel
theorem dX5_find_17 : decode cX5_find 17 = .ok (.ireturn, 1) := by decide +kernel
theorem dX5_find_18 : decode cX5_find 18 = .ok (.iload_n 2, 1) := by decide +kernel
theorem dX5_find_19 : decode cX5_find 19 = .ok (.iconst 0, 1) := by decide +kernel
theorem dX5_find_20 : decode cX5_find 20 = .ok (.aload_n 0, 1) := by decide +kernel
theorem dX5_find_21 : decode cX5_find 21 = .ok (.getfield 103, 3) := by decide +kernel
theorem dX5_find_24 : decode cX5_find 24 = .ok (.invokestatic 99, 3) := by decide +kernel
theorem dX5_find_27 : decode cX5_find 27 = .ok (.ifCond .eq 13, 3) := by decide +kernel
theorem dX5_find_30 : decode cX5_find 30 = .ok (.iload_n 3, 1) := by decide +kernel
theorem dX5_find_31 : decode cX5_find 31 = .ok (.iconst 0, 1) := by decide +kernel
theorem dX5_find_32 : decode cX5_find 32 = .ok (.bipush 60, 2) := by decide +kernel
theorem dX5_find_34 : decode cX5_find 34 = .ok (.invokestatic 99, 3) := by decide +kernel
theorem dX5_find_37 : decode cX5_find 37 = .ok (.ifCond .ne 9, 3) := by decide +kernel
theorem dX5_find_40 : decode cX5_find 40 = .ok (.aload_n 0, 1) := by decide +kernel
theorem dX5_find_41 : decode cX5_find 41 = .ok (.iconst 2, 1) := by decide +kernel
theorem dX5_find_42 : decode cX5_find 42 = .ok (.invokevirtual 132, 3) := by decide +kernel
theorem dX5_find_45 : decode cX5_find 45 = .ok (.ireturn, 1) := by decide +kernel
theorem dX5_find_46 : decode cX5_find 46 = .ok (.aload_n 0, 1) := by decide +kernel
theorem dX5_find_47 : decode cX5_find 47 = .ok (.getfield 143, 3) := by decide +kernel
theorem dX5_find_50 : decode cX5_find 50 = .ok (.bipush 60, 2) := by decide +kernel
theorem dX5_find_52 : decode cX5_find 52 = .ok (.if_icmp .ne 9, 3) := by decide +kernel
theorem dX5_find_55 : decode cX5_find 55 = .ok (.aload_n 0, 1) := by decide +kernel
theorem dX5_find_56 : decode cX5_find 56 = .ok (.iconst 3, 1) := by decide +kernel
theorem dX5_find_57 : decode cX5_find 57 = .ok (.invokevirtual 132, 3) := by decide +kernel
theorem dX5_find_60 : decode cX5_find 60 = .ok (.ireturn, 1) := by decide +kernel
theorem dX5_find_61 : decode cX5_find 61 = .ok (.aload_n 0, 1) := by decide +kernel
theorem dX5_find_62 : decode cX5_find 62 = .ok (.invokevirtual 162, 3) := by decide +kernel
theorem dX5_find_65 : decode cX5_find 65 = .ok (.aload_n 0, 1) := by decide +kernel
theorem dX5_find_66 : decode cX5_find 66 = .ok (.getfield 38, 3) := by decide +kernel
theorem dX5_find_69 : decode cX5_find 69 = .ok (.aload_n 0, 1) := by decide +kernel
theorem dX5_find_70 : decode cX5_find 70 = .ok (.getfield 143, 3) := by decide +kernel
theorem dX5_find_73 : decode cX5_find 73 = .ok (.iload_n 1, 1) := by decide +kernel
theorem dX5_find_74 : decode cX5_find 74 = .ok (.iastore, 1) := by decide +kernel
theorem dX5_find_75 : decode cX5_find 75 = .ok (.aload_n 0, 1) := by decide +kernel
theorem dX5_find_76 : decode cX5_find 76 = .ok (.getfield 41, 3) := by decide +kernel
theorem dX5_find_79 : decode cX5_find 79 = .ok (.aload_n 0, 1) := by decide +kernel
theorem dX5_find_80 : decode cX5_find 80 = .ok (.getfield 143, 3) := by decide +kernel
theorem dX5_find_83 : decode cX5_find 83 = .ok (.iload_n 2, 1) := by decide +kernel
theorem dX5_find_84 : decode cX5_find 84 = .ok (.iastore, 1) := by decide +kernel
theorem dX5_find_85 : decode cX5_find 85 = .ok (.aload_n 0, 1) := by decide +kernel
theorem dX5_find_86 : decode cX5_find 86 = .ok (.getfield 44, 3) := by decide +kernel
theorem dX5_find_89 : decode cX5_find 89 = .ok (.aload_n 0, 1) := by decide +kernel
theorem dX5_find_90 : decode cX5_find 90 = .ok (.getfield 143, 3) := by decide +kernel
theorem dX5_find_93 : decode cX5_find 93 = .ok (.iload_n 3, 1) := by decide +kernel
theorem dX5_find_94 : decode cX5_find 94 = .ok (.iastore, 1) := by decide +kernel
theorem dX5_find_95 : decode cX5_find 95 = .ok (.aload_n 0, 1) := by decide +kernel
theorem dX5_find_96 : decode cX5_find 96 = .ok (.dup, 1) := by decide +kernel
theorem dX5_find_97 : decode cX5_find 97 = .ok (.getfield 143, 3) := by decide +kernel
theorem dX5_find_100 : decode cX5_find 100 = .ok (.iconst 1, 1) := by decide +kernel
theorem dX5_find_101 : decode cX5_find 101 = .ok (.iadd, 1) := by decide +kernel
theorem dX5_find_102 : decode cX5_find 102 = .ok (.putfield 143, 3) := by decide +kernel
theorem dX5_find_105 : decode cX5_find 105 = .ok (.aload_n 0, 1) := by decide +kernel
theorem dX5_find_106 : decode cX5_find 106 = .ok (.invokevirtual 165, 3) := by decide +kernel
theorem dX5_find_109 : decode cX5_find 109 = .ok (.ireturn, 1) := by decide +kernel
set_option maxRecDepth 20000 in
theorem ggX5_turnUp_X5_isSection : GoodIn wsX5_turnUp wsX5_isSection := goodIn_r _ [6, 7, 8, 5, 9] (by decide +kernel) (by decide +kernel)
set_option maxRecDepth 20000 in
theorem gX5_turnUp_X5_isSection : GoodIn wsX5_turnUp (va_wsS RX5 139 yX5_isSection wsX5_isSection) := goodIn_app (goodIn_of _ (by decide +kernel)) ggX5_turnUp_X5_isSection
set_option maxRecDepth 20000 in
theorem ggX5_turnUp_X5_fails : GoodIn wsX5_turnUp wsX5_fails := goodIn_r _ [13, 1, 62, 63, 64, 65, 66, 67, 68, 69, 70, 71, 72, 73, 74, 75, 76, 77, 78, 79, 80, 81, 82, 83, 84, 85, 86, 87, 88, 89, 90, 91, 92, 93, 94] (by decide +kernel) (by decide +kernel)
set_option maxRecDepth 20000 in
theorem gX5_turnUp_X5_fails : GoodIn wsX5_turnUp (wsV RX5 132 RX5 yX5_fails wsX5_fails) := goodIn_app (goodIn_of _ (by decide +kernel)) ggX5_turnUp_X5_fails
set_option maxRecDepth 20000 in
theorem ggX5_turnUp_X5_isOver : GoodIn wsX5_turnUp wsX5_isOver := goodIn_r _ [17, 18, 7, 8, 5, 9, 62, 63, 64, 65, 66, 67, 68, 69, 70, 71, 72, 73, 74, 75, 76, 77, 78, 79, 80, 81, 82, 83, 84, 85, 86, 87, 88, 89, 90, 91, 92, 93, 94] (by decide +kernel) (by decide +kernel)
set_option maxRecDepth 20000 in
theorem gX5_turnUp_X5_isOver : GoodIn wsX5_turnUp (wsV RX5 168 RX5 yX5_isOver wsX5_isOver) := goodIn_app (goodIn_of _ (by decide +kernel)) ggX5_turnUp_X5_isOver
set_option maxRecDepth 20000 in
theorem ggX5_turnUp_X5_in : GoodIn wsX5_turnUp wsX5_in := goodIn_r _ [9] (by decide +kernel) (by decide +kernel)
set_option maxRecDepth 20000 in
theorem gX5_turnUp_X5_in : GoodIn wsX5_turnUp (va_wsS RX5 99 yX5_in wsX5_in) := goodIn_app (goodIn_of _ (by decide +kernel)) ggX5_turnUp_X5_in
set_option maxRecDepth 20000 in
theorem ggX5_turnUp_X5_cell : GoodIn wsX5_turnUp wsX5_cell := goodIn_r _ [21] (by decide +kernel) (by decide +kernel)
set_option maxRecDepth 20000 in
theorem gX5_turnUp_X5_cell : GoodIn wsX5_turnUp (va_wsS RX5 123 yX5_cell wsX5_cell) := goodIn_app (goodIn_of _ (by decide +kernel)) ggX5_turnUp_X5_cell
set_option maxRecDepth 20000 in
theorem ggX5_turnUp_X5_keeps : GoodIn wsX5_turnUp wsX5_keeps := goodIn_r _ [25, 26, 27, 28, 29, 30, 5, 31, 32, 33, 18, 34, 35, 36, 37, 38, 39, 40, 41, 42, 43, 44, 2, 3, 4, 6, 7, 8, 9, 19, 20, 21, 45, 46, 47, 48, 49, 50, 51, 52, 53, 54, 55, 56, 62, 63, 64, 65, 66, 67, 68, 69, 70, 71, 72, 73, 74, 75, 76, 77, 78, 79, 80, 81, 82, 83, 84, 85, 86, 87, 88, 89, 90, 91, 92, 93, 94] (by decide +kernel) (by decide +kernel)
set_option maxRecDepth 20000 in
theorem gX5_turnUp_X5_keeps : GoodIn wsX5_turnUp (wsV RX5 162 RX5 yX5_keeps wsX5_keeps) := goodIn_app (goodIn_of _ (by decide +kernel)) ggX5_turnUp_X5_keeps
set_option maxRecDepth 20000 in
theorem ggX5_turnUp_X5_corrects : GoodIn wsX5_turnUp wsX5_corrects := goodIn_r _ [60, 26, 27, 61, 28, 29, 30, 5, 31, 32, 33, 18, 34, 35, 36, 37, 38, 39, 40, 41, 42, 43, 44, 2, 3, 4, 6, 7, 8, 9, 19, 20, 21, 45, 46, 47, 48, 49, 50, 51, 52, 53, 54, 55, 56, 62, 63, 64, 65, 66, 67, 68, 69, 70, 71, 72, 73, 74, 75, 76, 77, 78, 79, 80, 81, 82, 83, 84, 85, 86, 87, 88, 89, 90, 91, 92, 93, 94] (by decide +kernel) (by decide +kernel)
set_option maxRecDepth 20000 in
theorem gX5_turnUp_X5_corrects : GoodIn wsX5_turnUp (wsV RX5 165 RX5 yX5_corrects wsX5_corrects) := goodIn_app (goodIn_of _ (by decide +kernel)) ggX5_turnUp_X5_corrects
theorem dX5_turnUp_0 : decode cX5_turnUp 0 = .ok (.aload_n 0, 1) := by decide +kernel
theorem dX5_turnUp_1 : decode cX5_turnUp 1 = .ok (.iconst 0, 1) := by decide +kernel
theorem dX5_turnUp_2 : decode cX5_turnUp 2 = .ok (.putfield 95, 3) := by decide +kernel
theorem dX5_turnUp_5 : decode cX5_turnUp 5 = .ok (.iload_n 1, 1) := by decide +kernel
theorem dX5_turnUp_6 : decode cX5_turnUp 6 = .ok (.invokestatic 139, 3) := by decide +kernel
theorem dX5_turnUp_9 : decode cX5_turnUp 9 = .ok (.ifCond .ne 9, 3) := by decide +kernel
theorem dX5_turnUp_12 : decode cX5_turnUp 12 = .ok (.aload_n 0, 1) := by decide +kernel
theorem dX5_turnUp_13 : decode cX5_turnUp 13 = .ok (.iconst 1, 1) := by decide +kernel
theorem dX5_turnUp_14 : decode cX5_turnUp 14 = .ok (.invokevirtual 132, 3) := by decide +kernel
theorem dX5_turnUp_17 : decode cX5_turnUp 17 = .ok (.ireturn, 1) := by decide +kernel
theorem dX5_turnUp_18 : decode cX5_turnUp 18 = .ok (.aload_n 0, 1) := by decide +kernel
theorem dX5_turnUp_19 : decode cX5_turnUp 19 = .ok (.iload_n 2, 1) := by decide +kernel
theorem dX5_turnUp_20 : decode cX5_turnUp 20 = .ok (.invokevirtual 168, 3) := by decide +kernel
theorem dX5_turnUp_23 : decode cX5_turnUp 23 = .ok (.ifCond .eq 14, 3) := by decide +kernel
theorem dX5_turnUp_26 : decode cX5_turnUp 26 = .ok (.iload_n 3, 1) := by decide +kernel
theorem dX5_turnUp_27 : decode cX5_turnUp 27 = .ok (.iconst 0, 1) := by decide +kernel
theorem dX5_turnUp_28 : decode cX5_turnUp 28 = .ok (.sipush 30000, 3) := by decide +kernel
theorem dX5_turnUp_31 : decode cX5_turnUp 31 = .ok (.invokestatic 99, 3) := by decide +kernel
theorem dX5_turnUp_34 : decode cX5_turnUp 34 = .ok (.ifCond .ne 9, 3) := by decide +kernel
theorem dX5_turnUp_37 : decode cX5_turnUp 37 = .ok (.aload_n 0, 1) := by decide +kernel
theorem dX5_turnUp_38 : decode cX5_turnUp 38 = .ok (.iconst 2, 1) := by decide +kernel
theorem dX5_turnUp_39 : decode cX5_turnUp 39 = .ok (.invokevirtual 132, 3) := by decide +kernel
theorem dX5_turnUp_42 : decode cX5_turnUp 42 = .ok (.ireturn, 1) := by decide +kernel
theorem dX5_turnUp_43 : decode cX5_turnUp 43 = .ok (.aload_n 0, 1) := by decide +kernel
theorem dX5_turnUp_44 : decode cX5_turnUp 44 = .ok (.getfield 29, 3) := by decide +kernel
theorem dX5_turnUp_47 : decode cX5_turnUp 47 = .ok (.iload_n 1, 1) := by decide +kernel
theorem dX5_turnUp_48 : decode cX5_turnUp 48 = .ok (.iload_n 2, 1) := by decide +kernel
theorem dX5_turnUp_49 : decode cX5_turnUp 49 = .ok (.invokestatic 123, 3) := by decide +kernel
theorem dX5_turnUp_52 : decode cX5_turnUp 52 = .ok (.iaload, 1) := by decide +kernel
theorem dX5_turnUp_53 : decode cX5_turnUp 53 = .ok (.iconst (-1), 1) := by decide +kernel
theorem dX5_turnUp_54 : decode cX5_turnUp 54 = .ok (.if_icmp .eq 9, 3) := by decide +kernel
theorem dX5_turnUp_57 : decode cX5_turnUp 57 = .ok (.aload_n 0, 1) := by decide +kernel
theorem dX5_turnUp_58 : decode cX5_turnUp 58 = .ok (.iconst 3, 1) := by decide +kernel
theorem dX5_turnUp_59 : decode cX5_turnUp 59 = .ok (.invokevirtual 132, 3) := by decide +kernel
theorem dX5_turnUp_62 : decode cX5_turnUp 62 = .ok (.ireturn, 1) := by decide +kernel
theorem dX5_turnUp_63 : decode cX5_turnUp 63 = .ok (.aload_n 0, 1) := by decide +kernel
theorem dX5_turnUp_64 : decode cX5_turnUp 64 = .ok (.invokevirtual 162, 3) := by decide +kernel
theorem dX5_turnUp_67 : decode cX5_turnUp 67 = .ok (.aload_n 0, 1) := by decide +kernel
theorem dX5_turnUp_68 : decode cX5_turnUp 68 = .ok (.getfield 29, 3) := by decide +kernel
theorem dX5_turnUp_71 : decode cX5_turnUp 71 = .ok (.iload_n 1, 1) := by decide +kernel
theorem dX5_turnUp_72 : decode cX5_turnUp 72 = .ok (.iload_n 2, 1) := by decide +kernel
theorem dX5_turnUp_73 : decode cX5_turnUp 73 = .ok (.invokestatic 123, 3) := by decide +kernel
theorem dX5_turnUp_76 : decode cX5_turnUp 76 = .ok (.iload_n 3, 1) := by decide +kernel
theorem dX5_turnUp_77 : decode cX5_turnUp 77 = .ok (.iastore, 1) := by decide +kernel
theorem dX5_turnUp_78 : decode cX5_turnUp 78 = .ok (.aload_n 0, 1) := by decide +kernel
theorem dX5_turnUp_79 : decode cX5_turnUp 79 = .ok (.invokevirtual 165, 3) := by decide +kernel
theorem dX5_turnUp_82 : decode cX5_turnUp 82 = .ok (.ireturn, 1) := by decide +kernel
theorem dX5_isFree_0 : decode cX5_isFree 0 = .ok (.iconst 1, 1) := by decide +kernel
theorem dX5_isFree_1 : decode cX5_isFree 1 = .ok (.istore 4, 2) := by decide +kernel
theorem dX5_isFree_3 : decode cX5_isFree 3 = .ok (.iconst 0, 1) := by decide +kernel
theorem dX5_isFree_4 : decode cX5_isFree 4 = .ok (.istore 5, 2) := by decide +kernel
theorem dX5_isFree_6 : decode cX5_isFree 6 = .ok (.iload 5, 2) := by decide +kernel
theorem dX5_isFree_8 : decode cX5_isFree 8 = .ok (.aload_n 0, 1) := by decide +kernel
theorem dX5_isFree_9 : decode cX5_isFree 9 = .ok (.getfield 106, 3) := by decide +kernel
theorem dX5_isFree_12 : decode cX5_isFree 12 = .ok (.if_icmp .ge 54, 3) := by decide +kernel
theorem dX5_isFree_15 : decode cX5_isFree 15 = .ok (.iload 4, 2) := by decide +kernel
theorem dX5_isFree_17 : decode cX5_isFree 17 = .ok (.ifCond .eq 40, 3) := by decide +kernel
theorem dX5_isFree_20 : decode cX5_isFree 20 = .ok (.aload_n 0, 1) := by decide +kernel
theorem dX5_isFree_21 : decode cX5_isFree 21 = .ok (.getfield 47, 3) := by decide +kernel
theorem dX5_isFree_24 : decode cX5_isFree 24 = .ok (.iload 5, 2) := by decide +kernel
theorem dX5_isFree_26 : decode cX5_isFree 26 = .ok (.iaload, 1) := by decide +kernel
theorem dX5_isFree_27 : decode cX5_isFree 27 = .ok (.iload_n 1, 1) := by decide +kernel
theorem dX5_isFree_28 : decode cX5_isFree 28 = .ok (.if_icmp .ne 25, 3) := by decide +kernel
theorem dX5_isFree_31 : decode cX5_isFree 31 = .ok (.aload_n 0, 1) := by decide +kernel
theorem dX5_isFree_32 : decode cX5_isFree 32 = .ok (.getfield 59, 3) := by decide +kernel
theorem dX5_isFree_35 : decode cX5_isFree 35 = .ok (.iload 5, 2) := by decide +kernel
theorem dX5_isFree_37 : decode cX5_isFree 37 = .ok (.iaload, 1) := by decide +kernel
theorem dX5_isFree_38 : decode cX5_isFree 38 = .ok (.iload_n 3, 1) := by decide +kernel
theorem dX5_isFree_39 : decode cX5_isFree 39 = .ok (.if_icmp .ge 14, 3) := by decide +kernel
theorem dX5_isFree_42 : decode cX5_isFree 42 = .ok (.aload_n 0, 1) := by decide +kernel
theorem dX5_isFree_43 : decode cX5_isFree 43 = .ok (.getfield 62, 3) := by decide +kernel
theorem dX5_isFree_46 : decode cX5_isFree 46 = .ok (.iload 5, 2) := by decide +kernel
theorem dX5_isFree_48 : decode cX5_isFree 48 = .ok (.iaload, 1) := by decide +kernel
theorem dX5_isFree_49 : decode cX5_isFree 49 = .ok (.iload_n 2, 1) := by decide +kernel
theorem dX5_isFree_50 : decode cX5_isFree 50 = .ok (.if_icmp .gt 7, 3) := by decide +kernel
theorem dX5_isFree_53 : decode cX5_isFree 53 = .ok (.iconst 1, 1) := by decide +kernel
theorem dX5_isFree_54 : decode cX5_isFree 54 = .ok (.goto 4, 3) := by decide +kernel
theorem dX5_isFree_57 : decode cX5_isFree 57 = .ok (.iconst 0, 1) := by decide +kernel
theorem dX5_isFree_58 : decode cX5_isFree 58 = .ok (.istore 4, 2) := by decide +kernel
theorem dX5_isFree_60 : decode cX5_isFree 60 = .ok (.iinc 5 1, 3) := by decide +kernel
theorem dX5_isFree_63 : decode cX5_isFree 63 = .ok (.goto (-57), 3) := by decide +kernel
theorem dX5_isFree_66 : decode cX5_isFree 66 = .ok (.iload 4, 2) := by decide +kernel
theorem dX5_isFree_68 : decode cX5_isFree 68 = .ok (.ireturn, 1) := by decide +kernel
set_option maxRecDepth 20000 in
theorem ggX5_lease_X5_in : GoodIn wsX5_lease wsX5_in := goodIn_r _ [13] (by decide +kernel) (by decide +kernel)
set_option maxRecDepth 20000 in
theorem gX5_lease_X5_in : GoodIn wsX5_lease (va_wsS RX5 99 yX5_in wsX5_in) := goodIn_app (goodIn_of _ (by decide +kernel)) ggX5_lease_X5_in
set_option maxRecDepth 20000 in
theorem ggX5_lease_X5_fails : GoodIn wsX5_lease wsX5_fails := goodIn_r _ [17, 1, 22, 23, 24, 25, 26, 27, 28, 29, 30, 31, 32, 33, 34, 35, 36, 37, 38, 39, 40, 41, 42, 43, 44, 45, 46, 47, 48, 49, 50, 51, 52, 53, 54] (by decide +kernel) (by decide +kernel)
set_option maxRecDepth 20000 in
theorem gX5_lease_X5_fails : GoodIn wsX5_lease (wsV RX5 132 RX5 yX5_fails wsX5_fails) := goodIn_app (goodIn_of _ (by decide +kernel)) ggX5_lease_X5_fails
set_option maxRecDepth 20000 in
theorem ggX5_lease_X5_isFree : GoodIn wsX5_lease wsX5_isFree := goodIn_r _ [21, 2, 4, 8, 9, 22, 23, 24, 25, 26, 27, 28, 29, 30, 31, 32, 33, 34, 35, 36, 37, 38, 39, 40, 41, 42, 43, 44, 45, 46, 47, 48, 49, 50, 51, 52, 53, 54] (by decide +kernel) (by decide +kernel)
set_option maxRecDepth 20000 in
theorem gX5_lease_X5_isFree : GoodIn wsX5_lease (wsV RX5 171 RX5 yX5_isFree wsX5_isFree) := goodIn_app (goodIn_of _ (by decide +kernel)) ggX5_lease_X5_isFree
theorem dX5_lease_0 : decode cX5_lease 0 = .ok (.aload_n 0, 1) := by decide +kernel
theorem dX5_lease_1 : decode cX5_lease 1 = .ok (.iconst 0, 1) := by decide +kernel
theorem dX5_lease_2 : decode cX5_lease 2 = .ok (.putfield 95, 3) := by decide +kernel
theorem dX5_lease_5 : decode cX5_lease 5 = .ok (.iload_n 1, 1) := by decide +kernel
theorem dX5_lease_6 : decode cX5_lease 6 = .ok (.iconst 0, 1) := by decide +kernel
theorem dX5_lease_7 : decode cX5_lease 7 = .ok (.bipush 35, 2) := by decide +kernel
theorem dX5_lease_9 : decode cX5_lease 9 = .ok (.invokestatic 99, 3) := by decide +kernel
theorem dX5_lease_12 : decode cX5_lease 12 = .ok (.ifCond .eq 12, 3) := by decide +kernel
theorem dX5_lease_15 : decode cX5_lease 15 = .ok (.iload_n 2, 1) := by decide +kernel
theorem dX5_lease_16 : decode cX5_lease 16 = .ok (.iconst 0, 1) := by decide +kernel
theorem dX5_lease_17 : decode cX5_lease 17 = .ok (.iconst 5, 1) := by decide +kernel
theorem dX5_lease_18 : decode cX5_lease 18 = .ok (.invokestatic 99, 3) := by decide +kernel
theorem dX5_lease_21 : decode cX5_lease 21 = .ok (.ifCond .ne 9, 3) := by decide +kernel
theorem dX5_lease_24 : decode cX5_lease 24 = .ok (.aload_n 0, 1) := by decide +kernel
theorem dX5_lease_25 : decode cX5_lease 25 = .ok (.iconst 1, 1) := by decide +kernel
theorem dX5_lease_26 : decode cX5_lease 26 = .ok (.invokevirtual 132, 3) := by decide +kernel
theorem dX5_lease_29 : decode cX5_lease 29 = .ok (.ireturn, 1) := by decide +kernel
theorem dX5_lease_30 : decode cX5_lease 30 = .ok (.iload_n 3, 1) := by decide +kernel
theorem dX5_lease_31 : decode cX5_lease 31 = .ok (.iconst 0, 1) := by decide +kernel
theorem dX5_lease_32 : decode cX5_lease 32 = .ok (.bipush 50, 2) := by decide +kernel
theorem dX5_lease_34 : decode cX5_lease 34 = .ok (.invokestatic 99, 3) := by decide +kernel
theorem dX5_lease_37 : decode cX5_lease 37 = .ok (.ifCond .eq 25, 3) := by decide +kernel
theorem dX5_lease_40 : decode cX5_lease 40 = .ok (.iload 4, 2) := by decide +kernel
theorem dX5_lease_42 : decode cX5_lease 42 = .ok (.iconst 0, 1) := by decide +kernel
theorem dX5_lease_43 : decode cX5_lease 43 = .ok (.bipush 50, 2) := by decide +kernel
theorem dX5_lease_45 : decode cX5_lease 45 = .ok (.invokestatic 99, 3) := by decide +kernel
theorem dX5_lease_48 : decode cX5_lease 48 = .ok (.ifCond .eq 14, 3) := by decide +kernel
theorem dX5_lease_51 : decode cX5_lease 51 = .ok (.iload 5, 2) := by decide +kernel
theorem dX5_lease_53 : decode cX5_lease 53 = .ok (.iconst 1, 1) := by decide +kernel
theorem dX5_lease_54 : decode cX5_lease 54 = .ok (.bipush 100, 2) := by decide +kernel
theorem dX5_lease_56 : decode cX5_lease 56 = .ok (.invokestatic 99, 3) := by decide +kernel
theorem dX5_lease_59 : decode cX5_lease 59 = .ok (.ifCond .ne 9, 3) := by decide +kernel
theorem dX5_lease_62 : decode cX5_lease 62 = .ok (.aload_n 0, 1) := by decide +kernel
theorem dX5_lease_63 : decode cX5_lease 63 = .ok (.iconst 2, 1) := by decide +kernel
theorem dX5_lease_64 : decode cX5_lease 64 = .ok (.invokevirtual 132, 3) := by decide +kernel
theorem dX5_lease_67 : decode cX5_lease 67 = .ok (.ireturn, 1) := by decide +kernel
theorem dX5_lease_68 : decode cX5_lease 68 = .ok (.aload_n 0, 1) := by decide +kernel
theorem dX5_lease_69 : decode cX5_lease 69 = .ok (.getfield 106, 3) := by decide +kernel
theorem dX5_lease_72 : decode cX5_lease 72 = .ok (.bipush 30, 2) := by decide +kernel
theorem dX5_lease_74 : decode cX5_lease 74 = .ok (.if_icmp .eq 22, 3) := by decide +kernel
theorem dX5_lease_77 : decode cX5_lease 77 = .ok (.aload_n 0, 1) := by decide +kernel
theorem dX5_lease_78 : decode cX5_lease 78 = .ok (.iload_n 1, 1) := by decide +kernel
theorem dX5_lease_79 : decode cX5_lease 79 = .ok (.aload_n 0, 1) := by decide +kernel
theorem dX5_lease_80 : decode cX5_lease 80 = .ok (.getfield 103, 3) := by decide +kernel
theorem dX5_lease_83 : decode cX5_lease 83 = .ok (.aload_n 0, 1) := by decide +kernel
theorem dX5_lease_84 : decode cX5_lease 84 = .ok (.getfield 103, 3) := by decide +kernel
theorem dX5_lease_87 : decode cX5_lease 87 = .ok (.iload 5, 2) := by decide +kernel
theorem dX5_lease_89 : decode cX5_lease 89 = .ok (.iadd, 1) := by decide +kernel
theorem dX5_lease_90 : decode cX5_lease 90 = .ok (.invokevirtual 171, 3) := by decide +kernel
theorem dX5_lease_93 : decode cX5_lease 93 = .ok (.ifCond .ne 9, 3) := by decide +kernel
theorem dX5_lease_96 : decode cX5_lease 96 = .ok (.aload_n 0, 1) := by decide +kernel
theorem dX5_lease_97 : decode cX5_lease 97 = .ok (.iconst 3, 1) := by decide +kernel
theorem dX5_lease_98 : decode cX5_lease 98 = .ok (.invokevirtual 132, 3) := by decide +kernel
theorem dX5_lease_101 : decode cX5_lease 101 = .ok (.ireturn, 1) := by decide +kernel
theorem dX5_lease_102 : decode cX5_lease 102 = .ok (.aload_n 0, 1) := by decide +kernel
theorem dX5_lease_103 : decode cX5_lease 103 = .ok (.getfield 47, 3) := by decide +kernel
theorem dX5_lease_106 : decode cX5_lease 106 = .ok (.aload_n 0, 1) := by decide +kernel
theorem dX5_lease_107 : decode cX5_lease 107 = .ok (.getfield 106, 3) := by decide +kernel
theorem dX5_lease_110 : decode cX5_lease 110 = .ok (.iload_n 1, 1) := by decide +kernel
theorem dX5_lease_111 : decode cX5_lease 111 = .ok (.iastore, 1) := by decide +kernel
theorem dX5_lease_112 : decode cX5_lease 112 = .ok (.aload_n 0, 1) := by decide +kernel
theorem dX5_lease_113 : decode cX5_lease 113 = .ok (.getfield 50, 3) := by decide +kernel
theorem dX5_lease_116 : decode cX5_lease 116 = .ok (.aload_n 0, 1) := by decide +kernel
theorem dX5_lease_117 : decode cX5_lease 117 = .ok (.getfield 106, 3) := by decide +kernel
theorem dX5_lease_120 : decode cX5_lease 120 = .ok (.iload_n 2, 1) := by decide +kernel
theorem dX5_lease_121 : decode cX5_lease 121 = .ok (.iastore, 1) := by decide +kernel
theorem dX5_lease_122 : decode cX5_lease 122 = .ok (.aload_n 0, 1) := by decide +kernel
theorem dX5_lease_123 : decode cX5_lease 123 = .ok (.getfield 53, 3) := by decide +kernel
theorem dX5_lease_126 : decode cX5_lease 126 = .ok (.aload_n 0, 1) := by decide +kernel
theorem dX5_lease_127 : decode cX5_lease 127 = .ok (.getfield 106, 3) := by decide +kernel
theorem dX5_lease_130 : decode cX5_lease 130 = .ok (.iload_n 3, 1) := by decide +kernel
theorem dX5_lease_131 : decode cX5_lease 131 = .ok (.iastore, 1) := by decide +kernel
theorem dX5_lease_132 : decode cX5_lease 132 = .ok (.aload_n 0, 1) := by decide +kernel
theorem dX5_lease_133 : decode cX5_lease 133 = .ok (.getfield 56, 3) := by decide +kernel
theorem dX5_lease_136 : decode cX5_lease 136 = .ok (.aload_n 0, 1) := by decide +kernel
theorem dX5_lease_137 : decode cX5_lease 137 = .ok (.getfield 106, 3) := by decide +kernel
theorem dX5_lease_140 : decode cX5_lease 140 = .ok (.iload 4, 2) := by decide +kernel
theorem dX5_lease_142 : decode cX5_lease 142 = .ok (.iastore, 1) := by decide +kernel
theorem dX5_lease_143 : decode cX5_lease 143 = .ok (.aload_n 0, 1) := by decide +kernel
theorem dX5_lease_144 : decode cX5_lease 144 = .ok (.getfield 59, 3) := by decide +kernel
theorem dX5_lease_147 : decode cX5_lease 147 = .ok (.aload_n 0, 1) := by decide +kernel
theorem dX5_lease_148 : decode cX5_lease 148 = .ok (.getfield 106, 3) := by decide +kernel
theorem dX5_lease_151 : decode cX5_lease 151 = .ok (.aload_n 0, 1) := by decide +kernel
theorem dX5_lease_152 : decode cX5_lease 152 = .ok (.getfield 103, 3) := by decide +kernel
theorem dX5_lease_155 : decode cX5_lease 155 = .ok (.iastore, 1) := by decide +kernel
theorem dX5_lease_156 : decode cX5_lease 156 = .ok (.aload_n 0, 1) := by decide +kernel
theorem dX5_lease_157 : decode cX5_lease 157 = .ok (.getfield 62, 3) := by decide +kernel
theorem dX5_lease_160 : decode cX5_lease 160 = .ok (.aload_n 0, 1) := by decide +kernel
theorem dX5_lease_161 : decode cX5_lease 161 = .ok (.getfield 106, 3) := by decide +kernel
theorem dX5_lease_164 : decode cX5_lease 164 = .ok (.aload_n 0, 1) := by decide +kernel
theorem dX5_lease_165 : decode cX5_lease 165 = .ok (.getfield 103, 3) := by decide +kernel
theorem dX5_lease_168 : decode cX5_lease 168 = .ok (.iload 5, 2) := by decide +kernel
theorem dX5_lease_170 : decode cX5_lease 170 = .ok (.iadd, 1) := by decide +kernel
theorem dX5_lease_171 : decode cX5_lease 171 = .ok (.iastore, 1) := by decide +kernel
theorem dX5_lease_172 : decode cX5_lease 172 = .ok (.aload_n 0, 1) := by decide +kernel
theorem dX5_lease_173 : decode cX5_lease 173 = .ok (.dup, 1) := by decide +kernel
theorem dX5_lease_174 : decode cX5_lease 174 = .ok (.getfield 106, 3) := by decide +kernel
theorem dX5_lease_177 : decode cX5_lease 177 = .ok (.iconst 1, 1) := by decide +kernel
theorem dX5_lease_178 : decode cX5_lease 178 = .ok (.iadd, 1) := by decide +kernel
theorem dX5_lease_179 : decode cX5_lease 179 = .ok (.putfield 106, 3) := by decide +kernel
theorem dX5_lease_182 : decode cX5_lease 182 = .ok (.aload_n 0, 1) := by decide +kernel
theorem dX5_lease_183 : decode cX5_lease 183 = .ok (.getfield 106, 3) := by decide +kernel
theorem dX5_lease_186 : decode cX5_lease 186 = .ok (.iconst 1, 1) := by decide +kernel
theorem dX5_lease_187 : decode cX5_lease 187 = .ok (.isub, 1) := by decide +kernel
theorem dX5_lease_188 : decode cX5_lease 188 = .ok (.ireturn, 1) := by decide +kernel
set_option maxRecDepth 20000 in
theorem ggX5_quit_X5_isLease : GoodIn wsX5_quit wsX5_isLease := goodIn_r _ [10, 11, 12, 13, 9, 14, 19, 20, 21, 22, 23, 24, 25, 26, 27, 28, 29, 30, 31, 32, 33, 34, 35, 36, 37, 38, 39, 40, 41, 42, 43, 44, 45, 46, 47, 48, 49, 50, 51] (by decide +kernel) (by decide +kernel)
set_option maxRecDepth 20000 in
theorem gX5_quit_X5_isLease : GoodIn wsX5_quit (wsV RX5 174 RX5 yX5_isLease wsX5_isLease) := goodIn_app (goodIn_of _ (by decide +kernel)) ggX5_quit_X5_isLease
set_option maxRecDepth 20000 in
theorem ggX5_quit_X5_fails : GoodIn wsX5_quit wsX5_fails := goodIn_r _ [18, 1, 19, 20, 21, 22, 23, 24, 25, 26, 27, 28, 29, 30, 31, 32, 33, 34, 35, 36, 37, 38, 39, 40, 41, 42, 43, 44, 45, 46, 47, 48, 49, 50, 51] (by decide +kernel) (by decide +kernel)
set_option maxRecDepth 20000 in
theorem gX5_quit_X5_fails : GoodIn wsX5_quit (wsV RX5 132 RX5 yX5_fails wsX5_fails) := goodIn_app (goodIn_of _ (by decide +kernel)) ggX5_quit_X5_fails
theorem dX5_quit_0 : decode cX5_quit 0 = .ok (.aload_n 0, 1) := by decide +kernel
theorem dX5_quit_1 : decode cX5_quit 1 = .ok (.iconst 0, 1) := by decide +kernel
theorem dX5_quit_2 : decode cX5_quit 2 = .ok (.putfield 95, 3) := by decide +kernel
theorem dX5_quit_5 : decode cX5_quit 5 = .ok (.aload_n 0, 1) := by decide +kernel
theorem dX5_quit_6 : decode cX5_quit 6 = .ok (.iload_n 1, 1) := by decide +kernel
theorem dX5_quit_7 : decode cX5_quit 7 = .ok (.invokevirtual 174, 3) := by decide +kernel
theorem dX5_quit_10 : decode cX5_quit 10 = .ok (.ifCond .ne 9, 3) := by decide +kernel
theorem dX5_quit_13 : decode cX5_quit 13 = .ok (.aload_n 0, 1) := by decide +kernel
theorem dX5_quit_14 : decode cX5_quit 14 = .ok (.iconst 1, 1) := by decide +kernel
theorem dX5_quit_15 : decode cX5_quit 15 = .ok (.invokevirtual 132, 3) := by decide +kernel
theorem dX5_quit_18 : decode cX5_quit 18 = .ok (.ireturn, 1) := by decide +kernel
theorem dX5_quit_19 : decode cX5_quit 19 = .ok (.aload_n 0, 1) := by decide +kernel
theorem dX5_quit_20 : decode cX5_quit 20 = .ok (.getfield 65, 3) := by decide +kernel
theorem dX5_quit_23 : decode cX5_quit 23 = .ok (.iload_n 1, 1) := by decide +kernel
theorem dX5_quit_24 : decode cX5_quit 24 = .ok (.baload, 1) := by decide +kernel
theorem dX5_quit_25 : decode cX5_quit 25 = .ok (.ifCond .ne 16, 3) := by decide +kernel
theorem dX5_quit_28 : decode cX5_quit 28 = .ok (.aload_n 0, 1) := by decide +kernel
theorem dX5_quit_29 : decode cX5_quit 29 = .ok (.getfield 62, 3) := by decide +kernel
theorem dX5_quit_32 : decode cX5_quit 32 = .ok (.iload_n 1, 1) := by decide +kernel
theorem dX5_quit_33 : decode cX5_quit 33 = .ok (.iaload, 1) := by decide +kernel
theorem dX5_quit_34 : decode cX5_quit 34 = .ok (.aload_n 0, 1) := by decide +kernel
theorem dX5_quit_35 : decode cX5_quit 35 = .ok (.getfield 103, 3) := by decide +kernel
theorem dX5_quit_38 : decode cX5_quit 38 = .ok (.if_icmp .gt 9, 3) := by decide +kernel
theorem dX5_quit_41 : decode cX5_quit 41 = .ok (.aload_n 0, 1) := by decide +kernel
theorem dX5_quit_42 : decode cX5_quit 42 = .ok (.iconst 2, 1) := by decide +kernel
theorem dX5_quit_43 : decode cX5_quit 43 = .ok (.invokevirtual 132, 3) := by decide +kernel
theorem dX5_quit_46 : decode cX5_quit 46 = .ok (.ireturn, 1) := by decide +kernel
theorem dX5_quit_47 : decode cX5_quit 47 = .ok (.aload_n 0, 1) := by decide +kernel
theorem dX5_quit_48 : decode cX5_quit 48 = .ok (.getfield 65, 3) := by decide +kernel
theorem dX5_quit_51 : decode cX5_quit 51 = .ok (.iload_n 1, 1) := by decide +kernel
theorem dX5_quit_52 : decode cX5_quit 52 = .ok (.iconst 1, 1) := by decide +kernel
theorem dX5_quit_53 : decode cX5_quit 53 = .ok (.bastore, 1) := by decide +kernel
theorem dX5_quit_54 : decode cX5_quit 54 = .ok (.aload_n 0, 1) := by decide +kernel
theorem dX5_quit_55 : decode cX5_quit 55 = .ok (.getfield 62, 3) := by decide +kernel
theorem dX5_quit_58 : decode cX5_quit 58 = .ok (.iload_n 1, 1) := by decide +kernel
theorem dX5_quit_59 : decode cX5_quit 59 = .ok (.aload_n 0, 1) := by decide +kernel
theorem dX5_quit_60 : decode cX5_quit 60 = .ok (.getfield 103, 3) := by decide +kernel
theorem dX5_quit_63 : decode cX5_quit 63 = .ok (.iastore, 1) := by decide +kernel
theorem dX5_quit_64 : decode cX5_quit 64 = .ok (.aload_n 0, 1) := by decide +kernel
theorem dX5_quit_65 : decode cX5_quit 65 = .ok (.getfield 103, 3) := by decide +kernel
theorem dX5_quit_68 : decode cX5_quit 68 = .ok (.aload_n 0, 1) := by decide +kernel
theorem dX5_quit_69 : decode cX5_quit 69 = .ok (.getfield 59, 3) := by decide +kernel
theorem dX5_quit_72 : decode cX5_quit 72 = .ok (.iload_n 1, 1) := by decide +kernel
theorem dX5_quit_73 : decode cX5_quit 73 = .ok (.iaload, 1) := by decide +kernel
theorem dX5_quit_74 : decode cX5_quit 74 = .ok (.isub, 1) := by decide +kernel
theorem dX5_quit_75 : decode cX5_quit 75 = .ok (.ireturn, 1) := by decide +kernel
set_option maxRecDepth 20000 in
theorem ggX5_owedBy_X5_rents : GoodIn wsX5_owedBy wsX5_rents := goodIn_r _ [8, 9, 10, 11, 12, 13, 14, 15, 16, 17, 7, 18, 19, 20, 21, 22, 23, 24, 25, 26, 27, 28, 29, 30, 31, 32, 33, 34, 35, 36, 37, 38, 39, 40, 41, 42, 43, 44, 45, 46, 47, 48, 49, 50, 51, 52, 53, 54, 55, 56, 57, 58, 59, 60, 61, 62, 63, 64, 65, 66, 67, 68, 69, 70, 71, 72, 73, 74, 75, 76, 77] (by decide +kernel) (by decide +kernel)
set_option maxRecDepth 20000 in
theorem gX5_owedBy_X5_rents : GoodIn wsX5_owedBy (wsV RX5 159 RX5 yX5_rents wsX5_rents) := goodIn_app (goodIn_of _ (by decide +kernel)) ggX5_owedBy_X5_rents
theorem dX5_owedBy_0 : decode cX5_owedBy 0 = .ok (.iconst 0, 1) := by decide +kernel
theorem dX5_owedBy_1 : decode cX5_owedBy 1 = .ok (.istore_n 2, 1) := by decide +kernel
theorem dX5_owedBy_2 : decode cX5_owedBy 2 = .ok (.iconst 0, 1) := by decide +kernel
theorem dX5_owedBy_3 : decode cX5_owedBy 3 = .ok (.istore_n 3, 1) := by decide +kernel
theorem dX5_owedBy_4 : decode cX5_owedBy 4 = .ok (.iload_n 3, 1) := by decide +kernel
theorem dX5_owedBy_5 : decode cX5_owedBy 5 = .ok (.aload_n 0, 1) := by decide +kernel
theorem dX5_owedBy_6 : decode cX5_owedBy 6 = .ok (.getfield 106, 3) := by decide +kernel
theorem dX5_owedBy_9 : decode cX5_owedBy 9 = .ok (.if_icmp .ge 31, 3) := by decide +kernel
theorem dX5_owedBy_12 : decode cX5_owedBy 12 = .ok (.iload_n 2, 1) := by decide +kernel
theorem dX5_owedBy_13 : decode cX5_owedBy 13 = .ok (.aload_n 0, 1) := by decide +kernel
theorem dX5_owedBy_14 : decode cX5_owedBy 14 = .ok (.getfield 50, 3) := by decide +kernel
theorem dX5_owedBy_17 : decode cX5_owedBy 17 = .ok (.iload_n 3, 1) := by decide +kernel
theorem dX5_owedBy_18 : decode cX5_owedBy 18 = .ok (.iaload, 1) := by decide +kernel
theorem dX5_owedBy_19 : decode cX5_owedBy 19 = .ok (.iload_n 1, 1) := by decide +kernel
theorem dX5_owedBy_20 : decode cX5_owedBy 20 = .ok (.if_icmp .ne 11, 3) := by decide +kernel
theorem dX5_owedBy_23 : decode cX5_owedBy 23 = .ok (.aload_n 0, 1) := by decide +kernel
theorem dX5_owedBy_24 : decode cX5_owedBy 24 = .ok (.iload_n 3, 1) := by decide +kernel
theorem dX5_owedBy_25 : decode cX5_owedBy 25 = .ok (.invokevirtual 159, 3) := by decide +kernel
theorem dX5_owedBy_28 : decode cX5_owedBy 28 = .ok (.goto 4, 3) := by decide +kernel
theorem dX5_owedBy_31 : decode cX5_owedBy 31 = .ok (.iconst 0, 1) := by decide +kernel
theorem dX5_owedBy_32 : decode cX5_owedBy 32 = .ok (.iadd, 1) := by decide +kernel
theorem dX5_owedBy_33 : decode cX5_owedBy 33 = .ok (.istore_n 2, 1) := by decide +kernel
theorem dX5_owedBy_34 : decode cX5_owedBy 34 = .ok (.iinc 3 1, 3) := by decide +kernel
theorem dX5_owedBy_37 : decode cX5_owedBy 37 = .ok (.goto (-33), 3) := by decide +kernel
theorem dX5_owedBy_40 : decode cX5_owedBy 40 = .ok (.iload_n 2, 1) := by decide +kernel
theorem dX5_owedBy_41 : decode cX5_owedBy 41 = .ok (.aload_n 0, 1) := by decide +kernel
theorem dX5_owedBy_42 : decode cX5_owedBy 42 = .ok (.getfield 74, 3) := by decide +kernel
theorem dX5_owedBy_45 : decode cX5_owedBy 45 = .ok (.iload_n 1, 1) := by decide +kernel
theorem dX5_owedBy_46 : decode cX5_owedBy 46 = .ok (.iaload, 1) := by decide +kernel
theorem dX5_owedBy_47 : decode cX5_owedBy 47 = .ok (.isub, 1) := by decide +kernel
theorem dX5_owedBy_48 : decode cX5_owedBy 48 = .ok (.ireturn, 1) := by decide +kernel
set_option maxRecDepth 20000 in
theorem ggX5_pay_X5_in : GoodIn wsX5_pay wsX5_in := goodIn_r _ [8] (by decide +kernel) (by decide +kernel)
set_option maxRecDepth 20000 in
theorem gX5_pay_X5_in : GoodIn wsX5_pay (va_wsS RX5 99 yX5_in wsX5_in) := goodIn_app (goodIn_of _ (by decide +kernel)) ggX5_pay_X5_in
set_option maxRecDepth 20000 in
theorem ggX5_pay_X5_fails : GoodIn wsX5_pay wsX5_fails := goodIn_r _ [12, 1, 56, 57, 58, 59, 60, 61, 62, 63, 64, 65, 66, 67, 68, 69, 70, 71, 72, 73, 74, 75, 76, 77, 78, 79, 80, 81, 82, 83, 84, 85, 86, 87, 88] (by decide +kernel) (by decide +kernel)
set_option maxRecDepth 20000 in
theorem gX5_pay_X5_fails : GoodIn wsX5_pay (wsV RX5 132 RX5 yX5_fails wsX5_fails) := goodIn_app (goodIn_of _ (by decide +kernel)) ggX5_pay_X5_fails
set_option maxRecDepth 20000 in
theorem ggX5_pay_X5_owedBy : GoodIn wsX5_pay wsX5_owedBy := goodIn_r _ [16, 17, 18, 3, 19, 20, 21, 7, 22, 23, 24, 25, 26, 27, 28, 29, 30, 31, 32, 33, 34, 35, 36, 37, 38, 39, 40, 5, 6, 8, 41, 42, 43, 44, 45, 46, 47, 48, 49, 50, 51, 52, 53, 54, 55, 56, 57, 58, 59, 60, 61, 62, 63, 64, 65, 66, 67, 68, 69, 70, 71, 72, 73, 74, 75, 76, 77, 78, 79, 80, 81, 82, 83, 84, 85, 86, 87, 88] (by decide +kernel) (by decide +kernel)
set_option maxRecDepth 20000 in
theorem gX5_pay_X5_owedBy : GoodIn wsX5_pay (wsV RX5 179 RX5 yX5_owedBy wsX5_owedBy) := goodIn_app (goodIn_of _ (by decide +kernel)) ggX5_pay_X5_owedBy
theorem dX5_pay_0 : decode cX5_pay 0 = .ok (.aload_n 0, 1) := by decide +kernel
theorem dX5_pay_1 : decode cX5_pay 1 = .ok (.iconst 0, 1) := by decide +kernel
theorem dX5_pay_2 : decode cX5_pay 2 = .ok (.putfield 95, 3) := by decide +kernel
theorem dX5_pay_5 : decode cX5_pay 5 = .ok (.iload_n 1, 1) := by decide +kernel
theorem dX5_pay_6 : decode cX5_pay 6 = .ok (.iconst 0, 1) := by decide +kernel
theorem dX5_pay_7 : decode cX5_pay 7 = .ok (.iconst 5, 1) := by decide +kernel
theorem dX5_pay_8 : decode cX5_pay 8 = .ok (.invokestatic 99, 3) := by decide +kernel
theorem dX5_pay_11 : decode cX5_pay 11 = .ok (.ifCond .ne 9, 3) := by decide +kernel
theorem dX5_pay_14 : decode cX5_pay 14 = .ok (.aload_n 0, 1) := by decide +kernel
theorem dX5_pay_15 : decode cX5_pay 15 = .ok (.iconst 1, 1) := by decide +kernel
theorem dX5_pay_16 : decode cX5_pay 16 = .ok (.invokevirtual 132, 3) := by decide +kernel
theorem dX5_pay_19 : decode cX5_pay 19 = .ok (.ireturn, 1) := by decide +kernel
theorem dX5_pay_20 : decode cX5_pay 20 = .ok (.iload_n 2, 1) := by decide +kernel
theorem dX5_pay_21 : decode cX5_pay 21 = .ok (.iconst 1, 1) := by decide +kernel
theorem dX5_pay_22 : decode cX5_pay 22 = .ok (.ldc 177, 2) := by decide +kernel
theorem dX5_pay_24 : decode cX5_pay 24 = .ok (.invokestatic 99, 3) := by decide +kernel
theorem dX5_pay_27 : decode cX5_pay 27 = .ok (.ifCond .ne 9, 3) := by decide +kernel
theorem dX5_pay_30 : decode cX5_pay 30 = .ok (.aload_n 0, 1) := by decide +kernel
theorem dX5_pay_31 : decode cX5_pay 31 = .ok (.iconst 2, 1) := by decide +kernel
theorem dX5_pay_32 : decode cX5_pay 32 = .ok (.invokevirtual 132, 3) := by decide +kernel
theorem dX5_pay_35 : decode cX5_pay 35 = .ok (.ireturn, 1) := by decide +kernel
theorem dX5_pay_36 : decode cX5_pay 36 = .ok (.aload_n 0, 1) := by decide +kernel
theorem dX5_pay_37 : decode cX5_pay 37 = .ok (.getfield 74, 3) := by decide +kernel
theorem dX5_pay_40 : decode cX5_pay 40 = .ok (.iload_n 1, 1) := by decide +kernel
theorem dX5_pay_41 : decode cX5_pay 41 = .ok (.iaload, 1) := by decide +kernel
theorem dX5_pay_42 : decode cX5_pay 42 = .ok (.iload_n 2, 1) := by decide +kernel
theorem dX5_pay_43 : decode cX5_pay 43 = .ok (.iadd, 1) := by decide +kernel
theorem dX5_pay_44 : decode cX5_pay 44 = .ok (.ldc 178, 2) := by decide +kernel
theorem dX5_pay_46 : decode cX5_pay 46 = .ok (.if_icmp .le 9, 3) := by decide +kernel
theorem dX5_pay_49 : decode cX5_pay 49 = .ok (.aload_n 0, 1) := by decide +kernel
theorem dX5_pay_50 : decode cX5_pay 50 = .ok (.iconst 3, 1) := by decide +kernel
theorem dX5_pay_51 : decode cX5_pay 51 = .ok (.invokevirtual 132, 3) := by decide +kernel
theorem dX5_pay_54 : decode cX5_pay 54 = .ok (.ireturn, 1) := by decide +kernel
theorem dX5_pay_55 : decode cX5_pay 55 = .ok (.aload_n 0, 1) := by decide +kernel
theorem dX5_pay_56 : decode cX5_pay 56 = .ok (.getfield 74, 3) := by decide +kernel
theorem dX5_pay_59 : decode cX5_pay 59 = .ok (.iload_n 1, 1) := by decide +kernel
theorem dX5_pay_60 : decode cX5_pay 60 = .ok (.dup2, 1) := by decide +kernel
theorem dX5_pay_61 : decode cX5_pay 61 = .ok (.iaload, 1) := by decide +kernel
theorem dX5_pay_62 : decode cX5_pay 62 = .ok (.iload_n 2, 1) := by decide +kernel
theorem dX5_pay_63 : decode cX5_pay 63 = .ok (.iadd, 1) := by decide +kernel
theorem dX5_pay_64 : decode cX5_pay 64 = .ok (.iastore, 1) := by decide +kernel
theorem dX5_pay_65 : decode cX5_pay 65 = .ok (.aload_n 0, 1) := by decide +kernel
theorem dX5_pay_66 : decode cX5_pay 66 = .ok (.iload_n 1, 1) := by decide +kernel
theorem dX5_pay_67 : decode cX5_pay 67 = .ok (.invokevirtual 179, 3) := by decide +kernel
theorem dX5_pay_70 : decode cX5_pay 70 = .ok (.ireturn, 1) := by decide +kernel
set_option maxRecDepth 20000 in
theorem ggX5_setSkill_X5_isBusker : GoodIn wsX5_setSkill wsX5_isBusker := goodIn_r _ [6, 7, 8, 5, 9] (by decide +kernel) (by decide +kernel)
set_option maxRecDepth 20000 in
theorem gX5_setSkill_X5_isBusker : GoodIn wsX5_setSkill (va_wsS RX5 182 yX5_isBusker wsX5_isBusker) := goodIn_app (goodIn_of _ (by decide +kernel)) ggX5_setSkill_X5_isBusker
set_option maxRecDepth 20000 in
theorem ggX5_setSkill_X5_fails : GoodIn wsX5_setSkill wsX5_fails := goodIn_r _ [13, 1, 14, 15, 16, 17, 18, 19, 20, 21, 22, 23, 24, 25, 26, 27, 28, 29, 30, 31, 32, 33, 34, 35, 36, 37, 38, 39, 40, 41, 42, 43, 44, 45, 46] (by decide +kernel) (by decide +kernel)
set_option maxRecDepth 20000 in
theorem gX5_setSkill_X5_fails : GoodIn wsX5_setSkill (wsV RX5 132 RX5 yX5_fails wsX5_fails) := goodIn_app (goodIn_of _ (by decide +kernel)) ggX5_setSkill_X5_fails
set_option maxRecDepth 20000 in
theorem ggX5_setSkill_X5_in : GoodIn wsX5_setSkill wsX5_in := goodIn_r _ [9] (by decide +kernel) (by decide +kernel)
set_option maxRecDepth 20000 in
theorem gX5_setSkill_X5_in : GoodIn wsX5_setSkill (va_wsS RX5 99 yX5_in wsX5_in) := goodIn_app (goodIn_of _ (by decide +kernel)) ggX5_setSkill_X5_in
theorem dX5_setSkill_0 : decode cX5_setSkill 0 = .ok (.aload_n 0, 1) := by decide +kernel
theorem dX5_setSkill_1 : decode cX5_setSkill 1 = .ok (.iconst 0, 1) := by decide +kernel
theorem dX5_setSkill_2 : decode cX5_setSkill 2 = .ok (.putfield 95, 3) := by decide +kernel
theorem dX5_setSkill_5 : decode cX5_setSkill 5 = .ok (.iload_n 1, 1) := by decide +kernel
theorem dX5_setSkill_6 : decode cX5_setSkill 6 = .ok (.invokestatic 182, 3) := by decide +kernel
theorem dX5_setSkill_9 : decode cX5_setSkill 9 = .ok (.ifCond .ne 9, 3) := by decide +kernel
theorem dX5_setSkill_12 : decode cX5_setSkill 12 = .ok (.aload_n 0, 1) := by decide +kernel
theorem dX5_setSkill_13 : decode cX5_setSkill 13 = .ok (.iconst 1, 1) := by decide +kernel
theorem dX5_setSkill_14 : decode cX5_setSkill 14 = .ok (.invokevirtual 132, 3) := by decide +kernel
theorem dX5_setSkill_17 : decode cX5_setSkill 17 = .ok (.ireturn, 1) := by decide +kernel
theorem dX5_setSkill_18 : decode cX5_setSkill 18 = .ok (.iload_n 2, 1) := by decide +kernel
theorem dX5_setSkill_19 : decode cX5_setSkill 19 = .ok (.iconst 0, 1) := by decide +kernel
theorem dX5_setSkill_20 : decode cX5_setSkill 20 = .ok (.bipush 50, 2) := by decide +kernel
theorem dX5_setSkill_22 : decode cX5_setSkill 22 = .ok (.invokestatic 99, 3) := by decide +kernel
theorem dX5_setSkill_25 : decode cX5_setSkill 25 = .ok (.ifCond .ne 9, 3) := by decide +kernel
theorem dX5_setSkill_28 : decode cX5_setSkill 28 = .ok (.aload_n 0, 1) := by decide +kernel
theorem dX5_setSkill_29 : decode cX5_setSkill 29 = .ok (.iconst 2, 1) := by decide +kernel
theorem dX5_setSkill_30 : decode cX5_setSkill 30 = .ok (.invokevirtual 132, 3) := by decide +kernel
theorem dX5_setSkill_33 : decode cX5_setSkill 33 = .ok (.ireturn, 1) := by decide +kernel
theorem dX5_setSkill_34 : decode cX5_setSkill 34 = .ok (.aload_n 0, 1) := by decide +kernel
theorem dX5_setSkill_35 : decode cX5_setSkill 35 = .ok (.getfield 77, 3) := by decide +kernel
theorem dX5_setSkill_38 : decode cX5_setSkill 38 = .ok (.iload_n 1, 1) := by decide +kernel
theorem dX5_setSkill_39 : decode cX5_setSkill 39 = .ok (.iaload, 1) := by decide +kernel
theorem dX5_setSkill_40 : decode cX5_setSkill 40 = .ok (.istore_n 3, 1) := by decide +kernel
theorem dX5_setSkill_41 : decode cX5_setSkill 41 = .ok (.aload_n 0, 1) := by decide +kernel
theorem dX5_setSkill_42 : decode cX5_setSkill 42 = .ok (.getfield 77, 3) := by decide +kernel
theorem dX5_setSkill_45 : decode cX5_setSkill 45 = .ok (.iload_n 1, 1) := by decide +kernel
theorem dX5_setSkill_46 : decode cX5_setSkill 46 = .ok (.iload_n 2, 1) := by decide +kernel
theorem dX5_setSkill_47 : decode cX5_setSkill 47 = .ok (.iastore, 1) := by decide +kernel
theorem dX5_setSkill_48 : decode cX5_setSkill 48 = .ok (.iload_n 3, 1) := by decide +kernel
theorem dX5_setSkill_49 : decode cX5_setSkill 49 = .ok (.ireturn, 1) := by decide +kernel
set_option maxRecDepth 20000 in
theorem ggX5_ask_X5_isBusker : GoodIn wsX5_ask wsX5_isBusker := goodIn_r _ [6, 7, 8, 5, 9] (by decide +kernel) (by decide +kernel)
set_option maxRecDepth 20000 in
theorem gX5_ask_X5_isBusker : GoodIn wsX5_ask (va_wsS RX5 182 yX5_isBusker wsX5_isBusker) := goodIn_app (goodIn_of _ (by decide +kernel)) ggX5_ask_X5_isBusker
set_option maxRecDepth 20000 in
theorem ggX5_ask_X5_isSection : GoodIn wsX5_ask wsX5_isSection := goodIn_r _ [12, 7, 8, 5, 9] (by decide +kernel) (by decide +kernel)
set_option maxRecDepth 20000 in
theorem gX5_ask_X5_isSection : GoodIn wsX5_ask (va_wsS RX5 139 yX5_isSection wsX5_isSection) := goodIn_app (goodIn_of _ (by decide +kernel)) ggX5_ask_X5_isSection
set_option maxRecDepth 20000 in
theorem ggX5_ask_X5_fails : GoodIn wsX5_ask wsX5_fails := goodIn_r _ [16, 1, 17, 18, 19, 20, 21, 22, 23, 24, 25, 26, 27, 28, 29, 30, 31, 32, 33, 34, 35, 36, 37, 38, 39, 40, 41, 42, 43, 44, 45, 46, 47, 48, 49] (by decide +kernel) (by decide +kernel)
set_option maxRecDepth 20000 in
theorem gX5_ask_X5_fails : GoodIn wsX5_ask (wsV RX5 132 RX5 yX5_fails wsX5_fails) := goodIn_app (goodIn_of _ (by decide +kernel)) ggX5_ask_X5_fails
theorem dX5_ask_0 : decode cX5_ask 0 = .ok (.aload_n 0, 1) := by decide +kernel
theorem dX5_ask_1 : decode cX5_ask 1 = .ok (.iconst 0, 1) := by decide +kernel
theorem dX5_ask_2 : decode cX5_ask 2 = .ok (.putfield 95, 3) := by decide +kernel
theorem dX5_ask_5 : decode cX5_ask 5 = .ok (.iload_n 1, 1) := by decide +kernel
theorem dX5_ask_6 : decode cX5_ask 6 = .ok (.invokestatic 182, 3) := by decide +kernel
theorem dX5_ask_9 : decode cX5_ask 9 = .ok (.ifCond .eq 10, 3) := by decide +kernel
theorem dX5_ask_12 : decode cX5_ask 12 = .ok (.iload_n 2, 1) := by decide +kernel
theorem dX5_ask_13 : decode cX5_ask 13 = .ok (.invokestatic 139, 3) := by decide +kernel
theorem dX5_ask_16 : decode cX5_ask 16 = .ok (.ifCond .ne 9, 3) := by decide +kernel
theorem dX5_ask_19 : decode cX5_ask 19 = .ok (.aload_n 0, 1) := by decide +kernel
theorem dX5_ask_20 : decode cX5_ask 20 = .ok (.iconst 1, 1) := by decide +kernel
theorem dX5_ask_21 : decode cX5_ask 21 = .ok (.invokevirtual 132, 3) := by decide +kernel
theorem dX5_ask_24 : decode cX5_ask 24 = .ok (.ireturn, 1) := by decide +kernel
theorem dX5_ask_25 : decode cX5_ask 25 = .ok (.aload_n 0, 1) := by decide +kernel
theorem dX5_ask_26 : decode cX5_ask 26 = .ok (.getfield 86, 3) := by decide +kernel
theorem dX5_ask_29 : decode cX5_ask 29 = .ok (.iload_n 1, 1) := by decide +kernel
theorem dX5_ask_30 : decode cX5_ask 30 = .ok (.iaload, 1) := by decide +kernel
theorem dX5_ask_31 : decode cX5_ask 31 = .ok (.iload_n 2, 1) := by decide +kernel
theorem dX5_ask_32 : decode cX5_ask 32 = .ok (.ishr, 1) := by decide +kernel
theorem dX5_ask_33 : decode cX5_ask 33 = .ok (.iconst 1, 1) := by decide +kernel
theorem dX5_ask_34 : decode cX5_ask 34 = .ok (.iand, 1) := by decide +kernel
theorem dX5_ask_35 : decode cX5_ask 35 = .ok (.iconst 1, 1) := by decide +kernel
theorem dX5_ask_36 : decode cX5_ask 36 = .ok (.if_icmp .ne 9, 3) := by decide +kernel
theorem dX5_ask_39 : decode cX5_ask 39 = .ok (.aload_n 0, 1) := by decide +kernel
theorem dX5_ask_40 : decode cX5_ask 40 = .ok (.iconst 2, 1) := by decide +kernel
theorem dX5_ask_41 : decode cX5_ask 41 = .ok (.invokevirtual 132, 3) := by decide +kernel
theorem dX5_ask_44 : decode cX5_ask 44 = .ok (.ireturn, 1) := by decide +kernel
theorem dX5_ask_45 : decode cX5_ask 45 = .ok (.aload_n 0, 1) := by decide +kernel
theorem dX5_ask_46 : decode cX5_ask 46 = .ok (.getfield 86, 3) := by decide +kernel
theorem dX5_ask_49 : decode cX5_ask 49 = .ok (.iload_n 1, 1) := by decide +kernel
theorem dX5_ask_50 : decode cX5_ask 50 = .ok (.dup2, 1) := by decide +kernel
theorem dX5_ask_51 : decode cX5_ask 51 = .ok (.iaload, 1) := by decide +kernel
theorem dX5_ask_52 : decode cX5_ask 52 = .ok (.iconst 1, 1) := by decide +kernel
theorem dX5_ask_53 : decode cX5_ask 53 = .ok (.iload_n 2, 1) := by decide +kernel
theorem dX5_ask_54 : decode cX5_ask 54 = .ok (.ishl, 1) := by decide +kernel
theorem dX5_ask_55 : decode cX5_ask 55 = .ok (.ior, 1) := by decide +kernel
theorem dX5_ask_56 : decode cX5_ask 56 = .ok (.iastore, 1) := by decide +kernel
theorem dX5_ask_57 : decode cX5_ask 57 = .ok (.iconst 0, 1) := by decide +kernel
theorem dX5_ask_58 : decode cX5_ask 58 = .ok (.istore_n 3, 1) := by decide +kernel
theorem dX5_ask_59 : decode cX5_ask 59 = .ok (.iconst 0, 1) := by decide +kernel
theorem dX5_ask_60 : decode cX5_ask 60 = .ok (.istore 4, 2) := by decide +kernel
theorem dX5_ask_62 : decode cX5_ask 62 = .ok (.iload 4, 2) := by decide +kernel
theorem dX5_ask_64 : decode cX5_ask 64 = .ok (.bipush 12, 2) := by decide +kernel
theorem dX5_ask_66 : decode cX5_ask 66 = .ok (.if_icmp .ge 23, 3) := by decide +kernel
theorem dX5_ask_69 : decode cX5_ask 69 = .ok (.iload_n 3, 1) := by decide +kernel
theorem dX5_ask_70 : decode cX5_ask 70 = .ok (.aload_n 0, 1) := by decide +kernel
theorem dX5_ask_71 : decode cX5_ask 71 = .ok (.getfield 86, 3) := by decide +kernel
theorem dX5_ask_74 : decode cX5_ask 74 = .ok (.iload_n 1, 1) := by decide +kernel
theorem dX5_ask_75 : decode cX5_ask 75 = .ok (.iaload, 1) := by decide +kernel
theorem dX5_ask_76 : decode cX5_ask 76 = .ok (.iload 4, 2) := by decide +kernel
theorem dX5_ask_78 : decode cX5_ask 78 = .ok (.ishr, 1) := by decide +kernel
theorem dX5_ask_79 : decode cX5_ask 79 = .ok (.iconst 1, 1) := by decide +kernel
theorem dX5_ask_80 : decode cX5_ask 80 = .ok (.iand, 1) := by decide +kernel
theorem dX5_ask_81 : decode cX5_ask 81 = .ok (.iadd, 1) := by decide +kernel
theorem dX5_ask_82 : decode cX5_ask 82 = .ok (.istore_n 3, 1) := by decide +kernel
theorem dX5_ask_83 : decode cX5_ask 83 = .ok (.iinc 4 1, 3) := by decide +kernel
theorem dX5_ask_86 : decode cX5_ask 86 = .ok (.goto (-24), 3) := by decide +kernel
theorem dX5_ask_89 : decode cX5_ask 89 = .ok (.iload_n 3, 1) := by decide +kernel
theorem dX5_ask_90 : decode cX5_ask 90 = .ok (.ireturn, 1) := by decide +kernel
set_option maxRecDepth 20000 in
theorem ggX5_lot_X5_in : GoodIn wsX5_lot wsX5_in := goodIn_r _ [7] (by decide +kernel) (by decide +kernel)
set_option maxRecDepth 20000 in
theorem gX5_lot_X5_in : GoodIn wsX5_lot (va_wsS RX5 99 yX5_in wsX5_in) := goodIn_app (goodIn_of _ (by decide +kernel)) ggX5_lot_X5_in
set_option maxRecDepth 20000 in
theorem ggX5_lot_X5_fails : GoodIn wsX5_lot wsX5_fails := goodIn_r _ [11, 1, 12, 13, 14, 15, 16, 17, 18, 19, 20, 21, 22, 23, 24, 25, 26, 27, 28, 29, 30, 31, 32, 33, 34, 35, 36, 37, 38, 39, 40, 41, 42, 43, 44] (by decide +kernel) (by decide +kernel)
set_option maxRecDepth 20000 in
theorem gX5_lot_X5_fails : GoodIn wsX5_lot (wsV RX5 132 RX5 yX5_fails wsX5_fails) := goodIn_app (goodIn_of _ (by decide +kernel)) ggX5_lot_X5_fails
theorem dX5_lot_0 : decode cX5_lot 0 = .ok (.aload_n 0, 1) := by decide +kernel
theorem dX5_lot_1 : decode cX5_lot 1 = .ok (.iconst 0, 1) := by decide +kernel
theorem dX5_lot_2 : decode cX5_lot 2 = .ok (.putfield 95, 3) := by decide +kernel
theorem dX5_lot_5 : decode cX5_lot 5 = .ok (.iload_n 1, 1) := by decide +kernel
theorem dX5_lot_6 : decode cX5_lot 6 = .ok (.iconst 0, 1) := by decide +kernel
theorem dX5_lot_7 : decode cX5_lot 7 = .ok (.sipush 1000, 3) := by decide +kernel
theorem dX5_lot_10 : decode cX5_lot 10 = .ok (.invokestatic 99, 3) := by decide +kernel
theorem dX5_lot_13 : decode cX5_lot 13 = .ok (.ifCond .ne 9, 3) := by decide +kernel
theorem dX5_lot_16 : decode cX5_lot 16 = .ok (.aload_n 0, 1) := by decide +kernel
theorem dX5_lot_17 : decode cX5_lot 17 = .ok (.iconst 1, 1) := by decide +kernel
theorem dX5_lot_18 : decode cX5_lot 18 = .ok (.invokevirtual 132, 3) := by decide +kernel
theorem dX5_lot_21 : decode cX5_lot 21 = .ok (.ireturn, 1) := by decide +kernel
theorem dX5_lot_22 : decode cX5_lot 22 = .ok (.aload_n 0, 1) := by decide +kernel
theorem dX5_lot_23 : decode cX5_lot 23 = .ok (.getfield 109, 3) := by decide +kernel
theorem dX5_lot_26 : decode cX5_lot 26 = .ok (.bipush 50, 2) := by decide +kernel
theorem dX5_lot_28 : decode cX5_lot 28 = .ok (.if_icmp .ne 9, 3) := by decide +kernel
theorem dX5_lot_31 : decode cX5_lot 31 = .ok (.aload_n 0, 1) := by decide +kernel
theorem dX5_lot_32 : decode cX5_lot 32 = .ok (.iconst 2, 1) := by decide +kernel
theorem dX5_lot_33 : decode cX5_lot 33 = .ok (.invokevirtual 132, 3) := by decide +kernel
theorem dX5_lot_36 : decode cX5_lot 36 = .ok (.ireturn, 1) := by decide +kernel
theorem dX5_lot_37 : decode cX5_lot 37 = .ok (.aload_n 0, 1) := by decide +kernel
theorem dX5_lot_38 : decode cX5_lot 38 = .ok (.getfield 92, 3) := by decide +kernel
theorem dX5_lot_41 : decode cX5_lot 41 = .ok (.aload_n 0, 1) := by decide +kernel
theorem dX5_lot_42 : decode cX5_lot 42 = .ok (.getfield 109, 3) := by decide +kernel
theorem dX5_lot_45 : decode cX5_lot 45 = .ok (.iload_n 1, 1) := by decide +kernel
theorem dX5_lot_46 : decode cX5_lot 46 = .ok (.iastore, 1) := by decide +kernel
theorem dX5_lot_47 : decode cX5_lot 47 = .ok (.aload_n 0, 1) := by decide +kernel
theorem dX5_lot_48 : decode cX5_lot 48 = .ok (.dup, 1) := by decide +kernel
theorem dX5_lot_49 : decode cX5_lot 49 = .ok (.getfield 109, 3) := by decide +kernel
theorem dX5_lot_52 : decode cX5_lot 52 = .ok (.iconst 1, 1) := by decide +kernel
theorem dX5_lot_53 : decode cX5_lot 53 = .ok (.iadd, 1) := by decide +kernel
theorem dX5_lot_54 : decode cX5_lot 54 = .ok (.putfield 109, 3) := by decide +kernel
theorem dX5_lot_57 : decode cX5_lot 57 = .ok (.aload_n 0, 1) := by decide +kernel
theorem dX5_lot_58 : decode cX5_lot 58 = .ok (.getfield 109, 3) := by decide +kernel
theorem dX5_lot_61 : decode cX5_lot 61 = .ok (.ireturn, 1) := by decide +kernel
theorem dX5_hour_0 : decode cX5_hour 0 = .ok (.aload_n 0, 1) := by decide +kernel
theorem dX5_hour_1 : decode cX5_hour 1 = .ok (.iconst 0, 1) := by decide +kernel
theorem dX5_hour_2 : decode cX5_hour 2 = .ok (.putfield 95, 3) := by decide +kernel
theorem dX5_hour_5 : decode cX5_hour 5 = .ok (.aload_n 0, 1) := by decide +kernel
theorem dX5_hour_6 : decode cX5_hour 6 = .ok (.getfield 103, 3) := by decide +kernel
theorem dX5_hour_9 : decode cX5_hour 9 = .ok (.ireturn, 1) := by decide +kernel
set_option maxRecDepth 20000 in
theorem ggX5_isAsked_X5_isSection : GoodIn wsX5_isAsked wsX5_isSection := goodIn_r _ [5, 6, 7, 4, 8] (by decide +kernel) (by decide +kernel)
set_option maxRecDepth 20000 in
theorem gX5_isAsked_X5_isSection : GoodIn wsX5_isAsked (va_wsS RX5 139 yX5_isSection wsX5_isSection) := goodIn_app (goodIn_of _ (by decide +kernel)) ggX5_isAsked_X5_isSection
set_option maxRecDepth 20000 in
theorem ggX5_isAsked_X5_isOver : GoodIn wsX5_isAsked wsX5_isOver := goodIn_r _ [12, 13, 6, 7, 4, 8, 14, 15, 16, 17, 18, 19, 20, 21, 22, 23, 24, 25, 26, 27, 28, 29, 30, 31, 32, 33, 34, 35, 36, 37, 38, 39, 40, 41, 42, 43, 44, 45, 46] (by decide +kernel) (by decide +kernel)
set_option maxRecDepth 20000 in
theorem gX5_isAsked_X5_isOver : GoodIn wsX5_isAsked (wsV RX5 168 RX5 yX5_isOver wsX5_isOver) := goodIn_app (goodIn_of _ (by decide +kernel)) ggX5_isAsked_X5_isOver
theorem dX5_isAsked_0 : decode cX5_isAsked 0 = .ok (.aload_n 0, 1) := by decide +kernel
theorem dX5_isAsked_1 : decode cX5_isAsked 1 = .ok (.iload_n 1, 1) := by decide +kernel
theorem dX5_isAsked_2 : decode cX5_isAsked 2 = .ok (.invokestatic 139, 3) := by decide +kernel
theorem dX5_isAsked_5 : decode cX5_isAsked 5 = .ok (.ifCond .ne 7, 3) := by decide +kernel
theorem dX5_isAsked_8 : decode cX5_isAsked 8 = .ok (.iconst 1, 1) := by decide +kernel
theorem dX5_isAsked_9 : decode cX5_isAsked 9 = .ok (.goto 16, 3) := by decide +kernel
theorem dX5_isAsked_12 : decode cX5_isAsked 12 = .ok (.aload_n 0, 1) := by decide +kernel
theorem dX5_isAsked_13 : decode cX5_isAsked 13 = .ok (.iload_n 2, 1) := by decide +kernel
theorem dX5_isAsked_14 : decode cX5_isAsked 14 = .ok (.invokevirtual 168, 3) := by decide +kernel
theorem dX5_isAsked_17 : decode cX5_isAsked 17 = .ok (.ifCond .eq 7, 3) := by decide +kernel
theorem dX5_isAsked_20 : decode cX5_isAsked 20 = .ok (.iconst 0, 1) := by decide +kernel
theorem dX5_isAsked_21 : decode cX5_isAsked 21 = .ok (.goto 4, 3) := by decide +kernel
theorem dX5_isAsked_24 : decode cX5_isAsked 24 = .ok (.iconst 2, 1) := by decide +kernel
theorem dX5_isAsked_25 : decode cX5_isAsked 25 = .ok (.putfield 95, 3) := by decide +kernel
theorem dX5_isAsked_28 : decode cX5_isAsked 28 = .ok (.aload_n 0, 1) := by decide +kernel
theorem dX5_isAsked_29 : decode cX5_isAsked 29 = .ok (.getfield 95, 3) := by decide +kernel
theorem dX5_isAsked_32 : decode cX5_isAsked 32 = .ok (.ifCond .ne 7, 3) := by decide +kernel
theorem dX5_isAsked_35 : decode cX5_isAsked 35 = .ok (.iconst 1, 1) := by decide +kernel
theorem dX5_isAsked_36 : decode cX5_isAsked 36 = .ok (.goto 4, 3) := by decide +kernel
theorem dX5_isAsked_39 : decode cX5_isAsked 39 = .ok (.iconst 0, 1) := by decide +kernel
theorem dX5_isAsked_40 : decode cX5_isAsked 40 = .ok (.ireturn, 1) := by decide +kernel
set_option maxRecDepth 20000 in
theorem ggX5_steps_X5_isAsked : GoodIn wsX5_steps wsX5_isAsked := goodIn_r _ [6, 7, 8, 9, 5, 10, 11, 12, 13, 14, 15, 16, 17, 18, 22, 23, 24, 25, 26, 27, 28, 29, 30, 31, 32, 33, 34, 35, 36, 37, 38, 39, 40, 41, 42, 43, 44, 45, 46, 47, 48, 49, 50, 51, 52, 53, 54] (by decide +kernel) (by decide +kernel)
set_option maxRecDepth 20000 in
theorem gX5_steps_X5_isAsked : GoodIn wsX5_steps (wsV RX5 185 RX5 yX5_isAsked wsX5_isAsked) := goodIn_app (goodIn_of _ (by decide +kernel)) ggX5_steps_X5_isAsked
set_option maxRecDepth 20000 in
theorem ggX5_steps_X5_cell : GoodIn wsX5_steps wsX5_cell := goodIn_r _ [21] (by decide +kernel) (by decide +kernel)
set_option maxRecDepth 20000 in
theorem gX5_steps_X5_cell : GoodIn wsX5_steps (va_wsS RX5 123 yX5_cell wsX5_cell) := goodIn_app (goodIn_of _ (by decide +kernel)) ggX5_steps_X5_cell
theorem dX5_steps_0 : decode cX5_steps 0 = .ok (.aload_n 0, 1) := by decide +kernel
theorem dX5_steps_1 : decode cX5_steps 1 = .ok (.iload_n 1, 1) := by decide +kernel
theorem dX5_steps_2 : decode cX5_steps 2 = .ok (.iload_n 2, 1) := by decide +kernel
theorem dX5_steps_3 : decode cX5_steps 3 = .ok (.invokevirtual 185, 3) := by decide +kernel
theorem dX5_steps_6 : decode cX5_steps 6 = .ok (.ifCond .eq 16, 3) := by decide +kernel
theorem dX5_steps_9 : decode cX5_steps 9 = .ok (.aload_n 0, 1) := by decide +kernel
theorem dX5_steps_10 : decode cX5_steps 10 = .ok (.getfield 23, 3) := by decide +kernel
theorem dX5_steps_13 : decode cX5_steps 13 = .ok (.iload_n 1, 1) := by decide +kernel
theorem dX5_steps_14 : decode cX5_steps 14 = .ok (.iload_n 2, 1) := by decide +kernel
theorem dX5_steps_15 : decode cX5_steps 15 = .ok (.invokestatic 123, 3) := by decide +kernel
theorem dX5_steps_18 : decode cX5_steps 18 = .ok (.iaload, 1) := by decide +kernel
theorem dX5_steps_19 : decode cX5_steps 19 = .ok (.goto 4, 3) := by decide +kernel
theorem dX5_steps_22 : decode cX5_steps 22 = .ok (.iconst 0, 1) := by decide +kernel
theorem dX5_steps_23 : decode cX5_steps 23 = .ok (.ireturn, 1) := by decide +kernel
set_option maxRecDepth 20000 in
theorem ggX5_crowd_X5_isAsked : GoodIn wsX5_crowd wsX5_isAsked := goodIn_r _ [6, 7, 8, 9, 5, 10, 11, 12, 13, 14, 15, 16, 17, 18, 22, 23, 24, 25, 26, 27, 28, 29, 30, 31, 32, 33, 34, 35, 36, 37, 38, 39, 40, 41, 42, 43, 44, 45, 46, 47, 48, 49, 50, 51, 52, 53, 54] (by decide +kernel) (by decide +kernel)
set_option maxRecDepth 20000 in
theorem gX5_crowd_X5_isAsked : GoodIn wsX5_crowd (wsV RX5 185 RX5 yX5_isAsked wsX5_isAsked) := goodIn_app (goodIn_of _ (by decide +kernel)) ggX5_crowd_X5_isAsked
set_option maxRecDepth 20000 in
theorem ggX5_crowd_X5_cell : GoodIn wsX5_crowd wsX5_cell := goodIn_r _ [21] (by decide +kernel) (by decide +kernel)
set_option maxRecDepth 20000 in
theorem gX5_crowd_X5_cell : GoodIn wsX5_crowd (va_wsS RX5 123 yX5_cell wsX5_cell) := goodIn_app (goodIn_of _ (by decide +kernel)) ggX5_crowd_X5_cell
theorem dX5_crowd_0 : decode cX5_crowd 0 = .ok (.aload_n 0, 1) := by decide +kernel
theorem dX5_crowd_1 : decode cX5_crowd 1 = .ok (.iload_n 1, 1) := by decide +kernel
theorem dX5_crowd_2 : decode cX5_crowd 2 = .ok (.iload_n 2, 1) := by decide +kernel
theorem dX5_crowd_3 : decode cX5_crowd 3 = .ok (.invokevirtual 185, 3) := by decide +kernel
theorem dX5_crowd_6 : decode cX5_crowd 6 = .ok (.ifCond .eq 16, 3) := by decide +kernel
theorem dX5_crowd_9 : decode cX5_crowd 9 = .ok (.aload_n 0, 1) := by decide +kernel
theorem dX5_crowd_10 : decode cX5_crowd 10 = .ok (.getfield 26, 3) := by decide +kernel
theorem dX5_crowd_13 : decode cX5_crowd 13 = .ok (.iload_n 1, 1) := by decide +kernel
theorem dX5_crowd_14 : decode cX5_crowd 14 = .ok (.iload_n 2, 1) := by decide +kernel
theorem dX5_crowd_15 : decode cX5_crowd 15 = .ok (.invokestatic 123, 3) := by decide +kernel
theorem dX5_crowd_18 : decode cX5_crowd 18 = .ok (.iaload, 1) := by decide +kernel
theorem dX5_crowd_19 : decode cX5_crowd 19 = .ok (.goto 4, 3) := by decide +kernel
theorem dX5_crowd_22 : decode cX5_crowd 22 = .ok (.iconst 0, 1) := by decide +kernel
theorem dX5_crowd_23 : decode cX5_crowd 23 = .ok (.ireturn, 1) := by decide +kernel
set_option maxRecDepth 20000 in
theorem ggX5_through_X5_isOver : GoodIn wsX5_through wsX5_isOver := goodIn_r _ [7, 8, 9, 10, 6, 11, 16, 17, 18, 19, 20, 21, 22, 23, 24, 25, 26, 27, 28, 29, 30, 31, 32, 33, 34, 35, 36, 37, 38, 39, 40, 41, 42, 43, 44, 45, 46, 47, 48] (by decide +kernel) (by decide +kernel)
set_option maxRecDepth 20000 in
theorem gX5_through_X5_isOver : GoodIn wsX5_through (wsV RX5 168 RX5 yX5_isOver wsX5_isOver) := goodIn_app (goodIn_of _ (by decide +kernel)) ggX5_through_X5_isOver
set_option maxRecDepth 20000 in
theorem ggX5_through_X5_fails : GoodIn wsX5_through wsX5_fails := goodIn_r _ [15, 1, 16, 17, 18, 19, 20, 21, 22, 23, 24, 25, 26, 27, 28, 29, 30, 31, 32, 33, 34, 35, 36, 37, 38, 39, 40, 41, 42, 43, 44, 45, 46, 47, 48] (by decide +kernel) (by decide +kernel)
set_option maxRecDepth 20000 in
theorem gX5_through_X5_fails : GoodIn wsX5_through (wsV RX5 132 RX5 yX5_fails wsX5_fails) := goodIn_app (goodIn_of _ (by decide +kernel)) ggX5_through_X5_fails
theorem dX5_through_0 : decode cX5_through 0 = .ok (.aload_n 0, 1) := by decide +kernel
theorem dX5_through_1 : decode cX5_through 1 = .ok (.iconst 0, 1) := by decide +kernel
theorem dX5_through_2 : decode cX5_through 2 = .ok (.putfield 95, 3) := by decide +kernel
theorem dX5_through_5 : decode cX5_through 5 = .ok (.aload_n 0, 1) := by decide +kernel
theorem dX5_through_6 : decode cX5_through 6 = .ok (.iload_n 1, 1) := by decide +kernel
theorem dX5_through_7 : decode cX5_through 7 = .ok (.invokevirtual 168, 3) := by decide +kernel
theorem dX5_through_10 : decode cX5_through 10 = .ok (.ifCond .eq 12, 3) := by decide +kernel
theorem dX5_through_13 : decode cX5_through 13 = .ok (.aload_n 0, 1) := by decide +kernel
theorem dX5_through_14 : decode cX5_through 14 = .ok (.getfield 35, 3) := by decide +kernel
theorem dX5_through_17 : decode cX5_through 17 = .ok (.iload_n 1, 1) := by decide +kernel
theorem dX5_through_18 : decode cX5_through 18 = .ok (.iaload, 1) := by decide +kernel
theorem dX5_through_19 : decode cX5_through 19 = .ok (.goto 8, 3) := by decide +kernel
theorem dX5_through_22 : decode cX5_through 22 = .ok (.aload_n 0, 1) := by decide +kernel
theorem dX5_through_23 : decode cX5_through 23 = .ok (.iconst 1, 1) := by decide +kernel
theorem dX5_through_24 : decode cX5_through 24 = .ok (.invokevirtual 132, 3) := by decide +kernel
theorem dX5_through_27 : decode cX5_through 27 = .ok (.ireturn, 1) := by decide +kernel
set_option maxRecDepth 20000 in
theorem ggX5_reading_X5_isAsked : GoodIn wsX5_reading wsX5_isAsked := goodIn_r _ [6, 7, 8, 9, 5, 10, 11, 12, 13, 14, 15, 16, 17, 18, 22, 23, 24, 25, 26, 27, 28, 29, 30, 31, 32, 33, 34, 35, 36, 37, 38, 39, 40, 41, 42, 43, 44, 45, 46, 47, 48, 49, 50, 51, 52, 53, 54] (by decide +kernel) (by decide +kernel)
set_option maxRecDepth 20000 in
theorem gX5_reading_X5_isAsked : GoodIn wsX5_reading (wsV RX5 185 RX5 yX5_isAsked wsX5_isAsked) := goodIn_app (goodIn_of _ (by decide +kernel)) ggX5_reading_X5_isAsked
set_option maxRecDepth 20000 in
theorem ggX5_reading_X5_cell : GoodIn wsX5_reading wsX5_cell := goodIn_r _ [21] (by decide +kernel) (by decide +kernel)
set_option maxRecDepth 20000 in
theorem gX5_reading_X5_cell : GoodIn wsX5_reading (va_wsS RX5 123 yX5_cell wsX5_cell) := goodIn_app (goodIn_of _ (by decide +kernel)) ggX5_reading_X5_cell
theorem dX5_reading_0 : decode cX5_reading 0 = .ok (.aload_n 0, 1) := by decide +kernel
theorem dX5_reading_1 : decode cX5_reading 1 = .ok (.iload_n 1, 1) := by decide +kernel
theorem dX5_reading_2 : decode cX5_reading 2 = .ok (.iload_n 2, 1) := by decide +kernel
theorem dX5_reading_3 : decode cX5_reading 3 = .ok (.invokevirtual 185, 3) := by decide +kernel
theorem dX5_reading_6 : decode cX5_reading 6 = .ok (.ifCond .eq 16, 3) := by decide +kernel
theorem dX5_reading_9 : decode cX5_reading 9 = .ok (.aload_n 0, 1) := by decide +kernel
theorem dX5_reading_10 : decode cX5_reading 10 = .ok (.getfield 29, 3) := by decide +kernel
theorem dX5_reading_13 : decode cX5_reading 13 = .ok (.iload_n 1, 1) := by decide +kernel
theorem dX5_reading_14 : decode cX5_reading 14 = .ok (.iload_n 2, 1) := by decide +kernel
theorem dX5_reading_15 : decode cX5_reading 15 = .ok (.invokestatic 123, 3) := by decide +kernel
theorem dX5_reading_18 : decode cX5_reading 18 = .ok (.iaload, 1) := by decide +kernel
theorem dX5_reading_19 : decode cX5_reading 19 = .ok (.goto 4, 3) := by decide +kernel
theorem dX5_reading_22 : decode cX5_reading 22 = .ok (.iconst 0, 1) := by decide +kernel
theorem dX5_reading_23 : decode cX5_reading 23 = .ok (.ireturn, 1) := by decide +kernel
set_option maxRecDepth 20000 in
theorem ggX5_taken_X5_isSection : GoodIn wsX5_taken wsX5_isSection := goodIn_r _ [5, 6, 7, 4, 8] (by decide +kernel) (by decide +kernel)
set_option maxRecDepth 20000 in
theorem gX5_taken_X5_isSection : GoodIn wsX5_taken (va_wsS RX5 139 yX5_isSection wsX5_isSection) := goodIn_app (goodIn_of _ (by decide +kernel)) ggX5_taken_X5_isSection
set_option maxRecDepth 20000 in
theorem ggX5_taken_X5_fails : GoodIn wsX5_taken wsX5_fails := goodIn_r _ [12, 1, 21, 22, 23, 24, 25, 26, 27, 28, 29, 30, 31, 32, 33, 34, 35, 36, 37, 38, 39, 40, 41, 42, 43, 44, 45, 46, 47, 48, 49, 50, 51, 52, 53] (by decide +kernel) (by decide +kernel)
set_option maxRecDepth 20000 in
theorem gX5_taken_X5_fails : GoodIn wsX5_taken (wsV RX5 132 RX5 yX5_fails wsX5_fails) := goodIn_app (goodIn_of _ (by decide +kernel)) ggX5_taken_X5_fails
set_option maxRecDepth 20000 in
theorem ggX5_taken_X5_in : GoodIn wsX5_taken wsX5_in := goodIn_r _ [8] (by decide +kernel) (by decide +kernel)
set_option maxRecDepth 20000 in
theorem gX5_taken_X5_in : GoodIn wsX5_taken (va_wsS RX5 99 yX5_in wsX5_in) := goodIn_app (goodIn_of _ (by decide +kernel)) ggX5_taken_X5_in
set_option maxRecDepth 20000 in
theorem ggX5_taken_X5_takenFor : GoodIn wsX5_taken wsX5_takenFor := goodIn_r _ [16, 17, 18, 19, 20, 21, 22, 23, 24, 25, 26, 27, 28, 29, 30, 31, 32, 33, 34, 35, 36, 37, 38, 39, 40, 41, 42, 43, 44, 45, 46, 47, 48, 49, 50, 51, 52, 53] (by decide +kernel) (by decide +kernel)
set_option maxRecDepth 20000 in
theorem gX5_taken_X5_takenFor : GoodIn wsX5_taken (wsV RX5 146 RX5 yX5_takenFor wsX5_takenFor) := goodIn_app (goodIn_of _ (by decide +kernel)) ggX5_taken_X5_takenFor
theorem dX5_taken_0 : decode cX5_taken 0 = .ok (.aload_n 0, 1) := by decide +kernel
theorem dX5_taken_1 : decode cX5_taken 1 = .ok (.iconst 0, 1) := by decide +kernel
theorem dX5_taken_2 : decode cX5_taken 2 = .ok (.putfield 95, 3) := by decide +kernel
theorem dX5_taken_5 : decode cX5_taken 5 = .ok (.iload_n 1, 1) := by decide +kernel
theorem dX5_taken_6 : decode cX5_taken 6 = .ok (.invokestatic 139, 3) := by decide +kernel
theorem dX5_taken_9 : decode cX5_taken 9 = .ok (.ifCond .ne 9, 3) := by decide +kernel
theorem dX5_taken_12 : decode cX5_taken 12 = .ok (.aload_n 0, 1) := by decide +kernel
theorem dX5_taken_13 : decode cX5_taken 13 = .ok (.iconst 1, 1) := by decide +kernel
theorem dX5_taken_14 : decode cX5_taken 14 = .ok (.invokevirtual 132, 3) := by decide +kernel
theorem dX5_taken_17 : decode cX5_taken 17 = .ok (.ireturn, 1) := by decide +kernel
theorem dX5_taken_18 : decode cX5_taken 18 = .ok (.iload_n 2, 1) := by decide +kernel
theorem dX5_taken_19 : decode cX5_taken 19 = .ok (.iconst 0, 1) := by decide +kernel
theorem dX5_taken_20 : decode cX5_taken 20 = .ok (.sipush 199, 3) := by decide +kernel
theorem dX5_taken_23 : decode cX5_taken 23 = .ok (.invokestatic 99, 3) := by decide +kernel
theorem dX5_taken_26 : decode cX5_taken 26 = .ok (.ifCond .eq 12, 3) := by decide +kernel
theorem dX5_taken_29 : decode cX5_taken 29 = .ok (.aload_n 0, 1) := by decide +kernel
theorem dX5_taken_30 : decode cX5_taken 30 = .ok (.iload_n 1, 1) := by decide +kernel
theorem dX5_taken_31 : decode cX5_taken 31 = .ok (.iload_n 2, 1) := by decide +kernel
theorem dX5_taken_32 : decode cX5_taken 32 = .ok (.invokevirtual 146, 3) := by decide +kernel
theorem dX5_taken_35 : decode cX5_taken 35 = .ok (.goto 8, 3) := by decide +kernel
theorem dX5_taken_38 : decode cX5_taken 38 = .ok (.aload_n 0, 1) := by decide +kernel
theorem dX5_taken_39 : decode cX5_taken 39 = .ok (.iconst 2, 1) := by decide +kernel
theorem dX5_taken_40 : decode cX5_taken 40 = .ok (.invokevirtual 132, 3) := by decide +kernel
theorem dX5_taken_43 : decode cX5_taken 43 = .ok (.ireturn, 1) := by decide +kernel
set_option maxRecDepth 20000 in
theorem ggX5_count_X5_isAsked : GoodIn wsX5_count wsX5_isAsked := goodIn_r _ [5, 6, 7, 8, 4, 9, 10, 11, 12, 13, 14, 15, 16, 17, 42, 43, 44, 45, 46, 47, 48, 49, 50, 51, 52, 53, 54, 55, 56, 57, 58, 59, 60, 61, 62, 63, 64, 65, 66, 67, 68, 69, 70, 71, 72, 73, 74] (by decide +kernel) (by decide +kernel)
set_option maxRecDepth 20000 in
theorem gX5_count_X5_isAsked : GoodIn wsX5_count (wsV RX5 185 RX5 yX5_isAsked wsX5_isAsked) := goodIn_app (goodIn_of _ (by decide +kernel)) ggX5_count_X5_isAsked
set_option maxRecDepth 20000 in
theorem ggX5_count_X5_countOf : GoodIn wsX5_count wsX5_countOf := goodIn_r _ [21, 22, 23, 24, 4, 25, 26, 7, 8, 9, 10, 11, 12, 27, 28, 29, 30, 31, 32, 33, 34, 35, 36, 37, 38, 39, 40, 41, 42, 43, 44, 45, 46, 47, 48, 49, 50, 51, 52, 53, 54, 55, 56, 57, 58, 59, 60, 61, 62, 63, 64, 65, 66, 67, 68, 69, 70, 71, 72, 73, 74] (by decide +kernel) (by decide +kernel)
set_option maxRecDepth 20000 in
theorem gX5_count_X5_countOf : GoodIn wsX5_count (wsV RX5 156 RX5 yX5_countOf wsX5_countOf) := goodIn_app (goodIn_of _ (by decide +kernel)) ggX5_count_X5_countOf
theorem dX5_count_0 : decode cX5_count 0 = .ok (.aload_n 0, 1) := by decide +kernel
theorem dX5_count_1 : decode cX5_count 1 = .ok (.iload_n 1, 1) := by decide +kernel
theorem dX5_count_2 : decode cX5_count 2 = .ok (.iload_n 2, 1) := by decide +kernel
theorem dX5_count_3 : decode cX5_count 3 = .ok (.invokevirtual 185, 3) := by decide +kernel
theorem dX5_count_6 : decode cX5_count 6 = .ok (.ifCond .eq 12, 3) := by decide +kernel
theorem dX5_count_9 : decode cX5_count 9 = .ok (.aload_n 0, 1) := by decide +kernel
theorem dX5_count_10 : decode cX5_count 10 = .ok (.iload_n 1, 1) := by decide +kernel
theorem dX5_count_11 : decode cX5_count 11 = .ok (.iload_n 2, 1) := by decide +kernel
theorem dX5_count_12 : decode cX5_count 12 = .ok (.invokevirtual 156, 3) := by decide +kernel
theorem dX5_count_15 : decode cX5_count 15 = .ok (.goto 4, 3) := by decide +kernel
theorem dX5_count_18 : decode cX5_count 18 = .ok (.iconst 0, 1) := by decide +kernel
theorem dX5_count_19 : decode cX5_count 19 = .ok (.ireturn, 1) := by decide +kernel
set_option maxRecDepth 20000 in
theorem ggX5_countAnew_X5_isAsked : GoodIn wsX5_countAnew wsX5_isAsked := goodIn_r _ [5, 6, 7, 8, 4, 9, 10, 11, 12, 13, 14, 15, 16, 17, 42, 43, 44, 45, 46, 47, 48, 49, 50, 51, 52, 53, 54, 55, 56, 57, 58, 59, 60, 61, 62, 63, 64, 65, 66, 67, 68, 69, 70, 71, 72, 73, 74] (by decide +kernel) (by decide +kernel)
set_option maxRecDepth 20000 in
theorem gX5_countAnew_X5_isAsked : GoodIn wsX5_countAnew (wsV RX5 185 RX5 yX5_isAsked wsX5_isAsked) := goodIn_app (goodIn_of _ (by decide +kernel)) ggX5_countAnew_X5_isAsked
set_option maxRecDepth 20000 in
theorem ggX5_countAnew_X5_countOf : GoodIn wsX5_countAnew wsX5_countOf := goodIn_r _ [21, 22, 23, 24, 4, 25, 26, 7, 8, 9, 10, 11, 12, 27, 28, 29, 30, 31, 32, 33, 34, 35, 36, 37, 38, 39, 40, 41, 42, 43, 44, 45, 46, 47, 48, 49, 50, 51, 52, 53, 54, 55, 56, 57, 58, 59, 60, 61, 62, 63, 64, 65, 66, 67, 68, 69, 70, 71, 72, 73, 74] (by decide +kernel) (by decide +kernel)
set_option maxRecDepth 20000 in
theorem gX5_countAnew_X5_countOf : GoodIn wsX5_countAnew (wsV RX5 156 RX5 yX5_countOf wsX5_countOf) := goodIn_app (goodIn_of _ (by decide +kernel)) ggX5_countAnew_X5_countOf
theorem dX5_countAnew_0 : decode cX5_countAnew 0 = .ok (.aload_n 0, 1) := by decide +kernel
theorem dX5_countAnew_1 : decode cX5_countAnew 1 = .ok (.iload_n 1, 1) := by decide +kernel
theorem dX5_countAnew_2 : decode cX5_countAnew 2 = .ok (.iload_n 2, 1) := by decide +kernel
theorem dX5_countAnew_3 : decode cX5_countAnew 3 = .ok (.invokevirtual 185, 3) := by decide +kernel
theorem dX5_countAnew_6 : decode cX5_countAnew 6 = .ok (.ifCond .eq 12, 3) := by decide +kernel
theorem dX5_countAnew_9 : decode cX5_countAnew 9 = .ok (.aload_n 0, 1) := by decide +kernel
theorem dX5_countAnew_10 : decode cX5_countAnew 10 = .ok (.iload_n 1, 1) := by decide +kernel
theorem dX5_countAnew_11 : decode cX5_countAnew 11 = .ok (.iload_n 2, 1) := by decide +kernel
theorem dX5_countAnew_12 : decode cX5_countAnew 12 = .ok (.invokevirtual 156, 3) := by decide +kernel
theorem dX5_countAnew_15 : decode cX5_countAnew 15 = .ok (.goto 4, 3) := by decide +kernel
theorem dX5_countAnew_18 : decode cX5_countAnew 18 = .ok (.iconst 0, 1) := by decide +kernel
theorem dX5_countAnew_19 : decode cX5_countAnew 19 = .ok (.ireturn, 1) := by decide +kernel
set_option maxRecDepth 20000 in
theorem ggX5_missed_X5_isOver : GoodIn wsX5_missed wsX5_isOver := goodIn_r _ [7, 8, 9, 10, 6, 11, 43, 44, 45, 46, 47, 48, 49, 50, 51, 52, 53, 54, 55, 56, 57, 58, 59, 60, 61, 62, 63, 64, 65, 66, 67, 68, 69, 70, 71, 72, 73, 74, 75] (by decide +kernel) (by decide +kernel)
set_option maxRecDepth 20000 in
theorem gX5_missed_X5_isOver : GoodIn wsX5_missed (wsV RX5 168 RX5 yX5_isOver wsX5_isOver) := goodIn_app (goodIn_of _ (by decide +kernel)) ggX5_missed_X5_isOver
set_option maxRecDepth 20000 in
theorem ggX5_missed_X5_fails : GoodIn wsX5_missed wsX5_fails := goodIn_r _ [15, 1, 43, 44, 45, 46, 47, 48, 49, 50, 51, 52, 53, 54, 55, 56, 57, 58, 59, 60, 61, 62, 63, 64, 65, 66, 67, 68, 69, 70, 71, 72, 73, 74, 75] (by decide +kernel) (by decide +kernel)
set_option maxRecDepth 20000 in
theorem gX5_missed_X5_fails : GoodIn wsX5_missed (wsV RX5 132 RX5 yX5_fails wsX5_fails) := goodIn_app (goodIn_of _ (by decide +kernel)) ggX5_missed_X5_fails
set_option maxRecDepth 20000 in
theorem ggX5_missed_X5_countOf : GoodIn wsX5_missed wsX5_countOf := goodIn_r _ [19, 20, 21, 22, 6, 23, 24, 25, 26, 27, 9, 10, 11, 28, 29, 30, 31, 32, 33, 34, 35, 36, 37, 38, 39, 40, 41, 42, 43, 44, 45, 46, 47, 48, 49, 50, 51, 52, 53, 54, 55, 56, 57, 58, 59, 60, 61, 62, 63, 64, 65, 66, 67, 68, 69, 70, 71, 72, 73, 74, 75] (by decide +kernel) (by decide +kernel)
set_option maxRecDepth 20000 in
theorem gX5_missed_X5_countOf : GoodIn wsX5_missed (wsV RX5 156 RX5 yX5_countOf wsX5_countOf) := goodIn_app (goodIn_of _ (by decide +kernel)) ggX5_missed_X5_countOf
set_option maxRecDepth 20000 in
theorem ggX5_missed_X5_cell : GoodIn wsX5_missed wsX5_cell := goodIn_r _ [30] (by decide +kernel) (by decide +kernel)
set_option maxRecDepth 20000 in
theorem gX5_missed_X5_cell : GoodIn wsX5_missed (va_wsS RX5 123 yX5_cell wsX5_cell) := goodIn_app (goodIn_of _ (by decide +kernel)) ggX5_missed_X5_cell
theorem dX5_missed_0 : decode cX5_missed 0 = .ok (.aload_n 0, 1) := by decide +kernel
theorem dX5_missed_1 : decode cX5_missed 1 = .ok (.iconst 0, 1) := by decide +kernel
theorem dX5_missed_2 : decode cX5_missed 2 = .ok (.putfield 95, 3) := by decide +kernel
theorem dX5_missed_5 : decode cX5_missed 5 = .ok (.aload_n 0, 1) := by decide +kernel
theorem dX5_missed_6 : decode cX5_missed 6 = .ok (.iload_n 1, 1) := by decide +kernel
theorem dX5_missed_7 : decode cX5_missed 7 = .ok (.invokevirtual 168, 3) := by decide +kernel
theorem dX5_missed_10 : decode cX5_missed 10 = .ok (.ifCond .ne 9, 3) := by decide +kernel
theorem dX5_missed_13 : decode cX5_missed 13 = .ok (.aload_n 0, 1) := by decide +kernel
theorem dX5_missed_14 : decode cX5_missed 14 = .ok (.iconst 1, 1) := by decide +kernel
theorem dX5_missed_15 : decode cX5_missed 15 = .ok (.invokevirtual 132, 3) := by decide +kernel
theorem dX5_missed_18 : decode cX5_missed 18 = .ok (.ireturn, 1) := by decide +kernel
theorem dX5_missed_19 : decode cX5_missed 19 = .ok (.iconst 0, 1) := by decide +kernel
theorem dX5_missed_20 : decode cX5_missed 20 = .ok (.istore_n 2, 1) := by decide +kernel
theorem dX5_missed_21 : decode cX5_missed 21 = .ok (.iconst 0, 1) := by decide +kernel
theorem dX5_missed_22 : decode cX5_missed 22 = .ok (.istore_n 3, 1) := by decide +kernel
theorem dX5_missed_23 : decode cX5_missed 23 = .ok (.iload_n 3, 1) := by decide +kernel
theorem dX5_missed_24 : decode cX5_missed 24 = .ok (.bipush 12, 2) := by decide +kernel
theorem dX5_missed_26 : decode cX5_missed 26 = .ok (.if_icmp .ge 44, 3) := by decide +kernel
theorem dX5_missed_29 : decode cX5_missed 29 = .ok (.aload_n 0, 1) := by decide +kernel
theorem dX5_missed_30 : decode cX5_missed 30 = .ok (.iload_n 3, 1) := by decide +kernel
theorem dX5_missed_31 : decode cX5_missed 31 = .ok (.iload_n 1, 1) := by decide +kernel
theorem dX5_missed_32 : decode cX5_missed 32 = .ok (.invokevirtual 156, 3) := by decide +kernel
theorem dX5_missed_35 : decode cX5_missed 35 = .ok (.aload_n 0, 1) := by decide +kernel
theorem dX5_missed_36 : decode cX5_missed 36 = .ok (.getfield 23, 3) := by decide +kernel
theorem dX5_missed_39 : decode cX5_missed 39 = .ok (.iload_n 3, 1) := by decide +kernel
theorem dX5_missed_40 : decode cX5_missed 40 = .ok (.iload_n 1, 1) := by decide +kernel
theorem dX5_missed_41 : decode cX5_missed 41 = .ok (.invokestatic 123, 3) := by decide +kernel
theorem dX5_missed_44 : decode cX5_missed 44 = .ok (.iaload, 1) := by decide +kernel
theorem dX5_missed_45 : decode cX5_missed 45 = .ok (.isub, 1) := by decide +kernel
theorem dX5_missed_46 : decode cX5_missed 46 = .ok (.istore 4, 2) := by decide +kernel
theorem dX5_missed_48 : decode cX5_missed 48 = .ok (.iload_n 2, 1) := by decide +kernel
theorem dX5_missed_49 : decode cX5_missed 49 = .ok (.iload 4, 2) := by decide +kernel
theorem dX5_missed_51 : decode cX5_missed 51 = .ok (.ifCond .ge 9, 3) := by decide +kernel
theorem dX5_missed_54 : decode cX5_missed 54 = .ok (.iload 4, 2) := by decide +kernel
theorem dX5_missed_56 : decode cX5_missed 56 = .ok (.ineg, 1) := by decide +kernel
theorem dX5_missed_57 : decode cX5_missed 57 = .ok (.goto 5, 3) := by decide +kernel
theorem dX5_missed_60 : decode cX5_missed 60 = .ok (.iload 4, 2) := by decide +kernel
theorem dX5_missed_62 : decode cX5_missed 62 = .ok (.iadd, 1) := by decide +kernel
theorem dX5_missed_63 : decode cX5_missed 63 = .ok (.istore_n 2, 1) := by decide +kernel
theorem dX5_missed_64 : decode cX5_missed 64 = .ok (.iinc 3 1, 3) := by decide +kernel
theorem dX5_missed_67 : decode cX5_missed 67 = .ok (.goto (-44), 3) := by decide +kernel
theorem dX5_missed_70 : decode cX5_missed 70 = .ok (.iload_n 2, 1) := by decide +kernel
theorem dX5_missed_71 : decode cX5_missed 71 = .ok (.ireturn, 1) := by decide +kernel
theorem dX5_leases_0 : decode cX5_leases 0 = .ok (.aload_n 0, 1) := by decide +kernel
theorem dX5_leases_1 : decode cX5_leases 1 = .ok (.iconst 0, 1) := by decide +kernel
theorem dX5_leases_2 : decode cX5_leases 2 = .ok (.putfield 95, 3) := by decide +kernel
theorem dX5_leases_5 : decode cX5_leases 5 = .ok (.aload_n 0, 1) := by decide +kernel
theorem dX5_leases_6 : decode cX5_leases 6 = .ok (.getfield 106, 3) := by decide +kernel
theorem dX5_leases_9 : decode cX5_leases 9 = .ok (.ireturn, 1) := by decide +kernel
set_option maxRecDepth 20000 in
theorem ggX5_isOf_X5_isLease : GoodIn wsX5_isOf wsX5_isLease := goodIn_r _ [8, 9, 10, 11, 7, 12, 13, 14, 15, 16, 17, 18, 19, 20, 21, 22, 23, 24, 25, 26, 27, 28, 29, 30, 31, 32, 33, 34, 35, 36, 37, 38, 39, 40, 41, 42, 43, 44, 45] (by decide +kernel) (by decide +kernel)
set_option maxRecDepth 20000 in
theorem gX5_isOf_X5_isLease : GoodIn wsX5_isOf (wsV RX5 174 RX5 yX5_isLease wsX5_isLease) := goodIn_app (goodIn_of _ (by decide +kernel)) ggX5_isOf_X5_isLease
theorem dX5_isOf_0 : decode cX5_isOf 0 = .ok (.aload_n 0, 1) := by decide +kernel
theorem dX5_isOf_1 : decode cX5_isOf 1 = .ok (.aload_n 0, 1) := by decide +kernel
theorem dX5_isOf_2 : decode cX5_isOf 2 = .ok (.iload_n 1, 1) := by decide +kernel
theorem dX5_isOf_3 : decode cX5_isOf 3 = .ok (.invokevirtual 174, 3) := by decide +kernel
theorem dX5_isOf_6 : decode cX5_isOf 6 = .ok (.ifCond .eq 7, 3) := by decide +kernel
theorem dX5_isOf_9 : decode cX5_isOf 9 = .ok (.iconst 0, 1) := by decide +kernel
theorem dX5_isOf_10 : decode cX5_isOf 10 = .ok (.goto 4, 3) := by decide +kernel
theorem dX5_isOf_13 : decode cX5_isOf 13 = .ok (.iconst 1, 1) := by decide +kernel
theorem dX5_isOf_14 : decode cX5_isOf 14 = .ok (.putfield 95, 3) := by decide +kernel
theorem dX5_isOf_17 : decode cX5_isOf 17 = .ok (.aload_n 0, 1) := by decide +kernel
theorem dX5_isOf_18 : decode cX5_isOf 18 = .ok (.getfield 95, 3) := by decide +kernel
theorem dX5_isOf_21 : decode cX5_isOf 21 = .ok (.ifCond .ne 27, 3) := by decide +kernel
theorem dX5_isOf_24 : decode cX5_isOf 24 = .ok (.iload_n 2, 1) := by decide +kernel
theorem dX5_isOf_25 : decode cX5_isOf 25 = .ok (.aload_n 0, 1) := by decide +kernel
theorem dX5_isOf_26 : decode cX5_isOf 26 = .ok (.getfield 59, 3) := by decide +kernel
theorem dX5_isOf_29 : decode cX5_isOf 29 = .ok (.iload_n 1, 1) := by decide +kernel
theorem dX5_isOf_30 : decode cX5_isOf 30 = .ok (.iaload, 1) := by decide +kernel
theorem dX5_isOf_31 : decode cX5_isOf 31 = .ok (.if_icmp .lt 17, 3) := by decide +kernel
theorem dX5_isOf_34 : decode cX5_isOf 34 = .ok (.iload_n 2, 1) := by decide +kernel
theorem dX5_isOf_35 : decode cX5_isOf 35 = .ok (.aload_n 0, 1) := by decide +kernel
theorem dX5_isOf_36 : decode cX5_isOf 36 = .ok (.getfield 62, 3) := by decide +kernel
theorem dX5_isOf_39 : decode cX5_isOf 39 = .ok (.iload_n 1, 1) := by decide +kernel
theorem dX5_isOf_40 : decode cX5_isOf 40 = .ok (.iaload, 1) := by decide +kernel
theorem dX5_isOf_41 : decode cX5_isOf 41 = .ok (.if_icmp .ge 7, 3) := by decide +kernel
theorem dX5_isOf_44 : decode cX5_isOf 44 = .ok (.iconst 1, 1) := by decide +kernel
theorem dX5_isOf_45 : decode cX5_isOf 45 = .ok (.goto 4, 3) := by decide +kernel
theorem dX5_isOf_48 : decode cX5_isOf 48 = .ok (.iconst 0, 1) := by decide +kernel
theorem dX5_isOf_49 : decode cX5_isOf 49 = .ok (.ireturn, 1) := by decide +kernel
set_option maxRecDepth 20000 in
theorem ggX5_billed_X5_isLease : GoodIn wsX5_billed wsX5_isLease := goodIn_r _ [6, 7, 8, 9, 5, 10, 52, 53, 54, 55, 56, 57, 58, 59, 60, 61, 62, 63, 64, 65, 66, 67, 68, 69, 70, 71, 72, 73, 74, 75, 76, 77, 78, 79, 80, 81, 82, 83, 84] (by decide +kernel) (by decide +kernel)
set_option maxRecDepth 20000 in
theorem gX5_billed_X5_isLease : GoodIn wsX5_billed (wsV RX5 174 RX5 yX5_isLease wsX5_isLease) := goodIn_app (goodIn_of _ (by decide +kernel)) ggX5_billed_X5_isLease
set_option maxRecDepth 20000 in
theorem ggX5_billed_X5_rents : GoodIn wsX5_billed wsX5_rents := goodIn_r _ [14, 15, 16, 17, 18, 19, 20, 21, 22, 23, 5, 24, 25, 26, 27, 28, 29, 30, 31, 32, 8, 9, 10, 33, 34, 35, 36, 37, 38, 39, 40, 41, 42, 43, 44, 45, 46, 47, 52, 53, 54, 55, 56, 57, 58, 59, 60, 61, 62, 63, 64, 65, 66, 67, 68, 69, 70, 71, 72, 73, 74, 75, 76, 77, 78, 79, 80, 81, 82, 83, 84] (by decide +kernel) (by decide +kernel)
set_option maxRecDepth 20000 in
theorem gX5_billed_X5_rents : GoodIn wsX5_billed (wsV RX5 159 RX5 yX5_rents wsX5_rents) := goodIn_app (goodIn_of _ (by decide +kernel)) ggX5_billed_X5_rents
set_option maxRecDepth 20000 in
theorem ggX5_billed_X5_fails : GoodIn wsX5_billed wsX5_fails := goodIn_r _ [51, 1, 52, 53, 54, 55, 56, 57, 58, 59, 60, 61, 62, 63, 64, 65, 66, 67, 68, 69, 70, 71, 72, 73, 74, 75, 76, 77, 78, 79, 80, 81, 82, 83, 84] (by decide +kernel) (by decide +kernel)
set_option maxRecDepth 20000 in
theorem gX5_billed_X5_fails : GoodIn wsX5_billed (wsV RX5 132 RX5 yX5_fails wsX5_fails) := goodIn_app (goodIn_of _ (by decide +kernel)) ggX5_billed_X5_fails
theorem dX5_billed_0 : decode cX5_billed 0 = .ok (.aload_n 0, 1) := by decide +kernel
theorem dX5_billed_1 : decode cX5_billed 1 = .ok (.iconst 0, 1) := by decide +kernel
theorem dX5_billed_2 : decode cX5_billed 2 = .ok (.putfield 95, 3) := by decide +kernel
theorem dX5_billed_5 : decode cX5_billed 5 = .ok (.aload_n 0, 1) := by decide +kernel
theorem dX5_billed_6 : decode cX5_billed 6 = .ok (.iload_n 1, 1) := by decide +kernel
theorem dX5_billed_7 : decode cX5_billed 7 = .ok (.invokevirtual 174, 3) := by decide +kernel
theorem dX5_billed_10 : decode cX5_billed 10 = .ok (.ifCond .eq 11, 3) := by decide +kernel
theorem dX5_billed_13 : decode cX5_billed 13 = .ok (.aload_n 0, 1) := by decide +kernel
theorem dX5_billed_14 : decode cX5_billed 14 = .ok (.iload_n 1, 1) := by decide +kernel
theorem dX5_billed_15 : decode cX5_billed 15 = .ok (.invokevirtual 159, 3) := by decide +kernel
theorem dX5_billed_18 : decode cX5_billed 18 = .ok (.goto 8, 3) := by decide +kernel
theorem dX5_billed_21 : decode cX5_billed 21 = .ok (.aload_n 0, 1) := by decide +kernel
theorem dX5_billed_22 : decode cX5_billed 22 = .ok (.iconst 1, 1) := by decide +kernel
theorem dX5_billed_23 : decode cX5_billed 23 = .ok (.invokevirtual 132, 3) := by decide +kernel
theorem dX5_billed_26 : decode cX5_billed 26 = .ok (.ireturn, 1) := by decide +kernel
set_option maxRecDepth 20000 in
theorem ggX5_billedAnew_X5_isLease : GoodIn wsX5_billedAnew wsX5_isLease := goodIn_r _ [6, 7, 8, 9, 5, 10, 52, 53, 54, 55, 56, 57, 58, 59, 60, 61, 62, 63, 64, 65, 66, 67, 68, 69, 70, 71, 72, 73, 74, 75, 76, 77, 78, 79, 80, 81, 82, 83, 84] (by decide +kernel) (by decide +kernel)
set_option maxRecDepth 20000 in
theorem gX5_billedAnew_X5_isLease : GoodIn wsX5_billedAnew (wsV RX5 174 RX5 yX5_isLease wsX5_isLease) := goodIn_app (goodIn_of _ (by decide +kernel)) ggX5_billedAnew_X5_isLease
set_option maxRecDepth 20000 in
theorem ggX5_billedAnew_X5_rents : GoodIn wsX5_billedAnew wsX5_rents := goodIn_r _ [14, 15, 16, 17, 18, 19, 20, 21, 22, 23, 5, 24, 25, 26, 27, 28, 29, 30, 31, 32, 8, 9, 10, 33, 34, 35, 36, 37, 38, 39, 40, 41, 42, 43, 44, 45, 46, 47, 52, 53, 54, 55, 56, 57, 58, 59, 60, 61, 62, 63, 64, 65, 66, 67, 68, 69, 70, 71, 72, 73, 74, 75, 76, 77, 78, 79, 80, 81, 82, 83, 84] (by decide +kernel) (by decide +kernel)
set_option maxRecDepth 20000 in
theorem gX5_billedAnew_X5_rents : GoodIn wsX5_billedAnew (wsV RX5 159 RX5 yX5_rents wsX5_rents) := goodIn_app (goodIn_of _ (by decide +kernel)) ggX5_billedAnew_X5_rents
set_option maxRecDepth 20000 in
theorem ggX5_billedAnew_X5_fails : GoodIn wsX5_billedAnew wsX5_fails := goodIn_r _ [51, 1, 52, 53, 54, 55, 56, 57, 58, 59, 60, 61, 62, 63, 64, 65, 66, 67, 68, 69, 70, 71, 72, 73, 74, 75, 76, 77, 78, 79, 80, 81, 82, 83, 84] (by decide +kernel) (by decide +kernel)
set_option maxRecDepth 20000 in
theorem gX5_billedAnew_X5_fails : GoodIn wsX5_billedAnew (wsV RX5 132 RX5 yX5_fails wsX5_fails) := goodIn_app (goodIn_of _ (by decide +kernel)) ggX5_billedAnew_X5_fails
theorem dX5_billedAnew_0 : decode cX5_billedAnew 0 = .ok (.aload_n 0, 1) := by decide +kernel
theorem dX5_billedAnew_1 : decode cX5_billedAnew 1 = .ok (.iconst 0, 1) := by decide +kernel
theorem dX5_billedAnew_2 : decode cX5_billedAnew 2 = .ok (.putfield 95, 3) := by decide +kernel
theorem dX5_billedAnew_5 : decode cX5_billedAnew 5 = .ok (.aload_n 0, 1) := by decide +kernel
theorem dX5_billedAnew_6 : decode cX5_billedAnew 6 = .ok (.iload_n 1, 1) := by decide +kernel
theorem dX5_billedAnew_7 : decode cX5_billedAnew 7 = .ok (.invokevirtual 174, 3) := by decide +kernel
theorem dX5_billedAnew_10 : decode cX5_billedAnew 10 = .ok (.ifCond .eq 11, 3) := by decide +kernel
theorem dX5_billedAnew_13 : decode cX5_billedAnew 13 = .ok (.aload_n 0, 1) := by decide +kernel
theorem dX5_billedAnew_14 : decode cX5_billedAnew 14 = .ok (.iload_n 1, 1) := by decide +kernel
theorem dX5_billedAnew_15 : decode cX5_billedAnew 15 = .ok (.invokevirtual 159, 3) := by decide +kernel
theorem dX5_billedAnew_18 : decode cX5_billedAnew 18 = .ok (.goto 8, 3) := by decide +kernel
theorem dX5_billedAnew_21 : decode cX5_billedAnew 21 = .ok (.aload_n 0, 1) := by decide +kernel
theorem dX5_billedAnew_22 : decode cX5_billedAnew 22 = .ok (.iconst 1, 1) := by decide +kernel
theorem dX5_billedAnew_23 : decode cX5_billedAnew 23 = .ok (.invokevirtual 132, 3) := by decide +kernel
theorem dX5_billedAnew_26 : decode cX5_billedAnew 26 = .ok (.ireturn, 1) := by decide +kernel
set_option maxRecDepth 20000 in
theorem ggX5_corrected_X5_isLease : GoodIn wsX5_corrected wsX5_isLease := goodIn_r _ [7, 8, 9, 10, 6, 11, 16, 17, 18, 19, 20, 21, 22, 23, 24, 25, 26, 27, 28, 29, 30, 31, 32, 33, 34, 35, 36, 37, 38, 39, 40, 41, 42, 43, 44, 45, 46, 47, 48] (by decide +kernel) (by decide +kernel)
set_option maxRecDepth 20000 in
theorem gX5_corrected_X5_isLease : GoodIn wsX5_corrected (wsV RX5 174 RX5 yX5_isLease wsX5_isLease) := goodIn_app (goodIn_of _ (by decide +kernel)) ggX5_corrected_X5_isLease
set_option maxRecDepth 20000 in
theorem ggX5_corrected_X5_fails : GoodIn wsX5_corrected wsX5_fails := goodIn_r _ [15, 1, 16, 17, 18, 19, 20, 21, 22, 23, 24, 25, 26, 27, 28, 29, 30, 31, 32, 33, 34, 35, 36, 37, 38, 39, 40, 41, 42, 43, 44, 45, 46, 47, 48] (by decide +kernel) (by decide +kernel)
set_option maxRecDepth 20000 in
theorem gX5_corrected_X5_fails : GoodIn wsX5_corrected (wsV RX5 132 RX5 yX5_fails wsX5_fails) := goodIn_app (goodIn_of _ (by decide +kernel)) ggX5_corrected_X5_fails
theorem dX5_corrected_0 : decode cX5_corrected 0 = .ok (.aload_n 0, 1) := by decide +kernel
theorem dX5_corrected_1 : decode cX5_corrected 1 = .ok (.iconst 0, 1) := by decide +kernel
theorem dX5_corrected_2 : decode cX5_corrected 2 = .ok (.putfield 95, 3) := by decide +kernel
theorem dX5_corrected_5 : decode cX5_corrected 5 = .ok (.aload_n 0, 1) := by decide +kernel
theorem dX5_corrected_6 : decode cX5_corrected 6 = .ok (.iload_n 1, 1) := by decide +kernel
theorem dX5_corrected_7 : decode cX5_corrected 7 = .ok (.invokevirtual 174, 3) := by decide +kernel
theorem dX5_corrected_10 : decode cX5_corrected 10 = .ok (.ifCond .eq 12, 3) := by decide +kernel
theorem dX5_corrected_13 : decode cX5_corrected 13 = .ok (.aload_n 0, 1) := by decide +kernel
theorem dX5_corrected_14 : decode cX5_corrected 14 = .ok (.getfield 68, 3) := by decide +kernel
theorem dX5_corrected_17 : decode cX5_corrected 17 = .ok (.iload_n 1, 1) := by decide +kernel
theorem dX5_corrected_18 : decode cX5_corrected 18 = .ok (.iaload, 1) := by decide +kernel
theorem dX5_corrected_19 : decode cX5_corrected 19 = .ok (.goto 8, 3) := by decide +kernel
theorem dX5_corrected_22 : decode cX5_corrected 22 = .ok (.aload_n 0, 1) := by decide +kernel
theorem dX5_corrected_23 : decode cX5_corrected 23 = .ok (.iconst 1, 1) := by decide +kernel
theorem dX5_corrected_24 : decode cX5_corrected 24 = .ok (.invokevirtual 132, 3) := by decide +kernel
theorem dX5_corrected_27 : decode cX5_corrected 27 = .ok (.ireturn, 1) := by decide +kernel
set_option maxRecDepth 20000 in
theorem ggX5_owes_X5_in : GoodIn wsX5_owes wsX5_in := goodIn_r _ [5] (by decide +kernel) (by decide +kernel)
set_option maxRecDepth 20000 in
theorem gX5_owes_X5_in : GoodIn wsX5_owes (va_wsS RX5 99 yX5_in wsX5_in) := goodIn_app (goodIn_of _ (by decide +kernel)) ggX5_owes_X5_in
set_option maxRecDepth 20000 in
theorem ggX5_owes_X5_owedBy : GoodIn wsX5_owes wsX5_owedBy := goodIn_r _ [9, 10, 11, 12, 13, 14, 15, 4, 16, 17, 18, 19, 20, 21, 22, 23, 24, 25, 26, 27, 28, 29, 30, 31, 32, 33, 34, 2, 3, 5, 35, 36, 37, 38, 39, 40, 41, 42, 43, 44, 45, 46, 47, 48, 49, 54, 55, 56, 57, 58, 59, 60, 61, 62, 63, 64, 65, 66, 67, 68, 69, 70, 71, 72, 73, 74, 75, 76, 77, 78, 79, 80, 81, 82, 83, 84, 85, 86] (by decide +kernel) (by decide +kernel)
set_option maxRecDepth 20000 in
theorem gX5_owes_X5_owedBy : GoodIn wsX5_owes (wsV RX5 179 RX5 yX5_owedBy wsX5_owedBy) := goodIn_app (goodIn_of _ (by decide +kernel)) ggX5_owes_X5_owedBy
set_option maxRecDepth 20000 in
theorem ggX5_owes_X5_fails : GoodIn wsX5_owes wsX5_fails := goodIn_r _ [53, 1, 54, 55, 56, 57, 58, 59, 60, 61, 62, 63, 64, 65, 66, 67, 68, 69, 70, 71, 72, 73, 74, 75, 76, 77, 78, 79, 80, 81, 82, 83, 84, 85, 86] (by decide +kernel) (by decide +kernel)
set_option maxRecDepth 20000 in
theorem gX5_owes_X5_fails : GoodIn wsX5_owes (wsV RX5 132 RX5 yX5_fails wsX5_fails) := goodIn_app (goodIn_of _ (by decide +kernel)) ggX5_owes_X5_fails
theorem dX5_owes_0 : decode cX5_owes 0 = .ok (.aload_n 0, 1) := by decide +kernel
theorem dX5_owes_1 : decode cX5_owes 1 = .ok (.iconst 0, 1) := by decide +kernel
theorem dX5_owes_2 : decode cX5_owes 2 = .ok (.putfield 95, 3) := by decide +kernel
theorem dX5_owes_5 : decode cX5_owes 5 = .ok (.iload_n 1, 1) := by decide +kernel
theorem dX5_owes_6 : decode cX5_owes 6 = .ok (.iconst 0, 1) := by decide +kernel
theorem dX5_owes_7 : decode cX5_owes 7 = .ok (.iconst 5, 1) := by decide +kernel
theorem dX5_owes_8 : decode cX5_owes 8 = .ok (.invokestatic 99, 3) := by decide +kernel
theorem dX5_owes_11 : decode cX5_owes 11 = .ok (.ifCond .eq 11, 3) := by decide +kernel
theorem dX5_owes_14 : decode cX5_owes 14 = .ok (.aload_n 0, 1) := by decide +kernel
theorem dX5_owes_15 : decode cX5_owes 15 = .ok (.iload_n 1, 1) := by decide +kernel
theorem dX5_owes_16 : decode cX5_owes 16 = .ok (.invokevirtual 179, 3) := by decide +kernel
theorem dX5_owes_19 : decode cX5_owes 19 = .ok (.goto 8, 3) := by decide +kernel
theorem dX5_owes_22 : decode cX5_owes 22 = .ok (.aload_n 0, 1) := by decide +kernel
theorem dX5_owes_23 : decode cX5_owes 23 = .ok (.iconst 1, 1) := by decide +kernel
theorem dX5_owes_24 : decode cX5_owes 24 = .ok (.invokevirtual 132, 3) := by decide +kernel
theorem dX5_owes_27 : decode cX5_owes 27 = .ok (.ireturn, 1) := by decide +kernel
set_option maxRecDepth 20000 in
theorem ggX5_player_X5_isAsked : GoodIn wsX5_player wsX5_isAsked := goodIn_r _ [6, 7, 8, 9, 5, 10, 11, 12, 13, 14, 15, 16, 17, 18, 22, 23, 24, 25, 26, 27, 28, 29, 30, 31, 32, 33, 34, 35, 36, 37, 38, 39, 40, 41, 42, 43, 44, 45, 46, 47, 48, 49, 50, 51, 52, 53, 54] (by decide +kernel) (by decide +kernel)
set_option maxRecDepth 20000 in
theorem gX5_player_X5_isAsked : GoodIn wsX5_player (wsV RX5 185 RX5 yX5_isAsked wsX5_isAsked) := goodIn_app (goodIn_of _ (by decide +kernel)) ggX5_player_X5_isAsked
set_option maxRecDepth 20000 in
theorem ggX5_player_X5_cell : GoodIn wsX5_player wsX5_cell := goodIn_r _ [21] (by decide +kernel) (by decide +kernel)
set_option maxRecDepth 20000 in
theorem gX5_player_X5_cell : GoodIn wsX5_player (va_wsS RX5 123 yX5_cell wsX5_cell) := goodIn_app (goodIn_of _ (by decide +kernel)) ggX5_player_X5_cell
theorem dX5_player_0 : decode cX5_player 0 = .ok (.aload_n 0, 1) := by decide +kernel
theorem dX5_player_1 : decode cX5_player 1 = .ok (.iload_n 1, 1) := by decide +kernel
theorem dX5_player_2 : decode cX5_player 2 = .ok (.iload_n 2, 1) := by decide +kernel
theorem dX5_player_3 : decode cX5_player 3 = .ok (.invokevirtual 185, 3) := by decide +kernel
theorem dX5_player_6 : decode cX5_player 6 = .ok (.ifCond .eq 16, 3) := by decide +kernel
theorem dX5_player_9 : decode cX5_player 9 = .ok (.aload_n 0, 1) := by decide +kernel
theorem dX5_player_10 : decode cX5_player 10 = .ok (.getfield 32, 3) := by decide +kernel
theorem dX5_player_13 : decode cX5_player 13 = .ok (.iload_n 1, 1) := by decide +kernel
theorem dX5_player_14 : decode cX5_player 14 = .ok (.iload_n 2, 1) := by decide +kernel
theorem dX5_player_15 : decode cX5_player 15 = .ok (.invokestatic 123, 3) := by decide +kernel
theorem dX5_player_18 : decode cX5_player 18 = .ok (.iaload, 1) := by decide +kernel
theorem dX5_player_19 : decode cX5_player 19 = .ok (.goto 4, 3) := by decide +kernel
theorem dX5_player_22 : decode cX5_player 22 = .ok (.iconst 0, 1) := by decide +kernel
theorem dX5_player_23 : decode cX5_player 23 = .ok (.ireturn, 1) := by decide +kernel
set_option maxRecDepth 20000 in
theorem ggX5_played_X5_isBusker : GoodIn wsX5_played wsX5_isBusker := goodIn_r _ [6, 7, 8, 5, 9] (by decide +kernel) (by decide +kernel)
set_option maxRecDepth 20000 in
theorem gX5_played_X5_isBusker : GoodIn wsX5_played (va_wsS RX5 182 yX5_isBusker wsX5_isBusker) := goodIn_app (goodIn_of _ (by decide +kernel)) ggX5_played_X5_isBusker
set_option maxRecDepth 20000 in
theorem ggX5_played_X5_fails : GoodIn wsX5_played wsX5_fails := goodIn_r _ [13, 1, 14, 15, 16, 17, 18, 19, 20, 21, 22, 23, 24, 25, 26, 27, 28, 29, 30, 31, 32, 33, 34, 35, 36, 37, 38, 39, 40, 41, 42, 43, 44, 45, 46] (by decide +kernel) (by decide +kernel)
set_option maxRecDepth 20000 in
theorem gX5_played_X5_fails : GoodIn wsX5_played (wsV RX5 132 RX5 yX5_fails wsX5_fails) := goodIn_app (goodIn_of _ (by decide +kernel)) ggX5_played_X5_fails
theorem dX5_played_0 : decode cX5_played 0 = .ok (.aload_n 0, 1) := by decide +kernel
theorem dX5_played_1 : decode cX5_played 1 = .ok (.iconst 0, 1) := by decide +kernel
theorem dX5_played_2 : decode cX5_played 2 = .ok (.putfield 95, 3) := by decide +kernel
theorem dX5_played_5 : decode cX5_played 5 = .ok (.iload_n 1, 1) := by decide +kernel
theorem dX5_played_6 : decode cX5_played 6 = .ok (.invokestatic 182, 3) := by decide +kernel
theorem dX5_played_9 : decode cX5_played 9 = .ok (.ifCond .eq 12, 3) := by decide +kernel
theorem dX5_played_12 : decode cX5_played 12 = .ok (.aload_n 0, 1) := by decide +kernel
theorem dX5_played_13 : decode cX5_played 13 = .ok (.getfield 80, 3) := by decide +kernel
theorem dX5_played_16 : decode cX5_played 16 = .ok (.iload_n 1, 1) := by decide +kernel
theorem dX5_played_17 : decode cX5_played 17 = .ok (.iaload, 1) := by decide +kernel
theorem dX5_played_18 : decode cX5_played 18 = .ok (.goto 8, 3) := by decide +kernel
theorem dX5_played_21 : decode cX5_played 21 = .ok (.aload_n 0, 1) := by decide +kernel
theorem dX5_played_22 : decode cX5_played 22 = .ok (.iconst 1, 1) := by decide +kernel
theorem dX5_played_23 : decode cX5_played 23 = .ok (.invokevirtual 132, 3) := by decide +kernel
theorem dX5_played_26 : decode cX5_played 26 = .ok (.ireturn, 1) := by decide +kernel
set_option maxRecDepth 20000 in
theorem ggX5_coins_X5_isBusker : GoodIn wsX5_coins wsX5_isBusker := goodIn_r _ [6, 7, 8, 5, 9] (by decide +kernel) (by decide +kernel)
set_option maxRecDepth 20000 in
theorem gX5_coins_X5_isBusker : GoodIn wsX5_coins (va_wsS RX5 182 yX5_isBusker wsX5_isBusker) := goodIn_app (goodIn_of _ (by decide +kernel)) ggX5_coins_X5_isBusker
set_option maxRecDepth 20000 in
theorem ggX5_coins_X5_fails : GoodIn wsX5_coins wsX5_fails := goodIn_r _ [13, 1, 14, 15, 16, 17, 18, 19, 20, 21, 22, 23, 24, 25, 26, 27, 28, 29, 30, 31, 32, 33, 34, 35, 36, 37, 38, 39, 40, 41, 42, 43, 44, 45, 46] (by decide +kernel) (by decide +kernel)
set_option maxRecDepth 20000 in
theorem gX5_coins_X5_fails : GoodIn wsX5_coins (wsV RX5 132 RX5 yX5_fails wsX5_fails) := goodIn_app (goodIn_of _ (by decide +kernel)) ggX5_coins_X5_fails
theorem dX5_coins_0 : decode cX5_coins 0 = .ok (.aload_n 0, 1) := by decide +kernel
theorem dX5_coins_1 : decode cX5_coins 1 = .ok (.iconst 0, 1) := by decide +kernel
theorem dX5_coins_2 : decode cX5_coins 2 = .ok (.putfield 95, 3) := by decide +kernel
theorem dX5_coins_5 : decode cX5_coins 5 = .ok (.iload_n 1, 1) := by decide +kernel
theorem dX5_coins_6 : decode cX5_coins 6 = .ok (.invokestatic 182, 3) := by decide +kernel
theorem dX5_coins_9 : decode cX5_coins 9 = .ok (.ifCond .eq 12, 3) := by decide +kernel
theorem dX5_coins_12 : decode cX5_coins 12 = .ok (.aload_n 0, 1) := by decide +kernel
theorem dX5_coins_13 : decode cX5_coins 13 = .ok (.getfield 83, 3) := by decide +kernel
theorem dX5_coins_16 : decode cX5_coins 16 = .ok (.iload_n 1, 1) := by decide +kernel
theorem dX5_coins_17 : decode cX5_coins 17 = .ok (.iaload, 1) := by decide +kernel
theorem dX5_coins_18 : decode cX5_coins 18 = .ok (.goto 8, 3) := by decide +kernel
theorem dX5_coins_21 : decode cX5_coins 21 = .ok (.aload_n 0, 1) := by decide +kernel
theorem dX5_coins_22 : decode cX5_coins 22 = .ok (.iconst 1, 1) := by decide +kernel
theorem dX5_coins_23 : decode cX5_coins 23 = .ok (.invokevirtual 132, 3) := by decide +kernel
theorem dX5_coins_26 : decode cX5_coins 26 = .ok (.ireturn, 1) := by decide +kernel
theorem dX5_lots_0 : decode cX5_lots 0 = .ok (.aload_n 0, 1) := by decide +kernel
theorem dX5_lots_1 : decode cX5_lots 1 = .ok (.iconst 0, 1) := by decide +kernel
theorem dX5_lots_2 : decode cX5_lots 2 = .ok (.putfield 95, 3) := by decide +kernel
theorem dX5_lots_5 : decode cX5_lots 5 = .ok (.aload_n 0, 1) := by decide +kernel
theorem dX5_lots_6 : decode cX5_lots 6 = .ok (.getfield 109, 3) := by decide +kernel
theorem dX5_lots_9 : decode cX5_lots 9 = .ok (.ireturn, 1) := by decide +kernel
theorem dJ9_abs_0f7a4_0 : decode cJ9_abs_0f7a4 0 = .ok (.iload_n 0, 1) := by decide +kernel
theorem dJ9_abs_0f7a4_1 : decode cJ9_abs_0f7a4 1 = .ok (.ifCond .ge 8, 3) := by decide +kernel
theorem dJ9_abs_0f7a4_4 : decode cJ9_abs_0f7a4 4 = .ok (.iload_n 0, 1) := by decide +kernel
theorem dJ9_abs_0f7a4_5 : decode cJ9_abs_0f7a4 5 = .ok (.ineg, 1) := by decide +kernel
theorem dJ9_abs_0f7a4_6 : decode cJ9_abs_0f7a4 6 = .ok (.goto 4, 3) := by decide +kernel
theorem dJ9_abs_0f7a4_9 : decode cJ9_abs_0f7a4 9 = .ok (.iload_n 0, 1) := by decide +kernel
theorem dJ9_abs_0f7a4_10 : decode cJ9_abs_0f7a4 10 = .ok (.ireturn, 1) := by decide +kernel
theorem dJ9_max_7cf53_0 : decode cJ9_max_7cf53 0 = .ok (.iload_n 0, 1) := by decide +kernel
theorem dJ9_max_7cf53_1 : decode cJ9_max_7cf53 1 = .ok (.iload_n 1, 1) := by decide +kernel
theorem dJ9_max_7cf53_2 : decode cJ9_max_7cf53 2 = .ok (.if_icmp .lt 7, 3) := by decide +kernel
theorem dJ9_max_7cf53_5 : decode cJ9_max_7cf53 5 = .ok (.iload_n 0, 1) := by decide +kernel
theorem dJ9_max_7cf53_6 : decode cJ9_max_7cf53 6 = .ok (.goto 4, 3) := by decide +kernel
theorem dJ9_max_7cf53_9 : decode cJ9_max_7cf53 9 = .ok (.iload_n 1, 1) := by decide +kernel
theorem dJ9_max_7cf53_10 : decode cJ9_max_7cf53 10 = .ok (.ireturn, 1) := by decide +kernel
theorem dJ9_min_7cf53_0 : decode cJ9_min_7cf53 0 = .ok (.iload_n 0, 1) := by decide +kernel
theorem dJ9_min_7cf53_1 : decode cJ9_min_7cf53 1 = .ok (.iload_n 1, 1) := by decide +kernel
theorem dJ9_min_7cf53_2 : decode cJ9_min_7cf53 2 = .ok (.if_icmp .gt 7, 3) := by decide +kernel
theorem dJ9_min_7cf53_5 : decode cJ9_min_7cf53 5 = .ok (.iload_n 0, 1) := by decide +kernel
theorem dJ9_min_7cf53_6 : decode cJ9_min_7cf53 6 = .ok (.goto 4, 3) := by decide +kernel
theorem dJ9_min_7cf53_9 : decode cJ9_min_7cf53 9 = .ok (.iload_n 1, 1) := by decide +kernel
theorem dJ9_min_7cf53_10 : decode cJ9_min_7cf53 10 = .ok (.ireturn, 1) := by decide +kernel
theorem dJxa1e45_init_da8c8_0 : decode cJxa1e45_init_da8c8 0 = .ok (.aload_n 0, 1) := by decide +kernel
theorem dJxa1e45_init_da8c8_1 : decode cJxa1e45_init_da8c8 1 = .ok (.invokespecial 1, 3) := by decide +kernel
theorem dJxa1e45_init_da8c8_4 : decode cJxa1e45_init_da8c8 4 = .ok (.return_, 1) := by decide +kernel
set_option maxRecDepth 20000 in
theorem ggJxc12de_init_da8c8_Jxa1e45_init_da8c8 : GoodIn wsJxc12de_init_da8c8 wsJxa1e45_init_da8c8 := goodIn_r _ [5, 6, 7, 8] (by decide +kernel) (by decide +kernel)
set_option maxRecDepth 20000 in
theorem gJxc12de_init_da8c8_Jxa1e45_init_da8c8 : GoodIn wsJxc12de_init_da8c8 (wsJxa1e45_init_da8c8) := ggJxc12de_init_da8c8_Jxa1e45_init_da8c8
theorem dJxc12de_init_da8c8_0 : decode cJxc12de_init_da8c8 0 = .ok (.aload_n 0, 1) := by decide +kernel
theorem dJxc12de_init_da8c8_1 : decode cJxc12de_init_da8c8 1 = .ok (.invokespecial 1, 3) := by decide +kernel
theorem dJxc12de_init_da8c8_4 : decode cJxc12de_init_da8c8 4 = .ok (.aload_n 0, 1) := by decide +kernel
theorem dJxc12de_init_da8c8_5 : decode cJxc12de_init_da8c8 5 = .ok (.iconst 0, 1) := by decide +kernel
theorem dJxc12de_init_da8c8_6 : decode cJxc12de_init_da8c8 6 = .ok (.putfield 7, 3) := by decide +kernel
theorem dJxc12de_init_da8c8_9 : decode cJxc12de_init_da8c8 9 = .ok (.return_, 1) := by decide +kernel
set_option maxRecDepth 20000 in
theorem ggJx4a65c_init_da8c8_Jxc12de_init_da8c8 : GoodIn wsJx4a65c_init_da8c8 wsJxc12de_init_da8c8 := goodIn_r _ [6, 7, 8, 9, 10, 11, 12, 13, 14, 15, 16, 17] (by decide +kernel) (by decide +kernel)
set_option maxRecDepth 20000 in
theorem gJx4a65c_init_da8c8_Jxc12de_init_da8c8 : GoodIn wsJx4a65c_init_da8c8 (wsJxc12de_init_da8c8) := ggJx4a65c_init_da8c8_Jxc12de_init_da8c8
theorem dJx4a65c_init_da8c8_0 : decode cJx4a65c_init_da8c8 0 = .ok (.aload_n 0, 1) := by decide +kernel
theorem dJx4a65c_init_da8c8_1 : decode cJx4a65c_init_da8c8 1 = .ok (.invokespecial 1, 3) := by decide +kernel
theorem dJx4a65c_init_da8c8_4 : decode cJx4a65c_init_da8c8 4 = .ok (.aload_n 0, 1) := by decide +kernel
theorem dJx4a65c_init_da8c8_5 : decode cJx4a65c_init_da8c8 5 = .ok (.getstatic 39, 3) := by decide +kernel
theorem dJx4a65c_init_da8c8_8 : decode cJx4a65c_init_da8c8 8 = .ok (.putfield 9, 3) := by decide +kernel
theorem dJx4a65c_init_da8c8_11 : decode cJx4a65c_init_da8c8 11 = .ok (.return_, 1) := by decide +kernel
set_option maxRecDepth 20000 in
theorem ggJx4a65c_grow_92f84_J8_newLength_cabcc : GoodIn wsJx4a65c_grow_92f84 wsJ8_newLength_cabcc := goodIn_r _ [11, 12, 4, 5, 6, 13, 14, 15, 10, 16] (by decide +kernel) (by decide +kernel)
set_option maxRecDepth 20000 in
theorem gJx4a65c_grow_92f84_J8_newLength_cabcc : GoodIn wsJx4a65c_grow_92f84 (va_wsS RJx4a65c 73 yJ8_newLength_cabcc wsJ8_newLength_cabcc) := goodIn_app (goodIn_of _ (by decide +kernel)) ggJx4a65c_grow_92f84_J8_newLength_cabcc
set_option maxRecDepth 20000 in
theorem ggJx4a65c_grow_92f84_J7_copyOf_1904c : GoodIn wsJx4a65c_grow_92f84 wsJ7_copyOf_1904c := goodIn_r _ [20, 21, 22, 23, 24, 25, 26, 19, 27, 28, 29, 30, 31, 5, 32, 33, 34, 35, 36] (by decide +kernel) (by decide +kernel)
set_option maxRecDepth 20000 in
theorem gJx4a65c_grow_92f84_J7_copyOf_1904c : GoodIn wsJx4a65c_grow_92f84 (va_wsS RJx4a65c 66 yJ7_copyOf_1904c wsJ7_copyOf_1904c) := goodIn_app (goodIn_of _ (by decide +kernel)) ggJx4a65c_grow_92f84_J7_copyOf_1904c
theorem dJx4a65c_grow_92f84_0 : decode cJx4a65c_grow_92f84 0 = .ok (.aload_n 0, 1) := by decide +kernel
theorem dJx4a65c_grow_92f84_1 : decode cJx4a65c_grow_92f84 1 = .ok (.getfield 9, 3) := by decide +kernel
theorem dJx4a65c_grow_92f84_4 : decode cJx4a65c_grow_92f84 4 = .ok (.arraylength, 1) := by decide +kernel
theorem dJx4a65c_grow_92f84_5 : decode cJx4a65c_grow_92f84 5 = .ok (.istore_n 2, 1) := by decide +kernel
theorem dJx4a65c_grow_92f84_6 : decode cJx4a65c_grow_92f84 6 = .ok (.iload_n 2, 1) := by decide +kernel
theorem dJx4a65c_grow_92f84_7 : decode cJx4a65c_grow_92f84 7 = .ok (.ifCond .gt 13, 3) := by decide +kernel
theorem dJx4a65c_grow_92f84_10 : decode cJx4a65c_grow_92f84 10 = .ok (.aload_n 0, 1) := by decide +kernel
theorem dJx4a65c_grow_92f84_11 : decode cJx4a65c_grow_92f84 11 = .ok (.getfield 9, 3) := by decide +kernel
theorem dJx4a65c_grow_92f84_14 : decode cJx4a65c_grow_92f84 14 = .ok (.getstatic 39, 3) := by decide +kernel
theorem dJx4a65c_grow_92f84_17 : decode cJx4a65c_grow_92f84 17 = .ok (.if_acmp .eq 28, 3) := by decide +kernel
theorem dJx4a65c_grow_92f84_20 : decode cJx4a65c_grow_92f84 20 = .ok (.iload_n 2, 1) := by decide +kernel
theorem dJx4a65c_grow_92f84_21 : decode cJx4a65c_grow_92f84 21 = .ok (.iload_n 1, 1) := by decide +kernel
theorem dJx4a65c_grow_92f84_22 : decode cJx4a65c_grow_92f84 22 = .ok (.iload_n 2, 1) := by decide +kernel
theorem dJx4a65c_grow_92f84_23 : decode cJx4a65c_grow_92f84 23 = .ok (.isub, 1) := by decide +kernel
theorem dJx4a65c_grow_92f84_24 : decode cJx4a65c_grow_92f84 24 = .ok (.iload_n 2, 1) := by decide +kernel
theorem dJx4a65c_grow_92f84_25 : decode cJx4a65c_grow_92f84 25 = .ok (.iconst 1, 1) := by decide +kernel
theorem dJx4a65c_grow_92f84_26 : decode cJx4a65c_grow_92f84 26 = .ok (.ishr, 1) := by decide +kernel
theorem dJx4a65c_grow_92f84_27 : decode cJx4a65c_grow_92f84 27 = .ok (.invokestatic 73, 3) := by decide +kernel
theorem dJx4a65c_grow_92f84_30 : decode cJx4a65c_grow_92f84 30 = .ok (.istore_n 3, 1) := by decide +kernel
theorem dJx4a65c_grow_92f84_31 : decode cJx4a65c_grow_92f84 31 = .ok (.aload_n 0, 1) := by decide +kernel
theorem dJx4a65c_grow_92f84_32 : decode cJx4a65c_grow_92f84 32 = .ok (.aload_n 0, 1) := by decide +kernel
theorem dJx4a65c_grow_92f84_33 : decode cJx4a65c_grow_92f84 33 = .ok (.getfield 9, 3) := by decide +kernel
theorem dJx4a65c_grow_92f84_36 : decode cJx4a65c_grow_92f84 36 = .ok (.iload_n 3, 1) := by decide +kernel
theorem dJx4a65c_grow_92f84_37 : decode cJx4a65c_grow_92f84 37 = .ok (.invokestatic 66, 3) := by decide +kernel
theorem dJx4a65c_grow_92f84_40 : decode cJx4a65c_grow_92f84 40 = .ok (.dup_x1, 1) := by decide +kernel
theorem dJx4a65c_grow_92f84_41 : decode cJx4a65c_grow_92f84 41 = .ok (.putfield 9, 3) := by decide +kernel
theorem dJx4a65c_grow_92f84_44 : decode cJx4a65c_grow_92f84 44 = .ok (.areturn, 1) := by decide +kernel
theorem dJx4a65c_grow_92f84_45 : decode cJx4a65c_grow_92f84 45 = .ok (.aload_n 0, 1) := by decide +kernel
theorem dJx4a65c_grow_92f84_46 : decode cJx4a65c_grow_92f84 46 = .ok (.bipush 10, 2) := by decide +kernel
theorem dJx4a65c_grow_92f84_48 : decode cJx4a65c_grow_92f84 48 = .ok (.iload_n 1, 1) := by decide +kernel
theorem dJx4a65c_grow_92f84_49 : decode cJx4a65c_grow_92f84 49 = .ok (.invokestatic 79, 3) := by decide +kernel
theorem dJx4a65c_grow_92f84_52 : decode cJx4a65c_grow_92f84 52 = .ok (.anewarray 7, 3) := by decide +kernel
theorem dJx4a65c_grow_92f84_55 : decode cJx4a65c_grow_92f84 55 = .ok (.dup_x1, 1) := by decide +kernel
theorem dJx4a65c_grow_92f84_56 : decode cJx4a65c_grow_92f84 56 = .ok (.putfield 9, 3) := by decide +kernel
theorem dJx4a65c_grow_92f84_59 : decode cJx4a65c_grow_92f84 59 = .ok (.areturn, 1) := by decide +kernel
set_option maxRecDepth 20000 in
theorem ggJx4a65c_grow_d5877_Jx4a65c_grow_92f84 : GoodIn wsJx4a65c_grow_d5877 wsJx4a65c_grow_92f84 := goodIn_r _ [6, 7, 8, 9, 10, 11, 12, 13, 14, 15, 16, 17, 18, 19, 20, 21, 22, 23, 24, 25, 26, 27, 28, 29, 30, 31, 32, 33, 34, 35, 36, 37, 38, 39, 40, 41, 42, 43, 44, 45] (by decide +kernel) (by decide +kernel)
set_option maxRecDepth 20000 in
theorem gJx4a65c_grow_d5877_Jx4a65c_grow_92f84 : GoodIn wsJx4a65c_grow_d5877 (wsV RJx4a65c 69 RJx4a65c yJx4a65c_grow_92f84 wsJx4a65c_grow_92f84) := goodIn_app (goodIn_of _ (by decide +kernel)) ggJx4a65c_grow_d5877_Jx4a65c_grow_92f84
theorem dJx4a65c_grow_d5877_0 : decode cJx4a65c_grow_d5877 0 = .ok (.aload_n 0, 1) := by decide +kernel
theorem dJx4a65c_grow_d5877_1 : decode cJx4a65c_grow_d5877 1 = .ok (.aload_n 0, 1) := by decide +kernel
theorem dJx4a65c_grow_d5877_2 : decode cJx4a65c_grow_d5877 2 = .ok (.getfield 48, 3) := by decide +kernel
theorem dJx4a65c_grow_d5877_5 : decode cJx4a65c_grow_d5877 5 = .ok (.iconst 1, 1) := by decide +kernel
theorem dJx4a65c_grow_d5877_6 : decode cJx4a65c_grow_d5877 6 = .ok (.iadd, 1) := by decide +kernel
theorem dJx4a65c_grow_d5877_7 : decode cJx4a65c_grow_d5877 7 = .ok (.invokevirtual 69, 3) := by decide +kernel
theorem dJx4a65c_grow_d5877_10 : decode cJx4a65c_grow_d5877 10 = .ok (.areturn, 1) := by decide +kernel
theorem dJx4a65c_size_8abf5_0 : decode cJx4a65c_size_8abf5 0 = .ok (.aload_n 0, 1) := by decide +kernel
theorem dJx4a65c_size_8abf5_1 : decode cJx4a65c_size_8abf5 1 = .ok (.getfield 48, 3) := by decide +kernel
theorem dJx4a65c_size_8abf5_4 : decode cJx4a65c_size_8abf5 4 = .ok (.ireturn, 1) := by decide +kernel
theorem dJx4a65c_elementData_915e3_0 : decode cJx4a65c_elementData_915e3 0 = .ok (.aload_n 0, 1) := by decide +kernel
theorem dJx4a65c_elementData_915e3_1 : decode cJx4a65c_elementData_915e3 1 = .ok (.getfield 9, 3) := by decide +kernel
theorem dJx4a65c_elementData_915e3_4 : decode cJx4a65c_elementData_915e3 4 = .ok (.iload_n 1, 1) := by decide +kernel
theorem dJx4a65c_elementData_915e3_5 : decode cJx4a65c_elementData_915e3 5 = .ok (.aaload, 1) := by decide +kernel
theorem dJx4a65c_elementData_915e3_6 : decode cJx4a65c_elementData_915e3 6 = .ok (.areturn, 1) := by decide +kernel
set_option maxRecDepth 20000 in
theorem ggJx4a65c_get_915e3_J15_checkIndex_7cf53 : GoodIn wsJx4a65c_get_915e3 wsJ15_checkIndex_7cf53 := goodIn_r _ [5, 6, 7, 8, 9] (by decide +kernel) (by decide +kernel)
set_option maxRecDepth 20000 in
theorem gJx4a65c_get_915e3_J15_checkIndex_7cf53 : GoodIn wsJx4a65c_get_915e3 (va_wsS RJx4a65c 118 yJ15_checkIndex_7cf53 wsJ15_checkIndex_7cf53) := goodIn_app (goodIn_of _ (by decide +kernel)) ggJx4a65c_get_915e3_J15_checkIndex_7cf53
set_option maxRecDepth 20000 in
theorem ggJx4a65c_get_915e3_Jx4a65c_elementData_915e3 : GoodIn wsJx4a65c_get_915e3 wsJx4a65c_elementData_915e3 := goodIn_r _ [14, 15, 16, 17, 18] (by decide +kernel) (by decide +kernel)
set_option maxRecDepth 20000 in
theorem gJx4a65c_get_915e3_Jx4a65c_elementData_915e3 : GoodIn wsJx4a65c_get_915e3 (wsV RJx4a65c 123 RJx4a65c yJx4a65c_elementData_915e3 wsJx4a65c_elementData_915e3) := goodIn_app (goodIn_of _ (by decide +kernel)) ggJx4a65c_get_915e3_Jx4a65c_elementData_915e3
theorem dJx4a65c_get_915e3_0 : decode cJx4a65c_get_915e3 0 = .ok (.iload_n 1, 1) := by decide +kernel
theorem dJx4a65c_get_915e3_1 : decode cJx4a65c_get_915e3 1 = .ok (.aload_n 0, 1) := by decide +kernel
theorem dJx4a65c_get_915e3_2 : decode cJx4a65c_get_915e3 2 = .ok (.getfield 48, 3) := by decide +kernel
theorem dJx4a65c_get_915e3_5 : decode cJx4a65c_get_915e3 5 = .ok (.invokestatic 118, 3) := by decide +kernel
theorem dJx4a65c_get_915e3_8 : decode cJx4a65c_get_915e3 8 = .ok (.pop, 1) := by decide +kernel
theorem dJx4a65c_get_915e3_9 : decode cJx4a65c_get_915e3 9 = .ok (.aload_n 0, 1) := by decide +kernel
theorem dJx4a65c_get_915e3_10 : decode cJx4a65c_get_915e3 10 = .ok (.iload_n 1, 1) := by decide +kernel
theorem dJx4a65c_get_915e3_11 : decode cJx4a65c_get_915e3 11 = .ok (.invokevirtual 123, 3) := by decide +kernel
theorem dJx4a65c_get_915e3_14 : decode cJx4a65c_get_915e3 14 = .ok (.areturn, 1) := by decide +kernel
set_option maxRecDepth 20000 in
theorem ggJx4a65c_add_72be8_Jx4a65c_grow_d5877 : GoodIn wsJx4a65c_add_72be8 wsJx4a65c_grow_d5877 := goodIn_r _ [6, 1, 7, 8, 9, 5, 10, 11, 12, 13, 14, 15, 16, 17, 18, 19, 20, 21, 22, 23, 24, 25, 26, 27, 28, 29, 30, 31, 32, 33, 34, 35, 36, 37, 38, 39, 40, 41, 42, 43, 44, 45, 46, 47, 48, 49] (by decide +kernel) (by decide +kernel)
set_option maxRecDepth 20000 in
theorem gJx4a65c_add_72be8_Jx4a65c_grow_d5877 : GoodIn wsJx4a65c_add_72be8 (wsV RJx4a65c 129 RJx4a65c yJx4a65c_grow_d5877 wsJx4a65c_grow_d5877) := goodIn_app (goodIn_of _ (by decide +kernel)) ggJx4a65c_add_72be8_Jx4a65c_grow_d5877
theorem dJx4a65c_add_72be8_0 : decode cJx4a65c_add_72be8 0 = .ok (.iload_n 3, 1) := by decide +kernel
theorem dJx4a65c_add_72be8_1 : decode cJx4a65c_add_72be8 1 = .ok (.aload_n 2, 1) := by decide +kernel
theorem dJx4a65c_add_72be8_2 : decode cJx4a65c_add_72be8 2 = .ok (.arraylength, 1) := by decide +kernel
theorem dJx4a65c_add_72be8_3 : decode cJx4a65c_add_72be8 3 = .ok (.if_icmp .ne 8, 3) := by decide +kernel
theorem dJx4a65c_add_72be8_6 : decode cJx4a65c_add_72be8 6 = .ok (.aload_n 0, 1) := by decide +kernel
theorem dJx4a65c_add_72be8_7 : decode cJx4a65c_add_72be8 7 = .ok (.invokevirtual 129, 3) := by decide +kernel
theorem dJx4a65c_add_72be8_10 : decode cJx4a65c_add_72be8 10 = .ok (.astore_n 2, 1) := by decide +kernel
theorem dJx4a65c_add_72be8_11 : decode cJx4a65c_add_72be8 11 = .ok (.aload_n 2, 1) := by decide +kernel
theorem dJx4a65c_add_72be8_12 : decode cJx4a65c_add_72be8 12 = .ok (.iload_n 3, 1) := by decide +kernel
theorem dJx4a65c_add_72be8_13 : decode cJx4a65c_add_72be8 13 = .ok (.aload_n 1, 1) := by decide +kernel
theorem dJx4a65c_add_72be8_14 : decode cJx4a65c_add_72be8 14 = .ok (.aastore, 1) := by decide +kernel
theorem dJx4a65c_add_72be8_15 : decode cJx4a65c_add_72be8 15 = .ok (.aload_n 0, 1) := by decide +kernel
theorem dJx4a65c_add_72be8_16 : decode cJx4a65c_add_72be8 16 = .ok (.iload_n 3, 1) := by decide +kernel
theorem dJx4a65c_add_72be8_17 : decode cJx4a65c_add_72be8 17 = .ok (.iconst 1, 1) := by decide +kernel
theorem dJx4a65c_add_72be8_18 : decode cJx4a65c_add_72be8 18 = .ok (.iadd, 1) := by decide +kernel
theorem dJx4a65c_add_72be8_19 : decode cJx4a65c_add_72be8 19 = .ok (.putfield 48, 3) := by decide +kernel
theorem dJx4a65c_add_72be8_22 : decode cJx4a65c_add_72be8 22 = .ok (.return_, 1) := by decide +kernel
set_option maxRecDepth 20000 in
theorem ggJx4a65c_add_9ea2d_Jx4a65c_add_72be8 : GoodIn wsJx4a65c_add_9ea2d wsJx4a65c_add_72be8 := goodIn_r _ [9, 4, 10, 11, 12, 8, 13, 14, 15, 16, 17, 3, 18, 19, 20, 21, 22, 23, 24, 25, 26, 27, 28, 29, 30, 31, 32, 33, 34, 35, 36, 37, 38, 39, 40, 41, 42, 43, 44, 45, 46, 47, 48, 49, 50, 51, 52, 53, 54, 55] (by decide +kernel) (by decide +kernel)
set_option maxRecDepth 20000 in
theorem gJx4a65c_add_9ea2d_Jx4a65c_add_72be8 : GoodIn wsJx4a65c_add_9ea2d (wsV RJx4a65c 131 RJx4a65c yJx4a65c_add_72be8 wsJx4a65c_add_72be8) := goodIn_app (goodIn_of _ (by decide +kernel)) ggJx4a65c_add_9ea2d_Jx4a65c_add_72be8
theorem dJx4a65c_add_9ea2d_0 : decode cJx4a65c_add_9ea2d 0 = .ok (.aload_n 0, 1) := by decide +kernel
theorem dJx4a65c_add_9ea2d_1 : decode cJx4a65c_add_9ea2d 1 = .ok (.dup, 1) := by decide +kernel
theorem dJx4a65c_add_9ea2d_2 : decode cJx4a65c_add_9ea2d 2 = .ok (.getfield 63, 3) := by decide +kernel
theorem dJx4a65c_add_9ea2d_5 : decode cJx4a65c_add_9ea2d 5 = .ok (.iconst 1, 1) := by decide +kernel
theorem dJx4a65c_add_9ea2d_6 : decode cJx4a65c_add_9ea2d 6 = .ok (.iadd, 1) := by decide +kernel
theorem dJx4a65c_add_9ea2d_7 : decode cJx4a65c_add_9ea2d 7 = .ok (.putfield 63, 3) := by decide +kernel
theorem dJx4a65c_add_9ea2d_10 : decode cJx4a65c_add_9ea2d 10 = .ok (.aload_n 0, 1) := by decide +kernel
theorem dJx4a65c_add_9ea2d_11 : decode cJx4a65c_add_9ea2d 11 = .ok (.aload_n 1, 1) := by decide +kernel
theorem dJx4a65c_add_9ea2d_12 : decode cJx4a65c_add_9ea2d 12 = .ok (.aload_n 0, 1) := by decide +kernel
theorem dJx4a65c_add_9ea2d_13 : decode cJx4a65c_add_9ea2d 13 = .ok (.getfield 9, 3) := by decide +kernel
theorem dJx4a65c_add_9ea2d_16 : decode cJx4a65c_add_9ea2d 16 = .ok (.aload_n 0, 1) := by decide +kernel
theorem dJx4a65c_add_9ea2d_17 : decode cJx4a65c_add_9ea2d 17 = .ok (.getfield 48, 3) := by decide +kernel
theorem dJx4a65c_add_9ea2d_20 : decode cJx4a65c_add_9ea2d 20 = .ok (.invokevirtual 131, 3) := by decide +kernel
theorem dJx4a65c_add_9ea2d_23 : decode cJx4a65c_add_9ea2d 23 = .ok (.iconst 1, 1) := by decide +kernel
theorem dJx4a65c_add_9ea2d_24 : decode cJx4a65c_add_9ea2d 24 = .ok (.ireturn, 1) := by decide +kernel
theorem dJ7_fill_53178_0 : decode cJ7_fill_53178 0 = .ok (.iconst 0, 1) := by decide +kernel
theorem dJ7_fill_53178_1 : decode cJ7_fill_53178 1 = .ok (.istore_n 2, 1) := by decide +kernel
theorem dJ7_fill_53178_2 : decode cJ7_fill_53178 2 = .ok (.aload_n 0, 1) := by decide +kernel
theorem dJ7_fill_53178_3 : decode cJ7_fill_53178 3 = .ok (.arraylength, 1) := by decide +kernel
theorem dJ7_fill_53178_4 : decode cJ7_fill_53178 4 = .ok (.istore_n 3, 1) := by decide +kernel
theorem dJ7_fill_53178_5 : decode cJ7_fill_53178 5 = .ok (.iload_n 2, 1) := by decide +kernel
theorem dJ7_fill_53178_6 : decode cJ7_fill_53178 6 = .ok (.iload_n 3, 1) := by decide +kernel
theorem dJ7_fill_53178_7 : decode cJ7_fill_53178 7 = .ok (.if_icmp .ge 13, 3) := by decide +kernel
theorem dJ7_fill_53178_10 : decode cJ7_fill_53178 10 = .ok (.aload_n 0, 1) := by decide +kernel
theorem dJ7_fill_53178_11 : decode cJ7_fill_53178 11 = .ok (.iload_n 2, 1) := by decide +kernel
theorem dJ7_fill_53178_12 : decode cJ7_fill_53178 12 = .ok (.iload_n 1, 1) := by decide +kernel
theorem dJ7_fill_53178_13 : decode cJ7_fill_53178 13 = .ok (.iastore, 1) := by decide +kernel
theorem dJ7_fill_53178_14 : decode cJ7_fill_53178 14 = .ok (.iinc 2 1, 3) := by decide +kernel
theorem dJ7_fill_53178_17 : decode cJ7_fill_53178 17 = .ok (.goto (-12), 3) := by decide +kernel
theorem dJ7_fill_53178_20 : decode cJ7_fill_53178 20 = .ok (.return_, 1) := by decide +kernel
set_option maxRecDepth 20000 in
theorem ggJ7_copyOf_1904c_J7_copyOf_6403c : GoodIn wsJ7_copyOf_1904c wsJ7_copyOf_6403c := goodIn_r _ [8, 9, 10, 11, 12, 13, 14, 15, 16, 17, 18] (by decide +kernel) (by decide +kernel)
set_option maxRecDepth 20000 in
theorem gJ7_copyOf_1904c_J7_copyOf_6403c : GoodIn wsJ7_copyOf_1904c (va_wsS RJ7 300 yJ7_copyOf_6403c wsJ7_copyOf_6403c) := goodIn_app (goodIn_of _ (by decide +kernel)) ggJ7_copyOf_1904c_J7_copyOf_6403c
theorem dJ7_copyOf_1904c_0 : decode cJ7_copyOf_1904c 0 = .ok (.aload_n 0, 1) := by decide +kernel
theorem dJ7_copyOf_1904c_1 : decode cJ7_copyOf_1904c 1 = .ok (.iload_n 1, 1) := by decide +kernel
theorem dJ7_copyOf_1904c_2 : decode cJ7_copyOf_1904c 2 = .ok (.aload_n 0, 1) := by decide +kernel
theorem dJ7_copyOf_1904c_3 : decode cJ7_copyOf_1904c 3 = .ok (.invokevirtual 86, 3) := by decide +kernel
theorem dJ7_copyOf_1904c_6 : decode cJ7_copyOf_1904c 6 = .ok (.invokestatic 300, 3) := by decide +kernel
theorem dJ7_copyOf_1904c_9 : decode cJ7_copyOf_1904c 9 = .ok (.areturn, 1) := by decide +kernel
theorem dJ7_copyOf_6403c_0 : decode cJ7_copyOf_6403c 0 = .ok (.aload_n 2, 1) := by decide +kernel
theorem dJ7_copyOf_6403c_1 : decode cJ7_copyOf_6403c 1 = .ok (.ldc 110, 2) := by decide +kernel
theorem dJ7_copyOf_6403c_3 : decode cJ7_copyOf_6403c 3 = .ok (.if_acmp .ne 10, 3) := by decide +kernel
theorem dJ7_copyOf_6403c_6 : decode cJ7_copyOf_6403c 6 = .ok (.iload_n 1, 1) := by decide +kernel
theorem dJ7_copyOf_6403c_7 : decode cJ7_copyOf_6403c 7 = .ok (.anewarray 2, 3) := by decide +kernel
theorem dJ7_copyOf_6403c_10 : decode cJ7_copyOf_6403c 10 = .ok (.goto 14, 3) := by decide +kernel
theorem dJ7_copyOf_6403c_13 : decode cJ7_copyOf_6403c 13 = .ok (.aload_n 2, 1) := by decide +kernel
theorem dJ7_copyOf_6403c_14 : decode cJ7_copyOf_6403c 14 = .ok (.invokevirtual 90, 3) := by decide +kernel
theorem dJ7_copyOf_6403c_17 : decode cJ7_copyOf_6403c 17 = .ok (.iload_n 1, 1) := by decide +kernel
theorem dJ7_copyOf_6403c_18 : decode cJ7_copyOf_6403c 18 = .ok (.invokestatic 95, 3) := by decide +kernel
theorem dJ7_copyOf_6403c_21 : decode cJ7_copyOf_6403c 21 = .ok (.checkcast 110, 3) := by decide +kernel
theorem dJ7_copyOf_6403c_24 : decode cJ7_copyOf_6403c 24 = .ok (.astore_n 3, 1) := by decide +kernel
theorem dJ7_copyOf_6403c_25 : decode cJ7_copyOf_6403c 25 = .ok (.aload_n 0, 1) := by decide +kernel
theorem dJ7_copyOf_6403c_26 : decode cJ7_copyOf_6403c 26 = .ok (.iconst 0, 1) := by decide +kernel
theorem dJ7_copyOf_6403c_27 : decode cJ7_copyOf_6403c 27 = .ok (.aload_n 3, 1) := by decide +kernel
theorem dJ7_copyOf_6403c_28 : decode cJ7_copyOf_6403c 28 = .ok (.iconst 0, 1) := by decide +kernel
theorem dJ7_copyOf_6403c_29 : decode cJ7_copyOf_6403c 29 = .ok (.aload_n 0, 1) := by decide +kernel
theorem dJ7_copyOf_6403c_30 : decode cJ7_copyOf_6403c 30 = .ok (.arraylength, 1) := by decide +kernel
theorem dJ7_copyOf_6403c_31 : decode cJ7_copyOf_6403c 31 = .ok (.iload_n 1, 1) := by decide +kernel
theorem dJ7_copyOf_6403c_32 : decode cJ7_copyOf_6403c 32 = .ok (.invokestatic 304, 3) := by decide +kernel
theorem dJ7_copyOf_6403c_35 : decode cJ7_copyOf_6403c 35 = .ok (.invokestatic 150, 3) := by decide +kernel
theorem dJ7_copyOf_6403c_38 : decode cJ7_copyOf_6403c 38 = .ok (.aload_n 3, 1) := by decide +kernel
theorem dJ7_copyOf_6403c_39 : decode cJ7_copyOf_6403c 39 = .ok (.areturn, 1) := by decide +kernel
set_option maxRecDepth 20000 in
theorem ggJ15_checkIndex_7cf53_J3_checkIndex_8e157 : GoodIn wsJ15_checkIndex_7cf53 wsJ3_checkIndex_8e157 := goodIn_r _ [4] (by decide +kernel) (by decide +kernel)
set_option maxRecDepth 20000 in
theorem gJ15_checkIndex_7cf53_J3_checkIndex_8e157 : GoodIn wsJ15_checkIndex_7cf53 (va_wsS RJ15 105 yJ3_checkIndex_8e157 wsJ3_checkIndex_8e157) := goodIn_app (goodIn_of _ (by decide +kernel)) ggJ15_checkIndex_7cf53_J3_checkIndex_8e157
theorem dJ15_checkIndex_7cf53_0 : decode cJ15_checkIndex_7cf53 0 = .ok (.iload_n 0, 1) := by decide +kernel
theorem dJ15_checkIndex_7cf53_1 : decode cJ15_checkIndex_7cf53 1 = .ok (.iload_n 1, 1) := by decide +kernel
theorem dJ15_checkIndex_7cf53_2 : decode cJ15_checkIndex_7cf53 2 = .ok (.aconst_null, 1) := by decide +kernel
theorem dJ15_checkIndex_7cf53_3 : decode cJ15_checkIndex_7cf53 3 = .ok (.invokestatic 105, 3) := by decide +kernel
theorem dJ15_checkIndex_7cf53_6 : decode cJ15_checkIndex_7cf53 6 = .ok (.ireturn, 1) := by decide +kernel
set_option maxRecDepth 20000 in
theorem ggJ8_newLength_cabcc_J8_hugeLength_7cf53 : GoodIn wsJ8_newLength_cabcc wsJ8_hugeLength_7cf53 := goodIn_r _ [9, 5] (by decide +kernel) (by decide +kernel)
set_option maxRecDepth 20000 in
theorem gJ8_newLength_cabcc_J8_hugeLength_7cf53 : GoodIn wsJ8_newLength_cabcc (va_wsS RJ8 201 yJ8_hugeLength_7cf53 wsJ8_hugeLength_7cf53) := goodIn_app (goodIn_of _ (by decide +kernel)) ggJ8_newLength_cabcc_J8_hugeLength_7cf53
theorem dJ8_newLength_cabcc_0 : decode cJ8_newLength_cabcc 0 = .ok (.iload_n 0, 1) := by decide +kernel
theorem dJ8_newLength_cabcc_1 : decode cJ8_newLength_cabcc 1 = .ok (.iload_n 1, 1) := by decide +kernel
theorem dJ8_newLength_cabcc_2 : decode cJ8_newLength_cabcc 2 = .ok (.iload_n 2, 1) := by decide +kernel
theorem dJ8_newLength_cabcc_3 : decode cJ8_newLength_cabcc 3 = .ok (.invokestatic 194, 3) := by decide +kernel
theorem dJ8_newLength_cabcc_6 : decode cJ8_newLength_cabcc 6 = .ok (.iadd, 1) := by decide +kernel
theorem dJ8_newLength_cabcc_7 : decode cJ8_newLength_cabcc 7 = .ok (.istore_n 3, 1) := by decide +kernel
theorem dJ8_newLength_cabcc_8 : decode cJ8_newLength_cabcc 8 = .ok (.iconst 0, 1) := by decide +kernel
theorem dJ8_newLength_cabcc_9 : decode cJ8_newLength_cabcc 9 = .ok (.iload_n 3, 1) := by decide +kernel
theorem dJ8_newLength_cabcc_10 : decode cJ8_newLength_cabcc 10 = .ok (.if_icmp .ge 11, 3) := by decide +kernel
theorem dJ8_newLength_cabcc_13 : decode cJ8_newLength_cabcc 13 = .ok (.iload_n 3, 1) := by decide +kernel
theorem dJ8_newLength_cabcc_14 : decode cJ8_newLength_cabcc 14 = .ok (.ldc 200, 2) := by decide +kernel
theorem dJ8_newLength_cabcc_16 : decode cJ8_newLength_cabcc 16 = .ok (.if_icmp .gt 5, 3) := by decide +kernel
theorem dJ8_newLength_cabcc_19 : decode cJ8_newLength_cabcc 19 = .ok (.iload_n 3, 1) := by decide +kernel
theorem dJ8_newLength_cabcc_20 : decode cJ8_newLength_cabcc 20 = .ok (.ireturn, 1) := by decide +kernel
theorem dJ8_newLength_cabcc_21 : decode cJ8_newLength_cabcc 21 = .ok (.iload_n 0, 1) := by decide +kernel
theorem dJ8_newLength_cabcc_22 : decode cJ8_newLength_cabcc 22 = .ok (.iload_n 1, 1) := by decide +kernel
theorem dJ8_newLength_cabcc_23 : decode cJ8_newLength_cabcc 23 = .ok (.invokestatic 201, 3) := by decide +kernel
theorem dJ8_newLength_cabcc_26 : decode cJ8_newLength_cabcc 26 = .ok (.ireturn, 1) := by decide +kernel
theorem dJ8_hugeLength_7cf53_0 : decode cJ8_hugeLength_7cf53 0 = .ok (.iload_n 0, 1) := by decide +kernel
theorem dJ8_hugeLength_7cf53_1 : decode cJ8_hugeLength_7cf53 1 = .ok (.iload_n 1, 1) := by decide +kernel
theorem dJ8_hugeLength_7cf53_2 : decode cJ8_hugeLength_7cf53 2 = .ok (.iadd, 1) := by decide +kernel
theorem dJ8_hugeLength_7cf53_3 : decode cJ8_hugeLength_7cf53 3 = .ok (.istore_n 2, 1) := by decide +kernel
theorem dJ8_hugeLength_7cf53_4 : decode cJ8_hugeLength_7cf53 4 = .ok (.iload_n 2, 1) := by decide +kernel
theorem dJ8_hugeLength_7cf53_5 : decode cJ8_hugeLength_7cf53 5 = .ok (.ifCond .ge 44, 3) := by decide +kernel
theorem dJ8_hugeLength_7cf53_8 : decode cJ8_hugeLength_7cf53 8 = .ok (.new 204, 3) := by decide +kernel
