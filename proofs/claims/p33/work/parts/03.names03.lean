theorem dX4_quit_19 : decode cX4_quit 19 = .ok (.checkcast 101, 3) := by decide +kernel
theorem dX4_quit_22 : decode cX4_quit 22 = .ok (.astore_n 2, 1) := by decide +kernel
theorem dX4_quit_23 : decode cX4_quit 23 = .ok (.aload_n 2, 1) := by decide +kernel
theorem dX4_quit_24 : decode cX4_quit 24 = .ok (.getfield 118, 3) := by decide +kernel
theorem dX4_quit_27 : decode cX4_quit 27 = .ok (.aload_n 0, 1) := by decide +kernel
theorem dX4_quit_28 : decode cX4_quit 28 = .ok (.getfield 41, 3) := by decide +kernel
theorem dX4_quit_31 : decode cX4_quit 31 = .ok (.if_icmp .le 7, 3) := by decide +kernel
theorem dX4_quit_34 : decode cX4_quit 34 = .ok (.iconst 1, 1) := by decide +kernel
theorem dX4_quit_35 : decode cX4_quit 35 = .ok (.goto 4, 3) := by decide +kernel
theorem dX4_quit_38 : decode cX4_quit 38 = .ok (.iconst 0, 1) := by decide +kernel
theorem dX4_quit_39 : decode cX4_quit 39 = .ok (.invokestatic 59, 3) := by decide +kernel
theorem dX4_quit_42 : decode cX4_quit 42 = .ok (.aload_n 2, 1) := by decide +kernel
theorem dX4_quit_43 : decode cX4_quit 43 = .ok (.aload_n 0, 1) := by decide +kernel
theorem dX4_quit_44 : decode cX4_quit 44 = .ok (.getfield 41, 3) := by decide +kernel
theorem dX4_quit_47 : decode cX4_quit 47 = .ok (.putfield 118, 3) := by decide +kernel
theorem dX4_quit_50 : decode cX4_quit 50 = .ok (.aload_n 0, 1) := by decide +kernel
theorem dX4_quit_51 : decode cX4_quit 51 = .ok (.getfield 41, 3) := by decide +kernel
theorem dX4_quit_54 : decode cX4_quit 54 = .ok (.aload_n 2, 1) := by decide +kernel
theorem dX4_quit_55 : decode cX4_quit 55 = .ok (.getfield 121, 3) := by decide +kernel
theorem dX4_quit_58 : decode cX4_quit 58 = .ok (.isub, 1) := by decide +kernel
theorem dX4_quit_59 : decode cX4_quit 59 = .ok (.ireturn, 1) := by decide +kernel
set_option maxRecDepth 20000 in
theorem ggX4_pay_X4_requireIndex : GoodIn wsX4_pay wsX4_requireIndex := goodIn_ca (goodIn_r _ [7, 8, 9] (by decide +kernel) (by decide +kernel)) (goodIn_sub (fun _ h => List.mem_cons_of_mem _ (List.mem_append_left _ (List.mem_append_left _ (List.mem_append_right _ h)))) (by decide +kernel))
set_option maxRecDepth 20000 in
theorem gX4_pay_X4_requireIndex : GoodIn wsX4_pay (va_wsS RX4 45 yX4_requireIndex wsX4_requireIndex) := goodIn_app (goodIn_of _ (by decide +kernel)) ggX4_pay_X4_requireIndex
set_option maxRecDepth 20000 in
theorem ggX4_pay_X4_requireWithin : GoodIn wsX4_pay wsX4_requireWithin := goodIn_ca (goodIn_r _ [12, 13, 14] (by decide +kernel) (by decide +kernel)) (goodIn_sub (fun _ h => List.mem_cons_of_mem _ (List.mem_append_left _ (List.mem_append_right _ h))) (by decide +kernel))
set_option maxRecDepth 20000 in
theorem gX4_pay_X4_requireWithin : GoodIn wsX4_pay (va_wsS RX4 49 yX4_requireWithin wsX4_requireWithin) := goodIn_app (goodIn_of _ (by decide +kernel)) ggX4_pay_X4_requireWithin
set_option maxRecDepth 20000 in
theorem ggX4_pay_X4_requireState : GoodIn wsX4_pay wsX4_requireState := goodIn_ca (goodIn_r _ [17, 18, 19] (by decide +kernel) (by decide +kernel)) (goodIn_sub (fun _ h => List.mem_cons_of_mem _ (List.mem_append_right _ h)) (by decide +kernel))
set_option maxRecDepth 20000 in
theorem gX4_pay_X4_requireState : GoodIn wsX4_pay (va_wsS RX4 59 yX4_requireState wsX4_requireState) := goodIn_app (goodIn_of _ (by decide +kernel)) ggX4_pay_X4_requireState
set_option maxRecDepth 20000 in
theorem ggX4_pay_X4_debt : GoodIn wsX4_pay wsX4_debt := goodIn_r _ [23, 2, 24, 25, 26, 27, 28, 29, 30, 31, 32, 33, 34, 35, 36, 37, 38, 39, 40, 41, 42, 43, 44, 45, 46, 47, 48, 49, 50, 51, 52, 53, 54, 55, 56, 57, 58, 59, 60, 61, 62, 63, 64, 65, 66, 67, 68] (by decide +kernel) (by decide +kernel)
set_option maxRecDepth 20000 in
theorem gX4_pay_X4_debt : GoodIn wsX4_pay (wsV RX4 126 RX4 yX4_debt wsX4_debt) := goodIn_app (goodIn_of _ (by decide +kernel)) ggX4_pay_X4_debt
theorem dX4_pay_0 : decode cX4_pay 0 = .ok (.iload_n 1, 1) := by decide +kernel
theorem dX4_pay_1 : decode cX4_pay 1 = .ok (.bipush 6, 2) := by decide +kernel
theorem dX4_pay_3 : decode cX4_pay 3 = .ok (.invokestatic 45, 3) := by decide +kernel
theorem dX4_pay_6 : decode cX4_pay 6 = .ok (.iload_n 2, 1) := by decide +kernel
theorem dX4_pay_7 : decode cX4_pay 7 = .ok (.iconst 1, 1) := by decide +kernel
theorem dX4_pay_8 : decode cX4_pay 8 = .ok (.ldc 124, 2) := by decide +kernel
theorem dX4_pay_10 : decode cX4_pay 10 = .ok (.invokestatic 49, 3) := by decide +kernel
theorem dX4_pay_13 : decode cX4_pay 13 = .ok (.aload_n 0, 1) := by decide +kernel
theorem dX4_pay_14 : decode cX4_pay 14 = .ok (.getfield 37, 3) := by decide +kernel
theorem dX4_pay_17 : decode cX4_pay 17 = .ok (.iload_n 1, 1) := by decide +kernel
theorem dX4_pay_18 : decode cX4_pay 18 = .ok (.iaload, 1) := by decide +kernel
theorem dX4_pay_19 : decode cX4_pay 19 = .ok (.iload_n 2, 1) := by decide +kernel
theorem dX4_pay_20 : decode cX4_pay 20 = .ok (.iadd, 1) := by decide +kernel
theorem dX4_pay_21 : decode cX4_pay 21 = .ok (.ldc 125, 2) := by decide +kernel
theorem dX4_pay_23 : decode cX4_pay 23 = .ok (.if_icmp .gt 7, 3) := by decide +kernel
theorem dX4_pay_26 : decode cX4_pay 26 = .ok (.iconst 1, 1) := by decide +kernel
theorem dX4_pay_27 : decode cX4_pay 27 = .ok (.goto 4, 3) := by decide +kernel
theorem dX4_pay_30 : decode cX4_pay 30 = .ok (.iconst 0, 1) := by decide +kernel
theorem dX4_pay_31 : decode cX4_pay 31 = .ok (.invokestatic 59, 3) := by decide +kernel
theorem dX4_pay_34 : decode cX4_pay 34 = .ok (.aload_n 0, 1) := by decide +kernel
theorem dX4_pay_35 : decode cX4_pay 35 = .ok (.getfield 37, 3) := by decide +kernel
theorem dX4_pay_38 : decode cX4_pay 38 = .ok (.iload_n 1, 1) := by decide +kernel
theorem dX4_pay_39 : decode cX4_pay 39 = .ok (.dup2, 1) := by decide +kernel
theorem dX4_pay_40 : decode cX4_pay 40 = .ok (.iaload, 1) := by decide +kernel
theorem dX4_pay_41 : decode cX4_pay 41 = .ok (.iload_n 2, 1) := by decide +kernel
theorem dX4_pay_42 : decode cX4_pay 42 = .ok (.iadd, 1) := by decide +kernel
theorem dX4_pay_43 : decode cX4_pay 43 = .ok (.iastore, 1) := by decide +kernel
theorem dX4_pay_44 : decode cX4_pay 44 = .ok (.aload_n 0, 1) := by decide +kernel
theorem dX4_pay_45 : decode cX4_pay 45 = .ok (.iload_n 1, 1) := by decide +kernel
theorem dX4_pay_46 : decode cX4_pay 46 = .ok (.invokevirtual 126, 3) := by decide +kernel
theorem dX4_pay_49 : decode cX4_pay 49 = .ok (.ireturn, 1) := by decide +kernel
set_option maxRecDepth 20000 in
theorem ggX4_setSkill_X4_requireIndex : GoodIn wsX4_setSkill wsX4_requireIndex := goodIn_ca (goodIn_r _ [6, 7, 8] (by decide +kernel) (by decide +kernel)) (goodIn_sub (fun _ h => List.mem_cons_of_mem _ (List.mem_append_left _ (List.mem_append_right _ h))) (by decide +kernel))
set_option maxRecDepth 20000 in
theorem gX4_setSkill_X4_requireIndex : GoodIn wsX4_setSkill (va_wsS RX4 45 yX4_requireIndex wsX4_requireIndex) := goodIn_app (goodIn_of _ (by decide +kernel)) ggX4_setSkill_X4_requireIndex
set_option maxRecDepth 20000 in
theorem ggX4_setSkill_X4_requireWithin : GoodIn wsX4_setSkill wsX4_requireWithin := goodIn_ca (goodIn_r _ [11, 12, 13] (by decide +kernel) (by decide +kernel)) (goodIn_sub (fun _ h => List.mem_cons_of_mem _ (List.mem_append_right _ h)) (by decide +kernel))
set_option maxRecDepth 20000 in
theorem gX4_setSkill_X4_requireWithin : GoodIn wsX4_setSkill (va_wsS RX4 49 yX4_requireWithin wsX4_requireWithin) := goodIn_app (goodIn_of _ (by decide +kernel)) ggX4_setSkill_X4_requireWithin
theorem dX4_setSkill_0 : decode cX4_setSkill 0 = .ok (.iload_n 1, 1) := by decide +kernel
theorem dX4_setSkill_1 : decode cX4_setSkill 1 = .ok (.bipush 6, 2) := by decide +kernel
theorem dX4_setSkill_3 : decode cX4_setSkill 3 = .ok (.invokestatic 45, 3) := by decide +kernel
theorem dX4_setSkill_6 : decode cX4_setSkill 6 = .ok (.iload_n 2, 1) := by decide +kernel
theorem dX4_setSkill_7 : decode cX4_setSkill 7 = .ok (.iconst 0, 1) := by decide +kernel
theorem dX4_setSkill_8 : decode cX4_setSkill 8 = .ok (.bipush 50, 2) := by decide +kernel
theorem dX4_setSkill_10 : decode cX4_setSkill 10 = .ok (.invokestatic 49, 3) := by decide +kernel
theorem dX4_setSkill_13 : decode cX4_setSkill 13 = .ok (.aload_n 0, 1) := by decide +kernel
theorem dX4_setSkill_14 : decode cX4_setSkill 14 = .ok (.getfield 26, 3) := by decide +kernel
theorem dX4_setSkill_17 : decode cX4_setSkill 17 = .ok (.getfield 130, 3) := by decide +kernel
theorem dX4_setSkill_20 : decode cX4_setSkill 20 = .ok (.iload_n 1, 1) := by decide +kernel
theorem dX4_setSkill_21 : decode cX4_setSkill 21 = .ok (.iaload, 1) := by decide +kernel
theorem dX4_setSkill_22 : decode cX4_setSkill 22 = .ok (.istore_n 3, 1) := by decide +kernel
theorem dX4_setSkill_23 : decode cX4_setSkill 23 = .ok (.aload_n 0, 1) := by decide +kernel
theorem dX4_setSkill_24 : decode cX4_setSkill 24 = .ok (.getfield 26, 3) := by decide +kernel
theorem dX4_setSkill_27 : decode cX4_setSkill 27 = .ok (.getfield 130, 3) := by decide +kernel
theorem dX4_setSkill_30 : decode cX4_setSkill 30 = .ok (.iload_n 1, 1) := by decide +kernel
theorem dX4_setSkill_31 : decode cX4_setSkill 31 = .ok (.iload_n 2, 1) := by decide +kernel
theorem dX4_setSkill_32 : decode cX4_setSkill 32 = .ok (.iastore, 1) := by decide +kernel
theorem dX4_setSkill_33 : decode cX4_setSkill 33 = .ok (.iload_n 3, 1) := by decide +kernel
theorem dX4_setSkill_34 : decode cX4_setSkill 34 = .ok (.ireturn, 1) := by decide +kernel
set_option maxRecDepth 20000 in
theorem ggX4_ask_X4_requireIndex : GoodIn wsX4_ask wsX4_requireIndex := goodIn_ca (goodIn_r _ [6, 7, 8] (by decide +kernel) (by decide +kernel)) (goodIn_sub (fun _ h => List.mem_cons_of_mem _ (List.mem_append_left _ (List.mem_append_right _ h))) (by decide +kernel))
set_option maxRecDepth 20000 in
theorem gX4_ask_X4_requireIndex : GoodIn wsX4_ask (va_wsS RX4 45 yX4_requireIndex wsX4_requireIndex) := goodIn_app (goodIn_of _ (by decide +kernel)) ggX4_ask_X4_requireIndex
set_option maxRecDepth 20000 in
theorem ggX4_ask_X0_wish : GoodIn wsX4_ask wsX0_wish := goodIn_r _ [12] (by decide +kernel) (by decide +kernel)
set_option maxRecDepth 20000 in
theorem gX4_ask_X0_wish : GoodIn wsX4_ask (va_wsS RX4 133 yX0_wish wsX0_wish) := goodIn_app (goodIn_of _ (by decide +kernel)) ggX4_ask_X0_wish
set_option maxRecDepth 20000 in
theorem ggX4_ask_X4_requireState : GoodIn wsX4_ask wsX4_requireState := goodIn_ca (goodIn_r _ [15, 16, 17] (by decide +kernel) (by decide +kernel)) (goodIn_sub (fun _ h => List.mem_cons_of_mem _ (List.mem_append_right _ h)) (by decide +kernel))
set_option maxRecDepth 20000 in
theorem gX4_ask_X4_requireState : GoodIn wsX4_ask (va_wsS RX4 59 yX4_requireState wsX4_requireState) := goodIn_app (goodIn_of _ (by decide +kernel)) ggX4_ask_X4_requireState
set_option maxRecDepth 20000 in
theorem ggX4_ask_X0_askedBy : GoodIn wsX4_ask wsX0_askedBy := goodIn_r _ [21, 22, 23, 10, 11, 12, 30, 31, 32, 33, 34, 35, 36, 37, 38] (by decide +kernel) (by decide +kernel)
set_option maxRecDepth 20000 in
theorem gX4_ask_X0_askedBy : GoodIn wsX4_ask (wsV RX4 139 RX0 yX0_askedBy wsX0_askedBy) := goodIn_app (goodIn_of _ (by decide +kernel)) ggX4_ask_X0_askedBy
theorem dX4_ask_0 : decode cX4_ask 0 = .ok (.iload_n 1, 1) := by decide +kernel
theorem dX4_ask_1 : decode cX4_ask 1 = .ok (.bipush 6, 2) := by decide +kernel
theorem dX4_ask_3 : decode cX4_ask 3 = .ok (.invokestatic 45, 3) := by decide +kernel
theorem dX4_ask_6 : decode cX4_ask 6 = .ok (.iload_n 2, 1) := by decide +kernel
theorem dX4_ask_7 : decode cX4_ask 7 = .ok (.bipush 12, 2) := by decide +kernel
theorem dX4_ask_9 : decode cX4_ask 9 = .ok (.invokestatic 45, 3) := by decide +kernel
theorem dX4_ask_12 : decode cX4_ask 12 = .ok (.iload_n 1, 1) := by decide +kernel
theorem dX4_ask_13 : decode cX4_ask 13 = .ok (.iload_n 2, 1) := by decide +kernel
theorem dX4_ask_14 : decode cX4_ask 14 = .ok (.invokestatic 133, 3) := by decide +kernel
theorem dX4_ask_17 : decode cX4_ask 17 = .ok (.istore_n 3, 1) := by decide +kernel
theorem dX4_ask_18 : decode cX4_ask 18 = .ok (.aload_n 0, 1) := by decide +kernel
theorem dX4_ask_19 : decode cX4_ask 19 = .ok (.getfield 26, 3) := by decide +kernel
theorem dX4_ask_22 : decode cX4_ask 22 = .ok (.getfield 136, 3) := by decide +kernel
theorem dX4_ask_25 : decode cX4_ask 25 = .ok (.iload_n 3, 1) := by decide +kernel
theorem dX4_ask_26 : decode cX4_ask 26 = .ok (.baload, 1) := by decide +kernel
theorem dX4_ask_27 : decode cX4_ask 27 = .ok (.ifCond .ne 7, 3) := by decide +kernel
theorem dX4_ask_30 : decode cX4_ask 30 = .ok (.iconst 1, 1) := by decide +kernel
theorem dX4_ask_31 : decode cX4_ask 31 = .ok (.goto 4, 3) := by decide +kernel
theorem dX4_ask_34 : decode cX4_ask 34 = .ok (.iconst 0, 1) := by decide +kernel
theorem dX4_ask_35 : decode cX4_ask 35 = .ok (.invokestatic 59, 3) := by decide +kernel
theorem dX4_ask_38 : decode cX4_ask 38 = .ok (.aload_n 0, 1) := by decide +kernel
theorem dX4_ask_39 : decode cX4_ask 39 = .ok (.getfield 26, 3) := by decide +kernel
theorem dX4_ask_42 : decode cX4_ask 42 = .ok (.getfield 136, 3) := by decide +kernel
theorem dX4_ask_45 : decode cX4_ask 45 = .ok (.iload_n 3, 1) := by decide +kernel
theorem dX4_ask_46 : decode cX4_ask 46 = .ok (.iconst 1, 1) := by decide +kernel
theorem dX4_ask_47 : decode cX4_ask 47 = .ok (.bastore, 1) := by decide +kernel
theorem dX4_ask_48 : decode cX4_ask 48 = .ok (.aload_n 0, 1) := by decide +kernel
theorem dX4_ask_49 : decode cX4_ask 49 = .ok (.getfield 26, 3) := by decide +kernel
theorem dX4_ask_52 : decode cX4_ask 52 = .ok (.iload_n 1, 1) := by decide +kernel
theorem dX4_ask_53 : decode cX4_ask 53 = .ok (.invokevirtual 139, 3) := by decide +kernel
theorem dX4_ask_56 : decode cX4_ask 56 = .ok (.ireturn, 1) := by decide +kernel
set_option maxRecDepth 20000 in
theorem ggX4_lot_X4_requireWithin : GoodIn wsX4_lot wsX4_requireWithin := goodIn_ca (goodIn_r _ [7, 8, 9] (by decide +kernel) (by decide +kernel)) (goodIn_sub (fun _ h => List.mem_cons_of_mem _ (List.mem_append_left _ (List.mem_append_right _ h))) (by decide +kernel))
set_option maxRecDepth 20000 in
theorem gX4_lot_X4_requireWithin : GoodIn wsX4_lot (va_wsS RX4 49 yX4_requireWithin wsX4_requireWithin) := goodIn_app (goodIn_of _ (by decide +kernel)) ggX4_lot_X4_requireWithin
set_option maxRecDepth 20000 in
theorem ggX4_lot_X4_requireState : GoodIn wsX4_lot wsX4_requireState := goodIn_ca (goodIn_r _ [12, 13, 14] (by decide +kernel) (by decide +kernel)) (goodIn_sub (fun _ h => List.mem_cons_of_mem _ (List.mem_append_right _ h)) (by decide +kernel))
set_option maxRecDepth 20000 in
theorem gX4_lot_X4_requireState : GoodIn wsX4_lot (va_wsS RX4 59 yX4_requireState wsX4_requireState) := goodIn_app (goodIn_of _ (by decide +kernel)) ggX4_lot_X4_requireState
theorem dX4_lot_0 : decode cX4_lot 0 = .ok (.iload_n 1, 1) := by decide +kernel
theorem dX4_lot_1 : decode cX4_lot 1 = .ok (.iconst 0, 1) := by decide +kernel
theorem dX4_lot_2 : decode cX4_lot 2 = .ok (.sipush 1000, 3) := by decide +kernel
theorem dX4_lot_5 : decode cX4_lot 5 = .ok (.invokestatic 49, 3) := by decide +kernel
theorem dX4_lot_8 : decode cX4_lot 8 = .ok (.aload_n 0, 1) := by decide +kernel
theorem dX4_lot_9 : decode cX4_lot 9 = .ok (.getfield 26, 3) := by decide +kernel
theorem dX4_lot_12 : decode cX4_lot 12 = .ok (.getfield 142, 3) := by decide +kernel
theorem dX4_lot_15 : decode cX4_lot 15 = .ok (.bipush 50, 2) := by decide +kernel
theorem dX4_lot_17 : decode cX4_lot 17 = .ok (.if_icmp .ge 7, 3) := by decide +kernel
theorem dX4_lot_20 : decode cX4_lot 20 = .ok (.iconst 1, 1) := by decide +kernel
theorem dX4_lot_21 : decode cX4_lot 21 = .ok (.goto 4, 3) := by decide +kernel
theorem dX4_lot_24 : decode cX4_lot 24 = .ok (.iconst 0, 1) := by decide +kernel
theorem dX4_lot_25 : decode cX4_lot 25 = .ok (.invokestatic 59, 3) := by decide +kernel
theorem dX4_lot_28 : decode cX4_lot 28 = .ok (.aload_n 0, 1) := by decide +kernel
theorem dX4_lot_29 : decode cX4_lot 29 = .ok (.getfield 26, 3) := by decide +kernel
theorem dX4_lot_32 : decode cX4_lot 32 = .ok (.getfield 145, 3) := by decide +kernel
theorem dX4_lot_35 : decode cX4_lot 35 = .ok (.aload_n 0, 1) := by decide +kernel
theorem dX4_lot_36 : decode cX4_lot 36 = .ok (.getfield 26, 3) := by decide +kernel
theorem dX4_lot_39 : decode cX4_lot 39 = .ok (.getfield 142, 3) := by decide +kernel
theorem dX4_lot_42 : decode cX4_lot 42 = .ok (.iload_n 1, 1) := by decide +kernel
theorem dX4_lot_43 : decode cX4_lot 43 = .ok (.iastore, 1) := by decide +kernel
theorem dX4_lot_44 : decode cX4_lot 44 = .ok (.aload_n 0, 1) := by decide +kernel
theorem dX4_lot_45 : decode cX4_lot 45 = .ok (.getfield 26, 3) := by decide +kernel
theorem dX4_lot_48 : decode cX4_lot 48 = .ok (.dup, 1) := by decide +kernel
theorem dX4_lot_49 : decode cX4_lot 49 = .ok (.getfield 142, 3) := by decide +kernel
theorem dX4_lot_52 : decode cX4_lot 52 = .ok (.iconst 1, 1) := by decide +kernel
theorem dX4_lot_53 : decode cX4_lot 53 = .ok (.iadd, 1) := by decide +kernel
theorem dX4_lot_54 : decode cX4_lot 54 = .ok (.putfield 142, 3) := by decide +kernel
theorem dX4_lot_57 : decode cX4_lot 57 = .ok (.aload_n 0, 1) := by decide +kernel
theorem dX4_lot_58 : decode cX4_lot 58 = .ok (.getfield 26, 3) := by decide +kernel
theorem dX4_lot_61 : decode cX4_lot 61 = .ok (.getfield 142, 3) := by decide +kernel
theorem dX4_lot_64 : decode cX4_lot 64 = .ok (.ireturn, 1) := by decide +kernel
theorem dX4_hour_0 : decode cX4_hour 0 = .ok (.aload_n 0, 1) := by decide +kernel
theorem dX4_hour_1 : decode cX4_hour 1 = .ok (.getfield 41, 3) := by decide +kernel
theorem dX4_hour_4 : decode cX4_hour 4 = .ok (.ireturn, 1) := by decide +kernel
set_option maxRecDepth 20000 in
theorem ggX4_steps_X4_endedCell : GoodIn wsX4_steps wsX4_endedCell := goodIn_ca (goodIn_ca (goodIn_r _ [7, 8, 9, 6, 10, 11, 12, 13, 14, 15, 16, 17, 18, 19, 20, 21, 22, 23, 24, 25, 26, 27, 28, 29, 30, 31] (by decide +kernel) (by decide +kernel)) (goodIn_sub (fun _ h => List.mem_cons_of_mem _ (List.mem_append_left _ (List.mem_append_right _ h))) (by decide +kernel))) (goodIn_sub (fun _ h => List.mem_cons_of_mem _ (List.mem_append_right _ h)) (by decide +kernel))
set_option maxRecDepth 20000 in
theorem gX4_steps_X4_endedCell : GoodIn wsX4_steps (wsV RX4 151 RX4 yX4_endedCell wsX4_endedCell) := goodIn_app (goodIn_of _ (by decide +kernel)) ggX4_steps_X4_endedCell
theorem dX4_steps_0 : decode cX4_steps 0 = .ok (.aload_n 0, 1) := by decide +kernel
theorem dX4_steps_1 : decode cX4_steps 1 = .ok (.getfield 12, 3) := by decide +kernel
theorem dX4_steps_4 : decode cX4_steps 4 = .ok (.getfield 148, 3) := by decide +kernel
theorem dX4_steps_7 : decode cX4_steps 7 = .ok (.aload_n 0, 1) := by decide +kernel
theorem dX4_steps_8 : decode cX4_steps 8 = .ok (.iload_n 1, 1) := by decide +kernel
theorem dX4_steps_9 : decode cX4_steps 9 = .ok (.iload_n 2, 1) := by decide +kernel
theorem dX4_steps_10 : decode cX4_steps 10 = .ok (.invokevirtual 151, 3) := by decide +kernel
theorem dX4_steps_13 : decode cX4_steps 13 = .ok (.iaload, 1) := by decide +kernel
theorem dX4_steps_14 : decode cX4_steps 14 = .ok (.ireturn, 1) := by decide +kernel
set_option maxRecDepth 20000 in
theorem ggX4_crowd_X4_endedCell : GoodIn wsX4_crowd wsX4_endedCell := goodIn_ca (goodIn_ca (goodIn_r _ [7, 8, 9, 6, 10, 11, 12, 13, 14, 15, 16, 17, 18, 19, 20, 21, 22, 23, 24, 25, 26, 27, 28, 29, 30, 31] (by decide +kernel) (by decide +kernel)) (goodIn_sub (fun _ h => List.mem_cons_of_mem _ (List.mem_append_left _ (List.mem_append_right _ h))) (by decide +kernel))) (goodIn_sub (fun _ h => List.mem_cons_of_mem _ (List.mem_append_right _ h)) (by decide +kernel))
set_option maxRecDepth 20000 in
theorem gX4_crowd_X4_endedCell : GoodIn wsX4_crowd (wsV RX4 151 RX4 yX4_endedCell wsX4_endedCell) := goodIn_app (goodIn_of _ (by decide +kernel)) ggX4_crowd_X4_endedCell
theorem dX4_crowd_0 : decode cX4_crowd 0 = .ok (.aload_n 0, 1) := by decide +kernel
theorem dX4_crowd_1 : decode cX4_crowd 1 = .ok (.getfield 12, 3) := by decide +kernel
theorem dX4_crowd_4 : decode cX4_crowd 4 = .ok (.getfield 154, 3) := by decide +kernel
theorem dX4_crowd_7 : decode cX4_crowd 7 = .ok (.aload_n 0, 1) := by decide +kernel
theorem dX4_crowd_8 : decode cX4_crowd 8 = .ok (.iload_n 1, 1) := by decide +kernel
theorem dX4_crowd_9 : decode cX4_crowd 9 = .ok (.iload_n 2, 1) := by decide +kernel
theorem dX4_crowd_10 : decode cX4_crowd 10 = .ok (.invokevirtual 151, 3) := by decide +kernel
theorem dX4_crowd_13 : decode cX4_crowd 13 = .ok (.iaload, 1) := by decide +kernel
theorem dX4_crowd_14 : decode cX4_crowd 14 = .ok (.ireturn, 1) := by decide +kernel
set_option maxRecDepth 20000 in
theorem ggX4_through_X4_requireEnded : GoodIn wsX4_through wsX4_requireEnded := goodIn_ca (goodIn_r _ [7, 8, 9, 10, 6, 11, 12, 13, 14, 15, 16, 17, 18, 19] (by decide +kernel) (by decide +kernel)) (goodIn_sub (fun _ h => List.mem_cons_of_mem _ (List.mem_append_right _ h)) (by decide +kernel))
set_option maxRecDepth 20000 in
theorem gX4_through_X4_requireEnded : GoodIn wsX4_through (wsV RX4 84 RX4 yX4_requireEnded wsX4_requireEnded) := goodIn_app (goodIn_of _ (by decide +kernel)) ggX4_through_X4_requireEnded
theorem dX4_through_0 : decode cX4_through 0 = .ok (.aload_n 0, 1) := by decide +kernel
theorem dX4_through_1 : decode cX4_through 1 = .ok (.iload_n 1, 1) := by decide +kernel
theorem dX4_through_2 : decode cX4_through 2 = .ok (.invokevirtual 84, 3) := by decide +kernel
theorem dX4_through_5 : decode cX4_through 5 = .ok (.aload_n 0, 1) := by decide +kernel
theorem dX4_through_6 : decode cX4_through 6 = .ok (.getfield 12, 3) := by decide +kernel
theorem dX4_through_9 : decode cX4_through 9 = .ok (.getfield 157, 3) := by decide +kernel
theorem dX4_through_12 : decode cX4_through 12 = .ok (.iload_n 1, 1) := by decide +kernel
theorem dX4_through_13 : decode cX4_through 13 = .ok (.iaload, 1) := by decide +kernel
theorem dX4_through_14 : decode cX4_through 14 = .ok (.ireturn, 1) := by decide +kernel
set_option maxRecDepth 20000 in
theorem ggX4_reading_X4_endedCell : GoodIn wsX4_reading wsX4_endedCell := goodIn_ca (goodIn_ca (goodIn_r _ [7, 8, 9, 6, 10, 11, 12, 13, 14, 15, 16, 17, 18, 19, 20, 21, 22, 23, 24, 25, 26, 27, 28, 29, 30, 31] (by decide +kernel) (by decide +kernel)) (goodIn_sub (fun _ h => List.mem_cons_of_mem _ (List.mem_append_left _ (List.mem_append_right _ h))) (by decide +kernel))) (goodIn_sub (fun _ h => List.mem_cons_of_mem _ (List.mem_append_right _ h)) (by decide +kernel))
set_option maxRecDepth 20000 in
theorem gX4_reading_X4_endedCell : GoodIn wsX4_reading (wsV RX4 151 RX4 yX4_endedCell wsX4_endedCell) := goodIn_app (goodIn_of _ (by decide +kernel)) ggX4_reading_X4_endedCell
theorem dX4_reading_0 : decode cX4_reading 0 = .ok (.aload_n 0, 1) := by decide +kernel
theorem dX4_reading_1 : decode cX4_reading 1 = .ok (.getfield 19, 3) := by decide +kernel
theorem dX4_reading_4 : decode cX4_reading 4 = .ok (.getfield 92, 3) := by decide +kernel
theorem dX4_reading_7 : decode cX4_reading 7 = .ok (.aload_n 0, 1) := by decide +kernel
theorem dX4_reading_8 : decode cX4_reading 8 = .ok (.iload_n 1, 1) := by decide +kernel
theorem dX4_reading_9 : decode cX4_reading 9 = .ok (.iload_n 2, 1) := by decide +kernel
theorem dX4_reading_10 : decode cX4_reading 10 = .ok (.invokevirtual 151, 3) := by decide +kernel
theorem dX4_reading_13 : decode cX4_reading 13 = .ok (.iaload, 1) := by decide +kernel
theorem dX4_reading_14 : decode cX4_reading 14 = .ok (.ireturn, 1) := by decide +kernel
set_option maxRecDepth 20000 in
theorem ggX4_taken_X4_requireIndex : GoodIn wsX4_taken wsX4_requireIndex := goodIn_ca (goodIn_r _ [5, 6, 7] (by decide +kernel) (by decide +kernel)) (goodIn_sub (fun _ h => List.mem_cons_of_mem _ (List.mem_append_left _ (List.mem_append_right _ h))) (by decide +kernel))
set_option maxRecDepth 20000 in
theorem gX4_taken_X4_requireIndex : GoodIn wsX4_taken (va_wsS RX4 45 yX4_requireIndex wsX4_requireIndex) := goodIn_app (goodIn_of _ (by decide +kernel)) ggX4_taken_X4_requireIndex
set_option maxRecDepth 20000 in
theorem ggX4_taken_X4_requireWithin : GoodIn wsX4_taken wsX4_requireWithin := goodIn_ca (goodIn_r _ [10, 11, 12] (by decide +kernel) (by decide +kernel)) (goodIn_sub (fun _ h => List.mem_cons_of_mem _ (List.mem_append_right _ h)) (by decide +kernel))
set_option maxRecDepth 20000 in
theorem gX4_taken_X4_requireWithin : GoodIn wsX4_taken (va_wsS RX4 49 yX4_requireWithin wsX4_requireWithin) := goodIn_app (goodIn_of _ (by decide +kernel)) ggX4_taken_X4_requireWithin
set_option maxRecDepth 20000 in
theorem ggX4_taken_X1_foundLast : GoodIn wsX4_taken wsX1_foundLast := goodIn_r _ [17, 18, 19, 20, 21, 28, 29, 30, 31, 32, 33, 34, 35] (by decide +kernel) (by decide +kernel)
set_option maxRecDepth 20000 in
theorem gX4_taken_X1_foundLast : GoodIn wsX4_taken (wsV RX4 160 RX1 yX1_foundLast wsX1_foundLast) := goodIn_app (goodIn_of _ (by decide +kernel)) ggX4_taken_X1_foundLast
theorem dX4_taken_0 : decode cX4_taken 0 = .ok (.iload_n 1, 1) := by decide +kernel
theorem dX4_taken_1 : decode cX4_taken 1 = .ok (.bipush 12, 2) := by decide +kernel
theorem dX4_taken_3 : decode cX4_taken 3 = .ok (.invokestatic 45, 3) := by decide +kernel
theorem dX4_taken_6 : decode cX4_taken 6 = .ok (.iload_n 2, 1) := by decide +kernel
theorem dX4_taken_7 : decode cX4_taken 7 = .ok (.iconst 0, 1) := by decide +kernel
theorem dX4_taken_8 : decode cX4_taken 8 = .ok (.sipush 199, 3) := by decide +kernel
theorem dX4_taken_11 : decode cX4_taken 11 = .ok (.invokestatic 49, 3) := by decide +kernel
theorem dX4_taken_14 : decode cX4_taken 14 = .ok (.aload_n 0, 1) := by decide +kernel
theorem dX4_taken_15 : decode cX4_taken 15 = .ok (.getfield 19, 3) := by decide +kernel
theorem dX4_taken_18 : decode cX4_taken 18 = .ok (.iload_n 1, 1) := by decide +kernel
theorem dX4_taken_19 : decode cX4_taken 19 = .ok (.iload_n 2, 1) := by decide +kernel
theorem dX4_taken_20 : decode cX4_taken 20 = .ok (.invokevirtual 160, 3) := by decide +kernel
theorem dX4_taken_23 : decode cX4_taken 23 = .ok (.ireturn, 1) := by decide +kernel
set_option maxRecDepth 20000 in
theorem ggX4_count_X4_endedCell : GoodIn wsX4_count wsX4_endedCell := goodIn_ca (goodIn_ca (goodIn_r _ [7, 8, 9, 6, 10, 11, 12, 13, 14, 15, 16, 17, 18, 19, 20, 21, 22, 23, 24, 25, 26, 27, 28, 29, 30, 31] (by decide +kernel) (by decide +kernel)) (goodIn_sub (fun _ h => List.mem_cons_of_mem _ (List.mem_append_left _ (List.mem_append_right _ h))) (by decide +kernel))) (goodIn_sub (fun _ h => List.mem_cons_of_mem _ (List.mem_append_right _ h)) (by decide +kernel))
set_option maxRecDepth 20000 in
theorem gX4_count_X4_endedCell : GoodIn wsX4_count (wsV RX4 151 RX4 yX4_endedCell wsX4_endedCell) := goodIn_app (goodIn_of _ (by decide +kernel)) ggX4_count_X4_endedCell
theorem dX4_count_0 : decode cX4_count 0 = .ok (.aload_n 0, 1) := by decide +kernel
theorem dX4_count_1 : decode cX4_count 1 = .ok (.getfield 19, 3) := by decide +kernel
theorem dX4_count_4 : decode cX4_count 4 = .ok (.getfield 163, 3) := by decide +kernel
theorem dX4_count_7 : decode cX4_count 7 = .ok (.aload_n 0, 1) := by decide +kernel
theorem dX4_count_8 : decode cX4_count 8 = .ok (.iload_n 1, 1) := by decide +kernel
theorem dX4_count_9 : decode cX4_count 9 = .ok (.iload_n 2, 1) := by decide +kernel
theorem dX4_count_10 : decode cX4_count 10 = .ok (.invokevirtual 151, 3) := by decide +kernel
theorem dX4_count_13 : decode cX4_count 13 = .ok (.iaload, 1) := by decide +kernel
theorem dX4_count_14 : decode cX4_count 14 = .ok (.ireturn, 1) := by decide +kernel
set_option maxRecDepth 20000 in
theorem ggX4_countAnew_X4_requireIndex : GoodIn wsX4_countAnew wsX4_requireIndex := goodIn_ca (goodIn_r _ [5, 6, 7] (by decide +kernel) (by decide +kernel)) (goodIn_sub (fun _ h => List.mem_cons_of_mem _ (List.mem_append_left _ (List.mem_append_right _ h))) (by decide +kernel))
set_option maxRecDepth 20000 in
theorem gX4_countAnew_X4_requireIndex : GoodIn wsX4_countAnew (va_wsS RX4 45 yX4_requireIndex wsX4_requireIndex) := goodIn_app (goodIn_of _ (by decide +kernel)) ggX4_countAnew_X4_requireIndex
set_option maxRecDepth 20000 in
theorem ggX4_countAnew_X4_requireEnded : GoodIn wsX4_countAnew wsX4_requireEnded := goodIn_ca (goodIn_r _ [11, 12, 13, 14, 4, 15, 16, 17, 53, 54, 55, 56, 57, 58] (by decide +kernel) (by decide +kernel)) (goodIn_sub (fun _ h => List.mem_cons_of_mem _ (List.mem_append_right _ h)) (by decide +kernel))
set_option maxRecDepth 20000 in
theorem gX4_countAnew_X4_requireEnded : GoodIn wsX4_countAnew (wsV RX4 84 RX4 yX4_requireEnded wsX4_requireEnded) := goodIn_app (goodIn_of _ (by decide +kernel)) ggX4_countAnew_X4_requireEnded
set_option maxRecDepth 20000 in
theorem ggX4_countAnew_X1_foundAnew : GoodIn wsX4_countAnew wsX1_foundAnew := goodIn_r _ [22, 23, 24, 25, 21, 26, 27, 28, 4, 29, 30, 31, 32, 33, 34, 35, 36, 37, 38, 39, 40, 41, 42, 43, 44, 45, 46, 47, 48, 49, 50, 51, 52, 59, 60, 61, 62, 63, 64, 65, 66] (by decide +kernel) (by decide +kernel)
set_option maxRecDepth 20000 in
theorem gX4_countAnew_X1_foundAnew : GoodIn wsX4_countAnew (wsV RX4 166 RX1 yX1_foundAnew wsX1_foundAnew) := goodIn_app (goodIn_of _ (by decide +kernel)) ggX4_countAnew_X1_foundAnew
theorem dX4_countAnew_0 : decode cX4_countAnew 0 = .ok (.iload_n 1, 1) := by decide +kernel
theorem dX4_countAnew_1 : decode cX4_countAnew 1 = .ok (.bipush 12, 2) := by decide +kernel
theorem dX4_countAnew_3 : decode cX4_countAnew 3 = .ok (.invokestatic 45, 3) := by decide +kernel
theorem dX4_countAnew_6 : decode cX4_countAnew 6 = .ok (.aload_n 0, 1) := by decide +kernel
theorem dX4_countAnew_7 : decode cX4_countAnew 7 = .ok (.iload_n 2, 1) := by decide +kernel
theorem dX4_countAnew_8 : decode cX4_countAnew 8 = .ok (.invokevirtual 84, 3) := by decide +kernel
theorem dX4_countAnew_11 : decode cX4_countAnew 11 = .ok (.aload_n 0, 1) := by decide +kernel
theorem dX4_countAnew_12 : decode cX4_countAnew 12 = .ok (.getfield 19, 3) := by decide +kernel
theorem dX4_countAnew_15 : decode cX4_countAnew 15 = .ok (.iload_n 1, 1) := by decide +kernel
theorem dX4_countAnew_16 : decode cX4_countAnew 16 = .ok (.iload_n 2, 1) := by decide +kernel
theorem dX4_countAnew_17 : decode cX4_countAnew 17 = .ok (.invokevirtual 166, 3) := by decide +kernel
theorem dX4_countAnew_20 : decode cX4_countAnew 20 = .ok (.ireturn, 1) := by decide +kernel
set_option maxRecDepth 20000 in
theorem ggX4_missed_X4_requireEnded : GoodIn wsX4_missed wsX4_requireEnded := goodIn_ca (goodIn_r _ [13, 14, 15, 16, 12, 17, 18, 19, 23, 24, 25, 26, 27, 28] (by decide +kernel) (by decide +kernel)) (goodIn_sub (fun _ h => List.mem_cons_of_mem _ (List.mem_append_right _ h)) (by decide +kernel))
set_option maxRecDepth 20000 in
theorem gX4_missed_X4_requireEnded : GoodIn wsX4_missed (wsV RX4 84 RX4 yX4_requireEnded wsX4_requireEnded) := goodIn_app (goodIn_of _ (by decide +kernel)) ggX4_missed_X4_requireEnded
set_option maxRecDepth 20000 in
theorem ggX4_missed_X4_cell : GoodIn wsX4_missed wsX4_cell := goodIn_r _ [22] (by decide +kernel) (by decide +kernel)
set_option maxRecDepth 20000 in
theorem gX4_missed_X4_cell : GoodIn wsX4_missed (va_wsS RX4 95 yX4_cell wsX4_cell) := goodIn_app (goodIn_of _ (by decide +kernel)) ggX4_missed_X4_cell
theorem dX4_missed_0 : decode cX4_missed 0 = .ok (.aload_n 0, 1) := by decide +kernel
theorem dX4_missed_1 : decode cX4_missed 1 = .ok (.iload_n 1, 1) := by decide +kernel
theorem dX4_missed_2 : decode cX4_missed 2 = .ok (.invokevirtual 84, 3) := by decide +kernel
theorem dX4_missed_5 : decode cX4_missed 5 = .ok (.iconst 0, 1) := by decide +kernel
theorem dX4_missed_6 : decode cX4_missed 6 = .ok (.istore_n 2, 1) := by decide +kernel
theorem dX4_missed_7 : decode cX4_missed 7 = .ok (.iconst 0, 1) := by decide +kernel
theorem dX4_missed_8 : decode cX4_missed 8 = .ok (.istore_n 3, 1) := by decide +kernel
theorem dX4_missed_9 : decode cX4_missed 9 = .ok (.iload_n 3, 1) := by decide +kernel
theorem dX4_missed_10 : decode cX4_missed 10 = .ok (.bipush 12, 2) := by decide +kernel
theorem dX4_missed_12 : decode cX4_missed 12 = .ok (.if_icmp .ge 43, 3) := by decide +kernel
theorem dX4_missed_15 : decode cX4_missed 15 = .ok (.iload_n 3, 1) := by decide +kernel
theorem dX4_missed_16 : decode cX4_missed 16 = .ok (.iload_n 1, 1) := by decide +kernel
theorem dX4_missed_17 : decode cX4_missed 17 = .ok (.invokestatic 95, 3) := by decide +kernel
theorem dX4_missed_20 : decode cX4_missed 20 = .ok (.istore 4, 2) := by decide +kernel
theorem dX4_missed_22 : decode cX4_missed 22 = .ok (.iload_n 2, 1) := by decide +kernel
theorem dX4_missed_23 : decode cX4_missed 23 = .ok (.aload_n 0, 1) := by decide +kernel
theorem dX4_missed_24 : decode cX4_missed 24 = .ok (.getfield 19, 3) := by decide +kernel
theorem dX4_missed_27 : decode cX4_missed 27 = .ok (.getfield 163, 3) := by decide +kernel
theorem dX4_missed_30 : decode cX4_missed 30 = .ok (.iload 4, 2) := by decide +kernel
theorem dX4_missed_32 : decode cX4_missed 32 = .ok (.iaload, 1) := by decide +kernel
theorem dX4_missed_33 : decode cX4_missed 33 = .ok (.aload_n 0, 1) := by decide +kernel
theorem dX4_missed_34 : decode cX4_missed 34 = .ok (.getfield 12, 3) := by decide +kernel
theorem dX4_missed_37 : decode cX4_missed 37 = .ok (.getfield 148, 3) := by decide +kernel
theorem dX4_missed_40 : decode cX4_missed 40 = .ok (.iload 4, 2) := by decide +kernel
theorem dX4_missed_42 : decode cX4_missed 42 = .ok (.iaload, 1) := by decide +kernel
theorem dX4_missed_43 : decode cX4_missed 43 = .ok (.isub, 1) := by decide +kernel
theorem dX4_missed_44 : decode cX4_missed 44 = .ok (.invokestatic 169, 3) := by decide +kernel
theorem dX4_missed_47 : decode cX4_missed 47 = .ok (.iadd, 1) := by decide +kernel
theorem dX4_missed_48 : decode cX4_missed 48 = .ok (.istore_n 2, 1) := by decide +kernel
theorem dX4_missed_49 : decode cX4_missed 49 = .ok (.iinc 3 1, 3) := by decide +kernel
theorem dX4_missed_52 : decode cX4_missed 52 = .ok (.goto (-43), 3) := by decide +kernel
theorem dX4_missed_55 : decode cX4_missed 55 = .ok (.iload_n 2, 1) := by decide +kernel
theorem dX4_missed_56 : decode cX4_missed 56 = .ok (.ireturn, 1) := by decide +kernel
set_option maxRecDepth 20000 in
theorem ggX4_leases_Jx4a65c_size_8abf5 : GoodIn wsX4_leases wsJx4a65c_size_8abf5 := goodIn_r _ [6, 7, 14, 15, 16] (by decide +kernel) (by decide +kernel)
set_option maxRecDepth 20000 in
theorem gX4_leases_Jx4a65c_size_8abf5 : GoodIn wsX4_leases (wsV RX4 98 RJx4a65c yJx4a65c_size_8abf5 wsJx4a65c_size_8abf5) := goodIn_app (goodIn_of _ (by decide +kernel)) ggX4_leases_Jx4a65c_size_8abf5
theorem dX4_leases_0 : decode cX4_leases 0 = .ok (.aload_n 0, 1) := by decide +kernel
theorem dX4_leases_1 : decode cX4_leases 1 = .ok (.getfield 33, 3) := by decide +kernel
theorem dX4_leases_4 : decode cX4_leases 4 = .ok (.invokevirtual 98, 3) := by decide +kernel
theorem dX4_leases_7 : decode cX4_leases 7 = .ok (.ireturn, 1) := by decide +kernel
set_option maxRecDepth 20000 in
theorem ggX4_isOf_Jx4a65c_size_8abf5 : GoodIn wsX4_isOf wsJx4a65c_size_8abf5 := goodIn_r _ [7, 8, 45, 46, 47] (by decide +kernel) (by decide +kernel)
set_option maxRecDepth 20000 in
theorem gX4_isOf_Jx4a65c_size_8abf5 : GoodIn wsX4_isOf (wsV RX4 98 RJx4a65c yJx4a65c_size_8abf5 wsJx4a65c_size_8abf5) := goodIn_app (goodIn_of _ (by decide +kernel)) ggX4_isOf_Jx4a65c_size_8abf5
set_option maxRecDepth 20000 in
theorem ggX4_isOf_X4_requireIndex : GoodIn wsX4_isOf wsX4_requireIndex := goodIn_ca (goodIn_r _ [12, 13, 14] (by decide +kernel) (by decide +kernel)) (goodIn_sub (fun _ h => List.mem_cons_of_mem _ (List.mem_append_right _ h)) (by decide +kernel))
set_option maxRecDepth 20000 in
theorem gX4_isOf_X4_requireIndex : GoodIn wsX4_isOf (va_wsS RX4 45 yX4_requireIndex wsX4_requireIndex) := goodIn_app (goodIn_of _ (by decide +kernel)) ggX4_isOf_X4_requireIndex
set_option maxRecDepth 20000 in
theorem ggX4_isOf_Jx4a65c_get_915e3 : GoodIn wsX4_isOf wsJx4a65c_get_915e3 := goodIn_r _ [18, 8, 19, 20, 21, 22, 23, 24, 25, 26, 27, 28, 29, 6, 30, 31, 45, 46, 47] (by decide +kernel) (by decide +kernel)
set_option maxRecDepth 20000 in
theorem gX4_isOf_Jx4a65c_get_915e3 : GoodIn wsX4_isOf (wsV RX4 114 RJx4a65c yJx4a65c_get_915e3 wsJx4a65c_get_915e3) := goodIn_app (goodIn_of _ (by decide +kernel)) ggX4_isOf_Jx4a65c_get_915e3
set_option maxRecDepth 20000 in
theorem ggX4_isOf_X2_covers : GoodIn wsX4_isOf wsX2_covers := goodIn_r _ [36, 37, 38, 48, 49, 50, 51, 52, 53, 54, 55, 56] (by decide +kernel) (by decide +kernel)
set_option maxRecDepth 20000 in
theorem gX4_isOf_X2_covers : GoodIn wsX4_isOf (wsV RX4 174 RX2 yX2_covers wsX2_covers) := goodIn_app (goodIn_of _ (by decide +kernel)) ggX4_isOf_X2_covers
theorem dX4_isOf_0 : decode cX4_isOf 0 = .ok (.iload_n 1, 1) := by decide +kernel
theorem dX4_isOf_1 : decode cX4_isOf 1 = .ok (.aload_n 0, 1) := by decide +kernel
theorem dX4_isOf_2 : decode cX4_isOf 2 = .ok (.getfield 33, 3) := by decide +kernel
theorem dX4_isOf_5 : decode cX4_isOf 5 = .ok (.invokevirtual 98, 3) := by decide +kernel
theorem dX4_isOf_8 : decode cX4_isOf 8 = .ok (.invokestatic 45, 3) := by decide +kernel
theorem dX4_isOf_11 : decode cX4_isOf 11 = .ok (.aload_n 0, 1) := by decide +kernel
theorem dX4_isOf_12 : decode cX4_isOf 12 = .ok (.getfield 33, 3) := by decide +kernel
theorem dX4_isOf_15 : decode cX4_isOf 15 = .ok (.iload_n 1, 1) := by decide +kernel
theorem dX4_isOf_16 : decode cX4_isOf 16 = .ok (.invokevirtual 114, 3) := by decide +kernel
theorem dX4_isOf_19 : decode cX4_isOf 19 = .ok (.checkcast 101, 3) := by decide +kernel
theorem dX4_isOf_22 : decode cX4_isOf 22 = .ok (.iload_n 2, 1) := by decide +kernel
theorem dX4_isOf_23 : decode cX4_isOf 23 = .ok (.invokevirtual 174, 3) := by decide +kernel
theorem dX4_isOf_26 : decode cX4_isOf 26 = .ok (.ireturn, 1) := by decide +kernel
set_option maxRecDepth 20000 in
theorem ggX4_billed_Jx4a65c_size_8abf5 : GoodIn wsX4_billed wsJx4a65c_size_8abf5 := goodIn_r _ [8, 9, 48, 49, 50] (by decide +kernel) (by decide +kernel)
set_option maxRecDepth 20000 in
theorem gX4_billed_Jx4a65c_size_8abf5 : GoodIn wsX4_billed (wsV RX4 98 RJx4a65c yJx4a65c_size_8abf5 wsJx4a65c_size_8abf5) := goodIn_app (goodIn_of _ (by decide +kernel)) ggX4_billed_Jx4a65c_size_8abf5
set_option maxRecDepth 20000 in
theorem ggX4_billed_X4_requireIndex : GoodIn wsX4_billed wsX4_requireIndex := goodIn_ca (goodIn_r _ [13, 14, 15] (by decide +kernel) (by decide +kernel)) (goodIn_sub (fun _ h => List.mem_cons_of_mem _ (List.mem_append_right _ h)) (by decide +kernel))
set_option maxRecDepth 20000 in
theorem gX4_billed_X4_requireIndex : GoodIn wsX4_billed (va_wsS RX4 45 yX4_requireIndex wsX4_requireIndex) := goodIn_app (goodIn_of _ (by decide +kernel)) ggX4_billed_X4_requireIndex
set_option maxRecDepth 20000 in
theorem ggX4_billed_Jx4a65c_get_915e3 : GoodIn wsX4_billed wsJx4a65c_get_915e3 := goodIn_r _ [19, 9, 20, 21, 22, 23, 24, 25, 26, 27, 28, 29, 30, 7, 31, 32, 48, 49, 50] (by decide +kernel) (by decide +kernel)
set_option maxRecDepth 20000 in
theorem gX4_billed_Jx4a65c_get_915e3 : GoodIn wsX4_billed (wsV RX4 114 RJx4a65c yJx4a65c_get_915e3 wsJx4a65c_get_915e3) := goodIn_app (goodIn_of _ (by decide +kernel)) ggX4_billed_Jx4a65c_get_915e3
theorem dX4_billed_0 : decode cX4_billed 0 = .ok (.iload_n 1, 1) := by decide +kernel
theorem dX4_billed_1 : decode cX4_billed 1 = .ok (.aload_n 0, 1) := by decide +kernel
theorem dX4_billed_2 : decode cX4_billed 2 = .ok (.getfield 33, 3) := by decide +kernel
theorem dX4_billed_5 : decode cX4_billed 5 = .ok (.invokevirtual 98, 3) := by decide +kernel
theorem dX4_billed_8 : decode cX4_billed 8 = .ok (.invokestatic 45, 3) := by decide +kernel
theorem dX4_billed_11 : decode cX4_billed 11 = .ok (.aload_n 0, 1) := by decide +kernel
theorem dX4_billed_12 : decode cX4_billed 12 = .ok (.getfield 33, 3) := by decide +kernel
theorem dX4_billed_15 : decode cX4_billed 15 = .ok (.iload_n 1, 1) := by decide +kernel
theorem dX4_billed_16 : decode cX4_billed 16 = .ok (.invokevirtual 114, 3) := by decide +kernel
theorem dX4_billed_19 : decode cX4_billed 19 = .ok (.checkcast 101, 3) := by decide +kernel
theorem dX4_billed_22 : decode cX4_billed 22 = .ok (.getfield 178, 3) := by decide +kernel
theorem dX4_billed_25 : decode cX4_billed 25 = .ok (.ireturn, 1) := by decide +kernel
set_option maxRecDepth 20000 in
theorem ggX4_billedAnew_Jx4a65c_size_8abf5 : GoodIn wsX4_billedAnew wsJx4a65c_size_8abf5 := goodIn_r _ [12, 13, 94, 95, 96] (by decide +kernel) (by decide +kernel)
set_option maxRecDepth 20000 in
theorem gX4_billedAnew_Jx4a65c_size_8abf5 : GoodIn wsX4_billedAnew (wsV RX4 98 RJx4a65c yJx4a65c_size_8abf5 wsJx4a65c_size_8abf5) := goodIn_app (goodIn_of _ (by decide +kernel)) ggX4_billedAnew_Jx4a65c_size_8abf5
set_option maxRecDepth 20000 in
theorem ggX4_billedAnew_X4_requireIndex : GoodIn wsX4_billedAnew wsX4_requireIndex := goodIn_ca (goodIn_r _ [17, 18, 19] (by decide +kernel) (by decide +kernel)) (goodIn_sub (fun _ h => List.mem_cons_of_mem _ (List.mem_append_right _ h)) (by decide +kernel))
set_option maxRecDepth 20000 in
theorem gX4_billedAnew_X4_requireIndex : GoodIn wsX4_billedAnew (va_wsS RX4 45 yX4_requireIndex wsX4_requireIndex) := goodIn_app (goodIn_of _ (by decide +kernel)) ggX4_billedAnew_X4_requireIndex
set_option maxRecDepth 20000 in
theorem ggX4_billedAnew_Jx4a65c_get_915e3 : GoodIn wsX4_billedAnew wsJx4a65c_get_915e3 := goodIn_r _ [23, 13, 24, 25, 26, 27, 28, 29, 30, 31, 32, 33, 34, 11, 35, 36, 94, 95, 96] (by decide +kernel) (by decide +kernel)
set_option maxRecDepth 20000 in
theorem gX4_billedAnew_Jx4a65c_get_915e3 : GoodIn wsX4_billedAnew (wsV RX4 114 RJx4a65c yJx4a65c_get_915e3 wsJx4a65c_get_915e3) := goodIn_app (goodIn_of _ (by decide +kernel)) ggX4_billedAnew_Jx4a65c_get_915e3
set_option maxRecDepth 20000 in
theorem ggX4_billedAnew_X1_foundAnew : GoodIn wsX4_billedAnew wsX1_foundAnew := goodIn_r _ [41, 42, 43, 44, 40, 45, 46, 47, 16, 48, 49, 50, 51, 52, 53, 54, 55, 56, 57, 58, 59, 60, 61, 62, 63, 64, 65, 66, 67, 68, 69, 70, 71, 97, 98, 99, 100, 101, 102, 103, 104] (by decide +kernel) (by decide +kernel)
set_option maxRecDepth 20000 in
theorem gX4_billedAnew_X1_foundAnew : GoodIn wsX4_billedAnew (wsV RX4 166 RX1 yX1_foundAnew wsX1_foundAnew) := goodIn_app (goodIn_of _ (by decide +kernel)) ggX4_billedAnew_X1_foundAnew
set_option maxRecDepth 20000 in
theorem ggX4_billedAnew_X2_rentFor : GoodIn wsX4_billedAnew wsX2_rentFor := goodIn_r _ [76, 77, 78, 85, 86, 87, 88, 89, 90, 91, 92, 93] (by decide +kernel) (by decide +kernel)
set_option maxRecDepth 20000 in
theorem gX4_billedAnew_X2_rentFor : GoodIn wsX4_billedAnew (wsV RX4 184 RX2 yX2_rentFor wsX2_rentFor) := goodIn_app (goodIn_of _ (by decide +kernel)) ggX4_billedAnew_X2_rentFor
theorem dX4_billedAnew_0 : decode cX4_billedAnew 0 = .ok (.iload_n 1, 1) := by decide +kernel
theorem dX4_billedAnew_1 : decode cX4_billedAnew 1 = .ok (.aload_n 0, 1) := by decide +kernel
theorem dX4_billedAnew_2 : decode cX4_billedAnew 2 = .ok (.getfield 33, 3) := by decide +kernel
theorem dX4_billedAnew_5 : decode cX4_billedAnew 5 = .ok (.invokevirtual 98, 3) := by decide +kernel
theorem dX4_billedAnew_8 : decode cX4_billedAnew 8 = .ok (.invokestatic 45, 3) := by decide +kernel
theorem dX4_billedAnew_11 : decode cX4_billedAnew 11 = .ok (.aload_n 0, 1) := by decide +kernel
theorem dX4_billedAnew_12 : decode cX4_billedAnew 12 = .ok (.getfield 33, 3) := by decide +kernel
theorem dX4_billedAnew_15 : decode cX4_billedAnew 15 = .ok (.iload_n 1, 1) := by decide +kernel
theorem dX4_billedAnew_16 : decode cX4_billedAnew 16 = .ok (.invokevirtual 114, 3) := by decide +kernel
theorem dX4_billedAnew_19 : decode cX4_billedAnew 19 = .ok (.checkcast 101, 3) := by decide +kernel
theorem dX4_billedAnew_22 : decode cX4_billedAnew 22 = .ok (.astore_n 2, 1) := by decide +kernel
theorem dX4_billedAnew_23 : decode cX4_billedAnew 23 = .ok (.iconst 0, 1) := by decide +kernel
theorem dX4_billedAnew_24 : decode cX4_billedAnew 24 = .ok (.istore_n 3, 1) := by decide +kernel
theorem dX4_billedAnew_25 : decode cX4_billedAnew 25 = .ok (.aload_n 2, 1) := by decide +kernel
theorem dX4_billedAnew_26 : decode cX4_billedAnew 26 = .ok (.getfield 121, 3) := by decide +kernel
theorem dX4_billedAnew_29 : decode cX4_billedAnew 29 = .ok (.istore 4, 2) := by decide +kernel
theorem dX4_billedAnew_31 : decode cX4_billedAnew 31 = .ok (.iload 4, 2) := by decide +kernel
theorem dX4_billedAnew_33 : decode cX4_billedAnew 33 = .ok (.aload_n 2, 1) := by decide +kernel
theorem dX4_billedAnew_34 : decode cX4_billedAnew 34 = .ok (.getfield 118, 3) := by decide +kernel
theorem dX4_billedAnew_37 : decode cX4_billedAnew 37 = .ok (.if_icmp .ge 38, 3) := by decide +kernel
theorem dX4_billedAnew_40 : decode cX4_billedAnew 40 = .ok (.iload 4, 2) := by decide +kernel
theorem dX4_billedAnew_42 : decode cX4_billedAnew 42 = .ok (.aload_n 0, 1) := by decide +kernel
theorem dX4_billedAnew_43 : decode cX4_billedAnew 43 = .ok (.getfield 41, 3) := by decide +kernel
theorem dX4_billedAnew_46 : decode cX4_billedAnew 46 = .ok (.if_icmp .ge 29, 3) := by decide +kernel
theorem dX4_billedAnew_49 : decode cX4_billedAnew 49 = .ok (.iload_n 3, 1) := by decide +kernel
theorem dX4_billedAnew_50 : decode cX4_billedAnew 50 = .ok (.aload_n 2, 1) := by decide +kernel
theorem dX4_billedAnew_51 : decode cX4_billedAnew 51 = .ok (.aload_n 0, 1) := by decide +kernel
theorem dX4_billedAnew_52 : decode cX4_billedAnew 52 = .ok (.getfield 19, 3) := by decide +kernel
theorem dX4_billedAnew_55 : decode cX4_billedAnew 55 = .ok (.aload_n 2, 1) := by decide +kernel
theorem dX4_billedAnew_56 : decode cX4_billedAnew 56 = .ok (.getfield 181, 3) := by decide +kernel
theorem dX4_billedAnew_59 : decode cX4_billedAnew 59 = .ok (.iload 4, 2) := by decide +kernel
theorem dX4_billedAnew_61 : decode cX4_billedAnew 61 = .ok (.invokevirtual 166, 3) := by decide +kernel
theorem dX4_billedAnew_64 : decode cX4_billedAnew 64 = .ok (.invokevirtual 184, 3) := by decide +kernel
theorem dX4_billedAnew_67 : decode cX4_billedAnew 67 = .ok (.iadd, 1) := by decide +kernel
theorem dX4_billedAnew_68 : decode cX4_billedAnew 68 = .ok (.istore_n 3, 1) := by decide +kernel
theorem dX4_billedAnew_69 : decode cX4_billedAnew 69 = .ok (.iinc 4 1, 3) := by decide +kernel
theorem dX4_billedAnew_72 : decode cX4_billedAnew 72 = .ok (.goto (-41), 3) := by decide +kernel
theorem dX4_billedAnew_75 : decode cX4_billedAnew 75 = .ok (.iload_n 3, 1) := by decide +kernel
theorem dX4_billedAnew_76 : decode cX4_billedAnew 76 = .ok (.ireturn, 1) := by decide +kernel
set_option maxRecDepth 20000 in
theorem ggX4_corrected_Jx4a65c_size_8abf5 : GoodIn wsX4_corrected wsJx4a65c_size_8abf5 := goodIn_r _ [8, 9, 48, 49, 50] (by decide +kernel) (by decide +kernel)
set_option maxRecDepth 20000 in
theorem gX4_corrected_Jx4a65c_size_8abf5 : GoodIn wsX4_corrected (wsV RX4 98 RJx4a65c yJx4a65c_size_8abf5 wsJx4a65c_size_8abf5) := goodIn_app (goodIn_of _ (by decide +kernel)) ggX4_corrected_Jx4a65c_size_8abf5
set_option maxRecDepth 20000 in
theorem ggX4_corrected_X4_requireIndex : GoodIn wsX4_corrected wsX4_requireIndex := goodIn_ca (goodIn_r _ [13, 14, 15] (by decide +kernel) (by decide +kernel)) (goodIn_sub (fun _ h => List.mem_cons_of_mem _ (List.mem_append_right _ h)) (by decide +kernel))
set_option maxRecDepth 20000 in
theorem gX4_corrected_X4_requireIndex : GoodIn wsX4_corrected (va_wsS RX4 45 yX4_requireIndex wsX4_requireIndex) := goodIn_app (goodIn_of _ (by decide +kernel)) ggX4_corrected_X4_requireIndex
set_option maxRecDepth 20000 in
theorem ggX4_corrected_Jx4a65c_get_915e3 : GoodIn wsX4_corrected wsJx4a65c_get_915e3 := goodIn_r _ [19, 9, 20, 21, 22, 23, 24, 25, 26, 27, 28, 29, 30, 7, 31, 32, 48, 49, 50] (by decide +kernel) (by decide +kernel)
set_option maxRecDepth 20000 in
theorem gX4_corrected_Jx4a65c_get_915e3 : GoodIn wsX4_corrected (wsV RX4 114 RJx4a65c yJx4a65c_get_915e3 wsJx4a65c_get_915e3) := goodIn_app (goodIn_of _ (by decide +kernel)) ggX4_corrected_Jx4a65c_get_915e3
theorem dX4_corrected_0 : decode cX4_corrected 0 = .ok (.iload_n 1, 1) := by decide +kernel
theorem dX4_corrected_1 : decode cX4_corrected 1 = .ok (.aload_n 0, 1) := by decide +kernel
theorem dX4_corrected_2 : decode cX4_corrected 2 = .ok (.getfield 33, 3) := by decide +kernel
theorem dX4_corrected_5 : decode cX4_corrected 5 = .ok (.invokevirtual 98, 3) := by decide +kernel
theorem dX4_corrected_8 : decode cX4_corrected 8 = .ok (.invokestatic 45, 3) := by decide +kernel
theorem dX4_corrected_11 : decode cX4_corrected 11 = .ok (.aload_n 0, 1) := by decide +kernel
theorem dX4_corrected_12 : decode cX4_corrected 12 = .ok (.getfield 33, 3) := by decide +kernel
theorem dX4_corrected_15 : decode cX4_corrected 15 = .ok (.iload_n 1, 1) := by decide +kernel
theorem dX4_corrected_16 : decode cX4_corrected 16 = .ok (.invokevirtual 114, 3) := by decide +kernel
theorem dX4_corrected_19 : decode cX4_corrected 19 = .ok (.checkcast 101, 3) := by decide +kernel
theorem dX4_corrected_22 : decode cX4_corrected 22 = .ok (.getfield 187, 3) := by decide +kernel
theorem dX4_corrected_25 : decode cX4_corrected 25 = .ok (.ireturn, 1) := by decide +kernel
set_option maxRecDepth 20000 in
theorem ggX4_owes_X4_requireIndex : GoodIn wsX4_owes wsX4_requireIndex := goodIn_ca (goodIn_r _ [4, 5, 6] (by decide +kernel) (by decide +kernel)) (goodIn_sub (fun _ h => List.mem_cons_of_mem _ (List.mem_append_right _ h)) (by decide +kernel))
set_option maxRecDepth 20000 in
theorem gX4_owes_X4_requireIndex : GoodIn wsX4_owes (va_wsS RX4 45 yX4_requireIndex wsX4_requireIndex) := goodIn_app (goodIn_of _ (by decide +kernel)) ggX4_owes_X4_requireIndex
set_option maxRecDepth 20000 in
theorem ggX4_owes_X4_debt : GoodIn wsX4_owes wsX4_debt := goodIn_r _ [10, 11, 12, 13, 14, 15, 16, 17, 18, 19, 20, 21, 22, 23, 24, 25, 26, 27, 28, 29, 30, 31, 32, 33, 34, 35, 36, 37, 38, 39, 40, 41, 42, 43, 44, 45, 46, 47, 48, 49, 50, 51, 52, 53, 54, 55, 56] (by decide +kernel) (by decide +kernel)
set_option maxRecDepth 20000 in
theorem gX4_owes_X4_debt : GoodIn wsX4_owes (wsV RX4 126 RX4 yX4_debt wsX4_debt) := goodIn_app (goodIn_of _ (by decide +kernel)) ggX4_owes_X4_debt
theorem dX4_owes_0 : decode cX4_owes 0 = .ok (.iload_n 1, 1) := by decide +kernel
theorem dX4_owes_1 : decode cX4_owes 1 = .ok (.bipush 6, 2) := by decide +kernel
theorem dX4_owes_3 : decode cX4_owes 3 = .ok (.invokestatic 45, 3) := by decide +kernel
theorem dX4_owes_6 : decode cX4_owes 6 = .ok (.aload_n 0, 1) := by decide +kernel
theorem dX4_owes_7 : decode cX4_owes 7 = .ok (.iload_n 1, 1) := by decide +kernel
theorem dX4_owes_8 : decode cX4_owes 8 = .ok (.invokevirtual 126, 3) := by decide +kernel
theorem dX4_owes_11 : decode cX4_owes 11 = .ok (.ireturn, 1) := by decide +kernel
set_option maxRecDepth 20000 in
theorem ggX4_player_X4_endedCell : GoodIn wsX4_player wsX4_endedCell := goodIn_ca (goodIn_ca (goodIn_r _ [7, 8, 9, 6, 10, 11, 12, 13, 14, 15, 16, 17, 18, 19, 20, 21, 22, 23, 24, 25, 26, 27, 28, 29, 30, 31] (by decide +kernel) (by decide +kernel)) (goodIn_sub (fun _ h => List.mem_cons_of_mem _ (List.mem_append_left _ (List.mem_append_right _ h))) (by decide +kernel))) (goodIn_sub (fun _ h => List.mem_cons_of_mem _ (List.mem_append_right _ h)) (by decide +kernel))
set_option maxRecDepth 20000 in
theorem gX4_player_X4_endedCell : GoodIn wsX4_player (wsV RX4 151 RX4 yX4_endedCell wsX4_endedCell) := goodIn_app (goodIn_of _ (by decide +kernel)) ggX4_player_X4_endedCell
theorem dX4_player_0 : decode cX4_player 0 = .ok (.aload_n 0, 1) := by decide +kernel
theorem dX4_player_1 : decode cX4_player 1 = .ok (.getfield 26, 3) := by decide +kernel
theorem dX4_player_4 : decode cX4_player 4 = .ok (.getfield 190, 3) := by decide +kernel
theorem dX4_player_7 : decode cX4_player 7 = .ok (.aload_n 0, 1) := by decide +kernel
theorem dX4_player_8 : decode cX4_player 8 = .ok (.iload_n 1, 1) := by decide +kernel
theorem dX4_player_9 : decode cX4_player 9 = .ok (.iload_n 2, 1) := by decide +kernel
theorem dX4_player_10 : decode cX4_player 10 = .ok (.invokevirtual 151, 3) := by decide +kernel
theorem dX4_player_13 : decode cX4_player 13 = .ok (.iaload, 1) := by decide +kernel
theorem dX4_player_14 : decode cX4_player 14 = .ok (.ireturn, 1) := by decide +kernel
set_option maxRecDepth 20000 in
theorem ggX4_played_X4_requireIndex : GoodIn wsX4_played wsX4_requireIndex := goodIn_ca (goodIn_r _ [6, 7, 8] (by decide +kernel) (by decide +kernel)) (goodIn_sub (fun _ h => List.mem_cons_of_mem _ (List.mem_append_right _ h)) (by decide +kernel))
set_option maxRecDepth 20000 in
theorem gX4_played_X4_requireIndex : GoodIn wsX4_played (va_wsS RX4 45 yX4_requireIndex wsX4_requireIndex) := goodIn_app (goodIn_of _ (by decide +kernel)) ggX4_played_X4_requireIndex
theorem dX4_played_0 : decode cX4_played 0 = .ok (.iload_n 1, 1) := by decide +kernel
theorem dX4_played_1 : decode cX4_played 1 = .ok (.bipush 6, 2) := by decide +kernel
theorem dX4_played_3 : decode cX4_played 3 = .ok (.invokestatic 45, 3) := by decide +kernel
theorem dX4_played_6 : decode cX4_played 6 = .ok (.aload_n 0, 1) := by decide +kernel
theorem dX4_played_7 : decode cX4_played 7 = .ok (.getfield 26, 3) := by decide +kernel
theorem dX4_played_10 : decode cX4_played 10 = .ok (.getfield 193, 3) := by decide +kernel
theorem dX4_played_13 : decode cX4_played 13 = .ok (.iload_n 1, 1) := by decide +kernel
theorem dX4_played_14 : decode cX4_played 14 = .ok (.iaload, 1) := by decide +kernel
theorem dX4_played_15 : decode cX4_played 15 = .ok (.ireturn, 1) := by decide +kernel
set_option maxRecDepth 20000 in
theorem ggX4_coins_X4_requireIndex : GoodIn wsX4_coins wsX4_requireIndex := goodIn_ca (goodIn_r _ [6, 7, 8] (by decide +kernel) (by decide +kernel)) (goodIn_sub (fun _ h => List.mem_cons_of_mem _ (List.mem_append_right _ h)) (by decide +kernel))
set_option maxRecDepth 20000 in
theorem gX4_coins_X4_requireIndex : GoodIn wsX4_coins (va_wsS RX4 45 yX4_requireIndex wsX4_requireIndex) := goodIn_app (goodIn_of _ (by decide +kernel)) ggX4_coins_X4_requireIndex
theorem dX4_coins_0 : decode cX4_coins 0 = .ok (.iload_n 1, 1) := by decide +kernel
theorem dX4_coins_1 : decode cX4_coins 1 = .ok (.bipush 6, 2) := by decide +kernel
theorem dX4_coins_3 : decode cX4_coins 3 = .ok (.invokestatic 45, 3) := by decide +kernel
theorem dX4_coins_6 : decode cX4_coins 6 = .ok (.aload_n 0, 1) := by decide +kernel
theorem dX4_coins_7 : decode cX4_coins 7 = .ok (.getfield 26, 3) := by decide +kernel
theorem dX4_coins_10 : decode cX4_coins 10 = .ok (.getfield 196, 3) := by decide +kernel
theorem dX4_coins_13 : decode cX4_coins 13 = .ok (.iload_n 1, 1) := by decide +kernel
theorem dX4_coins_14 : decode cX4_coins 14 = .ok (.iaload, 1) := by decide +kernel
theorem dX4_coins_15 : decode cX4_coins 15 = .ok (.ireturn, 1) := by decide +kernel
theorem dX4_lots_0 : decode cX4_lots 0 = .ok (.aload_n 0, 1) := by decide +kernel
theorem dX4_lots_1 : decode cX4_lots 1 = .ok (.getfield 26, 3) := by decide +kernel
theorem dX4_lots_4 : decode cX4_lots 4 = .ok (.getfield 142, 3) := by decide +kernel
theorem dX4_lots_7 : decode cX4_lots 7 = .ok (.ireturn, 1) := by decide +kernel
theorem dX4_requireIndex_0 : decode cX4_requireIndex 0 = .ok (.iload_n 0, 1) := by decide +kernel
theorem dX4_requireIndex_1 : decode cX4_requireIndex 1 = .ok (.ifCond .lt 8, 3) := by decide +kernel
theorem dX4_requireIndex_4 : decode cX4_requireIndex 4 = .ok (.iload_n 0, 1) := by decide +kernel
theorem dX4_requireIndex_5 : decode cX4_requireIndex 5 = .ok (.iload_n 1, 1) := by decide +kernel
theorem dX4_requireIndex_6 : decode cX4_requireIndex 6 = .ok (.if_icmp .lt 13, 3) := by decide +kernel
theorem dX4_requireIndex_9 : decode cX4_requireIndex 9 = .ok (.new 199, 3) := by decide +kernel
theorem dX4_requireIndex_12 : decode cX4_requireIndex 12 = .ok (.dup, 1) := by decide +kernel
theorem dX4_requireIndex_13 : decode cX4_requireIndex 13 = .ok (.ldc 201, 2) := by decide +kernel
theorem dX4_requireIndex_15 : decode cX4_requireIndex 15 = .ok (.invokespecial 203, 3) := by decide +kernel
theorem dX4_requireIndex_18 : decode cX4_requireIndex 18 = .ok (.athrow, 1) := by decide +kernel
theorem dX4_requireIndex_19 : decode cX4_requireIndex 19 = .ok (.return_, 1) := by decide +kernel
theorem dX4_requireWithin_0 : decode cX4_requireWithin 0 = .ok (.iload_n 0, 1) := by decide +kernel
theorem dX4_requireWithin_1 : decode cX4_requireWithin 1 = .ok (.iload_n 1, 1) := by decide +kernel
theorem dX4_requireWithin_2 : decode cX4_requireWithin 2 = .ok (.if_icmp .lt 8, 3) := by decide +kernel
theorem dX4_requireWithin_5 : decode cX4_requireWithin 5 = .ok (.iload_n 0, 1) := by decide +kernel
theorem dX4_requireWithin_6 : decode cX4_requireWithin 6 = .ok (.iload_n 2, 1) := by decide +kernel
theorem dX4_requireWithin_7 : decode cX4_requireWithin 7 = .ok (.if_icmp .le 13, 3) := by decide +kernel
theorem dX4_requireWithin_10 : decode cX4_requireWithin 10 = .ok (.new 206, 3) := by decide +kernel
theorem dX4_requireWithin_13 : decode cX4_requireWithin 13 = .ok (.dup, 1) := by decide +kernel
theorem dX4_requireWithin_14 : decode cX4_requireWithin 14 = .ok (.ldc 208, 2) := by decide +kernel
theorem dX4_requireWithin_16 : decode cX4_requireWithin 16 = .ok (.invokespecial 210, 3) := by decide +kernel
theorem dX4_requireWithin_19 : decode cX4_requireWithin 19 = .ok (.athrow, 1) := by decide +kernel
theorem dX4_requireWithin_20 : decode cX4_requireWithin 20 = .ok (.return_, 1) := by decide +kernel
theorem dX4_requireState_0 : decode cX4_requireState 0 = .ok (.iload_n 0, 1) := by decide +kernel
theorem dX4_requireState_1 : decode cX4_requireState 1 = .ok (.ifCond .ne 13, 3) := by decide +kernel
theorem dX4_requireState_4 : decode cX4_requireState 4 = .ok (.new 211, 3) := by decide +kernel
theorem dX4_requireState_7 : decode cX4_requireState 7 = .ok (.dup, 1) := by decide +kernel
theorem dX4_requireState_8 : decode cX4_requireState 8 = .ok (.ldc 213, 2) := by decide +kernel
theorem dX4_requireState_10 : decode cX4_requireState 10 = .ok (.invokespecial 215, 3) := by decide +kernel
theorem dX4_requireState_13 : decode cX4_requireState 13 = .ok (.athrow, 1) := by decide +kernel
theorem dX4_requireState_14 : decode cX4_requireState 14 = .ok (.return_, 1) := by decide +kernel
set_option maxRecDepth 20000 in
theorem ggX4_requireEnded_X4_requireWithin : GoodIn wsX4_requireEnded wsX4_requireWithin := goodIn_ca (goodIn_r _ [5, 6, 7] (by decide +kernel) (by decide +kernel)) (goodIn_sub (fun _ h => List.mem_cons_of_mem _ (List.mem_append_right _ h)) (by decide +kernel))
set_option maxRecDepth 20000 in
theorem gX4_requireEnded_X4_requireWithin : GoodIn wsX4_requireEnded (va_wsS RX4 49 yX4_requireWithin wsX4_requireWithin) := goodIn_app (goodIn_of _ (by decide +kernel)) ggX4_requireEnded_X4_requireWithin
theorem dX4_requireEnded_0 : decode cX4_requireEnded 0 = .ok (.iload_n 1, 1) := by decide +kernel
theorem dX4_requireEnded_1 : decode cX4_requireEnded 1 = .ok (.iconst 0, 1) := by decide +kernel
theorem dX4_requireEnded_2 : decode cX4_requireEnded 2 = .ok (.aload_n 0, 1) := by decide +kernel
theorem dX4_requireEnded_3 : decode cX4_requireEnded 3 = .ok (.getfield 41, 3) := by decide +kernel
theorem dX4_requireEnded_6 : decode cX4_requireEnded 6 = .ok (.iconst 1, 1) := by decide +kernel
theorem dX4_requireEnded_7 : decode cX4_requireEnded 7 = .ok (.isub, 1) := by decide +kernel
theorem dX4_requireEnded_8 : decode cX4_requireEnded 8 = .ok (.invokestatic 49, 3) := by decide +kernel
theorem dX4_requireEnded_11 : decode cX4_requireEnded 11 = .ok (.return_, 1) := by decide +kernel
set_option maxRecDepth 20000 in
theorem ggX4_endedCell_X4_requireIndex : GoodIn wsX4_endedCell wsX4_requireIndex := goodIn_ca (goodIn_r _ [4, 5, 6] (by decide +kernel) (by decide +kernel)) (goodIn_sub (fun _ h => List.mem_cons_of_mem _ (List.mem_append_left _ (List.mem_append_right _ h))) (by decide +kernel))
set_option maxRecDepth 20000 in
theorem gX4_endedCell_X4_requireIndex : GoodIn wsX4_endedCell (va_wsS RX4 45 yX4_requireIndex wsX4_requireIndex) := goodIn_app (goodIn_of _ (by decide +kernel)) ggX4_endedCell_X4_requireIndex
set_option maxRecDepth 20000 in
theorem ggX4_endedCell_X4_requireEnded : GoodIn wsX4_endedCell wsX4_requireEnded := goodIn_ca (goodIn_r _ [10, 11, 12, 13, 3, 14, 15, 16, 20, 21, 22, 23, 24, 25] (by decide +kernel) (by decide +kernel)) (goodIn_sub (fun _ h => List.mem_cons_of_mem _ (List.mem_append_right _ h)) (by decide +kernel))
set_option maxRecDepth 20000 in
theorem gX4_endedCell_X4_requireEnded : GoodIn wsX4_endedCell (wsV RX4 84 RX4 yX4_requireEnded wsX4_requireEnded) := goodIn_app (goodIn_of _ (by decide +kernel)) ggX4_endedCell_X4_requireEnded
set_option maxRecDepth 20000 in
theorem ggX4_endedCell_X4_cell : GoodIn wsX4_endedCell wsX4_cell := goodIn_r _ [19] (by decide +kernel) (by decide +kernel)
set_option maxRecDepth 20000 in
theorem gX4_endedCell_X4_cell : GoodIn wsX4_endedCell (va_wsS RX4 95 yX4_cell wsX4_cell) := goodIn_app (goodIn_of _ (by decide +kernel)) ggX4_endedCell_X4_cell
theorem dX4_endedCell_0 : decode cX4_endedCell 0 = .ok (.iload_n 1, 1) := by decide +kernel
theorem dX4_endedCell_1 : decode cX4_endedCell 1 = .ok (.bipush 12, 2) := by decide +kernel
theorem dX4_endedCell_3 : decode cX4_endedCell 3 = .ok (.invokestatic 45, 3) := by decide +kernel
theorem dX4_endedCell_6 : decode cX4_endedCell 6 = .ok (.aload_n 0, 1) := by decide +kernel
theorem dX4_endedCell_7 : decode cX4_endedCell 7 = .ok (.iload_n 2, 1) := by decide +kernel
theorem dX4_endedCell_8 : decode cX4_endedCell 8 = .ok (.invokevirtual 84, 3) := by decide +kernel
theorem dX4_endedCell_11 : decode cX4_endedCell 11 = .ok (.iload_n 1, 1) := by decide +kernel
theorem dX4_endedCell_12 : decode cX4_endedCell 12 = .ok (.iload_n 2, 1) := by decide +kernel
theorem dX4_endedCell_13 : decode cX4_endedCell 13 = .ok (.invokestatic 95, 3) := by decide +kernel
theorem dX4_endedCell_16 : decode cX4_endedCell 16 = .ok (.ireturn, 1) := by decide +kernel
theorem dX4_cell_0 : decode cX4_cell 0 = .ok (.iload_n 1, 1) := by decide +kernel
theorem dX4_cell_1 : decode cX4_cell 1 = .ok (.bipush 12, 2) := by decide +kernel
theorem dX4_cell_3 : decode cX4_cell 3 = .ok (.imul, 1) := by decide +kernel
theorem dX4_cell_4 : decode cX4_cell 4 = .ok (.iload_n 0, 1) := by decide +kernel
theorem dX4_cell_5 : decode cX4_cell 5 = .ok (.iadd, 1) := by decide +kernel
theorem dX4_cell_6 : decode cX4_cell 6 = .ok (.ireturn, 1) := by decide +kernel
set_option maxRecDepth 20000 in
theorem ggX4_endHour_X0_takePlaces : GoodIn wsX4_endHour wsX0_takePlaces := goodIn_r _ [9, 10, 11, 12, 13, 14, 15, 8, 16, 17, 18, 19, 20, 21, 22, 23, 24, 25, 26, 27, 28, 29, 30, 31, 32, 33, 34, 35, 36, 37, 38, 39, 40, 41, 42, 43, 44, 45, 46, 47, 48, 49, 50, 161, 162, 163, 164, 165, 166, 167, 168, 169] (by decide +kernel) (by decide +kernel)
set_option maxRecDepth 20000 in
theorem gX4_endHour_X0_takePlaces : GoodIn wsX4_endHour (wsV RX4 216 RX0 yX0_takePlaces wsX0_takePlaces) := goodIn_app (goodIn_of _ (by decide +kernel)) ggX4_endHour_X0_takePlaces
set_option maxRecDepth 20000 in
theorem ggX4_endHour_X3_walk : GoodIn wsX4_endHour wsX3_walk := goodIn_r _ [55, 56, 57, 58, 59, 60, 61, 44, 45, 46, 62, 63, 64, 8, 65, 66, 67, 170, 171, 172, 173, 174, 161, 162, 163, 164, 165, 166, 167, 168, 169] (by decide +kernel) (by decide +kernel)
set_option maxRecDepth 20000 in
theorem gX4_endHour_X3_walk : GoodIn wsX4_endHour (wsV RX4 219 RX3 yX3_walk wsX3_walk) := goodIn_app (goodIn_of _ (by decide +kernel)) ggX4_endHour_X3_walk
set_option maxRecDepth 20000 in
theorem ggX4_endHour_X1_read : GoodIn wsX4_endHour wsX1_read := goodIn_r _ [72, 73, 74, 75, 76, 77, 44, 45, 46, 78, 79, 80, 71, 81, 82, 83, 84, 85, 86, 87, 88, 89, 90, 91, 92, 93, 94, 95, 96, 97, 98, 99, 100, 101, 102, 103, 104, 105, 106, 107, 108, 170, 171, 172, 173, 174, 175, 176, 177, 178, 179, 180, 181, 182] (by decide +kernel) (by decide +kernel)
set_option maxRecDepth 20000 in
theorem gX4_endHour_X1_read : GoodIn wsX4_endHour (wsV RX4 223 RX1 yX1_read wsX1_read) := goodIn_app (goodIn_of _ (by decide +kernel)) ggX4_endHour_X1_read
set_option maxRecDepth 20000 in
theorem ggX4_endHour_X4_billHour : GoodIn wsX4_endHour wsX4_billHour := goodIn_r _ [112, 113, 114, 2, 115, 4, 116, 117, 118, 119, 120, 121, 122, 123, 124, 125, 126, 127, 128, 129, 130, 131, 132, 133, 134, 135, 136, 137, 138, 139, 140, 141, 142, 143, 144, 145, 146, 147, 148, 44, 45, 46, 149, 150, 151, 152, 153, 154, 155, 156, 157, 158, 159, 160, 183, 184, 185, 186, 187, 188, 189, 190, 191, 175, 176, 177, 178, 179, 180, 181, 182, 192, 193, 194] (by decide +kernel) (by decide +kernel)
set_option maxRecDepth 20000 in
theorem gX4_endHour_X4_billHour : GoodIn wsX4_endHour (wsV RX4 227 RX4 yX4_billHour wsX4_billHour) := goodIn_app (goodIn_of _ (by decide +kernel)) ggX4_endHour_X4_billHour
theorem dX4_endHour_0 : decode cX4_endHour 0 = .ok (.aload_n 0, 1) := by decide +kernel
theorem dX4_endHour_1 : decode cX4_endHour 1 = .ok (.getfield 26, 3) := by decide +kernel
theorem dX4_endHour_4 : decode cX4_endHour 4 = .ok (.aload_n 0, 1) := by decide +kernel
theorem dX4_endHour_5 : decode cX4_endHour 5 = .ok (.getfield 41, 3) := by decide +kernel
theorem dX4_endHour_8 : decode cX4_endHour 8 = .ok (.invokevirtual 216, 3) := by decide +kernel
theorem dX4_endHour_11 : decode cX4_endHour 11 = .ok (.aload_n 0, 1) := by decide +kernel
theorem dX4_endHour_12 : decode cX4_endHour 12 = .ok (.getfield 12, 3) := by decide +kernel
theorem dX4_endHour_15 : decode cX4_endHour 15 = .ok (.aload_n 0, 1) := by decide +kernel
theorem dX4_endHour_16 : decode cX4_endHour 16 = .ok (.getfield 41, 3) := by decide +kernel
theorem dX4_endHour_19 : decode cX4_endHour 19 = .ok (.aload_n 0, 1) := by decide +kernel
theorem dX4_endHour_20 : decode cX4_endHour 20 = .ok (.getfield 26, 3) := by decide +kernel
theorem dX4_endHour_23 : decode cX4_endHour 23 = .ok (.invokevirtual 219, 3) := by decide +kernel
theorem dX4_endHour_26 : decode cX4_endHour 26 = .ok (.istore_n 1, 1) := by decide +kernel
theorem dX4_endHour_27 : decode cX4_endHour 27 = .ok (.aload_n 0, 1) := by decide +kernel
theorem dX4_endHour_28 : decode cX4_endHour 28 = .ok (.getfield 19, 3) := by decide +kernel
theorem dX4_endHour_31 : decode cX4_endHour 31 = .ok (.aload_n 0, 1) := by decide +kernel
theorem dX4_endHour_32 : decode cX4_endHour 32 = .ok (.getfield 41, 3) := by decide +kernel
theorem dX4_endHour_35 : decode cX4_endHour 35 = .ok (.aload_n 0, 1) := by decide +kernel
theorem dX4_endHour_36 : decode cX4_endHour 36 = .ok (.getfield 12, 3) := by decide +kernel
theorem dX4_endHour_39 : decode cX4_endHour 39 = .ok (.invokevirtual 223, 3) := by decide +kernel
theorem dX4_endHour_42 : decode cX4_endHour 42 = .ok (.aload_n 0, 1) := by decide +kernel
theorem dX4_endHour_43 : decode cX4_endHour 43 = .ok (.invokevirtual 227, 3) := by decide +kernel
theorem dX4_endHour_46 : decode cX4_endHour 46 = .ok (.aload_n 0, 1) := by decide +kernel
theorem dX4_endHour_47 : decode cX4_endHour 47 = .ok (.dup, 1) := by decide +kernel
theorem dX4_endHour_48 : decode cX4_endHour 48 = .ok (.getfield 41, 3) := by decide +kernel
theorem dX4_endHour_51 : decode cX4_endHour 51 = .ok (.iconst 1, 1) := by decide +kernel
theorem dX4_endHour_52 : decode cX4_endHour 52 = .ok (.iadd, 1) := by decide +kernel
theorem dX4_endHour_53 : decode cX4_endHour 53 = .ok (.putfield 41, 3) := by decide +kernel
theorem dX4_endHour_56 : decode cX4_endHour 56 = .ok (.iload_n 1, 1) := by decide +kernel
theorem dX4_endHour_57 : decode cX4_endHour 57 = .ok (.ireturn, 1) := by decide +kernel
set_option maxRecDepth 20000 in
theorem ggX4_billHour_Jx4a65c_size_8abf5 : GoodIn wsX4_billHour wsJx4a65c_size_8abf5 := goodIn_r _ [12, 13, 71, 72, 73] (by decide +kernel) (by decide +kernel)
set_option maxRecDepth 20000 in
theorem gX4_billHour_Jx4a65c_size_8abf5 : GoodIn wsX4_billHour (wsV RX4 98 RJx4a65c yJx4a65c_size_8abf5 wsJx4a65c_size_8abf5) := goodIn_app (goodIn_of _ (by decide +kernel)) ggX4_billHour_Jx4a65c_size_8abf5
set_option maxRecDepth 20000 in
theorem ggX4_billHour_Jx4a65c_get_915e3 : GoodIn wsX4_billHour wsJx4a65c_get_915e3 := goodIn_r _ [17, 13, 18, 19, 20, 21, 22, 23, 24, 25, 26, 27, 28, 11, 29, 30, 71, 72, 73] (by decide +kernel) (by decide +kernel)
set_option maxRecDepth 20000 in
theorem gX4_billHour_Jx4a65c_get_915e3 : GoodIn wsX4_billHour (wsV RX4 114 RJx4a65c yJx4a65c_get_915e3 wsJx4a65c_get_915e3) := goodIn_app (goodIn_of _ (by decide +kernel)) ggX4_billHour_Jx4a65c_get_915e3
set_option maxRecDepth 20000 in
theorem ggX4_billHour_X2_covers : GoodIn wsX4_billHour wsX2_covers := goodIn_r _ [35, 36, 37, 54, 55, 56, 57, 58, 59, 60, 61, 62] (by decide +kernel) (by decide +kernel)
set_option maxRecDepth 20000 in
theorem gX4_billHour_X2_covers : GoodIn wsX4_billHour (wsV RX4 174 RX2 yX2_covers wsX2_covers) := goodIn_app (goodIn_of _ (by decide +kernel)) ggX4_billHour_X2_covers
set_option maxRecDepth 20000 in
theorem ggX4_billHour_X4_cell : GoodIn wsX4_billHour wsX4_cell := goodIn_r _ [41] (by decide +kernel) (by decide +kernel)
set_option maxRecDepth 20000 in
theorem gX4_billHour_X4_cell : GoodIn wsX4_billHour (va_wsS RX4 95 yX4_cell wsX4_cell) := goodIn_app (goodIn_of _ (by decide +kernel)) ggX4_billHour_X4_cell
set_option maxRecDepth 20000 in
theorem ggX4_billHour_X2_rentFor : GoodIn wsX4_billHour wsX2_rentFor := goodIn_r _ [45, 46, 47, 54, 55, 56, 57, 58, 59, 60, 61, 62] (by decide +kernel) (by decide +kernel)
set_option maxRecDepth 20000 in
theorem gX4_billHour_X2_rentFor : GoodIn wsX4_billHour (wsV RX4 184 RX2 yX2_rentFor wsX2_rentFor) := goodIn_app (goodIn_of _ (by decide +kernel)) ggX4_billHour_X2_rentFor
theorem dX4_billHour_0 : decode cX4_billHour 0 = .ok (.iconst 0, 1) := by decide +kernel
theorem dX4_billHour_1 : decode cX4_billHour 1 = .ok (.istore_n 1, 1) := by decide +kernel
theorem dX4_billHour_2 : decode cX4_billHour 2 = .ok (.iload_n 1, 1) := by decide +kernel
theorem dX4_billHour_3 : decode cX4_billHour 3 = .ok (.aload_n 0, 1) := by decide +kernel
theorem dX4_billHour_4 : decode cX4_billHour 4 = .ok (.getfield 33, 3) := by decide +kernel
theorem dX4_billHour_7 : decode cX4_billHour 7 = .ok (.invokevirtual 98, 3) := by decide +kernel
theorem dX4_billHour_10 : decode cX4_billHour 10 = .ok (.if_icmp .ge 64, 3) := by decide +kernel
theorem dX4_billHour_13 : decode cX4_billHour 13 = .ok (.aload_n 0, 1) := by decide +kernel
theorem dX4_billHour_14 : decode cX4_billHour 14 = .ok (.getfield 33, 3) := by decide +kernel
theorem dX4_billHour_17 : decode cX4_billHour 17 = .ok (.iload_n 1, 1) := by decide +kernel
theorem dX4_billHour_18 : decode cX4_billHour 18 = .ok (.invokevirtual 114, 3) := by decide +kernel
theorem dX4_billHour_21 : decode cX4_billHour 21 = .ok (.checkcast 101, 3) := by decide +kernel
theorem dX4_billHour_24 : decode cX4_billHour 24 = .ok (.astore_n 2, 1) := by decide +kernel
theorem dX4_billHour_25 : decode cX4_billHour 25 = .ok (.aload_n 2, 1) := by decide +kernel
theorem dX4_billHour_26 : decode cX4_billHour 26 = .ok (.aload_n 0, 1) := by decide +kernel
theorem dX4_billHour_27 : decode cX4_billHour 27 = .ok (.getfield 41, 3) := by decide +kernel
theorem dX4_billHour_30 : decode cX4_billHour 30 = .ok (.invokevirtual 174, 3) := by decide +kernel
theorem dX4_billHour_33 : decode cX4_billHour 33 = .ok (.ifCond .eq 35, 3) := by decide +kernel
theorem dX4_billHour_36 : decode cX4_billHour 36 = .ok (.aload_n 2, 1) := by decide +kernel
theorem dX4_billHour_37 : decode cX4_billHour 37 = .ok (.dup, 1) := by decide +kernel
theorem dX4_billHour_38 : decode cX4_billHour 38 = .ok (.getfield 178, 3) := by decide +kernel
theorem dX4_billHour_41 : decode cX4_billHour 41 = .ok (.aload_n 2, 1) := by decide +kernel
theorem dX4_billHour_42 : decode cX4_billHour 42 = .ok (.aload_n 0, 1) := by decide +kernel
theorem dX4_billHour_43 : decode cX4_billHour 43 = .ok (.getfield 19, 3) := by decide +kernel
theorem dX4_billHour_46 : decode cX4_billHour 46 = .ok (.getfield 163, 3) := by decide +kernel
theorem dX4_billHour_49 : decode cX4_billHour 49 = .ok (.aload_n 2, 1) := by decide +kernel
theorem dX4_billHour_50 : decode cX4_billHour 50 = .ok (.getfield 181, 3) := by decide +kernel
theorem dX4_billHour_53 : decode cX4_billHour 53 = .ok (.aload_n 0, 1) := by decide +kernel
theorem dX4_billHour_54 : decode cX4_billHour 54 = .ok (.getfield 41, 3) := by decide +kernel
theorem dX4_billHour_57 : decode cX4_billHour 57 = .ok (.invokestatic 95, 3) := by decide +kernel
theorem dX4_billHour_60 : decode cX4_billHour 60 = .ok (.iaload, 1) := by decide +kernel
theorem dX4_billHour_61 : decode cX4_billHour 61 = .ok (.invokevirtual 184, 3) := by decide +kernel
theorem dX4_billHour_64 : decode cX4_billHour 64 = .ok (.iadd, 1) := by decide +kernel
theorem dX4_billHour_65 : decode cX4_billHour 65 = .ok (.putfield 178, 3) := by decide +kernel
theorem dX4_billHour_68 : decode cX4_billHour 68 = .ok (.iinc 1 1, 3) := by decide +kernel
theorem dX4_billHour_71 : decode cX4_billHour 71 = .ok (.goto (-69), 3) := by decide +kernel
theorem dX4_billHour_74 : decode cX4_billHour 74 = .ok (.return_, 1) := by decide +kernel
set_option maxRecDepth 20000 in
theorem ggX4_recount_X1_isLost : GoodIn wsX4_recount wsX1_isLost := goodIn_r _ [6, 7, 8, 9, 10, 97, 98, 99, 100, 101, 102, 103, 104] (by decide +kernel) (by decide +kernel)
set_option maxRecDepth 20000 in
theorem gX4_recount_X1_isLost : GoodIn wsX4_recount (wsV RX4 88 RX1 yX1_isLost wsX1_isLost) := goodIn_app (goodIn_of _ (by decide +kernel)) ggX4_recount_X1_isLost
set_option maxRecDepth 20000 in
theorem ggX4_recount_X1_countOfReading : GoodIn wsX4_recount wsX1_countOfReading := goodIn_r _ [14, 7, 15, 16, 17, 5, 18, 19, 20, 21, 22, 8, 9, 10, 97, 98, 99, 100, 101, 102, 103, 104] (by decide +kernel) (by decide +kernel)
set_option maxRecDepth 20000 in
theorem gX4_recount_X1_countOfReading : GoodIn wsX4_recount (wsV RX4 230 RX1 yX1_countOfReading wsX1_countOfReading) := goodIn_app (goodIn_of _ (by decide +kernel)) ggX4_recount_X1_countOfReading
set_option maxRecDepth 20000 in
theorem ggX4_recount_X4_keepCount : GoodIn wsX4_recount wsX4_keepCount := goodIn_r _ [26, 1, 27, 28, 8, 9, 10, 29, 30, 31, 32, 33, 34, 35, 36, 37, 38, 39, 40, 41, 42, 43, 44, 45, 46, 47, 48, 49, 50, 51, 52, 53, 54, 55, 56, 57, 58, 59, 60, 61, 62, 63, 64, 65, 66, 67, 68, 69, 70, 71, 72, 73, 91, 92, 93, 94, 95, 96, 97, 98, 99, 100, 101, 102, 103, 104, 105, 106, 107, 108, 109, 110, 111, 112, 113, 114, 115, 116] (by decide +kernel) (by decide +kernel)
set_option maxRecDepth 20000 in
theorem gX4_recount_X4_keepCount : GoodIn wsX4_recount (wsV RX4 233 RX4 yX4_keepCount wsX4_keepCount) := goodIn_app (goodIn_of _ (by decide +kernel)) ggX4_recount_X4_keepCount
set_option maxRecDepth 20000 in
theorem ggX4_recount_X1_filledFromKept : GoodIn wsX4_recount wsX1_filledFromKept := goodIn_r _ [77, 78, 79, 80, 81, 5, 82, 83, 3, 4, 6, 7, 8, 9, 10, 84, 85, 86, 87, 88, 89, 90, 97, 98, 99, 100, 101, 102, 103, 104] (by decide +kernel) (by decide +kernel)
set_option maxRecDepth 20000 in
theorem gX4_recount_X1_filledFromKept : GoodIn wsX4_recount (wsV RX4 237 RX1 yX1_filledFromKept wsX1_filledFromKept) := goodIn_app (goodIn_of _ (by decide +kernel)) ggX4_recount_X1_filledFromKept
theorem dX4_recount_0 : decode cX4_recount 0 = .ok (.aload_n 0, 1) := by decide +kernel
theorem dX4_recount_1 : decode cX4_recount 1 = .ok (.getfield 19, 3) := by decide +kernel
theorem dX4_recount_4 : decode cX4_recount 4 = .ok (.iload_n 1, 1) := by decide +kernel
theorem dX4_recount_5 : decode cX4_recount 5 = .ok (.iload_n 2, 1) := by decide +kernel
theorem dX4_recount_6 : decode cX4_recount 6 = .ok (.invokevirtual 88, 3) := by decide +kernel
theorem dX4_recount_9 : decode cX4_recount 9 = .ok (.ifCond .eq 5, 3) := by decide +kernel
theorem dX4_recount_12 : decode cX4_recount 12 = .ok (.iconst 0, 1) := by decide +kernel
theorem dX4_recount_13 : decode cX4_recount 13 = .ok (.ireturn, 1) := by decide +kernel
theorem dX4_recount_14 : decode cX4_recount 14 = .ok (.aload_n 0, 1) := by decide +kernel
theorem dX4_recount_15 : decode cX4_recount 15 = .ok (.iload_n 1, 1) := by decide +kernel
theorem dX4_recount_16 : decode cX4_recount 16 = .ok (.iload_n 2, 1) := by decide +kernel
theorem dX4_recount_17 : decode cX4_recount 17 = .ok (.aload_n 0, 1) := by decide +kernel
theorem dX4_recount_18 : decode cX4_recount 18 = .ok (.getfield 19, 3) := by decide +kernel
theorem dX4_recount_21 : decode cX4_recount 21 = .ok (.iload_n 1, 1) := by decide +kernel
theorem dX4_recount_22 : decode cX4_recount 22 = .ok (.iload_n 2, 1) := by decide +kernel
theorem dX4_recount_23 : decode cX4_recount 23 = .ok (.invokevirtual 230, 3) := by decide +kernel
theorem dX4_recount_26 : decode cX4_recount 26 = .ok (.invokevirtual 233, 3) := by decide +kernel
theorem dX4_recount_29 : decode cX4_recount 29 = .ok (.istore_n 3, 1) := by decide +kernel
theorem dX4_recount_30 : decode cX4_recount 30 = .ok (.iload_n 1, 1) := by decide +kernel
theorem dX4_recount_31 : decode cX4_recount 31 = .ok (.iconst 1, 1) := by decide +kernel
theorem dX4_recount_32 : decode cX4_recount 32 = .ok (.isub, 1) := by decide +kernel
theorem dX4_recount_33 : decode cX4_recount 33 = .ok (.istore 4, 2) := by decide +kernel
theorem dX4_recount_35 : decode cX4_recount 35 = .ok (.iload 4, 2) := by decide +kernel
theorem dX4_recount_37 : decode cX4_recount 37 = .ok (.ifCond .lt 42, 3) := by decide +kernel
theorem dX4_recount_40 : decode cX4_recount 40 = .ok (.aload_n 0, 1) := by decide +kernel
theorem dX4_recount_41 : decode cX4_recount 41 = .ok (.getfield 19, 3) := by decide +kernel
theorem dX4_recount_44 : decode cX4_recount 44 = .ok (.iload 4, 2) := by decide +kernel
theorem dX4_recount_46 : decode cX4_recount 46 = .ok (.iload_n 2, 1) := by decide +kernel
theorem dX4_recount_47 : decode cX4_recount 47 = .ok (.invokevirtual 88, 3) := by decide +kernel
theorem dX4_recount_50 : decode cX4_recount 50 = .ok (.ifCond .eq 29, 3) := by decide +kernel
theorem dX4_recount_53 : decode cX4_recount 53 = .ok (.iload_n 3, 1) := by decide +kernel
theorem dX4_recount_54 : decode cX4_recount 54 = .ok (.aload_n 0, 1) := by decide +kernel
theorem dX4_recount_55 : decode cX4_recount 55 = .ok (.iload 4, 2) := by decide +kernel
theorem dX4_recount_57 : decode cX4_recount 57 = .ok (.iload_n 2, 1) := by decide +kernel
theorem dX4_recount_58 : decode cX4_recount 58 = .ok (.aload_n 0, 1) := by decide +kernel
theorem dX4_recount_59 : decode cX4_recount 59 = .ok (.getfield 19, 3) := by decide +kernel
theorem dX4_recount_62 : decode cX4_recount 62 = .ok (.iload 4, 2) := by decide +kernel
theorem dX4_recount_64 : decode cX4_recount 64 = .ok (.iload_n 2, 1) := by decide +kernel
theorem dX4_recount_65 : decode cX4_recount 65 = .ok (.invokevirtual 237, 3) := by decide +kernel
theorem dX4_recount_68 : decode cX4_recount 68 = .ok (.invokevirtual 233, 3) := by decide +kernel
theorem dX4_recount_71 : decode cX4_recount 71 = .ok (.iadd, 1) := by decide +kernel
theorem dX4_recount_72 : decode cX4_recount 72 = .ok (.istore_n 3, 1) := by decide +kernel
theorem dX4_recount_73 : decode cX4_recount 73 = .ok (.iinc 4 (-1), 3) := by decide +kernel
theorem dX4_recount_76 : decode cX4_recount 76 = .ok (.goto (-41), 3) := by decide +kernel
theorem dX4_recount_79 : decode cX4_recount 79 = .ok (.iload_n 1, 1) := by decide +kernel
theorem dX4_recount_80 : decode cX4_recount 80 = .ok (.iconst 1, 1) := by decide +kernel
theorem dX4_recount_81 : decode cX4_recount 81 = .ok (.iadd, 1) := by decide +kernel
theorem dX4_recount_82 : decode cX4_recount 82 = .ok (.istore 4, 2) := by decide +kernel
theorem dX4_recount_84 : decode cX4_recount 84 = .ok (.iload 4, 2) := by decide +kernel
theorem dX4_recount_86 : decode cX4_recount 86 = .ok (.bipush 12, 2) := by decide +kernel
theorem dX4_recount_88 : decode cX4_recount 88 = .ok (.if_icmp .ge 42, 3) := by decide +kernel
theorem dX4_recount_91 : decode cX4_recount 91 = .ok (.aload_n 0, 1) := by decide +kernel
theorem dX4_recount_92 : decode cX4_recount 92 = .ok (.getfield 19, 3) := by decide +kernel
theorem dX4_recount_95 : decode cX4_recount 95 = .ok (.iload 4, 2) := by decide +kernel
theorem dX4_recount_97 : decode cX4_recount 97 = .ok (.iload_n 2, 1) := by decide +kernel
theorem dX4_recount_98 : decode cX4_recount 98 = .ok (.invokevirtual 88, 3) := by decide +kernel
theorem dX4_recount_101 : decode cX4_recount 101 = .ok (.ifCond .eq 29, 3) := by decide +kernel
theorem dX4_recount_104 : decode cX4_recount 104 = .ok (.iload_n 3, 1) := by decide +kernel
theorem dX4_recount_105 : decode cX4_recount 105 = .ok (.aload_n 0, 1) := by decide +kernel
theorem dX4_recount_106 : decode cX4_recount 106 = .ok (.iload 4, 2) := by decide +kernel
theorem dX4_recount_108 : decode cX4_recount 108 = .ok (.iload_n 2, 1) := by decide +kernel
theorem dX4_recount_109 : decode cX4_recount 109 = .ok (.aload_n 0, 1) := by decide +kernel
theorem dX4_recount_110 : decode cX4_recount 110 = .ok (.getfield 19, 3) := by decide +kernel
theorem dX4_recount_113 : decode cX4_recount 113 = .ok (.iload 4, 2) := by decide +kernel
theorem dX4_recount_115 : decode cX4_recount 115 = .ok (.iload_n 2, 1) := by decide +kernel
theorem dX4_recount_116 : decode cX4_recount 116 = .ok (.invokevirtual 237, 3) := by decide +kernel
theorem dX4_recount_119 : decode cX4_recount 119 = .ok (.invokevirtual 233, 3) := by decide +kernel
theorem dX4_recount_122 : decode cX4_recount 122 = .ok (.iadd, 1) := by decide +kernel
theorem dX4_recount_123 : decode cX4_recount 123 = .ok (.istore_n 3, 1) := by decide +kernel
theorem dX4_recount_124 : decode cX4_recount 124 = .ok (.iinc 4 1, 3) := by decide +kernel
theorem dX4_recount_127 : decode cX4_recount 127 = .ok (.goto (-43), 3) := by decide +kernel
theorem dX4_recount_130 : decode cX4_recount 130 = .ok (.iload_n 3, 1) := by decide +kernel
theorem dX4_recount_131 : decode cX4_recount 131 = .ok (.ireturn, 1) := by decide +kernel
set_option maxRecDepth 20000 in
theorem ggX4_keepCount_X4_cell : GoodIn wsX4_keepCount wsX4_cell := goodIn_r _ [6] (by decide +kernel) (by decide +kernel)
set_option maxRecDepth 20000 in
theorem gX4_keepCount_X4_cell : GoodIn wsX4_keepCount (va_wsS RX4 95 yX4_cell wsX4_cell) := goodIn_app (goodIn_of _ (by decide +kernel)) ggX4_keepCount_X4_cell
set_option maxRecDepth 20000 in
theorem ggX4_keepCount_X4_correctRents : GoodIn wsX4_keepCount wsX4_correctRents := goodIn_r _ [10, 11, 12, 13, 14, 15, 16, 17, 18, 19, 20, 21, 22, 23, 24, 25, 26, 27, 28, 29, 30, 31, 32, 33, 34, 35, 36, 37, 38, 39, 40, 41, 42, 43, 44, 45, 46, 47, 48, 49, 50, 51, 52, 53, 54, 55, 56, 57, 66, 67, 68, 69, 70, 71, 72, 73, 74, 75, 76, 77] (by decide +kernel) (by decide +kernel)
set_option maxRecDepth 20000 in
theorem gX4_keepCount_X4_correctRents : GoodIn wsX4_keepCount (wsV RX4 240 RX4 yX4_correctRents wsX4_correctRents) := goodIn_app (goodIn_of _ (by decide +kernel)) ggX4_keepCount_X4_correctRents
theorem dX4_keepCount_0 : decode cX4_keepCount 0 = .ok (.iload_n 1, 1) := by decide +kernel
theorem dX4_keepCount_1 : decode cX4_keepCount 1 = .ok (.iload_n 2, 1) := by decide +kernel
theorem dX4_keepCount_2 : decode cX4_keepCount 2 = .ok (.invokestatic 95, 3) := by decide +kernel
theorem dX4_keepCount_5 : decode cX4_keepCount 5 = .ok (.istore 4, 2) := by decide +kernel
theorem dX4_keepCount_7 : decode cX4_keepCount 7 = .ok (.aload_n 0, 1) := by decide +kernel
theorem dX4_keepCount_8 : decode cX4_keepCount 8 = .ok (.getfield 19, 3) := by decide +kernel
theorem dX4_keepCount_11 : decode cX4_keepCount 11 = .ok (.getfield 163, 3) := by decide +kernel
theorem dX4_keepCount_14 : decode cX4_keepCount 14 = .ok (.iload 4, 2) := by decide +kernel
theorem dX4_keepCount_16 : decode cX4_keepCount 16 = .ok (.iaload, 1) := by decide +kernel
theorem dX4_keepCount_17 : decode cX4_keepCount 17 = .ok (.istore 5, 2) := by decide +kernel
theorem dX4_keepCount_19 : decode cX4_keepCount 19 = .ok (.aload_n 0, 1) := by decide +kernel
theorem dX4_keepCount_20 : decode cX4_keepCount 20 = .ok (.getfield 19, 3) := by decide +kernel
theorem dX4_keepCount_23 : decode cX4_keepCount 23 = .ok (.getfield 163, 3) := by decide +kernel
theorem dX4_keepCount_26 : decode cX4_keepCount 26 = .ok (.iload 4, 2) := by decide +kernel
theorem dX4_keepCount_28 : decode cX4_keepCount 28 = .ok (.iload_n 3, 1) := by decide +kernel
theorem dX4_keepCount_29 : decode cX4_keepCount 29 = .ok (.iastore, 1) := by decide +kernel
theorem dX4_keepCount_30 : decode cX4_keepCount 30 = .ok (.iload_n 3, 1) := by decide +kernel
theorem dX4_keepCount_31 : decode cX4_keepCount 31 = .ok (.iload 5, 2) := by decide +kernel
theorem dX4_keepCount_33 : decode cX4_keepCount 33 = .ok (.if_icmp .ne 7, 3) := by decide +kernel
theorem dX4_keepCount_36 : decode cX4_keepCount 36 = .ok (.iconst 0, 1) := by decide +kernel
theorem dX4_keepCount_37 : decode cX4_keepCount 37 = .ok (.goto 12, 3) := by decide +kernel
theorem dX4_keepCount_40 : decode cX4_keepCount 40 = .ok (.aload_n 0, 1) := by decide +kernel
theorem dX4_keepCount_41 : decode cX4_keepCount 41 = .ok (.iload_n 1, 1) := by decide +kernel
theorem dX4_keepCount_42 : decode cX4_keepCount 42 = .ok (.iload_n 2, 1) := by decide +kernel
theorem dX4_keepCount_43 : decode cX4_keepCount 43 = .ok (.iload 5, 2) := by decide +kernel
theorem dX4_keepCount_45 : decode cX4_keepCount 45 = .ok (.iload_n 3, 1) := by decide +kernel
theorem dX4_keepCount_46 : decode cX4_keepCount 46 = .ok (.invokevirtual 240, 3) := by decide +kernel
theorem dX4_keepCount_49 : decode cX4_keepCount 49 = .ok (.ireturn, 1) := by decide +kernel
set_option maxRecDepth 20000 in
theorem ggX4_correctRents_Jx4a65c_size_8abf5 : GoodIn wsX4_correctRents wsJx4a65c_size_8abf5 := goodIn_r _ [10, 11, 57, 58, 59] (by decide +kernel) (by decide +kernel)
set_option maxRecDepth 20000 in
theorem gX4_correctRents_Jx4a65c_size_8abf5 : GoodIn wsX4_correctRents (wsV RX4 98 RJx4a65c yJx4a65c_size_8abf5 wsJx4a65c_size_8abf5) := goodIn_app (goodIn_of _ (by decide +kernel)) ggX4_correctRents_Jx4a65c_size_8abf5
set_option maxRecDepth 20000 in
theorem ggX4_correctRents_Jx4a65c_get_915e3 : GoodIn wsX4_correctRents wsJx4a65c_get_915e3 := goodIn_r _ [15, 11, 16, 17, 18, 19, 20, 21, 22, 23, 24, 25, 26, 9, 27, 28, 57, 58, 59] (by decide +kernel) (by decide +kernel)
set_option maxRecDepth 20000 in
theorem gX4_correctRents_Jx4a65c_get_915e3 : GoodIn wsX4_correctRents (wsV RX4 114 RJx4a65c yJx4a65c_get_915e3 wsJx4a65c_get_915e3) := goodIn_app (goodIn_of _ (by decide +kernel)) ggX4_correctRents_Jx4a65c_get_915e3
set_option maxRecDepth 20000 in
theorem ggX4_correctRents_X2_covers : GoodIn wsX4_correctRents wsX2_covers := goodIn_r _ [33, 34, 35, 48, 49, 50, 51, 52, 53, 54, 55, 56] (by decide +kernel) (by decide +kernel)
set_option maxRecDepth 20000 in
theorem gX4_correctRents_X2_covers : GoodIn wsX4_correctRents (wsV RX4 174 RX2 yX2_covers wsX2_covers) := goodIn_app (goodIn_of _ (by decide +kernel)) ggX4_correctRents_X2_covers
set_option maxRecDepth 20000 in
theorem ggX4_correctRents_X2_rentFor : GoodIn wsX4_correctRents wsX2_rentFor := goodIn_r _ [39, 40, 41, 48, 49, 50, 51, 52, 53, 54, 55, 56] (by decide +kernel) (by decide +kernel)
set_option maxRecDepth 20000 in
theorem gX4_correctRents_X2_rentFor : GoodIn wsX4_correctRents (wsV RX4 184 RX2 yX2_rentFor wsX2_rentFor) := goodIn_app (goodIn_of _ (by decide +kernel)) ggX4_correctRents_X2_rentFor
theorem dX4_correctRents_0 : decode cX4_correctRents 0 = .ok (.iconst 0, 1) := by decide +kernel
theorem dX4_correctRents_1 : decode cX4_correctRents 1 = .ok (.istore 5, 2) := by decide +kernel
theorem dX4_correctRents_3 : decode cX4_correctRents 3 = .ok (.iconst 0, 1) := by decide +kernel
theorem dX4_correctRents_4 : decode cX4_correctRents 4 = .ok (.istore 6, 2) := by decide +kernel
theorem dX4_correctRents_6 : decode cX4_correctRents 6 = .ok (.iload 6, 2) := by decide +kernel
theorem dX4_correctRents_8 : decode cX4_correctRents 8 = .ok (.aload_n 0, 1) := by decide +kernel
theorem dX4_correctRents_9 : decode cX4_correctRents 9 = .ok (.getfield 33, 3) := by decide +kernel
theorem dX4_correctRents_12 : decode cX4_correctRents 12 = .ok (.invokevirtual 98, 3) := by decide +kernel
theorem dX4_correctRents_15 : decode cX4_correctRents 15 = .ok (.if_icmp .ge 88, 3) := by decide +kernel
theorem dX4_correctRents_18 : decode cX4_correctRents 18 = .ok (.aload_n 0, 1) := by decide +kernel
theorem dX4_correctRents_19 : decode cX4_correctRents 19 = .ok (.getfield 33, 3) := by decide +kernel
theorem dX4_correctRents_22 : decode cX4_correctRents 22 = .ok (.iload 6, 2) := by decide +kernel
theorem dX4_correctRents_24 : decode cX4_correctRents 24 = .ok (.invokevirtual 114, 3) := by decide +kernel
theorem dX4_correctRents_27 : decode cX4_correctRents 27 = .ok (.checkcast 101, 3) := by decide +kernel
theorem dX4_correctRents_30 : decode cX4_correctRents 30 = .ok (.astore 7, 2) := by decide +kernel
theorem dX4_correctRents_32 : decode cX4_correctRents 32 = .ok (.aload 7, 2) := by decide +kernel
theorem dX4_correctRents_34 : decode cX4_correctRents 34 = .ok (.getfield 181, 3) := by decide +kernel
theorem dX4_correctRents_37 : decode cX4_correctRents 37 = .ok (.iload_n 1, 1) := by decide +kernel
theorem dX4_correctRents_38 : decode cX4_correctRents 38 = .ok (.if_icmp .ne 59, 3) := by decide +kernel
theorem dX4_correctRents_41 : decode cX4_correctRents 41 = .ok (.aload 7, 2) := by decide +kernel
theorem dX4_correctRents_43 : decode cX4_correctRents 43 = .ok (.iload_n 2, 1) := by decide +kernel
theorem dX4_correctRents_44 : decode cX4_correctRents 44 = .ok (.invokevirtual 174, 3) := by decide +kernel
theorem dX4_correctRents_47 : decode cX4_correctRents 47 = .ok (.ifCond .eq 50, 3) := by decide +kernel
theorem dX4_correctRents_50 : decode cX4_correctRents 50 = .ok (.aload 7, 2) := by decide +kernel
theorem dX4_correctRents_52 : decode cX4_correctRents 52 = .ok (.iload 4, 2) := by decide +kernel
theorem dX4_correctRents_54 : decode cX4_correctRents 54 = .ok (.invokevirtual 184, 3) := by decide +kernel
theorem dX4_correctRents_57 : decode cX4_correctRents 57 = .ok (.aload 7, 2) := by decide +kernel
theorem dX4_correctRents_59 : decode cX4_correctRents 59 = .ok (.iload_n 3, 1) := by decide +kernel
theorem dX4_correctRents_60 : decode cX4_correctRents 60 = .ok (.invokevirtual 184, 3) := by decide +kernel
theorem dX4_correctRents_63 : decode cX4_correctRents 63 = .ok (.isub, 1) := by decide +kernel
theorem dX4_correctRents_64 : decode cX4_correctRents 64 = .ok (.istore 8, 2) := by decide +kernel
theorem dX4_correctRents_66 : decode cX4_correctRents 66 = .ok (.aload 7, 2) := by decide +kernel
theorem dX4_correctRents_68 : decode cX4_correctRents 68 = .ok (.dup, 1) := by decide +kernel
theorem dX4_correctRents_69 : decode cX4_correctRents 69 = .ok (.getfield 178, 3) := by decide +kernel
theorem dX4_correctRents_72 : decode cX4_correctRents 72 = .ok (.iload 8, 2) := by decide +kernel
theorem dX4_correctRents_74 : decode cX4_correctRents 74 = .ok (.iadd, 1) := by decide +kernel
theorem dX4_correctRents_75 : decode cX4_correctRents 75 = .ok (.putfield 178, 3) := by decide +kernel
theorem dX4_correctRents_78 : decode cX4_correctRents 78 = .ok (.aload 7, 2) := by decide +kernel
theorem dX4_correctRents_80 : decode cX4_correctRents 80 = .ok (.dup, 1) := by decide +kernel
theorem dX4_correctRents_81 : decode cX4_correctRents 81 = .ok (.getfield 187, 3) := by decide +kernel
theorem dX4_correctRents_84 : decode cX4_correctRents 84 = .ok (.iload 8, 2) := by decide +kernel
theorem dX4_correctRents_86 : decode cX4_correctRents 86 = .ok (.iadd, 1) := by decide +kernel
theorem dX4_correctRents_87 : decode cX4_correctRents 87 = .ok (.putfield 187, 3) := by decide +kernel
theorem dX4_correctRents_90 : decode cX4_correctRents 90 = .ok (.iload 5, 2) := by decide +kernel
theorem dX4_correctRents_92 : decode cX4_correctRents 92 = .ok (.iload 8, 2) := by decide +kernel
theorem dX4_correctRents_94 : decode cX4_correctRents 94 = .ok (.iadd, 1) := by decide +kernel
theorem dX4_correctRents_95 : decode cX4_correctRents 95 = .ok (.istore 5, 2) := by decide +kernel
theorem dX4_correctRents_97 : decode cX4_correctRents 97 = .ok (.iinc 6 1, 3) := by decide +kernel
theorem dX4_correctRents_100 : decode cX4_correctRents 100 = .ok (.goto (-94), 3) := by decide +kernel
theorem dX4_correctRents_103 : decode cX4_correctRents 103 = .ok (.iload 5, 2) := by decide +kernel
theorem dX4_correctRents_105 : decode cX4_correctRents 105 = .ok (.ireturn, 1) := by decide +kernel
set_option maxRecDepth 20000 in
theorem ggX4_isDoorHeld_Jx4a65c_size_8abf5 : GoodIn wsX4_isDoorHeld wsJx4a65c_size_8abf5 := goodIn_r _ [7, 8, 40, 41, 42] (by decide +kernel) (by decide +kernel)
set_option maxRecDepth 20000 in
theorem gX4_isDoorHeld_Jx4a65c_size_8abf5 : GoodIn wsX4_isDoorHeld (wsV RX4 98 RJx4a65c yJx4a65c_size_8abf5 wsJx4a65c_size_8abf5) := goodIn_app (goodIn_of _ (by decide +kernel)) ggX4_isDoorHeld_Jx4a65c_size_8abf5
set_option maxRecDepth 20000 in
theorem ggX4_isDoorHeld_Jx4a65c_get_915e3 : GoodIn wsX4_isDoorHeld wsJx4a65c_get_915e3 := goodIn_r _ [12, 8, 13, 14, 15, 16, 17, 18, 19, 20, 21, 22, 23, 6, 24, 25, 40, 41, 42] (by decide +kernel) (by decide +kernel)
set_option maxRecDepth 20000 in
theorem gX4_isDoorHeld_Jx4a65c_get_915e3 : GoodIn wsX4_isDoorHeld (wsV RX4 114 RJx4a65c yJx4a65c_get_915e3 wsJx4a65c_get_915e3) := goodIn_app (goodIn_of _ (by decide +kernel)) ggX4_isDoorHeld_Jx4a65c_get_915e3
set_option maxRecDepth 20000 in
theorem ggX4_isDoorHeld_X2_clashesWith : GoodIn wsX4_isDoorHeld wsX2_clashesWith := goodIn_r _ [30, 31, 32, 33, 43, 44, 45, 46, 47, 48, 49, 50, 51] (by decide +kernel) (by decide +kernel)
set_option maxRecDepth 20000 in
theorem gX4_isDoorHeld_X2_clashesWith : GoodIn wsX4_isDoorHeld (wsV RX4 244 RX2 yX2_clashesWith wsX2_clashesWith) := goodIn_app (goodIn_of _ (by decide +kernel)) ggX4_isDoorHeld_X2_clashesWith
theorem dX4_isDoorHeld_0 : decode cX4_isDoorHeld 0 = .ok (.iconst 0, 1) := by decide +kernel
theorem dX4_isDoorHeld_1 : decode cX4_isDoorHeld 1 = .ok (.istore_n 2, 1) := by decide +kernel
theorem dX4_isDoorHeld_2 : decode cX4_isDoorHeld 2 = .ok (.iload_n 2, 1) := by decide +kernel
theorem dX4_isDoorHeld_3 : decode cX4_isDoorHeld 3 = .ok (.aload_n 0, 1) := by decide +kernel
theorem dX4_isDoorHeld_4 : decode cX4_isDoorHeld 4 = .ok (.getfield 33, 3) := by decide +kernel
theorem dX4_isDoorHeld_7 : decode cX4_isDoorHeld 7 = .ok (.invokevirtual 98, 3) := by decide +kernel
theorem dX4_isDoorHeld_10 : decode cX4_isDoorHeld 10 = .ok (.if_icmp .ge 29, 3) := by decide +kernel
theorem dX4_isDoorHeld_13 : decode cX4_isDoorHeld 13 = .ok (.aload_n 0, 1) := by decide +kernel
theorem dX4_isDoorHeld_14 : decode cX4_isDoorHeld 14 = .ok (.getfield 33, 3) := by decide +kernel
theorem dX4_isDoorHeld_17 : decode cX4_isDoorHeld 17 = .ok (.iload_n 2, 1) := by decide +kernel
theorem dX4_isDoorHeld_18 : decode cX4_isDoorHeld 18 = .ok (.invokevirtual 114, 3) := by decide +kernel
theorem dX4_isDoorHeld_21 : decode cX4_isDoorHeld 21 = .ok (.checkcast 101, 3) := by decide +kernel
theorem dX4_isDoorHeld_24 : decode cX4_isDoorHeld 24 = .ok (.aload_n 1, 1) := by decide +kernel
theorem dX4_isDoorHeld_25 : decode cX4_isDoorHeld 25 = .ok (.invokevirtual 244, 3) := by decide +kernel
theorem dX4_isDoorHeld_28 : decode cX4_isDoorHeld 28 = .ok (.ifCond .eq 5, 3) := by decide +kernel
theorem dX4_isDoorHeld_31 : decode cX4_isDoorHeld 31 = .ok (.iconst 1, 1) := by decide +kernel
theorem dX4_isDoorHeld_32 : decode cX4_isDoorHeld 32 = .ok (.ireturn, 1) := by decide +kernel
theorem dX4_isDoorHeld_33 : decode cX4_isDoorHeld 33 = .ok (.iinc 2 1, 3) := by decide +kernel
theorem dX4_isDoorHeld_36 : decode cX4_isDoorHeld 36 = .ok (.goto (-34), 3) := by decide +kernel
theorem dX4_isDoorHeld_39 : decode cX4_isDoorHeld 39 = .ok (.iconst 0, 1) := by decide +kernel
theorem dX4_isDoorHeld_40 : decode cX4_isDoorHeld 40 = .ok (.ireturn, 1) := by decide +kernel
set_option maxRecDepth 20000 in
theorem ggX4_debt_Jx4a65c_size_8abf5 : GoodIn wsX4_debt wsJx4a65c_size_8abf5 := goodIn_r _ [10, 11, 44, 45, 46] (by decide +kernel) (by decide +kernel)
set_option maxRecDepth 20000 in
theorem gX4_debt_Jx4a65c_size_8abf5 : GoodIn wsX4_debt (wsV RX4 98 RJx4a65c yJx4a65c_size_8abf5 wsJx4a65c_size_8abf5) := goodIn_app (goodIn_of _ (by decide +kernel)) ggX4_debt_Jx4a65c_size_8abf5
set_option maxRecDepth 20000 in
theorem ggX4_debt_Jx4a65c_get_915e3 : GoodIn wsX4_debt wsJx4a65c_get_915e3 := goodIn_r _ [15, 11, 16, 17, 18, 19, 20, 21, 22, 23, 24, 25, 26, 9, 27, 28, 44, 45, 46] (by decide +kernel) (by decide +kernel)
set_option maxRecDepth 20000 in
theorem gX4_debt_Jx4a65c_get_915e3 : GoodIn wsX4_debt (wsV RX4 114 RJx4a65c yJx4a65c_get_915e3 wsJx4a65c_get_915e3) := goodIn_app (goodIn_of _ (by decide +kernel)) ggX4_debt_Jx4a65c_get_915e3
theorem dX4_debt_0 : decode cX4_debt 0 = .ok (.aload_n 0, 1) := by decide +kernel
theorem dX4_debt_1 : decode cX4_debt 1 = .ok (.getfield 37, 3) := by decide +kernel
theorem dX4_debt_4 : decode cX4_debt 4 = .ok (.iload_n 1, 1) := by decide +kernel
theorem dX4_debt_5 : decode cX4_debt 5 = .ok (.iaload, 1) := by decide +kernel
theorem dX4_debt_6 : decode cX4_debt 6 = .ok (.ineg, 1) := by decide +kernel
theorem dX4_debt_7 : decode cX4_debt 7 = .ok (.istore_n 2, 1) := by decide +kernel
theorem dX4_debt_8 : decode cX4_debt 8 = .ok (.iconst 0, 1) := by decide +kernel
theorem dX4_debt_9 : decode cX4_debt 9 = .ok (.istore_n 3, 1) := by decide +kernel
theorem dX4_debt_10 : decode cX4_debt 10 = .ok (.iload_n 3, 1) := by decide +kernel
theorem dX4_debt_11 : decode cX4_debt 11 = .ok (.aload_n 0, 1) := by decide +kernel
theorem dX4_debt_12 : decode cX4_debt 12 = .ok (.getfield 33, 3) := by decide +kernel
theorem dX4_debt_15 : decode cX4_debt 15 = .ok (.invokevirtual 98, 3) := by decide +kernel
theorem dX4_debt_18 : decode cX4_debt 18 = .ok (.if_icmp .ge 39, 3) := by decide +kernel
theorem dX4_debt_21 : decode cX4_debt 21 = .ok (.aload_n 0, 1) := by decide +kernel
theorem dX4_debt_22 : decode cX4_debt 22 = .ok (.getfield 33, 3) := by decide +kernel
theorem dX4_debt_25 : decode cX4_debt 25 = .ok (.iload_n 3, 1) := by decide +kernel
theorem dX4_debt_26 : decode cX4_debt 26 = .ok (.invokevirtual 114, 3) := by decide +kernel
theorem dX4_debt_29 : decode cX4_debt 29 = .ok (.checkcast 101, 3) := by decide +kernel
theorem dX4_debt_32 : decode cX4_debt 32 = .ok (.astore 4, 2) := by decide +kernel
theorem dX4_debt_34 : decode cX4_debt 34 = .ok (.aload 4, 2) := by decide +kernel
theorem dX4_debt_36 : decode cX4_debt 36 = .ok (.getfield 247, 3) := by decide +kernel
theorem dX4_debt_39 : decode cX4_debt 39 = .ok (.iload_n 1, 1) := by decide +kernel
theorem dX4_debt_40 : decode cX4_debt 40 = .ok (.if_icmp .ne 11, 3) := by decide +kernel
theorem dX4_debt_43 : decode cX4_debt 43 = .ok (.iload_n 2, 1) := by decide +kernel
theorem dX4_debt_44 : decode cX4_debt 44 = .ok (.aload 4, 2) := by decide +kernel
theorem dX4_debt_46 : decode cX4_debt 46 = .ok (.getfield 178, 3) := by decide +kernel
theorem dX4_debt_49 : decode cX4_debt 49 = .ok (.iadd, 1) := by decide +kernel
theorem dX4_debt_50 : decode cX4_debt 50 = .ok (.istore_n 2, 1) := by decide +kernel
theorem dX4_debt_51 : decode cX4_debt 51 = .ok (.iinc 3 1, 3) := by decide +kernel
theorem dX4_debt_54 : decode cX4_debt 54 = .ok (.goto (-44), 3) := by decide +kernel
theorem dX4_debt_57 : decode cX4_debt 57 = .ok (.iload_n 2, 1) := by decide +kernel
theorem dX4_debt_58 : decode cX4_debt 58 = .ok (.ireturn, 1) := by decide +kernel
theorem dJ9_abs_0f7a4_0 : decode cJ9_abs_0f7a4 0 = .ok (.iload_n 0, 1) := by decide +kernel
theorem dJ9_abs_0f7a4_1 : decode cJ9_abs_0f7a4 1 = .ok (.ifCond .ge 8, 3) := by decide +kernel
theorem dJ9_abs_0f7a4_4 : decode cJ9_abs_0f7a4 4 = .ok (.iload_n 0, 1) := by decide +kernel
theorem dJ9_abs_0f7a4_5 : decode cJ9_abs_0f7a4 5 = .ok (.ineg, 1) := by decide +kernel
theorem dJ9_abs_0f7a4_6 : decode cJ9_abs_0f7a4 6 = .ok (.goto 4, 3) := by decide +kernel
theorem dJ9_abs_0f7a4_9 : decode cJ9_abs_0f7a4 9 = .ok (.iload_n 0, 1) := by decide +kernel
theorem dJ9_abs_0f7a4_10 : decode cJ9_abs_0f7a4 10 = .ok (.ireturn, 1) := by decide +kernel
theorem dJ9_max_7cf53_0 : decode cJ9_max_7cf53 0 = .ok (.iload_n 0, 1) := by decide +kernel
theorem dJ9_max_7cf53_1 : decode cJ9_max_7cf53 1 = .ok (.iload_n 1, 1) := by decide +kernel
theorem dJ9_max_7cf53_2 : decode cJ9_max_7cf53 2 = .ok (.if_icmp .lt 7, 3) := by decide +kernel
theorem dJ9_max_7cf53_5 : decode cJ9_max_7cf53 5 = .ok (.iload_n 0, 1) := by decide +kernel
theorem dJ9_max_7cf53_6 : decode cJ9_max_7cf53 6 = .ok (.goto 4, 3) := by decide +kernel
theorem dJ9_max_7cf53_9 : decode cJ9_max_7cf53 9 = .ok (.iload_n 1, 1) := by decide +kernel
theorem dJ9_max_7cf53_10 : decode cJ9_max_7cf53 10 = .ok (.ireturn, 1) := by decide +kernel
theorem dJ9_min_7cf53_0 : decode cJ9_min_7cf53 0 = .ok (.iload_n 0, 1) := by decide +kernel
theorem dJ9_min_7cf53_1 : decode cJ9_min_7cf53 1 = .ok (.iload_n 1, 1) := by decide +kernel
theorem dJ9_min_7cf53_2 : decode cJ9_min_7cf53 2 = .ok (.if_icmp .gt 7, 3) := by decide +kernel
theorem dJ9_min_7cf53_5 : decode cJ9_min_7cf53 5 = .ok (.iload_n 0, 1) := by decide +kernel
theorem dJ9_min_7cf53_6 : decode cJ9_min_7cf53 6 = .ok (.goto 4, 3) := by decide +kernel
theorem dJ9_min_7cf53_9 : decode cJ9_min_7cf53 9 = .ok (.iload_n 1, 1) := by decide +kernel
theorem dJ9_min_7cf53_10 : decode cJ9_min_7cf53 10 = .ok (.ireturn, 1) := by decide +kernel
theorem dJxa1e45_init_da8c8_0 : decode cJxa1e45_init_da8c8 0 = .ok (.aload_n 0, 1) := by decide +kernel
theorem dJxa1e45_init_da8c8_1 : decode cJxa1e45_init_da8c8 1 = .ok (.invokespecial 1, 3) := by decide +kernel
theorem dJxa1e45_init_da8c8_4 : decode cJxa1e45_init_da8c8 4 = .ok (.return_, 1) := by decide +kernel
set_option maxRecDepth 20000 in
theorem ggJxc12de_init_da8c8_Jxa1e45_init_da8c8 : GoodIn wsJxc12de_init_da8c8 wsJxa1e45_init_da8c8 := goodIn_r _ [5, 6, 7, 8] (by decide +kernel) (by decide +kernel)
set_option maxRecDepth 20000 in
theorem gJxc12de_init_da8c8_Jxa1e45_init_da8c8 : GoodIn wsJxc12de_init_da8c8 (wsJxa1e45_init_da8c8) := ggJxc12de_init_da8c8_Jxa1e45_init_da8c8
theorem dJxc12de_init_da8c8_0 : decode cJxc12de_init_da8c8 0 = .ok (.aload_n 0, 1) := by decide +kernel
theorem dJxc12de_init_da8c8_1 : decode cJxc12de_init_da8c8 1 = .ok (.invokespecial 1, 3) := by decide +kernel
theorem dJxc12de_init_da8c8_4 : decode cJxc12de_init_da8c8 4 = .ok (.aload_n 0, 1) := by decide +kernel
theorem dJxc12de_init_da8c8_5 : decode cJxc12de_init_da8c8 5 = .ok (.iconst 0, 1) := by decide +kernel
theorem dJxc12de_init_da8c8_6 : decode cJxc12de_init_da8c8 6 = .ok (.putfield 7, 3) := by decide +kernel
theorem dJxc12de_init_da8c8_9 : decode cJxc12de_init_da8c8 9 = .ok (.return_, 1) := by decide +kernel
set_option maxRecDepth 20000 in
theorem ggJx4a65c_init_da8c8_Jxc12de_init_da8c8 : GoodIn wsJx4a65c_init_da8c8 wsJxc12de_init_da8c8 := goodIn_r _ [6, 7, 8, 9, 10, 11, 12, 13, 14, 15, 16, 17] (by decide +kernel) (by decide +kernel)
set_option maxRecDepth 20000 in
theorem gJx4a65c_init_da8c8_Jxc12de_init_da8c8 : GoodIn wsJx4a65c_init_da8c8 (wsJxc12de_init_da8c8) := ggJx4a65c_init_da8c8_Jxc12de_init_da8c8
theorem dJx4a65c_init_da8c8_0 : decode cJx4a65c_init_da8c8 0 = .ok (.aload_n 0, 1) := by decide +kernel
theorem dJx4a65c_init_da8c8_1 : decode cJx4a65c_init_da8c8 1 = .ok (.invokespecial 1, 3) := by decide +kernel
theorem dJx4a65c_init_da8c8_4 : decode cJx4a65c_init_da8c8 4 = .ok (.aload_n 0, 1) := by decide +kernel
theorem dJx4a65c_init_da8c8_5 : decode cJx4a65c_init_da8c8 5 = .ok (.getstatic 39, 3) := by decide +kernel
theorem dJx4a65c_init_da8c8_8 : decode cJx4a65c_init_da8c8 8 = .ok (.putfield 9, 3) := by decide +kernel
theorem dJx4a65c_init_da8c8_11 : decode cJx4a65c_init_da8c8 11 = .ok (.return_, 1) := by decide +kernel
set_option maxRecDepth 20000 in
theorem ggJx4a65c_grow_92f84_J8_newLength_cabcc : GoodIn wsJx4a65c_grow_92f84 wsJ8_newLength_cabcc := goodIn_r _ [11, 12, 4, 5, 6, 13, 14, 15, 10, 16] (by decide +kernel) (by decide +kernel)
set_option maxRecDepth 20000 in
theorem gJx4a65c_grow_92f84_J8_newLength_cabcc : GoodIn wsJx4a65c_grow_92f84 (va_wsS RJx4a65c 73 yJ8_newLength_cabcc wsJ8_newLength_cabcc) := goodIn_app (goodIn_of _ (by decide +kernel)) ggJx4a65c_grow_92f84_J8_newLength_cabcc
set_option maxRecDepth 20000 in
theorem ggJx4a65c_grow_92f84_J7_copyOf_1904c : GoodIn wsJx4a65c_grow_92f84 wsJ7_copyOf_1904c := goodIn_r _ [20, 21, 22, 23, 24, 25, 26, 19, 27, 28, 29, 30, 31, 5, 32, 33, 34, 35, 36] (by decide +kernel) (by decide +kernel)
set_option maxRecDepth 20000 in
theorem gJx4a65c_grow_92f84_J7_copyOf_1904c : GoodIn wsJx4a65c_grow_92f84 (va_wsS RJx4a65c 66 yJ7_copyOf_1904c wsJ7_copyOf_1904c) := goodIn_app (goodIn_of _ (by decide +kernel)) ggJx4a65c_grow_92f84_J7_copyOf_1904c
theorem dJx4a65c_grow_92f84_0 : decode cJx4a65c_grow_92f84 0 = .ok (.aload_n 0, 1) := by decide +kernel
theorem dJx4a65c_grow_92f84_1 : decode cJx4a65c_grow_92f84 1 = .ok (.getfield 9, 3) := by decide +kernel
theorem dJx4a65c_grow_92f84_4 : decode cJx4a65c_grow_92f84 4 = .ok (.arraylength, 1) := by decide +kernel
theorem dJx4a65c_grow_92f84_5 : decode cJx4a65c_grow_92f84 5 = .ok (.istore_n 2, 1) := by decide +kernel
theorem dJx4a65c_grow_92f84_6 : decode cJx4a65c_grow_92f84 6 = .ok (.iload_n 2, 1) := by decide +kernel
theorem dJx4a65c_grow_92f84_7 : decode cJx4a65c_grow_92f84 7 = .ok (.ifCond .gt 13, 3) := by decide +kernel
theorem dJx4a65c_grow_92f84_10 : decode cJx4a65c_grow_92f84 10 = .ok (.aload_n 0, 1) := by decide +kernel
theorem dJx4a65c_grow_92f84_11 : decode cJx4a65c_grow_92f84 11 = .ok (.getfield 9, 3) := by decide +kernel
theorem dJx4a65c_grow_92f84_14 : decode cJx4a65c_grow_92f84 14 = .ok (.getstatic 39, 3) := by decide +kernel
theorem dJx4a65c_grow_92f84_17 : decode cJx4a65c_grow_92f84 17 = .ok (.if_acmp .eq 28, 3) := by decide +kernel
theorem dJx4a65c_grow_92f84_20 : decode cJx4a65c_grow_92f84 20 = .ok (.iload_n 2, 1) := by decide +kernel
theorem dJx4a65c_grow_92f84_21 : decode cJx4a65c_grow_92f84 21 = .ok (.iload_n 1, 1) := by decide +kernel
theorem dJx4a65c_grow_92f84_22 : decode cJx4a65c_grow_92f84 22 = .ok (.iload_n 2, 1) := by decide +kernel
theorem dJx4a65c_grow_92f84_23 : decode cJx4a65c_grow_92f84 23 = .ok (.isub, 1) := by decide +kernel
theorem dJx4a65c_grow_92f84_24 : decode cJx4a65c_grow_92f84 24 = .ok (.iload_n 2, 1) := by decide +kernel
theorem dJx4a65c_grow_92f84_25 : decode cJx4a65c_grow_92f84 25 = .ok (.iconst 1, 1) := by decide +kernel
theorem dJx4a65c_grow_92f84_26 : decode cJx4a65c_grow_92f84 26 = .ok (.ishr, 1) := by decide +kernel
theorem dJx4a65c_grow_92f84_27 : decode cJx4a65c_grow_92f84 27 = .ok (.invokestatic 73, 3) := by decide +kernel
theorem dJx4a65c_grow_92f84_30 : decode cJx4a65c_grow_92f84 30 = .ok (.istore_n 3, 1) := by decide +kernel
theorem dJx4a65c_grow_92f84_31 : decode cJx4a65c_grow_92f84 31 = .ok (.aload_n 0, 1) := by decide +kernel
theorem dJx4a65c_grow_92f84_32 : decode cJx4a65c_grow_92f84 32 = .ok (.aload_n 0, 1) := by decide +kernel
theorem dJx4a65c_grow_92f84_33 : decode cJx4a65c_grow_92f84 33 = .ok (.getfield 9, 3) := by decide +kernel
theorem dJx4a65c_grow_92f84_36 : decode cJx4a65c_grow_92f84 36 = .ok (.iload_n 3, 1) := by decide +kernel
theorem dJx4a65c_grow_92f84_37 : decode cJx4a65c_grow_92f84 37 = .ok (.invokestatic 66, 3) := by decide +kernel
theorem dJx4a65c_grow_92f84_40 : decode cJx4a65c_grow_92f84 40 = .ok (.dup_x1, 1) := by decide +kernel
theorem dJx4a65c_grow_92f84_41 : decode cJx4a65c_grow_92f84 41 = .ok (.putfield 9, 3) := by decide +kernel
theorem dJx4a65c_grow_92f84_44 : decode cJx4a65c_grow_92f84 44 = .ok (.areturn, 1) := by decide +kernel
theorem dJx4a65c_grow_92f84_45 : decode cJx4a65c_grow_92f84 45 = .ok (.aload_n 0, 1) := by decide +kernel
theorem dJx4a65c_grow_92f84_46 : decode cJx4a65c_grow_92f84 46 = .ok (.bipush 10, 2) := by decide +kernel
theorem dJx4a65c_grow_92f84_48 : decode cJx4a65c_grow_92f84 48 = .ok (.iload_n 1, 1) := by decide +kernel
theorem dJx4a65c_grow_92f84_49 : decode cJx4a65c_grow_92f84 49 = .ok (.invokestatic 79, 3) := by decide +kernel
theorem dJx4a65c_grow_92f84_52 : decode cJx4a65c_grow_92f84 52 = .ok (.anewarray 7, 3) := by decide +kernel
theorem dJx4a65c_grow_92f84_55 : decode cJx4a65c_grow_92f84 55 = .ok (.dup_x1, 1) := by decide +kernel
theorem dJx4a65c_grow_92f84_56 : decode cJx4a65c_grow_92f84 56 = .ok (.putfield 9, 3) := by decide +kernel
theorem dJx4a65c_grow_92f84_59 : decode cJx4a65c_grow_92f84 59 = .ok (.areturn, 1) := by decide +kernel
set_option maxRecDepth 20000 in
theorem ggJx4a65c_grow_d5877_Jx4a65c_grow_92f84 : GoodIn wsJx4a65c_grow_d5877 wsJx4a65c_grow_92f84 := goodIn_r _ [6, 7, 8, 9, 10, 11, 12, 13, 14, 15, 16, 17, 18, 19, 20, 21, 22, 23, 24, 25, 26, 27, 28, 29, 30, 31, 32, 33, 34, 35, 36, 37, 38, 39, 40, 41, 42, 43, 44, 45] (by decide +kernel) (by decide +kernel)
set_option maxRecDepth 20000 in
theorem gJx4a65c_grow_d5877_Jx4a65c_grow_92f84 : GoodIn wsJx4a65c_grow_d5877 (wsV RJx4a65c 69 RJx4a65c yJx4a65c_grow_92f84 wsJx4a65c_grow_92f84) := goodIn_app (goodIn_of _ (by decide +kernel)) ggJx4a65c_grow_d5877_Jx4a65c_grow_92f84
theorem dJx4a65c_grow_d5877_0 : decode cJx4a65c_grow_d5877 0 = .ok (.aload_n 0, 1) := by decide +kernel
theorem dJx4a65c_grow_d5877_1 : decode cJx4a65c_grow_d5877 1 = .ok (.aload_n 0, 1) := by decide +kernel
theorem dJx4a65c_grow_d5877_2 : decode cJx4a65c_grow_d5877 2 = .ok (.getfield 48, 3) := by decide +kernel
theorem dJx4a65c_grow_d5877_5 : decode cJx4a65c_grow_d5877 5 = .ok (.iconst 1, 1) := by decide +kernel
theorem dJx4a65c_grow_d5877_6 : decode cJx4a65c_grow_d5877 6 = .ok (.iadd, 1) := by decide +kernel
theorem dJx4a65c_grow_d5877_7 : decode cJx4a65c_grow_d5877 7 = .ok (.invokevirtual 69, 3) := by decide +kernel
theorem dJx4a65c_grow_d5877_10 : decode cJx4a65c_grow_d5877 10 = .ok (.areturn, 1) := by decide +kernel
theorem dJx4a65c_size_8abf5_0 : decode cJx4a65c_size_8abf5 0 = .ok (.aload_n 0, 1) := by decide +kernel
theorem dJx4a65c_size_8abf5_1 : decode cJx4a65c_size_8abf5 1 = .ok (.getfield 48, 3) := by decide +kernel
theorem dJx4a65c_size_8abf5_4 : decode cJx4a65c_size_8abf5 4 = .ok (.ireturn, 1) := by decide +kernel
theorem dJx4a65c_elementData_915e3_0 : decode cJx4a65c_elementData_915e3 0 = .ok (.aload_n 0, 1) := by decide +kernel
theorem dJx4a65c_elementData_915e3_1 : decode cJx4a65c_elementData_915e3 1 = .ok (.getfield 9, 3) := by decide +kernel
theorem dJx4a65c_elementData_915e3_4 : decode cJx4a65c_elementData_915e3 4 = .ok (.iload_n 1, 1) := by decide +kernel
theorem dJx4a65c_elementData_915e3_5 : decode cJx4a65c_elementData_915e3 5 = .ok (.aaload, 1) := by decide +kernel
theorem dJx4a65c_elementData_915e3_6 : decode cJx4a65c_elementData_915e3 6 = .ok (.areturn, 1) := by decide +kernel
set_option maxRecDepth 20000 in
theorem ggJx4a65c_get_915e3_J15_checkIndex_7cf53 : GoodIn wsJx4a65c_get_915e3 wsJ15_checkIndex_7cf53 := goodIn_r _ [5, 6, 7, 8, 9] (by decide +kernel) (by decide +kernel)
set_option maxRecDepth 20000 in
theorem gJx4a65c_get_915e3_J15_checkIndex_7cf53 : GoodIn wsJx4a65c_get_915e3 (va_wsS RJx4a65c 118 yJ15_checkIndex_7cf53 wsJ15_checkIndex_7cf53) := goodIn_app (goodIn_of _ (by decide +kernel)) ggJx4a65c_get_915e3_J15_checkIndex_7cf53
set_option maxRecDepth 20000 in
theorem ggJx4a65c_get_915e3_Jx4a65c_elementData_915e3 : GoodIn wsJx4a65c_get_915e3 wsJx4a65c_elementData_915e3 := goodIn_r _ [14, 15, 16, 17, 18] (by decide +kernel) (by decide +kernel)
set_option maxRecDepth 20000 in
theorem gJx4a65c_get_915e3_Jx4a65c_elementData_915e3 : GoodIn wsJx4a65c_get_915e3 (wsV RJx4a65c 123 RJx4a65c yJx4a65c_elementData_915e3 wsJx4a65c_elementData_915e3) := goodIn_app (goodIn_of _ (by decide +kernel)) ggJx4a65c_get_915e3_Jx4a65c_elementData_915e3
theorem dJx4a65c_get_915e3_0 : decode cJx4a65c_get_915e3 0 = .ok (.iload_n 1, 1) := by decide +kernel
theorem dJx4a65c_get_915e3_1 : decode cJx4a65c_get_915e3 1 = .ok (.aload_n 0, 1) := by decide +kernel
theorem dJx4a65c_get_915e3_2 : decode cJx4a65c_get_915e3 2 = .ok (.getfield 48, 3) := by decide +kernel
theorem dJx4a65c_get_915e3_5 : decode cJx4a65c_get_915e3 5 = .ok (.invokestatic 118, 3) := by decide +kernel
theorem dJx4a65c_get_915e3_8 : decode cJx4a65c_get_915e3 8 = .ok (.pop, 1) := by decide +kernel
theorem dJx4a65c_get_915e3_9 : decode cJx4a65c_get_915e3 9 = .ok (.aload_n 0, 1) := by decide +kernel
theorem dJx4a65c_get_915e3_10 : decode cJx4a65c_get_915e3 10 = .ok (.iload_n 1, 1) := by decide +kernel
theorem dJx4a65c_get_915e3_11 : decode cJx4a65c_get_915e3 11 = .ok (.invokevirtual 123, 3) := by decide +kernel
theorem dJx4a65c_get_915e3_14 : decode cJx4a65c_get_915e3 14 = .ok (.areturn, 1) := by decide +kernel
set_option maxRecDepth 20000 in
theorem ggJx4a65c_add_72be8_Jx4a65c_grow_d5877 : GoodIn wsJx4a65c_add_72be8 wsJx4a65c_grow_d5877 := goodIn_r _ [6, 1, 7, 8, 9, 5, 10, 11, 12, 13, 14, 15, 16, 17, 18, 19, 20, 21, 22, 23, 24, 25, 26, 27, 28, 29, 30, 31, 32, 33, 34, 35, 36, 37, 38, 39, 40, 41, 42, 43, 44, 45, 46, 47, 48, 49] (by decide +kernel) (by decide +kernel)
set_option maxRecDepth 20000 in
theorem gJx4a65c_add_72be8_Jx4a65c_grow_d5877 : GoodIn wsJx4a65c_add_72be8 (wsV RJx4a65c 129 RJx4a65c yJx4a65c_grow_d5877 wsJx4a65c_grow_d5877) := goodIn_app (goodIn_of _ (by decide +kernel)) ggJx4a65c_add_72be8_Jx4a65c_grow_d5877
theorem dJx4a65c_add_72be8_0 : decode cJx4a65c_add_72be8 0 = .ok (.iload_n 3, 1) := by decide +kernel
theorem dJx4a65c_add_72be8_1 : decode cJx4a65c_add_72be8 1 = .ok (.aload_n 2, 1) := by decide +kernel
theorem dJx4a65c_add_72be8_2 : decode cJx4a65c_add_72be8 2 = .ok (.arraylength, 1) := by decide +kernel
theorem dJx4a65c_add_72be8_3 : decode cJx4a65c_add_72be8 3 = .ok (.if_icmp .ne 8, 3) := by decide +kernel
theorem dJx4a65c_add_72be8_6 : decode cJx4a65c_add_72be8 6 = .ok (.aload_n 0, 1) := by decide +kernel
theorem dJx4a65c_add_72be8_7 : decode cJx4a65c_add_72be8 7 = .ok (.invokevirtual 129, 3) := by decide +kernel
theorem dJx4a65c_add_72be8_10 : decode cJx4a65c_add_72be8 10 = .ok (.astore_n 2, 1) := by decide +kernel
theorem dJx4a65c_add_72be8_11 : decode cJx4a65c_add_72be8 11 = .ok (.aload_n 2, 1) := by decide +kernel
theorem dJx4a65c_add_72be8_12 : decode cJx4a65c_add_72be8 12 = .ok (.iload_n 3, 1) := by decide +kernel
theorem dJx4a65c_add_72be8_13 : decode cJx4a65c_add_72be8 13 = .ok (.aload_n 1, 1) := by decide +kernel
theorem dJx4a65c_add_72be8_14 : decode cJx4a65c_add_72be8 14 = .ok (.aastore, 1) := by decide +kernel
theorem dJx4a65c_add_72be8_15 : decode cJx4a65c_add_72be8 15 = .ok (.aload_n 0, 1) := by decide +kernel
theorem dJx4a65c_add_72be8_16 : decode cJx4a65c_add_72be8 16 = .ok (.iload_n 3, 1) := by decide +kernel
theorem dJx4a65c_add_72be8_17 : decode cJx4a65c_add_72be8 17 = .ok (.iconst 1, 1) := by decide +kernel
theorem dJx4a65c_add_72be8_18 : decode cJx4a65c_add_72be8 18 = .ok (.iadd, 1) := by decide +kernel
theorem dJx4a65c_add_72be8_19 : decode cJx4a65c_add_72be8 19 = .ok (.putfield 48, 3) := by decide +kernel
theorem dJx4a65c_add_72be8_22 : decode cJx4a65c_add_72be8 22 = .ok (.return_, 1) := by decide +kernel
set_option maxRecDepth 20000 in
theorem ggJx4a65c_add_9ea2d_Jx4a65c_add_72be8 : GoodIn wsJx4a65c_add_9ea2d wsJx4a65c_add_72be8 := goodIn_r _ [9, 4, 10, 11, 12, 8, 13, 14, 15, 16, 17, 3, 18, 19, 20, 21, 22, 23, 24, 25, 26, 27, 28, 29, 30, 31, 32, 33, 34, 35, 36, 37, 38, 39, 40, 41, 42, 43, 44, 45, 46, 47, 48, 49, 50, 51, 52, 53, 54, 55] (by decide +kernel) (by decide +kernel)
set_option maxRecDepth 20000 in
theorem gJx4a65c_add_9ea2d_Jx4a65c_add_72be8 : GoodIn wsJx4a65c_add_9ea2d (wsV RJx4a65c 131 RJx4a65c yJx4a65c_add_72be8 wsJx4a65c_add_72be8) := goodIn_app (goodIn_of _ (by decide +kernel)) ggJx4a65c_add_9ea2d_Jx4a65c_add_72be8
theorem dJx4a65c_add_9ea2d_0 : decode cJx4a65c_add_9ea2d 0 = .ok (.aload_n 0, 1) := by decide +kernel
theorem dJx4a65c_add_9ea2d_1 : decode cJx4a65c_add_9ea2d 1 = .ok (.dup, 1) := by decide +kernel
theorem dJx4a65c_add_9ea2d_2 : decode cJx4a65c_add_9ea2d 2 = .ok (.getfield 63, 3) := by decide +kernel
theorem dJx4a65c_add_9ea2d_5 : decode cJx4a65c_add_9ea2d 5 = .ok (.iconst 1, 1) := by decide +kernel
theorem dJx4a65c_add_9ea2d_6 : decode cJx4a65c_add_9ea2d 6 = .ok (.iadd, 1) := by decide +kernel
theorem dJx4a65c_add_9ea2d_7 : decode cJx4a65c_add_9ea2d 7 = .ok (.putfield 63, 3) := by decide +kernel
theorem dJx4a65c_add_9ea2d_10 : decode cJx4a65c_add_9ea2d 10 = .ok (.aload_n 0, 1) := by decide +kernel
theorem dJx4a65c_add_9ea2d_11 : decode cJx4a65c_add_9ea2d 11 = .ok (.aload_n 1, 1) := by decide +kernel
theorem dJx4a65c_add_9ea2d_12 : decode cJx4a65c_add_9ea2d 12 = .ok (.aload_n 0, 1) := by decide +kernel
theorem dJx4a65c_add_9ea2d_13 : decode cJx4a65c_add_9ea2d 13 = .ok (.getfield 9, 3) := by decide +kernel
theorem dJx4a65c_add_9ea2d_16 : decode cJx4a65c_add_9ea2d 16 = .ok (.aload_n 0, 1) := by decide +kernel
theorem dJx4a65c_add_9ea2d_17 : decode cJx4a65c_add_9ea2d 17 = .ok (.getfield 48, 3) := by decide +kernel
theorem dJx4a65c_add_9ea2d_20 : decode cJx4a65c_add_9ea2d 20 = .ok (.invokevirtual 131, 3) := by decide +kernel
theorem dJx4a65c_add_9ea2d_23 : decode cJx4a65c_add_9ea2d 23 = .ok (.iconst 1, 1) := by decide +kernel
theorem dJx4a65c_add_9ea2d_24 : decode cJx4a65c_add_9ea2d 24 = .ok (.ireturn, 1) := by decide +kernel
theorem dJ7_fill_53178_0 : decode cJ7_fill_53178 0 = .ok (.iconst 0, 1) := by decide +kernel
theorem dJ7_fill_53178_1 : decode cJ7_fill_53178 1 = .ok (.istore_n 2, 1) := by decide +kernel
theorem dJ7_fill_53178_2 : decode cJ7_fill_53178 2 = .ok (.aload_n 0, 1) := by decide +kernel
theorem dJ7_fill_53178_3 : decode cJ7_fill_53178 3 = .ok (.arraylength, 1) := by decide +kernel
theorem dJ7_fill_53178_4 : decode cJ7_fill_53178 4 = .ok (.istore_n 3, 1) := by decide +kernel
theorem dJ7_fill_53178_5 : decode cJ7_fill_53178 5 = .ok (.iload_n 2, 1) := by decide +kernel
theorem dJ7_fill_53178_6 : decode cJ7_fill_53178 6 = .ok (.iload_n 3, 1) := by decide +kernel
theorem dJ7_fill_53178_7 : decode cJ7_fill_53178 7 = .ok (.if_icmp .ge 13, 3) := by decide +kernel
theorem dJ7_fill_53178_10 : decode cJ7_fill_53178 10 = .ok (.aload_n 0, 1) := by decide +kernel
theorem dJ7_fill_53178_11 : decode cJ7_fill_53178 11 = .ok (.iload_n 2, 1) := by decide +kernel
theorem dJ7_fill_53178_12 : decode cJ7_fill_53178 12 = .ok (.iload_n 1, 1) := by decide +kernel
theorem dJ7_fill_53178_13 : decode cJ7_fill_53178 13 = .ok (.iastore, 1) := by decide +kernel
theorem dJ7_fill_53178_14 : decode cJ7_fill_53178 14 = .ok (.iinc 2 1, 3) := by decide +kernel
theorem dJ7_fill_53178_17 : decode cJ7_fill_53178 17 = .ok (.goto (-12), 3) := by decide +kernel
theorem dJ7_fill_53178_20 : decode cJ7_fill_53178 20 = .ok (.return_, 1) := by decide +kernel
set_option maxRecDepth 20000 in
theorem ggJ7_copyOf_1904c_J7_copyOf_6403c : GoodIn wsJ7_copyOf_1904c wsJ7_copyOf_6403c := goodIn_r _ [8, 9, 10, 11, 12, 13, 14, 15, 16, 17, 18] (by decide +kernel) (by decide +kernel)
set_option maxRecDepth 20000 in
theorem gJ7_copyOf_1904c_J7_copyOf_6403c : GoodIn wsJ7_copyOf_1904c (va_wsS RJ7 300 yJ7_copyOf_6403c wsJ7_copyOf_6403c) := goodIn_app (goodIn_of _ (by decide +kernel)) ggJ7_copyOf_1904c_J7_copyOf_6403c
theorem dJ7_copyOf_1904c_0 : decode cJ7_copyOf_1904c 0 = .ok (.aload_n 0, 1) := by decide +kernel
theorem dJ7_copyOf_1904c_1 : decode cJ7_copyOf_1904c 1 = .ok (.iload_n 1, 1) := by decide +kernel
theorem dJ7_copyOf_1904c_2 : decode cJ7_copyOf_1904c 2 = .ok (.aload_n 0, 1) := by decide +kernel
theorem dJ7_copyOf_1904c_3 : decode cJ7_copyOf_1904c 3 = .ok (.invokevirtual 86, 3) := by decide +kernel
theorem dJ7_copyOf_1904c_6 : decode cJ7_copyOf_1904c 6 = .ok (.invokestatic 300, 3) := by decide +kernel
theorem dJ7_copyOf_1904c_9 : decode cJ7_copyOf_1904c 9 = .ok (.areturn, 1) := by decide +kernel
theorem dJ7_copyOf_6403c_0 : decode cJ7_copyOf_6403c 0 = .ok (.aload_n 2, 1) := by decide +kernel
theorem dJ7_copyOf_6403c_1 : decode cJ7_copyOf_6403c 1 = .ok (.ldc 110, 2) := by decide +kernel
theorem dJ7_copyOf_6403c_3 : decode cJ7_copyOf_6403c 3 = .ok (.if_acmp .ne 10, 3) := by decide +kernel
theorem dJ7_copyOf_6403c_6 : decode cJ7_copyOf_6403c 6 = .ok (.iload_n 1, 1) := by decide +kernel
theorem dJ7_copyOf_6403c_7 : decode cJ7_copyOf_6403c 7 = .ok (.anewarray 2, 3) := by decide +kernel
theorem dJ7_copyOf_6403c_10 : decode cJ7_copyOf_6403c 10 = .ok (.goto 14, 3) := by decide +kernel
theorem dJ7_copyOf_6403c_13 : decode cJ7_copyOf_6403c 13 = .ok (.aload_n 2, 1) := by decide +kernel
theorem dJ7_copyOf_6403c_14 : decode cJ7_copyOf_6403c 14 = .ok (.invokevirtual 90, 3) := by decide +kernel
theorem dJ7_copyOf_6403c_17 : decode cJ7_copyOf_6403c 17 = .ok (.iload_n 1, 1) := by decide +kernel
theorem dJ7_copyOf_6403c_18 : decode cJ7_copyOf_6403c 18 = .ok (.invokestatic 95, 3) := by decide +kernel
theorem dJ7_copyOf_6403c_21 : decode cJ7_copyOf_6403c 21 = .ok (.checkcast 110, 3) := by decide +kernel
theorem dJ7_copyOf_6403c_24 : decode cJ7_copyOf_6403c 24 = .ok (.astore_n 3, 1) := by decide +kernel
theorem dJ7_copyOf_6403c_25 : decode cJ7_copyOf_6403c 25 = .ok (.aload_n 0, 1) := by decide +kernel
theorem dJ7_copyOf_6403c_26 : decode cJ7_copyOf_6403c 26 = .ok (.iconst 0, 1) := by decide +kernel
theorem dJ7_copyOf_6403c_27 : decode cJ7_copyOf_6403c 27 = .ok (.aload_n 3, 1) := by decide +kernel
theorem dJ7_copyOf_6403c_28 : decode cJ7_copyOf_6403c 28 = .ok (.iconst 0, 1) := by decide +kernel
theorem dJ7_copyOf_6403c_29 : decode cJ7_copyOf_6403c 29 = .ok (.aload_n 0, 1) := by decide +kernel
theorem dJ7_copyOf_6403c_30 : decode cJ7_copyOf_6403c 30 = .ok (.arraylength, 1) := by decide +kernel
theorem dJ7_copyOf_6403c_31 : decode cJ7_copyOf_6403c 31 = .ok (.iload_n 1, 1) := by decide +kernel
theorem dJ7_copyOf_6403c_32 : decode cJ7_copyOf_6403c 32 = .ok (.invokestatic 304, 3) := by decide +kernel
theorem dJ7_copyOf_6403c_35 : decode cJ7_copyOf_6403c 35 = .ok (.invokestatic 150, 3) := by decide +kernel
theorem dJ7_copyOf_6403c_38 : decode cJ7_copyOf_6403c 38 = .ok (.aload_n 3, 1) := by decide +kernel
theorem dJ7_copyOf_6403c_39 : decode cJ7_copyOf_6403c 39 = .ok (.areturn, 1) := by decide +kernel
set_option maxRecDepth 20000 in
theorem ggJ15_checkIndex_7cf53_J3_checkIndex_8e157 : GoodIn wsJ15_checkIndex_7cf53 wsJ3_checkIndex_8e157 := goodIn_r _ [4] (by decide +kernel) (by decide +kernel)
set_option maxRecDepth 20000 in
theorem gJ15_checkIndex_7cf53_J3_checkIndex_8e157 : GoodIn wsJ15_checkIndex_7cf53 (va_wsS RJ15 105 yJ3_checkIndex_8e157 wsJ3_checkIndex_8e157) := goodIn_app (goodIn_of _ (by decide +kernel)) ggJ15_checkIndex_7cf53_J3_checkIndex_8e157
theorem dJ15_checkIndex_7cf53_0 : decode cJ15_checkIndex_7cf53 0 = .ok (.iload_n 0, 1) := by decide +kernel
theorem dJ15_checkIndex_7cf53_1 : decode cJ15_checkIndex_7cf53 1 = .ok (.iload_n 1, 1) := by decide +kernel
theorem dJ15_checkIndex_7cf53_2 : decode cJ15_checkIndex_7cf53 2 = .ok (.aconst_null, 1) := by decide +kernel
theorem dJ15_checkIndex_7cf53_3 : decode cJ15_checkIndex_7cf53 3 = .ok (.invokestatic 105, 3) := by decide +kernel
theorem dJ15_checkIndex_7cf53_6 : decode cJ15_checkIndex_7cf53 6 = .ok (.ireturn, 1) := by decide +kernel
set_option maxRecDepth 20000 in
theorem ggJ8_newLength_cabcc_J8_hugeLength_7cf53 : GoodIn wsJ8_newLength_cabcc wsJ8_hugeLength_7cf53 := goodIn_r _ [9, 5] (by decide +kernel) (by decide +kernel)
set_option maxRecDepth 20000 in
theorem gJ8_newLength_cabcc_J8_hugeLength_7cf53 : GoodIn wsJ8_newLength_cabcc (va_wsS RJ8 201 yJ8_hugeLength_7cf53 wsJ8_hugeLength_7cf53) := goodIn_app (goodIn_of _ (by decide +kernel)) ggJ8_newLength_cabcc_J8_hugeLength_7cf53
theorem dJ8_newLength_cabcc_0 : decode cJ8_newLength_cabcc 0 = .ok (.iload_n 0, 1) := by decide +kernel
theorem dJ8_newLength_cabcc_1 : decode cJ8_newLength_cabcc 1 = .ok (.iload_n 1, 1) := by decide +kernel
theorem dJ8_newLength_cabcc_2 : decode cJ8_newLength_cabcc 2 = .ok (.iload_n 2, 1) := by decide +kernel
theorem dJ8_newLength_cabcc_3 : decode cJ8_newLength_cabcc 3 = .ok (.invokestatic 194, 3) := by decide +kernel
theorem dJ8_newLength_cabcc_6 : decode cJ8_newLength_cabcc 6 = .ok (.iadd, 1) := by decide +kernel
theorem dJ8_newLength_cabcc_7 : decode cJ8_newLength_cabcc 7 = .ok (.istore_n 3, 1) := by decide +kernel
theorem dJ8_newLength_cabcc_8 : decode cJ8_newLength_cabcc 8 = .ok (.iconst 0, 1) := by decide +kernel
theorem dJ8_newLength_cabcc_9 : decode cJ8_newLength_cabcc 9 = .ok (.iload_n 3, 1) := by decide +kernel
theorem dJ8_newLength_cabcc_10 : decode cJ8_newLength_cabcc 10 = .ok (.if_icmp .ge 11, 3) := by decide +kernel
theorem dJ8_newLength_cabcc_13 : decode cJ8_newLength_cabcc 13 = .ok (.iload_n 3, 1) := by decide +kernel
theorem dJ8_newLength_cabcc_14 : decode cJ8_newLength_cabcc 14 = .ok (.ldc 200, 2) := by decide +kernel
theorem dJ8_newLength_cabcc_16 : decode cJ8_newLength_cabcc 16 = .ok (.if_icmp .gt 5, 3) := by decide +kernel
theorem dJ8_newLength_cabcc_19 : decode cJ8_newLength_cabcc 19 = .ok (.iload_n 3, 1) := by decide +kernel
theorem dJ8_newLength_cabcc_20 : decode cJ8_newLength_cabcc 20 = .ok (.ireturn, 1) := by decide +kernel
theorem dJ8_newLength_cabcc_21 : decode cJ8_newLength_cabcc 21 = .ok (.iload_n 0, 1) := by decide +kernel
theorem dJ8_newLength_cabcc_22 : decode cJ8_newLength_cabcc 22 = .ok (.iload_n 1, 1) := by decide +kernel
theorem dJ8_newLength_cabcc_23 : decode cJ8_newLength_cabcc 23 = .ok (.invokestatic 201, 3) := by decide +kernel
theorem dJ8_newLength_cabcc_26 : decode cJ8_newLength_cabcc 26 = .ok (.ireturn, 1) := by decide +kernel
theorem dJ8_hugeLength_7cf53_0 : decode cJ8_hugeLength_7cf53 0 = .ok (.iload_n 0, 1) := by decide +kernel
theorem dJ8_hugeLength_7cf53_1 : decode cJ8_hugeLength_7cf53 1 = .ok (.iload_n 1, 1) := by decide +kernel
theorem dJ8_hugeLength_7cf53_2 : decode cJ8_hugeLength_7cf53 2 = .ok (.iadd, 1) := by decide +kernel
theorem dJ8_hugeLength_7cf53_3 : decode cJ8_hugeLength_7cf53 3 = .ok (.istore_n 2, 1) := by decide +kernel
theorem dJ8_hugeLength_7cf53_4 : decode cJ8_hugeLength_7cf53 4 = .ok (.iload_n 2, 1) := by decide +kernel
theorem dJ8_hugeLength_7cf53_5 : decode cJ8_hugeLength_7cf53 5 = .ok (.ifCond .ge 44, 3) := by decide +kernel
theorem dJ8_hugeLength_7cf53_8 : decode cJ8_hugeLength_7cf53 8 = .ok (.new 204, 3) := by decide +kernel
theorem dJ8_hugeLength_7cf53_11 : decode cJ8_hugeLength_7cf53 11 = .ok (.dup, 1) := by decide +kernel
theorem dJ8_hugeLength_7cf53_12 : decode cJ8_hugeLength_7cf53 12 = .ok (.new 89, 3) := by decide +kernel
theorem dJ8_hugeLength_7cf53_15 : decode cJ8_hugeLength_7cf53 15 = .ok (.dup, 1) := by decide +kernel
theorem dJ8_hugeLength_7cf53_16 : decode cJ8_hugeLength_7cf53 16 = .ok (.invokespecial 91, 3) := by decide +kernel
theorem dJ8_hugeLength_7cf53_19 : decode cJ8_hugeLength_7cf53 19 = .ok (.ldc 206, 2) := by decide +kernel
theorem dJ8_hugeLength_7cf53_21 : decode cJ8_hugeLength_7cf53 21 = .ok (.invokevirtual 94, 3) := by decide +kernel
theorem dJ8_hugeLength_7cf53_24 : decode cJ8_hugeLength_7cf53 24 = .ok (.iload_n 0, 1) := by decide +kernel
theorem dJ8_hugeLength_7cf53_25 : decode cJ8_hugeLength_7cf53 25 = .ok (.invokevirtual 98, 3) := by decide +kernel
theorem dJ8_hugeLength_7cf53_28 : decode cJ8_hugeLength_7cf53 28 = .ok (.ldc 208, 2) := by decide +kernel
theorem dJ8_hugeLength_7cf53_30 : decode cJ8_hugeLength_7cf53 30 = .ok (.invokevirtual 94, 3) := by decide +kernel
theorem dJ8_hugeLength_7cf53_33 : decode cJ8_hugeLength_7cf53 33 = .ok (.iload_n 1, 1) := by decide +kernel
theorem dJ8_hugeLength_7cf53_34 : decode cJ8_hugeLength_7cf53 34 = .ok (.invokevirtual 98, 3) := by decide +kernel
theorem dJ8_hugeLength_7cf53_37 : decode cJ8_hugeLength_7cf53 37 = .ok (.ldc 210, 2) := by decide +kernel
theorem dJ8_hugeLength_7cf53_39 : decode cJ8_hugeLength_7cf53 39 = .ok (.invokevirtual 94, 3) := by decide +kernel
theorem dJ8_hugeLength_7cf53_42 : decode cJ8_hugeLength_7cf53 42 = .ok (.invokevirtual 101, 3) := by decide +kernel
theorem dJ8_hugeLength_7cf53_45 : decode cJ8_hugeLength_7cf53 45 = .ok (.invokespecial 212, 3) := by decide +kernel
theorem dJ8_hugeLength_7cf53_48 : decode cJ8_hugeLength_7cf53 48 = .ok (.athrow, 1) := by decide +kernel
theorem dJ8_hugeLength_7cf53_49 : decode cJ8_hugeLength_7cf53 49 = .ok (.iload_n 2, 1) := by decide +kernel
theorem dJ8_hugeLength_7cf53_50 : decode cJ8_hugeLength_7cf53 50 = .ok (.ldc 200, 2) := by decide +kernel
theorem dJ8_hugeLength_7cf53_52 : decode cJ8_hugeLength_7cf53 52 = .ok (.if_icmp .gt 6, 3) := by decide +kernel
theorem dJ8_hugeLength_7cf53_55 : decode cJ8_hugeLength_7cf53 55 = .ok (.ldc 200, 2) := by decide +kernel
theorem dJ8_hugeLength_7cf53_57 : decode cJ8_hugeLength_7cf53 57 = .ok (.ireturn, 1) := by decide +kernel
theorem dJ8_hugeLength_7cf53_58 : decode cJ8_hugeLength_7cf53 58 = .ok (.iload_n 2, 1) := by decide +kernel
theorem dJ8_hugeLength_7cf53_59 : decode cJ8_hugeLength_7cf53 59 = .ok (.ireturn, 1) := by decide +kernel
theorem dJ3_checkIndex_8e157_0 : decode cJ3_checkIndex_8e157 0 = .ok (.iload_n 0, 1) := by decide +kernel
theorem dJ3_checkIndex_8e157_1 : decode cJ3_checkIndex_8e157 1 = .ok (.ifCond .lt 8, 3) := by decide +kernel
theorem dJ3_checkIndex_8e157_4 : decode cJ3_checkIndex_8e157 4 = .ok (.iload_n 0, 1) := by decide +kernel
theorem dJ3_checkIndex_8e157_5 : decode cJ3_checkIndex_8e157 5 = .ok (.iload_n 1, 1) := by decide +kernel
theorem dJ3_checkIndex_8e157_6 : decode cJ3_checkIndex_8e157 6 = .ok (.if_icmp .lt 10, 3) := by decide +kernel
theorem dJ3_checkIndex_8e157_9 : decode cJ3_checkIndex_8e157 9 = .ok (.aload_n 2, 1) := by decide +kernel
theorem dJ3_checkIndex_8e157_10 : decode cJ3_checkIndex_8e157 10 = .ok (.iload_n 0, 1) := by decide +kernel
theorem dJ3_checkIndex_8e157_11 : decode cJ3_checkIndex_8e157 11 = .ok (.iload_n 1, 1) := by decide +kernel
theorem dJ3_checkIndex_8e157_12 : decode cJ3_checkIndex_8e157 12 = .ok (.invokestatic 95, 3) := by decide +kernel
theorem dJ3_checkIndex_8e157_15 : decode cJ3_checkIndex_8e157 15 = .ok (.athrow, 1) := by decide +kernel
theorem dJ3_checkIndex_8e157_16 : decode cJ3_checkIndex_8e157 16 = .ok (.iload_n 0, 1) := by decide +kernel
theorem dJ3_checkIndex_8e157_17 : decode cJ3_checkIndex_8e157 17 = .ok (.ireturn, 1) := by decide +kernel
theorem dL_cell_0 : decode cL_cell 0 = .ok (.iload_n 1, 1) := by decide +kernel
theorem dL_cell_1 : decode cL_cell 1 = .ok (.aload_n 0, 1) := by decide +kernel
theorem dL_cell_2 : decode cL_cell 2 = .ok (.arraylength, 1) := by decide +kernel
theorem dL_cell_3 : decode cL_cell 3 = .ok (.if_icmp .ge 9, 3) := by decide +kernel
theorem dL_cell_6 : decode cL_cell 6 = .ok (.aload_n 0, 1) := by decide +kernel
theorem dL_cell_7 : decode cL_cell 7 = .ok (.iload_n 1, 1) := by decide +kernel
theorem dL_cell_8 : decode cL_cell 8 = .ok (.iaload, 1) := by decide +kernel
theorem dL_cell_9 : decode cL_cell 9 = .ok (.goto 13, 3) := by decide +kernel
theorem dL_cell_12 : decode cL_cell 12 = .ok (.ldc 7, 2) := by decide +kernel
