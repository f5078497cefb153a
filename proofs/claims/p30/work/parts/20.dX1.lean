theorem dX1_init_0 : decode cX1_init 0 = .ok (.aload_n 0, 1) := by decide +kernel
theorem dX1_init_1 : decode cX1_init 1 = .ok (.invokespecial 1, 3) := by decide +kernel
theorem dX1_init_4 : decode cX1_init 4 = .ok (.aload_n 0, 1) := by decide +kernel
theorem dX1_init_5 : decode cX1_init 5 = .ok (.new 7, 3) := by decide +kernel
theorem dX1_init_8 : decode cX1_init 8 = .ok (.dup, 1) := by decide +kernel
theorem dX1_init_9 : decode cX1_init 9 = .ok (.invokespecial 9, 3) := by decide +kernel
theorem dX1_init_12 : decode cX1_init 12 = .ok (.putfield 10, 3) := by decide +kernel
theorem dX1_init_15 : decode cX1_init 15 = .ok (.aload_n 0, 1) := by decide +kernel
theorem dX1_init_16 : decode cX1_init 16 = .ok (.new 7, 3) := by decide +kernel
theorem dX1_init_19 : decode cX1_init 19 = .ok (.dup, 1) := by decide +kernel
theorem dX1_init_20 : decode cX1_init 20 = .ok (.invokespecial 9, 3) := by decide +kernel
theorem dX1_init_23 : decode cX1_init 23 = .ok (.putfield 16, 3) := by decide +kernel
theorem dX1_init_26 : decode cX1_init 26 = .ok (.return_, 1) := by decide +kernel
set_option maxRecDepth 20000 in
theorem ggX1_hang_X1_demandNumber : GoodIn wsX1_hang wsX1_demandNumber := goodIn_ca (goodIn_r _ [9, 1, 2] (by decide +kernel) (by decide +kernel)) (goodIn_sub (fun _ h => List.mem_cons_of_mem _ (List.mem_append_left _ (List.mem_append_right _ h))) (by decide +kernel))
set_option maxRecDepth 20000 in
theorem gX1_hang_X1_demandNumber : GoodIn wsX1_hang (va_wsS RX1 19 yX1_demandNumber wsX1_demandNumber) := goodIn_app (goodIn_of _ (by decide +kernel)) ggX1_hang_X1_demandNumber
set_option maxRecDepth 20000 in
theorem ggX1_hang_X0_placeOf : GoodIn wsX1_hang wsX0_placeOf := goodIn_r _ [14, 15, 16, 17, 13, 18, 19, 20, 21, 22, 23, 24, 25, 26, 27, 28, 29, 30, 31, 32, 33, 34, 35, 36, 37, 45, 46, 47, 48] (by decide +kernel) (by decide +kernel)
set_option maxRecDepth 20000 in
theorem gX1_hang_X0_placeOf : GoodIn wsX1_hang (wsV RX1 30 RX0 yX0_placeOf wsX0_placeOf) := goodIn_app (goodIn_of _ (by decide +kernel)) ggX1_hang_X0_placeOf
set_option maxRecDepth 20000 in
theorem ggX1_hang_X0_put : GoodIn wsX1_hang wsX0_put := goodIn_r _ [41, 24, 42, 45, 46, 47, 48] (by decide +kernel) (by decide +kernel)
set_option maxRecDepth 20000 in
theorem gX1_hang_X0_put : GoodIn wsX1_hang (wsV RX1 39 RX0 yX0_put wsX0_put) := goodIn_app (goodIn_of _ (by decide +kernel)) ggX1_hang_X0_put
theorem dX1_hang_0 : decode cX1_hang 0 = .ok (.iload_n 1, 1) := by decide +kernel
theorem dX1_hang_1 : decode cX1_hang 1 = .ok (.invokestatic 19, 3) := by decide +kernel
theorem dX1_hang_4 : decode cX1_hang 4 = .ok (.iload_n 2, 1) := by decide +kernel
theorem dX1_hang_5 : decode cX1_hang 5 = .ok (.iconst 1, 1) := by decide +kernel
theorem dX1_hang_6 : decode cX1_hang 6 = .ok (.if_icmp .lt 9, 3) := by decide +kernel
theorem dX1_hang_9 : decode cX1_hang 9 = .ok (.iload_n 2, 1) := by decide +kernel
theorem dX1_hang_10 : decode cX1_hang 10 = .ok (.bipush 99, 2) := by decide +kernel
theorem dX1_hang_12 : decode cX1_hang 12 = .ok (.if_icmp .le 13, 3) := by decide +kernel
theorem dX1_hang_15 : decode cX1_hang 15 = .ok (.new 23, 3) := by decide +kernel
theorem dX1_hang_18 : decode cX1_hang 18 = .ok (.dup, 1) := by decide +kernel
theorem dX1_hang_19 : decode cX1_hang 19 = .ok (.ldc 25, 2) := by decide +kernel
theorem dX1_hang_21 : decode cX1_hang 21 = .ok (.invokespecial 27, 3) := by decide +kernel
theorem dX1_hang_24 : decode cX1_hang 24 = .ok (.athrow, 1) := by decide +kernel
theorem dX1_hang_25 : decode cX1_hang 25 = .ok (.aload_n 0, 1) := by decide +kernel
theorem dX1_hang_26 : decode cX1_hang 26 = .ok (.getfield 10, 3) := by decide +kernel
theorem dX1_hang_29 : decode cX1_hang 29 = .ok (.iload_n 1, 1) := by decide +kernel
theorem dX1_hang_30 : decode cX1_hang 30 = .ok (.invokevirtual 30, 3) := by decide +kernel
theorem dX1_hang_33 : decode cX1_hang 33 = .ok (.istore_n 3, 1) := by decide +kernel
theorem dX1_hang_34 : decode cX1_hang 34 = .ok (.iload_n 3, 1) := by decide +kernel
theorem dX1_hang_35 : decode cX1_hang 35 = .ok (.iconst (-1), 1) := by decide +kernel
theorem dX1_hang_36 : decode cX1_hang 36 = .ok (.if_icmp .ne 13, 3) := by decide +kernel
theorem dX1_hang_39 : decode cX1_hang 39 = .ok (.new 34, 3) := by decide +kernel
theorem dX1_hang_42 : decode cX1_hang 42 = .ok (.dup, 1) := by decide +kernel
theorem dX1_hang_43 : decode cX1_hang 43 = .ok (.ldc 36, 2) := by decide +kernel
theorem dX1_hang_45 : decode cX1_hang 45 = .ok (.invokespecial 38, 3) := by decide +kernel
theorem dX1_hang_48 : decode cX1_hang 48 = .ok (.athrow, 1) := by decide +kernel
theorem dX1_hang_49 : decode cX1_hang 49 = .ok (.aload_n 0, 1) := by decide +kernel
theorem dX1_hang_50 : decode cX1_hang 50 = .ok (.getfield 10, 3) := by decide +kernel
theorem dX1_hang_53 : decode cX1_hang 53 = .ok (.iload_n 3, 1) := by decide +kernel
theorem dX1_hang_54 : decode cX1_hang 54 = .ok (.iload_n 1, 1) := by decide +kernel
theorem dX1_hang_55 : decode cX1_hang 55 = .ok (.iload_n 2, 1) := by decide +kernel
theorem dX1_hang_56 : decode cX1_hang 56 = .ok (.invokevirtual 39, 3) := by decide +kernel
theorem dX1_hang_59 : decode cX1_hang 59 = .ok (.iload_n 3, 1) := by decide +kernel
theorem dX1_hang_60 : decode cX1_hang 60 = .ok (.ireturn, 1) := by decide +kernel
set_option maxRecDepth 20000 in
theorem ggX1_take_X1_demandNumber : GoodIn wsX1_take wsX1_demandNumber := goodIn_ca (goodIn_r _ [7, 8, 9] (by decide +kernel) (by decide +kernel)) (goodIn_sub (fun _ h => List.mem_cons_of_mem _ (List.mem_append_right _ h)) (by decide +kernel))
set_option maxRecDepth 20000 in
theorem gX1_take_X1_demandNumber : GoodIn wsX1_take (va_wsS RX1 19 yX1_demandNumber wsX1_demandNumber) := goodIn_app (goodIn_of _ (by decide +kernel)) ggX1_take_X1_demandNumber
set_option maxRecDepth 20000 in
theorem ggX1_take_X0_whereFound : GoodIn wsX1_take wsX0_whereFound := goodIn_r _ [14, 15, 16, 17, 13, 18, 19, 20, 21, 22, 23, 24, 25, 26, 27, 28, 29, 45, 46, 47, 48] (by decide +kernel) (by decide +kernel)
set_option maxRecDepth 20000 in
theorem gX1_take_X0_whereFound : GoodIn wsX1_take (wsV RX1 43 RX0 yX0_whereFound wsX0_whereFound) := goodIn_app (goodIn_of _ (by decide +kernel)) ggX1_take_X0_whereFound
set_option maxRecDepth 20000 in
theorem ggX1_take_X0_weightOn : GoodIn wsX1_take wsX0_weightOn := goodIn_r _ [33, 19, 34, 45, 46, 47, 48] (by decide +kernel) (by decide +kernel)
set_option maxRecDepth 20000 in
theorem gX1_take_X0_weightOn : GoodIn wsX1_take (wsV RX1 48 RX0 yX0_weightOn wsX0_weightOn) := goodIn_app (goodIn_of _ (by decide +kernel)) ggX1_take_X0_weightOn
set_option maxRecDepth 20000 in
theorem ggX1_take_X0_leaveTicket : GoodIn wsX1_take wsX0_leaveTicket := goodIn_r _ [38, 39, 40, 41, 13, 42, 29, 34, 45, 46, 47, 48] (by decide +kernel) (by decide +kernel)
set_option maxRecDepth 20000 in
theorem gX1_take_X0_leaveTicket : GoodIn wsX1_take (wsV RX1 51 RX0 yX0_leaveTicket wsX0_leaveTicket) := goodIn_app (goodIn_of _ (by decide +kernel)) ggX1_take_X0_leaveTicket
theorem dX1_take_0 : decode cX1_take 0 = .ok (.iload_n 1, 1) := by decide +kernel
theorem dX1_take_1 : decode cX1_take 1 = .ok (.invokestatic 19, 3) := by decide +kernel
theorem dX1_take_4 : decode cX1_take 4 = .ok (.aload_n 0, 1) := by decide +kernel
theorem dX1_take_5 : decode cX1_take 5 = .ok (.getfield 10, 3) := by decide +kernel
theorem dX1_take_8 : decode cX1_take 8 = .ok (.iload_n 1, 1) := by decide +kernel
theorem dX1_take_9 : decode cX1_take 9 = .ok (.invokevirtual 43, 3) := by decide +kernel
theorem dX1_take_12 : decode cX1_take 12 = .ok (.istore_n 2, 1) := by decide +kernel
theorem dX1_take_13 : decode cX1_take 13 = .ok (.iload_n 2, 1) := by decide +kernel
theorem dX1_take_14 : decode cX1_take 14 = .ok (.iconst (-1), 1) := by decide +kernel
theorem dX1_take_15 : decode cX1_take 15 = .ok (.if_icmp .ne 13, 3) := by decide +kernel
theorem dX1_take_18 : decode cX1_take 18 = .ok (.new 34, 3) := by decide +kernel
theorem dX1_take_21 : decode cX1_take 21 = .ok (.dup, 1) := by decide +kernel
theorem dX1_take_22 : decode cX1_take 22 = .ok (.ldc 46, 2) := by decide +kernel
theorem dX1_take_24 : decode cX1_take 24 = .ok (.invokespecial 38, 3) := by decide +kernel
theorem dX1_take_27 : decode cX1_take 27 = .ok (.athrow, 1) := by decide +kernel
theorem dX1_take_28 : decode cX1_take 28 = .ok (.aload_n 0, 1) := by decide +kernel
theorem dX1_take_29 : decode cX1_take 29 = .ok (.getfield 10, 3) := by decide +kernel
theorem dX1_take_32 : decode cX1_take 32 = .ok (.iload_n 2, 1) := by decide +kernel
theorem dX1_take_33 : decode cX1_take 33 = .ok (.invokevirtual 48, 3) := by decide +kernel
theorem dX1_take_36 : decode cX1_take 36 = .ok (.istore_n 3, 1) := by decide +kernel
theorem dX1_take_37 : decode cX1_take 37 = .ok (.aload_n 0, 1) := by decide +kernel
theorem dX1_take_38 : decode cX1_take 38 = .ok (.getfield 10, 3) := by decide +kernel
theorem dX1_take_41 : decode cX1_take 41 = .ok (.iload_n 2, 1) := by decide +kernel
theorem dX1_take_42 : decode cX1_take 42 = .ok (.invokevirtual 51, 3) := by decide +kernel
theorem dX1_take_45 : decode cX1_take 45 = .ok (.iload_n 3, 1) := by decide +kernel
theorem dX1_take_46 : decode cX1_take 46 = .ok (.ireturn, 1) := by decide +kernel
set_option maxRecDepth 20000 in
theorem ggX1_rehang_X1_demandHooksAndWay : GoodIn wsX1_rehang wsX1_demandHooksAndWay := goodIn_ca (goodIn_r _ [6, 7, 8] (by decide +kernel) (by decide +kernel)) (goodIn_sub (fun _ h => List.mem_cons_of_mem _ (List.mem_append_right _ h)) (by decide +kernel))
set_option maxRecDepth 20000 in
theorem gX1_rehang_X1_demandHooksAndWay : GoodIn wsX1_rehang (va_wsS RX1 54 yX1_demandHooksAndWay wsX1_demandHooksAndWay) := goodIn_app (goodIn_of _ (by decide +kernel)) ggX1_rehang_X1_demandHooksAndWay
set_option maxRecDepth 20000 in
theorem ggX1_rehang_X1_hangAnewOnTrial : GoodIn wsX1_rehang wsX1_hangAnewOnTrial := goodIn_r _ [12, 13, 14, 15, 16, 17, 18, 19, 20, 21, 22, 23, 24, 25, 26, 27, 28, 29, 30, 31, 32, 33, 34, 35, 36, 37, 38, 39, 40, 41, 42, 43, 44, 45, 46, 47, 48, 49, 50, 51, 52, 53, 54, 55, 56, 69, 70, 71, 72, 73, 74] (by decide +kernel) (by decide +kernel)
set_option maxRecDepth 20000 in
theorem gX1_rehang_X1_hangAnewOnTrial : GoodIn wsX1_rehang (wsV RX1 58 RX1 yX1_hangAnewOnTrial wsX1_hangAnewOnTrial) := goodIn_app (goodIn_of _ (by decide +kernel)) ggX1_rehang_X1_hangAnewOnTrial
set_option maxRecDepth 20000 in
theorem ggX1_rehang_X1_coatsMovedOnTrial : GoodIn wsX1_rehang wsX1_coatsMovedOnTrial := goodIn_r _ [60, 13, 14, 28, 29, 30, 18, 31, 20, 32, 33, 34, 35, 36, 37, 38, 39, 22, 69, 70, 71, 72, 73, 74] (by decide +kernel) (by decide +kernel)
set_option maxRecDepth 20000 in
theorem gX1_rehang_X1_coatsMovedOnTrial : GoodIn wsX1_rehang (wsV RX1 64 RX1 yX1_coatsMovedOnTrial wsX1_coatsMovedOnTrial) := goodIn_app (goodIn_of _ (by decide +kernel)) ggX1_rehang_X1_coatsMovedOnTrial
set_option maxRecDepth 20000 in
theorem ggX1_rehang_X1_takeOverTrial : GoodIn wsX1_rehang wsX1_takeOverTrial := goodIn_r _ [64, 14, 13, 28, 29, 30, 18, 31, 20, 65, 66, 67, 68, 21, 15, 16, 17, 19, 22, 23, 24, 25, 26, 27, 32, 33, 34, 35, 36, 37, 38, 39, 52, 53, 54, 55, 56, 69, 70, 71, 72, 73, 74] (by decide +kernel) (by decide +kernel)
set_option maxRecDepth 20000 in
theorem gX1_rehang_X1_takeOverTrial : GoodIn wsX1_rehang (wsV RX1 68 RX1 yX1_takeOverTrial wsX1_takeOverTrial) := goodIn_app (goodIn_of _ (by decide +kernel)) ggX1_rehang_X1_takeOverTrial
theorem dX1_rehang_0 : decode cX1_rehang 0 = .ok (.iload_n 1, 1) := by decide +kernel
theorem dX1_rehang_1 : decode cX1_rehang 1 = .ok (.iload_n 2, 1) := by decide +kernel
theorem dX1_rehang_2 : decode cX1_rehang 2 = .ok (.invokestatic 54, 3) := by decide +kernel
theorem dX1_rehang_5 : decode cX1_rehang 5 = .ok (.aload_n 0, 1) := by decide +kernel
theorem dX1_rehang_6 : decode cX1_rehang 6 = .ok (.iload_n 1, 1) := by decide +kernel
theorem dX1_rehang_7 : decode cX1_rehang 7 = .ok (.iload_n 2, 1) := by decide +kernel
theorem dX1_rehang_8 : decode cX1_rehang 8 = .ok (.invokevirtual 58, 3) := by decide +kernel
theorem dX1_rehang_11 : decode cX1_rehang 11 = .ok (.ifCond .ne 13, 3) := by decide +kernel
theorem dX1_rehang_14 : decode cX1_rehang 14 = .ok (.new 34, 3) := by decide +kernel
theorem dX1_rehang_17 : decode cX1_rehang 17 = .ok (.dup, 1) := by decide +kernel
theorem dX1_rehang_18 : decode cX1_rehang 18 = .ok (.ldc 62, 2) := by decide +kernel
theorem dX1_rehang_20 : decode cX1_rehang 20 = .ok (.invokespecial 38, 3) := by decide +kernel
theorem dX1_rehang_23 : decode cX1_rehang 23 = .ok (.athrow, 1) := by decide +kernel
theorem dX1_rehang_24 : decode cX1_rehang 24 = .ok (.aload_n 0, 1) := by decide +kernel
theorem dX1_rehang_25 : decode cX1_rehang 25 = .ok (.invokevirtual 64, 3) := by decide +kernel
theorem dX1_rehang_28 : decode cX1_rehang 28 = .ok (.istore_n 3, 1) := by decide +kernel
theorem dX1_rehang_29 : decode cX1_rehang 29 = .ok (.aload_n 0, 1) := by decide +kernel
theorem dX1_rehang_30 : decode cX1_rehang 30 = .ok (.invokevirtual 68, 3) := by decide +kernel
theorem dX1_rehang_33 : decode cX1_rehang 33 = .ok (.iload_n 3, 1) := by decide +kernel
theorem dX1_rehang_34 : decode cX1_rehang 34 = .ok (.ireturn, 1) := by decide +kernel
set_option maxRecDepth 20000 in
theorem ggX1_sweep_X0_countInState : GoodIn wsX1_sweep wsX0_countInState := goodIn_r _ [6, 7, 8, 9, 10, 5, 11, 12, 13, 14, 15, 16, 49, 50, 51, 52] (by decide +kernel) (by decide +kernel)
set_option maxRecDepth 20000 in
theorem gX1_sweep_X0_countInState : GoodIn wsX1_sweep (wsV RX1 71 RX0 yX0_countInState wsX0_countInState) := goodIn_app (goodIn_of _ (by decide +kernel)) ggX1_sweep_X0_countInState
set_option maxRecDepth 20000 in
theorem ggX1_sweep_X0_hookCount : GoodIn wsX1_sweep wsX0_hookCount := goodIn_r _ [20, 7, 49, 50, 51, 52] (by decide +kernel) (by decide +kernel)
set_option maxRecDepth 20000 in
theorem gX1_sweep_X0_hookCount : GoodIn wsX1_sweep (wsV RX1 74 RX0 yX0_hookCount wsX0_hookCount) := goodIn_app (goodIn_of _ (by decide +kernel)) ggX1_sweep_X0_hookCount
set_option maxRecDepth 20000 in
theorem ggX1_sweep_X0_freeAll : GoodIn wsX1_sweep wsX0_freeAll := goodIn_r _ [24, 7, 25, 26, 27, 28, 5, 29, 16, 30, 31, 32, 33, 34, 49, 50, 51, 52] (by decide +kernel) (by decide +kernel)
set_option maxRecDepth 20000 in
theorem gX1_sweep_X0_freeAll : GoodIn wsX1_sweep (wsV RX1 77 RX0 yX0_freeAll wsX0_freeAll) := goodIn_app (goodIn_of _ (by decide +kernel)) ggX1_sweep_X0_freeAll
set_option maxRecDepth 20000 in
theorem ggX1_sweep_X0_freeSweptTickets : GoodIn wsX1_sweep wsX0_freeSweptTickets := goodIn_r _ [38, 7, 12, 13, 14, 5, 15, 16, 39, 40, 41, 42, 30, 31, 32, 33, 34, 43, 44, 45, 46, 49, 50, 51, 52] (by decide +kernel) (by decide +kernel)
set_option maxRecDepth 20000 in
theorem gX1_sweep_X0_freeSweptTickets : GoodIn wsX1_sweep (wsV RX1 80 RX0 yX0_freeSweptTickets wsX0_freeSweptTickets) := goodIn_app (goodIn_of _ (by decide +kernel)) ggX1_sweep_X0_freeSweptTickets
theorem dX1_sweep_0 : decode cX1_sweep 0 = .ok (.aload_n 0, 1) := by decide +kernel
theorem dX1_sweep_1 : decode cX1_sweep 1 = .ok (.getfield 10, 3) := by decide +kernel
theorem dX1_sweep_4 : decode cX1_sweep 4 = .ok (.iconst 2, 1) := by decide +kernel
theorem dX1_sweep_5 : decode cX1_sweep 5 = .ok (.invokevirtual 71, 3) := by decide +kernel
theorem dX1_sweep_8 : decode cX1_sweep 8 = .ok (.aload_n 0, 1) := by decide +kernel
theorem dX1_sweep_9 : decode cX1_sweep 9 = .ok (.getfield 10, 3) := by decide +kernel
theorem dX1_sweep_12 : decode cX1_sweep 12 = .ok (.invokevirtual 74, 3) := by decide +kernel
theorem dX1_sweep_15 : decode cX1_sweep 15 = .ok (.if_icmp .ne 7, 3) := by decide +kernel
theorem dX1_sweep_18 : decode cX1_sweep 18 = .ok (.iconst 1, 1) := by decide +kernel
theorem dX1_sweep_19 : decode cX1_sweep 19 = .ok (.goto 4, 3) := by decide +kernel
theorem dX1_sweep_22 : decode cX1_sweep 22 = .ok (.iconst 0, 1) := by decide +kernel
theorem dX1_sweep_23 : decode cX1_sweep 23 = .ok (.istore_n 1, 1) := by decide +kernel
theorem dX1_sweep_24 : decode cX1_sweep 24 = .ok (.iload_n 1, 1) := by decide +kernel
theorem dX1_sweep_25 : decode cX1_sweep 25 = .ok (.ifCond .eq 13, 3) := by decide +kernel
theorem dX1_sweep_28 : decode cX1_sweep 28 = .ok (.aload_n 0, 1) := by decide +kernel
theorem dX1_sweep_29 : decode cX1_sweep 29 = .ok (.getfield 10, 3) := by decide +kernel
theorem dX1_sweep_32 : decode cX1_sweep 32 = .ok (.invokevirtual 77, 3) := by decide +kernel
theorem dX1_sweep_35 : decode cX1_sweep 35 = .ok (.goto 10, 3) := by decide +kernel
theorem dX1_sweep_38 : decode cX1_sweep 38 = .ok (.aload_n 0, 1) := by decide +kernel
theorem dX1_sweep_39 : decode cX1_sweep 39 = .ok (.getfield 10, 3) := by decide +kernel
theorem dX1_sweep_42 : decode cX1_sweep 42 = .ok (.invokevirtual 80, 3) := by decide +kernel
theorem dX1_sweep_45 : decode cX1_sweep 45 = .ok (.ireturn, 1) := by decide +kernel
set_option maxRecDepth 20000 in
theorem ggX1_hooks_X0_hookCount : GoodIn wsX1_hooks wsX0_hookCount := goodIn_r _ [6, 7, 10, 11, 12, 13] (by decide +kernel) (by decide +kernel)
set_option maxRecDepth 20000 in
theorem gX1_hooks_X0_hookCount : GoodIn wsX1_hooks (wsV RX1 74 RX0 yX0_hookCount wsX0_hookCount) := goodIn_app (goodIn_of _ (by decide +kernel)) ggX1_hooks_X0_hookCount
theorem dX1_hooks_0 : decode cX1_hooks 0 = .ok (.aload_n 0, 1) := by decide +kernel
theorem dX1_hooks_1 : decode cX1_hooks 1 = .ok (.getfield 10, 3) := by decide +kernel
theorem dX1_hooks_4 : decode cX1_hooks 4 = .ok (.invokevirtual 74, 3) := by decide +kernel
theorem dX1_hooks_7 : decode cX1_hooks 7 = .ok (.ireturn, 1) := by decide +kernel
set_option maxRecDepth 20000 in
theorem ggX1_way_X0_usherWay : GoodIn wsX1_way wsX0_usherWay := goodIn_r _ [6, 7, 10, 11, 12, 13] (by decide +kernel) (by decide +kernel)
set_option maxRecDepth 20000 in
theorem gX1_way_X0_usherWay : GoodIn wsX1_way (wsV RX1 83 RX0 yX0_usherWay wsX0_usherWay) := goodIn_app (goodIn_of _ (by decide +kernel)) ggX1_way_X0_usherWay
theorem dX1_way_0 : decode cX1_way 0 = .ok (.aload_n 0, 1) := by decide +kernel
theorem dX1_way_1 : decode cX1_way 1 = .ok (.getfield 10, 3) := by decide +kernel
theorem dX1_way_4 : decode cX1_way 4 = .ok (.invokevirtual 83, 3) := by decide +kernel
theorem dX1_way_7 : decode cX1_way 7 = .ok (.ireturn, 1) := by decide +kernel
set_option maxRecDepth 20000 in
theorem ggX1_coats_X0_countInState : GoodIn wsX1_coats wsX0_countInState := goodIn_r _ [6, 7, 8, 9, 10, 5, 11, 12, 13, 14, 15, 16, 19, 20, 21, 22] (by decide +kernel) (by decide +kernel)
set_option maxRecDepth 20000 in
theorem gX1_coats_X0_countInState : GoodIn wsX1_coats (wsV RX1 71 RX0 yX0_countInState wsX0_countInState) := goodIn_app (goodIn_of _ (by decide +kernel)) ggX1_coats_X0_countInState
theorem dX1_coats_0 : decode cX1_coats 0 = .ok (.aload_n 0, 1) := by decide +kernel
theorem dX1_coats_1 : decode cX1_coats 1 = .ok (.getfield 10, 3) := by decide +kernel
theorem dX1_coats_4 : decode cX1_coats 4 = .ok (.iconst 1, 1) := by decide +kernel
theorem dX1_coats_5 : decode cX1_coats 5 = .ok (.invokevirtual 71, 3) := by decide +kernel
theorem dX1_coats_8 : decode cX1_coats 8 = .ok (.ireturn, 1) := by decide +kernel
set_option maxRecDepth 20000 in
theorem ggX1_tickets_X0_countInState : GoodIn wsX1_tickets wsX0_countInState := goodIn_r _ [6, 7, 8, 9, 10, 5, 11, 12, 13, 14, 15, 16, 19, 20, 21, 22] (by decide +kernel) (by decide +kernel)
set_option maxRecDepth 20000 in
theorem gX1_tickets_X0_countInState : GoodIn wsX1_tickets (wsV RX1 71 RX0 yX0_countInState wsX0_countInState) := goodIn_app (goodIn_of _ (by decide +kernel)) ggX1_tickets_X0_countInState
theorem dX1_tickets_0 : decode cX1_tickets 0 = .ok (.aload_n 0, 1) := by decide +kernel
theorem dX1_tickets_1 : decode cX1_tickets 1 = .ok (.getfield 10, 3) := by decide +kernel
theorem dX1_tickets_4 : decode cX1_tickets 4 = .ok (.iconst 2, 1) := by decide +kernel
theorem dX1_tickets_5 : decode cX1_tickets 5 = .ok (.invokevirtual 71, 3) := by decide +kernel
theorem dX1_tickets_8 : decode cX1_tickets 8 = .ok (.ireturn, 1) := by decide +kernel
set_option maxRecDepth 20000 in
theorem ggX1_stateOf_X1_demandHook : GoodIn wsX1_stateOf wsX1_demandHook := goodIn_ca (goodIn_r _ [6, 7, 8, 1, 9, 10, 11, 12, 13, 14, 24, 25, 26, 27, 28, 29] (by decide +kernel) (by decide +kernel)) (goodIn_sub (fun _ h => List.mem_cons_of_mem _ (List.mem_append_right _ h)) (by decide +kernel))
set_option maxRecDepth 20000 in
theorem gX1_stateOf_X1_demandHook : GoodIn wsX1_stateOf (wsV RX1 86 RX1 yX1_demandHook wsX1_demandHook) := goodIn_app (goodIn_of _ (by decide +kernel)) ggX1_stateOf_X1_demandHook
set_option maxRecDepth 20000 in
theorem ggX1_stateOf_X0_stateOn : GoodIn wsX1_stateOf wsX0_stateOn := goodIn_r _ [18, 19, 20, 21, 12, 22, 14, 23, 26, 27, 28, 29] (by decide +kernel) (by decide +kernel)
set_option maxRecDepth 20000 in
theorem gX1_stateOf_X0_stateOn : GoodIn wsX1_stateOf (wsV RX1 89 RX0 yX0_stateOn wsX0_stateOn) := goodIn_app (goodIn_of _ (by decide +kernel)) ggX1_stateOf_X0_stateOn
theorem dX1_stateOf_0 : decode cX1_stateOf 0 = .ok (.aload_n 0, 1) := by decide +kernel
theorem dX1_stateOf_1 : decode cX1_stateOf 1 = .ok (.iload_n 1, 1) := by decide +kernel
theorem dX1_stateOf_2 : decode cX1_stateOf 2 = .ok (.invokevirtual 86, 3) := by decide +kernel
theorem dX1_stateOf_5 : decode cX1_stateOf 5 = .ok (.aload_n 0, 1) := by decide +kernel
theorem dX1_stateOf_6 : decode cX1_stateOf 6 = .ok (.getfield 10, 3) := by decide +kernel
theorem dX1_stateOf_9 : decode cX1_stateOf 9 = .ok (.iload_n 1, 1) := by decide +kernel
theorem dX1_stateOf_10 : decode cX1_stateOf 10 = .ok (.invokevirtual 89, 3) := by decide +kernel
theorem dX1_stateOf_13 : decode cX1_stateOf 13 = .ok (.ireturn, 1) := by decide +kernel
set_option maxRecDepth 20000 in
theorem ggX1_coatAt_X1_demandHook : GoodIn wsX1_coatAt wsX1_demandHook := goodIn_ca (goodIn_r _ [6, 7, 8, 1, 9, 10, 11, 12, 13, 14, 24, 25, 26, 27, 28, 29] (by decide +kernel) (by decide +kernel)) (goodIn_sub (fun _ h => List.mem_cons_of_mem _ (List.mem_append_right _ h)) (by decide +kernel))
set_option maxRecDepth 20000 in
theorem gX1_coatAt_X1_demandHook : GoodIn wsX1_coatAt (wsV RX1 86 RX1 yX1_demandHook wsX1_demandHook) := goodIn_app (goodIn_of _ (by decide +kernel)) ggX1_coatAt_X1_demandHook
set_option maxRecDepth 20000 in
theorem ggX1_coatAt_X0_coatOn : GoodIn wsX1_coatAt wsX0_coatOn := goodIn_r _ [18, 19, 20, 21, 12, 22, 14, 23, 26, 27, 28, 29] (by decide +kernel) (by decide +kernel)
set_option maxRecDepth 20000 in
theorem gX1_coatAt_X0_coatOn : GoodIn wsX1_coatAt (wsV RX1 92 RX0 yX0_coatOn wsX0_coatOn) := goodIn_app (goodIn_of _ (by decide +kernel)) ggX1_coatAt_X0_coatOn
theorem dX1_coatAt_0 : decode cX1_coatAt 0 = .ok (.aload_n 0, 1) := by decide +kernel
theorem dX1_coatAt_1 : decode cX1_coatAt 1 = .ok (.iload_n 1, 1) := by decide +kernel
theorem dX1_coatAt_2 : decode cX1_coatAt 2 = .ok (.invokevirtual 86, 3) := by decide +kernel
theorem dX1_coatAt_5 : decode cX1_coatAt 5 = .ok (.aload_n 0, 1) := by decide +kernel
theorem dX1_coatAt_6 : decode cX1_coatAt 6 = .ok (.getfield 10, 3) := by decide +kernel
theorem dX1_coatAt_9 : decode cX1_coatAt 9 = .ok (.iload_n 1, 1) := by decide +kernel
theorem dX1_coatAt_10 : decode cX1_coatAt 10 = .ok (.invokevirtual 92, 3) := by decide +kernel
theorem dX1_coatAt_13 : decode cX1_coatAt 13 = .ok (.ireturn, 1) := by decide +kernel
set_option maxRecDepth 20000 in
theorem ggX1_weightAt_X1_demandHook : GoodIn wsX1_weightAt wsX1_demandHook := goodIn_ca (goodIn_r _ [6, 7, 8, 1, 9, 10, 11, 12, 13, 14, 20, 21, 22, 23, 24, 25] (by decide +kernel) (by decide +kernel)) (goodIn_sub (fun _ h => List.mem_cons_of_mem _ (List.mem_append_right _ h)) (by decide +kernel))
set_option maxRecDepth 20000 in
theorem gX1_weightAt_X1_demandHook : GoodIn wsX1_weightAt (wsV RX1 86 RX1 yX1_demandHook wsX1_demandHook) := goodIn_app (goodIn_of _ (by decide +kernel)) ggX1_weightAt_X1_demandHook
set_option maxRecDepth 20000 in
theorem ggX1_weightAt_X0_weightOn : GoodIn wsX1_weightAt wsX0_weightOn := goodIn_r _ [18, 14, 19, 22, 23, 24, 25] (by decide +kernel) (by decide +kernel)
set_option maxRecDepth 20000 in
theorem gX1_weightAt_X0_weightOn : GoodIn wsX1_weightAt (wsV RX1 48 RX0 yX0_weightOn wsX0_weightOn) := goodIn_app (goodIn_of _ (by decide +kernel)) ggX1_weightAt_X0_weightOn
theorem dX1_weightAt_0 : decode cX1_weightAt 0 = .ok (.aload_n 0, 1) := by decide +kernel
theorem dX1_weightAt_1 : decode cX1_weightAt 1 = .ok (.iload_n 1, 1) := by decide +kernel
theorem dX1_weightAt_2 : decode cX1_weightAt 2 = .ok (.invokevirtual 86, 3) := by decide +kernel
theorem dX1_weightAt_5 : decode cX1_weightAt 5 = .ok (.aload_n 0, 1) := by decide +kernel
theorem dX1_weightAt_6 : decode cX1_weightAt 6 = .ok (.getfield 10, 3) := by decide +kernel
theorem dX1_weightAt_9 : decode cX1_weightAt 9 = .ok (.iload_n 1, 1) := by decide +kernel
theorem dX1_weightAt_10 : decode cX1_weightAt 10 = .ok (.invokevirtual 48, 3) := by decide +kernel
theorem dX1_weightAt_13 : decode cX1_weightAt 13 = .ok (.ireturn, 1) := by decide +kernel
set_option maxRecDepth 20000 in
theorem ggX1_weight_X0_weightOfAll : GoodIn wsX1_weight wsX0_weightOfAll := goodIn_r _ [6, 7, 8, 9, 10, 5, 11, 12, 15, 16, 17, 18] (by decide +kernel) (by decide +kernel)
set_option maxRecDepth 20000 in
theorem gX1_weight_X0_weightOfAll : GoodIn wsX1_weight (wsV RX1 95 RX0 yX0_weightOfAll wsX0_weightOfAll) := goodIn_app (goodIn_of _ (by decide +kernel)) ggX1_weight_X0_weightOfAll
theorem dX1_weight_0 : decode cX1_weight 0 = .ok (.aload_n 0, 1) := by decide +kernel
theorem dX1_weight_1 : decode cX1_weight 1 = .ok (.getfield 10, 3) := by decide +kernel
theorem dX1_weight_4 : decode cX1_weight 4 = .ok (.invokevirtual 95, 3) := by decide +kernel
theorem dX1_weight_7 : decode cX1_weight 7 = .ok (.ireturn, 1) := by decide +kernel
set_option maxRecDepth 20000 in
theorem ggX1_heaviestAt_X0_hookOfHeaviest : GoodIn wsX1_heaviestAt wsX0_hookOfHeaviest := goodIn_r _ [6, 7, 8, 9, 10, 5, 11, 12, 15, 16, 17, 18] (by decide +kernel) (by decide +kernel)
set_option maxRecDepth 20000 in
theorem gX1_heaviestAt_X0_hookOfHeaviest : GoodIn wsX1_heaviestAt (wsV RX1 98 RX0 yX0_hookOfHeaviest wsX0_hookOfHeaviest) := goodIn_app (goodIn_of _ (by decide +kernel)) ggX1_heaviestAt_X0_hookOfHeaviest
theorem dX1_heaviestAt_0 : decode cX1_heaviestAt 0 = .ok (.aload_n 0, 1) := by decide +kernel
theorem dX1_heaviestAt_1 : decode cX1_heaviestAt 1 = .ok (.getfield 10, 3) := by decide +kernel
theorem dX1_heaviestAt_4 : decode cX1_heaviestAt 4 = .ok (.invokevirtual 98, 3) := by decide +kernel
theorem dX1_heaviestAt_7 : decode cX1_heaviestAt 7 = .ok (.ireturn, 1) := by decide +kernel
set_option maxRecDepth 20000 in
theorem ggX1_find_X1_demandNumber : GoodIn wsX1_find wsX1_demandNumber := goodIn_ca (goodIn_r _ [5, 6, 7] (by decide +kernel) (by decide +kernel)) (goodIn_sub (fun _ h => List.mem_cons_of_mem _ (List.mem_append_right _ h)) (by decide +kernel))
set_option maxRecDepth 20000 in
theorem gX1_find_X1_demandNumber : GoodIn wsX1_find (va_wsS RX1 19 yX1_demandNumber wsX1_demandNumber) := goodIn_app (goodIn_of _ (by decide +kernel)) ggX1_find_X1_demandNumber
set_option maxRecDepth 20000 in
theorem ggX1_find_X0_whereFound : GoodIn wsX1_find wsX0_whereFound := goodIn_r _ [12, 13, 14, 15, 11, 16, 17, 18, 19, 20, 21, 22, 23, 24, 25, 26, 27, 30, 31, 32, 33] (by decide +kernel) (by decide +kernel)
set_option maxRecDepth 20000 in
theorem gX1_find_X0_whereFound : GoodIn wsX1_find (wsV RX1 43 RX0 yX0_whereFound wsX0_whereFound) := goodIn_app (goodIn_of _ (by decide +kernel)) ggX1_find_X0_whereFound
theorem dX1_find_0 : decode cX1_find 0 = .ok (.iload_n 1, 1) := by decide +kernel
theorem dX1_find_1 : decode cX1_find 1 = .ok (.invokestatic 19, 3) := by decide +kernel
theorem dX1_find_4 : decode cX1_find 4 = .ok (.aload_n 0, 1) := by decide +kernel
theorem dX1_find_5 : decode cX1_find 5 = .ok (.getfield 10, 3) := by decide +kernel
theorem dX1_find_8 : decode cX1_find 8 = .ok (.iload_n 1, 1) := by decide +kernel
theorem dX1_find_9 : decode cX1_find 9 = .ok (.invokevirtual 43, 3) := by decide +kernel
theorem dX1_find_12 : decode cX1_find 12 = .ok (.ireturn, 1) := by decide +kernel
set_option maxRecDepth 20000 in
theorem ggX1_looksFor_X1_demandNumber : GoodIn wsX1_looksFor wsX1_demandNumber := goodIn_ca (goodIn_r _ [5, 6, 7] (by decide +kernel) (by decide +kernel)) (goodIn_sub (fun _ h => List.mem_cons_of_mem _ (List.mem_append_right _ h)) (by decide +kernel))
set_option maxRecDepth 20000 in
theorem gX1_looksFor_X1_demandNumber : GoodIn wsX1_looksFor (va_wsS RX1 19 yX1_demandNumber wsX1_demandNumber) := goodIn_app (goodIn_of _ (by decide +kernel)) ggX1_looksFor_X1_demandNumber
set_option maxRecDepth 20000 in
theorem ggX1_looksFor_X0_countLooks : GoodIn wsX1_looksFor wsX0_countLooks := goodIn_r _ [12, 13, 14, 15, 16, 11, 17, 18, 19, 20, 21, 22, 23, 26, 27, 28, 29] (by decide +kernel) (by decide +kernel)
set_option maxRecDepth 20000 in
theorem gX1_looksFor_X0_countLooks : GoodIn wsX1_looksFor (wsV RX1 101 RX0 yX0_countLooks wsX0_countLooks) := goodIn_app (goodIn_of _ (by decide +kernel)) ggX1_looksFor_X0_countLooks
theorem dX1_looksFor_0 : decode cX1_looksFor 0 = .ok (.iload_n 1, 1) := by decide +kernel
theorem dX1_looksFor_1 : decode cX1_looksFor 1 = .ok (.invokestatic 19, 3) := by decide +kernel
theorem dX1_looksFor_4 : decode cX1_looksFor 4 = .ok (.aload_n 0, 1) := by decide +kernel
theorem dX1_looksFor_5 : decode cX1_looksFor 5 = .ok (.getfield 10, 3) := by decide +kernel
theorem dX1_looksFor_8 : decode cX1_looksFor 8 = .ok (.iload_n 1, 1) := by decide +kernel
theorem dX1_looksFor_9 : decode cX1_looksFor 9 = .ok (.invokevirtual 101, 3) := by decide +kernel
theorem dX1_looksFor_12 : decode cX1_looksFor 12 = .ok (.ireturn, 1) := by decide +kernel
set_option maxRecDepth 20000 in
theorem ggX1_placeFor_X1_demandNumber : GoodIn wsX1_placeFor wsX1_demandNumber := goodIn_ca (goodIn_r _ [5, 6, 7] (by decide +kernel) (by decide +kernel)) (goodIn_sub (fun _ h => List.mem_cons_of_mem _ (List.mem_append_right _ h)) (by decide +kernel))
set_option maxRecDepth 20000 in
theorem gX1_placeFor_X1_demandNumber : GoodIn wsX1_placeFor (va_wsS RX1 19 yX1_demandNumber wsX1_demandNumber) := goodIn_app (goodIn_of _ (by decide +kernel)) ggX1_placeFor_X1_demandNumber
set_option maxRecDepth 20000 in
theorem ggX1_placeFor_X0_placeOf : GoodIn wsX1_placeFor wsX0_placeOf := goodIn_r _ [12, 13, 14, 15, 11, 16, 17, 18, 19, 20, 21, 22, 23, 24, 25, 26, 27, 28, 29, 30, 31, 32, 33, 34, 35, 38, 39, 40, 41] (by decide +kernel) (by decide +kernel)
set_option maxRecDepth 20000 in
theorem gX1_placeFor_X0_placeOf : GoodIn wsX1_placeFor (wsV RX1 30 RX0 yX0_placeOf wsX0_placeOf) := goodIn_app (goodIn_of _ (by decide +kernel)) ggX1_placeFor_X0_placeOf
theorem dX1_placeFor_0 : decode cX1_placeFor 0 = .ok (.iload_n 1, 1) := by decide +kernel
theorem dX1_placeFor_1 : decode cX1_placeFor 1 = .ok (.invokestatic 19, 3) := by decide +kernel
theorem dX1_placeFor_4 : decode cX1_placeFor 4 = .ok (.aload_n 0, 1) := by decide +kernel
theorem dX1_placeFor_5 : decode cX1_placeFor 5 = .ok (.getfield 10, 3) := by decide +kernel
theorem dX1_placeFor_8 : decode cX1_placeFor 8 = .ok (.iload_n 1, 1) := by decide +kernel
theorem dX1_placeFor_9 : decode cX1_placeFor 9 = .ok (.invokevirtual 30, 3) := by decide +kernel
theorem dX1_placeFor_12 : decode cX1_placeFor 12 = .ok (.ireturn, 1) := by decide +kernel
set_option maxRecDepth 20000 in
theorem ggX1_lookedAt_X1_demandNumber : GoodIn wsX1_lookedAt wsX1_demandNumber := goodIn_ca (goodIn_r _ [7, 1, 2] (by decide +kernel) (by decide +kernel)) (goodIn_sub (fun _ h => List.mem_cons_of_mem _ (List.mem_append_right _ h)) (by decide +kernel))
set_option maxRecDepth 20000 in
theorem gX1_lookedAt_X1_demandNumber : GoodIn wsX1_lookedAt (va_wsS RX1 19 yX1_demandNumber wsX1_demandNumber) := goodIn_app (goodIn_of _ (by decide +kernel)) ggX1_lookedAt_X1_demandNumber
set_option maxRecDepth 20000 in
theorem ggX1_lookedAt_X0_hookInStep : GoodIn wsX1_lookedAt wsX0_hookInStep := goodIn_r _ [12, 13, 14, 17, 18, 19, 20] (by decide +kernel) (by decide +kernel)
set_option maxRecDepth 20000 in
theorem gX1_lookedAt_X0_hookInStep : GoodIn wsX1_lookedAt (wsV RX1 106 RX0 yX0_hookInStep wsX0_hookInStep) := goodIn_app (goodIn_of _ (by decide +kernel)) ggX1_lookedAt_X0_hookInStep
theorem dX1_lookedAt_0 : decode cX1_lookedAt 0 = .ok (.iload_n 1, 1) := by decide +kernel
theorem dX1_lookedAt_1 : decode cX1_lookedAt 1 = .ok (.invokestatic 19, 3) := by decide +kernel
theorem dX1_lookedAt_4 : decode cX1_lookedAt 4 = .ok (.iload_n 2, 1) := by decide +kernel
theorem dX1_lookedAt_5 : decode cX1_lookedAt 5 = .ok (.ifCond .lt 9, 3) := by decide +kernel
theorem dX1_lookedAt_8 : decode cX1_lookedAt 8 = .ok (.iload_n 2, 1) := by decide +kernel
theorem dX1_lookedAt_9 : decode cX1_lookedAt 9 = .ok (.bipush 40, 2) := by decide +kernel
theorem dX1_lookedAt_11 : decode cX1_lookedAt 11 = .ok (.if_icmp .lt 13, 3) := by decide +kernel
theorem dX1_lookedAt_14 : decode cX1_lookedAt 14 = .ok (.new 23, 3) := by decide +kernel
theorem dX1_lookedAt_17 : decode cX1_lookedAt 17 = .ok (.dup, 1) := by decide +kernel
theorem dX1_lookedAt_18 : decode cX1_lookedAt 18 = .ok (.ldc 104, 2) := by decide +kernel
theorem dX1_lookedAt_20 : decode cX1_lookedAt 20 = .ok (.invokespecial 27, 3) := by decide +kernel
theorem dX1_lookedAt_23 : decode cX1_lookedAt 23 = .ok (.athrow, 1) := by decide +kernel
theorem dX1_lookedAt_24 : decode cX1_lookedAt 24 = .ok (.aload_n 0, 1) := by decide +kernel
theorem dX1_lookedAt_25 : decode cX1_lookedAt 25 = .ok (.getfield 10, 3) := by decide +kernel
theorem dX1_lookedAt_28 : decode cX1_lookedAt 28 = .ok (.iload_n 1, 1) := by decide +kernel
theorem dX1_lookedAt_29 : decode cX1_lookedAt 29 = .ok (.iload_n 2, 1) := by decide +kernel
theorem dX1_lookedAt_30 : decode cX1_lookedAt 30 = .ok (.invokevirtual 106, 3) := by decide +kernel
theorem dX1_lookedAt_33 : decode cX1_lookedAt 33 = .ok (.ireturn, 1) := by decide +kernel
set_option maxRecDepth 20000 in
theorem ggX1_allLooks_X0_looksForAll : GoodIn wsX1_allLooks wsX0_looksForAll := goodIn_r _ [6, 7, 8, 9, 10, 5, 11, 12, 13, 14, 15, 16, 17, 18, 19, 20, 21, 24, 25, 26, 27] (by decide +kernel) (by decide +kernel)
set_option maxRecDepth 20000 in
theorem gX1_allLooks_X0_looksForAll : GoodIn wsX1_allLooks (wsV RX1 110 RX0 yX0_looksForAll wsX0_looksForAll) := goodIn_app (goodIn_of _ (by decide +kernel)) ggX1_allLooks_X0_looksForAll
theorem dX1_allLooks_0 : decode cX1_allLooks 0 = .ok (.aload_n 0, 1) := by decide +kernel
theorem dX1_allLooks_1 : decode cX1_allLooks 1 = .ok (.getfield 10, 3) := by decide +kernel
theorem dX1_allLooks_4 : decode cX1_allLooks 4 = .ok (.invokevirtual 110, 3) := by decide +kernel
theorem dX1_allLooks_7 : decode cX1_allLooks 7 = .ok (.ireturn, 1) := by decide +kernel
set_option maxRecDepth 20000 in
theorem ggX1_farthest_X0_coatWithMostLooks : GoodIn wsX1_farthest wsX0_coatWithMostLooks := goodIn_r _ [6, 7, 8, 9, 10, 5, 11, 12, 13, 14, 15, 16, 17, 18, 19, 20, 21, 24, 25, 26, 27] (by decide +kernel) (by decide +kernel)
set_option maxRecDepth 20000 in
theorem gX1_farthest_X0_coatWithMostLooks : GoodIn wsX1_farthest (wsV RX1 113 RX0 yX0_coatWithMostLooks wsX0_coatWithMostLooks) := goodIn_app (goodIn_of _ (by decide +kernel)) ggX1_farthest_X0_coatWithMostLooks
theorem dX1_farthest_0 : decode cX1_farthest 0 = .ok (.aload_n 0, 1) := by decide +kernel
theorem dX1_farthest_1 : decode cX1_farthest 1 = .ok (.getfield 10, 3) := by decide +kernel
theorem dX1_farthest_4 : decode cX1_farthest 4 = .ok (.invokevirtual 113, 3) := by decide +kernel
theorem dX1_farthest_7 : decode cX1_farthest 7 = .ok (.ireturn, 1) := by decide +kernel
set_option maxRecDepth 20000 in
theorem ggX1_rows_X0_rowCount : GoodIn wsX1_rows wsX0_rowCount := goodIn_r _ [6, 7, 8, 9, 10, 5, 11, 12, 13, 14, 15, 16, 19, 20, 21, 22] (by decide +kernel) (by decide +kernel)
set_option maxRecDepth 20000 in
theorem gX1_rows_X0_rowCount : GoodIn wsX1_rows (wsV RX1 116 RX0 yX0_rowCount wsX0_rowCount) := goodIn_app (goodIn_of _ (by decide +kernel)) ggX1_rows_X0_rowCount
theorem dX1_rows_0 : decode cX1_rows 0 = .ok (.aload_n 0, 1) := by decide +kernel
theorem dX1_rows_1 : decode cX1_rows 1 = .ok (.getfield 10, 3) := by decide +kernel
theorem dX1_rows_4 : decode cX1_rows 4 = .ok (.invokevirtual 116, 3) := by decide +kernel
theorem dX1_rows_7 : decode cX1_rows 7 = .ok (.ireturn, 1) := by decide +kernel
set_option maxRecDepth 20000 in
theorem ggX1_longestRow_X0_longestRowLength : GoodIn wsX1_longestRow wsX0_longestRowLength := goodIn_r _ [6, 7, 8, 9, 10, 5, 11, 12, 13, 14, 15, 16, 17, 18, 19, 20, 21, 22, 23, 24, 27, 28, 29, 30] (by decide +kernel) (by decide +kernel)
set_option maxRecDepth 20000 in
theorem gX1_longestRow_X0_longestRowLength : GoodIn wsX1_longestRow (wsV RX1 119 RX0 yX0_longestRowLength wsX0_longestRowLength) := goodIn_app (goodIn_of _ (by decide +kernel)) ggX1_longestRow_X0_longestRowLength
theorem dX1_longestRow_0 : decode cX1_longestRow 0 = .ok (.aload_n 0, 1) := by decide +kernel
theorem dX1_longestRow_1 : decode cX1_longestRow 1 = .ok (.getfield 10, 3) := by decide +kernel
theorem dX1_longestRow_4 : decode cX1_longestRow 4 = .ok (.invokevirtual 119, 3) := by decide +kernel
theorem dX1_longestRow_7 : decode cX1_longestRow 7 = .ok (.ireturn, 1) := by decide +kernel
set_option maxRecDepth 20000 in
theorem ggX1_rowAt_X1_demandHook : GoodIn wsX1_rowAt wsX1_demandHook := goodIn_ca (goodIn_r _ [6, 7, 8, 1, 9, 10, 11, 12, 13, 14, 32, 33, 34, 35, 36, 37] (by decide +kernel) (by decide +kernel)) (goodIn_sub (fun _ h => List.mem_cons_of_mem _ (List.mem_append_right _ h)) (by decide +kernel))
set_option maxRecDepth 20000 in
theorem gX1_rowAt_X1_demandHook : GoodIn wsX1_rowAt (wsV RX1 86 RX1 yX1_demandHook wsX1_demandHook) := goodIn_app (goodIn_of _ (by decide +kernel)) ggX1_rowAt_X1_demandHook
set_option maxRecDepth 20000 in
theorem ggX1_rowAt_X0_rowLength : GoodIn wsX1_rowAt wsX0_rowLength := goodIn_r _ [18, 14, 19, 20, 21, 12, 22, 23, 24, 25, 26, 27, 28, 29, 30, 31, 34, 35, 36, 37] (by decide +kernel) (by decide +kernel)
set_option maxRecDepth 20000 in
theorem gX1_rowAt_X0_rowLength : GoodIn wsX1_rowAt (wsV RX1 122 RX0 yX0_rowLength wsX0_rowLength) := goodIn_app (goodIn_of _ (by decide +kernel)) ggX1_rowAt_X0_rowLength
theorem dX1_rowAt_0 : decode cX1_rowAt 0 = .ok (.aload_n 0, 1) := by decide +kernel
theorem dX1_rowAt_1 : decode cX1_rowAt 1 = .ok (.iload_n 1, 1) := by decide +kernel
theorem dX1_rowAt_2 : decode cX1_rowAt 2 = .ok (.invokevirtual 86, 3) := by decide +kernel
theorem dX1_rowAt_5 : decode cX1_rowAt 5 = .ok (.aload_n 0, 1) := by decide +kernel
theorem dX1_rowAt_6 : decode cX1_rowAt 6 = .ok (.getfield 10, 3) := by decide +kernel
theorem dX1_rowAt_9 : decode cX1_rowAt 9 = .ok (.iload_n 1, 1) := by decide +kernel
theorem dX1_rowAt_10 : decode cX1_rowAt 10 = .ok (.invokevirtual 122, 3) := by decide +kernel
theorem dX1_rowAt_13 : decode cX1_rowAt 13 = .ok (.ireturn, 1) := by decide +kernel
set_option maxRecDepth 20000 in
theorem ggX1_looksWith_X1_demandHooksAndWay : GoodIn wsX1_looksWith wsX1_demandHooksAndWay := goodIn_ca (goodIn_r _ [4, 5, 6] (by decide +kernel) (by decide +kernel)) (goodIn_sub (fun _ h => List.mem_cons_of_mem _ (List.mem_append_right _ h)) (by decide +kernel))
set_option maxRecDepth 20000 in
theorem gX1_looksWith_X1_demandHooksAndWay : GoodIn wsX1_looksWith (va_wsS RX1 54 yX1_demandHooksAndWay wsX1_demandHooksAndWay) := goodIn_app (goodIn_of _ (by decide +kernel)) ggX1_looksWith_X1_demandHooksAndWay
set_option maxRecDepth 20000 in
theorem ggX1_looksWith_X1_looksOnTrial : GoodIn wsX1_looksWith wsX1_looksOnTrial := goodIn_r _ [10, 11, 12, 13, 14, 3, 15, 16, 17, 18, 19, 20, 21, 22, 23, 24, 25, 26, 27, 28, 29, 30, 31, 32, 33, 34, 35, 36, 37, 38, 39, 40, 41, 42, 43, 44, 45, 46, 47, 48, 49, 50, 51, 52, 53, 54, 55, 56, 57, 58, 59, 60, 61, 62, 63, 64, 65, 66, 67, 68] (by decide +kernel) (by decide +kernel)
set_option maxRecDepth 20000 in
theorem gX1_looksWith_X1_looksOnTrial : GoodIn wsX1_looksWith (wsV RX1 125 RX1 yX1_looksOnTrial wsX1_looksOnTrial) := goodIn_app (goodIn_of _ (by decide +kernel)) ggX1_looksWith_X1_looksOnTrial
theorem dX1_looksWith_0 : decode cX1_looksWith 0 = .ok (.iload_n 1, 1) := by decide +kernel
theorem dX1_looksWith_1 : decode cX1_looksWith 1 = .ok (.iload_n 2, 1) := by decide +kernel
theorem dX1_looksWith_2 : decode cX1_looksWith 2 = .ok (.invokestatic 54, 3) := by decide +kernel
theorem dX1_looksWith_5 : decode cX1_looksWith 5 = .ok (.aload_n 0, 1) := by decide +kernel
theorem dX1_looksWith_6 : decode cX1_looksWith 6 = .ok (.iload_n 1, 1) := by decide +kernel
theorem dX1_looksWith_7 : decode cX1_looksWith 7 = .ok (.iload_n 2, 1) := by decide +kernel
theorem dX1_looksWith_8 : decode cX1_looksWith 8 = .ok (.invokevirtual 125, 3) := by decide +kernel
theorem dX1_looksWith_11 : decode cX1_looksWith 11 = .ok (.ireturn, 1) := by decide +kernel
set_option maxRecDepth 20000 in
theorem ggX1_bestWay_X0_hookCount : GoodIn wsX1_bestWay wsX0_hookCount := goodIn_r _ [6, 7, 60, 61, 62, 63] (by decide +kernel) (by decide +kernel)
set_option maxRecDepth 20000 in
theorem gX1_bestWay_X0_hookCount : GoodIn wsX1_bestWay (wsV RX1 74 RX0 yX0_hookCount wsX0_hookCount) := goodIn_app (goodIn_of _ (by decide +kernel)) ggX1_bestWay_X0_hookCount
set_option maxRecDepth 20000 in
theorem ggX1_bestWay_X1_looksOnTrial : GoodIn wsX1_bestWay wsX1_looksOnTrial := goodIn_r _ [12, 13, 14, 15, 16, 11, 17, 1, 18, 19, 20, 5, 21, 7, 22, 23, 24, 25, 26, 27, 28, 2, 3, 4, 6, 29, 30, 31, 32, 33, 34, 35, 36, 37, 38, 39, 40, 41, 42, 43, 44, 45, 46, 47, 48, 49, 50, 51, 52, 53, 54, 55, 56, 57, 58, 59, 60, 61, 62, 63] (by decide +kernel) (by decide +kernel)
set_option maxRecDepth 20000 in
theorem gX1_bestWay_X1_looksOnTrial : GoodIn wsX1_bestWay (wsV RX1 125 RX1 yX1_looksOnTrial wsX1_looksOnTrial) := goodIn_app (goodIn_of _ (by decide +kernel)) ggX1_bestWay_X1_looksOnTrial
theorem dX1_bestWay_0 : decode cX1_bestWay 0 = .ok (.iconst (-1), 1) := by decide +kernel
theorem dX1_bestWay_1 : decode cX1_bestWay 1 = .ok (.istore_n 1, 1) := by decide +kernel
theorem dX1_bestWay_2 : decode cX1_bestWay 2 = .ok (.iconst 0, 1) := by decide +kernel
theorem dX1_bestWay_3 : decode cX1_bestWay 3 = .ok (.istore_n 2, 1) := by decide +kernel
theorem dX1_bestWay_4 : decode cX1_bestWay 4 = .ok (.iconst 0, 1) := by decide +kernel
theorem dX1_bestWay_5 : decode cX1_bestWay 5 = .ok (.istore_n 3, 1) := by decide +kernel
theorem dX1_bestWay_6 : decode cX1_bestWay 6 = .ok (.iload_n 3, 1) := by decide +kernel
theorem dX1_bestWay_7 : decode cX1_bestWay 7 = .ok (.iconst 2, 1) := by decide +kernel
theorem dX1_bestWay_8 : decode cX1_bestWay 8 = .ok (.if_icmp .gt 44, 3) := by decide +kernel
theorem dX1_bestWay_11 : decode cX1_bestWay 11 = .ok (.aload_n 0, 1) := by decide +kernel
theorem dX1_bestWay_12 : decode cX1_bestWay 12 = .ok (.aload_n 0, 1) := by decide +kernel
theorem dX1_bestWay_13 : decode cX1_bestWay 13 = .ok (.getfield 10, 3) := by decide +kernel
theorem dX1_bestWay_16 : decode cX1_bestWay 16 = .ok (.invokevirtual 74, 3) := by decide +kernel
theorem dX1_bestWay_19 : decode cX1_bestWay 19 = .ok (.iload_n 3, 1) := by decide +kernel
theorem dX1_bestWay_20 : decode cX1_bestWay 20 = .ok (.invokevirtual 125, 3) := by decide +kernel
theorem dX1_bestWay_23 : decode cX1_bestWay 23 = .ok (.istore 4, 2) := by decide +kernel
theorem dX1_bestWay_25 : decode cX1_bestWay 25 = .ok (.iload 4, 2) := by decide +kernel
theorem dX1_bestWay_27 : decode cX1_bestWay 27 = .ok (.ifCond .lt 19, 3) := by decide +kernel
theorem dX1_bestWay_30 : decode cX1_bestWay 30 = .ok (.iload_n 1, 1) := by decide +kernel
theorem dX1_bestWay_31 : decode cX1_bestWay 31 = .ok (.iconst (-1), 1) := by decide +kernel
theorem dX1_bestWay_32 : decode cX1_bestWay 32 = .ok (.if_icmp .eq 9, 3) := by decide +kernel
theorem dX1_bestWay_35 : decode cX1_bestWay 35 = .ok (.iload 4, 2) := by decide +kernel
theorem dX1_bestWay_37 : decode cX1_bestWay 37 = .ok (.iload_n 2, 1) := by decide +kernel
theorem dX1_bestWay_38 : decode cX1_bestWay 38 = .ok (.if_icmp .ge 8, 3) := by decide +kernel
theorem dX1_bestWay_41 : decode cX1_bestWay 41 = .ok (.iload_n 3, 1) := by decide +kernel
theorem dX1_bestWay_42 : decode cX1_bestWay 42 = .ok (.istore_n 1, 1) := by decide +kernel
theorem dX1_bestWay_43 : decode cX1_bestWay 43 = .ok (.iload 4, 2) := by decide +kernel
theorem dX1_bestWay_45 : decode cX1_bestWay 45 = .ok (.istore_n 2, 1) := by decide +kernel
theorem dX1_bestWay_46 : decode cX1_bestWay 46 = .ok (.iinc 3 1, 3) := by decide +kernel
theorem dX1_bestWay_49 : decode cX1_bestWay 49 = .ok (.goto (-43), 3) := by decide +kernel
theorem dX1_bestWay_52 : decode cX1_bestWay 52 = .ok (.iload_n 1, 1) := by decide +kernel
theorem dX1_bestWay_53 : decode cX1_bestWay 53 = .ok (.ireturn, 1) := by decide +kernel
set_option maxRecDepth 20000 in
theorem ggX1_hooksWanted_X1_fewestHooks : GoodIn wsX1_hooksWanted wsX1_fewestHooks := goodIn_r _ [7, 8, 9, 10, 11, 12, 13, 14, 15, 16, 17, 6, 18, 19, 20, 21, 22, 23, 24, 25, 26, 27, 28, 29, 30, 31, 32, 33, 34, 35, 36, 37, 38, 39, 40, 41, 42, 43, 44, 45, 46, 47, 48, 49, 50, 51, 52, 53, 54, 55, 56, 57, 58, 59, 60, 61, 62, 63, 64, 65, 66, 67, 68, 69, 70, 71, 72, 73] (by decide +kernel) (by decide +kernel)
set_option maxRecDepth 20000 in
theorem gX1_hooksWanted_X1_fewestHooks : GoodIn wsX1_hooksWanted (wsV RX1 130 RX1 yX1_fewestHooks wsX1_fewestHooks) := goodIn_app (goodIn_of _ (by decide +kernel)) ggX1_hooksWanted_X1_fewestHooks
theorem dX1_hooksWanted_0 : decode cX1_hooksWanted 0 = .ok (.iload_n 1, 1) := by decide +kernel
theorem dX1_hooksWanted_1 : decode cX1_hooksWanted 1 = .ok (.ifCond .lt 10, 3) := by decide +kernel
theorem dX1_hooksWanted_4 : decode cX1_hooksWanted 4 = .ok (.iload_n 1, 1) := by decide +kernel
theorem dX1_hooksWanted_5 : decode cX1_hooksWanted 5 = .ok (.sipush 400, 3) := by decide +kernel
theorem dX1_hooksWanted_8 : decode cX1_hooksWanted 8 = .ok (.if_icmp .le 13, 3) := by decide +kernel
theorem dX1_hooksWanted_11 : decode cX1_hooksWanted 11 = .ok (.new 23, 3) := by decide +kernel
theorem dX1_hooksWanted_14 : decode cX1_hooksWanted 14 = .ok (.dup, 1) := by decide +kernel
theorem dX1_hooksWanted_15 : decode cX1_hooksWanted 15 = .ok (.ldc 128, 2) := by decide +kernel
theorem dX1_hooksWanted_17 : decode cX1_hooksWanted 17 = .ok (.invokespecial 27, 3) := by decide +kernel
theorem dX1_hooksWanted_20 : decode cX1_hooksWanted 20 = .ok (.athrow, 1) := by decide +kernel
theorem dX1_hooksWanted_21 : decode cX1_hooksWanted 21 = .ok (.aload_n 0, 1) := by decide +kernel
theorem dX1_hooksWanted_22 : decode cX1_hooksWanted 22 = .ok (.iload_n 1, 1) := by decide +kernel
theorem dX1_hooksWanted_23 : decode cX1_hooksWanted 23 = .ok (.invokevirtual 130, 3) := by decide +kernel
theorem dX1_hooksWanted_26 : decode cX1_hooksWanted 26 = .ok (.ireturn, 1) := by decide +kernel
set_option maxRecDepth 20000 in
theorem ggX1_meanLooks_X0_countInState : GoodIn wsX1_meanLooks wsX0_countInState := goodIn_r _ [6, 7, 8, 9, 10, 5, 11, 12, 13, 14, 15, 16, 32, 33, 34, 35] (by decide +kernel) (by decide +kernel)
set_option maxRecDepth 20000 in
theorem gX1_meanLooks_X0_countInState : GoodIn wsX1_meanLooks (wsV RX1 71 RX0 yX0_countInState wsX0_countInState) := goodIn_app (goodIn_of _ (by decide +kernel)) ggX1_meanLooks_X0_countInState
set_option maxRecDepth 20000 in
theorem ggX1_meanLooks_X0_looksForAll : GoodIn wsX1_meanLooks wsX0_looksForAll := goodIn_r _ [20, 7, 12, 13, 14, 5, 15, 16, 21, 22, 23, 24, 25, 26, 27, 28, 29, 32, 33, 34, 35] (by decide +kernel) (by decide +kernel)
set_option maxRecDepth 20000 in
theorem gX1_meanLooks_X0_looksForAll : GoodIn wsX1_meanLooks (wsV RX1 110 RX0 yX0_looksForAll wsX0_looksForAll) := goodIn_app (goodIn_of _ (by decide +kernel)) ggX1_meanLooks_X0_looksForAll
theorem dX1_meanLooks_0 : decode cX1_meanLooks 0 = .ok (.aload_n 0, 1) := by decide +kernel
theorem dX1_meanLooks_1 : decode cX1_meanLooks 1 = .ok (.getfield 10, 3) := by decide +kernel
theorem dX1_meanLooks_4 : decode cX1_meanLooks 4 = .ok (.iconst 1, 1) := by decide +kernel
theorem dX1_meanLooks_5 : decode cX1_meanLooks 5 = .ok (.invokevirtual 71, 3) := by decide +kernel
theorem dX1_meanLooks_8 : decode cX1_meanLooks 8 = .ok (.istore_n 1, 1) := by decide +kernel
theorem dX1_meanLooks_9 : decode cX1_meanLooks 9 = .ok (.iload_n 1, 1) := by decide +kernel
theorem dX1_meanLooks_10 : decode cX1_meanLooks 10 = .ok (.ifCond .ne 5, 3) := by decide +kernel
theorem dX1_meanLooks_13 : decode cX1_meanLooks 13 = .ok (.dconst 0, 1) := by decide +kernel
theorem dX1_meanLooks_14 : decode cX1_meanLooks 14 = .ok (.dreturn, 1) := by decide +kernel
theorem dX1_meanLooks_15 : decode cX1_meanLooks 15 = .ok (.aload_n 0, 1) := by decide +kernel
theorem dX1_meanLooks_16 : decode cX1_meanLooks 16 = .ok (.getfield 10, 3) := by decide +kernel
theorem dX1_meanLooks_19 : decode cX1_meanLooks 19 = .ok (.invokevirtual 110, 3) := by decide +kernel
theorem dX1_meanLooks_22 : decode cX1_meanLooks 22 = .ok (.i2d, 1) := by decide +kernel
theorem dX1_meanLooks_23 : decode cX1_meanLooks 23 = .ok (.iload_n 1, 1) := by decide +kernel
theorem dX1_meanLooks_24 : decode cX1_meanLooks 24 = .ok (.i2d, 1) := by decide +kernel
theorem dX1_meanLooks_25 : decode cX1_meanLooks 25 = .ok (.ddiv, 1) := by decide +kernel
theorem dX1_meanLooks_26 : decode cX1_meanLooks 26 = .ok (.dreturn, 1) := by decide +kernel
set_option maxRecDepth 20000 in
theorem ggX1_digest_X0_hookCount : GoodIn wsX1_digest wsX0_hookCount := goodIn_r _ [8, 9, 118, 119, 120, 121] (by decide +kernel) (by decide +kernel)
set_option maxRecDepth 20000 in
theorem gX1_digest_X0_hookCount : GoodIn wsX1_digest (wsV RX1 74 RX0 yX0_hookCount wsX0_hookCount) := goodIn_app (goodIn_of _ (by decide +kernel)) ggX1_digest_X0_hookCount
set_option maxRecDepth 20000 in
theorem ggX1_digest_X0_usherWay : GoodIn wsX1_digest wsX0_usherWay := goodIn_r _ [13, 14, 118, 119, 120, 121] (by decide +kernel) (by decide +kernel)
set_option maxRecDepth 20000 in
theorem gX1_digest_X0_usherWay : GoodIn wsX1_digest (wsV RX1 83 RX0 yX0_usherWay wsX0_usherWay) := goodIn_app (goodIn_of _ (by decide +kernel)) ggX1_digest_X0_usherWay
set_option maxRecDepth 20000 in
theorem ggX1_digest_X0_countInState : GoodIn wsX1_digest wsX0_countInState := goodIn_r _ [18, 9, 19, 20, 21, 7, 22, 23, 24, 25, 26, 27, 118, 119, 120, 121] (by decide +kernel) (by decide +kernel)
set_option maxRecDepth 20000 in
theorem gX1_digest_X0_countInState : GoodIn wsX1_digest (wsV RX1 71 RX0 yX0_countInState wsX0_countInState) := goodIn_app (goodIn_of _ (by decide +kernel)) ggX1_digest_X0_countInState
set_option maxRecDepth 20000 in
theorem ggX1_digest_X0_weightOfAll : GoodIn wsX1_digest wsX0_weightOfAll := goodIn_r _ [31, 9, 32, 33, 34, 7, 35, 36, 118, 119, 120, 121] (by decide +kernel) (by decide +kernel)
set_option maxRecDepth 20000 in
theorem gX1_digest_X0_weightOfAll : GoodIn wsX1_digest (wsV RX1 95 RX0 yX0_weightOfAll wsX0_weightOfAll) := goodIn_app (goodIn_of _ (by decide +kernel)) ggX1_digest_X0_weightOfAll
set_option maxRecDepth 20000 in
theorem ggX1_digest_X0_hookOfHeaviest : GoodIn wsX1_digest wsX0_hookOfHeaviest := goodIn_r _ [40, 9, 32, 33, 34, 7, 35, 36, 118, 119, 120, 121] (by decide +kernel) (by decide +kernel)
set_option maxRecDepth 20000 in
theorem gX1_digest_X0_hookOfHeaviest : GoodIn wsX1_digest (wsV RX1 98 RX0 yX0_hookOfHeaviest wsX0_hookOfHeaviest) := goodIn_app (goodIn_of _ (by decide +kernel)) ggX1_digest_X0_hookOfHeaviest
set_option maxRecDepth 20000 in
theorem ggX1_digest_X0_looksForAll : GoodIn wsX1_digest wsX0_looksForAll := goodIn_r _ [44, 9, 23, 24, 25, 7, 26, 27, 45, 46, 47, 48, 49, 50, 51, 52, 14, 118, 119, 120, 121] (by decide +kernel) (by decide +kernel)
set_option maxRecDepth 20000 in
theorem gX1_digest_X0_looksForAll : GoodIn wsX1_digest (wsV RX1 110 RX0 yX0_looksForAll wsX0_looksForAll) := goodIn_app (goodIn_of _ (by decide +kernel)) ggX1_digest_X0_looksForAll
set_option maxRecDepth 20000 in
theorem ggX1_digest_X0_coatWithMostLooks : GoodIn wsX1_digest wsX0_coatWithMostLooks := goodIn_r _ [56, 9, 23, 24, 25, 7, 26, 27, 45, 46, 47, 48, 49, 50, 51, 52, 14, 118, 119, 120, 121] (by decide +kernel) (by decide +kernel)
set_option maxRecDepth 20000 in
theorem gX1_digest_X0_coatWithMostLooks : GoodIn wsX1_digest (wsV RX1 113 RX0 yX0_coatWithMostLooks wsX0_coatWithMostLooks) := goodIn_app (goodIn_of _ (by decide +kernel)) ggX1_digest_X0_coatWithMostLooks
set_option maxRecDepth 20000 in
theorem ggX1_digest_X0_rowCount : GoodIn wsX1_digest wsX0_rowCount := goodIn_r _ [60, 9, 23, 24, 25, 7, 26, 27, 61, 62, 63, 64, 118, 119, 120, 121] (by decide +kernel) (by decide +kernel)
set_option maxRecDepth 20000 in
theorem gX1_digest_X0_rowCount : GoodIn wsX1_digest (wsV RX1 116 RX0 yX0_rowCount wsX0_rowCount) := goodIn_app (goodIn_of _ (by decide +kernel)) ggX1_digest_X0_rowCount
set_option maxRecDepth 20000 in
theorem ggX1_digest_X0_longestRowLength : GoodIn wsX1_digest wsX0_longestRowLength := goodIn_r _ [68, 9, 69, 70, 71, 7, 72, 23, 24, 25, 26, 27, 61, 62, 63, 64, 73, 74, 75, 76, 118, 119, 120, 121] (by decide +kernel) (by decide +kernel)
set_option maxRecDepth 20000 in
theorem gX1_digest_X0_longestRowLength : GoodIn wsX1_digest (wsV RX1 119 RX0 yX0_longestRowLength wsX0_longestRowLength) := goodIn_app (goodIn_of _ (by decide +kernel)) ggX1_digest_X0_longestRowLength
set_option maxRecDepth 20000 in
theorem ggX1_digest_X1_bestWay : GoodIn wsX1_digest wsX1_bestWay := goodIn_r _ [81, 3, 4, 5, 6, 7, 8, 9, 82, 83, 84, 80, 85, 86, 87, 88, 89, 90, 91, 92, 93, 94, 14, 27, 95, 96, 97, 98, 36, 99, 100, 101, 102, 23, 24, 25, 26, 103, 104, 105, 106, 45, 46, 47, 48, 49, 50, 51, 52, 107, 33, 34, 35, 108, 41, 42, 43, 44, 116, 117, 118, 119, 120, 121] (by decide +kernel) (by decide +kernel)
set_option maxRecDepth 20000 in
theorem gX1_digest_X1_bestWay : GoodIn wsX1_digest (wsV RX1 137 RX1 yX1_bestWay wsX1_bestWay) := goodIn_app (goodIn_of _ (by decide +kernel)) ggX1_digest_X1_bestWay
set_option maxRecDepth 20000 in
theorem ggX1_digest_X1_fewestHooks : GoodIn wsX1_digest wsX1_fewestHooks := goodIn_r _ [112, 3, 10, 11, 12, 7, 13, 14, 82, 83, 84, 80, 85, 86, 87, 88, 89, 90, 91, 92, 93, 94, 9, 27, 95, 96, 97, 98, 36, 4, 5, 6, 8, 99, 100, 101, 102, 23, 24, 25, 26, 103, 104, 105, 106, 45, 46, 47, 48, 49, 50, 51, 52, 107, 33, 34, 35, 108, 41, 42, 43, 44, 116, 117, 118, 119, 120, 121] (by decide +kernel) (by decide +kernel)
set_option maxRecDepth 20000 in
theorem gX1_digest_X1_fewestHooks : GoodIn wsX1_digest (wsV RX1 130 RX1 yX1_fewestHooks wsX1_fewestHooks) := goodIn_app (goodIn_of _ (by decide +kernel)) ggX1_digest_X1_fewestHooks
set_option maxRecDepth 20000 in
theorem ggX1_digest_X0_stateOn : GoodIn wsX1_digest wsX0_stateOn := goodIn_r _ [22, 23, 24, 25, 7, 26, 9, 27, 118, 119, 120, 121] (by decide +kernel) (by decide +kernel)
set_option maxRecDepth 20000 in
theorem gX1_digest_X0_stateOn : GoodIn wsX1_digest (wsV RX1 89 RX0 yX0_stateOn wsX0_stateOn) := goodIn_app (goodIn_of _ (by decide +kernel)) ggX1_digest_X0_stateOn
set_option maxRecDepth 20000 in
theorem ggX1_digest_X0_coatOn : GoodIn wsX1_digest wsX0_coatOn := goodIn_r _ [102, 23, 24, 25, 7, 26, 9, 27, 118, 119, 120, 121] (by decide +kernel) (by decide +kernel)
set_option maxRecDepth 20000 in
theorem gX1_digest_X0_coatOn : GoodIn wsX1_digest (wsV RX1 92 RX0 yX0_coatOn wsX0_coatOn) := goodIn_app (goodIn_of _ (by decide +kernel)) ggX1_digest_X0_coatOn
set_option maxRecDepth 20000 in
theorem ggX1_digest_X0_weightOn : GoodIn wsX1_digest wsX0_weightOn := goodIn_r _ [35, 9, 36, 118, 119, 120, 121] (by decide +kernel) (by decide +kernel)
set_option maxRecDepth 20000 in
theorem gX1_digest_X0_weightOn : GoodIn wsX1_digest (wsV RX1 48 RX0 yX0_weightOn wsX0_weightOn) := goodIn_app (goodIn_of _ (by decide +kernel)) ggX1_digest_X0_weightOn
set_option maxRecDepth 20000 in
theorem ggX1_digest_X0_rowLength : GoodIn wsX1_digest wsX0_rowLength := goodIn_r _ [72, 9, 23, 24, 25, 7, 26, 27, 61, 62, 63, 64, 73, 74, 75, 76, 118, 119, 120, 121] (by decide +kernel) (by decide +kernel)
set_option maxRecDepth 20000 in
theorem gX1_digest_X0_rowLength : GoodIn wsX1_digest (wsV RX1 122 RX0 yX0_rowLength wsX0_rowLength) := goodIn_app (goodIn_of _ (by decide +kernel)) ggX1_digest_X0_rowLength
set_option maxRecDepth 20000 in
theorem ggX1_digest_X0_countLooks : GoodIn wsX1_digest wsX0_countLooks := goodIn_r _ [48, 9, 49, 50, 51, 7, 52, 14, 23, 24, 25, 26, 27, 118, 119, 120, 121] (by decide +kernel) (by decide +kernel)
set_option maxRecDepth 20000 in
theorem gX1_digest_X0_countLooks : GoodIn wsX1_digest (wsV RX1 101 RX0 yX0_countLooks wsX0_countLooks) := goodIn_app (goodIn_of _ (by decide +kernel)) ggX1_digest_X0_countLooks
theorem dX1_digest_0 : decode cX1_digest 0 = .ok (.ldc2_w 133, 3) := by decide +kernel
theorem dX1_digest_3 : decode cX1_digest 3 = .ok (.lstore_n 1, 1) := by decide +kernel
theorem dX1_digest_4 : decode cX1_digest 4 = .ok (.lload_n 1, 1) := by decide +kernel
theorem dX1_digest_5 : decode cX1_digest 5 = .ok (.ldc2_w 135, 3) := by decide +kernel
theorem dX1_digest_8 : decode cX1_digest 8 = .ok (.lmul, 1) := by decide +kernel
theorem dX1_digest_9 : decode cX1_digest 9 = .ok (.aload_n 0, 1) := by decide +kernel
theorem dX1_digest_10 : decode cX1_digest 10 = .ok (.getfield 10, 3) := by decide +kernel
theorem dX1_digest_13 : decode cX1_digest 13 = .ok (.invokevirtual 74, 3) := by decide +kernel
theorem dX1_digest_16 : decode cX1_digest 16 = .ok (.i2l, 1) := by decide +kernel
theorem dX1_digest_17 : decode cX1_digest 17 = .ok (.ladd, 1) := by decide +kernel
theorem dX1_digest_18 : decode cX1_digest 18 = .ok (.lstore_n 1, 1) := by decide +kernel
theorem dX1_digest_19 : decode cX1_digest 19 = .ok (.lload_n 1, 1) := by decide +kernel
theorem dX1_digest_20 : decode cX1_digest 20 = .ok (.ldc2_w 135, 3) := by decide +kernel
theorem dX1_digest_23 : decode cX1_digest 23 = .ok (.lmul, 1) := by decide +kernel
theorem dX1_digest_24 : decode cX1_digest 24 = .ok (.aload_n 0, 1) := by decide +kernel
theorem dX1_digest_25 : decode cX1_digest 25 = .ok (.getfield 10, 3) := by decide +kernel
theorem dX1_digest_28 : decode cX1_digest 28 = .ok (.invokevirtual 83, 3) := by decide +kernel
theorem dX1_digest_31 : decode cX1_digest 31 = .ok (.i2l, 1) := by decide +kernel
theorem dX1_digest_32 : decode cX1_digest 32 = .ok (.ladd, 1) := by decide +kernel
theorem dX1_digest_33 : decode cX1_digest 33 = .ok (.lstore_n 1, 1) := by decide +kernel
theorem dX1_digest_34 : decode cX1_digest 34 = .ok (.lload_n 1, 1) := by decide +kernel
theorem dX1_digest_35 : decode cX1_digest 35 = .ok (.ldc2_w 135, 3) := by decide +kernel
theorem dX1_digest_38 : decode cX1_digest 38 = .ok (.lmul, 1) := by decide +kernel
theorem dX1_digest_39 : decode cX1_digest 39 = .ok (.aload_n 0, 1) := by decide +kernel
theorem dX1_digest_40 : decode cX1_digest 40 = .ok (.getfield 10, 3) := by decide +kernel
theorem dX1_digest_43 : decode cX1_digest 43 = .ok (.iconst 1, 1) := by decide +kernel
theorem dX1_digest_44 : decode cX1_digest 44 = .ok (.invokevirtual 71, 3) := by decide +kernel
theorem dX1_digest_47 : decode cX1_digest 47 = .ok (.i2l, 1) := by decide +kernel
theorem dX1_digest_48 : decode cX1_digest 48 = .ok (.ladd, 1) := by decide +kernel
theorem dX1_digest_49 : decode cX1_digest 49 = .ok (.lstore_n 1, 1) := by decide +kernel
theorem dX1_digest_50 : decode cX1_digest 50 = .ok (.lload_n 1, 1) := by decide +kernel
theorem dX1_digest_51 : decode cX1_digest 51 = .ok (.ldc2_w 135, 3) := by decide +kernel
theorem dX1_digest_54 : decode cX1_digest 54 = .ok (.lmul, 1) := by decide +kernel
theorem dX1_digest_55 : decode cX1_digest 55 = .ok (.aload_n 0, 1) := by decide +kernel
theorem dX1_digest_56 : decode cX1_digest 56 = .ok (.getfield 10, 3) := by decide +kernel
theorem dX1_digest_59 : decode cX1_digest 59 = .ok (.iconst 2, 1) := by decide +kernel
theorem dX1_digest_60 : decode cX1_digest 60 = .ok (.invokevirtual 71, 3) := by decide +kernel
theorem dX1_digest_63 : decode cX1_digest 63 = .ok (.i2l, 1) := by decide +kernel
theorem dX1_digest_64 : decode cX1_digest 64 = .ok (.ladd, 1) := by decide +kernel
theorem dX1_digest_65 : decode cX1_digest 65 = .ok (.lstore_n 1, 1) := by decide +kernel
theorem dX1_digest_66 : decode cX1_digest 66 = .ok (.lload_n 1, 1) := by decide +kernel
theorem dX1_digest_67 : decode cX1_digest 67 = .ok (.ldc2_w 135, 3) := by decide +kernel
theorem dX1_digest_70 : decode cX1_digest 70 = .ok (.lmul, 1) := by decide +kernel
theorem dX1_digest_71 : decode cX1_digest 71 = .ok (.aload_n 0, 1) := by decide +kernel
theorem dX1_digest_72 : decode cX1_digest 72 = .ok (.getfield 10, 3) := by decide +kernel
theorem dX1_digest_75 : decode cX1_digest 75 = .ok (.invokevirtual 95, 3) := by decide +kernel
theorem dX1_digest_78 : decode cX1_digest 78 = .ok (.i2l, 1) := by decide +kernel
theorem dX1_digest_79 : decode cX1_digest 79 = .ok (.ladd, 1) := by decide +kernel
theorem dX1_digest_80 : decode cX1_digest 80 = .ok (.lstore_n 1, 1) := by decide +kernel
theorem dX1_digest_81 : decode cX1_digest 81 = .ok (.lload_n 1, 1) := by decide +kernel
theorem dX1_digest_82 : decode cX1_digest 82 = .ok (.ldc2_w 135, 3) := by decide +kernel
theorem dX1_digest_85 : decode cX1_digest 85 = .ok (.lmul, 1) := by decide +kernel
theorem dX1_digest_86 : decode cX1_digest 86 = .ok (.aload_n 0, 1) := by decide +kernel
theorem dX1_digest_87 : decode cX1_digest 87 = .ok (.getfield 10, 3) := by decide +kernel
theorem dX1_digest_90 : decode cX1_digest 90 = .ok (.invokevirtual 98, 3) := by decide +kernel
theorem dX1_digest_93 : decode cX1_digest 93 = .ok (.i2l, 1) := by decide +kernel
theorem dX1_digest_94 : decode cX1_digest 94 = .ok (.ladd, 1) := by decide +kernel
theorem dX1_digest_95 : decode cX1_digest 95 = .ok (.lstore_n 1, 1) := by decide +kernel
theorem dX1_digest_96 : decode cX1_digest 96 = .ok (.lload_n 1, 1) := by decide +kernel
theorem dX1_digest_97 : decode cX1_digest 97 = .ok (.ldc2_w 135, 3) := by decide +kernel
theorem dX1_digest_100 : decode cX1_digest 100 = .ok (.lmul, 1) := by decide +kernel
theorem dX1_digest_101 : decode cX1_digest 101 = .ok (.aload_n 0, 1) := by decide +kernel
theorem dX1_digest_102 : decode cX1_digest 102 = .ok (.getfield 10, 3) := by decide +kernel
theorem dX1_digest_105 : decode cX1_digest 105 = .ok (.invokevirtual 110, 3) := by decide +kernel
theorem dX1_digest_108 : decode cX1_digest 108 = .ok (.i2l, 1) := by decide +kernel
theorem dX1_digest_109 : decode cX1_digest 109 = .ok (.ladd, 1) := by decide +kernel
theorem dX1_digest_110 : decode cX1_digest 110 = .ok (.lstore_n 1, 1) := by decide +kernel
theorem dX1_digest_111 : decode cX1_digest 111 = .ok (.lload_n 1, 1) := by decide +kernel
theorem dX1_digest_112 : decode cX1_digest 112 = .ok (.ldc2_w 135, 3) := by decide +kernel
theorem dX1_digest_115 : decode cX1_digest 115 = .ok (.lmul, 1) := by decide +kernel
theorem dX1_digest_116 : decode cX1_digest 116 = .ok (.aload_n 0, 1) := by decide +kernel
theorem dX1_digest_117 : decode cX1_digest 117 = .ok (.getfield 10, 3) := by decide +kernel
theorem dX1_digest_120 : decode cX1_digest 120 = .ok (.invokevirtual 113, 3) := by decide +kernel
theorem dX1_digest_123 : decode cX1_digest 123 = .ok (.i2l, 1) := by decide +kernel
theorem dX1_digest_124 : decode cX1_digest 124 = .ok (.ladd, 1) := by decide +kernel
theorem dX1_digest_125 : decode cX1_digest 125 = .ok (.lstore_n 1, 1) := by decide +kernel
theorem dX1_digest_126 : decode cX1_digest 126 = .ok (.lload_n 1, 1) := by decide +kernel
theorem dX1_digest_127 : decode cX1_digest 127 = .ok (.ldc2_w 135, 3) := by decide +kernel
theorem dX1_digest_130 : decode cX1_digest 130 = .ok (.lmul, 1) := by decide +kernel
theorem dX1_digest_131 : decode cX1_digest 131 = .ok (.aload_n 0, 1) := by decide +kernel
theorem dX1_digest_132 : decode cX1_digest 132 = .ok (.getfield 10, 3) := by decide +kernel
theorem dX1_digest_135 : decode cX1_digest 135 = .ok (.invokevirtual 116, 3) := by decide +kernel
theorem dX1_digest_138 : decode cX1_digest 138 = .ok (.i2l, 1) := by decide +kernel
theorem dX1_digest_139 : decode cX1_digest 139 = .ok (.ladd, 1) := by decide +kernel
theorem dX1_digest_140 : decode cX1_digest 140 = .ok (.lstore_n 1, 1) := by decide +kernel
theorem dX1_digest_141 : decode cX1_digest 141 = .ok (.lload_n 1, 1) := by decide +kernel
theorem dX1_digest_142 : decode cX1_digest 142 = .ok (.ldc2_w 135, 3) := by decide +kernel
theorem dX1_digest_145 : decode cX1_digest 145 = .ok (.lmul, 1) := by decide +kernel
theorem dX1_digest_146 : decode cX1_digest 146 = .ok (.aload_n 0, 1) := by decide +kernel
theorem dX1_digest_147 : decode cX1_digest 147 = .ok (.getfield 10, 3) := by decide +kernel
theorem dX1_digest_150 : decode cX1_digest 150 = .ok (.invokevirtual 119, 3) := by decide +kernel
theorem dX1_digest_153 : decode cX1_digest 153 = .ok (.i2l, 1) := by decide +kernel
theorem dX1_digest_154 : decode cX1_digest 154 = .ok (.ladd, 1) := by decide +kernel
theorem dX1_digest_155 : decode cX1_digest 155 = .ok (.lstore_n 1, 1) := by decide +kernel
theorem dX1_digest_156 : decode cX1_digest 156 = .ok (.lload_n 1, 1) := by decide +kernel
theorem dX1_digest_157 : decode cX1_digest 157 = .ok (.ldc2_w 135, 3) := by decide +kernel
theorem dX1_digest_160 : decode cX1_digest 160 = .ok (.lmul, 1) := by decide +kernel
theorem dX1_digest_161 : decode cX1_digest 161 = .ok (.aload_n 0, 1) := by decide +kernel
theorem dX1_digest_162 : decode cX1_digest 162 = .ok (.invokevirtual 137, 3) := by decide +kernel
theorem dX1_digest_165 : decode cX1_digest 165 = .ok (.i2l, 1) := by decide +kernel
theorem dX1_digest_166 : decode cX1_digest 166 = .ok (.ladd, 1) := by decide +kernel
theorem dX1_digest_167 : decode cX1_digest 167 = .ok (.lstore_n 1, 1) := by decide +kernel
theorem dX1_digest_168 : decode cX1_digest 168 = .ok (.lload_n 1, 1) := by decide +kernel
theorem dX1_digest_169 : decode cX1_digest 169 = .ok (.ldc2_w 135, 3) := by decide +kernel
theorem dX1_digest_172 : decode cX1_digest 172 = .ok (.lmul, 1) := by decide +kernel
theorem dX1_digest_173 : decode cX1_digest 173 = .ok (.aload_n 0, 1) := by decide +kernel
theorem dX1_digest_174 : decode cX1_digest 174 = .ok (.bipush 20, 2) := by decide +kernel
theorem dX1_digest_176 : decode cX1_digest 176 = .ok (.invokevirtual 130, 3) := by decide +kernel
theorem dX1_digest_179 : decode cX1_digest 179 = .ok (.i2l, 1) := by decide +kernel
theorem dX1_digest_180 : decode cX1_digest 180 = .ok (.ladd, 1) := by decide +kernel
theorem dX1_digest_181 : decode cX1_digest 181 = .ok (.lstore_n 1, 1) := by decide +kernel
theorem dX1_digest_182 : decode cX1_digest 182 = .ok (.iconst 0, 1) := by decide +kernel
theorem dX1_digest_183 : decode cX1_digest 183 = .ok (.istore_n 3, 1) := by decide +kernel
theorem dX1_digest_184 : decode cX1_digest 184 = .ok (.iload_n 3, 1) := by decide +kernel
theorem dX1_digest_185 : decode cX1_digest 185 = .ok (.aload_n 0, 1) := by decide +kernel
theorem dX1_digest_186 : decode cX1_digest 186 = .ok (.getfield 10, 3) := by decide +kernel
theorem dX1_digest_189 : decode cX1_digest 189 = .ok (.invokevirtual 74, 3) := by decide +kernel
theorem dX1_digest_192 : decode cX1_digest 192 = .ok (.if_icmp .ge 92, 3) := by decide +kernel
theorem dX1_digest_195 : decode cX1_digest 195 = .ok (.lload_n 1, 1) := by decide +kernel
theorem dX1_digest_196 : decode cX1_digest 196 = .ok (.ldc2_w 135, 3) := by decide +kernel
theorem dX1_digest_199 : decode cX1_digest 199 = .ok (.lmul, 1) := by decide +kernel
theorem dX1_digest_200 : decode cX1_digest 200 = .ok (.aload_n 0, 1) := by decide +kernel
theorem dX1_digest_201 : decode cX1_digest 201 = .ok (.getfield 10, 3) := by decide +kernel
theorem dX1_digest_204 : decode cX1_digest 204 = .ok (.iload_n 3, 1) := by decide +kernel
theorem dX1_digest_205 : decode cX1_digest 205 = .ok (.invokevirtual 89, 3) := by decide +kernel
theorem dX1_digest_208 : decode cX1_digest 208 = .ok (.i2l, 1) := by decide +kernel
theorem dX1_digest_209 : decode cX1_digest 209 = .ok (.ladd, 1) := by decide +kernel
theorem dX1_digest_210 : decode cX1_digest 210 = .ok (.lstore_n 1, 1) := by decide +kernel
theorem dX1_digest_211 : decode cX1_digest 211 = .ok (.lload_n 1, 1) := by decide +kernel
theorem dX1_digest_212 : decode cX1_digest 212 = .ok (.ldc2_w 135, 3) := by decide +kernel
theorem dX1_digest_215 : decode cX1_digest 215 = .ok (.lmul, 1) := by decide +kernel
theorem dX1_digest_216 : decode cX1_digest 216 = .ok (.aload_n 0, 1) := by decide +kernel
theorem dX1_digest_217 : decode cX1_digest 217 = .ok (.getfield 10, 3) := by decide +kernel
theorem dX1_digest_220 : decode cX1_digest 220 = .ok (.iload_n 3, 1) := by decide +kernel
theorem dX1_digest_221 : decode cX1_digest 221 = .ok (.invokevirtual 92, 3) := by decide +kernel
theorem dX1_digest_224 : decode cX1_digest 224 = .ok (.i2l, 1) := by decide +kernel
theorem dX1_digest_225 : decode cX1_digest 225 = .ok (.ladd, 1) := by decide +kernel
theorem dX1_digest_226 : decode cX1_digest 226 = .ok (.lstore_n 1, 1) := by decide +kernel
theorem dX1_digest_227 : decode cX1_digest 227 = .ok (.lload_n 1, 1) := by decide +kernel
theorem dX1_digest_228 : decode cX1_digest 228 = .ok (.ldc2_w 135, 3) := by decide +kernel
theorem dX1_digest_231 : decode cX1_digest 231 = .ok (.lmul, 1) := by decide +kernel
theorem dX1_digest_232 : decode cX1_digest 232 = .ok (.aload_n 0, 1) := by decide +kernel
theorem dX1_digest_233 : decode cX1_digest 233 = .ok (.getfield 10, 3) := by decide +kernel
theorem dX1_digest_236 : decode cX1_digest 236 = .ok (.iload_n 3, 1) := by decide +kernel
theorem dX1_digest_237 : decode cX1_digest 237 = .ok (.invokevirtual 48, 3) := by decide +kernel
theorem dX1_digest_240 : decode cX1_digest 240 = .ok (.i2l, 1) := by decide +kernel
theorem dX1_digest_241 : decode cX1_digest 241 = .ok (.ladd, 1) := by decide +kernel
theorem dX1_digest_242 : decode cX1_digest 242 = .ok (.lstore_n 1, 1) := by decide +kernel
theorem dX1_digest_243 : decode cX1_digest 243 = .ok (.lload_n 1, 1) := by decide +kernel
theorem dX1_digest_244 : decode cX1_digest 244 = .ok (.ldc2_w 135, 3) := by decide +kernel
theorem dX1_digest_247 : decode cX1_digest 247 = .ok (.lmul, 1) := by decide +kernel
theorem dX1_digest_248 : decode cX1_digest 248 = .ok (.aload_n 0, 1) := by decide +kernel
theorem dX1_digest_249 : decode cX1_digest 249 = .ok (.getfield 10, 3) := by decide +kernel
theorem dX1_digest_252 : decode cX1_digest 252 = .ok (.iload_n 3, 1) := by decide +kernel
theorem dX1_digest_253 : decode cX1_digest 253 = .ok (.invokevirtual 122, 3) := by decide +kernel
theorem dX1_digest_256 : decode cX1_digest 256 = .ok (.i2l, 1) := by decide +kernel
theorem dX1_digest_257 : decode cX1_digest 257 = .ok (.ladd, 1) := by decide +kernel
theorem dX1_digest_258 : decode cX1_digest 258 = .ok (.lstore_n 1, 1) := by decide +kernel
theorem dX1_digest_259 : decode cX1_digest 259 = .ok (.lload_n 1, 1) := by decide +kernel
theorem dX1_digest_260 : decode cX1_digest 260 = .ok (.ldc2_w 135, 3) := by decide +kernel
theorem dX1_digest_263 : decode cX1_digest 263 = .ok (.lmul, 1) := by decide +kernel
theorem dX1_digest_264 : decode cX1_digest 264 = .ok (.aload_n 0, 1) := by decide +kernel
theorem dX1_digest_265 : decode cX1_digest 265 = .ok (.getfield 10, 3) := by decide +kernel
theorem dX1_digest_268 : decode cX1_digest 268 = .ok (.iload_n 3, 1) := by decide +kernel
theorem dX1_digest_269 : decode cX1_digest 269 = .ok (.bipush 7, 2) := by decide +kernel
theorem dX1_digest_271 : decode cX1_digest 271 = .ok (.imul, 1) := by decide +kernel
theorem dX1_digest_272 : decode cX1_digest 272 = .ok (.invokevirtual 101, 3) := by decide +kernel
theorem dX1_digest_275 : decode cX1_digest 275 = .ok (.i2l, 1) := by decide +kernel
theorem dX1_digest_276 : decode cX1_digest 276 = .ok (.ladd, 1) := by decide +kernel
theorem dX1_digest_277 : decode cX1_digest 277 = .ok (.lstore_n 1, 1) := by decide +kernel
theorem dX1_digest_278 : decode cX1_digest 278 = .ok (.iinc 3 1, 3) := by decide +kernel
theorem dX1_digest_281 : decode cX1_digest 281 = .ok (.goto (-97), 3) := by decide +kernel
theorem dX1_digest_284 : decode cX1_digest 284 = .ok (.lload_n 1, 1) := by decide +kernel
theorem dX1_digest_285 : decode cX1_digest 285 = .ok (.lreturn, 1) := by decide +kernel
theorem dX1_demandNumber_0 : decode cX1_demandNumber 0 = .ok (.iload_n 0, 1) := by decide +kernel
theorem dX1_demandNumber_1 : decode cX1_demandNumber 1 = .ok (.ifCond .lt 10, 3) := by decide +kernel
theorem dX1_demandNumber_4 : decode cX1_demandNumber 4 = .ok (.iload_n 0, 1) := by decide +kernel
theorem dX1_demandNumber_5 : decode cX1_demandNumber 5 = .ok (.sipush 9999, 3) := by decide +kernel
theorem dX1_demandNumber_8 : decode cX1_demandNumber 8 = .ok (.if_icmp .le 13, 3) := by decide +kernel
theorem dX1_demandNumber_11 : decode cX1_demandNumber 11 = .ok (.new 23, 3) := by decide +kernel
theorem dX1_demandNumber_14 : decode cX1_demandNumber 14 = .ok (.dup, 1) := by decide +kernel
theorem dX1_demandNumber_15 : decode cX1_demandNumber 15 = .ok (.ldc 140, 2) := by decide +kernel
theorem dX1_demandNumber_17 : decode cX1_demandNumber 17 = .ok (.invokespecial 27, 3) := by decide +kernel
theorem dX1_demandNumber_20 : decode cX1_demandNumber 20 = .ok (.athrow, 1) := by decide +kernel
theorem dX1_demandNumber_21 : decode cX1_demandNumber 21 = .ok (.return_, 1) := by decide +kernel
theorem dX1_demandHooksAndWay_0 : decode cX1_demandHooksAndWay 0 = .ok (.iload_n 0, 1) := by decide +kernel
theorem dX1_demandHooksAndWay_1 : decode cX1_demandHooksAndWay 1 = .ok (.iconst 3, 1) := by decide +kernel
theorem dX1_demandHooksAndWay_2 : decode cX1_demandHooksAndWay 2 = .ok (.if_icmp .lt 9, 3) := by decide +kernel
theorem dX1_demandHooksAndWay_5 : decode cX1_demandHooksAndWay 5 = .ok (.iload_n 0, 1) := by decide +kernel
theorem dX1_demandHooksAndWay_6 : decode cX1_demandHooksAndWay 6 = .ok (.bipush 40, 2) := by decide +kernel
theorem dX1_demandHooksAndWay_8 : decode cX1_demandHooksAndWay 8 = .ok (.if_icmp .le 13, 3) := by decide +kernel
theorem dX1_demandHooksAndWay_11 : decode cX1_demandHooksAndWay 11 = .ok (.new 23, 3) := by decide +kernel
theorem dX1_demandHooksAndWay_14 : decode cX1_demandHooksAndWay 14 = .ok (.dup, 1) := by decide +kernel
theorem dX1_demandHooksAndWay_15 : decode cX1_demandHooksAndWay 15 = .ok (.ldc 142, 2) := by decide +kernel
theorem dX1_demandHooksAndWay_17 : decode cX1_demandHooksAndWay 17 = .ok (.invokespecial 27, 3) := by decide +kernel
theorem dX1_demandHooksAndWay_20 : decode cX1_demandHooksAndWay 20 = .ok (.athrow, 1) := by decide +kernel
theorem dX1_demandHooksAndWay_21 : decode cX1_demandHooksAndWay 21 = .ok (.iload_n 1, 1) := by decide +kernel
theorem dX1_demandHooksAndWay_22 : decode cX1_demandHooksAndWay 22 = .ok (.ifCond .lt 8, 3) := by decide +kernel
theorem dX1_demandHooksAndWay_25 : decode cX1_demandHooksAndWay 25 = .ok (.iload_n 1, 1) := by decide +kernel
theorem dX1_demandHooksAndWay_26 : decode cX1_demandHooksAndWay 26 = .ok (.iconst 2, 1) := by decide +kernel
theorem dX1_demandHooksAndWay_27 : decode cX1_demandHooksAndWay 27 = .ok (.if_icmp .le 13, 3) := by decide +kernel
theorem dX1_demandHooksAndWay_30 : decode cX1_demandHooksAndWay 30 = .ok (.new 23, 3) := by decide +kernel
theorem dX1_demandHooksAndWay_33 : decode cX1_demandHooksAndWay 33 = .ok (.dup, 1) := by decide +kernel
theorem dX1_demandHooksAndWay_34 : decode cX1_demandHooksAndWay 34 = .ok (.ldc 144, 2) := by decide +kernel
theorem dX1_demandHooksAndWay_36 : decode cX1_demandHooksAndWay 36 = .ok (.invokespecial 27, 3) := by decide +kernel
theorem dX1_demandHooksAndWay_39 : decode cX1_demandHooksAndWay 39 = .ok (.athrow, 1) := by decide +kernel
theorem dX1_demandHooksAndWay_40 : decode cX1_demandHooksAndWay 40 = .ok (.return_, 1) := by decide +kernel
set_option maxRecDepth 20000 in
theorem ggX1_demandHook_X0_hookCount : GoodIn wsX1_demandHook wsX0_hookCount := goodIn_r _ [8, 9, 12, 13, 14, 15] (by decide +kernel) (by decide +kernel)
set_option maxRecDepth 20000 in
theorem gX1_demandHook_X0_hookCount : GoodIn wsX1_demandHook (wsV RX1 74 RX0 yX0_hookCount wsX0_hookCount) := goodIn_app (goodIn_of _ (by decide +kernel)) ggX1_demandHook_X0_hookCount
theorem dX1_demandHook_0 : decode cX1_demandHook 0 = .ok (.iload_n 1, 1) := by decide +kernel
theorem dX1_demandHook_1 : decode cX1_demandHook 1 = .ok (.ifCond .lt 14, 3) := by decide +kernel
theorem dX1_demandHook_4 : decode cX1_demandHook 4 = .ok (.iload_n 1, 1) := by decide +kernel
theorem dX1_demandHook_5 : decode cX1_demandHook 5 = .ok (.aload_n 0, 1) := by decide +kernel
theorem dX1_demandHook_6 : decode cX1_demandHook 6 = .ok (.getfield 10, 3) := by decide +kernel
theorem dX1_demandHook_9 : decode cX1_demandHook 9 = .ok (.invokevirtual 74, 3) := by decide +kernel
theorem dX1_demandHook_12 : decode cX1_demandHook 12 = .ok (.if_icmp .lt 13, 3) := by decide +kernel
theorem dX1_demandHook_15 : decode cX1_demandHook 15 = .ok (.new 146, 3) := by decide +kernel
theorem dX1_demandHook_18 : decode cX1_demandHook 18 = .ok (.dup, 1) := by decide +kernel
theorem dX1_demandHook_19 : decode cX1_demandHook 19 = .ok (.ldc 148, 2) := by decide +kernel
theorem dX1_demandHook_21 : decode cX1_demandHook 21 = .ok (.invokespecial 150, 3) := by decide +kernel
theorem dX1_demandHook_24 : decode cX1_demandHook 24 = .ok (.athrow, 1) := by decide +kernel
theorem dX1_demandHook_25 : decode cX1_demandHook 25 = .ok (.return_, 1) := by decide +kernel
set_option maxRecDepth 20000 in
theorem ggX1_fewestHooks_X0_usherWay : GoodIn wsX1_fewestHooks wsX0_usherWay := goodIn_r _ [6, 7, 64, 65, 66, 67] (by decide +kernel) (by decide +kernel)
set_option maxRecDepth 20000 in
theorem gX1_fewestHooks_X0_usherWay : GoodIn wsX1_fewestHooks (wsV RX1 83 RX0 yX0_usherWay wsX0_usherWay) := goodIn_app (goodIn_of _ (by decide +kernel)) ggX1_fewestHooks_X0_usherWay
set_option maxRecDepth 20000 in
theorem ggX1_fewestHooks_X1_looksOnTrial : GoodIn wsX1_fewestHooks wsX1_looksOnTrial := goodIn_r _ [12, 13, 14, 15, 16, 11, 17, 1, 18, 19, 20, 5, 21, 22, 7, 23, 24, 25, 26, 27, 28, 29, 30, 31, 32, 33, 34, 35, 36, 37, 38, 39, 40, 41, 42, 43, 44, 45, 46, 47, 48, 49, 50, 51, 52, 53, 54, 55, 56, 57, 58, 59, 60, 61, 62, 63, 64, 65, 66, 67] (by decide +kernel) (by decide +kernel)
set_option maxRecDepth 20000 in
theorem gX1_fewestHooks_X1_looksOnTrial : GoodIn wsX1_fewestHooks (wsV RX1 125 RX1 yX1_looksOnTrial wsX1_looksOnTrial) := goodIn_app (goodIn_of _ (by decide +kernel)) ggX1_fewestHooks_X1_looksOnTrial
theorem dX1_fewestHooks_0 : decode cX1_fewestHooks 0 = .ok (.iconst 3, 1) := by decide +kernel
theorem dX1_fewestHooks_1 : decode cX1_fewestHooks 1 = .ok (.istore_n 2, 1) := by decide +kernel
theorem dX1_fewestHooks_2 : decode cX1_fewestHooks 2 = .ok (.iload_n 2, 1) := by decide +kernel
theorem dX1_fewestHooks_3 : decode cX1_fewestHooks 3 = .ok (.bipush 40, 2) := by decide +kernel
theorem dX1_fewestHooks_5 : decode cX1_fewestHooks 5 = .ok (.if_icmp .gt 33, 3) := by decide +kernel
theorem dX1_fewestHooks_8 : decode cX1_fewestHooks 8 = .ok (.aload_n 0, 1) := by decide +kernel
theorem dX1_fewestHooks_9 : decode cX1_fewestHooks 9 = .ok (.iload_n 2, 1) := by decide +kernel
theorem dX1_fewestHooks_10 : decode cX1_fewestHooks 10 = .ok (.aload_n 0, 1) := by decide +kernel
theorem dX1_fewestHooks_11 : decode cX1_fewestHooks 11 = .ok (.getfield 10, 3) := by decide +kernel
theorem dX1_fewestHooks_14 : decode cX1_fewestHooks 14 = .ok (.invokevirtual 83, 3) := by decide +kernel
theorem dX1_fewestHooks_17 : decode cX1_fewestHooks 17 = .ok (.invokevirtual 125, 3) := by decide +kernel
theorem dX1_fewestHooks_20 : decode cX1_fewestHooks 20 = .ok (.istore_n 3, 1) := by decide +kernel
theorem dX1_fewestHooks_21 : decode cX1_fewestHooks 21 = .ok (.iload_n 3, 1) := by decide +kernel
theorem dX1_fewestHooks_22 : decode cX1_fewestHooks 22 = .ok (.ifCond .lt 10, 3) := by decide +kernel
theorem dX1_fewestHooks_25 : decode cX1_fewestHooks 25 = .ok (.iload_n 3, 1) := by decide +kernel
theorem dX1_fewestHooks_26 : decode cX1_fewestHooks 26 = .ok (.iload_n 1, 1) := by decide +kernel
theorem dX1_fewestHooks_27 : decode cX1_fewestHooks 27 = .ok (.if_icmp .gt 5, 3) := by decide +kernel
theorem dX1_fewestHooks_30 : decode cX1_fewestHooks 30 = .ok (.iload_n 2, 1) := by decide +kernel
theorem dX1_fewestHooks_31 : decode cX1_fewestHooks 31 = .ok (.ireturn, 1) := by decide +kernel
theorem dX1_fewestHooks_32 : decode cX1_fewestHooks 32 = .ok (.iinc 2 1, 3) := by decide +kernel
theorem dX1_fewestHooks_35 : decode cX1_fewestHooks 35 = .ok (.goto (-33), 3) := by decide +kernel
theorem dX1_fewestHooks_38 : decode cX1_fewestHooks 38 = .ok (.iconst (-1), 1) := by decide +kernel
theorem dX1_fewestHooks_39 : decode cX1_fewestHooks 39 = .ok (.ireturn, 1) := by decide +kernel
set_option maxRecDepth 20000 in
theorem ggX1_looksOnTrial_X1_hangAnewOnTrial : GoodIn wsX1_looksOnTrial wsX1_hangAnewOnTrial := goodIn_r _ [6, 1, 7, 8, 9, 10, 11, 12, 13, 14, 15, 16, 17, 18, 19, 20, 21, 22, 23, 24, 25, 26, 27, 28, 29, 30, 31, 32, 33, 34, 35, 36, 37, 38, 39, 40, 41, 42, 43, 44, 45, 46, 47, 48, 49, 54, 55, 56, 57, 58, 59] (by decide +kernel) (by decide +kernel)
set_option maxRecDepth 20000 in
theorem gX1_looksOnTrial_X1_hangAnewOnTrial : GoodIn wsX1_looksOnTrial (wsV RX1 58 RX1 yX1_hangAnewOnTrial wsX1_hangAnewOnTrial) := goodIn_app (goodIn_of _ (by decide +kernel)) ggX1_looksOnTrial_X1_hangAnewOnTrial
set_option maxRecDepth 20000 in
theorem ggX1_looksOnTrial_X0_looksForAll : GoodIn wsX1_looksOnTrial wsX0_looksForAll := goodIn_r _ [53, 13, 29, 30, 31, 11, 32, 15, 37, 38, 39, 40, 41, 42, 43, 44, 14, 56, 57, 58, 59] (by decide +kernel) (by decide +kernel)
set_option maxRecDepth 20000 in
theorem gX1_looksOnTrial_X0_looksForAll : GoodIn wsX1_looksOnTrial (wsV RX1 110 RX0 yX0_looksForAll wsX0_looksForAll) := goodIn_app (goodIn_of _ (by decide +kernel)) ggX1_looksOnTrial_X0_looksForAll
theorem dX1_looksOnTrial_0 : decode cX1_looksOnTrial 0 = .ok (.aload_n 0, 1) := by decide +kernel
theorem dX1_looksOnTrial_1 : decode cX1_looksOnTrial 1 = .ok (.iload_n 1, 1) := by decide +kernel
theorem dX1_looksOnTrial_2 : decode cX1_looksOnTrial 2 = .ok (.iload_n 2, 1) := by decide +kernel
theorem dX1_looksOnTrial_3 : decode cX1_looksOnTrial 3 = .ok (.invokevirtual 58, 3) := by decide +kernel
theorem dX1_looksOnTrial_6 : decode cX1_looksOnTrial 6 = .ok (.ifCond .eq 13, 3) := by decide +kernel
theorem dX1_looksOnTrial_9 : decode cX1_looksOnTrial 9 = .ok (.aload_n 0, 1) := by decide +kernel
theorem dX1_looksOnTrial_10 : decode cX1_looksOnTrial 10 = .ok (.getfield 16, 3) := by decide +kernel
theorem dX1_looksOnTrial_13 : decode cX1_looksOnTrial 13 = .ok (.invokevirtual 110, 3) := by decide +kernel
theorem dX1_looksOnTrial_16 : decode cX1_looksOnTrial 16 = .ok (.goto 4, 3) := by decide +kernel
theorem dX1_looksOnTrial_19 : decode cX1_looksOnTrial 19 = .ok (.iconst (-1), 1) := by decide +kernel
theorem dX1_looksOnTrial_20 : decode cX1_looksOnTrial 20 = .ok (.ireturn, 1) := by decide +kernel
set_option maxRecDepth 20000 in
theorem ggX1_hangAnewOnTrial_X0_clear : GoodIn wsX1_hangAnewOnTrial wsX0_clear := goodIn_r _ [7, 8, 9, 10, 11, 12, 13, 6, 14, 15, 47, 48, 49, 50] (by decide +kernel) (by decide +kernel)
set_option maxRecDepth 20000 in
theorem gX1_hangAnewOnTrial_X0_clear : GoodIn wsX1_hangAnewOnTrial (wsV RX1 151 RX0 yX0_clear wsX0_clear) := goodIn_app (goodIn_of _ (by decide +kernel)) ggX1_hangAnewOnTrial_X0_clear
set_option maxRecDepth 20000 in
theorem ggX1_hangAnewOnTrial_X0_hookCount : GoodIn wsX1_hangAnewOnTrial wsX0_hookCount := goodIn_r _ [19, 8, 47, 48, 49, 50] (by decide +kernel) (by decide +kernel)
set_option maxRecDepth 20000 in
theorem gX1_hangAnewOnTrial_X0_hookCount : GoodIn wsX1_hangAnewOnTrial (wsV RX1 74 RX0 yX0_hookCount wsX0_hookCount) := goodIn_app (goodIn_of _ (by decide +kernel)) ggX1_hangAnewOnTrial_X0_hookCount
set_option maxRecDepth 20000 in
theorem ggX1_hangAnewOnTrial_X0_coatOn : GoodIn wsX1_hangAnewOnTrial wsX0_coatOn := goodIn_r _ [23, 24, 25, 26, 6, 27, 8, 10, 47, 48, 49, 50] (by decide +kernel) (by decide +kernel)
set_option maxRecDepth 20000 in
theorem gX1_hangAnewOnTrial_X0_coatOn : GoodIn wsX1_hangAnewOnTrial (wsV RX1 92 RX0 yX0_coatOn wsX0_coatOn) := goodIn_app (goodIn_of _ (by decide +kernel)) ggX1_hangAnewOnTrial_X0_coatOn
set_option maxRecDepth 20000 in
theorem ggX1_hangAnewOnTrial_X0_openHook : GoodIn wsX1_hangAnewOnTrial wsX0_openHook := goodIn_r _ [31, 32, 33, 34, 6, 35, 8, 36, 37, 38, 39, 9, 24, 25, 26, 27, 10, 47, 48, 49, 50] (by decide +kernel) (by decide +kernel)
set_option maxRecDepth 20000 in
theorem gX1_hangAnewOnTrial_X0_openHook : GoodIn wsX1_hangAnewOnTrial (wsV RX1 154 RX0 yX0_openHook wsX0_openHook) := goodIn_app (goodIn_of _ (by decide +kernel)) ggX1_hangAnewOnTrial_X0_openHook
set_option maxRecDepth 20000 in
theorem ggX1_hangAnewOnTrial_X0_weightOn : GoodIn wsX1_hangAnewOnTrial wsX0_weightOn := goodIn_r _ [43, 8, 15, 47, 48, 49, 50] (by decide +kernel) (by decide +kernel)
set_option maxRecDepth 20000 in
theorem gX1_hangAnewOnTrial_X0_weightOn : GoodIn wsX1_hangAnewOnTrial (wsV RX1 48 RX0 yX0_weightOn wsX0_weightOn) := goodIn_app (goodIn_of _ (by decide +kernel)) ggX1_hangAnewOnTrial_X0_weightOn
set_option maxRecDepth 20000 in
theorem ggX1_hangAnewOnTrial_X0_put : GoodIn wsX1_hangAnewOnTrial wsX0_put := goodIn_r _ [14, 10, 15, 47, 48, 49, 50] (by decide +kernel) (by decide +kernel)
set_option maxRecDepth 20000 in
theorem gX1_hangAnewOnTrial_X0_put : GoodIn wsX1_hangAnewOnTrial (wsV RX1 39 RX0 yX0_put wsX0_put) := goodIn_app (goodIn_of _ (by decide +kernel)) ggX1_hangAnewOnTrial_X0_put
theorem dX1_hangAnewOnTrial_0 : decode cX1_hangAnewOnTrial 0 = .ok (.aload_n 0, 1) := by decide +kernel
theorem dX1_hangAnewOnTrial_1 : decode cX1_hangAnewOnTrial 1 = .ok (.getfield 16, 3) := by decide +kernel
theorem dX1_hangAnewOnTrial_4 : decode cX1_hangAnewOnTrial 4 = .ok (.iload_n 1, 1) := by decide +kernel
theorem dX1_hangAnewOnTrial_5 : decode cX1_hangAnewOnTrial 5 = .ok (.iload_n 2, 1) := by decide +kernel
theorem dX1_hangAnewOnTrial_6 : decode cX1_hangAnewOnTrial 6 = .ok (.invokevirtual 151, 3) := by decide +kernel
theorem dX1_hangAnewOnTrial_9 : decode cX1_hangAnewOnTrial 9 = .ok (.iconst 0, 1) := by decide +kernel
theorem dX1_hangAnewOnTrial_10 : decode cX1_hangAnewOnTrial 10 = .ok (.istore_n 3, 1) := by decide +kernel
theorem dX1_hangAnewOnTrial_11 : decode cX1_hangAnewOnTrial 11 = .ok (.iload_n 3, 1) := by decide +kernel
theorem dX1_hangAnewOnTrial_12 : decode cX1_hangAnewOnTrial 12 = .ok (.aload_n 0, 1) := by decide +kernel
theorem dX1_hangAnewOnTrial_13 : decode cX1_hangAnewOnTrial 13 = .ok (.getfield 10, 3) := by decide +kernel
theorem dX1_hangAnewOnTrial_16 : decode cX1_hangAnewOnTrial 16 = .ok (.invokevirtual 74, 3) := by decide +kernel
theorem dX1_hangAnewOnTrial_19 : decode cX1_hangAnewOnTrial 19 = .ok (.if_icmp .ge 63, 3) := by decide +kernel
theorem dX1_hangAnewOnTrial_22 : decode cX1_hangAnewOnTrial 22 = .ok (.aload_n 0, 1) := by decide +kernel
theorem dX1_hangAnewOnTrial_23 : decode cX1_hangAnewOnTrial 23 = .ok (.getfield 10, 3) := by decide +kernel
theorem dX1_hangAnewOnTrial_26 : decode cX1_hangAnewOnTrial 26 = .ok (.iload_n 3, 1) := by decide +kernel
theorem dX1_hangAnewOnTrial_27 : decode cX1_hangAnewOnTrial 27 = .ok (.invokevirtual 92, 3) := by decide +kernel
theorem dX1_hangAnewOnTrial_30 : decode cX1_hangAnewOnTrial 30 = .ok (.istore 4, 2) := by decide +kernel
theorem dX1_hangAnewOnTrial_32 : decode cX1_hangAnewOnTrial 32 = .ok (.iload 4, 2) := by decide +kernel
theorem dX1_hangAnewOnTrial_34 : decode cX1_hangAnewOnTrial 34 = .ok (.iconst (-1), 1) := by decide +kernel
theorem dX1_hangAnewOnTrial_35 : decode cX1_hangAnewOnTrial 35 = .ok (.if_icmp .eq 41, 3) := by decide +kernel
theorem dX1_hangAnewOnTrial_38 : decode cX1_hangAnewOnTrial 38 = .ok (.aload_n 0, 1) := by decide +kernel
theorem dX1_hangAnewOnTrial_39 : decode cX1_hangAnewOnTrial 39 = .ok (.getfield 16, 3) := by decide +kernel
theorem dX1_hangAnewOnTrial_42 : decode cX1_hangAnewOnTrial 42 = .ok (.iload 4, 2) := by decide +kernel
theorem dX1_hangAnewOnTrial_44 : decode cX1_hangAnewOnTrial 44 = .ok (.invokevirtual 154, 3) := by decide +kernel
theorem dX1_hangAnewOnTrial_47 : decode cX1_hangAnewOnTrial 47 = .ok (.istore 5, 2) := by decide +kernel
theorem dX1_hangAnewOnTrial_49 : decode cX1_hangAnewOnTrial 49 = .ok (.iload 5, 2) := by decide +kernel
theorem dX1_hangAnewOnTrial_51 : decode cX1_hangAnewOnTrial 51 = .ok (.iconst (-1), 1) := by decide +kernel
theorem dX1_hangAnewOnTrial_52 : decode cX1_hangAnewOnTrial 52 = .ok (.if_icmp .ne 5, 3) := by decide +kernel
theorem dX1_hangAnewOnTrial_55 : decode cX1_hangAnewOnTrial 55 = .ok (.iconst 0, 1) := by decide +kernel
theorem dX1_hangAnewOnTrial_56 : decode cX1_hangAnewOnTrial 56 = .ok (.ireturn, 1) := by decide +kernel
theorem dX1_hangAnewOnTrial_57 : decode cX1_hangAnewOnTrial 57 = .ok (.aload_n 0, 1) := by decide +kernel
theorem dX1_hangAnewOnTrial_58 : decode cX1_hangAnewOnTrial 58 = .ok (.getfield 16, 3) := by decide +kernel
theorem dX1_hangAnewOnTrial_61 : decode cX1_hangAnewOnTrial 61 = .ok (.iload 5, 2) := by decide +kernel
theorem dX1_hangAnewOnTrial_63 : decode cX1_hangAnewOnTrial 63 = .ok (.iload 4, 2) := by decide +kernel
theorem dX1_hangAnewOnTrial_65 : decode cX1_hangAnewOnTrial 65 = .ok (.aload_n 0, 1) := by decide +kernel
theorem dX1_hangAnewOnTrial_66 : decode cX1_hangAnewOnTrial 66 = .ok (.getfield 10, 3) := by decide +kernel
theorem dX1_hangAnewOnTrial_69 : decode cX1_hangAnewOnTrial 69 = .ok (.iload_n 3, 1) := by decide +kernel
theorem dX1_hangAnewOnTrial_70 : decode cX1_hangAnewOnTrial 70 = .ok (.invokevirtual 48, 3) := by decide +kernel
theorem dX1_hangAnewOnTrial_73 : decode cX1_hangAnewOnTrial 73 = .ok (.invokevirtual 39, 3) := by decide +kernel
theorem dX1_hangAnewOnTrial_76 : decode cX1_hangAnewOnTrial 76 = .ok (.iinc 3 1, 3) := by decide +kernel
theorem dX1_hangAnewOnTrial_79 : decode cX1_hangAnewOnTrial 79 = .ok (.goto (-68), 3) := by decide +kernel
theorem dX1_hangAnewOnTrial_82 : decode cX1_hangAnewOnTrial 82 = .ok (.iconst 1, 1) := by decide +kernel
theorem dX1_hangAnewOnTrial_83 : decode cX1_hangAnewOnTrial 83 = .ok (.ireturn, 1) := by decide +kernel
set_option maxRecDepth 20000 in
theorem ggX1_coatsMovedOnTrial_X0_hookCount : GoodIn wsX1_coatsMovedOnTrial wsX0_hookCount := goodIn_r _ [7, 8, 20, 21, 22, 23] (by decide +kernel) (by decide +kernel)
set_option maxRecDepth 20000 in
theorem gX1_coatsMovedOnTrial_X0_hookCount : GoodIn wsX1_coatsMovedOnTrial (wsV RX1 74 RX0 yX0_hookCount wsX0_hookCount) := goodIn_app (goodIn_of _ (by decide +kernel)) ggX1_coatsMovedOnTrial_X0_hookCount
set_option maxRecDepth 20000 in
theorem ggX1_coatsMovedOnTrial_X0_coatOn : GoodIn wsX1_coatsMovedOnTrial wsX0_coatOn := goodIn_r _ [12, 13, 14, 15, 6, 16, 8, 17, 20, 21, 22, 23] (by decide +kernel) (by decide +kernel)
set_option maxRecDepth 20000 in
theorem gX1_coatsMovedOnTrial_X0_coatOn : GoodIn wsX1_coatsMovedOnTrial (wsV RX1 92 RX0 yX0_coatOn wsX0_coatOn) := goodIn_app (goodIn_of _ (by decide +kernel)) ggX1_coatsMovedOnTrial_X0_coatOn
theorem dX1_coatsMovedOnTrial_0 : decode cX1_coatsMovedOnTrial 0 = .ok (.iconst 0, 1) := by decide +kernel
theorem dX1_coatsMovedOnTrial_1 : decode cX1_coatsMovedOnTrial 1 = .ok (.istore_n 1, 1) := by decide +kernel
theorem dX1_coatsMovedOnTrial_2 : decode cX1_coatsMovedOnTrial 2 = .ok (.iconst 0, 1) := by decide +kernel
theorem dX1_coatsMovedOnTrial_3 : decode cX1_coatsMovedOnTrial 3 = .ok (.istore_n 2, 1) := by decide +kernel
theorem dX1_coatsMovedOnTrial_4 : decode cX1_coatsMovedOnTrial 4 = .ok (.iload_n 2, 1) := by decide +kernel
theorem dX1_coatsMovedOnTrial_5 : decode cX1_coatsMovedOnTrial 5 = .ok (.aload_n 0, 1) := by decide +kernel
theorem dX1_coatsMovedOnTrial_6 : decode cX1_coatsMovedOnTrial 6 = .ok (.getfield 16, 3) := by decide +kernel
theorem dX1_coatsMovedOnTrial_9 : decode cX1_coatsMovedOnTrial 9 = .ok (.invokevirtual 74, 3) := by decide +kernel
theorem dX1_coatsMovedOnTrial_12 : decode cX1_coatsMovedOnTrial 12 = .ok (.if_icmp .ge 38, 3) := by decide +kernel
theorem dX1_coatsMovedOnTrial_15 : decode cX1_coatsMovedOnTrial 15 = .ok (.aload_n 0, 1) := by decide +kernel
theorem dX1_coatsMovedOnTrial_16 : decode cX1_coatsMovedOnTrial 16 = .ok (.getfield 16, 3) := by decide +kernel
theorem dX1_coatsMovedOnTrial_19 : decode cX1_coatsMovedOnTrial 19 = .ok (.iload_n 2, 1) := by decide +kernel
theorem dX1_coatsMovedOnTrial_20 : decode cX1_coatsMovedOnTrial 20 = .ok (.invokevirtual 92, 3) := by decide +kernel
theorem dX1_coatsMovedOnTrial_23 : decode cX1_coatsMovedOnTrial 23 = .ok (.istore_n 3, 1) := by decide +kernel
theorem dX1_coatsMovedOnTrial_24 : decode cX1_coatsMovedOnTrial 24 = .ok (.iload_n 3, 1) := by decide +kernel
theorem dX1_coatsMovedOnTrial_25 : decode cX1_coatsMovedOnTrial 25 = .ok (.iconst (-1), 1) := by decide +kernel
theorem dX1_coatsMovedOnTrial_26 : decode cX1_coatsMovedOnTrial 26 = .ok (.if_icmp .eq 18, 3) := by decide +kernel
theorem dX1_coatsMovedOnTrial_29 : decode cX1_coatsMovedOnTrial 29 = .ok (.aload_n 0, 1) := by decide +kernel
theorem dX1_coatsMovedOnTrial_30 : decode cX1_coatsMovedOnTrial 30 = .ok (.getfield 10, 3) := by decide +kernel
theorem dX1_coatsMovedOnTrial_33 : decode cX1_coatsMovedOnTrial 33 = .ok (.iload_n 2, 1) := by decide +kernel
theorem dX1_coatsMovedOnTrial_34 : decode cX1_coatsMovedOnTrial 34 = .ok (.invokevirtual 92, 3) := by decide +kernel
theorem dX1_coatsMovedOnTrial_37 : decode cX1_coatsMovedOnTrial 37 = .ok (.iload_n 3, 1) := by decide +kernel
theorem dX1_coatsMovedOnTrial_38 : decode cX1_coatsMovedOnTrial 38 = .ok (.if_icmp .eq 6, 3) := by decide +kernel
theorem dX1_coatsMovedOnTrial_41 : decode cX1_coatsMovedOnTrial 41 = .ok (.iinc 1 1, 3) := by decide +kernel
theorem dX1_coatsMovedOnTrial_44 : decode cX1_coatsMovedOnTrial 44 = .ok (.iinc 2 1, 3) := by decide +kernel
theorem dX1_coatsMovedOnTrial_47 : decode cX1_coatsMovedOnTrial 47 = .ok (.goto (-43), 3) := by decide +kernel
theorem dX1_coatsMovedOnTrial_50 : decode cX1_coatsMovedOnTrial 50 = .ok (.iload_n 1, 1) := by decide +kernel
theorem dX1_coatsMovedOnTrial_51 : decode cX1_coatsMovedOnTrial 51 = .ok (.ireturn, 1) := by decide +kernel
set_option maxRecDepth 20000 in
theorem ggX1_takeOverTrial_X0_hookCount : GoodIn wsX1_takeOverTrial wsX0_hookCount := goodIn_r _ [7, 8, 39, 40, 41, 42] (by decide +kernel) (by decide +kernel)
set_option maxRecDepth 20000 in
theorem gX1_takeOverTrial_X0_hookCount : GoodIn wsX1_takeOverTrial (wsV RX1 74 RX0 yX0_hookCount wsX0_hookCount) := goodIn_app (goodIn_of _ (by decide +kernel)) ggX1_takeOverTrial_X0_hookCount
set_option maxRecDepth 20000 in
theorem ggX1_takeOverTrial_X0_usherWay : GoodIn wsX1_takeOverTrial wsX0_usherWay := goodIn_r _ [12, 13, 39, 40, 41, 42] (by decide +kernel) (by decide +kernel)
set_option maxRecDepth 20000 in
theorem gX1_takeOverTrial_X0_usherWay : GoodIn wsX1_takeOverTrial (wsV RX1 83 RX0 yX0_usherWay wsX0_usherWay) := goodIn_app (goodIn_of _ (by decide +kernel)) ggX1_takeOverTrial_X0_usherWay
set_option maxRecDepth 20000 in
theorem ggX1_takeOverTrial_X0_clear : GoodIn wsX1_takeOverTrial wsX0_clear := goodIn_r _ [17, 8, 13, 18, 19, 20, 21, 6, 22, 23, 39, 40, 41, 42] (by decide +kernel) (by decide +kernel)
set_option maxRecDepth 20000 in
theorem gX1_takeOverTrial_X0_clear : GoodIn wsX1_takeOverTrial (wsV RX1 151 RX0 yX0_clear wsX0_clear) := goodIn_app (goodIn_of _ (by decide +kernel)) ggX1_takeOverTrial_X0_clear
set_option maxRecDepth 20000 in
theorem ggX1_takeOverTrial_X0_coatOn : GoodIn wsX1_takeOverTrial wsX0_coatOn := goodIn_r _ [27, 28, 29, 30, 6, 31, 8, 18, 39, 40, 41, 42] (by decide +kernel) (by decide +kernel)
set_option maxRecDepth 20000 in
theorem gX1_takeOverTrial_X0_coatOn : GoodIn wsX1_takeOverTrial (wsV RX1 92 RX0 yX0_coatOn wsX0_coatOn) := goodIn_app (goodIn_of _ (by decide +kernel)) ggX1_takeOverTrial_X0_coatOn
set_option maxRecDepth 20000 in
theorem ggX1_takeOverTrial_X0_weightOn : GoodIn wsX1_takeOverTrial wsX0_weightOn := goodIn_r _ [35, 8, 23, 39, 40, 41, 42] (by decide +kernel) (by decide +kernel)
set_option maxRecDepth 20000 in
theorem gX1_takeOverTrial_X0_weightOn : GoodIn wsX1_takeOverTrial (wsV RX1 48 RX0 yX0_weightOn wsX0_weightOn) := goodIn_app (goodIn_of _ (by decide +kernel)) ggX1_takeOverTrial_X0_weightOn
set_option maxRecDepth 20000 in
theorem ggX1_takeOverTrial_X0_put : GoodIn wsX1_takeOverTrial wsX0_put := goodIn_r _ [22, 18, 23, 39, 40, 41, 42] (by decide +kernel) (by decide +kernel)
set_option maxRecDepth 20000 in
theorem gX1_takeOverTrial_X0_put : GoodIn wsX1_takeOverTrial (wsV RX1 39 RX0 yX0_put wsX0_put) := goodIn_app (goodIn_of _ (by decide +kernel)) ggX1_takeOverTrial_X0_put
theorem dX1_takeOverTrial_0 : decode cX1_takeOverTrial 0 = .ok (.aload_n 0, 1) := by decide +kernel
theorem dX1_takeOverTrial_1 : decode cX1_takeOverTrial 1 = .ok (.getfield 10, 3) := by decide +kernel
theorem dX1_takeOverTrial_4 : decode cX1_takeOverTrial 4 = .ok (.aload_n 0, 1) := by decide +kernel
theorem dX1_takeOverTrial_5 : decode cX1_takeOverTrial 5 = .ok (.getfield 16, 3) := by decide +kernel
theorem dX1_takeOverTrial_8 : decode cX1_takeOverTrial 8 = .ok (.invokevirtual 74, 3) := by decide +kernel
theorem dX1_takeOverTrial_11 : decode cX1_takeOverTrial 11 = .ok (.aload_n 0, 1) := by decide +kernel
theorem dX1_takeOverTrial_12 : decode cX1_takeOverTrial 12 = .ok (.getfield 16, 3) := by decide +kernel
theorem dX1_takeOverTrial_15 : decode cX1_takeOverTrial 15 = .ok (.invokevirtual 83, 3) := by decide +kernel
theorem dX1_takeOverTrial_18 : decode cX1_takeOverTrial 18 = .ok (.invokevirtual 151, 3) := by decide +kernel
theorem dX1_takeOverTrial_21 : decode cX1_takeOverTrial 21 = .ok (.iconst 0, 1) := by decide +kernel
theorem dX1_takeOverTrial_22 : decode cX1_takeOverTrial 22 = .ok (.istore_n 1, 1) := by decide +kernel
theorem dX1_takeOverTrial_23 : decode cX1_takeOverTrial 23 = .ok (.iload_n 1, 1) := by decide +kernel
theorem dX1_takeOverTrial_24 : decode cX1_takeOverTrial 24 = .ok (.aload_n 0, 1) := by decide +kernel
theorem dX1_takeOverTrial_25 : decode cX1_takeOverTrial 25 = .ok (.getfield 16, 3) := by decide +kernel
theorem dX1_takeOverTrial_28 : decode cX1_takeOverTrial 28 = .ok (.invokevirtual 74, 3) := by decide +kernel
theorem dX1_takeOverTrial_31 : decode cX1_takeOverTrial 31 = .ok (.if_icmp .ge 40, 3) := by decide +kernel
theorem dX1_takeOverTrial_34 : decode cX1_takeOverTrial 34 = .ok (.aload_n 0, 1) := by decide +kernel
theorem dX1_takeOverTrial_35 : decode cX1_takeOverTrial 35 = .ok (.getfield 16, 3) := by decide +kernel
theorem dX1_takeOverTrial_38 : decode cX1_takeOverTrial 38 = .ok (.iload_n 1, 1) := by decide +kernel
theorem dX1_takeOverTrial_39 : decode cX1_takeOverTrial 39 = .ok (.invokevirtual 92, 3) := by decide +kernel
theorem dX1_takeOverTrial_42 : decode cX1_takeOverTrial 42 = .ok (.istore_n 2, 1) := by decide +kernel
theorem dX1_takeOverTrial_43 : decode cX1_takeOverTrial 43 = .ok (.iload_n 2, 1) := by decide +kernel
theorem dX1_takeOverTrial_44 : decode cX1_takeOverTrial 44 = .ok (.iconst (-1), 1) := by decide +kernel
theorem dX1_takeOverTrial_45 : decode cX1_takeOverTrial 45 = .ok (.if_icmp .eq 20, 3) := by decide +kernel
theorem dX1_takeOverTrial_48 : decode cX1_takeOverTrial 48 = .ok (.aload_n 0, 1) := by decide +kernel
theorem dX1_takeOverTrial_49 : decode cX1_takeOverTrial 49 = .ok (.getfield 10, 3) := by decide +kernel
theorem dX1_takeOverTrial_52 : decode cX1_takeOverTrial 52 = .ok (.iload_n 1, 1) := by decide +kernel
theorem dX1_takeOverTrial_53 : decode cX1_takeOverTrial 53 = .ok (.iload_n 2, 1) := by decide +kernel
theorem dX1_takeOverTrial_54 : decode cX1_takeOverTrial 54 = .ok (.aload_n 0, 1) := by decide +kernel
theorem dX1_takeOverTrial_55 : decode cX1_takeOverTrial 55 = .ok (.getfield 16, 3) := by decide +kernel
theorem dX1_takeOverTrial_58 : decode cX1_takeOverTrial 58 = .ok (.iload_n 1, 1) := by decide +kernel
theorem dX1_takeOverTrial_59 : decode cX1_takeOverTrial 59 = .ok (.invokevirtual 48, 3) := by decide +kernel
theorem dX1_takeOverTrial_62 : decode cX1_takeOverTrial 62 = .ok (.invokevirtual 39, 3) := by decide +kernel
theorem dX1_takeOverTrial_65 : decode cX1_takeOverTrial 65 = .ok (.iinc 1 1, 3) := by decide +kernel
theorem dX1_takeOverTrial_68 : decode cX1_takeOverTrial 68 = .ok (.goto (-45), 3) := by decide +kernel
theorem dX1_takeOverTrial_71 : decode cX1_takeOverTrial 71 = .ok (.return_, 1) := by decide +kernel
