theorem dX0_init_0 : decode cX0_init 0 = .ok (.aload_n 0, 1) := by decide +kernel
theorem dX0_init_1 : decode cX0_init 1 = .ok (.invokespecial 3, 3) := by decide +kernel
theorem dX0_init_4 : decode cX0_init 4 = .ok (.aload_n 0, 1) := by decide +kernel
theorem dX0_init_5 : decode cX0_init 5 = .ok (.bipush 40, 2) := by decide +kernel
theorem dX0_init_7 : decode cX0_init 7 = .ok (.newarray .int, 2) := by decide +kernel
theorem dX0_init_9 : decode cX0_init 9 = .ok (.putfield 9, 3) := by decide +kernel
theorem dX0_init_12 : decode cX0_init 12 = .ok (.aload_n 0, 1) := by decide +kernel
theorem dX0_init_13 : decode cX0_init 13 = .ok (.bipush 40, 2) := by decide +kernel
theorem dX0_init_15 : decode cX0_init 15 = .ok (.newarray .int, 2) := by decide +kernel
theorem dX0_init_17 : decode cX0_init 17 = .ok (.putfield 15, 3) := by decide +kernel
theorem dX0_init_20 : decode cX0_init 20 = .ok (.aload_n 0, 1) := by decide +kernel
theorem dX0_init_21 : decode cX0_init 21 = .ok (.bipush 8, 2) := by decide +kernel
theorem dX0_init_23 : decode cX0_init 23 = .ok (.iconst 0, 1) := by decide +kernel
theorem dX0_init_24 : decode cX0_init 24 = .ok (.invokevirtual 18, 3) := by decide +kernel
theorem dX0_init_27 : decode cX0_init 27 = .ok (.return_, 1) := by decide +kernel
set_option maxRecDepth 20000 in
theorem ggX0_clear_X0_put : GoodIn wsX0_clear wsX0_put := goodIn_r _ [8, 3, 9, 10, 11, 12, 13] (by decide +kernel) (by decide +kernel)
set_option maxRecDepth 20000 in
theorem gX0_clear_X0_put : GoodIn wsX0_clear (wsV RX0 29 RX0 yX0_put wsX0_put) := goodIn_app (goodIn_of _ (by decide +kernel)) ggX0_clear_X0_put
theorem dX0_clear_0 : decode cX0_clear 0 = .ok (.aload_n 0, 1) := by decide +kernel
theorem dX0_clear_1 : decode cX0_clear 1 = .ok (.iload_n 1, 1) := by decide +kernel
theorem dX0_clear_2 : decode cX0_clear 2 = .ok (.putfield 22, 3) := by decide +kernel
theorem dX0_clear_5 : decode cX0_clear 5 = .ok (.aload_n 0, 1) := by decide +kernel
theorem dX0_clear_6 : decode cX0_clear 6 = .ok (.iload_n 2, 1) := by decide +kernel
theorem dX0_clear_7 : decode cX0_clear 7 = .ok (.putfield 26, 3) := by decide +kernel
theorem dX0_clear_10 : decode cX0_clear 10 = .ok (.iconst 0, 1) := by decide +kernel
theorem dX0_clear_11 : decode cX0_clear 11 = .ok (.istore_n 3, 1) := by decide +kernel
theorem dX0_clear_12 : decode cX0_clear 12 = .ok (.iload_n 3, 1) := by decide +kernel
theorem dX0_clear_13 : decode cX0_clear 13 = .ok (.aload_n 0, 1) := by decide +kernel
theorem dX0_clear_14 : decode cX0_clear 14 = .ok (.getfield 9, 3) := by decide +kernel
theorem dX0_clear_17 : decode cX0_clear 17 = .ok (.arraylength, 1) := by decide +kernel
theorem dX0_clear_18 : decode cX0_clear 18 = .ok (.if_icmp .ge 16, 3) := by decide +kernel
theorem dX0_clear_21 : decode cX0_clear 21 = .ok (.aload_n 0, 1) := by decide +kernel
theorem dX0_clear_22 : decode cX0_clear 22 = .ok (.iload_n 3, 1) := by decide +kernel
theorem dX0_clear_23 : decode cX0_clear 23 = .ok (.iconst (-1), 1) := by decide +kernel
theorem dX0_clear_24 : decode cX0_clear 24 = .ok (.iconst 0, 1) := by decide +kernel
theorem dX0_clear_25 : decode cX0_clear 25 = .ok (.invokevirtual 29, 3) := by decide +kernel
theorem dX0_clear_28 : decode cX0_clear 28 = .ok (.iinc 3 1, 3) := by decide +kernel
theorem dX0_clear_31 : decode cX0_clear 31 = .ok (.goto (-19), 3) := by decide +kernel
theorem dX0_clear_34 : decode cX0_clear 34 = .ok (.return_, 1) := by decide +kernel
set_option maxRecDepth 20000 in
theorem ggX0_leaveTicket_X0_put : GoodIn wsX0_leaveTicket wsX0_put := goodIn_r _ [5, 6, 7, 8, 9, 10, 11] (by decide +kernel) (by decide +kernel)
set_option maxRecDepth 20000 in
theorem gX0_leaveTicket_X0_put : GoodIn wsX0_leaveTicket (wsV RX0 29 RX0 yX0_put wsX0_put) := goodIn_app (goodIn_of _ (by decide +kernel)) ggX0_leaveTicket_X0_put
theorem dX0_leaveTicket_0 : decode cX0_leaveTicket 0 = .ok (.aload_n 0, 1) := by decide +kernel
theorem dX0_leaveTicket_1 : decode cX0_leaveTicket 1 = .ok (.iload_n 1, 1) := by decide +kernel
theorem dX0_leaveTicket_2 : decode cX0_leaveTicket 2 = .ok (.bipush (-2), 2) := by decide +kernel
theorem dX0_leaveTicket_4 : decode cX0_leaveTicket 4 = .ok (.iconst 0, 1) := by decide +kernel
theorem dX0_leaveTicket_5 : decode cX0_leaveTicket 5 = .ok (.invokevirtual 29, 3) := by decide +kernel
theorem dX0_leaveTicket_8 : decode cX0_leaveTicket 8 = .ok (.return_, 1) := by decide +kernel
theorem dX0_put_0 : decode cX0_put 0 = .ok (.iload_n 1, 1) := by decide +kernel
theorem dX0_put_1 : decode cX0_put 1 = .ok (.ifCond .lt 35, 3) := by decide +kernel
theorem dX0_put_4 : decode cX0_put 4 = .ok (.iload_n 1, 1) := by decide +kernel
theorem dX0_put_5 : decode cX0_put 5 = .ok (.aload_n 0, 1) := by decide +kernel
theorem dX0_put_6 : decode cX0_put 6 = .ok (.getfield 9, 3) := by decide +kernel
theorem dX0_put_9 : decode cX0_put 9 = .ok (.arraylength, 1) := by decide +kernel
theorem dX0_put_10 : decode cX0_put 10 = .ok (.if_icmp .ge 26, 3) := by decide +kernel
theorem dX0_put_13 : decode cX0_put 13 = .ok (.iload_n 1, 1) := by decide +kernel
theorem dX0_put_14 : decode cX0_put 14 = .ok (.aload_n 0, 1) := by decide +kernel
theorem dX0_put_15 : decode cX0_put 15 = .ok (.getfield 15, 3) := by decide +kernel
theorem dX0_put_18 : decode cX0_put 18 = .ok (.arraylength, 1) := by decide +kernel
theorem dX0_put_19 : decode cX0_put 19 = .ok (.if_icmp .ge 17, 3) := by decide +kernel
theorem dX0_put_22 : decode cX0_put 22 = .ok (.aload_n 0, 1) := by decide +kernel
theorem dX0_put_23 : decode cX0_put 23 = .ok (.getfield 9, 3) := by decide +kernel
theorem dX0_put_26 : decode cX0_put 26 = .ok (.iload_n 1, 1) := by decide +kernel
theorem dX0_put_27 : decode cX0_put 27 = .ok (.iload_n 2, 1) := by decide +kernel
theorem dX0_put_28 : decode cX0_put 28 = .ok (.iastore, 1) := by decide +kernel
theorem dX0_put_29 : decode cX0_put 29 = .ok (.aload_n 0, 1) := by decide +kernel
theorem dX0_put_30 : decode cX0_put 30 = .ok (.getfield 15, 3) := by decide +kernel
theorem dX0_put_33 : decode cX0_put 33 = .ok (.iload_n 1, 1) := by decide +kernel
theorem dX0_put_34 : decode cX0_put 34 = .ok (.iload_n 3, 1) := by decide +kernel
theorem dX0_put_35 : decode cX0_put 35 = .ok (.iastore, 1) := by decide +kernel
theorem dX0_put_36 : decode cX0_put 36 = .ok (.return_, 1) := by decide +kernel
theorem dX0_heldOn_0 : decode cX0_heldOn 0 = .ok (.iload_n 1, 1) := by decide +kernel
theorem dX0_heldOn_1 : decode cX0_heldOn 1 = .ok (.ifCond .lt 29, 3) := by decide +kernel
theorem dX0_heldOn_4 : decode cX0_heldOn 4 = .ok (.iload_n 1, 1) := by decide +kernel
theorem dX0_heldOn_5 : decode cX0_heldOn 5 = .ok (.aload_n 0, 1) := by decide +kernel
theorem dX0_heldOn_6 : decode cX0_heldOn 6 = .ok (.getfield 22, 3) := by decide +kernel
theorem dX0_heldOn_9 : decode cX0_heldOn 9 = .ok (.if_icmp .ge 21, 3) := by decide +kernel
theorem dX0_heldOn_12 : decode cX0_heldOn 12 = .ok (.iload_n 1, 1) := by decide +kernel
theorem dX0_heldOn_13 : decode cX0_heldOn 13 = .ok (.aload_n 0, 1) := by decide +kernel
theorem dX0_heldOn_14 : decode cX0_heldOn 14 = .ok (.getfield 9, 3) := by decide +kernel
theorem dX0_heldOn_17 : decode cX0_heldOn 17 = .ok (.arraylength, 1) := by decide +kernel
theorem dX0_heldOn_18 : decode cX0_heldOn 18 = .ok (.if_icmp .ge 12, 3) := by decide +kernel
theorem dX0_heldOn_21 : decode cX0_heldOn 21 = .ok (.aload_n 0, 1) := by decide +kernel
theorem dX0_heldOn_22 : decode cX0_heldOn 22 = .ok (.getfield 9, 3) := by decide +kernel
theorem dX0_heldOn_25 : decode cX0_heldOn 25 = .ok (.iload_n 1, 1) := by decide +kernel
theorem dX0_heldOn_26 : decode cX0_heldOn 26 = .ok (.iaload, 1) := by decide +kernel
theorem dX0_heldOn_27 : decode cX0_heldOn 27 = .ok (.goto 4, 3) := by decide +kernel
theorem dX0_heldOn_30 : decode cX0_heldOn 30 = .ok (.iconst (-1), 1) := by decide +kernel
theorem dX0_heldOn_31 : decode cX0_heldOn 31 = .ok (.ireturn, 1) := by decide +kernel
theorem dX0_hookCount_0 : decode cX0_hookCount 0 = .ok (.aload_n 0, 1) := by decide +kernel
theorem dX0_hookCount_1 : decode cX0_hookCount 1 = .ok (.getfield 22, 3) := by decide +kernel
theorem dX0_hookCount_4 : decode cX0_hookCount 4 = .ok (.ireturn, 1) := by decide +kernel
theorem dX0_usherWay_0 : decode cX0_usherWay 0 = .ok (.aload_n 0, 1) := by decide +kernel
theorem dX0_usherWay_1 : decode cX0_usherWay 1 = .ok (.getfield 26, 3) := by decide +kernel
theorem dX0_usherWay_4 : decode cX0_usherWay 4 = .ok (.ireturn, 1) := by decide +kernel
set_option maxRecDepth 20000 in
theorem ggX0_stateOn_X0_heldOn : GoodIn wsX0_stateOn wsX0_heldOn := goodIn_r _ [5, 6, 7, 8, 9, 10, 11] (by decide +kernel) (by decide +kernel)
set_option maxRecDepth 20000 in
theorem gX0_stateOn_X0_heldOn : GoodIn wsX0_stateOn (wsV RX0 33 RX0 yX0_heldOn wsX0_heldOn) := goodIn_app (goodIn_of _ (by decide +kernel)) ggX0_stateOn_X0_heldOn
theorem dX0_stateOn_0 : decode cX0_stateOn 0 = .ok (.aload_n 0, 1) := by decide +kernel
theorem dX0_stateOn_1 : decode cX0_stateOn 1 = .ok (.iload_n 1, 1) := by decide +kernel
theorem dX0_stateOn_2 : decode cX0_stateOn 2 = .ok (.invokevirtual 33, 3) := by decide +kernel
theorem dX0_stateOn_5 : decode cX0_stateOn 5 = .ok (.istore_n 2, 1) := by decide +kernel
theorem dX0_stateOn_6 : decode cX0_stateOn 6 = .ok (.iload_n 2, 1) := by decide +kernel
theorem dX0_stateOn_7 : decode cX0_stateOn 7 = .ok (.iconst (-1), 1) := by decide +kernel
theorem dX0_stateOn_8 : decode cX0_stateOn 8 = .ok (.if_icmp .ne 5, 3) := by decide +kernel
theorem dX0_stateOn_11 : decode cX0_stateOn 11 = .ok (.iconst 0, 1) := by decide +kernel
theorem dX0_stateOn_12 : decode cX0_stateOn 12 = .ok (.ireturn, 1) := by decide +kernel
theorem dX0_stateOn_13 : decode cX0_stateOn 13 = .ok (.iload_n 2, 1) := by decide +kernel
theorem dX0_stateOn_14 : decode cX0_stateOn 14 = .ok (.bipush (-2), 2) := by decide +kernel
theorem dX0_stateOn_16 : decode cX0_stateOn 16 = .ok (.if_icmp .ne 7, 3) := by decide +kernel
theorem dX0_stateOn_19 : decode cX0_stateOn 19 = .ok (.iconst 2, 1) := by decide +kernel
theorem dX0_stateOn_20 : decode cX0_stateOn 20 = .ok (.goto 4, 3) := by decide +kernel
theorem dX0_stateOn_23 : decode cX0_stateOn 23 = .ok (.iconst 1, 1) := by decide +kernel
theorem dX0_stateOn_24 : decode cX0_stateOn 24 = .ok (.ireturn, 1) := by decide +kernel
set_option maxRecDepth 20000 in
theorem ggX0_coatOn_X0_heldOn : GoodIn wsX0_coatOn wsX0_heldOn := goodIn_r _ [5, 6, 7, 8, 9, 10, 11] (by decide +kernel) (by decide +kernel)
set_option maxRecDepth 20000 in
theorem gX0_coatOn_X0_heldOn : GoodIn wsX0_coatOn (wsV RX0 33 RX0 yX0_heldOn wsX0_heldOn) := goodIn_app (goodIn_of _ (by decide +kernel)) ggX0_coatOn_X0_heldOn
theorem dX0_coatOn_0 : decode cX0_coatOn 0 = .ok (.aload_n 0, 1) := by decide +kernel
theorem dX0_coatOn_1 : decode cX0_coatOn 1 = .ok (.iload_n 1, 1) := by decide +kernel
theorem dX0_coatOn_2 : decode cX0_coatOn 2 = .ok (.invokevirtual 33, 3) := by decide +kernel
theorem dX0_coatOn_5 : decode cX0_coatOn 5 = .ok (.istore_n 2, 1) := by decide +kernel
theorem dX0_coatOn_6 : decode cX0_coatOn 6 = .ok (.iload_n 2, 1) := by decide +kernel
theorem dX0_coatOn_7 : decode cX0_coatOn 7 = .ok (.ifCond .lt 7, 3) := by decide +kernel
theorem dX0_coatOn_10 : decode cX0_coatOn 10 = .ok (.iload_n 2, 1) := by decide +kernel
theorem dX0_coatOn_11 : decode cX0_coatOn 11 = .ok (.goto 4, 3) := by decide +kernel
theorem dX0_coatOn_14 : decode cX0_coatOn 14 = .ok (.iconst (-1), 1) := by decide +kernel
theorem dX0_coatOn_15 : decode cX0_coatOn 15 = .ok (.ireturn, 1) := by decide +kernel
theorem dX0_weightOn_0 : decode cX0_weightOn 0 = .ok (.iload_n 1, 1) := by decide +kernel
theorem dX0_weightOn_1 : decode cX0_weightOn 1 = .ok (.ifCond .lt 29, 3) := by decide +kernel
theorem dX0_weightOn_4 : decode cX0_weightOn 4 = .ok (.iload_n 1, 1) := by decide +kernel
theorem dX0_weightOn_5 : decode cX0_weightOn 5 = .ok (.aload_n 0, 1) := by decide +kernel
theorem dX0_weightOn_6 : decode cX0_weightOn 6 = .ok (.getfield 22, 3) := by decide +kernel
theorem dX0_weightOn_9 : decode cX0_weightOn 9 = .ok (.if_icmp .ge 21, 3) := by decide +kernel
theorem dX0_weightOn_12 : decode cX0_weightOn 12 = .ok (.iload_n 1, 1) := by decide +kernel
theorem dX0_weightOn_13 : decode cX0_weightOn 13 = .ok (.aload_n 0, 1) := by decide +kernel
theorem dX0_weightOn_14 : decode cX0_weightOn 14 = .ok (.getfield 15, 3) := by decide +kernel
theorem dX0_weightOn_17 : decode cX0_weightOn 17 = .ok (.arraylength, 1) := by decide +kernel
theorem dX0_weightOn_18 : decode cX0_weightOn 18 = .ok (.if_icmp .ge 12, 3) := by decide +kernel
theorem dX0_weightOn_21 : decode cX0_weightOn 21 = .ok (.aload_n 0, 1) := by decide +kernel
theorem dX0_weightOn_22 : decode cX0_weightOn 22 = .ok (.getfield 15, 3) := by decide +kernel
theorem dX0_weightOn_25 : decode cX0_weightOn 25 = .ok (.iload_n 1, 1) := by decide +kernel
theorem dX0_weightOn_26 : decode cX0_weightOn 26 = .ok (.iaload, 1) := by decide +kernel
theorem dX0_weightOn_27 : decode cX0_weightOn 27 = .ok (.goto 4, 3) := by decide +kernel
theorem dX0_weightOn_30 : decode cX0_weightOn 30 = .ok (.iconst 0, 1) := by decide +kernel
theorem dX0_weightOn_31 : decode cX0_weightOn 31 = .ok (.ireturn, 1) := by decide +kernel
set_option maxRecDepth 20000 in
theorem ggX0_countInState_X0_stateOn : GoodIn wsX0_countInState wsX0_stateOn := goodIn_r _ [6, 7, 8, 9, 5, 10, 1, 11, 12, 13, 14, 15] (by decide +kernel) (by decide +kernel)
set_option maxRecDepth 20000 in
theorem gX0_countInState_X0_stateOn : GoodIn wsX0_countInState (wsV RX0 37 RX0 yX0_stateOn wsX0_stateOn) := goodIn_app (goodIn_of _ (by decide +kernel)) ggX0_countInState_X0_stateOn
theorem dX0_countInState_0 : decode cX0_countInState 0 = .ok (.iconst 0, 1) := by decide +kernel
theorem dX0_countInState_1 : decode cX0_countInState 1 = .ok (.istore_n 2, 1) := by decide +kernel
theorem dX0_countInState_2 : decode cX0_countInState 2 = .ok (.iconst 0, 1) := by decide +kernel
theorem dX0_countInState_3 : decode cX0_countInState 3 = .ok (.istore_n 3, 1) := by decide +kernel
theorem dX0_countInState_4 : decode cX0_countInState 4 = .ok (.iload_n 3, 1) := by decide +kernel
theorem dX0_countInState_5 : decode cX0_countInState 5 = .ok (.aload_n 0, 1) := by decide +kernel
theorem dX0_countInState_6 : decode cX0_countInState 6 = .ok (.getfield 22, 3) := by decide +kernel
theorem dX0_countInState_9 : decode cX0_countInState 9 = .ok (.if_icmp .ge 21, 3) := by decide +kernel
theorem dX0_countInState_12 : decode cX0_countInState 12 = .ok (.aload_n 0, 1) := by decide +kernel
theorem dX0_countInState_13 : decode cX0_countInState 13 = .ok (.iload_n 3, 1) := by decide +kernel
theorem dX0_countInState_14 : decode cX0_countInState 14 = .ok (.invokevirtual 37, 3) := by decide +kernel
theorem dX0_countInState_17 : decode cX0_countInState 17 = .ok (.iload_n 1, 1) := by decide +kernel
theorem dX0_countInState_18 : decode cX0_countInState 18 = .ok (.if_icmp .ne 6, 3) := by decide +kernel
theorem dX0_countInState_21 : decode cX0_countInState 21 = .ok (.iinc 2 1, 3) := by decide +kernel
theorem dX0_countInState_24 : decode cX0_countInState 24 = .ok (.iinc 3 1, 3) := by decide +kernel
theorem dX0_countInState_27 : decode cX0_countInState 27 = .ok (.goto (-23), 3) := by decide +kernel
theorem dX0_countInState_30 : decode cX0_countInState 30 = .ok (.iload_n 2, 1) := by decide +kernel
theorem dX0_countInState_31 : decode cX0_countInState 31 = .ok (.ireturn, 1) := by decide +kernel
set_option maxRecDepth 20000 in
theorem ggX0_weightOfAll_X0_weightOn : GoodIn wsX0_weightOfAll wsX0_weightOn := goodIn_r _ [6, 1, 7, 8, 9, 10, 11] (by decide +kernel) (by decide +kernel)
set_option maxRecDepth 20000 in
theorem gX0_weightOfAll_X0_weightOn : GoodIn wsX0_weightOfAll (wsV RX0 40 RX0 yX0_weightOn wsX0_weightOn) := goodIn_app (goodIn_of _ (by decide +kernel)) ggX0_weightOfAll_X0_weightOn
theorem dX0_weightOfAll_0 : decode cX0_weightOfAll 0 = .ok (.iconst 0, 1) := by decide +kernel
theorem dX0_weightOfAll_1 : decode cX0_weightOfAll 1 = .ok (.istore_n 1, 1) := by decide +kernel
theorem dX0_weightOfAll_2 : decode cX0_weightOfAll 2 = .ok (.iconst 0, 1) := by decide +kernel
theorem dX0_weightOfAll_3 : decode cX0_weightOfAll 3 = .ok (.istore_n 2, 1) := by decide +kernel
theorem dX0_weightOfAll_4 : decode cX0_weightOfAll 4 = .ok (.iload_n 2, 1) := by decide +kernel
theorem dX0_weightOfAll_5 : decode cX0_weightOfAll 5 = .ok (.aload_n 0, 1) := by decide +kernel
theorem dX0_weightOfAll_6 : decode cX0_weightOfAll 6 = .ok (.getfield 22, 3) := by decide +kernel
theorem dX0_weightOfAll_9 : decode cX0_weightOfAll 9 = .ok (.if_icmp .ge 17, 3) := by decide +kernel
theorem dX0_weightOfAll_12 : decode cX0_weightOfAll 12 = .ok (.iload_n 1, 1) := by decide +kernel
theorem dX0_weightOfAll_13 : decode cX0_weightOfAll 13 = .ok (.aload_n 0, 1) := by decide +kernel
theorem dX0_weightOfAll_14 : decode cX0_weightOfAll 14 = .ok (.iload_n 2, 1) := by decide +kernel
theorem dX0_weightOfAll_15 : decode cX0_weightOfAll 15 = .ok (.invokevirtual 40, 3) := by decide +kernel
theorem dX0_weightOfAll_18 : decode cX0_weightOfAll 18 = .ok (.iadd, 1) := by decide +kernel
theorem dX0_weightOfAll_19 : decode cX0_weightOfAll 19 = .ok (.istore_n 1, 1) := by decide +kernel
theorem dX0_weightOfAll_20 : decode cX0_weightOfAll 20 = .ok (.iinc 2 1, 3) := by decide +kernel
theorem dX0_weightOfAll_23 : decode cX0_weightOfAll 23 = .ok (.goto (-19), 3) := by decide +kernel
theorem dX0_weightOfAll_26 : decode cX0_weightOfAll 26 = .ok (.iload_n 1, 1) := by decide +kernel
theorem dX0_weightOfAll_27 : decode cX0_weightOfAll 27 = .ok (.ireturn, 1) := by decide +kernel
set_option maxRecDepth 20000 in
theorem ggX0_hookOfHeaviest_X0_weightOn : GoodIn wsX0_hookOfHeaviest wsX0_weightOn := goodIn_r _ [6, 1, 7, 8, 9, 10, 11] (by decide +kernel) (by decide +kernel)
set_option maxRecDepth 20000 in
theorem gX0_hookOfHeaviest_X0_weightOn : GoodIn wsX0_hookOfHeaviest (wsV RX0 40 RX0 yX0_weightOn wsX0_weightOn) := goodIn_app (goodIn_of _ (by decide +kernel)) ggX0_hookOfHeaviest_X0_weightOn
theorem dX0_hookOfHeaviest_0 : decode cX0_hookOfHeaviest 0 = .ok (.iconst (-1), 1) := by decide +kernel
theorem dX0_hookOfHeaviest_1 : decode cX0_hookOfHeaviest 1 = .ok (.istore_n 1, 1) := by decide +kernel
theorem dX0_hookOfHeaviest_2 : decode cX0_hookOfHeaviest 2 = .ok (.iconst 0, 1) := by decide +kernel
theorem dX0_hookOfHeaviest_3 : decode cX0_hookOfHeaviest 3 = .ok (.istore_n 2, 1) := by decide +kernel
theorem dX0_hookOfHeaviest_4 : decode cX0_hookOfHeaviest 4 = .ok (.iconst 0, 1) := by decide +kernel
theorem dX0_hookOfHeaviest_5 : decode cX0_hookOfHeaviest 5 = .ok (.istore_n 3, 1) := by decide +kernel
theorem dX0_hookOfHeaviest_6 : decode cX0_hookOfHeaviest 6 = .ok (.iload_n 3, 1) := by decide +kernel
theorem dX0_hookOfHeaviest_7 : decode cX0_hookOfHeaviest 7 = .ok (.aload_n 0, 1) := by decide +kernel
theorem dX0_hookOfHeaviest_8 : decode cX0_hookOfHeaviest 8 = .ok (.getfield 22, 3) := by decide +kernel
theorem dX0_hookOfHeaviest_11 : decode cX0_hookOfHeaviest 11 = .ok (.if_icmp .ge 26, 3) := by decide +kernel
theorem dX0_hookOfHeaviest_14 : decode cX0_hookOfHeaviest 14 = .ok (.aload_n 0, 1) := by decide +kernel
theorem dX0_hookOfHeaviest_15 : decode cX0_hookOfHeaviest 15 = .ok (.iload_n 3, 1) := by decide +kernel
theorem dX0_hookOfHeaviest_16 : decode cX0_hookOfHeaviest 16 = .ok (.invokevirtual 40, 3) := by decide +kernel
theorem dX0_hookOfHeaviest_19 : decode cX0_hookOfHeaviest 19 = .ok (.iload_n 2, 1) := by decide +kernel
theorem dX0_hookOfHeaviest_20 : decode cX0_hookOfHeaviest 20 = .ok (.if_icmp .le 11, 3) := by decide +kernel
theorem dX0_hookOfHeaviest_23 : decode cX0_hookOfHeaviest 23 = .ok (.iload_n 3, 1) := by decide +kernel
theorem dX0_hookOfHeaviest_24 : decode cX0_hookOfHeaviest 24 = .ok (.istore_n 1, 1) := by decide +kernel
theorem dX0_hookOfHeaviest_25 : decode cX0_hookOfHeaviest 25 = .ok (.aload_n 0, 1) := by decide +kernel
theorem dX0_hookOfHeaviest_26 : decode cX0_hookOfHeaviest 26 = .ok (.iload_n 3, 1) := by decide +kernel
theorem dX0_hookOfHeaviest_27 : decode cX0_hookOfHeaviest 27 = .ok (.invokevirtual 40, 3) := by decide +kernel
theorem dX0_hookOfHeaviest_30 : decode cX0_hookOfHeaviest 30 = .ok (.istore_n 2, 1) := by decide +kernel
theorem dX0_hookOfHeaviest_31 : decode cX0_hookOfHeaviest 31 = .ok (.iinc 3 1, 3) := by decide +kernel
theorem dX0_hookOfHeaviest_34 : decode cX0_hookOfHeaviest 34 = .ok (.goto (-28), 3) := by decide +kernel
theorem dX0_hookOfHeaviest_37 : decode cX0_hookOfHeaviest 37 = .ok (.iload_n 1, 1) := by decide +kernel
theorem dX0_hookOfHeaviest_38 : decode cX0_hookOfHeaviest 38 = .ok (.ireturn, 1) := by decide +kernel
theorem dX0_hookInStep_0 : decode cX0_hookInStep 0 = .ok (.aload_n 0, 1) := by decide +kernel
theorem dX0_hookInStep_1 : decode cX0_hookInStep 1 = .ok (.getfield 22, 3) := by decide +kernel
theorem dX0_hookInStep_4 : decode cX0_hookInStep 4 = .ok (.iconst 3, 1) := by decide +kernel
theorem dX0_hookInStep_5 : decode cX0_hookInStep 5 = .ok (.if_icmp .ge 5, 3) := by decide +kernel
theorem dX0_hookInStep_8 : decode cX0_hookInStep 8 = .ok (.iconst 0, 1) := by decide +kernel
theorem dX0_hookInStep_9 : decode cX0_hookInStep 9 = .ok (.ireturn, 1) := by decide +kernel
theorem dX0_hookInStep_10 : decode cX0_hookInStep 10 = .ok (.iload_n 2, 1) := by decide +kernel
theorem dX0_hookInStep_11 : decode cX0_hookInStep 11 = .ok (.istore_n 3, 1) := by decide +kernel
theorem dX0_hookInStep_12 : decode cX0_hookInStep 12 = .ok (.aload_n 0, 1) := by decide +kernel
theorem dX0_hookInStep_13 : decode cX0_hookInStep 13 = .ok (.getfield 26, 3) := by decide +kernel
theorem dX0_hookInStep_16 : decode cX0_hookInStep 16 = .ok (.iconst 1, 1) := by decide +kernel
theorem dX0_hookInStep_17 : decode cX0_hookInStep 17 = .ok (.if_icmp .ne 14, 3) := by decide +kernel
theorem dX0_hookInStep_20 : decode cX0_hookInStep 20 = .ok (.iload_n 2, 1) := by decide +kernel
theorem dX0_hookInStep_21 : decode cX0_hookInStep 21 = .ok (.iload_n 2, 1) := by decide +kernel
theorem dX0_hookInStep_22 : decode cX0_hookInStep 22 = .ok (.iconst 1, 1) := by decide +kernel
theorem dX0_hookInStep_23 : decode cX0_hookInStep 23 = .ok (.iadd, 1) := by decide +kernel
theorem dX0_hookInStep_24 : decode cX0_hookInStep 24 = .ok (.imul, 1) := by decide +kernel
theorem dX0_hookInStep_25 : decode cX0_hookInStep 25 = .ok (.iconst 2, 1) := by decide +kernel
theorem dX0_hookInStep_26 : decode cX0_hookInStep 26 = .ok (.idiv, 1) := by decide +kernel
theorem dX0_hookInStep_27 : decode cX0_hookInStep 27 = .ok (.istore_n 3, 1) := by decide +kernel
theorem dX0_hookInStep_28 : decode cX0_hookInStep 28 = .ok (.goto 29, 3) := by decide +kernel
theorem dX0_hookInStep_31 : decode cX0_hookInStep 31 = .ok (.aload_n 0, 1) := by decide +kernel
theorem dX0_hookInStep_32 : decode cX0_hookInStep 32 = .ok (.getfield 26, 3) := by decide +kernel
theorem dX0_hookInStep_35 : decode cX0_hookInStep 35 = .ok (.iconst 2, 1) := by decide +kernel
theorem dX0_hookInStep_36 : decode cX0_hookInStep 36 = .ok (.if_icmp .ne 21, 3) := by decide +kernel
theorem dX0_hookInStep_39 : decode cX0_hookInStep 39 = .ok (.iload_n 2, 1) := by decide +kernel
theorem dX0_hookInStep_40 : decode cX0_hookInStep 40 = .ok (.iconst 1, 1) := by decide +kernel
theorem dX0_hookInStep_41 : decode cX0_hookInStep 41 = .ok (.iload_n 1, 1) := by decide +kernel
theorem dX0_hookInStep_42 : decode cX0_hookInStep 42 = .ok (.aload_n 0, 1) := by decide +kernel
theorem dX0_hookInStep_43 : decode cX0_hookInStep 43 = .ok (.getfield 22, 3) := by decide +kernel
theorem dX0_hookInStep_46 : decode cX0_hookInStep 46 = .ok (.idiv, 1) := by decide +kernel
theorem dX0_hookInStep_47 : decode cX0_hookInStep 47 = .ok (.aload_n 0, 1) := by decide +kernel
theorem dX0_hookInStep_48 : decode cX0_hookInStep 48 = .ok (.getfield 22, 3) := by decide +kernel
theorem dX0_hookInStep_51 : decode cX0_hookInStep 51 = .ok (.iconst 1, 1) := by decide +kernel
theorem dX0_hookInStep_52 : decode cX0_hookInStep 52 = .ok (.isub, 1) := by decide +kernel
theorem dX0_hookInStep_53 : decode cX0_hookInStep 53 = .ok (.irem, 1) := by decide +kernel
theorem dX0_hookInStep_54 : decode cX0_hookInStep 54 = .ok (.iadd, 1) := by decide +kernel
theorem dX0_hookInStep_55 : decode cX0_hookInStep 55 = .ok (.imul, 1) := by decide +kernel
theorem dX0_hookInStep_56 : decode cX0_hookInStep 56 = .ok (.istore_n 3, 1) := by decide +kernel
theorem dX0_hookInStep_57 : decode cX0_hookInStep 57 = .ok (.iload_n 1, 1) := by decide +kernel
theorem dX0_hookInStep_58 : decode cX0_hookInStep 58 = .ok (.iload_n 3, 1) := by decide +kernel
theorem dX0_hookInStep_59 : decode cX0_hookInStep 59 = .ok (.iadd, 1) := by decide +kernel
theorem dX0_hookInStep_60 : decode cX0_hookInStep 60 = .ok (.aload_n 0, 1) := by decide +kernel
theorem dX0_hookInStep_61 : decode cX0_hookInStep 61 = .ok (.getfield 22, 3) := by decide +kernel
theorem dX0_hookInStep_64 : decode cX0_hookInStep 64 = .ok (.irem, 1) := by decide +kernel
theorem dX0_hookInStep_65 : decode cX0_hookInStep 65 = .ok (.ireturn, 1) := by decide +kernel
set_option maxRecDepth 20000 in
theorem ggX0_countLooks_X0_hookInStep : GoodIn wsX0_countLooks wsX0_hookInStep := goodIn_r _ [6, 1, 7, 13, 14, 15, 16] (by decide +kernel) (by decide +kernel)
set_option maxRecDepth 20000 in
theorem gX0_countLooks_X0_hookInStep : GoodIn wsX0_countLooks (wsV RX0 43 RX0 yX0_hookInStep wsX0_hookInStep) := goodIn_app (goodIn_of _ (by decide +kernel)) ggX0_countLooks_X0_hookInStep
set_option maxRecDepth 20000 in
theorem ggX0_countLooks_X0_heldOn : GoodIn wsX0_countLooks wsX0_heldOn := goodIn_r _ [11, 1, 12, 13, 14, 15, 16] (by decide +kernel) (by decide +kernel)
set_option maxRecDepth 20000 in
theorem gX0_countLooks_X0_heldOn : GoodIn wsX0_countLooks (wsV RX0 33 RX0 yX0_heldOn wsX0_heldOn) := goodIn_app (goodIn_of _ (by decide +kernel)) ggX0_countLooks_X0_heldOn
theorem dX0_countLooks_0 : decode cX0_countLooks 0 = .ok (.iconst 0, 1) := by decide +kernel
theorem dX0_countLooks_1 : decode cX0_countLooks 1 = .ok (.istore_n 2, 1) := by decide +kernel
theorem dX0_countLooks_2 : decode cX0_countLooks 2 = .ok (.iload_n 2, 1) := by decide +kernel
theorem dX0_countLooks_3 : decode cX0_countLooks 3 = .ok (.aload_n 0, 1) := by decide +kernel
theorem dX0_countLooks_4 : decode cX0_countLooks 4 = .ok (.getfield 22, 3) := by decide +kernel
theorem dX0_countLooks_7 : decode cX0_countLooks 7 = .ok (.if_icmp .ge 34, 3) := by decide +kernel
theorem dX0_countLooks_10 : decode cX0_countLooks 10 = .ok (.aload_n 0, 1) := by decide +kernel
theorem dX0_countLooks_11 : decode cX0_countLooks 11 = .ok (.aload_n 0, 1) := by decide +kernel
theorem dX0_countLooks_12 : decode cX0_countLooks 12 = .ok (.iload_n 1, 1) := by decide +kernel
theorem dX0_countLooks_13 : decode cX0_countLooks 13 = .ok (.iload_n 2, 1) := by decide +kernel
theorem dX0_countLooks_14 : decode cX0_countLooks 14 = .ok (.invokevirtual 43, 3) := by decide +kernel
theorem dX0_countLooks_17 : decode cX0_countLooks 17 = .ok (.invokevirtual 33, 3) := by decide +kernel
theorem dX0_countLooks_20 : decode cX0_countLooks 20 = .ok (.istore_n 3, 1) := by decide +kernel
theorem dX0_countLooks_21 : decode cX0_countLooks 21 = .ok (.iload_n 3, 1) := by decide +kernel
theorem dX0_countLooks_22 : decode cX0_countLooks 22 = .ok (.iload_n 1, 1) := by decide +kernel
theorem dX0_countLooks_23 : decode cX0_countLooks 23 = .ok (.if_icmp .eq 8, 3) := by decide +kernel
theorem dX0_countLooks_26 : decode cX0_countLooks 26 = .ok (.iload_n 3, 1) := by decide +kernel
theorem dX0_countLooks_27 : decode cX0_countLooks 27 = .ok (.iconst (-1), 1) := by decide +kernel
theorem dX0_countLooks_28 : decode cX0_countLooks 28 = .ok (.if_icmp .ne 7, 3) := by decide +kernel
theorem dX0_countLooks_31 : decode cX0_countLooks 31 = .ok (.iload_n 2, 1) := by decide +kernel
theorem dX0_countLooks_32 : decode cX0_countLooks 32 = .ok (.iconst 1, 1) := by decide +kernel
theorem dX0_countLooks_33 : decode cX0_countLooks 33 = .ok (.iadd, 1) := by decide +kernel
theorem dX0_countLooks_34 : decode cX0_countLooks 34 = .ok (.ireturn, 1) := by decide +kernel
theorem dX0_countLooks_35 : decode cX0_countLooks 35 = .ok (.iinc 2 1, 3) := by decide +kernel
theorem dX0_countLooks_38 : decode cX0_countLooks 38 = .ok (.goto (-36), 3) := by decide +kernel
theorem dX0_countLooks_41 : decode cX0_countLooks 41 = .ok (.aload_n 0, 1) := by decide +kernel
theorem dX0_countLooks_42 : decode cX0_countLooks 42 = .ok (.getfield 22, 3) := by decide +kernel
theorem dX0_countLooks_45 : decode cX0_countLooks 45 = .ok (.ireturn, 1) := by decide +kernel
set_option maxRecDepth 20000 in
theorem ggX0_whereFound_X0_countLooks : GoodIn wsX0_whereFound wsX0_countLooks := goodIn_r _ [5, 6, 7, 8, 9, 4, 10, 11, 12, 13, 14, 15, 16, 17, 18, 19, 20] (by decide +kernel) (by decide +kernel)
set_option maxRecDepth 20000 in
theorem gX0_whereFound_X0_countLooks : GoodIn wsX0_whereFound (wsV RX0 47 RX0 yX0_countLooks wsX0_countLooks) := goodIn_app (goodIn_of _ (by decide +kernel)) ggX0_whereFound_X0_countLooks
set_option maxRecDepth 20000 in
theorem ggX0_whereFound_X0_hookInStep : GoodIn wsX0_whereFound wsX0_hookInStep := goodIn_r _ [10, 6, 11, 17, 18, 19, 20] (by decide +kernel) (by decide +kernel)
set_option maxRecDepth 20000 in
theorem gX0_whereFound_X0_hookInStep : GoodIn wsX0_whereFound (wsV RX0 43 RX0 yX0_hookInStep wsX0_hookInStep) := goodIn_app (goodIn_of _ (by decide +kernel)) ggX0_whereFound_X0_hookInStep
set_option maxRecDepth 20000 in
theorem ggX0_whereFound_X0_heldOn : GoodIn wsX0_whereFound wsX0_heldOn := goodIn_r _ [15, 6, 16, 17, 18, 19, 20] (by decide +kernel) (by decide +kernel)
set_option maxRecDepth 20000 in
theorem gX0_whereFound_X0_heldOn : GoodIn wsX0_whereFound (wsV RX0 33 RX0 yX0_heldOn wsX0_heldOn) := goodIn_app (goodIn_of _ (by decide +kernel)) ggX0_whereFound_X0_heldOn
theorem dX0_whereFound_0 : decode cX0_whereFound 0 = .ok (.aload_n 0, 1) := by decide +kernel
theorem dX0_whereFound_1 : decode cX0_whereFound 1 = .ok (.iload_n 1, 1) := by decide +kernel
theorem dX0_whereFound_2 : decode cX0_whereFound 2 = .ok (.aload_n 0, 1) := by decide +kernel
theorem dX0_whereFound_3 : decode cX0_whereFound 3 = .ok (.iload_n 1, 1) := by decide +kernel
theorem dX0_whereFound_4 : decode cX0_whereFound 4 = .ok (.invokevirtual 47, 3) := by decide +kernel
theorem dX0_whereFound_7 : decode cX0_whereFound 7 = .ok (.iconst 1, 1) := by decide +kernel
theorem dX0_whereFound_8 : decode cX0_whereFound 8 = .ok (.isub, 1) := by decide +kernel
theorem dX0_whereFound_9 : decode cX0_whereFound 9 = .ok (.invokevirtual 43, 3) := by decide +kernel
theorem dX0_whereFound_12 : decode cX0_whereFound 12 = .ok (.istore_n 2, 1) := by decide +kernel
theorem dX0_whereFound_13 : decode cX0_whereFound 13 = .ok (.aload_n 0, 1) := by decide +kernel
theorem dX0_whereFound_14 : decode cX0_whereFound 14 = .ok (.iload_n 2, 1) := by decide +kernel
theorem dX0_whereFound_15 : decode cX0_whereFound 15 = .ok (.invokevirtual 33, 3) := by decide +kernel
theorem dX0_whereFound_18 : decode cX0_whereFound 18 = .ok (.iload_n 1, 1) := by decide +kernel
theorem dX0_whereFound_19 : decode cX0_whereFound 19 = .ok (.if_icmp .ne 7, 3) := by decide +kernel
theorem dX0_whereFound_22 : decode cX0_whereFound 22 = .ok (.iload_n 2, 1) := by decide +kernel
theorem dX0_whereFound_23 : decode cX0_whereFound 23 = .ok (.goto 4, 3) := by decide +kernel
theorem dX0_whereFound_26 : decode cX0_whereFound 26 = .ok (.iconst (-1), 1) := by decide +kernel
theorem dX0_whereFound_27 : decode cX0_whereFound 27 = .ok (.ireturn, 1) := by decide +kernel
set_option maxRecDepth 20000 in
theorem ggX0_hangs_X0_heldOn : GoodIn wsX0_hangs wsX0_heldOn := goodIn_r _ [6, 1, 7, 8, 9, 10, 11] (by decide +kernel) (by decide +kernel)
set_option maxRecDepth 20000 in
theorem gX0_hangs_X0_heldOn : GoodIn wsX0_hangs (wsV RX0 33 RX0 yX0_heldOn wsX0_heldOn) := goodIn_app (goodIn_of _ (by decide +kernel)) ggX0_hangs_X0_heldOn
theorem dX0_hangs_0 : decode cX0_hangs 0 = .ok (.iconst 0, 1) := by decide +kernel
theorem dX0_hangs_1 : decode cX0_hangs 1 = .ok (.istore_n 2, 1) := by decide +kernel
theorem dX0_hangs_2 : decode cX0_hangs 2 = .ok (.iload_n 2, 1) := by decide +kernel
theorem dX0_hangs_3 : decode cX0_hangs 3 = .ok (.aload_n 0, 1) := by decide +kernel
theorem dX0_hangs_4 : decode cX0_hangs 4 = .ok (.getfield 22, 3) := by decide +kernel
theorem dX0_hangs_7 : decode cX0_hangs 7 = .ok (.if_icmp .ge 20, 3) := by decide +kernel
theorem dX0_hangs_10 : decode cX0_hangs 10 = .ok (.aload_n 0, 1) := by decide +kernel
theorem dX0_hangs_11 : decode cX0_hangs 11 = .ok (.iload_n 2, 1) := by decide +kernel
theorem dX0_hangs_12 : decode cX0_hangs 12 = .ok (.invokevirtual 33, 3) := by decide +kernel
theorem dX0_hangs_15 : decode cX0_hangs 15 = .ok (.iload_n 1, 1) := by decide +kernel
theorem dX0_hangs_16 : decode cX0_hangs 16 = .ok (.if_icmp .ne 5, 3) := by decide +kernel
theorem dX0_hangs_19 : decode cX0_hangs 19 = .ok (.iconst 1, 1) := by decide +kernel
theorem dX0_hangs_20 : decode cX0_hangs 20 = .ok (.ireturn, 1) := by decide +kernel
theorem dX0_hangs_21 : decode cX0_hangs 21 = .ok (.iinc 2 1, 3) := by decide +kernel
theorem dX0_hangs_24 : decode cX0_hangs 24 = .ok (.goto (-22), 3) := by decide +kernel
theorem dX0_hangs_27 : decode cX0_hangs 27 = .ok (.iconst 0, 1) := by decide +kernel
theorem dX0_hangs_28 : decode cX0_hangs 28 = .ok (.ireturn, 1) := by decide +kernel
set_option maxRecDepth 20000 in
theorem ggX0_placeOf_X0_hangs : GoodIn wsX0_placeOf wsX0_hangs := goodIn_r _ [5, 6, 7, 8, 9, 4, 10, 11, 25, 26, 27, 28] (by decide +kernel) (by decide +kernel)
set_option maxRecDepth 20000 in
theorem gX0_placeOf_X0_hangs : GoodIn wsX0_placeOf (wsV RX0 50 RX0 yX0_hangs wsX0_hangs) := goodIn_app (goodIn_of _ (by decide +kernel)) ggX0_placeOf_X0_hangs
set_option maxRecDepth 20000 in
theorem ggX0_placeOf_X0_openHook : GoodIn wsX0_placeOf wsX0_openHook := goodIn_r _ [15, 16, 17, 18, 4, 19, 6, 20, 21, 22, 23, 24, 7, 8, 9, 10, 11, 25, 26, 27, 28] (by decide +kernel) (by decide +kernel)
set_option maxRecDepth 20000 in
theorem gX0_placeOf_X0_openHook : GoodIn wsX0_placeOf (wsV RX0 54 RX0 yX0_openHook wsX0_openHook) := goodIn_app (goodIn_of _ (by decide +kernel)) ggX0_placeOf_X0_openHook
theorem dX0_placeOf_0 : decode cX0_placeOf 0 = .ok (.aload_n 0, 1) := by decide +kernel
theorem dX0_placeOf_1 : decode cX0_placeOf 1 = .ok (.iload_n 1, 1) := by decide +kernel
theorem dX0_placeOf_2 : decode cX0_placeOf 2 = .ok (.invokevirtual 50, 3) := by decide +kernel
theorem dX0_placeOf_5 : decode cX0_placeOf 5 = .ok (.ifCond .eq 7, 3) := by decide +kernel
theorem dX0_placeOf_8 : decode cX0_placeOf 8 = .ok (.iconst (-1), 1) := by decide +kernel
theorem dX0_placeOf_9 : decode cX0_placeOf 9 = .ok (.goto 8, 3) := by decide +kernel
theorem dX0_placeOf_12 : decode cX0_placeOf 12 = .ok (.aload_n 0, 1) := by decide +kernel
theorem dX0_placeOf_13 : decode cX0_placeOf 13 = .ok (.iload_n 1, 1) := by decide +kernel
theorem dX0_placeOf_14 : decode cX0_placeOf 14 = .ok (.invokevirtual 54, 3) := by decide +kernel
theorem dX0_placeOf_17 : decode cX0_placeOf 17 = .ok (.ireturn, 1) := by decide +kernel
set_option maxRecDepth 20000 in
theorem ggX0_openHook_X0_countLooks : GoodIn wsX0_openHook wsX0_countLooks := goodIn_r _ [5, 6, 7, 8, 9, 4, 10, 11, 12, 13, 14, 15, 16, 17, 18, 19, 20] (by decide +kernel) (by decide +kernel)
set_option maxRecDepth 20000 in
theorem gX0_openHook_X0_countLooks : GoodIn wsX0_openHook (wsV RX0 47 RX0 yX0_countLooks wsX0_countLooks) := goodIn_app (goodIn_of _ (by decide +kernel)) ggX0_openHook_X0_countLooks
set_option maxRecDepth 20000 in
theorem ggX0_openHook_X0_hookInStep : GoodIn wsX0_openHook wsX0_hookInStep := goodIn_r _ [10, 6, 11, 17, 18, 19, 20] (by decide +kernel) (by decide +kernel)
set_option maxRecDepth 20000 in
theorem gX0_openHook_X0_hookInStep : GoodIn wsX0_openHook (wsV RX0 43 RX0 yX0_hookInStep wsX0_hookInStep) := goodIn_app (goodIn_of _ (by decide +kernel)) ggX0_openHook_X0_hookInStep
set_option maxRecDepth 20000 in
theorem ggX0_openHook_X0_heldOn : GoodIn wsX0_openHook wsX0_heldOn := goodIn_r _ [15, 6, 16, 17, 18, 19, 20] (by decide +kernel) (by decide +kernel)
set_option maxRecDepth 20000 in
theorem gX0_openHook_X0_heldOn : GoodIn wsX0_openHook (wsV RX0 33 RX0 yX0_heldOn wsX0_heldOn) := goodIn_app (goodIn_of _ (by decide +kernel)) ggX0_openHook_X0_heldOn
theorem dX0_openHook_0 : decode cX0_openHook 0 = .ok (.aload_n 0, 1) := by decide +kernel
theorem dX0_openHook_1 : decode cX0_openHook 1 = .ok (.iload_n 1, 1) := by decide +kernel
theorem dX0_openHook_2 : decode cX0_openHook 2 = .ok (.invokevirtual 47, 3) := by decide +kernel
theorem dX0_openHook_5 : decode cX0_openHook 5 = .ok (.istore_n 2, 1) := by decide +kernel
theorem dX0_openHook_6 : decode cX0_openHook 6 = .ok (.iconst 0, 1) := by decide +kernel
theorem dX0_openHook_7 : decode cX0_openHook 7 = .ok (.istore_n 3, 1) := by decide +kernel
theorem dX0_openHook_8 : decode cX0_openHook 8 = .ok (.iload_n 3, 1) := by decide +kernel
theorem dX0_openHook_9 : decode cX0_openHook 9 = .ok (.iload_n 2, 1) := by decide +kernel
theorem dX0_openHook_10 : decode cX0_openHook 10 = .ok (.if_icmp .ge 31, 3) := by decide +kernel
theorem dX0_openHook_13 : decode cX0_openHook 13 = .ok (.aload_n 0, 1) := by decide +kernel
theorem dX0_openHook_14 : decode cX0_openHook 14 = .ok (.iload_n 1, 1) := by decide +kernel
theorem dX0_openHook_15 : decode cX0_openHook 15 = .ok (.iload_n 3, 1) := by decide +kernel
theorem dX0_openHook_16 : decode cX0_openHook 16 = .ok (.invokevirtual 43, 3) := by decide +kernel
theorem dX0_openHook_19 : decode cX0_openHook 19 = .ok (.istore 4, 2) := by decide +kernel
theorem dX0_openHook_21 : decode cX0_openHook 21 = .ok (.aload_n 0, 1) := by decide +kernel
theorem dX0_openHook_22 : decode cX0_openHook 22 = .ok (.iload 4, 2) := by decide +kernel
theorem dX0_openHook_24 : decode cX0_openHook 24 = .ok (.invokevirtual 33, 3) := by decide +kernel
theorem dX0_openHook_27 : decode cX0_openHook 27 = .ok (.bipush (-2), 2) := by decide +kernel
theorem dX0_openHook_29 : decode cX0_openHook 29 = .ok (.if_icmp .ne 6, 3) := by decide +kernel
theorem dX0_openHook_32 : decode cX0_openHook 32 = .ok (.iload 4, 2) := by decide +kernel
theorem dX0_openHook_34 : decode cX0_openHook 34 = .ok (.ireturn, 1) := by decide +kernel
theorem dX0_openHook_35 : decode cX0_openHook 35 = .ok (.iinc 3 1, 3) := by decide +kernel
theorem dX0_openHook_38 : decode cX0_openHook 38 = .ok (.goto (-30), 3) := by decide +kernel
theorem dX0_openHook_41 : decode cX0_openHook 41 = .ok (.aload_n 0, 1) := by decide +kernel
theorem dX0_openHook_42 : decode cX0_openHook 42 = .ok (.iload_n 1, 1) := by decide +kernel
theorem dX0_openHook_43 : decode cX0_openHook 43 = .ok (.iload_n 2, 1) := by decide +kernel
theorem dX0_openHook_44 : decode cX0_openHook 44 = .ok (.iconst 1, 1) := by decide +kernel
theorem dX0_openHook_45 : decode cX0_openHook 45 = .ok (.isub, 1) := by decide +kernel
theorem dX0_openHook_46 : decode cX0_openHook 46 = .ok (.invokevirtual 43, 3) := by decide +kernel
theorem dX0_openHook_49 : decode cX0_openHook 49 = .ok (.istore_n 3, 1) := by decide +kernel
theorem dX0_openHook_50 : decode cX0_openHook 50 = .ok (.aload_n 0, 1) := by decide +kernel
theorem dX0_openHook_51 : decode cX0_openHook 51 = .ok (.iload_n 3, 1) := by decide +kernel
theorem dX0_openHook_52 : decode cX0_openHook 52 = .ok (.invokevirtual 33, 3) := by decide +kernel
theorem dX0_openHook_55 : decode cX0_openHook 55 = .ok (.iconst (-1), 1) := by decide +kernel
theorem dX0_openHook_56 : decode cX0_openHook 56 = .ok (.if_icmp .ne 7, 3) := by decide +kernel
theorem dX0_openHook_59 : decode cX0_openHook 59 = .ok (.iload_n 3, 1) := by decide +kernel
theorem dX0_openHook_60 : decode cX0_openHook 60 = .ok (.goto 4, 3) := by decide +kernel
theorem dX0_openHook_63 : decode cX0_openHook 63 = .ok (.iconst (-1), 1) := by decide +kernel
theorem dX0_openHook_64 : decode cX0_openHook 64 = .ok (.ireturn, 1) := by decide +kernel
set_option maxRecDepth 20000 in
theorem ggX0_looksForAll_X0_heldOn : GoodIn wsX0_looksForAll wsX0_heldOn := goodIn_r _ [6, 1, 7, 17, 18, 19, 20] (by decide +kernel) (by decide +kernel)
set_option maxRecDepth 20000 in
theorem gX0_looksForAll_X0_heldOn : GoodIn wsX0_looksForAll (wsV RX0 33 RX0 yX0_heldOn wsX0_heldOn) := goodIn_app (goodIn_of _ (by decide +kernel)) ggX0_looksForAll_X0_heldOn
set_option maxRecDepth 20000 in
theorem ggX0_looksForAll_X0_countLooks : GoodIn wsX0_looksForAll wsX0_countLooks := goodIn_r _ [11, 1, 12, 13, 14, 5, 15, 16, 2, 3, 4, 6, 7, 17, 18, 19, 20] (by decide +kernel) (by decide +kernel)
set_option maxRecDepth 20000 in
theorem gX0_looksForAll_X0_countLooks : GoodIn wsX0_looksForAll (wsV RX0 47 RX0 yX0_countLooks wsX0_countLooks) := goodIn_app (goodIn_of _ (by decide +kernel)) ggX0_looksForAll_X0_countLooks
theorem dX0_looksForAll_0 : decode cX0_looksForAll 0 = .ok (.iconst 0, 1) := by decide +kernel
theorem dX0_looksForAll_1 : decode cX0_looksForAll 1 = .ok (.istore_n 1, 1) := by decide +kernel
theorem dX0_looksForAll_2 : decode cX0_looksForAll 2 = .ok (.iconst 0, 1) := by decide +kernel
theorem dX0_looksForAll_3 : decode cX0_looksForAll 3 = .ok (.istore_n 2, 1) := by decide +kernel
theorem dX0_looksForAll_4 : decode cX0_looksForAll 4 = .ok (.iload_n 2, 1) := by decide +kernel
theorem dX0_looksForAll_5 : decode cX0_looksForAll 5 = .ok (.aload_n 0, 1) := by decide +kernel
theorem dX0_looksForAll_6 : decode cX0_looksForAll 6 = .ok (.getfield 22, 3) := by decide +kernel
theorem dX0_looksForAll_9 : decode cX0_looksForAll 9 = .ok (.if_icmp .ge 27, 3) := by decide +kernel
theorem dX0_looksForAll_12 : decode cX0_looksForAll 12 = .ok (.aload_n 0, 1) := by decide +kernel
theorem dX0_looksForAll_13 : decode cX0_looksForAll 13 = .ok (.iload_n 2, 1) := by decide +kernel
theorem dX0_looksForAll_14 : decode cX0_looksForAll 14 = .ok (.invokevirtual 33, 3) := by decide +kernel
theorem dX0_looksForAll_17 : decode cX0_looksForAll 17 = .ok (.istore_n 3, 1) := by decide +kernel
theorem dX0_looksForAll_18 : decode cX0_looksForAll 18 = .ok (.iload_n 3, 1) := by decide +kernel
theorem dX0_looksForAll_19 : decode cX0_looksForAll 19 = .ok (.ifCond .lt 11, 3) := by decide +kernel
theorem dX0_looksForAll_22 : decode cX0_looksForAll 22 = .ok (.iload_n 1, 1) := by decide +kernel
theorem dX0_looksForAll_23 : decode cX0_looksForAll 23 = .ok (.aload_n 0, 1) := by decide +kernel
theorem dX0_looksForAll_24 : decode cX0_looksForAll 24 = .ok (.iload_n 3, 1) := by decide +kernel
theorem dX0_looksForAll_25 : decode cX0_looksForAll 25 = .ok (.invokevirtual 47, 3) := by decide +kernel
theorem dX0_looksForAll_28 : decode cX0_looksForAll 28 = .ok (.iadd, 1) := by decide +kernel
theorem dX0_looksForAll_29 : decode cX0_looksForAll 29 = .ok (.istore_n 1, 1) := by decide +kernel
theorem dX0_looksForAll_30 : decode cX0_looksForAll 30 = .ok (.iinc 2 1, 3) := by decide +kernel
theorem dX0_looksForAll_33 : decode cX0_looksForAll 33 = .ok (.goto (-29), 3) := by decide +kernel
theorem dX0_looksForAll_36 : decode cX0_looksForAll 36 = .ok (.iload_n 1, 1) := by decide +kernel
theorem dX0_looksForAll_37 : decode cX0_looksForAll 37 = .ok (.ireturn, 1) := by decide +kernel
set_option maxRecDepth 20000 in
theorem ggX0_coatWithMostLooks_X0_heldOn : GoodIn wsX0_coatWithMostLooks wsX0_heldOn := goodIn_r _ [6, 1, 7, 17, 18, 19, 20] (by decide +kernel) (by decide +kernel)
set_option maxRecDepth 20000 in
theorem gX0_coatWithMostLooks_X0_heldOn : GoodIn wsX0_coatWithMostLooks (wsV RX0 33 RX0 yX0_heldOn wsX0_heldOn) := goodIn_app (goodIn_of _ (by decide +kernel)) ggX0_coatWithMostLooks_X0_heldOn
set_option maxRecDepth 20000 in
theorem ggX0_coatWithMostLooks_X0_countLooks : GoodIn wsX0_coatWithMostLooks wsX0_countLooks := goodIn_r _ [11, 1, 12, 13, 14, 5, 15, 16, 2, 3, 4, 6, 7, 17, 18, 19, 20] (by decide +kernel) (by decide +kernel)
set_option maxRecDepth 20000 in
theorem gX0_coatWithMostLooks_X0_countLooks : GoodIn wsX0_coatWithMostLooks (wsV RX0 47 RX0 yX0_countLooks wsX0_countLooks) := goodIn_app (goodIn_of _ (by decide +kernel)) ggX0_coatWithMostLooks_X0_countLooks
theorem dX0_coatWithMostLooks_0 : decode cX0_coatWithMostLooks 0 = .ok (.iconst (-1), 1) := by decide +kernel
theorem dX0_coatWithMostLooks_1 : decode cX0_coatWithMostLooks 1 = .ok (.istore_n 1, 1) := by decide +kernel
theorem dX0_coatWithMostLooks_2 : decode cX0_coatWithMostLooks 2 = .ok (.iconst 0, 1) := by decide +kernel
theorem dX0_coatWithMostLooks_3 : decode cX0_coatWithMostLooks 3 = .ok (.istore_n 2, 1) := by decide +kernel
theorem dX0_coatWithMostLooks_4 : decode cX0_coatWithMostLooks 4 = .ok (.iconst 0, 1) := by decide +kernel
theorem dX0_coatWithMostLooks_5 : decode cX0_coatWithMostLooks 5 = .ok (.istore_n 3, 1) := by decide +kernel
theorem dX0_coatWithMostLooks_6 : decode cX0_coatWithMostLooks 6 = .ok (.iload_n 3, 1) := by decide +kernel
theorem dX0_coatWithMostLooks_7 : decode cX0_coatWithMostLooks 7 = .ok (.aload_n 0, 1) := by decide +kernel
theorem dX0_coatWithMostLooks_8 : decode cX0_coatWithMostLooks 8 = .ok (.getfield 22, 3) := by decide +kernel
theorem dX0_coatWithMostLooks_11 : decode cX0_coatWithMostLooks 11 = .ok (.if_icmp .ge 45, 3) := by decide +kernel
theorem dX0_coatWithMostLooks_14 : decode cX0_coatWithMostLooks 14 = .ok (.aload_n 0, 1) := by decide +kernel
theorem dX0_coatWithMostLooks_15 : decode cX0_coatWithMostLooks 15 = .ok (.iload_n 3, 1) := by decide +kernel
theorem dX0_coatWithMostLooks_16 : decode cX0_coatWithMostLooks 16 = .ok (.invokevirtual 33, 3) := by decide +kernel
theorem dX0_coatWithMostLooks_19 : decode cX0_coatWithMostLooks 19 = .ok (.istore 4, 2) := by decide +kernel
theorem dX0_coatWithMostLooks_21 : decode cX0_coatWithMostLooks 21 = .ok (.iload 4, 2) := by decide +kernel
theorem dX0_coatWithMostLooks_23 : decode cX0_coatWithMostLooks 23 = .ok (.ifCond .lt 12, 3) := by decide +kernel
theorem dX0_coatWithMostLooks_26 : decode cX0_coatWithMostLooks 26 = .ok (.aload_n 0, 1) := by decide +kernel
theorem dX0_coatWithMostLooks_27 : decode cX0_coatWithMostLooks 27 = .ok (.iload 4, 2) := by decide +kernel
theorem dX0_coatWithMostLooks_29 : decode cX0_coatWithMostLooks 29 = .ok (.invokevirtual 47, 3) := by decide +kernel
theorem dX0_coatWithMostLooks_32 : decode cX0_coatWithMostLooks 32 = .ok (.goto 4, 3) := by decide +kernel
theorem dX0_coatWithMostLooks_35 : decode cX0_coatWithMostLooks 35 = .ok (.iconst 0, 1) := by decide +kernel
theorem dX0_coatWithMostLooks_36 : decode cX0_coatWithMostLooks 36 = .ok (.istore 5, 2) := by decide +kernel
theorem dX0_coatWithMostLooks_38 : decode cX0_coatWithMostLooks 38 = .ok (.iload 5, 2) := by decide +kernel
theorem dX0_coatWithMostLooks_40 : decode cX0_coatWithMostLooks 40 = .ok (.iload_n 2, 1) := by decide +kernel
theorem dX0_coatWithMostLooks_41 : decode cX0_coatWithMostLooks 41 = .ok (.if_icmp .le 9, 3) := by decide +kernel
theorem dX0_coatWithMostLooks_44 : decode cX0_coatWithMostLooks 44 = .ok (.iload 4, 2) := by decide +kernel
theorem dX0_coatWithMostLooks_46 : decode cX0_coatWithMostLooks 46 = .ok (.istore_n 1, 1) := by decide +kernel
theorem dX0_coatWithMostLooks_47 : decode cX0_coatWithMostLooks 47 = .ok (.iload 5, 2) := by decide +kernel
theorem dX0_coatWithMostLooks_49 : decode cX0_coatWithMostLooks 49 = .ok (.istore_n 2, 1) := by decide +kernel
theorem dX0_coatWithMostLooks_50 : decode cX0_coatWithMostLooks 50 = .ok (.iinc 3 1, 3) := by decide +kernel
theorem dX0_coatWithMostLooks_53 : decode cX0_coatWithMostLooks 53 = .ok (.goto (-47), 3) := by decide +kernel
theorem dX0_coatWithMostLooks_56 : decode cX0_coatWithMostLooks 56 = .ok (.iload_n 1, 1) := by decide +kernel
theorem dX0_coatWithMostLooks_57 : decode cX0_coatWithMostLooks 57 = .ok (.ireturn, 1) := by decide +kernel
theorem dX0_behind_0 : decode cX0_behind 0 = .ok (.iload_n 1, 1) := by decide +kernel
theorem dX0_behind_1 : decode cX0_behind 1 = .ok (.iconst 1, 1) := by decide +kernel
theorem dX0_behind_2 : decode cX0_behind 2 = .ok (.iadd, 1) := by decide +kernel
theorem dX0_behind_3 : decode cX0_behind 3 = .ok (.aload_n 0, 1) := by decide +kernel
theorem dX0_behind_4 : decode cX0_behind 4 = .ok (.getfield 22, 3) := by decide +kernel
theorem dX0_behind_7 : decode cX0_behind 7 = .ok (.if_icmp .ge 9, 3) := by decide +kernel
theorem dX0_behind_10 : decode cX0_behind 10 = .ok (.iload_n 1, 1) := by decide +kernel
theorem dX0_behind_11 : decode cX0_behind 11 = .ok (.iconst 1, 1) := by decide +kernel
theorem dX0_behind_12 : decode cX0_behind 12 = .ok (.iadd, 1) := by decide +kernel
theorem dX0_behind_13 : decode cX0_behind 13 = .ok (.goto 4, 3) := by decide +kernel
theorem dX0_behind_16 : decode cX0_behind 16 = .ok (.iconst 0, 1) := by decide +kernel
theorem dX0_behind_17 : decode cX0_behind 17 = .ok (.ireturn, 1) := by decide +kernel
theorem dX0_before_0 : decode cX0_before 0 = .ok (.iload_n 1, 1) := by decide +kernel
theorem dX0_before_1 : decode cX0_before 1 = .ok (.ifCond .le 9, 3) := by decide +kernel
theorem dX0_before_4 : decode cX0_before 4 = .ok (.iload_n 1, 1) := by decide +kernel
theorem dX0_before_5 : decode cX0_before 5 = .ok (.iconst 1, 1) := by decide +kernel
theorem dX0_before_6 : decode cX0_before 6 = .ok (.isub, 1) := by decide +kernel
theorem dX0_before_7 : decode cX0_before 7 = .ok (.goto 9, 3) := by decide +kernel
theorem dX0_before_10 : decode cX0_before 10 = .ok (.aload_n 0, 1) := by decide +kernel
theorem dX0_before_11 : decode cX0_before 11 = .ok (.getfield 22, 3) := by decide +kernel
theorem dX0_before_14 : decode cX0_before 14 = .ok (.iconst 1, 1) := by decide +kernel
theorem dX0_before_15 : decode cX0_before 15 = .ok (.isub, 1) := by decide +kernel
theorem dX0_before_16 : decode cX0_before 16 = .ok (.ireturn, 1) := by decide +kernel
set_option maxRecDepth 20000 in
theorem ggX0_freeAll_X0_clear : GoodIn wsX0_freeAll wsX0_clear := goodIn_r _ [7, 1, 2, 8, 9, 10, 11, 6, 12, 13, 14, 15, 16, 17] (by decide +kernel) (by decide +kernel)
set_option maxRecDepth 20000 in
theorem gX0_freeAll_X0_clear : GoodIn wsX0_freeAll (wsV RX0 18 RX0 yX0_clear wsX0_clear) := goodIn_app (goodIn_of _ (by decide +kernel)) ggX0_freeAll_X0_clear
theorem dX0_freeAll_0 : decode cX0_freeAll 0 = .ok (.aload_n 0, 1) := by decide +kernel
theorem dX0_freeAll_1 : decode cX0_freeAll 1 = .ok (.getfield 22, 3) := by decide +kernel
theorem dX0_freeAll_4 : decode cX0_freeAll 4 = .ok (.istore_n 1, 1) := by decide +kernel
theorem dX0_freeAll_5 : decode cX0_freeAll 5 = .ok (.aload_n 0, 1) := by decide +kernel
theorem dX0_freeAll_6 : decode cX0_freeAll 6 = .ok (.aload_n 0, 1) := by decide +kernel
theorem dX0_freeAll_7 : decode cX0_freeAll 7 = .ok (.getfield 22, 3) := by decide +kernel
theorem dX0_freeAll_10 : decode cX0_freeAll 10 = .ok (.aload_n 0, 1) := by decide +kernel
theorem dX0_freeAll_11 : decode cX0_freeAll 11 = .ok (.getfield 26, 3) := by decide +kernel
theorem dX0_freeAll_14 : decode cX0_freeAll 14 = .ok (.invokevirtual 18, 3) := by decide +kernel
theorem dX0_freeAll_17 : decode cX0_freeAll 17 = .ok (.iload_n 1, 1) := by decide +kernel
theorem dX0_freeAll_18 : decode cX0_freeAll 18 = .ok (.ireturn, 1) := by decide +kernel
set_option maxRecDepth 20000 in
theorem ggX0_freeSweptTickets_X0_heldOn : GoodIn wsX0_freeSweptTickets wsX0_heldOn := goodIn_r _ [6, 1, 7, 21, 22, 23, 24] (by decide +kernel) (by decide +kernel)
set_option maxRecDepth 20000 in
theorem gX0_freeSweptTickets_X0_heldOn : GoodIn wsX0_freeSweptTickets (wsV RX0 33 RX0 yX0_heldOn wsX0_heldOn) := goodIn_app (goodIn_of _ (by decide +kernel)) ggX0_freeSweptTickets_X0_heldOn
set_option maxRecDepth 20000 in
theorem ggX0_freeSweptTickets_X0_behind : GoodIn wsX0_freeSweptTickets wsX0_behind := goodIn_r _ [11, 1, 21, 22, 23, 24] (by decide +kernel) (by decide +kernel)
set_option maxRecDepth 20000 in
theorem gX0_freeSweptTickets_X0_behind : GoodIn wsX0_freeSweptTickets (wsV RX0 57 RX0 yX0_behind wsX0_behind) := goodIn_app (goodIn_of _ (by decide +kernel)) ggX0_freeSweptTickets_X0_behind
set_option maxRecDepth 20000 in
theorem ggX0_freeSweptTickets_X0_put : GoodIn wsX0_freeSweptTickets wsX0_put := goodIn_r _ [15, 7, 16, 21, 22, 23, 24] (by decide +kernel) (by decide +kernel)
set_option maxRecDepth 20000 in
theorem gX0_freeSweptTickets_X0_put : GoodIn wsX0_freeSweptTickets (wsV RX0 29 RX0 yX0_put wsX0_put) := goodIn_app (goodIn_of _ (by decide +kernel)) ggX0_freeSweptTickets_X0_put
set_option maxRecDepth 20000 in
theorem ggX0_freeSweptTickets_X0_before : GoodIn wsX0_freeSweptTickets wsX0_before := goodIn_r _ [20, 1, 21, 22, 23, 24] (by decide +kernel) (by decide +kernel)
set_option maxRecDepth 20000 in
theorem gX0_freeSweptTickets_X0_before : GoodIn wsX0_freeSweptTickets (wsV RX0 60 RX0 yX0_before wsX0_before) := goodIn_app (goodIn_of _ (by decide +kernel)) ggX0_freeSweptTickets_X0_before
theorem dX0_freeSweptTickets_0 : decode cX0_freeSweptTickets 0 = .ok (.iconst 0, 1) := by decide +kernel
theorem dX0_freeSweptTickets_1 : decode cX0_freeSweptTickets 1 = .ok (.istore_n 1, 1) := by decide +kernel
theorem dX0_freeSweptTickets_2 : decode cX0_freeSweptTickets 2 = .ok (.aload_n 0, 1) := by decide +kernel
theorem dX0_freeSweptTickets_3 : decode cX0_freeSweptTickets 3 = .ok (.getfield 22, 3) := by decide +kernel
theorem dX0_freeSweptTickets_6 : decode cX0_freeSweptTickets 6 = .ok (.iconst 1, 1) := by decide +kernel
theorem dX0_freeSweptTickets_7 : decode cX0_freeSweptTickets 7 = .ok (.isub, 1) := by decide +kernel
theorem dX0_freeSweptTickets_8 : decode cX0_freeSweptTickets 8 = .ok (.istore_n 2, 1) := by decide +kernel
theorem dX0_freeSweptTickets_9 : decode cX0_freeSweptTickets 9 = .ok (.iconst 0, 1) := by decide +kernel
theorem dX0_freeSweptTickets_10 : decode cX0_freeSweptTickets 10 = .ok (.istore_n 3, 1) := by decide +kernel
theorem dX0_freeSweptTickets_11 : decode cX0_freeSweptTickets 11 = .ok (.iload_n 3, 1) := by decide +kernel
theorem dX0_freeSweptTickets_12 : decode cX0_freeSweptTickets 12 = .ok (.iconst 2, 1) := by decide +kernel
theorem dX0_freeSweptTickets_13 : decode cX0_freeSweptTickets 13 = .ok (.aload_n 0, 1) := by decide +kernel
theorem dX0_freeSweptTickets_14 : decode cX0_freeSweptTickets 14 = .ok (.getfield 22, 3) := by decide +kernel
theorem dX0_freeSweptTickets_17 : decode cX0_freeSweptTickets 17 = .ok (.imul, 1) := by decide +kernel
theorem dX0_freeSweptTickets_18 : decode cX0_freeSweptTickets 18 = .ok (.if_icmp .ge 48, 3) := by decide +kernel
theorem dX0_freeSweptTickets_21 : decode cX0_freeSweptTickets 21 = .ok (.aload_n 0, 1) := by decide +kernel
theorem dX0_freeSweptTickets_22 : decode cX0_freeSweptTickets 22 = .ok (.iload_n 2, 1) := by decide +kernel
theorem dX0_freeSweptTickets_23 : decode cX0_freeSweptTickets 23 = .ok (.invokevirtual 33, 3) := by decide +kernel
theorem dX0_freeSweptTickets_26 : decode cX0_freeSweptTickets 26 = .ok (.bipush (-2), 2) := by decide +kernel
theorem dX0_freeSweptTickets_28 : decode cX0_freeSweptTickets 28 = .ok (.if_icmp .ne 26, 3) := by decide +kernel
theorem dX0_freeSweptTickets_31 : decode cX0_freeSweptTickets 31 = .ok (.aload_n 0, 1) := by decide +kernel
theorem dX0_freeSweptTickets_32 : decode cX0_freeSweptTickets 32 = .ok (.aload_n 0, 1) := by decide +kernel
theorem dX0_freeSweptTickets_33 : decode cX0_freeSweptTickets 33 = .ok (.iload_n 2, 1) := by decide +kernel
theorem dX0_freeSweptTickets_34 : decode cX0_freeSweptTickets 34 = .ok (.invokevirtual 57, 3) := by decide +kernel
theorem dX0_freeSweptTickets_37 : decode cX0_freeSweptTickets 37 = .ok (.invokevirtual 33, 3) := by decide +kernel
theorem dX0_freeSweptTickets_40 : decode cX0_freeSweptTickets 40 = .ok (.iconst (-1), 1) := by decide +kernel
theorem dX0_freeSweptTickets_41 : decode cX0_freeSweptTickets 41 = .ok (.if_icmp .ne 13, 3) := by decide +kernel
theorem dX0_freeSweptTickets_44 : decode cX0_freeSweptTickets 44 = .ok (.aload_n 0, 1) := by decide +kernel
theorem dX0_freeSweptTickets_45 : decode cX0_freeSweptTickets 45 = .ok (.iload_n 2, 1) := by decide +kernel
theorem dX0_freeSweptTickets_46 : decode cX0_freeSweptTickets 46 = .ok (.iconst (-1), 1) := by decide +kernel
theorem dX0_freeSweptTickets_47 : decode cX0_freeSweptTickets 47 = .ok (.iconst 0, 1) := by decide +kernel
theorem dX0_freeSweptTickets_48 : decode cX0_freeSweptTickets 48 = .ok (.invokevirtual 29, 3) := by decide +kernel
theorem dX0_freeSweptTickets_51 : decode cX0_freeSweptTickets 51 = .ok (.iinc 1 1, 3) := by decide +kernel
theorem dX0_freeSweptTickets_54 : decode cX0_freeSweptTickets 54 = .ok (.aload_n 0, 1) := by decide +kernel
theorem dX0_freeSweptTickets_55 : decode cX0_freeSweptTickets 55 = .ok (.iload_n 2, 1) := by decide +kernel
theorem dX0_freeSweptTickets_56 : decode cX0_freeSweptTickets 56 = .ok (.invokevirtual 60, 3) := by decide +kernel
theorem dX0_freeSweptTickets_59 : decode cX0_freeSweptTickets 59 = .ok (.istore_n 2, 1) := by decide +kernel
theorem dX0_freeSweptTickets_60 : decode cX0_freeSweptTickets 60 = .ok (.iinc 3 1, 3) := by decide +kernel
theorem dX0_freeSweptTickets_63 : decode cX0_freeSweptTickets 63 = .ok (.goto (-52), 3) := by decide +kernel
theorem dX0_freeSweptTickets_66 : decode cX0_freeSweptTickets 66 = .ok (.iload_n 1, 1) := by decide +kernel
theorem dX0_freeSweptTickets_67 : decode cX0_freeSweptTickets 67 = .ok (.ireturn, 1) := by decide +kernel
set_option maxRecDepth 20000 in
theorem ggX0_rowLength_X0_heldOn : GoodIn wsX0_rowLength wsX0_heldOn := goodIn_r _ [6, 1, 7, 16, 17, 18, 19] (by decide +kernel) (by decide +kernel)
set_option maxRecDepth 20000 in
theorem gX0_rowLength_X0_heldOn : GoodIn wsX0_rowLength (wsV RX0 33 RX0 yX0_heldOn wsX0_heldOn) := goodIn_app (goodIn_of _ (by decide +kernel)) ggX0_rowLength_X0_heldOn
set_option maxRecDepth 20000 in
theorem ggX0_rowLength_X0_behind : GoodIn wsX0_rowLength wsX0_behind := goodIn_r _ [11, 1, 16, 17, 18, 19] (by decide +kernel) (by decide +kernel)
set_option maxRecDepth 20000 in
theorem gX0_rowLength_X0_behind : GoodIn wsX0_rowLength (wsV RX0 57 RX0 yX0_behind wsX0_behind) := goodIn_app (goodIn_of _ (by decide +kernel)) ggX0_rowLength_X0_behind
set_option maxRecDepth 20000 in
theorem ggX0_rowLength_X0_before : GoodIn wsX0_rowLength wsX0_before := goodIn_r _ [15, 1, 16, 17, 18, 19] (by decide +kernel) (by decide +kernel)
set_option maxRecDepth 20000 in
theorem gX0_rowLength_X0_before : GoodIn wsX0_rowLength (wsV RX0 60 RX0 yX0_before wsX0_before) := goodIn_app (goodIn_of _ (by decide +kernel)) ggX0_rowLength_X0_before
theorem dX0_rowLength_0 : decode cX0_rowLength 0 = .ok (.aload_n 0, 1) := by decide +kernel
theorem dX0_rowLength_1 : decode cX0_rowLength 1 = .ok (.iload_n 1, 1) := by decide +kernel
theorem dX0_rowLength_2 : decode cX0_rowLength 2 = .ok (.invokevirtual 33, 3) := by decide +kernel
theorem dX0_rowLength_5 : decode cX0_rowLength 5 = .ok (.iconst (-1), 1) := by decide +kernel
theorem dX0_rowLength_6 : decode cX0_rowLength 6 = .ok (.if_icmp .ne 5, 3) := by decide +kernel
theorem dX0_rowLength_9 : decode cX0_rowLength 9 = .ok (.iconst 0, 1) := by decide +kernel
theorem dX0_rowLength_10 : decode cX0_rowLength 10 = .ok (.ireturn, 1) := by decide +kernel
theorem dX0_rowLength_11 : decode cX0_rowLength 11 = .ok (.iconst 1, 1) := by decide +kernel
theorem dX0_rowLength_12 : decode cX0_rowLength 12 = .ok (.istore_n 2, 1) := by decide +kernel
theorem dX0_rowLength_13 : decode cX0_rowLength 13 = .ok (.aload_n 0, 1) := by decide +kernel
theorem dX0_rowLength_14 : decode cX0_rowLength 14 = .ok (.iload_n 1, 1) := by decide +kernel
theorem dX0_rowLength_15 : decode cX0_rowLength 15 = .ok (.invokevirtual 57, 3) := by decide +kernel
theorem dX0_rowLength_18 : decode cX0_rowLength 18 = .ok (.istore_n 3, 1) := by decide +kernel
theorem dX0_rowLength_19 : decode cX0_rowLength 19 = .ok (.iload_n 2, 1) := by decide +kernel
theorem dX0_rowLength_20 : decode cX0_rowLength 20 = .ok (.aload_n 0, 1) := by decide +kernel
theorem dX0_rowLength_21 : decode cX0_rowLength 21 = .ok (.getfield 22, 3) := by decide +kernel
theorem dX0_rowLength_24 : decode cX0_rowLength 24 = .ok (.if_icmp .ge 24, 3) := by decide +kernel
theorem dX0_rowLength_27 : decode cX0_rowLength 27 = .ok (.aload_n 0, 1) := by decide +kernel
theorem dX0_rowLength_28 : decode cX0_rowLength 28 = .ok (.iload_n 3, 1) := by decide +kernel
theorem dX0_rowLength_29 : decode cX0_rowLength 29 = .ok (.invokevirtual 33, 3) := by decide +kernel
theorem dX0_rowLength_32 : decode cX0_rowLength 32 = .ok (.iconst (-1), 1) := by decide +kernel
theorem dX0_rowLength_33 : decode cX0_rowLength 33 = .ok (.if_icmp .eq 15, 3) := by decide +kernel
theorem dX0_rowLength_36 : decode cX0_rowLength 36 = .ok (.iinc 2 1, 3) := by decide +kernel
theorem dX0_rowLength_39 : decode cX0_rowLength 39 = .ok (.aload_n 0, 1) := by decide +kernel
theorem dX0_rowLength_40 : decode cX0_rowLength 40 = .ok (.iload_n 3, 1) := by decide +kernel
theorem dX0_rowLength_41 : decode cX0_rowLength 41 = .ok (.invokevirtual 57, 3) := by decide +kernel
theorem dX0_rowLength_44 : decode cX0_rowLength 44 = .ok (.istore_n 3, 1) := by decide +kernel
theorem dX0_rowLength_45 : decode cX0_rowLength 45 = .ok (.goto (-26), 3) := by decide +kernel
theorem dX0_rowLength_48 : decode cX0_rowLength 48 = .ok (.aload_n 0, 1) := by decide +kernel
theorem dX0_rowLength_49 : decode cX0_rowLength 49 = .ok (.iload_n 1, 1) := by decide +kernel
theorem dX0_rowLength_50 : decode cX0_rowLength 50 = .ok (.invokevirtual 60, 3) := by decide +kernel
theorem dX0_rowLength_53 : decode cX0_rowLength 53 = .ok (.istore 4, 2) := by decide +kernel
theorem dX0_rowLength_55 : decode cX0_rowLength 55 = .ok (.iload_n 2, 1) := by decide +kernel
theorem dX0_rowLength_56 : decode cX0_rowLength 56 = .ok (.aload_n 0, 1) := by decide +kernel
theorem dX0_rowLength_57 : decode cX0_rowLength 57 = .ok (.getfield 22, 3) := by decide +kernel
theorem dX0_rowLength_60 : decode cX0_rowLength 60 = .ok (.if_icmp .ge 27, 3) := by decide +kernel
theorem dX0_rowLength_63 : decode cX0_rowLength 63 = .ok (.aload_n 0, 1) := by decide +kernel
theorem dX0_rowLength_64 : decode cX0_rowLength 64 = .ok (.iload 4, 2) := by decide +kernel
theorem dX0_rowLength_66 : decode cX0_rowLength 66 = .ok (.invokevirtual 33, 3) := by decide +kernel
theorem dX0_rowLength_69 : decode cX0_rowLength 69 = .ok (.iconst (-1), 1) := by decide +kernel
theorem dX0_rowLength_70 : decode cX0_rowLength 70 = .ok (.if_icmp .eq 17, 3) := by decide +kernel
theorem dX0_rowLength_73 : decode cX0_rowLength 73 = .ok (.iinc 2 1, 3) := by decide +kernel
theorem dX0_rowLength_76 : decode cX0_rowLength 76 = .ok (.aload_n 0, 1) := by decide +kernel
theorem dX0_rowLength_77 : decode cX0_rowLength 77 = .ok (.iload 4, 2) := by decide +kernel
theorem dX0_rowLength_79 : decode cX0_rowLength 79 = .ok (.invokevirtual 60, 3) := by decide +kernel
theorem dX0_rowLength_82 : decode cX0_rowLength 82 = .ok (.istore 4, 2) := by decide +kernel
theorem dX0_rowLength_84 : decode cX0_rowLength 84 = .ok (.goto (-29), 3) := by decide +kernel
theorem dX0_rowLength_87 : decode cX0_rowLength 87 = .ok (.iload_n 2, 1) := by decide +kernel
theorem dX0_rowLength_88 : decode cX0_rowLength 88 = .ok (.ireturn, 1) := by decide +kernel
set_option maxRecDepth 20000 in
theorem ggX0_rowCount_X0_heldOn : GoodIn wsX0_rowCount wsX0_heldOn := goodIn_r _ [6, 1, 7, 12, 13, 14, 15] (by decide +kernel) (by decide +kernel)
set_option maxRecDepth 20000 in
theorem gX0_rowCount_X0_heldOn : GoodIn wsX0_rowCount (wsV RX0 33 RX0 yX0_heldOn wsX0_heldOn) := goodIn_app (goodIn_of _ (by decide +kernel)) ggX0_rowCount_X0_heldOn
set_option maxRecDepth 20000 in
theorem ggX0_rowCount_X0_behind : GoodIn wsX0_rowCount wsX0_behind := goodIn_r _ [11, 1, 12, 13, 14, 15] (by decide +kernel) (by decide +kernel)
set_option maxRecDepth 20000 in
theorem gX0_rowCount_X0_behind : GoodIn wsX0_rowCount (wsV RX0 57 RX0 yX0_behind wsX0_behind) := goodIn_app (goodIn_of _ (by decide +kernel)) ggX0_rowCount_X0_behind
theorem dX0_rowCount_0 : decode cX0_rowCount 0 = .ok (.iconst 0, 1) := by decide +kernel
theorem dX0_rowCount_1 : decode cX0_rowCount 1 = .ok (.istore_n 1, 1) := by decide +kernel
theorem dX0_rowCount_2 : decode cX0_rowCount 2 = .ok (.iconst 0, 1) := by decide +kernel
theorem dX0_rowCount_3 : decode cX0_rowCount 3 = .ok (.istore_n 2, 1) := by decide +kernel
theorem dX0_rowCount_4 : decode cX0_rowCount 4 = .ok (.iconst 0, 1) := by decide +kernel
theorem dX0_rowCount_5 : decode cX0_rowCount 5 = .ok (.istore_n 3, 1) := by decide +kernel
theorem dX0_rowCount_6 : decode cX0_rowCount 6 = .ok (.iload_n 3, 1) := by decide +kernel
theorem dX0_rowCount_7 : decode cX0_rowCount 7 = .ok (.aload_n 0, 1) := by decide +kernel
theorem dX0_rowCount_8 : decode cX0_rowCount 8 = .ok (.getfield 22, 3) := by decide +kernel
theorem dX0_rowCount_11 : decode cX0_rowCount 11 = .ok (.if_icmp .ge 42, 3) := by decide +kernel
theorem dX0_rowCount_14 : decode cX0_rowCount 14 = .ok (.aload_n 0, 1) := by decide +kernel
theorem dX0_rowCount_15 : decode cX0_rowCount 15 = .ok (.iload_n 3, 1) := by decide +kernel
theorem dX0_rowCount_16 : decode cX0_rowCount 16 = .ok (.invokevirtual 33, 3) := by decide +kernel
theorem dX0_rowCount_19 : decode cX0_rowCount 19 = .ok (.iconst (-1), 1) := by decide +kernel
theorem dX0_rowCount_20 : decode cX0_rowCount 20 = .ok (.if_icmp .eq 27, 3) := by decide +kernel
theorem dX0_rowCount_23 : decode cX0_rowCount 23 = .ok (.iinc 2 1, 3) := by decide +kernel
theorem dX0_rowCount_26 : decode cX0_rowCount 26 = .ok (.iload_n 1, 1) := by decide +kernel
theorem dX0_rowCount_27 : decode cX0_rowCount 27 = .ok (.aload_n 0, 1) := by decide +kernel
theorem dX0_rowCount_28 : decode cX0_rowCount 28 = .ok (.aload_n 0, 1) := by decide +kernel
theorem dX0_rowCount_29 : decode cX0_rowCount 29 = .ok (.iload_n 3, 1) := by decide +kernel
theorem dX0_rowCount_30 : decode cX0_rowCount 30 = .ok (.invokevirtual 57, 3) := by decide +kernel
theorem dX0_rowCount_33 : decode cX0_rowCount 33 = .ok (.invokevirtual 33, 3) := by decide +kernel
theorem dX0_rowCount_36 : decode cX0_rowCount 36 = .ok (.iconst (-1), 1) := by decide +kernel
theorem dX0_rowCount_37 : decode cX0_rowCount 37 = .ok (.if_icmp .ne 7, 3) := by decide +kernel
theorem dX0_rowCount_40 : decode cX0_rowCount 40 = .ok (.iconst 1, 1) := by decide +kernel
theorem dX0_rowCount_41 : decode cX0_rowCount 41 = .ok (.goto 4, 3) := by decide +kernel
theorem dX0_rowCount_44 : decode cX0_rowCount 44 = .ok (.iconst 0, 1) := by decide +kernel
theorem dX0_rowCount_45 : decode cX0_rowCount 45 = .ok (.iadd, 1) := by decide +kernel
theorem dX0_rowCount_46 : decode cX0_rowCount 46 = .ok (.istore_n 1, 1) := by decide +kernel
theorem dX0_rowCount_47 : decode cX0_rowCount 47 = .ok (.iinc 3 1, 3) := by decide +kernel
theorem dX0_rowCount_50 : decode cX0_rowCount 50 = .ok (.goto (-44), 3) := by decide +kernel
theorem dX0_rowCount_53 : decode cX0_rowCount 53 = .ok (.iload_n 2, 1) := by decide +kernel
theorem dX0_rowCount_54 : decode cX0_rowCount 54 = .ok (.aload_n 0, 1) := by decide +kernel
theorem dX0_rowCount_55 : decode cX0_rowCount 55 = .ok (.getfield 22, 3) := by decide +kernel
theorem dX0_rowCount_58 : decode cX0_rowCount 58 = .ok (.if_icmp .ne 7, 3) := by decide +kernel
theorem dX0_rowCount_61 : decode cX0_rowCount 61 = .ok (.iconst 1, 1) := by decide +kernel
theorem dX0_rowCount_62 : decode cX0_rowCount 62 = .ok (.goto 4, 3) := by decide +kernel
theorem dX0_rowCount_65 : decode cX0_rowCount 65 = .ok (.iload_n 1, 1) := by decide +kernel
theorem dX0_rowCount_66 : decode cX0_rowCount 66 = .ok (.ireturn, 1) := by decide +kernel
set_option maxRecDepth 20000 in
theorem ggX0_longestRowLength_X0_rowLength : GoodIn wsX0_longestRowLength wsX0_rowLength := goodIn_r _ [6, 1, 7, 8, 9, 5, 10, 11, 12, 13, 14, 15, 16, 17, 18, 19, 20, 21, 22, 23] (by decide +kernel) (by decide +kernel)
set_option maxRecDepth 20000 in
theorem gX0_longestRowLength_X0_rowLength : GoodIn wsX0_longestRowLength (wsV RX0 63 RX0 yX0_rowLength wsX0_rowLength) := goodIn_app (goodIn_of _ (by decide +kernel)) ggX0_longestRowLength_X0_rowLength
theorem dX0_longestRowLength_0 : decode cX0_longestRowLength 0 = .ok (.iconst 0, 1) := by decide +kernel
theorem dX0_longestRowLength_1 : decode cX0_longestRowLength 1 = .ok (.istore_n 1, 1) := by decide +kernel
theorem dX0_longestRowLength_2 : decode cX0_longestRowLength 2 = .ok (.iconst 0, 1) := by decide +kernel
theorem dX0_longestRowLength_3 : decode cX0_longestRowLength 3 = .ok (.istore_n 2, 1) := by decide +kernel
theorem dX0_longestRowLength_4 : decode cX0_longestRowLength 4 = .ok (.iload_n 2, 1) := by decide +kernel
theorem dX0_longestRowLength_5 : decode cX0_longestRowLength 5 = .ok (.aload_n 0, 1) := by decide +kernel
theorem dX0_longestRowLength_6 : decode cX0_longestRowLength 6 = .ok (.getfield 22, 3) := by decide +kernel
theorem dX0_longestRowLength_9 : decode cX0_longestRowLength 9 = .ok (.if_icmp .ge 26, 3) := by decide +kernel
theorem dX0_longestRowLength_12 : decode cX0_longestRowLength 12 = .ok (.aload_n 0, 1) := by decide +kernel
theorem dX0_longestRowLength_13 : decode cX0_longestRowLength 13 = .ok (.iload_n 2, 1) := by decide +kernel
theorem dX0_longestRowLength_14 : decode cX0_longestRowLength 14 = .ok (.invokevirtual 63, 3) := by decide +kernel
theorem dX0_longestRowLength_17 : decode cX0_longestRowLength 17 = .ok (.istore_n 3, 1) := by decide +kernel
theorem dX0_longestRowLength_18 : decode cX0_longestRowLength 18 = .ok (.iload_n 3, 1) := by decide +kernel
theorem dX0_longestRowLength_19 : decode cX0_longestRowLength 19 = .ok (.iload_n 1, 1) := by decide +kernel
theorem dX0_longestRowLength_20 : decode cX0_longestRowLength 20 = .ok (.if_icmp .le 7, 3) := by decide +kernel
theorem dX0_longestRowLength_23 : decode cX0_longestRowLength 23 = .ok (.iload_n 3, 1) := by decide +kernel
theorem dX0_longestRowLength_24 : decode cX0_longestRowLength 24 = .ok (.goto 4, 3) := by decide +kernel
theorem dX0_longestRowLength_27 : decode cX0_longestRowLength 27 = .ok (.iload_n 1, 1) := by decide +kernel
theorem dX0_longestRowLength_28 : decode cX0_longestRowLength 28 = .ok (.istore_n 1, 1) := by decide +kernel
theorem dX0_longestRowLength_29 : decode cX0_longestRowLength 29 = .ok (.iinc 2 1, 3) := by decide +kernel
theorem dX0_longestRowLength_32 : decode cX0_longestRowLength 32 = .ok (.goto (-28), 3) := by decide +kernel
theorem dX0_longestRowLength_35 : decode cX0_longestRowLength 35 = .ok (.iload_n 1, 1) := by decide +kernel
theorem dX0_longestRowLength_36 : decode cX0_longestRowLength 36 = .ok (.ireturn, 1) := by decide +kernel
set_option maxRecDepth 20000 in
theorem ggX1_init_X0_init : GoodIn wsX1_init wsX0_init := goodIn_r _ [11, 12, 2, 3, 13, 14, 15, 16, 17, 18, 6, 19, 20, 21, 22, 23, 24, 25, 26, 27, 28, 29] (by decide +kernel) (by decide +kernel)
set_option maxRecDepth 20000 in
theorem gX1_init_X0_init : GoodIn wsX1_init (wsX0_init) := ggX1_init_X0_init
