theorem dX2_init_0 : decode cX2_init 0 = .ok (.aload_n 0, 1) := by decide +kernel
theorem dX2_init_1 : decode cX2_init 1 = .ok (.invokespecial 1, 3) := by decide +kernel
theorem dX2_init_4 : decode cX2_init 4 = .ok (.aload_n 0, 1) := by decide +kernel
theorem dX2_init_5 : decode cX2_init 5 = .ok (.bipush 8, 2) := by decide +kernel
theorem dX2_init_7 : decode cX2_init 7 = .ok (.putfield 7, 3) := by decide +kernel
theorem dX2_init_10 : decode cX2_init 10 = .ok (.aload_n 0, 1) := by decide +kernel
theorem dX2_init_11 : decode cX2_init 11 = .ok (.bipush 40, 2) := by decide +kernel
theorem dX2_init_13 : decode cX2_init 13 = .ok (.newarray .int, 2) := by decide +kernel
theorem dX2_init_15 : decode cX2_init 15 = .ok (.putfield 13, 3) := by decide +kernel
theorem dX2_init_18 : decode cX2_init 18 = .ok (.aload_n 0, 1) := by decide +kernel
theorem dX2_init_19 : decode cX2_init 19 = .ok (.bipush 40, 2) := by decide +kernel
theorem dX2_init_21 : decode cX2_init 21 = .ok (.newarray .int, 2) := by decide +kernel
theorem dX2_init_23 : decode cX2_init 23 = .ok (.putfield 17, 3) := by decide +kernel
theorem dX2_init_26 : decode cX2_init 26 = .ok (.aload_n 0, 1) := by decide +kernel
theorem dX2_init_27 : decode cX2_init 27 = .ok (.bipush 40, 2) := by decide +kernel
theorem dX2_init_29 : decode cX2_init 29 = .ok (.newarray .int, 2) := by decide +kernel
theorem dX2_init_31 : decode cX2_init 31 = .ok (.putfield 20, 3) := by decide +kernel
theorem dX2_init_34 : decode cX2_init 34 = .ok (.aload_n 0, 1) := by decide +kernel
theorem dX2_init_35 : decode cX2_init 35 = .ok (.bipush 40, 2) := by decide +kernel
theorem dX2_init_37 : decode cX2_init 37 = .ok (.newarray .int, 2) := by decide +kernel
theorem dX2_init_39 : decode cX2_init 39 = .ok (.putfield 23, 3) := by decide +kernel
theorem dX2_init_42 : decode cX2_init 42 = .ok (.aload_n 0, 1) := by decide +kernel
theorem dX2_init_43 : decode cX2_init 43 = .ok (.getfield 13, 3) := by decide +kernel
theorem dX2_init_46 : decode cX2_init 46 = .ok (.aload_n 0, 1) := by decide +kernel
theorem dX2_init_47 : decode cX2_init 47 = .ok (.getfield 7, 3) := by decide +kernel
theorem dX2_init_50 : decode cX2_init 50 = .ok (.invokestatic 26, 3) := by decide +kernel
theorem dX2_init_53 : decode cX2_init 53 = .ok (.return_, 1) := by decide +kernel
theorem dX2_thrown_0 : decode cX2_thrown 0 = .ok (.aload_n 0, 1) := by decide +kernel
theorem dX2_thrown_1 : decode cX2_thrown 1 = .ok (.getfield 30, 3) := by decide +kernel
theorem dX2_thrown_4 : decode cX2_thrown 4 = .ok (.ireturn, 1) := by decide +kernel
theorem dX2_no_0 : decode cX2_no 0 = .ok (.aload_n 0, 1) := by decide +kernel
theorem dX2_no_1 : decode cX2_no 1 = .ok (.iload_n 1, 1) := by decide +kernel
theorem dX2_no_2 : decode cX2_no 2 = .ok (.putfield 30, 3) := by decide +kernel
theorem dX2_no_5 : decode cX2_no 5 = .ok (.iconst 0, 1) := by decide +kernel
theorem dX2_no_6 : decode cX2_no 6 = .ok (.ireturn, 1) := by decide +kernel
theorem dX2_ok_0 : decode cX2_ok 0 = .ok (.aload_n 0, 1) := by decide +kernel
theorem dX2_ok_1 : decode cX2_ok 1 = .ok (.iconst 0, 1) := by decide +kernel
theorem dX2_ok_2 : decode cX2_ok 2 = .ok (.putfield 30, 3) := by decide +kernel
theorem dX2_ok_5 : decode cX2_ok 5 = .ok (.iload_n 1, 1) := by decide +kernel
theorem dX2_ok_6 : decode cX2_ok 6 = .ok (.ireturn, 1) := by decide +kernel
theorem dX2_isIn_0 : decode cX2_isIn 0 = .ok (.iload_n 0, 1) := by decide +kernel
theorem dX2_isIn_1 : decode cX2_isIn 1 = .ok (.iload_n 1, 1) := by decide +kernel
theorem dX2_isIn_2 : decode cX2_isIn 2 = .ok (.if_icmp .lt 12, 3) := by decide +kernel
theorem dX2_isIn_5 : decode cX2_isIn 5 = .ok (.iload_n 0, 1) := by decide +kernel
theorem dX2_isIn_6 : decode cX2_isIn 6 = .ok (.iload_n 2, 1) := by decide +kernel
theorem dX2_isIn_7 : decode cX2_isIn 7 = .ok (.if_icmp .gt 7, 3) := by decide +kernel
theorem dX2_isIn_10 : decode cX2_isIn 10 = .ok (.iconst 1, 1) := by decide +kernel
theorem dX2_isIn_11 : decode cX2_isIn 11 = .ok (.goto 4, 3) := by decide +kernel
theorem dX2_isIn_14 : decode cX2_isIn 14 = .ok (.iconst 0, 1) := by decide +kernel
theorem dX2_isIn_15 : decode cX2_isIn 15 = .ok (.ireturn, 1) := by decide +kernel
set_option maxRecDepth 20000 in
theorem ggX2_isNumber_X2_isIn : GoodIn wsX2_isNumber wsX2_isIn := goodIn_r _ [4] (by decide +kernel) (by decide +kernel)
set_option maxRecDepth 20000 in
theorem gX2_isNumber_X2_isIn : GoodIn wsX2_isNumber (va_wsS RX2 33 yX2_isIn wsX2_isIn) := goodIn_app (goodIn_of _ (by decide +kernel)) ggX2_isNumber_X2_isIn
theorem dX2_isNumber_0 : decode cX2_isNumber 0 = .ok (.iload_n 0, 1) := by decide +kernel
theorem dX2_isNumber_1 : decode cX2_isNumber 1 = .ok (.iconst 0, 1) := by decide +kernel
theorem dX2_isNumber_2 : decode cX2_isNumber 2 = .ok (.sipush 9999, 3) := by decide +kernel
theorem dX2_isNumber_5 : decode cX2_isNumber 5 = .ok (.invokestatic 33, 3) := by decide +kernel
theorem dX2_isNumber_8 : decode cX2_isNumber 8 = .ok (.ireturn, 1) := by decide +kernel
set_option maxRecDepth 20000 in
theorem ggX2_isHook_X2_isIn : GoodIn wsX2_isHook wsX2_isIn := goodIn_r _ [5] (by decide +kernel) (by decide +kernel)
set_option maxRecDepth 20000 in
theorem gX2_isHook_X2_isIn : GoodIn wsX2_isHook (va_wsS RX2 33 yX2_isIn wsX2_isIn) := goodIn_app (goodIn_of _ (by decide +kernel)) ggX2_isHook_X2_isIn
theorem dX2_isHook_0 : decode cX2_isHook 0 = .ok (.iload_n 1, 1) := by decide +kernel
theorem dX2_isHook_1 : decode cX2_isHook 1 = .ok (.iconst 0, 1) := by decide +kernel
theorem dX2_isHook_2 : decode cX2_isHook 2 = .ok (.aload_n 0, 1) := by decide +kernel
theorem dX2_isHook_3 : decode cX2_isHook 3 = .ok (.getfield 7, 3) := by decide +kernel
theorem dX2_isHook_6 : decode cX2_isHook 6 = .ok (.iconst 1, 1) := by decide +kernel
theorem dX2_isHook_7 : decode cX2_isHook 7 = .ok (.isub, 1) := by decide +kernel
theorem dX2_isHook_8 : decode cX2_isHook 8 = .ok (.invokestatic 33, 3) := by decide +kernel
theorem dX2_isHook_11 : decode cX2_isHook 11 = .ok (.ireturn, 1) := by decide +kernel
theorem dX2_clear_0 : decode cX2_clear 0 = .ok (.iconst 0, 1) := by decide +kernel
theorem dX2_clear_1 : decode cX2_clear 1 = .ok (.istore_n 2, 1) := by decide +kernel
theorem dX2_clear_2 : decode cX2_clear 2 = .ok (.iload_n 2, 1) := by decide +kernel
theorem dX2_clear_3 : decode cX2_clear 3 = .ok (.iload_n 1, 1) := by decide +kernel
theorem dX2_clear_4 : decode cX2_clear 4 = .ok (.if_icmp .ge 13, 3) := by decide +kernel
theorem dX2_clear_7 : decode cX2_clear 7 = .ok (.aload_n 0, 1) := by decide +kernel
theorem dX2_clear_8 : decode cX2_clear 8 = .ok (.iload_n 2, 1) := by decide +kernel
theorem dX2_clear_9 : decode cX2_clear 9 = .ok (.iconst (-1), 1) := by decide +kernel
theorem dX2_clear_10 : decode cX2_clear 10 = .ok (.iastore, 1) := by decide +kernel
theorem dX2_clear_11 : decode cX2_clear 11 = .ok (.iinc 2 1, 3) := by decide +kernel
theorem dX2_clear_14 : decode cX2_clear 14 = .ok (.goto (-12), 3) := by decide +kernel
theorem dX2_clear_17 : decode cX2_clear 17 = .ok (.return_, 1) := by decide +kernel
theorem dX2_look_0 : decode cX2_look 0 = .ok (.aload_n 0, 1) := by decide +kernel
theorem dX2_look_1 : decode cX2_look 1 = .ok (.iconst 0, 1) := by decide +kernel
theorem dX2_look_2 : decode cX2_look 2 = .ok (.putfield 37, 3) := by decide +kernel
theorem dX2_look_5 : decode cX2_look 5 = .ok (.aload_n 0, 1) := by decide +kernel
theorem dX2_look_6 : decode cX2_look 6 = .ok (.iconst (-1), 1) := by decide +kernel
theorem dX2_look_7 : decode cX2_look 7 = .ok (.putfield 40, 3) := by decide +kernel
theorem dX2_look_10 : decode cX2_look 10 = .ok (.aload_n 0, 1) := by decide +kernel
theorem dX2_look_11 : decode cX2_look 11 = .ok (.iconst (-1), 1) := by decide +kernel
theorem dX2_look_12 : decode cX2_look 12 = .ok (.putfield 43, 3) := by decide +kernel
theorem dX2_look_15 : decode cX2_look 15 = .ok (.aload_n 0, 1) := by decide +kernel
theorem dX2_look_16 : decode cX2_look 16 = .ok (.iconst (-1), 1) := by decide +kernel
theorem dX2_look_17 : decode cX2_look 17 = .ok (.putfield 46, 3) := by decide +kernel
theorem dX2_look_20 : decode cX2_look 20 = .ok (.iload 4, 2) := by decide +kernel
theorem dX2_look_22 : decode cX2_look 22 = .ok (.iload_n 2, 1) := by decide +kernel
theorem dX2_look_23 : decode cX2_look 23 = .ok (.irem, 1) := by decide +kernel
theorem dX2_look_24 : decode cX2_look 24 = .ok (.istore 5, 2) := by decide +kernel
theorem dX2_look_26 : decode cX2_look 26 = .ok (.iconst 1, 1) := by decide +kernel
theorem dX2_look_27 : decode cX2_look 27 = .ok (.iload 4, 2) := by decide +kernel
theorem dX2_look_29 : decode cX2_look 29 = .ok (.iload_n 2, 1) := by decide +kernel
theorem dX2_look_30 : decode cX2_look 30 = .ok (.idiv, 1) := by decide +kernel
theorem dX2_look_31 : decode cX2_look 31 = .ok (.iload_n 2, 1) := by decide +kernel
theorem dX2_look_32 : decode cX2_look 32 = .ok (.iconst 1, 1) := by decide +kernel
theorem dX2_look_33 : decode cX2_look 33 = .ok (.isub, 1) := by decide +kernel
theorem dX2_look_34 : decode cX2_look 34 = .ok (.irem, 1) := by decide +kernel
theorem dX2_look_35 : decode cX2_look 35 = .ok (.iadd, 1) := by decide +kernel
theorem dX2_look_36 : decode cX2_look 36 = .ok (.istore 6, 2) := by decide +kernel
theorem dX2_look_38 : decode cX2_look 38 = .ok (.aload_n 0, 1) := by decide +kernel
theorem dX2_look_39 : decode cX2_look 39 = .ok (.getfield 37, 3) := by decide +kernel
theorem dX2_look_42 : decode cX2_look 42 = .ok (.iload_n 2, 1) := by decide +kernel
theorem dX2_look_43 : decode cX2_look 43 = .ok (.if_icmp .ge 119, 3) := by decide +kernel
theorem dX2_look_46 : decode cX2_look 46 = .ok (.aload_n 0, 1) := by decide +kernel
theorem dX2_look_47 : decode cX2_look 47 = .ok (.getfield 40, 3) := by decide +kernel
theorem dX2_look_50 : decode cX2_look 50 = .ok (.iconst (-1), 1) := by decide +kernel
theorem dX2_look_51 : decode cX2_look 51 = .ok (.if_icmp .ne 111, 3) := by decide +kernel
theorem dX2_look_54 : decode cX2_look 54 = .ok (.aload_n 0, 1) := by decide +kernel
theorem dX2_look_55 : decode cX2_look 55 = .ok (.getfield 43, 3) := by decide +kernel
theorem dX2_look_58 : decode cX2_look 58 = .ok (.iconst (-1), 1) := by decide +kernel
theorem dX2_look_59 : decode cX2_look 59 = .ok (.if_icmp .ne 103, 3) := by decide +kernel
theorem dX2_look_62 : decode cX2_look 62 = .ok (.aload_n 1, 1) := by decide +kernel
theorem dX2_look_63 : decode cX2_look 63 = .ok (.iload 5, 2) := by decide +kernel
theorem dX2_look_65 : decode cX2_look 65 = .ok (.iaload, 1) := by decide +kernel
theorem dX2_look_66 : decode cX2_look 66 = .ok (.iload 4, 2) := by decide +kernel
theorem dX2_look_68 : decode cX2_look 68 = .ok (.if_icmp .ne 12, 3) := by decide +kernel
theorem dX2_look_71 : decode cX2_look 71 = .ok (.aload_n 0, 1) := by decide +kernel
theorem dX2_look_72 : decode cX2_look 72 = .ok (.iload 5, 2) := by decide +kernel
theorem dX2_look_74 : decode cX2_look 74 = .ok (.putfield 40, 3) := by decide +kernel
theorem dX2_look_77 : decode cX2_look 77 = .ok (.goto 43, 3) := by decide +kernel
theorem dX2_look_80 : decode cX2_look 80 = .ok (.aload_n 1, 1) := by decide +kernel
theorem dX2_look_81 : decode cX2_look 81 = .ok (.iload 5, 2) := by decide +kernel
theorem dX2_look_83 : decode cX2_look 83 = .ok (.iaload, 1) := by decide +kernel
theorem dX2_look_84 : decode cX2_look 84 = .ok (.iconst (-1), 1) := by decide +kernel
theorem dX2_look_85 : decode cX2_look 85 = .ok (.if_icmp .ne 12, 3) := by decide +kernel
theorem dX2_look_88 : decode cX2_look 88 = .ok (.aload_n 0, 1) := by decide +kernel
theorem dX2_look_89 : decode cX2_look 89 = .ok (.iload 5, 2) := by decide +kernel
theorem dX2_look_91 : decode cX2_look 91 = .ok (.putfield 43, 3) := by decide +kernel
theorem dX2_look_94 : decode cX2_look 94 = .ok (.goto 26, 3) := by decide +kernel
theorem dX2_look_97 : decode cX2_look 97 = .ok (.aload_n 1, 1) := by decide +kernel
theorem dX2_look_98 : decode cX2_look 98 = .ok (.iload 5, 2) := by decide +kernel
theorem dX2_look_100 : decode cX2_look 100 = .ok (.iaload, 1) := by decide +kernel
theorem dX2_look_101 : decode cX2_look 101 = .ok (.bipush (-2), 2) := by decide +kernel
theorem dX2_look_103 : decode cX2_look 103 = .ok (.if_icmp .ne 17, 3) := by decide +kernel
theorem dX2_look_106 : decode cX2_look 106 = .ok (.aload_n 0, 1) := by decide +kernel
theorem dX2_look_107 : decode cX2_look 107 = .ok (.getfield 46, 3) := by decide +kernel
theorem dX2_look_110 : decode cX2_look 110 = .ok (.iconst (-1), 1) := by decide +kernel
theorem dX2_look_111 : decode cX2_look 111 = .ok (.if_icmp .ne 9, 3) := by decide +kernel
theorem dX2_look_114 : decode cX2_look 114 = .ok (.aload_n 0, 1) := by decide +kernel
theorem dX2_look_115 : decode cX2_look 115 = .ok (.iload 5, 2) := by decide +kernel
theorem dX2_look_117 : decode cX2_look 117 = .ok (.putfield 46, 3) := by decide +kernel
theorem dX2_look_120 : decode cX2_look 120 = .ok (.aload_n 0, 1) := by decide +kernel
theorem dX2_look_121 : decode cX2_look 121 = .ok (.dup, 1) := by decide +kernel
theorem dX2_look_122 : decode cX2_look 122 = .ok (.getfield 37, 3) := by decide +kernel
theorem dX2_look_125 : decode cX2_look 125 = .ok (.iconst 1, 1) := by decide +kernel
theorem dX2_look_126 : decode cX2_look 126 = .ok (.iadd, 1) := by decide +kernel
theorem dX2_look_127 : decode cX2_look 127 = .ok (.putfield 37, 3) := by decide +kernel
theorem dX2_look_130 : decode cX2_look 130 = .ok (.iload 5, 2) := by decide +kernel
theorem dX2_look_132 : decode cX2_look 132 = .ok (.iload_n 3, 1) := by decide +kernel
theorem dX2_look_133 : decode cX2_look 133 = .ok (.ifCond .ne 7, 3) := by decide +kernel
theorem dX2_look_136 : decode cX2_look 136 = .ok (.iconst 1, 1) := by decide +kernel
theorem dX2_look_137 : decode cX2_look 137 = .ok (.goto 17, 3) := by decide +kernel
theorem dX2_look_140 : decode cX2_look 140 = .ok (.iload_n 3, 1) := by decide +kernel
theorem dX2_look_141 : decode cX2_look 141 = .ok (.iconst 1, 1) := by decide +kernel
theorem dX2_look_142 : decode cX2_look 142 = .ok (.if_icmp .ne 10, 3) := by decide +kernel
theorem dX2_look_145 : decode cX2_look 145 = .ok (.aload_n 0, 1) := by decide +kernel
theorem dX2_look_146 : decode cX2_look 146 = .ok (.getfield 37, 3) := by decide +kernel
theorem dX2_look_149 : decode cX2_look 149 = .ok (.goto 5, 3) := by decide +kernel
theorem dX2_look_152 : decode cX2_look 152 = .ok (.iload 6, 2) := by decide +kernel
theorem dX2_look_154 : decode cX2_look 154 = .ok (.iadd, 1) := by decide +kernel
theorem dX2_look_155 : decode cX2_look 155 = .ok (.iload_n 2, 1) := by decide +kernel
theorem dX2_look_156 : decode cX2_look 156 = .ok (.irem, 1) := by decide +kernel
theorem dX2_look_157 : decode cX2_look 157 = .ok (.istore 5, 2) := by decide +kernel
theorem dX2_look_159 : decode cX2_look 159 = .ok (.goto (-121), 3) := by decide +kernel
theorem dX2_look_162 : decode cX2_look 162 = .ok (.return_, 1) := by decide +kernel
set_option maxRecDepth 20000 in
theorem ggX2_lookNow_X2_look : GoodIn wsX2_lookNow wsX2_look := goodIn_r _ [8, 9, 10, 11, 12, 13, 14, 15, 16, 17, 18, 19, 20, 21, 22, 23] (by decide +kernel) (by decide +kernel)
set_option maxRecDepth 20000 in
theorem gX2_lookNow_X2_look : GoodIn wsX2_lookNow (wsV RX2 52 RX2 yX2_look wsX2_look) := goodIn_app (goodIn_of _ (by decide +kernel)) ggX2_lookNow_X2_look
theorem dX2_lookNow_0 : decode cX2_lookNow 0 = .ok (.aload_n 0, 1) := by decide +kernel
theorem dX2_lookNow_1 : decode cX2_lookNow 1 = .ok (.aload_n 0, 1) := by decide +kernel
theorem dX2_lookNow_2 : decode cX2_lookNow 2 = .ok (.getfield 13, 3) := by decide +kernel
theorem dX2_lookNow_5 : decode cX2_lookNow 5 = .ok (.aload_n 0, 1) := by decide +kernel
theorem dX2_lookNow_6 : decode cX2_lookNow 6 = .ok (.getfield 7, 3) := by decide +kernel
theorem dX2_lookNow_9 : decode cX2_lookNow 9 = .ok (.aload_n 0, 1) := by decide +kernel
theorem dX2_lookNow_10 : decode cX2_lookNow 10 = .ok (.getfield 49, 3) := by decide +kernel
theorem dX2_lookNow_13 : decode cX2_lookNow 13 = .ok (.iload_n 1, 1) := by decide +kernel
theorem dX2_lookNow_14 : decode cX2_lookNow 14 = .ok (.invokevirtual 52, 3) := by decide +kernel
theorem dX2_lookNow_17 : decode cX2_lookNow 17 = .ok (.return_, 1) := by decide +kernel
theorem dX2_hangs_0 : decode cX2_hangs 0 = .ok (.iconst 0, 1) := by decide +kernel
theorem dX2_hangs_1 : decode cX2_hangs 1 = .ok (.istore_n 2, 1) := by decide +kernel
theorem dX2_hangs_2 : decode cX2_hangs 2 = .ok (.iload_n 2, 1) := by decide +kernel
theorem dX2_hangs_3 : decode cX2_hangs 3 = .ok (.aload_n 0, 1) := by decide +kernel
theorem dX2_hangs_4 : decode cX2_hangs 4 = .ok (.getfield 7, 3) := by decide +kernel
theorem dX2_hangs_7 : decode cX2_hangs 7 = .ok (.if_icmp .ge 21, 3) := by decide +kernel
theorem dX2_hangs_10 : decode cX2_hangs 10 = .ok (.aload_n 0, 1) := by decide +kernel
theorem dX2_hangs_11 : decode cX2_hangs 11 = .ok (.getfield 13, 3) := by decide +kernel
theorem dX2_hangs_14 : decode cX2_hangs 14 = .ok (.iload_n 2, 1) := by decide +kernel
theorem dX2_hangs_15 : decode cX2_hangs 15 = .ok (.iaload, 1) := by decide +kernel
theorem dX2_hangs_16 : decode cX2_hangs 16 = .ok (.iload_n 1, 1) := by decide +kernel
theorem dX2_hangs_17 : decode cX2_hangs 17 = .ok (.if_icmp .ne 5, 3) := by decide +kernel
theorem dX2_hangs_20 : decode cX2_hangs 20 = .ok (.iconst 1, 1) := by decide +kernel
theorem dX2_hangs_21 : decode cX2_hangs 21 = .ok (.ireturn, 1) := by decide +kernel
theorem dX2_hangs_22 : decode cX2_hangs 22 = .ok (.iinc 2 1, 3) := by decide +kernel
theorem dX2_hangs_25 : decode cX2_hangs 25 = .ok (.goto (-23), 3) := by decide +kernel
theorem dX2_hangs_28 : decode cX2_hangs 28 = .ok (.iconst 0, 1) := by decide +kernel
theorem dX2_hangs_29 : decode cX2_hangs 29 = .ok (.ireturn, 1) := by decide +kernel
set_option maxRecDepth 20000 in
theorem ggX2_place_X2_hangs : GoodIn wsX2_place wsX2_hangs := goodIn_r _ [7, 8, 9, 21, 22, 23, 24, 25, 26, 27, 28, 29, 30, 31] (by decide +kernel) (by decide +kernel)
set_option maxRecDepth 20000 in
theorem gX2_place_X2_hangs : GoodIn wsX2_place (wsV RX2 56 RX2 yX2_hangs wsX2_hangs) := goodIn_app (goodIn_of _ (by decide +kernel)) ggX2_place_X2_hangs
set_option maxRecDepth 20000 in
theorem ggX2_place_X2_lookNow : GoodIn wsX2_place wsX2_lookNow := goodIn_r _ [13, 9, 8, 14, 15, 16, 17, 6, 18, 19, 20, 2, 1, 21, 22, 23, 24, 25, 26, 27, 28, 29, 30, 31] (by decide +kernel) (by decide +kernel)
set_option maxRecDepth 20000 in
theorem gX2_place_X2_lookNow : GoodIn wsX2_place (wsV RX2 60 RX2 yX2_lookNow wsX2_lookNow) := goodIn_app (goodIn_of _ (by decide +kernel)) ggX2_place_X2_lookNow
theorem dX2_place_0 : decode cX2_place 0 = .ok (.aload_n 0, 1) := by decide +kernel
theorem dX2_place_1 : decode cX2_place 1 = .ok (.iload_n 1, 1) := by decide +kernel
theorem dX2_place_2 : decode cX2_place 2 = .ok (.invokevirtual 56, 3) := by decide +kernel
theorem dX2_place_5 : decode cX2_place 5 = .ok (.ifCond .eq 5, 3) := by decide +kernel
theorem dX2_place_8 : decode cX2_place 8 = .ok (.iconst (-1), 1) := by decide +kernel
theorem dX2_place_9 : decode cX2_place 9 = .ok (.ireturn, 1) := by decide +kernel
theorem dX2_place_10 : decode cX2_place 10 = .ok (.aload_n 0, 1) := by decide +kernel
theorem dX2_place_11 : decode cX2_place 11 = .ok (.iload_n 1, 1) := by decide +kernel
theorem dX2_place_12 : decode cX2_place 12 = .ok (.invokevirtual 60, 3) := by decide +kernel
theorem dX2_place_15 : decode cX2_place 15 = .ok (.aload_n 0, 1) := by decide +kernel
theorem dX2_place_16 : decode cX2_place 16 = .ok (.getfield 46, 3) := by decide +kernel
theorem dX2_place_19 : decode cX2_place 19 = .ok (.iconst (-1), 1) := by decide +kernel
theorem dX2_place_20 : decode cX2_place 20 = .ok (.if_icmp .ne 10, 3) := by decide +kernel
theorem dX2_place_23 : decode cX2_place 23 = .ok (.aload_n 0, 1) := by decide +kernel
theorem dX2_place_24 : decode cX2_place 24 = .ok (.getfield 43, 3) := by decide +kernel
theorem dX2_place_27 : decode cX2_place 27 = .ok (.goto 7, 3) := by decide +kernel
theorem dX2_place_30 : decode cX2_place 30 = .ok (.aload_n 0, 1) := by decide +kernel
theorem dX2_place_31 : decode cX2_place 31 = .ok (.getfield 46, 3) := by decide +kernel
theorem dX2_place_34 : decode cX2_place 34 = .ok (.ireturn, 1) := by decide +kernel
set_option maxRecDepth 20000 in
theorem ggX2_anew_X2_clear : GoodIn wsX2_anew wsX2_clear := goodIn_r _ [11] (by decide +kernel) (by decide +kernel)
set_option maxRecDepth 20000 in
theorem gX2_anew_X2_clear : GoodIn wsX2_anew (va_wsS RX2 26 yX2_clear wsX2_clear) := goodIn_app (goodIn_of _ (by decide +kernel)) ggX2_anew_X2_clear
set_option maxRecDepth 20000 in
theorem ggX2_anew_X2_look : GoodIn wsX2_anew wsX2_look := goodIn_r _ [15, 7, 16, 4, 17, 18, 19, 20, 21, 22, 23, 24, 25, 26, 27, 28] (by decide +kernel) (by decide +kernel)
set_option maxRecDepth 20000 in
theorem gX2_anew_X2_look : GoodIn wsX2_anew (wsV RX2 52 RX2 yX2_look wsX2_look) := goodIn_app (goodIn_of _ (by decide +kernel)) ggX2_anew_X2_look
theorem dX2_anew_0 : decode cX2_anew 0 = .ok (.aload_n 0, 1) := by decide +kernel
theorem dX2_anew_1 : decode cX2_anew 1 = .ok (.getfield 20, 3) := by decide +kernel
theorem dX2_anew_4 : decode cX2_anew 4 = .ok (.iload_n 1, 1) := by decide +kernel
theorem dX2_anew_5 : decode cX2_anew 5 = .ok (.invokestatic 26, 3) := by decide +kernel
theorem dX2_anew_8 : decode cX2_anew 8 = .ok (.iconst 0, 1) := by decide +kernel
theorem dX2_anew_9 : decode cX2_anew 9 = .ok (.istore_n 3, 1) := by decide +kernel
theorem dX2_anew_10 : decode cX2_anew 10 = .ok (.iconst 0, 1) := by decide +kernel
theorem dX2_anew_11 : decode cX2_anew 11 = .ok (.istore 4, 2) := by decide +kernel
theorem dX2_anew_13 : decode cX2_anew 13 = .ok (.iload 4, 2) := by decide +kernel
theorem dX2_anew_15 : decode cX2_anew 15 = .ok (.aload_n 0, 1) := by decide +kernel
theorem dX2_anew_16 : decode cX2_anew 16 = .ok (.getfield 7, 3) := by decide +kernel
theorem dX2_anew_19 : decode cX2_anew 19 = .ok (.if_icmp .ge 88, 3) := by decide +kernel
theorem dX2_anew_22 : decode cX2_anew 22 = .ok (.aload_n 0, 1) := by decide +kernel
theorem dX2_anew_23 : decode cX2_anew 23 = .ok (.getfield 13, 3) := by decide +kernel
theorem dX2_anew_26 : decode cX2_anew 26 = .ok (.iload 4, 2) := by decide +kernel
theorem dX2_anew_28 : decode cX2_anew 28 = .ok (.iaload, 1) := by decide +kernel
theorem dX2_anew_29 : decode cX2_anew 29 = .ok (.ifCond .ge 6, 3) := by decide +kernel
theorem dX2_anew_32 : decode cX2_anew 32 = .ok (.goto 69, 3) := by decide +kernel
theorem dX2_anew_35 : decode cX2_anew 35 = .ok (.aload_n 0, 1) := by decide +kernel
theorem dX2_anew_36 : decode cX2_anew 36 = .ok (.aload_n 0, 1) := by decide +kernel
theorem dX2_anew_37 : decode cX2_anew 37 = .ok (.getfield 20, 3) := by decide +kernel
theorem dX2_anew_40 : decode cX2_anew 40 = .ok (.iload_n 1, 1) := by decide +kernel
theorem dX2_anew_41 : decode cX2_anew 41 = .ok (.iload_n 2, 1) := by decide +kernel
theorem dX2_anew_42 : decode cX2_anew 42 = .ok (.aload_n 0, 1) := by decide +kernel
theorem dX2_anew_43 : decode cX2_anew 43 = .ok (.getfield 13, 3) := by decide +kernel
theorem dX2_anew_46 : decode cX2_anew 46 = .ok (.iload 4, 2) := by decide +kernel
theorem dX2_anew_48 : decode cX2_anew 48 = .ok (.iaload, 1) := by decide +kernel
theorem dX2_anew_49 : decode cX2_anew 49 = .ok (.invokevirtual 52, 3) := by decide +kernel
theorem dX2_anew_52 : decode cX2_anew 52 = .ok (.aload_n 0, 1) := by decide +kernel
theorem dX2_anew_53 : decode cX2_anew 53 = .ok (.getfield 43, 3) := by decide +kernel
theorem dX2_anew_56 : decode cX2_anew 56 = .ok (.iconst (-1), 1) := by decide +kernel
theorem dX2_anew_57 : decode cX2_anew 57 = .ok (.if_icmp .ne 5, 3) := by decide +kernel
theorem dX2_anew_60 : decode cX2_anew 60 = .ok (.iconst (-1), 1) := by decide +kernel
theorem dX2_anew_61 : decode cX2_anew 61 = .ok (.ireturn, 1) := by decide +kernel
theorem dX2_anew_62 : decode cX2_anew 62 = .ok (.aload_n 0, 1) := by decide +kernel
theorem dX2_anew_63 : decode cX2_anew 63 = .ok (.getfield 20, 3) := by decide +kernel
theorem dX2_anew_66 : decode cX2_anew 66 = .ok (.aload_n 0, 1) := by decide +kernel
theorem dX2_anew_67 : decode cX2_anew 67 = .ok (.getfield 43, 3) := by decide +kernel
theorem dX2_anew_70 : decode cX2_anew 70 = .ok (.aload_n 0, 1) := by decide +kernel
theorem dX2_anew_71 : decode cX2_anew 71 = .ok (.getfield 13, 3) := by decide +kernel
theorem dX2_anew_74 : decode cX2_anew 74 = .ok (.iload 4, 2) := by decide +kernel
theorem dX2_anew_76 : decode cX2_anew 76 = .ok (.iaload, 1) := by decide +kernel
theorem dX2_anew_77 : decode cX2_anew 77 = .ok (.iastore, 1) := by decide +kernel
theorem dX2_anew_78 : decode cX2_anew 78 = .ok (.aload_n 0, 1) := by decide +kernel
theorem dX2_anew_79 : decode cX2_anew 79 = .ok (.getfield 23, 3) := by decide +kernel
theorem dX2_anew_82 : decode cX2_anew 82 = .ok (.aload_n 0, 1) := by decide +kernel
theorem dX2_anew_83 : decode cX2_anew 83 = .ok (.getfield 43, 3) := by decide +kernel
theorem dX2_anew_86 : decode cX2_anew 86 = .ok (.aload_n 0, 1) := by decide +kernel
theorem dX2_anew_87 : decode cX2_anew 87 = .ok (.getfield 17, 3) := by decide +kernel
theorem dX2_anew_90 : decode cX2_anew 90 = .ok (.iload 4, 2) := by decide +kernel
theorem dX2_anew_92 : decode cX2_anew 92 = .ok (.iaload, 1) := by decide +kernel
theorem dX2_anew_93 : decode cX2_anew 93 = .ok (.iastore, 1) := by decide +kernel
theorem dX2_anew_94 : decode cX2_anew 94 = .ok (.iload_n 3, 1) := by decide +kernel
theorem dX2_anew_95 : decode cX2_anew 95 = .ok (.aload_n 0, 1) := by decide +kernel
theorem dX2_anew_96 : decode cX2_anew 96 = .ok (.getfield 37, 3) := by decide +kernel
theorem dX2_anew_99 : decode cX2_anew 99 = .ok (.iadd, 1) := by decide +kernel
theorem dX2_anew_100 : decode cX2_anew 100 = .ok (.istore_n 3, 1) := by decide +kernel
theorem dX2_anew_101 : decode cX2_anew 101 = .ok (.iinc 4 1, 3) := by decide +kernel
theorem dX2_anew_104 : decode cX2_anew 104 = .ok (.goto (-91), 3) := by decide +kernel
theorem dX2_anew_107 : decode cX2_anew 107 = .ok (.iload_n 3, 1) := by decide +kernel
theorem dX2_anew_108 : decode cX2_anew 108 = .ok (.ireturn, 1) := by decide +kernel
theorem dX2_moved_0 : decode cX2_moved 0 = .ok (.iconst 0, 1) := by decide +kernel
theorem dX2_moved_1 : decode cX2_moved 1 = .ok (.istore_n 1, 1) := by decide +kernel
theorem dX2_moved_2 : decode cX2_moved 2 = .ok (.iconst 0, 1) := by decide +kernel
theorem dX2_moved_3 : decode cX2_moved 3 = .ok (.istore_n 2, 1) := by decide +kernel
theorem dX2_moved_4 : decode cX2_moved 4 = .ok (.iload_n 2, 1) := by decide +kernel
theorem dX2_moved_5 : decode cX2_moved 5 = .ok (.aload_n 0, 1) := by decide +kernel
theorem dX2_moved_6 : decode cX2_moved 6 = .ok (.getfield 7, 3) := by decide +kernel
theorem dX2_moved_9 : decode cX2_moved 9 = .ok (.if_icmp .ge 36, 3) := by decide +kernel
theorem dX2_moved_12 : decode cX2_moved 12 = .ok (.aload_n 0, 1) := by decide +kernel
theorem dX2_moved_13 : decode cX2_moved 13 = .ok (.getfield 13, 3) := by decide +kernel
theorem dX2_moved_16 : decode cX2_moved 16 = .ok (.iload_n 2, 1) := by decide +kernel
theorem dX2_moved_17 : decode cX2_moved 17 = .ok (.iaload, 1) := by decide +kernel
theorem dX2_moved_18 : decode cX2_moved 18 = .ok (.ifCond .lt 21, 3) := by decide +kernel
theorem dX2_moved_21 : decode cX2_moved 21 = .ok (.aload_n 0, 1) := by decide +kernel
theorem dX2_moved_22 : decode cX2_moved 22 = .ok (.getfield 20, 3) := by decide +kernel
theorem dX2_moved_25 : decode cX2_moved 25 = .ok (.iload_n 2, 1) := by decide +kernel
theorem dX2_moved_26 : decode cX2_moved 26 = .ok (.iaload, 1) := by decide +kernel
theorem dX2_moved_27 : decode cX2_moved 27 = .ok (.aload_n 0, 1) := by decide +kernel
theorem dX2_moved_28 : decode cX2_moved 28 = .ok (.getfield 13, 3) := by decide +kernel
theorem dX2_moved_31 : decode cX2_moved 31 = .ok (.iload_n 2, 1) := by decide +kernel
theorem dX2_moved_32 : decode cX2_moved 32 = .ok (.iaload, 1) := by decide +kernel
theorem dX2_moved_33 : decode cX2_moved 33 = .ok (.if_icmp .eq 6, 3) := by decide +kernel
theorem dX2_moved_36 : decode cX2_moved 36 = .ok (.iinc 1 1, 3) := by decide +kernel
theorem dX2_moved_39 : decode cX2_moved 39 = .ok (.iinc 2 1, 3) := by decide +kernel
theorem dX2_moved_42 : decode cX2_moved 42 = .ok (.goto (-38), 3) := by decide +kernel
theorem dX2_moved_45 : decode cX2_moved 45 = .ok (.iload_n 1, 1) := by decide +kernel
theorem dX2_moved_46 : decode cX2_moved 46 = .ok (.ireturn, 1) := by decide +kernel
theorem dX2_hung_0 : decode cX2_hung 0 = .ok (.aload_n 0, 1) := by decide +kernel
theorem dX2_hung_1 : decode cX2_hung 1 = .ok (.getfield 13, 3) := by decide +kernel
theorem dX2_hung_4 : decode cX2_hung 4 = .ok (.iload_n 1, 1) := by decide +kernel
theorem dX2_hung_5 : decode cX2_hung 5 = .ok (.iload_n 2, 1) := by decide +kernel
theorem dX2_hung_6 : decode cX2_hung 6 = .ok (.iastore, 1) := by decide +kernel
theorem dX2_hung_7 : decode cX2_hung 7 = .ok (.aload_n 0, 1) := by decide +kernel
theorem dX2_hung_8 : decode cX2_hung 8 = .ok (.getfield 17, 3) := by decide +kernel
theorem dX2_hung_11 : decode cX2_hung 11 = .ok (.iload_n 1, 1) := by decide +kernel
theorem dX2_hung_12 : decode cX2_hung 12 = .ok (.iload_n 3, 1) := by decide +kernel
theorem dX2_hung_13 : decode cX2_hung 13 = .ok (.iastore, 1) := by decide +kernel
theorem dX2_hung_14 : decode cX2_hung 14 = .ok (.iload_n 1, 1) := by decide +kernel
theorem dX2_hung_15 : decode cX2_hung 15 = .ok (.ireturn, 1) := by decide +kernel
set_option maxRecDepth 20000 in
theorem ggX2_hang_X2_isNumber : GoodIn wsX2_hang wsX2_isNumber := goodIn_r _ [5, 6, 7, 4, 8] (by decide +kernel) (by decide +kernel)
set_option maxRecDepth 20000 in
theorem gX2_hang_X2_isNumber : GoodIn wsX2_hang (va_wsS RX2 64 yX2_isNumber wsX2_isNumber) := goodIn_app (goodIn_of _ (by decide +kernel)) ggX2_hang_X2_isNumber
set_option maxRecDepth 20000 in
theorem ggX2_hang_X2_isIn : GoodIn wsX2_hang wsX2_isIn := goodIn_r _ [8] (by decide +kernel) (by decide +kernel)
set_option maxRecDepth 20000 in
theorem gX2_hang_X2_isIn : GoodIn wsX2_hang (va_wsS RX2 33 yX2_isIn wsX2_isIn) := goodIn_app (goodIn_of _ (by decide +kernel)) ggX2_hang_X2_isIn
set_option maxRecDepth 20000 in
theorem ggX2_hang_X2_no : GoodIn wsX2_hang wsX2_no := goodIn_r _ [12, 1, 41, 42, 43, 44, 45, 46, 47, 48, 49, 50, 51] (by decide +kernel) (by decide +kernel)
set_option maxRecDepth 20000 in
theorem gX2_hang_X2_no : GoodIn wsX2_hang (wsV RX2 67 RX2 yX2_no wsX2_no) := goodIn_app (goodIn_of _ (by decide +kernel)) ggX2_hang_X2_no
set_option maxRecDepth 20000 in
theorem ggX2_hang_X2_place : GoodIn wsX2_hang wsX2_place := goodIn_r _ [16, 17, 18, 19, 20, 21, 4, 22, 23, 24, 25, 26, 27, 28, 29, 30, 31, 32, 33, 34, 35, 41, 42, 43, 44, 45, 46, 47, 48, 49, 50, 51] (by decide +kernel) (by decide +kernel)
set_option maxRecDepth 20000 in
theorem gX2_hang_X2_place : GoodIn wsX2_hang (wsV RX2 71 RX2 yX2_place wsX2_place) := goodIn_app (goodIn_of _ (by decide +kernel)) ggX2_hang_X2_place
set_option maxRecDepth 20000 in
theorem ggX2_hang_X2_hung : GoodIn wsX2_hang wsX2_hung := goodIn_r _ [39, 24, 40, 41, 42, 43, 44, 45, 46, 47, 48, 49, 50, 51] (by decide +kernel) (by decide +kernel)
set_option maxRecDepth 20000 in
theorem gX2_hang_X2_hung : GoodIn wsX2_hang (wsV RX2 74 RX2 yX2_hung wsX2_hung) := goodIn_app (goodIn_of _ (by decide +kernel)) ggX2_hang_X2_hung
theorem dX2_hang_0 : decode cX2_hang 0 = .ok (.aload_n 0, 1) := by decide +kernel
theorem dX2_hang_1 : decode cX2_hang 1 = .ok (.iconst 0, 1) := by decide +kernel
theorem dX2_hang_2 : decode cX2_hang 2 = .ok (.putfield 30, 3) := by decide +kernel
theorem dX2_hang_5 : decode cX2_hang 5 = .ok (.iload_n 1, 1) := by decide +kernel
theorem dX2_hang_6 : decode cX2_hang 6 = .ok (.invokestatic 64, 3) := by decide +kernel
theorem dX2_hang_9 : decode cX2_hang 9 = .ok (.ifCond .eq 13, 3) := by decide +kernel
theorem dX2_hang_12 : decode cX2_hang 12 = .ok (.iload_n 2, 1) := by decide +kernel
theorem dX2_hang_13 : decode cX2_hang 13 = .ok (.iconst 1, 1) := by decide +kernel
theorem dX2_hang_14 : decode cX2_hang 14 = .ok (.bipush 99, 2) := by decide +kernel
theorem dX2_hang_16 : decode cX2_hang 16 = .ok (.invokestatic 33, 3) := by decide +kernel
theorem dX2_hang_19 : decode cX2_hang 19 = .ok (.ifCond .ne 9, 3) := by decide +kernel
theorem dX2_hang_22 : decode cX2_hang 22 = .ok (.aload_n 0, 1) := by decide +kernel
theorem dX2_hang_23 : decode cX2_hang 23 = .ok (.iconst 1, 1) := by decide +kernel
theorem dX2_hang_24 : decode cX2_hang 24 = .ok (.invokevirtual 67, 3) := by decide +kernel
theorem dX2_hang_27 : decode cX2_hang 27 = .ok (.ireturn, 1) := by decide +kernel
theorem dX2_hang_28 : decode cX2_hang 28 = .ok (.aload_n 0, 1) := by decide +kernel
theorem dX2_hang_29 : decode cX2_hang 29 = .ok (.iload_n 1, 1) := by decide +kernel
theorem dX2_hang_30 : decode cX2_hang 30 = .ok (.invokevirtual 71, 3) := by decide +kernel
theorem dX2_hang_33 : decode cX2_hang 33 = .ok (.istore_n 3, 1) := by decide +kernel
theorem dX2_hang_34 : decode cX2_hang 34 = .ok (.iload_n 3, 1) := by decide +kernel
theorem dX2_hang_35 : decode cX2_hang 35 = .ok (.iconst (-1), 1) := by decide +kernel
theorem dX2_hang_36 : decode cX2_hang 36 = .ok (.if_icmp .ne 11, 3) := by decide +kernel
theorem dX2_hang_39 : decode cX2_hang 39 = .ok (.aload_n 0, 1) := by decide +kernel
theorem dX2_hang_40 : decode cX2_hang 40 = .ok (.iconst 2, 1) := by decide +kernel
theorem dX2_hang_41 : decode cX2_hang 41 = .ok (.invokevirtual 67, 3) := by decide +kernel
theorem dX2_hang_44 : decode cX2_hang 44 = .ok (.goto 10, 3) := by decide +kernel
theorem dX2_hang_47 : decode cX2_hang 47 = .ok (.aload_n 0, 1) := by decide +kernel
theorem dX2_hang_48 : decode cX2_hang 48 = .ok (.iload_n 3, 1) := by decide +kernel
theorem dX2_hang_49 : decode cX2_hang 49 = .ok (.iload_n 1, 1) := by decide +kernel
theorem dX2_hang_50 : decode cX2_hang 50 = .ok (.iload_n 2, 1) := by decide +kernel
theorem dX2_hang_51 : decode cX2_hang 51 = .ok (.invokevirtual 74, 3) := by decide +kernel
theorem dX2_hang_54 : decode cX2_hang 54 = .ok (.ireturn, 1) := by decide +kernel
set_option maxRecDepth 20000 in
theorem ggX2_take_X2_isNumber : GoodIn wsX2_take wsX2_isNumber := goodIn_r _ [8, 9, 10, 7, 11] (by decide +kernel) (by decide +kernel)
set_option maxRecDepth 20000 in
theorem gX2_take_X2_isNumber : GoodIn wsX2_take (va_wsS RX2 64 yX2_isNumber wsX2_isNumber) := goodIn_app (goodIn_of _ (by decide +kernel)) ggX2_take_X2_isNumber
set_option maxRecDepth 20000 in
theorem ggX2_take_X2_no : GoodIn wsX2_take wsX2_no := goodIn_r _ [15, 1, 29, 30, 31, 32, 33, 34, 35, 36, 37, 38, 39] (by decide +kernel) (by decide +kernel)
set_option maxRecDepth 20000 in
theorem gX2_take_X2_no : GoodIn wsX2_take (wsV RX2 67 RX2 yX2_no wsX2_no) := goodIn_app (goodIn_of _ (by decide +kernel)) ggX2_take_X2_no
set_option maxRecDepth 20000 in
theorem ggX2_take_X2_lookNow : GoodIn wsX2_take wsX2_lookNow := goodIn_r _ [19, 3, 20, 21, 22, 23, 24, 7, 25, 26, 2, 27, 28, 29, 30, 31, 32, 33, 34, 35, 36, 37, 38, 39] (by decide +kernel) (by decide +kernel)
set_option maxRecDepth 20000 in
theorem gX2_take_X2_lookNow : GoodIn wsX2_take (wsV RX2 60 RX2 yX2_lookNow wsX2_lookNow) := goodIn_app (goodIn_of _ (by decide +kernel)) ggX2_take_X2_lookNow
theorem dX2_take_0 : decode cX2_take 0 = .ok (.aload_n 0, 1) := by decide +kernel
theorem dX2_take_1 : decode cX2_take 1 = .ok (.iconst 0, 1) := by decide +kernel
theorem dX2_take_2 : decode cX2_take 2 = .ok (.putfield 30, 3) := by decide +kernel
theorem dX2_take_5 : decode cX2_take 5 = .ok (.iload_n 1, 1) := by decide +kernel
theorem dX2_take_6 : decode cX2_take 6 = .ok (.invokestatic 64, 3) := by decide +kernel
theorem dX2_take_9 : decode cX2_take 9 = .ok (.ifCond .ne 9, 3) := by decide +kernel
theorem dX2_take_12 : decode cX2_take 12 = .ok (.aload_n 0, 1) := by decide +kernel
theorem dX2_take_13 : decode cX2_take 13 = .ok (.iconst 1, 1) := by decide +kernel
theorem dX2_take_14 : decode cX2_take 14 = .ok (.invokevirtual 67, 3) := by decide +kernel
theorem dX2_take_17 : decode cX2_take 17 = .ok (.ireturn, 1) := by decide +kernel
theorem dX2_take_18 : decode cX2_take 18 = .ok (.aload_n 0, 1) := by decide +kernel
theorem dX2_take_19 : decode cX2_take 19 = .ok (.iload_n 1, 1) := by decide +kernel
theorem dX2_take_20 : decode cX2_take 20 = .ok (.invokevirtual 60, 3) := by decide +kernel
theorem dX2_take_23 : decode cX2_take 23 = .ok (.aload_n 0, 1) := by decide +kernel
theorem dX2_take_24 : decode cX2_take 24 = .ok (.getfield 40, 3) := by decide +kernel
theorem dX2_take_27 : decode cX2_take 27 = .ok (.iconst (-1), 1) := by decide +kernel
theorem dX2_take_28 : decode cX2_take 28 = .ok (.if_icmp .ne 9, 3) := by decide +kernel
theorem dX2_take_31 : decode cX2_take 31 = .ok (.aload_n 0, 1) := by decide +kernel
theorem dX2_take_32 : decode cX2_take 32 = .ok (.iconst 2, 1) := by decide +kernel
theorem dX2_take_33 : decode cX2_take 33 = .ok (.invokevirtual 67, 3) := by decide +kernel
theorem dX2_take_36 : decode cX2_take 36 = .ok (.ireturn, 1) := by decide +kernel
theorem dX2_take_37 : decode cX2_take 37 = .ok (.aload_n 0, 1) := by decide +kernel
theorem dX2_take_38 : decode cX2_take 38 = .ok (.getfield 13, 3) := by decide +kernel
theorem dX2_take_41 : decode cX2_take 41 = .ok (.aload_n 0, 1) := by decide +kernel
theorem dX2_take_42 : decode cX2_take 42 = .ok (.getfield 40, 3) := by decide +kernel
theorem dX2_take_45 : decode cX2_take 45 = .ok (.bipush (-2), 2) := by decide +kernel
theorem dX2_take_47 : decode cX2_take 47 = .ok (.iastore, 1) := by decide +kernel
theorem dX2_take_48 : decode cX2_take 48 = .ok (.aload_n 0, 1) := by decide +kernel
theorem dX2_take_49 : decode cX2_take 49 = .ok (.getfield 17, 3) := by decide +kernel
theorem dX2_take_52 : decode cX2_take 52 = .ok (.aload_n 0, 1) := by decide +kernel
theorem dX2_take_53 : decode cX2_take 53 = .ok (.getfield 40, 3) := by decide +kernel
theorem dX2_take_56 : decode cX2_take 56 = .ok (.iaload, 1) := by decide +kernel
theorem dX2_take_57 : decode cX2_take 57 = .ok (.ireturn, 1) := by decide +kernel
set_option maxRecDepth 20000 in
theorem ggX2_rehang_X2_isIn : GoodIn wsX2_rehang wsX2_isIn := goodIn_r _ [11] (by decide +kernel) (by decide +kernel)
set_option maxRecDepth 20000 in
theorem gX2_rehang_X2_isIn : GoodIn wsX2_rehang (va_wsS RX2 33 yX2_isIn wsX2_isIn) := goodIn_app (goodIn_of _ (by decide +kernel)) ggX2_rehang_X2_isIn
set_option maxRecDepth 20000 in
theorem ggX2_rehang_X2_no : GoodIn wsX2_rehang wsX2_no := goodIn_r _ [15, 1, 35, 36, 37, 38, 39, 40, 41, 42, 43, 44, 45] (by decide +kernel) (by decide +kernel)
set_option maxRecDepth 20000 in
theorem gX2_rehang_X2_no : GoodIn wsX2_rehang (wsV RX2 67 RX2 yX2_no wsX2_no) := goodIn_app (goodIn_of _ (by decide +kernel)) ggX2_rehang_X2_no
set_option maxRecDepth 20000 in
theorem ggX2_rehang_X2_anew : GoodIn wsX2_rehang wsX2_anew := goodIn_r _ [19, 2, 6, 3, 20, 5, 4, 21, 22, 23, 10, 24, 25, 26, 27, 28, 29, 30, 35, 36, 37, 38, 39, 40, 41, 42, 43, 44, 45] (by decide +kernel) (by decide +kernel)
set_option maxRecDepth 20000 in
theorem gX2_rehang_X2_anew : GoodIn wsX2_rehang (wsV RX2 78 RX2 yX2_anew wsX2_anew) := goodIn_app (goodIn_of _ (by decide +kernel)) ggX2_rehang_X2_anew
set_option maxRecDepth 20000 in
theorem ggX2_rehang_X2_moved : GoodIn wsX2_rehang wsX2_moved := goodIn_r _ [34, 6, 3, 2, 35, 36, 37, 38, 39, 40, 41, 42, 43, 44, 45] (by decide +kernel) (by decide +kernel)
set_option maxRecDepth 20000 in
theorem gX2_rehang_X2_moved : GoodIn wsX2_rehang (wsV RX2 82 RX2 yX2_moved wsX2_moved) := goodIn_app (goodIn_of _ (by decide +kernel)) ggX2_rehang_X2_moved
theorem dX2_rehang_0 : decode cX2_rehang 0 = .ok (.aload_n 0, 1) := by decide +kernel
theorem dX2_rehang_1 : decode cX2_rehang 1 = .ok (.iconst 0, 1) := by decide +kernel
theorem dX2_rehang_2 : decode cX2_rehang 2 = .ok (.putfield 30, 3) := by decide +kernel
theorem dX2_rehang_5 : decode cX2_rehang 5 = .ok (.iload_n 1, 1) := by decide +kernel
theorem dX2_rehang_6 : decode cX2_rehang 6 = .ok (.iconst 3, 1) := by decide +kernel
theorem dX2_rehang_7 : decode cX2_rehang 7 = .ok (.bipush 40, 2) := by decide +kernel
theorem dX2_rehang_9 : decode cX2_rehang 9 = .ok (.invokestatic 33, 3) := by decide +kernel
theorem dX2_rehang_12 : decode cX2_rehang 12 = .ok (.ifCond .eq 12, 3) := by decide +kernel
theorem dX2_rehang_15 : decode cX2_rehang 15 = .ok (.iload_n 2, 1) := by decide +kernel
theorem dX2_rehang_16 : decode cX2_rehang 16 = .ok (.iconst 0, 1) := by decide +kernel
theorem dX2_rehang_17 : decode cX2_rehang 17 = .ok (.iconst 2, 1) := by decide +kernel
theorem dX2_rehang_18 : decode cX2_rehang 18 = .ok (.invokestatic 33, 3) := by decide +kernel
theorem dX2_rehang_21 : decode cX2_rehang 21 = .ok (.ifCond .ne 9, 3) := by decide +kernel
theorem dX2_rehang_24 : decode cX2_rehang 24 = .ok (.aload_n 0, 1) := by decide +kernel
theorem dX2_rehang_25 : decode cX2_rehang 25 = .ok (.iconst 1, 1) := by decide +kernel
theorem dX2_rehang_26 : decode cX2_rehang 26 = .ok (.invokevirtual 67, 3) := by decide +kernel
theorem dX2_rehang_29 : decode cX2_rehang 29 = .ok (.ireturn, 1) := by decide +kernel
theorem dX2_rehang_30 : decode cX2_rehang 30 = .ok (.iconst 0, 1) := by decide +kernel
theorem dX2_rehang_31 : decode cX2_rehang 31 = .ok (.istore_n 3, 1) := by decide +kernel
theorem dX2_rehang_32 : decode cX2_rehang 32 = .ok (.iload_n 3, 1) := by decide +kernel
theorem dX2_rehang_33 : decode cX2_rehang 33 = .ok (.bipush 40, 2) := by decide +kernel
theorem dX2_rehang_35 : decode cX2_rehang 35 = .ok (.if_icmp .ge 16, 3) := by decide +kernel
theorem dX2_rehang_38 : decode cX2_rehang 38 = .ok (.aload_n 0, 1) := by decide +kernel
theorem dX2_rehang_39 : decode cX2_rehang 39 = .ok (.getfield 20, 3) := by decide +kernel
theorem dX2_rehang_42 : decode cX2_rehang 42 = .ok (.iload_n 3, 1) := by decide +kernel
theorem dX2_rehang_43 : decode cX2_rehang 43 = .ok (.iconst (-1), 1) := by decide +kernel
theorem dX2_rehang_44 : decode cX2_rehang 44 = .ok (.iastore, 1) := by decide +kernel
theorem dX2_rehang_45 : decode cX2_rehang 45 = .ok (.iinc 3 1, 3) := by decide +kernel
theorem dX2_rehang_48 : decode cX2_rehang 48 = .ok (.goto (-16), 3) := by decide +kernel
theorem dX2_rehang_51 : decode cX2_rehang 51 = .ok (.aload_n 0, 1) := by decide +kernel
theorem dX2_rehang_52 : decode cX2_rehang 52 = .ok (.iload_n 1, 1) := by decide +kernel
theorem dX2_rehang_53 : decode cX2_rehang 53 = .ok (.iload_n 2, 1) := by decide +kernel
theorem dX2_rehang_54 : decode cX2_rehang 54 = .ok (.invokevirtual 78, 3) := by decide +kernel
theorem dX2_rehang_57 : decode cX2_rehang 57 = .ok (.iconst (-1), 1) := by decide +kernel
theorem dX2_rehang_58 : decode cX2_rehang 58 = .ok (.if_icmp .ne 9, 3) := by decide +kernel
theorem dX2_rehang_61 : decode cX2_rehang 61 = .ok (.aload_n 0, 1) := by decide +kernel
theorem dX2_rehang_62 : decode cX2_rehang 62 = .ok (.iconst 2, 1) := by decide +kernel
theorem dX2_rehang_63 : decode cX2_rehang 63 = .ok (.invokevirtual 67, 3) := by decide +kernel
theorem dX2_rehang_66 : decode cX2_rehang 66 = .ok (.ireturn, 1) := by decide +kernel
theorem dX2_rehang_67 : decode cX2_rehang 67 = .ok (.aload_n 0, 1) := by decide +kernel
theorem dX2_rehang_68 : decode cX2_rehang 68 = .ok (.invokevirtual 82, 3) := by decide +kernel
theorem dX2_rehang_71 : decode cX2_rehang 71 = .ok (.istore_n 3, 1) := by decide +kernel
theorem dX2_rehang_72 : decode cX2_rehang 72 = .ok (.aload_n 0, 1) := by decide +kernel
theorem dX2_rehang_73 : decode cX2_rehang 73 = .ok (.getfield 13, 3) := by decide +kernel
theorem dX2_rehang_76 : decode cX2_rehang 76 = .ok (.astore 4, 2) := by decide +kernel
theorem dX2_rehang_78 : decode cX2_rehang 78 = .ok (.aload_n 0, 1) := by decide +kernel
theorem dX2_rehang_79 : decode cX2_rehang 79 = .ok (.aload_n 0, 1) := by decide +kernel
theorem dX2_rehang_80 : decode cX2_rehang 80 = .ok (.getfield 20, 3) := by decide +kernel
theorem dX2_rehang_83 : decode cX2_rehang 83 = .ok (.putfield 13, 3) := by decide +kernel
theorem dX2_rehang_86 : decode cX2_rehang 86 = .ok (.aload_n 0, 1) := by decide +kernel
theorem dX2_rehang_87 : decode cX2_rehang 87 = .ok (.aload 4, 2) := by decide +kernel
theorem dX2_rehang_89 : decode cX2_rehang 89 = .ok (.putfield 20, 3) := by decide +kernel
theorem dX2_rehang_92 : decode cX2_rehang 92 = .ok (.aload_n 0, 1) := by decide +kernel
theorem dX2_rehang_93 : decode cX2_rehang 93 = .ok (.getfield 17, 3) := by decide +kernel
theorem dX2_rehang_96 : decode cX2_rehang 96 = .ok (.astore 4, 2) := by decide +kernel
theorem dX2_rehang_98 : decode cX2_rehang 98 = .ok (.aload_n 0, 1) := by decide +kernel
theorem dX2_rehang_99 : decode cX2_rehang 99 = .ok (.aload_n 0, 1) := by decide +kernel
theorem dX2_rehang_100 : decode cX2_rehang 100 = .ok (.getfield 23, 3) := by decide +kernel
theorem dX2_rehang_103 : decode cX2_rehang 103 = .ok (.putfield 17, 3) := by decide +kernel
theorem dX2_rehang_106 : decode cX2_rehang 106 = .ok (.aload_n 0, 1) := by decide +kernel
theorem dX2_rehang_107 : decode cX2_rehang 107 = .ok (.aload 4, 2) := by decide +kernel
theorem dX2_rehang_109 : decode cX2_rehang 109 = .ok (.putfield 23, 3) := by decide +kernel
theorem dX2_rehang_112 : decode cX2_rehang 112 = .ok (.aload_n 0, 1) := by decide +kernel
theorem dX2_rehang_113 : decode cX2_rehang 113 = .ok (.iload_n 1, 1) := by decide +kernel
theorem dX2_rehang_114 : decode cX2_rehang 114 = .ok (.putfield 7, 3) := by decide +kernel
theorem dX2_rehang_117 : decode cX2_rehang 117 = .ok (.aload_n 0, 1) := by decide +kernel
theorem dX2_rehang_118 : decode cX2_rehang 118 = .ok (.iload_n 2, 1) := by decide +kernel
theorem dX2_rehang_119 : decode cX2_rehang 119 = .ok (.putfield 49, 3) := by decide +kernel
theorem dX2_rehang_122 : decode cX2_rehang 122 = .ok (.iload_n 3, 1) := by decide +kernel
theorem dX2_rehang_123 : decode cX2_rehang 123 = .ok (.ireturn, 1) := by decide +kernel
theorem dX2_count_0 : decode cX2_count 0 = .ok (.iconst 0, 1) := by decide +kernel
theorem dX2_count_1 : decode cX2_count 1 = .ok (.istore_n 2, 1) := by decide +kernel
theorem dX2_count_2 : decode cX2_count 2 = .ok (.iconst 0, 1) := by decide +kernel
theorem dX2_count_3 : decode cX2_count 3 = .ok (.istore_n 3, 1) := by decide +kernel
theorem dX2_count_4 : decode cX2_count 4 = .ok (.iload_n 3, 1) := by decide +kernel
theorem dX2_count_5 : decode cX2_count 5 = .ok (.aload_n 0, 1) := by decide +kernel
theorem dX2_count_6 : decode cX2_count 6 = .ok (.getfield 7, 3) := by decide +kernel
theorem dX2_count_9 : decode cX2_count 9 = .ok (.if_icmp .ge 27, 3) := by decide +kernel
theorem dX2_count_12 : decode cX2_count 12 = .ok (.iload_n 2, 1) := by decide +kernel
theorem dX2_count_13 : decode cX2_count 13 = .ok (.aload_n 0, 1) := by decide +kernel
theorem dX2_count_14 : decode cX2_count 14 = .ok (.getfield 13, 3) := by decide +kernel
theorem dX2_count_17 : decode cX2_count 17 = .ok (.iload_n 3, 1) := by decide +kernel
theorem dX2_count_18 : decode cX2_count 18 = .ok (.iaload, 1) := by decide +kernel
theorem dX2_count_19 : decode cX2_count 19 = .ok (.iload_n 1, 1) := by decide +kernel
theorem dX2_count_20 : decode cX2_count 20 = .ok (.if_icmp .ne 7, 3) := by decide +kernel
theorem dX2_count_23 : decode cX2_count 23 = .ok (.iconst 1, 1) := by decide +kernel
theorem dX2_count_24 : decode cX2_count 24 = .ok (.goto 4, 3) := by decide +kernel
theorem dX2_count_27 : decode cX2_count 27 = .ok (.iconst 0, 1) := by decide +kernel
theorem dX2_count_28 : decode cX2_count 28 = .ok (.iadd, 1) := by decide +kernel
theorem dX2_count_29 : decode cX2_count 29 = .ok (.istore_n 2, 1) := by decide +kernel
theorem dX2_count_30 : decode cX2_count 30 = .ok (.iinc 3 1, 3) := by decide +kernel
theorem dX2_count_33 : decode cX2_count 33 = .ok (.goto (-29), 3) := by decide +kernel
theorem dX2_count_36 : decode cX2_count 36 = .ok (.iload_n 2, 1) := by decide +kernel
theorem dX2_count_37 : decode cX2_count 37 = .ok (.ireturn, 1) := by decide +kernel
set_option maxRecDepth 20000 in
theorem ggX2_sweep_X2_count : GoodIn wsX2_sweep wsX2_count := goodIn_r _ [8, 2, 3, 12, 13, 14, 15, 16, 17, 18, 19, 20, 21, 22] (by decide +kernel) (by decide +kernel)
set_option maxRecDepth 20000 in
theorem gX2_sweep_X2_count : GoodIn wsX2_sweep (wsV RX2 86 RX2 yX2_count wsX2_count) := goodIn_app (goodIn_of _ (by decide +kernel)) ggX2_sweep_X2_count
set_option maxRecDepth 20000 in
theorem ggX2_sweep_X2_clear : GoodIn wsX2_sweep wsX2_clear := goodIn_r _ [11] (by decide +kernel) (by decide +kernel)
set_option maxRecDepth 20000 in
theorem gX2_sweep_X2_clear : GoodIn wsX2_sweep (va_wsS RX2 26 yX2_clear wsX2_clear) := goodIn_app (goodIn_of _ (by decide +kernel)) ggX2_sweep_X2_clear
theorem dX2_sweep_0 : decode cX2_sweep 0 = .ok (.aload_n 0, 1) := by decide +kernel
theorem dX2_sweep_1 : decode cX2_sweep 1 = .ok (.iconst 0, 1) := by decide +kernel
theorem dX2_sweep_2 : decode cX2_sweep 2 = .ok (.putfield 30, 3) := by decide +kernel
theorem dX2_sweep_5 : decode cX2_sweep 5 = .ok (.aload_n 0, 1) := by decide +kernel
theorem dX2_sweep_6 : decode cX2_sweep 6 = .ok (.bipush (-2), 2) := by decide +kernel
theorem dX2_sweep_8 : decode cX2_sweep 8 = .ok (.invokevirtual 86, 3) := by decide +kernel
theorem dX2_sweep_11 : decode cX2_sweep 11 = .ok (.istore_n 1, 1) := by decide +kernel
theorem dX2_sweep_12 : decode cX2_sweep 12 = .ok (.iload_n 1, 1) := by decide +kernel
theorem dX2_sweep_13 : decode cX2_sweep 13 = .ok (.aload_n 0, 1) := by decide +kernel
theorem dX2_sweep_14 : decode cX2_sweep 14 = .ok (.getfield 7, 3) := by decide +kernel
theorem dX2_sweep_17 : decode cX2_sweep 17 = .ok (.if_icmp .ne 14, 3) := by decide +kernel
theorem dX2_sweep_20 : decode cX2_sweep 20 = .ok (.aload_n 0, 1) := by decide +kernel
theorem dX2_sweep_21 : decode cX2_sweep 21 = .ok (.getfield 13, 3) := by decide +kernel
theorem dX2_sweep_24 : decode cX2_sweep 24 = .ok (.aload_n 0, 1) := by decide +kernel
theorem dX2_sweep_25 : decode cX2_sweep 25 = .ok (.getfield 7, 3) := by decide +kernel
theorem dX2_sweep_28 : decode cX2_sweep 28 = .ok (.invokestatic 26, 3) := by decide +kernel
theorem dX2_sweep_31 : decode cX2_sweep 31 = .ok (.iconst 2, 1) := by decide +kernel
theorem dX2_sweep_32 : decode cX2_sweep 32 = .ok (.aload_n 0, 1) := by decide +kernel
theorem dX2_sweep_33 : decode cX2_sweep 33 = .ok (.getfield 7, 3) := by decide +kernel
theorem dX2_sweep_36 : decode cX2_sweep 36 = .ok (.imul, 1) := by decide +kernel
theorem dX2_sweep_37 : decode cX2_sweep 37 = .ok (.iconst 1, 1) := by decide +kernel
theorem dX2_sweep_38 : decode cX2_sweep 38 = .ok (.isub, 1) := by decide +kernel
theorem dX2_sweep_39 : decode cX2_sweep 39 = .ok (.istore_n 2, 1) := by decide +kernel
theorem dX2_sweep_40 : decode cX2_sweep 40 = .ok (.iload_n 2, 1) := by decide +kernel
theorem dX2_sweep_41 : decode cX2_sweep 41 = .ok (.ifCond .lt 54, 3) := by decide +kernel
theorem dX2_sweep_44 : decode cX2_sweep 44 = .ok (.aload_n 0, 1) := by decide +kernel
theorem dX2_sweep_45 : decode cX2_sweep 45 = .ok (.getfield 13, 3) := by decide +kernel
theorem dX2_sweep_48 : decode cX2_sweep 48 = .ok (.iload_n 2, 1) := by decide +kernel
theorem dX2_sweep_49 : decode cX2_sweep 49 = .ok (.aload_n 0, 1) := by decide +kernel
theorem dX2_sweep_50 : decode cX2_sweep 50 = .ok (.getfield 7, 3) := by decide +kernel
theorem dX2_sweep_53 : decode cX2_sweep 53 = .ok (.irem, 1) := by decide +kernel
theorem dX2_sweep_54 : decode cX2_sweep 54 = .ok (.iaload, 1) := by decide +kernel
theorem dX2_sweep_55 : decode cX2_sweep 55 = .ok (.bipush (-2), 2) := by decide +kernel
theorem dX2_sweep_57 : decode cX2_sweep 57 = .ok (.if_icmp .ne 32, 3) := by decide +kernel
theorem dX2_sweep_60 : decode cX2_sweep 60 = .ok (.aload_n 0, 1) := by decide +kernel
theorem dX2_sweep_61 : decode cX2_sweep 61 = .ok (.getfield 13, 3) := by decide +kernel
theorem dX2_sweep_64 : decode cX2_sweep 64 = .ok (.iload_n 2, 1) := by decide +kernel
theorem dX2_sweep_65 : decode cX2_sweep 65 = .ok (.iconst 1, 1) := by decide +kernel
theorem dX2_sweep_66 : decode cX2_sweep 66 = .ok (.iadd, 1) := by decide +kernel
theorem dX2_sweep_67 : decode cX2_sweep 67 = .ok (.aload_n 0, 1) := by decide +kernel
theorem dX2_sweep_68 : decode cX2_sweep 68 = .ok (.getfield 7, 3) := by decide +kernel
theorem dX2_sweep_71 : decode cX2_sweep 71 = .ok (.irem, 1) := by decide +kernel
theorem dX2_sweep_72 : decode cX2_sweep 72 = .ok (.iaload, 1) := by decide +kernel
theorem dX2_sweep_73 : decode cX2_sweep 73 = .ok (.iconst (-1), 1) := by decide +kernel
theorem dX2_sweep_74 : decode cX2_sweep 74 = .ok (.if_icmp .ne 15, 3) := by decide +kernel
theorem dX2_sweep_77 : decode cX2_sweep 77 = .ok (.aload_n 0, 1) := by decide +kernel
theorem dX2_sweep_78 : decode cX2_sweep 78 = .ok (.getfield 13, 3) := by decide +kernel
theorem dX2_sweep_81 : decode cX2_sweep 81 = .ok (.iload_n 2, 1) := by decide +kernel
theorem dX2_sweep_82 : decode cX2_sweep 82 = .ok (.aload_n 0, 1) := by decide +kernel
theorem dX2_sweep_83 : decode cX2_sweep 83 = .ok (.getfield 7, 3) := by decide +kernel
theorem dX2_sweep_86 : decode cX2_sweep 86 = .ok (.irem, 1) := by decide +kernel
theorem dX2_sweep_87 : decode cX2_sweep 87 = .ok (.iconst (-1), 1) := by decide +kernel
theorem dX2_sweep_88 : decode cX2_sweep 88 = .ok (.iastore, 1) := by decide +kernel
theorem dX2_sweep_89 : decode cX2_sweep 89 = .ok (.iinc 2 (-1), 3) := by decide +kernel
theorem dX2_sweep_92 : decode cX2_sweep 92 = .ok (.goto (-52), 3) := by decide +kernel
theorem dX2_sweep_95 : decode cX2_sweep 95 = .ok (.iload_n 1, 1) := by decide +kernel
theorem dX2_sweep_96 : decode cX2_sweep 96 = .ok (.aload_n 0, 1) := by decide +kernel
theorem dX2_sweep_97 : decode cX2_sweep 97 = .ok (.bipush (-2), 2) := by decide +kernel
theorem dX2_sweep_99 : decode cX2_sweep 99 = .ok (.invokevirtual 86, 3) := by decide +kernel
theorem dX2_sweep_102 : decode cX2_sweep 102 = .ok (.isub, 1) := by decide +kernel
theorem dX2_sweep_103 : decode cX2_sweep 103 = .ok (.ireturn, 1) := by decide +kernel
set_option maxRecDepth 20000 in
theorem ggX2_hooks_X2_ok : GoodIn wsX2_hooks wsX2_ok := goodIn_r _ [6, 7, 8, 9, 10, 11, 12, 13, 14, 15, 16, 17, 18] (by decide +kernel) (by decide +kernel)
set_option maxRecDepth 20000 in
theorem gX2_hooks_X2_ok : GoodIn wsX2_hooks (wsV RX2 89 RX2 yX2_ok wsX2_ok) := goodIn_app (goodIn_of _ (by decide +kernel)) ggX2_hooks_X2_ok
theorem dX2_hooks_0 : decode cX2_hooks 0 = .ok (.aload_n 0, 1) := by decide +kernel
theorem dX2_hooks_1 : decode cX2_hooks 1 = .ok (.aload_n 0, 1) := by decide +kernel
theorem dX2_hooks_2 : decode cX2_hooks 2 = .ok (.getfield 7, 3) := by decide +kernel
theorem dX2_hooks_5 : decode cX2_hooks 5 = .ok (.invokevirtual 89, 3) := by decide +kernel
theorem dX2_hooks_8 : decode cX2_hooks 8 = .ok (.ireturn, 1) := by decide +kernel
set_option maxRecDepth 20000 in
theorem ggX2_way_X2_ok : GoodIn wsX2_way wsX2_ok := goodIn_r _ [6, 7, 8, 9, 10, 11, 12, 13, 14, 15, 16, 17, 18] (by decide +kernel) (by decide +kernel)
set_option maxRecDepth 20000 in
theorem gX2_way_X2_ok : GoodIn wsX2_way (wsV RX2 89 RX2 yX2_ok wsX2_ok) := goodIn_app (goodIn_of _ (by decide +kernel)) ggX2_way_X2_ok
theorem dX2_way_0 : decode cX2_way 0 = .ok (.aload_n 0, 1) := by decide +kernel
theorem dX2_way_1 : decode cX2_way 1 = .ok (.aload_n 0, 1) := by decide +kernel
theorem dX2_way_2 : decode cX2_way 2 = .ok (.getfield 49, 3) := by decide +kernel
theorem dX2_way_5 : decode cX2_way 5 = .ok (.invokevirtual 89, 3) := by decide +kernel
theorem dX2_way_8 : decode cX2_way 8 = .ok (.ireturn, 1) := by decide +kernel
theorem dX2_many_0 : decode cX2_many 0 = .ok (.iconst 0, 1) := by decide +kernel
theorem dX2_many_1 : decode cX2_many 1 = .ok (.istore_n 1, 1) := by decide +kernel
theorem dX2_many_2 : decode cX2_many 2 = .ok (.iconst 0, 1) := by decide +kernel
theorem dX2_many_3 : decode cX2_many 3 = .ok (.istore_n 2, 1) := by decide +kernel
theorem dX2_many_4 : decode cX2_many 4 = .ok (.iload_n 2, 1) := by decide +kernel
theorem dX2_many_5 : decode cX2_many 5 = .ok (.aload_n 0, 1) := by decide +kernel
theorem dX2_many_6 : decode cX2_many 6 = .ok (.getfield 7, 3) := by decide +kernel
theorem dX2_many_9 : decode cX2_many 9 = .ok (.if_icmp .ge 26, 3) := by decide +kernel
theorem dX2_many_12 : decode cX2_many 12 = .ok (.iload_n 1, 1) := by decide +kernel
theorem dX2_many_13 : decode cX2_many 13 = .ok (.aload_n 0, 1) := by decide +kernel
theorem dX2_many_14 : decode cX2_many 14 = .ok (.getfield 13, 3) := by decide +kernel
theorem dX2_many_17 : decode cX2_many 17 = .ok (.iload_n 2, 1) := by decide +kernel
theorem dX2_many_18 : decode cX2_many 18 = .ok (.iaload, 1) := by decide +kernel
theorem dX2_many_19 : decode cX2_many 19 = .ok (.ifCond .lt 7, 3) := by decide +kernel
theorem dX2_many_22 : decode cX2_many 22 = .ok (.iconst 1, 1) := by decide +kernel
theorem dX2_many_23 : decode cX2_many 23 = .ok (.goto 4, 3) := by decide +kernel
theorem dX2_many_26 : decode cX2_many 26 = .ok (.iconst 0, 1) := by decide +kernel
theorem dX2_many_27 : decode cX2_many 27 = .ok (.iadd, 1) := by decide +kernel
theorem dX2_many_28 : decode cX2_many 28 = .ok (.istore_n 1, 1) := by decide +kernel
theorem dX2_many_29 : decode cX2_many 29 = .ok (.iinc 2 1, 3) := by decide +kernel
theorem dX2_many_32 : decode cX2_many 32 = .ok (.goto (-28), 3) := by decide +kernel
theorem dX2_many_35 : decode cX2_many 35 = .ok (.iload_n 1, 1) := by decide +kernel
theorem dX2_many_36 : decode cX2_many 36 = .ok (.ireturn, 1) := by decide +kernel
set_option maxRecDepth 20000 in
theorem ggX2_coats_X2_many : GoodIn wsX2_coats wsX2_many := goodIn_r _ [5, 6, 7, 13, 14, 15, 16, 17, 18, 19, 20, 21, 22, 23] (by decide +kernel) (by decide +kernel)
set_option maxRecDepth 20000 in
theorem gX2_coats_X2_many : GoodIn wsX2_coats (wsV RX2 92 RX2 yX2_many wsX2_many) := goodIn_app (goodIn_of _ (by decide +kernel)) ggX2_coats_X2_many
set_option maxRecDepth 20000 in
theorem ggX2_coats_X2_ok : GoodIn wsX2_coats wsX2_ok := goodIn_r _ [11, 12, 13, 14, 15, 16, 17, 18, 19, 20, 21, 22, 23] (by decide +kernel) (by decide +kernel)
set_option maxRecDepth 20000 in
theorem gX2_coats_X2_ok : GoodIn wsX2_coats (wsV RX2 89 RX2 yX2_ok wsX2_ok) := goodIn_app (goodIn_of _ (by decide +kernel)) ggX2_coats_X2_ok
theorem dX2_coats_0 : decode cX2_coats 0 = .ok (.aload_n 0, 1) := by decide +kernel
theorem dX2_coats_1 : decode cX2_coats 1 = .ok (.aload_n 0, 1) := by decide +kernel
theorem dX2_coats_2 : decode cX2_coats 2 = .ok (.invokevirtual 92, 3) := by decide +kernel
theorem dX2_coats_5 : decode cX2_coats 5 = .ok (.invokevirtual 89, 3) := by decide +kernel
theorem dX2_coats_8 : decode cX2_coats 8 = .ok (.ireturn, 1) := by decide +kernel
set_option maxRecDepth 20000 in
theorem ggX2_tickets_X2_count : GoodIn wsX2_tickets wsX2_count := goodIn_r _ [5, 6, 7, 13, 14, 15, 16, 17, 18, 19, 20, 21, 22, 23] (by decide +kernel) (by decide +kernel)
set_option maxRecDepth 20000 in
theorem gX2_tickets_X2_count : GoodIn wsX2_tickets (wsV RX2 86 RX2 yX2_count wsX2_count) := goodIn_app (goodIn_of _ (by decide +kernel)) ggX2_tickets_X2_count
set_option maxRecDepth 20000 in
theorem ggX2_tickets_X2_ok : GoodIn wsX2_tickets wsX2_ok := goodIn_r _ [11, 12, 13, 14, 15, 16, 17, 18, 19, 20, 21, 22, 23] (by decide +kernel) (by decide +kernel)
set_option maxRecDepth 20000 in
theorem gX2_tickets_X2_ok : GoodIn wsX2_tickets (wsV RX2 89 RX2 yX2_ok wsX2_ok) := goodIn_app (goodIn_of _ (by decide +kernel)) ggX2_tickets_X2_ok
theorem dX2_tickets_0 : decode cX2_tickets 0 = .ok (.aload_n 0, 1) := by decide +kernel
theorem dX2_tickets_1 : decode cX2_tickets 1 = .ok (.aload_n 0, 1) := by decide +kernel
theorem dX2_tickets_2 : decode cX2_tickets 2 = .ok (.bipush (-2), 2) := by decide +kernel
theorem dX2_tickets_4 : decode cX2_tickets 4 = .ok (.invokevirtual 86, 3) := by decide +kernel
theorem dX2_tickets_7 : decode cX2_tickets 7 = .ok (.invokevirtual 89, 3) := by decide +kernel
theorem dX2_tickets_10 : decode cX2_tickets 10 = .ok (.ireturn, 1) := by decide +kernel
theorem dX2_state_0 : decode cX2_state 0 = .ok (.aload_n 0, 1) := by decide +kernel
theorem dX2_state_1 : decode cX2_state 1 = .ok (.getfield 13, 3) := by decide +kernel
theorem dX2_state_4 : decode cX2_state 4 = .ok (.iload_n 1, 1) := by decide +kernel
theorem dX2_state_5 : decode cX2_state 5 = .ok (.iaload, 1) := by decide +kernel
theorem dX2_state_6 : decode cX2_state 6 = .ok (.iconst (-1), 1) := by decide +kernel
theorem dX2_state_7 : decode cX2_state 7 = .ok (.if_icmp .ne 7, 3) := by decide +kernel
theorem dX2_state_10 : decode cX2_state 10 = .ok (.iconst 0, 1) := by decide +kernel
theorem dX2_state_11 : decode cX2_state 11 = .ok (.goto 19, 3) := by decide +kernel
theorem dX2_state_14 : decode cX2_state 14 = .ok (.aload_n 0, 1) := by decide +kernel
theorem dX2_state_15 : decode cX2_state 15 = .ok (.getfield 13, 3) := by decide +kernel
theorem dX2_state_18 : decode cX2_state 18 = .ok (.iload_n 1, 1) := by decide +kernel
theorem dX2_state_19 : decode cX2_state 19 = .ok (.iaload, 1) := by decide +kernel
theorem dX2_state_20 : decode cX2_state 20 = .ok (.bipush (-2), 2) := by decide +kernel
theorem dX2_state_22 : decode cX2_state 22 = .ok (.if_icmp .ne 7, 3) := by decide +kernel
theorem dX2_state_25 : decode cX2_state 25 = .ok (.iconst 2, 1) := by decide +kernel
theorem dX2_state_26 : decode cX2_state 26 = .ok (.goto 4, 3) := by decide +kernel
theorem dX2_state_29 : decode cX2_state 29 = .ok (.iconst 1, 1) := by decide +kernel
theorem dX2_state_30 : decode cX2_state 30 = .ok (.ireturn, 1) := by decide +kernel
set_option maxRecDepth 20000 in
theorem ggX2_stateOf_X2_isHook : GoodIn wsX2_stateOf wsX2_isHook := goodIn_r _ [6, 7, 8, 9, 5, 10, 20, 21, 22, 23, 24, 25, 26, 27, 28, 29, 30] (by decide +kernel) (by decide +kernel)
set_option maxRecDepth 20000 in
theorem gX2_stateOf_X2_isHook : GoodIn wsX2_stateOf (wsV RX2 95 RX2 yX2_isHook wsX2_isHook) := goodIn_app (goodIn_of _ (by decide +kernel)) ggX2_stateOf_X2_isHook
set_option maxRecDepth 20000 in
theorem ggX2_stateOf_X2_state : GoodIn wsX2_stateOf wsX2_state := goodIn_r _ [14, 15, 20, 21, 22, 23, 24, 25, 26, 27, 28, 29, 30] (by decide +kernel) (by decide +kernel)
set_option maxRecDepth 20000 in
theorem gX2_stateOf_X2_state : GoodIn wsX2_stateOf (wsV RX2 98 RX2 yX2_state wsX2_state) := goodIn_app (goodIn_of _ (by decide +kernel)) ggX2_stateOf_X2_state
set_option maxRecDepth 20000 in
theorem ggX2_stateOf_X2_no : GoodIn wsX2_stateOf wsX2_no := goodIn_r _ [19, 1, 20, 21, 22, 23, 24, 25, 26, 27, 28, 29, 30] (by decide +kernel) (by decide +kernel)
set_option maxRecDepth 20000 in
theorem gX2_stateOf_X2_no : GoodIn wsX2_stateOf (wsV RX2 67 RX2 yX2_no wsX2_no) := goodIn_app (goodIn_of _ (by decide +kernel)) ggX2_stateOf_X2_no
theorem dX2_stateOf_0 : decode cX2_stateOf 0 = .ok (.aload_n 0, 1) := by decide +kernel
theorem dX2_stateOf_1 : decode cX2_stateOf 1 = .ok (.iconst 0, 1) := by decide +kernel
theorem dX2_stateOf_2 : decode cX2_stateOf 2 = .ok (.putfield 30, 3) := by decide +kernel
theorem dX2_stateOf_5 : decode cX2_stateOf 5 = .ok (.aload_n 0, 1) := by decide +kernel
theorem dX2_stateOf_6 : decode cX2_stateOf 6 = .ok (.iload_n 1, 1) := by decide +kernel
theorem dX2_stateOf_7 : decode cX2_stateOf 7 = .ok (.invokevirtual 95, 3) := by decide +kernel
theorem dX2_stateOf_10 : decode cX2_stateOf 10 = .ok (.ifCond .eq 11, 3) := by decide +kernel
theorem dX2_stateOf_13 : decode cX2_stateOf 13 = .ok (.aload_n 0, 1) := by decide +kernel
theorem dX2_stateOf_14 : decode cX2_stateOf 14 = .ok (.iload_n 1, 1) := by decide +kernel
theorem dX2_stateOf_15 : decode cX2_stateOf 15 = .ok (.invokevirtual 98, 3) := by decide +kernel
theorem dX2_stateOf_18 : decode cX2_stateOf 18 = .ok (.goto 8, 3) := by decide +kernel
theorem dX2_stateOf_21 : decode cX2_stateOf 21 = .ok (.aload_n 0, 1) := by decide +kernel
theorem dX2_stateOf_22 : decode cX2_stateOf 22 = .ok (.iconst 1, 1) := by decide +kernel
theorem dX2_stateOf_23 : decode cX2_stateOf 23 = .ok (.invokevirtual 67, 3) := by decide +kernel
theorem dX2_stateOf_26 : decode cX2_stateOf 26 = .ok (.ireturn, 1) := by decide +kernel
theorem dX2_coat_0 : decode cX2_coat 0 = .ok (.iconst (-1), 1) := by decide +kernel
theorem dX2_coat_1 : decode cX2_coat 1 = .ok (.aload_n 0, 1) := by decide +kernel
theorem dX2_coat_2 : decode cX2_coat 2 = .ok (.getfield 13, 3) := by decide +kernel
theorem dX2_coat_5 : decode cX2_coat 5 = .ok (.iload_n 1, 1) := by decide +kernel
theorem dX2_coat_6 : decode cX2_coat 6 = .ok (.iaload, 1) := by decide +kernel
theorem dX2_coat_7 : decode cX2_coat 7 = .ok (.invokestatic 101, 3) := by decide +kernel
theorem dX2_coat_10 : decode cX2_coat 10 = .ok (.ireturn, 1) := by decide +kernel
set_option maxRecDepth 20000 in
theorem ggX2_coatAt_X2_isHook : GoodIn wsX2_coatAt wsX2_isHook := goodIn_r _ [6, 7, 8, 9, 5, 10, 24, 25, 26, 27, 28, 29, 30, 31, 32, 33, 34] (by decide +kernel) (by decide +kernel)
set_option maxRecDepth 20000 in
theorem gX2_coatAt_X2_isHook : GoodIn wsX2_coatAt (wsV RX2 95 RX2 yX2_isHook wsX2_isHook) := goodIn_app (goodIn_of _ (by decide +kernel)) ggX2_coatAt_X2_isHook
set_option maxRecDepth 20000 in
theorem ggX2_coatAt_X2_coat : GoodIn wsX2_coatAt wsX2_coat := goodIn_r _ [14, 15, 16, 17, 18, 19, 24, 25, 26, 27, 28, 29, 30, 31, 32, 33, 34] (by decide +kernel) (by decide +kernel)
set_option maxRecDepth 20000 in
theorem gX2_coatAt_X2_coat : GoodIn wsX2_coatAt (wsV RX2 106 RX2 yX2_coat wsX2_coat) := goodIn_app (goodIn_of _ (by decide +kernel)) ggX2_coatAt_X2_coat
set_option maxRecDepth 20000 in
theorem ggX2_coatAt_X2_no : GoodIn wsX2_coatAt wsX2_no := goodIn_r _ [23, 1, 24, 25, 26, 27, 28, 29, 30, 31, 32, 33, 34] (by decide +kernel) (by decide +kernel)
set_option maxRecDepth 20000 in
theorem gX2_coatAt_X2_no : GoodIn wsX2_coatAt (wsV RX2 67 RX2 yX2_no wsX2_no) := goodIn_app (goodIn_of _ (by decide +kernel)) ggX2_coatAt_X2_no
theorem dX2_coatAt_0 : decode cX2_coatAt 0 = .ok (.aload_n 0, 1) := by decide +kernel
theorem dX2_coatAt_1 : decode cX2_coatAt 1 = .ok (.iconst 0, 1) := by decide +kernel
theorem dX2_coatAt_2 : decode cX2_coatAt 2 = .ok (.putfield 30, 3) := by decide +kernel
theorem dX2_coatAt_5 : decode cX2_coatAt 5 = .ok (.aload_n 0, 1) := by decide +kernel
theorem dX2_coatAt_6 : decode cX2_coatAt 6 = .ok (.iload_n 1, 1) := by decide +kernel
theorem dX2_coatAt_7 : decode cX2_coatAt 7 = .ok (.invokevirtual 95, 3) := by decide +kernel
theorem dX2_coatAt_10 : decode cX2_coatAt 10 = .ok (.ifCond .eq 11, 3) := by decide +kernel
theorem dX2_coatAt_13 : decode cX2_coatAt 13 = .ok (.aload_n 0, 1) := by decide +kernel
theorem dX2_coatAt_14 : decode cX2_coatAt 14 = .ok (.iload_n 1, 1) := by decide +kernel
theorem dX2_coatAt_15 : decode cX2_coatAt 15 = .ok (.invokevirtual 106, 3) := by decide +kernel
theorem dX2_coatAt_18 : decode cX2_coatAt 18 = .ok (.goto 8, 3) := by decide +kernel
theorem dX2_coatAt_21 : decode cX2_coatAt 21 = .ok (.aload_n 0, 1) := by decide +kernel
theorem dX2_coatAt_22 : decode cX2_coatAt 22 = .ok (.iconst 1, 1) := by decide +kernel
theorem dX2_coatAt_23 : decode cX2_coatAt 23 = .ok (.invokevirtual 67, 3) := by decide +kernel
theorem dX2_coatAt_26 : decode cX2_coatAt 26 = .ok (.ireturn, 1) := by decide +kernel
theorem dX2_weightOn_0 : decode cX2_weightOn 0 = .ok (.aload_n 0, 1) := by decide +kernel
theorem dX2_weightOn_1 : decode cX2_weightOn 1 = .ok (.getfield 13, 3) := by decide +kernel
theorem dX2_weightOn_4 : decode cX2_weightOn 4 = .ok (.iload_n 1, 1) := by decide +kernel
theorem dX2_weightOn_5 : decode cX2_weightOn 5 = .ok (.iaload, 1) := by decide +kernel
theorem dX2_weightOn_6 : decode cX2_weightOn 6 = .ok (.ifCond .ge 7, 3) := by decide +kernel
theorem dX2_weightOn_9 : decode cX2_weightOn 9 = .ok (.iconst 0, 1) := by decide +kernel
theorem dX2_weightOn_10 : decode cX2_weightOn 10 = .ok (.goto 9, 3) := by decide +kernel
theorem dX2_weightOn_13 : decode cX2_weightOn 13 = .ok (.aload_n 0, 1) := by decide +kernel
theorem dX2_weightOn_14 : decode cX2_weightOn 14 = .ok (.getfield 17, 3) := by decide +kernel
theorem dX2_weightOn_17 : decode cX2_weightOn 17 = .ok (.iload_n 1, 1) := by decide +kernel
theorem dX2_weightOn_18 : decode cX2_weightOn 18 = .ok (.iaload, 1) := by decide +kernel
theorem dX2_weightOn_19 : decode cX2_weightOn 19 = .ok (.ireturn, 1) := by decide +kernel
set_option maxRecDepth 20000 in
theorem ggX2_weightAt_X2_isHook : GoodIn wsX2_weightAt wsX2_isHook := goodIn_r _ [6, 7, 8, 9, 5, 10, 21, 22, 23, 24, 25, 26, 27, 28, 29, 30, 31] (by decide +kernel) (by decide +kernel)
set_option maxRecDepth 20000 in
theorem gX2_weightAt_X2_isHook : GoodIn wsX2_weightAt (wsV RX2 95 RX2 yX2_isHook wsX2_isHook) := goodIn_app (goodIn_of _ (by decide +kernel)) ggX2_weightAt_X2_isHook
set_option maxRecDepth 20000 in
theorem ggX2_weightAt_X2_weightOn : GoodIn wsX2_weightAt wsX2_weightOn := goodIn_r _ [14, 15, 16, 21, 22, 23, 24, 25, 26, 27, 28, 29, 30, 31] (by decide +kernel) (by decide +kernel)
set_option maxRecDepth 20000 in
theorem gX2_weightAt_X2_weightOn : GoodIn wsX2_weightAt (wsV RX2 109 RX2 yX2_weightOn wsX2_weightOn) := goodIn_app (goodIn_of _ (by decide +kernel)) ggX2_weightAt_X2_weightOn
set_option maxRecDepth 20000 in
theorem ggX2_weightAt_X2_no : GoodIn wsX2_weightAt wsX2_no := goodIn_r _ [20, 1, 21, 22, 23, 24, 25, 26, 27, 28, 29, 30, 31] (by decide +kernel) (by decide +kernel)
set_option maxRecDepth 20000 in
theorem gX2_weightAt_X2_no : GoodIn wsX2_weightAt (wsV RX2 67 RX2 yX2_no wsX2_no) := goodIn_app (goodIn_of _ (by decide +kernel)) ggX2_weightAt_X2_no
theorem dX2_weightAt_0 : decode cX2_weightAt 0 = .ok (.aload_n 0, 1) := by decide +kernel
theorem dX2_weightAt_1 : decode cX2_weightAt 1 = .ok (.iconst 0, 1) := by decide +kernel
theorem dX2_weightAt_2 : decode cX2_weightAt 2 = .ok (.putfield 30, 3) := by decide +kernel
theorem dX2_weightAt_5 : decode cX2_weightAt 5 = .ok (.aload_n 0, 1) := by decide +kernel
theorem dX2_weightAt_6 : decode cX2_weightAt 6 = .ok (.iload_n 1, 1) := by decide +kernel
theorem dX2_weightAt_7 : decode cX2_weightAt 7 = .ok (.invokevirtual 95, 3) := by decide +kernel
theorem dX2_weightAt_10 : decode cX2_weightAt 10 = .ok (.ifCond .eq 11, 3) := by decide +kernel
theorem dX2_weightAt_13 : decode cX2_weightAt 13 = .ok (.aload_n 0, 1) := by decide +kernel
theorem dX2_weightAt_14 : decode cX2_weightAt 14 = .ok (.iload_n 1, 1) := by decide +kernel
theorem dX2_weightAt_15 : decode cX2_weightAt 15 = .ok (.invokevirtual 109, 3) := by decide +kernel
theorem dX2_weightAt_18 : decode cX2_weightAt 18 = .ok (.goto 8, 3) := by decide +kernel
theorem dX2_weightAt_21 : decode cX2_weightAt 21 = .ok (.aload_n 0, 1) := by decide +kernel
theorem dX2_weightAt_22 : decode cX2_weightAt 22 = .ok (.iconst 1, 1) := by decide +kernel
theorem dX2_weightAt_23 : decode cX2_weightAt 23 = .ok (.invokevirtual 67, 3) := by decide +kernel
theorem dX2_weightAt_26 : decode cX2_weightAt 26 = .ok (.ireturn, 1) := by decide +kernel
set_option maxRecDepth 20000 in
theorem ggX2_all_X2_weightOn : GoodIn wsX2_all wsX2_weightOn := goodIn_r _ [6, 7, 8, 9, 10, 11, 12, 13, 14, 15, 16, 17, 18, 19] (by decide +kernel) (by decide +kernel)
set_option maxRecDepth 20000 in
theorem gX2_all_X2_weightOn : GoodIn wsX2_all (wsV RX2 109 RX2 yX2_weightOn wsX2_weightOn) := goodIn_app (goodIn_of _ (by decide +kernel)) ggX2_all_X2_weightOn
theorem dX2_all_0 : decode cX2_all 0 = .ok (.iconst 0, 1) := by decide +kernel
theorem dX2_all_1 : decode cX2_all 1 = .ok (.istore_n 1, 1) := by decide +kernel
theorem dX2_all_2 : decode cX2_all 2 = .ok (.iconst 0, 1) := by decide +kernel
theorem dX2_all_3 : decode cX2_all 3 = .ok (.istore_n 2, 1) := by decide +kernel
theorem dX2_all_4 : decode cX2_all 4 = .ok (.iload_n 2, 1) := by decide +kernel
theorem dX2_all_5 : decode cX2_all 5 = .ok (.aload_n 0, 1) := by decide +kernel
theorem dX2_all_6 : decode cX2_all 6 = .ok (.getfield 7, 3) := by decide +kernel
theorem dX2_all_9 : decode cX2_all 9 = .ok (.if_icmp .ge 17, 3) := by decide +kernel
theorem dX2_all_12 : decode cX2_all 12 = .ok (.iload_n 1, 1) := by decide +kernel
theorem dX2_all_13 : decode cX2_all 13 = .ok (.aload_n 0, 1) := by decide +kernel
theorem dX2_all_14 : decode cX2_all 14 = .ok (.iload_n 2, 1) := by decide +kernel
theorem dX2_all_15 : decode cX2_all 15 = .ok (.invokevirtual 109, 3) := by decide +kernel
theorem dX2_all_18 : decode cX2_all 18 = .ok (.iadd, 1) := by decide +kernel
theorem dX2_all_19 : decode cX2_all 19 = .ok (.istore_n 1, 1) := by decide +kernel
theorem dX2_all_20 : decode cX2_all 20 = .ok (.iinc 2 1, 3) := by decide +kernel
theorem dX2_all_23 : decode cX2_all 23 = .ok (.goto (-19), 3) := by decide +kernel
theorem dX2_all_26 : decode cX2_all 26 = .ok (.iload_n 1, 1) := by decide +kernel
theorem dX2_all_27 : decode cX2_all 27 = .ok (.ireturn, 1) := by decide +kernel
set_option maxRecDepth 20000 in
theorem ggX2_weight_X2_all : GoodIn wsX2_weight wsX2_all := goodIn_r _ [5, 6, 7, 8, 9, 4, 10, 11, 12, 18, 19, 20, 21, 22, 23, 24, 25, 26, 27, 28] (by decide +kernel) (by decide +kernel)
set_option maxRecDepth 20000 in
theorem gX2_weight_X2_all : GoodIn wsX2_weight (wsV RX2 112 RX2 yX2_all wsX2_all) := goodIn_app (goodIn_of _ (by decide +kernel)) ggX2_weight_X2_all
set_option maxRecDepth 20000 in
theorem ggX2_weight_X2_ok : GoodIn wsX2_weight wsX2_ok := goodIn_r _ [16, 17, 18, 19, 20, 21, 22, 23, 24, 25, 26, 27, 28] (by decide +kernel) (by decide +kernel)
set_option maxRecDepth 20000 in
theorem gX2_weight_X2_ok : GoodIn wsX2_weight (wsV RX2 89 RX2 yX2_ok wsX2_ok) := goodIn_app (goodIn_of _ (by decide +kernel)) ggX2_weight_X2_ok
theorem dX2_weight_0 : decode cX2_weight 0 = .ok (.aload_n 0, 1) := by decide +kernel
theorem dX2_weight_1 : decode cX2_weight 1 = .ok (.aload_n 0, 1) := by decide +kernel
theorem dX2_weight_2 : decode cX2_weight 2 = .ok (.invokevirtual 112, 3) := by decide +kernel
theorem dX2_weight_5 : decode cX2_weight 5 = .ok (.invokevirtual 89, 3) := by decide +kernel
theorem dX2_weight_8 : decode cX2_weight 8 = .ok (.ireturn, 1) := by decide +kernel
theorem dX2_heaviest_0 : decode cX2_heaviest 0 = .ok (.iconst (-1), 1) := by decide +kernel
theorem dX2_heaviest_1 : decode cX2_heaviest 1 = .ok (.istore_n 1, 1) := by decide +kernel
theorem dX2_heaviest_2 : decode cX2_heaviest 2 = .ok (.iconst 0, 1) := by decide +kernel
theorem dX2_heaviest_3 : decode cX2_heaviest 3 = .ok (.istore_n 2, 1) := by decide +kernel
theorem dX2_heaviest_4 : decode cX2_heaviest 4 = .ok (.iload_n 2, 1) := by decide +kernel
theorem dX2_heaviest_5 : decode cX2_heaviest 5 = .ok (.aload_n 0, 1) := by decide +kernel
theorem dX2_heaviest_6 : decode cX2_heaviest 6 = .ok (.getfield 7, 3) := by decide +kernel
theorem dX2_heaviest_9 : decode cX2_heaviest 9 = .ok (.if_icmp .ge 40, 3) := by decide +kernel
theorem dX2_heaviest_12 : decode cX2_heaviest 12 = .ok (.aload_n 0, 1) := by decide +kernel
theorem dX2_heaviest_13 : decode cX2_heaviest 13 = .ok (.getfield 13, 3) := by decide +kernel
theorem dX2_heaviest_16 : decode cX2_heaviest 16 = .ok (.iload_n 2, 1) := by decide +kernel
theorem dX2_heaviest_17 : decode cX2_heaviest 17 = .ok (.iaload, 1) := by decide +kernel
theorem dX2_heaviest_18 : decode cX2_heaviest 18 = .ok (.ifCond .lt 25, 3) := by decide +kernel
theorem dX2_heaviest_21 : decode cX2_heaviest 21 = .ok (.iload_n 1, 1) := by decide +kernel
theorem dX2_heaviest_22 : decode cX2_heaviest 22 = .ok (.iconst (-1), 1) := by decide +kernel
theorem dX2_heaviest_23 : decode cX2_heaviest 23 = .ok (.if_icmp .eq 18, 3) := by decide +kernel
theorem dX2_heaviest_26 : decode cX2_heaviest 26 = .ok (.aload_n 0, 1) := by decide +kernel
theorem dX2_heaviest_27 : decode cX2_heaviest 27 = .ok (.getfield 17, 3) := by decide +kernel
theorem dX2_heaviest_30 : decode cX2_heaviest 30 = .ok (.iload_n 2, 1) := by decide +kernel
theorem dX2_heaviest_31 : decode cX2_heaviest 31 = .ok (.iaload, 1) := by decide +kernel
theorem dX2_heaviest_32 : decode cX2_heaviest 32 = .ok (.aload_n 0, 1) := by decide +kernel
theorem dX2_heaviest_33 : decode cX2_heaviest 33 = .ok (.getfield 17, 3) := by decide +kernel
theorem dX2_heaviest_36 : decode cX2_heaviest 36 = .ok (.iload_n 1, 1) := by decide +kernel
theorem dX2_heaviest_37 : decode cX2_heaviest 37 = .ok (.iaload, 1) := by decide +kernel
theorem dX2_heaviest_38 : decode cX2_heaviest 38 = .ok (.if_icmp .le 5, 3) := by decide +kernel
theorem dX2_heaviest_41 : decode cX2_heaviest 41 = .ok (.iload_n 2, 1) := by decide +kernel
theorem dX2_heaviest_42 : decode cX2_heaviest 42 = .ok (.istore_n 1, 1) := by decide +kernel
theorem dX2_heaviest_43 : decode cX2_heaviest 43 = .ok (.iinc 2 1, 3) := by decide +kernel
theorem dX2_heaviest_46 : decode cX2_heaviest 46 = .ok (.goto (-42), 3) := by decide +kernel
theorem dX2_heaviest_49 : decode cX2_heaviest 49 = .ok (.iload_n 1, 1) := by decide +kernel
theorem dX2_heaviest_50 : decode cX2_heaviest 50 = .ok (.ireturn, 1) := by decide +kernel
set_option maxRecDepth 20000 in
theorem ggX2_heaviestAt_X2_heaviest : GoodIn wsX2_heaviestAt wsX2_heaviest := goodIn_r _ [5, 6, 7, 8, 14, 15, 16, 17, 18, 19, 20, 21, 22, 23, 24] (by decide +kernel) (by decide +kernel)
set_option maxRecDepth 20000 in
theorem gX2_heaviestAt_X2_heaviest : GoodIn wsX2_heaviestAt (wsV RX2 115 RX2 yX2_heaviest wsX2_heaviest) := goodIn_app (goodIn_of _ (by decide +kernel)) ggX2_heaviestAt_X2_heaviest
set_option maxRecDepth 20000 in
theorem ggX2_heaviestAt_X2_ok : GoodIn wsX2_heaviestAt wsX2_ok := goodIn_r _ [12, 13, 14, 15, 16, 17, 18, 19, 20, 21, 22, 23, 24] (by decide +kernel) (by decide +kernel)
set_option maxRecDepth 20000 in
theorem gX2_heaviestAt_X2_ok : GoodIn wsX2_heaviestAt (wsV RX2 89 RX2 yX2_ok wsX2_ok) := goodIn_app (goodIn_of _ (by decide +kernel)) ggX2_heaviestAt_X2_ok
theorem dX2_heaviestAt_0 : decode cX2_heaviestAt 0 = .ok (.aload_n 0, 1) := by decide +kernel
theorem dX2_heaviestAt_1 : decode cX2_heaviestAt 1 = .ok (.aload_n 0, 1) := by decide +kernel
theorem dX2_heaviestAt_2 : decode cX2_heaviestAt 2 = .ok (.invokevirtual 115, 3) := by decide +kernel
theorem dX2_heaviestAt_5 : decode cX2_heaviestAt 5 = .ok (.invokevirtual 89, 3) := by decide +kernel
theorem dX2_heaviestAt_8 : decode cX2_heaviestAt 8 = .ok (.ireturn, 1) := by decide +kernel
set_option maxRecDepth 20000 in
theorem ggX2_find_X2_isNumber : GoodIn wsX2_find wsX2_isNumber := goodIn_r _ [6, 7, 8, 5, 9] (by decide +kernel) (by decide +kernel)
set_option maxRecDepth 20000 in
theorem gX2_find_X2_isNumber : GoodIn wsX2_find (va_wsS RX2 64 yX2_isNumber wsX2_isNumber) := goodIn_app (goodIn_of _ (by decide +kernel)) ggX2_find_X2_isNumber
set_option maxRecDepth 20000 in
theorem ggX2_find_X2_no : GoodIn wsX2_find wsX2_no := goodIn_r _ [13, 1, 28, 29, 30, 31, 32, 33, 34, 35, 36, 37, 38] (by decide +kernel) (by decide +kernel)
set_option maxRecDepth 20000 in
theorem gX2_find_X2_no : GoodIn wsX2_find (wsV RX2 67 RX2 yX2_no wsX2_no) := goodIn_app (goodIn_of _ (by decide +kernel)) ggX2_find_X2_no
set_option maxRecDepth 20000 in
theorem ggX2_find_X2_lookNow : GoodIn wsX2_find wsX2_lookNow := goodIn_r _ [17, 18, 19, 20, 21, 22, 23, 5, 24, 25, 2, 26, 27, 28, 29, 30, 31, 32, 33, 34, 35, 36, 37, 38] (by decide +kernel) (by decide +kernel)
set_option maxRecDepth 20000 in
theorem gX2_find_X2_lookNow : GoodIn wsX2_find (wsV RX2 60 RX2 yX2_lookNow wsX2_lookNow) := goodIn_app (goodIn_of _ (by decide +kernel)) ggX2_find_X2_lookNow
theorem dX2_find_0 : decode cX2_find 0 = .ok (.aload_n 0, 1) := by decide +kernel
theorem dX2_find_1 : decode cX2_find 1 = .ok (.iconst 0, 1) := by decide +kernel
theorem dX2_find_2 : decode cX2_find 2 = .ok (.putfield 30, 3) := by decide +kernel
theorem dX2_find_5 : decode cX2_find 5 = .ok (.iload_n 1, 1) := by decide +kernel
theorem dX2_find_6 : decode cX2_find 6 = .ok (.invokestatic 64, 3) := by decide +kernel
theorem dX2_find_9 : decode cX2_find 9 = .ok (.ifCond .ne 9, 3) := by decide +kernel
theorem dX2_find_12 : decode cX2_find 12 = .ok (.aload_n 0, 1) := by decide +kernel
theorem dX2_find_13 : decode cX2_find 13 = .ok (.iconst 1, 1) := by decide +kernel
theorem dX2_find_14 : decode cX2_find 14 = .ok (.invokevirtual 67, 3) := by decide +kernel
theorem dX2_find_17 : decode cX2_find 17 = .ok (.ireturn, 1) := by decide +kernel
theorem dX2_find_18 : decode cX2_find 18 = .ok (.aload_n 0, 1) := by decide +kernel
theorem dX2_find_19 : decode cX2_find 19 = .ok (.iload_n 1, 1) := by decide +kernel
theorem dX2_find_20 : decode cX2_find 20 = .ok (.invokevirtual 60, 3) := by decide +kernel
theorem dX2_find_23 : decode cX2_find 23 = .ok (.aload_n 0, 1) := by decide +kernel
theorem dX2_find_24 : decode cX2_find 24 = .ok (.getfield 40, 3) := by decide +kernel
theorem dX2_find_27 : decode cX2_find 27 = .ok (.ireturn, 1) := by decide +kernel
set_option maxRecDepth 20000 in
theorem ggX2_manyLooks_X2_lookNow : GoodIn wsX2_manyLooks wsX2_lookNow := goodIn_r _ [6, 7, 8, 9, 10, 11, 12, 5, 13, 1, 14, 15, 16, 17, 18, 19, 20, 21, 22, 23, 24, 25, 26, 27] (by decide +kernel) (by decide +kernel)
set_option maxRecDepth 20000 in
theorem gX2_manyLooks_X2_lookNow : GoodIn wsX2_manyLooks (wsV RX2 60 RX2 yX2_lookNow wsX2_lookNow) := goodIn_app (goodIn_of _ (by decide +kernel)) ggX2_manyLooks_X2_lookNow
theorem dX2_manyLooks_0 : decode cX2_manyLooks 0 = .ok (.aload_n 0, 1) := by decide +kernel
theorem dX2_manyLooks_1 : decode cX2_manyLooks 1 = .ok (.iload_n 1, 1) := by decide +kernel
theorem dX2_manyLooks_2 : decode cX2_manyLooks 2 = .ok (.invokevirtual 60, 3) := by decide +kernel
theorem dX2_manyLooks_5 : decode cX2_manyLooks 5 = .ok (.aload_n 0, 1) := by decide +kernel
theorem dX2_manyLooks_6 : decode cX2_manyLooks 6 = .ok (.getfield 37, 3) := by decide +kernel
theorem dX2_manyLooks_9 : decode cX2_manyLooks 9 = .ok (.ireturn, 1) := by decide +kernel
set_option maxRecDepth 20000 in
theorem ggX2_looksFor_X2_isNumber : GoodIn wsX2_looksFor wsX2_isNumber := goodIn_r _ [5, 6, 7, 4, 8] (by decide +kernel) (by decide +kernel)
set_option maxRecDepth 20000 in
theorem gX2_looksFor_X2_isNumber : GoodIn wsX2_looksFor (va_wsS RX2 64 yX2_isNumber wsX2_isNumber) := goodIn_app (goodIn_of _ (by decide +kernel)) ggX2_looksFor_X2_isNumber
set_option maxRecDepth 20000 in
theorem ggX2_looksFor_X2_manyLooks : GoodIn wsX2_looksFor wsX2_manyLooks := goodIn_r _ [12, 13, 14, 15, 16, 4, 17, 18, 19, 20, 21, 22, 23, 24, 25, 26, 27, 32, 33, 34, 35, 36, 37, 38, 39, 40, 41, 42] (by decide +kernel) (by decide +kernel)
set_option maxRecDepth 20000 in
theorem gX2_looksFor_X2_manyLooks : GoodIn wsX2_looksFor (wsV RX2 118 RX2 yX2_manyLooks wsX2_manyLooks) := goodIn_app (goodIn_of _ (by decide +kernel)) ggX2_looksFor_X2_manyLooks
set_option maxRecDepth 20000 in
theorem ggX2_looksFor_X2_no : GoodIn wsX2_looksFor wsX2_no := goodIn_r _ [31, 1, 32, 33, 34, 35, 36, 37, 38, 39, 40, 41, 42] (by decide +kernel) (by decide +kernel)
set_option maxRecDepth 20000 in
theorem gX2_looksFor_X2_no : GoodIn wsX2_looksFor (wsV RX2 67 RX2 yX2_no wsX2_no) := goodIn_app (goodIn_of _ (by decide +kernel)) ggX2_looksFor_X2_no
theorem dX2_looksFor_0 : decode cX2_looksFor 0 = .ok (.aload_n 0, 1) := by decide +kernel
theorem dX2_looksFor_1 : decode cX2_looksFor 1 = .ok (.iconst 0, 1) := by decide +kernel
theorem dX2_looksFor_2 : decode cX2_looksFor 2 = .ok (.putfield 30, 3) := by decide +kernel
theorem dX2_looksFor_5 : decode cX2_looksFor 5 = .ok (.iload_n 1, 1) := by decide +kernel
theorem dX2_looksFor_6 : decode cX2_looksFor 6 = .ok (.invokestatic 64, 3) := by decide +kernel
theorem dX2_looksFor_9 : decode cX2_looksFor 9 = .ok (.ifCond .eq 11, 3) := by decide +kernel
theorem dX2_looksFor_12 : decode cX2_looksFor 12 = .ok (.aload_n 0, 1) := by decide +kernel
theorem dX2_looksFor_13 : decode cX2_looksFor 13 = .ok (.iload_n 1, 1) := by decide +kernel
theorem dX2_looksFor_14 : decode cX2_looksFor 14 = .ok (.invokevirtual 118, 3) := by decide +kernel
theorem dX2_looksFor_17 : decode cX2_looksFor 17 = .ok (.goto 8, 3) := by decide +kernel
theorem dX2_looksFor_20 : decode cX2_looksFor 20 = .ok (.aload_n 0, 1) := by decide +kernel
theorem dX2_looksFor_21 : decode cX2_looksFor 21 = .ok (.iconst 1, 1) := by decide +kernel
theorem dX2_looksFor_22 : decode cX2_looksFor 22 = .ok (.invokevirtual 67, 3) := by decide +kernel
theorem dX2_looksFor_25 : decode cX2_looksFor 25 = .ok (.ireturn, 1) := by decide +kernel
set_option maxRecDepth 20000 in
theorem ggX2_placeFor_X2_isNumber : GoodIn wsX2_placeFor wsX2_isNumber := goodIn_r _ [5, 6, 7, 4, 8] (by decide +kernel) (by decide +kernel)
set_option maxRecDepth 20000 in
theorem gX2_placeFor_X2_isNumber : GoodIn wsX2_placeFor (va_wsS RX2 64 yX2_isNumber wsX2_isNumber) := goodIn_app (goodIn_of _ (by decide +kernel)) ggX2_placeFor_X2_isNumber
set_option maxRecDepth 20000 in
theorem ggX2_placeFor_X2_place : GoodIn wsX2_placeFor wsX2_place := goodIn_r _ [12, 13, 14, 15, 16, 17, 4, 18, 19, 20, 21, 22, 23, 24, 25, 26, 27, 28, 29, 30, 31, 36, 37, 38, 39, 40, 41, 42, 43, 44, 45, 46] (by decide +kernel) (by decide +kernel)
set_option maxRecDepth 20000 in
theorem gX2_placeFor_X2_place : GoodIn wsX2_placeFor (wsV RX2 71 RX2 yX2_place wsX2_place) := goodIn_app (goodIn_of _ (by decide +kernel)) ggX2_placeFor_X2_place
set_option maxRecDepth 20000 in
theorem ggX2_placeFor_X2_no : GoodIn wsX2_placeFor wsX2_no := goodIn_r _ [35, 1, 36, 37, 38, 39, 40, 41, 42, 43, 44, 45, 46] (by decide +kernel) (by decide +kernel)
set_option maxRecDepth 20000 in
theorem gX2_placeFor_X2_no : GoodIn wsX2_placeFor (wsV RX2 67 RX2 yX2_no wsX2_no) := goodIn_app (goodIn_of _ (by decide +kernel)) ggX2_placeFor_X2_no
theorem dX2_placeFor_0 : decode cX2_placeFor 0 = .ok (.aload_n 0, 1) := by decide +kernel
theorem dX2_placeFor_1 : decode cX2_placeFor 1 = .ok (.iconst 0, 1) := by decide +kernel
theorem dX2_placeFor_2 : decode cX2_placeFor 2 = .ok (.putfield 30, 3) := by decide +kernel
theorem dX2_placeFor_5 : decode cX2_placeFor 5 = .ok (.iload_n 1, 1) := by decide +kernel
theorem dX2_placeFor_6 : decode cX2_placeFor 6 = .ok (.invokestatic 64, 3) := by decide +kernel
theorem dX2_placeFor_9 : decode cX2_placeFor 9 = .ok (.ifCond .eq 11, 3) := by decide +kernel
theorem dX2_placeFor_12 : decode cX2_placeFor 12 = .ok (.aload_n 0, 1) := by decide +kernel
theorem dX2_placeFor_13 : decode cX2_placeFor 13 = .ok (.iload_n 1, 1) := by decide +kernel
theorem dX2_placeFor_14 : decode cX2_placeFor 14 = .ok (.invokevirtual 71, 3) := by decide +kernel
theorem dX2_placeFor_17 : decode cX2_placeFor 17 = .ok (.goto 8, 3) := by decide +kernel
theorem dX2_placeFor_20 : decode cX2_placeFor 20 = .ok (.aload_n 0, 1) := by decide +kernel
theorem dX2_placeFor_21 : decode cX2_placeFor 21 = .ok (.iconst 1, 1) := by decide +kernel
theorem dX2_placeFor_22 : decode cX2_placeFor 22 = .ok (.invokevirtual 67, 3) := by decide +kernel
theorem dX2_placeFor_25 : decode cX2_placeFor 25 = .ok (.ireturn, 1) := by decide +kernel
set_option maxRecDepth 20000 in
theorem ggX2_lookedAt_X2_isNumber : GoodIn wsX2_lookedAt wsX2_isNumber := goodIn_r _ [7, 8, 9, 6, 10] (by decide +kernel) (by decide +kernel)
set_option maxRecDepth 20000 in
theorem gX2_lookedAt_X2_isNumber : GoodIn wsX2_lookedAt (va_wsS RX2 64 yX2_isNumber wsX2_isNumber) := goodIn_app (goodIn_of _ (by decide +kernel)) ggX2_lookedAt_X2_isNumber
set_option maxRecDepth 20000 in
theorem ggX2_lookedAt_X2_isIn : GoodIn wsX2_lookedAt wsX2_isIn := goodIn_r _ [10] (by decide +kernel) (by decide +kernel)
set_option maxRecDepth 20000 in
theorem gX2_lookedAt_X2_isIn : GoodIn wsX2_lookedAt (va_wsS RX2 33 yX2_isIn wsX2_isIn) := goodIn_app (goodIn_of _ (by decide +kernel)) ggX2_lookedAt_X2_isIn
set_option maxRecDepth 20000 in
theorem ggX2_lookedAt_X2_no : GoodIn wsX2_lookedAt wsX2_no := goodIn_r _ [14, 1, 15, 16, 17, 18, 19, 20, 21, 22, 23, 24, 25] (by decide +kernel) (by decide +kernel)
set_option maxRecDepth 20000 in
theorem gX2_lookedAt_X2_no : GoodIn wsX2_lookedAt (wsV RX2 67 RX2 yX2_no wsX2_no) := goodIn_app (goodIn_of _ (by decide +kernel)) ggX2_lookedAt_X2_no
theorem dX2_lookedAt_0 : decode cX2_lookedAt 0 = .ok (.aload_n 0, 1) := by decide +kernel
theorem dX2_lookedAt_1 : decode cX2_lookedAt 1 = .ok (.iconst 0, 1) := by decide +kernel
theorem dX2_lookedAt_2 : decode cX2_lookedAt 2 = .ok (.putfield 30, 3) := by decide +kernel
theorem dX2_lookedAt_5 : decode cX2_lookedAt 5 = .ok (.iload_n 1, 1) := by decide +kernel
theorem dX2_lookedAt_6 : decode cX2_lookedAt 6 = .ok (.invokestatic 64, 3) := by decide +kernel
theorem dX2_lookedAt_9 : decode cX2_lookedAt 9 = .ok (.ifCond .eq 13, 3) := by decide +kernel
theorem dX2_lookedAt_12 : decode cX2_lookedAt 12 = .ok (.iload_n 2, 1) := by decide +kernel
theorem dX2_lookedAt_13 : decode cX2_lookedAt 13 = .ok (.iconst 0, 1) := by decide +kernel
theorem dX2_lookedAt_14 : decode cX2_lookedAt 14 = .ok (.bipush 39, 2) := by decide +kernel
theorem dX2_lookedAt_16 : decode cX2_lookedAt 16 = .ok (.invokestatic 33, 3) := by decide +kernel
theorem dX2_lookedAt_19 : decode cX2_lookedAt 19 = .ok (.ifCond .ne 9, 3) := by decide +kernel
theorem dX2_lookedAt_22 : decode cX2_lookedAt 22 = .ok (.aload_n 0, 1) := by decide +kernel
theorem dX2_lookedAt_23 : decode cX2_lookedAt 23 = .ok (.iconst 1, 1) := by decide +kernel
theorem dX2_lookedAt_24 : decode cX2_lookedAt 24 = .ok (.invokevirtual 67, 3) := by decide +kernel
theorem dX2_lookedAt_27 : decode cX2_lookedAt 27 = .ok (.ireturn, 1) := by decide +kernel
theorem dX2_lookedAt_28 : decode cX2_lookedAt 28 = .ok (.aload_n 0, 1) := by decide +kernel
theorem dX2_lookedAt_29 : decode cX2_lookedAt 29 = .ok (.getfield 49, 3) := by decide +kernel
theorem dX2_lookedAt_32 : decode cX2_lookedAt 32 = .ok (.ifCond .ne 7, 3) := by decide +kernel
theorem dX2_lookedAt_35 : decode cX2_lookedAt 35 = .ok (.iload_n 2, 1) := by decide +kernel
theorem dX2_lookedAt_36 : decode cX2_lookedAt 36 = .ok (.goto 38, 3) := by decide +kernel
theorem dX2_lookedAt_39 : decode cX2_lookedAt 39 = .ok (.aload_n 0, 1) := by decide +kernel
theorem dX2_lookedAt_40 : decode cX2_lookedAt 40 = .ok (.getfield 49, 3) := by decide +kernel
theorem dX2_lookedAt_43 : decode cX2_lookedAt 43 = .ok (.iconst 1, 1) := by decide +kernel
theorem dX2_lookedAt_44 : decode cX2_lookedAt 44 = .ok (.if_icmp .ne 13, 3) := by decide +kernel
theorem dX2_lookedAt_47 : decode cX2_lookedAt 47 = .ok (.iload_n 2, 1) := by decide +kernel
theorem dX2_lookedAt_48 : decode cX2_lookedAt 48 = .ok (.iload_n 2, 1) := by decide +kernel
theorem dX2_lookedAt_49 : decode cX2_lookedAt 49 = .ok (.iconst 1, 1) := by decide +kernel
theorem dX2_lookedAt_50 : decode cX2_lookedAt 50 = .ok (.iadd, 1) := by decide +kernel
theorem dX2_lookedAt_51 : decode cX2_lookedAt 51 = .ok (.imul, 1) := by decide +kernel
theorem dX2_lookedAt_52 : decode cX2_lookedAt 52 = .ok (.iconst 2, 1) := by decide +kernel
theorem dX2_lookedAt_53 : decode cX2_lookedAt 53 = .ok (.idiv, 1) := by decide +kernel
theorem dX2_lookedAt_54 : decode cX2_lookedAt 54 = .ok (.goto 20, 3) := by decide +kernel
theorem dX2_lookedAt_57 : decode cX2_lookedAt 57 = .ok (.iload_n 2, 1) := by decide +kernel
theorem dX2_lookedAt_58 : decode cX2_lookedAt 58 = .ok (.iconst 1, 1) := by decide +kernel
theorem dX2_lookedAt_59 : decode cX2_lookedAt 59 = .ok (.iload_n 1, 1) := by decide +kernel
theorem dX2_lookedAt_60 : decode cX2_lookedAt 60 = .ok (.aload_n 0, 1) := by decide +kernel
theorem dX2_lookedAt_61 : decode cX2_lookedAt 61 = .ok (.getfield 7, 3) := by decide +kernel
theorem dX2_lookedAt_64 : decode cX2_lookedAt 64 = .ok (.idiv, 1) := by decide +kernel
theorem dX2_lookedAt_65 : decode cX2_lookedAt 65 = .ok (.aload_n 0, 1) := by decide +kernel
theorem dX2_lookedAt_66 : decode cX2_lookedAt 66 = .ok (.getfield 7, 3) := by decide +kernel
theorem dX2_lookedAt_69 : decode cX2_lookedAt 69 = .ok (.iconst 1, 1) := by decide +kernel
theorem dX2_lookedAt_70 : decode cX2_lookedAt 70 = .ok (.isub, 1) := by decide +kernel
theorem dX2_lookedAt_71 : decode cX2_lookedAt 71 = .ok (.irem, 1) := by decide +kernel
theorem dX2_lookedAt_72 : decode cX2_lookedAt 72 = .ok (.iadd, 1) := by decide +kernel
theorem dX2_lookedAt_73 : decode cX2_lookedAt 73 = .ok (.imul, 1) := by decide +kernel
theorem dX2_lookedAt_74 : decode cX2_lookedAt 74 = .ok (.istore_n 3, 1) := by decide +kernel
theorem dX2_lookedAt_75 : decode cX2_lookedAt 75 = .ok (.iload_n 1, 1) := by decide +kernel
theorem dX2_lookedAt_76 : decode cX2_lookedAt 76 = .ok (.iload_n 3, 1) := by decide +kernel
theorem dX2_lookedAt_77 : decode cX2_lookedAt 77 = .ok (.iadd, 1) := by decide +kernel
theorem dX2_lookedAt_78 : decode cX2_lookedAt 78 = .ok (.aload_n 0, 1) := by decide +kernel
theorem dX2_lookedAt_79 : decode cX2_lookedAt 79 = .ok (.getfield 7, 3) := by decide +kernel
theorem dX2_lookedAt_82 : decode cX2_lookedAt 82 = .ok (.irem, 1) := by decide +kernel
theorem dX2_lookedAt_83 : decode cX2_lookedAt 83 = .ok (.ireturn, 1) := by decide +kernel
set_option maxRecDepth 20000 in
theorem ggX2_looksForAll_X2_manyLooks : GoodIn wsX2_looksForAll wsX2_manyLooks := goodIn_r _ [7, 8, 9, 10, 11, 6, 12, 2, 1, 13, 14, 15, 16, 17, 18, 19, 20, 21, 22, 23, 24, 25, 26, 27, 28, 29, 30, 31] (by decide +kernel) (by decide +kernel)
set_option maxRecDepth 20000 in
theorem gX2_looksForAll_X2_manyLooks : GoodIn wsX2_looksForAll (wsV RX2 118 RX2 yX2_manyLooks wsX2_manyLooks) := goodIn_app (goodIn_of _ (by decide +kernel)) ggX2_looksForAll_X2_manyLooks
theorem dX2_looksForAll_0 : decode cX2_looksForAll 0 = .ok (.iconst 0, 1) := by decide +kernel
theorem dX2_looksForAll_1 : decode cX2_looksForAll 1 = .ok (.istore_n 1, 1) := by decide +kernel
theorem dX2_looksForAll_2 : decode cX2_looksForAll 2 = .ok (.iconst 0, 1) := by decide +kernel
theorem dX2_looksForAll_3 : decode cX2_looksForAll 3 = .ok (.istore_n 2, 1) := by decide +kernel
theorem dX2_looksForAll_4 : decode cX2_looksForAll 4 = .ok (.iload_n 2, 1) := by decide +kernel
theorem dX2_looksForAll_5 : decode cX2_looksForAll 5 = .ok (.aload_n 0, 1) := by decide +kernel
theorem dX2_looksForAll_6 : decode cX2_looksForAll 6 = .ok (.getfield 7, 3) := by decide +kernel
theorem dX2_looksForAll_9 : decode cX2_looksForAll 9 = .ok (.if_icmp .ge 31, 3) := by decide +kernel
theorem dX2_looksForAll_12 : decode cX2_looksForAll 12 = .ok (.aload_n 0, 1) := by decide +kernel
theorem dX2_looksForAll_13 : decode cX2_looksForAll 13 = .ok (.getfield 13, 3) := by decide +kernel
theorem dX2_looksForAll_16 : decode cX2_looksForAll 16 = .ok (.iload_n 2, 1) := by decide +kernel
theorem dX2_looksForAll_17 : decode cX2_looksForAll 17 = .ok (.iaload, 1) := by decide +kernel
theorem dX2_looksForAll_18 : decode cX2_looksForAll 18 = .ok (.ifCond .lt 16, 3) := by decide +kernel
theorem dX2_looksForAll_21 : decode cX2_looksForAll 21 = .ok (.iload_n 1, 1) := by decide +kernel
theorem dX2_looksForAll_22 : decode cX2_looksForAll 22 = .ok (.aload_n 0, 1) := by decide +kernel
theorem dX2_looksForAll_23 : decode cX2_looksForAll 23 = .ok (.aload_n 0, 1) := by decide +kernel
theorem dX2_looksForAll_24 : decode cX2_looksForAll 24 = .ok (.getfield 13, 3) := by decide +kernel
theorem dX2_looksForAll_27 : decode cX2_looksForAll 27 = .ok (.iload_n 2, 1) := by decide +kernel
theorem dX2_looksForAll_28 : decode cX2_looksForAll 28 = .ok (.iaload, 1) := by decide +kernel
theorem dX2_looksForAll_29 : decode cX2_looksForAll 29 = .ok (.invokevirtual 118, 3) := by decide +kernel
theorem dX2_looksForAll_32 : decode cX2_looksForAll 32 = .ok (.iadd, 1) := by decide +kernel
theorem dX2_looksForAll_33 : decode cX2_looksForAll 33 = .ok (.istore_n 1, 1) := by decide +kernel
theorem dX2_looksForAll_34 : decode cX2_looksForAll 34 = .ok (.iinc 2 1, 3) := by decide +kernel
theorem dX2_looksForAll_37 : decode cX2_looksForAll 37 = .ok (.goto (-33), 3) := by decide +kernel
theorem dX2_looksForAll_40 : decode cX2_looksForAll 40 = .ok (.iload_n 1, 1) := by decide +kernel
theorem dX2_looksForAll_41 : decode cX2_looksForAll 41 = .ok (.ireturn, 1) := by decide +kernel
set_option maxRecDepth 20000 in
theorem ggX2_allLooks_X2_looksForAll : GoodIn wsX2_allLooks wsX2_looksForAll := goodIn_r _ [5, 6, 7, 8, 9, 10, 4, 11, 12, 13, 14, 15, 16, 17, 18, 19, 20, 21, 22, 23, 24, 30, 31, 32, 33, 34, 35, 36, 37, 38, 39, 40] (by decide +kernel) (by decide +kernel)
set_option maxRecDepth 20000 in
theorem gX2_allLooks_X2_looksForAll : GoodIn wsX2_allLooks (wsV RX2 121 RX2 yX2_looksForAll wsX2_looksForAll) := goodIn_app (goodIn_of _ (by decide +kernel)) ggX2_allLooks_X2_looksForAll
set_option maxRecDepth 20000 in
theorem ggX2_allLooks_X2_ok : GoodIn wsX2_allLooks wsX2_ok := goodIn_r _ [28, 29, 30, 31, 32, 33, 34, 35, 36, 37, 38, 39, 40] (by decide +kernel) (by decide +kernel)
set_option maxRecDepth 20000 in
theorem gX2_allLooks_X2_ok : GoodIn wsX2_allLooks (wsV RX2 89 RX2 yX2_ok wsX2_ok) := goodIn_app (goodIn_of _ (by decide +kernel)) ggX2_allLooks_X2_ok
theorem dX2_allLooks_0 : decode cX2_allLooks 0 = .ok (.aload_n 0, 1) := by decide +kernel
theorem dX2_allLooks_1 : decode cX2_allLooks 1 = .ok (.aload_n 0, 1) := by decide +kernel
theorem dX2_allLooks_2 : decode cX2_allLooks 2 = .ok (.invokevirtual 121, 3) := by decide +kernel
theorem dX2_allLooks_5 : decode cX2_allLooks 5 = .ok (.invokevirtual 89, 3) := by decide +kernel
theorem dX2_allLooks_8 : decode cX2_allLooks 8 = .ok (.ireturn, 1) := by decide +kernel
set_option maxRecDepth 20000 in
theorem ggX2_far_X2_manyLooks : GoodIn wsX2_far wsX2_manyLooks := goodIn_r _ [8, 3, 9, 10, 11, 7, 12, 2, 1, 13, 14, 15, 16, 17, 18, 19, 20, 21, 22, 23, 24, 25, 26, 27, 28, 29, 30, 31] (by decide +kernel) (by decide +kernel)
set_option maxRecDepth 20000 in
theorem gX2_far_X2_manyLooks : GoodIn wsX2_far (wsV RX2 118 RX2 yX2_manyLooks wsX2_manyLooks) := goodIn_app (goodIn_of _ (by decide +kernel)) ggX2_far_X2_manyLooks
theorem dX2_far_0 : decode cX2_far 0 = .ok (.iconst (-1), 1) := by decide +kernel
theorem dX2_far_1 : decode cX2_far 1 = .ok (.istore_n 1, 1) := by decide +kernel
theorem dX2_far_2 : decode cX2_far 2 = .ok (.iconst 0, 1) := by decide +kernel
theorem dX2_far_3 : decode cX2_far 3 = .ok (.istore_n 2, 1) := by decide +kernel
theorem dX2_far_4 : decode cX2_far 4 = .ok (.iconst 0, 1) := by decide +kernel
theorem dX2_far_5 : decode cX2_far 5 = .ok (.istore_n 3, 1) := by decide +kernel
theorem dX2_far_6 : decode cX2_far 6 = .ok (.iload_n 3, 1) := by decide +kernel
theorem dX2_far_7 : decode cX2_far 7 = .ok (.aload_n 0, 1) := by decide +kernel
theorem dX2_far_8 : decode cX2_far 8 = .ok (.getfield 7, 3) := by decide +kernel
theorem dX2_far_11 : decode cX2_far 11 = .ok (.if_icmp .ge 47, 3) := by decide +kernel
theorem dX2_far_14 : decode cX2_far 14 = .ok (.aload_n 0, 1) := by decide +kernel
theorem dX2_far_15 : decode cX2_far 15 = .ok (.getfield 13, 3) := by decide +kernel
theorem dX2_far_18 : decode cX2_far 18 = .ok (.iload_n 3, 1) := by decide +kernel
theorem dX2_far_19 : decode cX2_far 19 = .ok (.iaload, 1) := by decide +kernel
theorem dX2_far_20 : decode cX2_far 20 = .ok (.ifCond .lt 32, 3) := by decide +kernel
theorem dX2_far_23 : decode cX2_far 23 = .ok (.aload_n 0, 1) := by decide +kernel
theorem dX2_far_24 : decode cX2_far 24 = .ok (.aload_n 0, 1) := by decide +kernel
theorem dX2_far_25 : decode cX2_far 25 = .ok (.getfield 13, 3) := by decide +kernel
theorem dX2_far_28 : decode cX2_far 28 = .ok (.iload_n 3, 1) := by decide +kernel
theorem dX2_far_29 : decode cX2_far 29 = .ok (.iaload, 1) := by decide +kernel
theorem dX2_far_30 : decode cX2_far 30 = .ok (.invokevirtual 118, 3) := by decide +kernel
theorem dX2_far_33 : decode cX2_far 33 = .ok (.iload_n 2, 1) := by decide +kernel
theorem dX2_far_34 : decode cX2_far 34 = .ok (.if_icmp .gt 6, 3) := by decide +kernel
theorem dX2_far_37 : decode cX2_far 37 = .ok (.goto 15, 3) := by decide +kernel
theorem dX2_far_40 : decode cX2_far 40 = .ok (.aload_n 0, 1) := by decide +kernel
theorem dX2_far_41 : decode cX2_far 41 = .ok (.getfield 13, 3) := by decide +kernel
theorem dX2_far_44 : decode cX2_far 44 = .ok (.iload_n 3, 1) := by decide +kernel
theorem dX2_far_45 : decode cX2_far 45 = .ok (.iaload, 1) := by decide +kernel
theorem dX2_far_46 : decode cX2_far 46 = .ok (.istore_n 1, 1) := by decide +kernel
theorem dX2_far_47 : decode cX2_far 47 = .ok (.aload_n 0, 1) := by decide +kernel
theorem dX2_far_48 : decode cX2_far 48 = .ok (.getfield 37, 3) := by decide +kernel
theorem dX2_far_51 : decode cX2_far 51 = .ok (.istore_n 2, 1) := by decide +kernel
theorem dX2_far_52 : decode cX2_far 52 = .ok (.iinc 3 1, 3) := by decide +kernel
theorem dX2_far_55 : decode cX2_far 55 = .ok (.goto (-49), 3) := by decide +kernel
theorem dX2_far_58 : decode cX2_far 58 = .ok (.iload_n 1, 1) := by decide +kernel
theorem dX2_far_59 : decode cX2_far 59 = .ok (.ireturn, 1) := by decide +kernel
set_option maxRecDepth 20000 in
theorem ggX2_farthest_X2_far : GoodIn wsX2_farthest wsX2_far := goodIn_r _ [5, 6, 7, 8, 9, 10, 11, 4, 12, 13, 14, 15, 16, 17, 18, 19, 20, 21, 22, 23, 24, 30, 31, 32, 33, 34, 35, 36, 37, 38, 39, 40] (by decide +kernel) (by decide +kernel)
set_option maxRecDepth 20000 in
theorem gX2_farthest_X2_far : GoodIn wsX2_farthest (wsV RX2 124 RX2 yX2_far wsX2_far) := goodIn_app (goodIn_of _ (by decide +kernel)) ggX2_farthest_X2_far
set_option maxRecDepth 20000 in
theorem ggX2_farthest_X2_ok : GoodIn wsX2_farthest wsX2_ok := goodIn_r _ [28, 29, 30, 31, 32, 33, 34, 35, 36, 37, 38, 39, 40] (by decide +kernel) (by decide +kernel)
set_option maxRecDepth 20000 in
theorem gX2_farthest_X2_ok : GoodIn wsX2_farthest (wsV RX2 89 RX2 yX2_ok wsX2_ok) := goodIn_app (goodIn_of _ (by decide +kernel)) ggX2_farthest_X2_ok
theorem dX2_farthest_0 : decode cX2_farthest 0 = .ok (.aload_n 0, 1) := by decide +kernel
theorem dX2_farthest_1 : decode cX2_farthest 1 = .ok (.aload_n 0, 1) := by decide +kernel
theorem dX2_farthest_2 : decode cX2_farthest 2 = .ok (.invokevirtual 124, 3) := by decide +kernel
theorem dX2_farthest_5 : decode cX2_farthest 5 = .ok (.invokevirtual 89, 3) := by decide +kernel
theorem dX2_farthest_8 : decode cX2_farthest 8 = .ok (.ireturn, 1) := by decide +kernel
set_option maxRecDepth 20000 in
theorem ggX2_rowsNow_X2_count : GoodIn wsX2_rowsNow wsX2_count := goodIn_r _ [7, 1, 2, 8, 9, 10, 11, 12, 13, 14, 15, 16, 17, 18] (by decide +kernel) (by decide +kernel)
set_option maxRecDepth 20000 in
theorem gX2_rowsNow_X2_count : GoodIn wsX2_rowsNow (wsV RX2 86 RX2 yX2_count wsX2_count) := goodIn_app (goodIn_of _ (by decide +kernel)) ggX2_rowsNow_X2_count
theorem dX2_rowsNow_0 : decode cX2_rowsNow 0 = .ok (.iconst 0, 1) := by decide +kernel
theorem dX2_rowsNow_1 : decode cX2_rowsNow 1 = .ok (.istore_n 1, 1) := by decide +kernel
theorem dX2_rowsNow_2 : decode cX2_rowsNow 2 = .ok (.iconst 0, 1) := by decide +kernel
theorem dX2_rowsNow_3 : decode cX2_rowsNow 3 = .ok (.istore_n 2, 1) := by decide +kernel
theorem dX2_rowsNow_4 : decode cX2_rowsNow 4 = .ok (.iload_n 2, 1) := by decide +kernel
theorem dX2_rowsNow_5 : decode cX2_rowsNow 5 = .ok (.aload_n 0, 1) := by decide +kernel
theorem dX2_rowsNow_6 : decode cX2_rowsNow 6 = .ok (.getfield 7, 3) := by decide +kernel
theorem dX2_rowsNow_9 : decode cX2_rowsNow 9 = .ok (.if_icmp .ge 44, 3) := by decide +kernel
theorem dX2_rowsNow_12 : decode cX2_rowsNow 12 = .ok (.iload_n 1, 1) := by decide +kernel
theorem dX2_rowsNow_13 : decode cX2_rowsNow 13 = .ok (.aload_n 0, 1) := by decide +kernel
theorem dX2_rowsNow_14 : decode cX2_rowsNow 14 = .ok (.getfield 13, 3) := by decide +kernel
theorem dX2_rowsNow_17 : decode cX2_rowsNow 17 = .ok (.iload_n 2, 1) := by decide +kernel
theorem dX2_rowsNow_18 : decode cX2_rowsNow 18 = .ok (.iaload, 1) := by decide +kernel
theorem dX2_rowsNow_19 : decode cX2_rowsNow 19 = .ok (.iconst (-1), 1) := by decide +kernel
theorem dX2_rowsNow_20 : decode cX2_rowsNow 20 = .ok (.if_icmp .ne 24, 3) := by decide +kernel
theorem dX2_rowsNow_23 : decode cX2_rowsNow 23 = .ok (.aload_n 0, 1) := by decide +kernel
theorem dX2_rowsNow_24 : decode cX2_rowsNow 24 = .ok (.getfield 13, 3) := by decide +kernel
theorem dX2_rowsNow_27 : decode cX2_rowsNow 27 = .ok (.iload_n 2, 1) := by decide +kernel
theorem dX2_rowsNow_28 : decode cX2_rowsNow 28 = .ok (.iconst 1, 1) := by decide +kernel
theorem dX2_rowsNow_29 : decode cX2_rowsNow 29 = .ok (.iadd, 1) := by decide +kernel
theorem dX2_rowsNow_30 : decode cX2_rowsNow 30 = .ok (.aload_n 0, 1) := by decide +kernel
theorem dX2_rowsNow_31 : decode cX2_rowsNow 31 = .ok (.getfield 7, 3) := by decide +kernel
theorem dX2_rowsNow_34 : decode cX2_rowsNow 34 = .ok (.irem, 1) := by decide +kernel
theorem dX2_rowsNow_35 : decode cX2_rowsNow 35 = .ok (.iaload, 1) := by decide +kernel
theorem dX2_rowsNow_36 : decode cX2_rowsNow 36 = .ok (.iconst (-1), 1) := by decide +kernel
theorem dX2_rowsNow_37 : decode cX2_rowsNow 37 = .ok (.if_icmp .eq 7, 3) := by decide +kernel
theorem dX2_rowsNow_40 : decode cX2_rowsNow 40 = .ok (.iconst 1, 1) := by decide +kernel
theorem dX2_rowsNow_41 : decode cX2_rowsNow 41 = .ok (.goto 4, 3) := by decide +kernel
theorem dX2_rowsNow_44 : decode cX2_rowsNow 44 = .ok (.iconst 0, 1) := by decide +kernel
theorem dX2_rowsNow_45 : decode cX2_rowsNow 45 = .ok (.iadd, 1) := by decide +kernel
theorem dX2_rowsNow_46 : decode cX2_rowsNow 46 = .ok (.istore_n 1, 1) := by decide +kernel
theorem dX2_rowsNow_47 : decode cX2_rowsNow 47 = .ok (.iinc 2 1, 3) := by decide +kernel
theorem dX2_rowsNow_50 : decode cX2_rowsNow 50 = .ok (.goto (-46), 3) := by decide +kernel
theorem dX2_rowsNow_53 : decode cX2_rowsNow 53 = .ok (.aload_n 0, 1) := by decide +kernel
theorem dX2_rowsNow_54 : decode cX2_rowsNow 54 = .ok (.iconst (-1), 1) := by decide +kernel
theorem dX2_rowsNow_55 : decode cX2_rowsNow 55 = .ok (.invokevirtual 86, 3) := by decide +kernel
theorem dX2_rowsNow_58 : decode cX2_rowsNow 58 = .ok (.ifCond .ne 7, 3) := by decide +kernel
theorem dX2_rowsNow_61 : decode cX2_rowsNow 61 = .ok (.iconst 1, 1) := by decide +kernel
theorem dX2_rowsNow_62 : decode cX2_rowsNow 62 = .ok (.goto 4, 3) := by decide +kernel
theorem dX2_rowsNow_65 : decode cX2_rowsNow 65 = .ok (.iload_n 1, 1) := by decide +kernel
theorem dX2_rowsNow_66 : decode cX2_rowsNow 66 = .ok (.ireturn, 1) := by decide +kernel
set_option maxRecDepth 20000 in
theorem ggX2_rows_X2_rowsNow : GoodIn wsX2_rows wsX2_rowsNow := goodIn_r _ [5, 6, 7, 8, 9, 10, 4, 11, 17, 18, 19, 20, 21, 22, 23, 24, 25, 26, 27] (by decide +kernel) (by decide +kernel)
set_option maxRecDepth 20000 in
theorem gX2_rows_X2_rowsNow : GoodIn wsX2_rows (wsV RX2 127 RX2 yX2_rowsNow wsX2_rowsNow) := goodIn_app (goodIn_of _ (by decide +kernel)) ggX2_rows_X2_rowsNow
set_option maxRecDepth 20000 in
theorem ggX2_rows_X2_ok : GoodIn wsX2_rows wsX2_ok := goodIn_r _ [15, 16, 17, 18, 19, 20, 21, 22, 23, 24, 25, 26, 27] (by decide +kernel) (by decide +kernel)
set_option maxRecDepth 20000 in
theorem gX2_rows_X2_ok : GoodIn wsX2_rows (wsV RX2 89 RX2 yX2_ok wsX2_ok) := goodIn_app (goodIn_of _ (by decide +kernel)) ggX2_rows_X2_ok
theorem dX2_rows_0 : decode cX2_rows 0 = .ok (.aload_n 0, 1) := by decide +kernel
theorem dX2_rows_1 : decode cX2_rows 1 = .ok (.aload_n 0, 1) := by decide +kernel
theorem dX2_rows_2 : decode cX2_rows 2 = .ok (.invokevirtual 127, 3) := by decide +kernel
theorem dX2_rows_5 : decode cX2_rows 5 = .ok (.invokevirtual 89, 3) := by decide +kernel
theorem dX2_rows_8 : decode cX2_rows 8 = .ok (.ireturn, 1) := by decide +kernel
theorem dX2_rowOf_0 : decode cX2_rowOf 0 = .ok (.aload_n 0, 1) := by decide +kernel
theorem dX2_rowOf_1 : decode cX2_rowOf 1 = .ok (.getfield 13, 3) := by decide +kernel
theorem dX2_rowOf_4 : decode cX2_rowOf 4 = .ok (.iload_n 1, 1) := by decide +kernel
theorem dX2_rowOf_5 : decode cX2_rowOf 5 = .ok (.iaload, 1) := by decide +kernel
theorem dX2_rowOf_6 : decode cX2_rowOf 6 = .ok (.iconst (-1), 1) := by decide +kernel
theorem dX2_rowOf_7 : decode cX2_rowOf 7 = .ok (.if_icmp .ne 5, 3) := by decide +kernel
theorem dX2_rowOf_10 : decode cX2_rowOf 10 = .ok (.iconst 0, 1) := by decide +kernel
theorem dX2_rowOf_11 : decode cX2_rowOf 11 = .ok (.ireturn, 1) := by decide +kernel
theorem dX2_rowOf_12 : decode cX2_rowOf 12 = .ok (.iconst 0, 1) := by decide +kernel
theorem dX2_rowOf_13 : decode cX2_rowOf 13 = .ok (.istore_n 2, 1) := by decide +kernel
theorem dX2_rowOf_14 : decode cX2_rowOf 14 = .ok (.iload_n 2, 1) := by decide +kernel
theorem dX2_rowOf_15 : decode cX2_rowOf 15 = .ok (.aload_n 0, 1) := by decide +kernel
theorem dX2_rowOf_16 : decode cX2_rowOf 16 = .ok (.getfield 7, 3) := by decide +kernel
theorem dX2_rowOf_19 : decode cX2_rowOf 19 = .ok (.if_icmp .ge 26, 3) := by decide +kernel
theorem dX2_rowOf_22 : decode cX2_rowOf 22 = .ok (.aload_n 0, 1) := by decide +kernel
theorem dX2_rowOf_23 : decode cX2_rowOf 23 = .ok (.getfield 13, 3) := by decide +kernel
theorem dX2_rowOf_26 : decode cX2_rowOf 26 = .ok (.iload_n 1, 1) := by decide +kernel
theorem dX2_rowOf_27 : decode cX2_rowOf 27 = .ok (.iload_n 2, 1) := by decide +kernel
theorem dX2_rowOf_28 : decode cX2_rowOf 28 = .ok (.iadd, 1) := by decide +kernel
theorem dX2_rowOf_29 : decode cX2_rowOf 29 = .ok (.aload_n 0, 1) := by decide +kernel
theorem dX2_rowOf_30 : decode cX2_rowOf 30 = .ok (.getfield 7, 3) := by decide +kernel
theorem dX2_rowOf_33 : decode cX2_rowOf 33 = .ok (.irem, 1) := by decide +kernel
theorem dX2_rowOf_34 : decode cX2_rowOf 34 = .ok (.iaload, 1) := by decide +kernel
theorem dX2_rowOf_35 : decode cX2_rowOf 35 = .ok (.iconst (-1), 1) := by decide +kernel
theorem dX2_rowOf_36 : decode cX2_rowOf 36 = .ok (.if_icmp .eq 9, 3) := by decide +kernel
theorem dX2_rowOf_39 : decode cX2_rowOf 39 = .ok (.iinc 2 1, 3) := by decide +kernel
theorem dX2_rowOf_42 : decode cX2_rowOf 42 = .ok (.goto (-28), 3) := by decide +kernel
theorem dX2_rowOf_45 : decode cX2_rowOf 45 = .ok (.iconst 0, 1) := by decide +kernel
theorem dX2_rowOf_46 : decode cX2_rowOf 46 = .ok (.istore_n 3, 1) := by decide +kernel
theorem dX2_rowOf_47 : decode cX2_rowOf 47 = .ok (.iload_n 3, 1) := by decide +kernel
theorem dX2_rowOf_48 : decode cX2_rowOf 48 = .ok (.aload_n 0, 1) := by decide +kernel
theorem dX2_rowOf_49 : decode cX2_rowOf 49 = .ok (.getfield 7, 3) := by decide +kernel
theorem dX2_rowOf_52 : decode cX2_rowOf 52 = .ok (.if_icmp .ge 31, 3) := by decide +kernel
theorem dX2_rowOf_55 : decode cX2_rowOf 55 = .ok (.aload_n 0, 1) := by decide +kernel
theorem dX2_rowOf_56 : decode cX2_rowOf 56 = .ok (.getfield 13, 3) := by decide +kernel
theorem dX2_rowOf_59 : decode cX2_rowOf 59 = .ok (.iload_n 1, 1) := by decide +kernel
theorem dX2_rowOf_60 : decode cX2_rowOf 60 = .ok (.iload_n 3, 1) := by decide +kernel
theorem dX2_rowOf_61 : decode cX2_rowOf 61 = .ok (.isub, 1) := by decide +kernel
theorem dX2_rowOf_62 : decode cX2_rowOf 62 = .ok (.aload_n 0, 1) := by decide +kernel
theorem dX2_rowOf_63 : decode cX2_rowOf 63 = .ok (.getfield 7, 3) := by decide +kernel
theorem dX2_rowOf_66 : decode cX2_rowOf 66 = .ok (.iadd, 1) := by decide +kernel
theorem dX2_rowOf_67 : decode cX2_rowOf 67 = .ok (.aload_n 0, 1) := by decide +kernel
theorem dX2_rowOf_68 : decode cX2_rowOf 68 = .ok (.getfield 7, 3) := by decide +kernel
theorem dX2_rowOf_71 : decode cX2_rowOf 71 = .ok (.irem, 1) := by decide +kernel
theorem dX2_rowOf_72 : decode cX2_rowOf 72 = .ok (.iaload, 1) := by decide +kernel
theorem dX2_rowOf_73 : decode cX2_rowOf 73 = .ok (.iconst (-1), 1) := by decide +kernel
theorem dX2_rowOf_74 : decode cX2_rowOf 74 = .ok (.if_icmp .eq 9, 3) := by decide +kernel
theorem dX2_rowOf_77 : decode cX2_rowOf 77 = .ok (.iinc 3 1, 3) := by decide +kernel
theorem dX2_rowOf_80 : decode cX2_rowOf 80 = .ok (.goto (-33), 3) := by decide +kernel
theorem dX2_rowOf_83 : decode cX2_rowOf 83 = .ok (.aload_n 0, 1) := by decide +kernel
theorem dX2_rowOf_84 : decode cX2_rowOf 84 = .ok (.getfield 7, 3) := by decide +kernel
theorem dX2_rowOf_87 : decode cX2_rowOf 87 = .ok (.iload_n 3, 1) := by decide +kernel
theorem dX2_rowOf_88 : decode cX2_rowOf 88 = .ok (.iload_n 2, 1) := by decide +kernel
theorem dX2_rowOf_89 : decode cX2_rowOf 89 = .ok (.iadd, 1) := by decide +kernel
theorem dX2_rowOf_90 : decode cX2_rowOf 90 = .ok (.iconst 1, 1) := by decide +kernel
theorem dX2_rowOf_91 : decode cX2_rowOf 91 = .ok (.isub, 1) := by decide +kernel
theorem dX2_rowOf_92 : decode cX2_rowOf 92 = .ok (.invokestatic 130, 3) := by decide +kernel
theorem dX2_rowOf_95 : decode cX2_rowOf 95 = .ok (.ireturn, 1) := by decide +kernel
set_option maxRecDepth 20000 in
theorem ggX2_longest_X2_rowOf : GoodIn wsX2_longest wsX2_rowOf := goodIn_r _ [10, 11, 1, 12, 13, 4, 14, 15, 16, 17, 18, 19, 20, 21, 22, 23, 24, 25] (by decide +kernel) (by decide +kernel)
set_option maxRecDepth 20000 in
theorem gX2_longest_X2_rowOf : GoodIn wsX2_longest (wsV RX2 133 RX2 yX2_rowOf wsX2_rowOf) := goodIn_app (goodIn_of _ (by decide +kernel)) ggX2_longest_X2_rowOf
theorem dX2_longest_0 : decode cX2_longest 0 = .ok (.iconst 0, 1) := by decide +kernel
theorem dX2_longest_1 : decode cX2_longest 1 = .ok (.istore_n 1, 1) := by decide +kernel
theorem dX2_longest_2 : decode cX2_longest 2 = .ok (.iconst 0, 1) := by decide +kernel
theorem dX2_longest_3 : decode cX2_longest 3 = .ok (.istore_n 2, 1) := by decide +kernel
theorem dX2_longest_4 : decode cX2_longest 4 = .ok (.iload_n 2, 1) := by decide +kernel
theorem dX2_longest_5 : decode cX2_longest 5 = .ok (.aload_n 0, 1) := by decide +kernel
theorem dX2_longest_6 : decode cX2_longest 6 = .ok (.getfield 7, 3) := by decide +kernel
theorem dX2_longest_9 : decode cX2_longest 9 = .ok (.if_icmp .ge 19, 3) := by decide +kernel
theorem dX2_longest_12 : decode cX2_longest 12 = .ok (.iload_n 1, 1) := by decide +kernel
theorem dX2_longest_13 : decode cX2_longest 13 = .ok (.aload_n 0, 1) := by decide +kernel
theorem dX2_longest_14 : decode cX2_longest 14 = .ok (.iload_n 2, 1) := by decide +kernel
theorem dX2_longest_15 : decode cX2_longest 15 = .ok (.invokevirtual 133, 3) := by decide +kernel
theorem dX2_longest_18 : decode cX2_longest 18 = .ok (.invokestatic 101, 3) := by decide +kernel
theorem dX2_longest_21 : decode cX2_longest 21 = .ok (.istore_n 1, 1) := by decide +kernel
theorem dX2_longest_22 : decode cX2_longest 22 = .ok (.iinc 2 1, 3) := by decide +kernel
theorem dX2_longest_25 : decode cX2_longest 25 = .ok (.goto (-21), 3) := by decide +kernel
theorem dX2_longest_28 : decode cX2_longest 28 = .ok (.iload_n 1, 1) := by decide +kernel
theorem dX2_longest_29 : decode cX2_longest 29 = .ok (.ireturn, 1) := by decide +kernel
set_option maxRecDepth 20000 in
theorem ggX2_longestRow_X2_longest : GoodIn wsX2_longestRow wsX2_longest := goodIn_r _ [5, 6, 7, 8, 9, 10, 11, 12, 13, 4, 14, 15, 16, 17, 18, 24, 25, 26, 27, 28, 29, 30, 31, 32, 33, 34] (by decide +kernel) (by decide +kernel)
set_option maxRecDepth 20000 in
theorem gX2_longestRow_X2_longest : GoodIn wsX2_longestRow (wsV RX2 136 RX2 yX2_longest wsX2_longest) := goodIn_app (goodIn_of _ (by decide +kernel)) ggX2_longestRow_X2_longest
set_option maxRecDepth 20000 in
theorem ggX2_longestRow_X2_ok : GoodIn wsX2_longestRow wsX2_ok := goodIn_r _ [22, 23, 24, 25, 26, 27, 28, 29, 30, 31, 32, 33, 34] (by decide +kernel) (by decide +kernel)
set_option maxRecDepth 20000 in
theorem gX2_longestRow_X2_ok : GoodIn wsX2_longestRow (wsV RX2 89 RX2 yX2_ok wsX2_ok) := goodIn_app (goodIn_of _ (by decide +kernel)) ggX2_longestRow_X2_ok
theorem dX2_longestRow_0 : decode cX2_longestRow 0 = .ok (.aload_n 0, 1) := by decide +kernel
theorem dX2_longestRow_1 : decode cX2_longestRow 1 = .ok (.aload_n 0, 1) := by decide +kernel
theorem dX2_longestRow_2 : decode cX2_longestRow 2 = .ok (.invokevirtual 136, 3) := by decide +kernel
theorem dX2_longestRow_5 : decode cX2_longestRow 5 = .ok (.invokevirtual 89, 3) := by decide +kernel
theorem dX2_longestRow_8 : decode cX2_longestRow 8 = .ok (.ireturn, 1) := by decide +kernel
set_option maxRecDepth 20000 in
theorem ggX2_rowAt_X2_isHook : GoodIn wsX2_rowAt wsX2_isHook := goodIn_r _ [6, 7, 8, 9, 5, 10, 24, 25, 26, 27, 28, 29, 30, 31, 32, 33, 34] (by decide +kernel) (by decide +kernel)
set_option maxRecDepth 20000 in
theorem gX2_rowAt_X2_isHook : GoodIn wsX2_rowAt (wsV RX2 95 RX2 yX2_isHook wsX2_isHook) := goodIn_app (goodIn_of _ (by decide +kernel)) ggX2_rowAt_X2_isHook
set_option maxRecDepth 20000 in
theorem ggX2_rowAt_X2_rowOf : GoodIn wsX2_rowAt wsX2_rowOf := goodIn_r _ [14, 15, 7, 16, 17, 18, 19, 24, 25, 26, 27, 28, 29, 30, 31, 32, 33, 34] (by decide +kernel) (by decide +kernel)
set_option maxRecDepth 20000 in
theorem gX2_rowAt_X2_rowOf : GoodIn wsX2_rowAt (wsV RX2 133 RX2 yX2_rowOf wsX2_rowOf) := goodIn_app (goodIn_of _ (by decide +kernel)) ggX2_rowAt_X2_rowOf
set_option maxRecDepth 20000 in
theorem ggX2_rowAt_X2_no : GoodIn wsX2_rowAt wsX2_no := goodIn_r _ [23, 1, 24, 25, 26, 27, 28, 29, 30, 31, 32, 33, 34] (by decide +kernel) (by decide +kernel)
set_option maxRecDepth 20000 in
theorem gX2_rowAt_X2_no : GoodIn wsX2_rowAt (wsV RX2 67 RX2 yX2_no wsX2_no) := goodIn_app (goodIn_of _ (by decide +kernel)) ggX2_rowAt_X2_no
theorem dX2_rowAt_0 : decode cX2_rowAt 0 = .ok (.aload_n 0, 1) := by decide +kernel
theorem dX2_rowAt_1 : decode cX2_rowAt 1 = .ok (.iconst 0, 1) := by decide +kernel
theorem dX2_rowAt_2 : decode cX2_rowAt 2 = .ok (.putfield 30, 3) := by decide +kernel
theorem dX2_rowAt_5 : decode cX2_rowAt 5 = .ok (.aload_n 0, 1) := by decide +kernel
theorem dX2_rowAt_6 : decode cX2_rowAt 6 = .ok (.iload_n 1, 1) := by decide +kernel
theorem dX2_rowAt_7 : decode cX2_rowAt 7 = .ok (.invokevirtual 95, 3) := by decide +kernel
theorem dX2_rowAt_10 : decode cX2_rowAt 10 = .ok (.ifCond .eq 11, 3) := by decide +kernel
theorem dX2_rowAt_13 : decode cX2_rowAt 13 = .ok (.aload_n 0, 1) := by decide +kernel
theorem dX2_rowAt_14 : decode cX2_rowAt 14 = .ok (.iload_n 1, 1) := by decide +kernel
theorem dX2_rowAt_15 : decode cX2_rowAt 15 = .ok (.invokevirtual 133, 3) := by decide +kernel
theorem dX2_rowAt_18 : decode cX2_rowAt 18 = .ok (.goto 8, 3) := by decide +kernel
theorem dX2_rowAt_21 : decode cX2_rowAt 21 = .ok (.aload_n 0, 1) := by decide +kernel
theorem dX2_rowAt_22 : decode cX2_rowAt 22 = .ok (.iconst 1, 1) := by decide +kernel
theorem dX2_rowAt_23 : decode cX2_rowAt 23 = .ok (.invokevirtual 67, 3) := by decide +kernel
theorem dX2_rowAt_26 : decode cX2_rowAt 26 = .ok (.ireturn, 1) := by decide +kernel
set_option maxRecDepth 20000 in
theorem ggX2_looksWith_X2_isIn : GoodIn wsX2_looksWith wsX2_isIn := goodIn_r _ [5] (by decide +kernel) (by decide +kernel)
set_option maxRecDepth 20000 in
theorem gX2_looksWith_X2_isIn : GoodIn wsX2_looksWith (va_wsS RX2 33 yX2_isIn wsX2_isIn) := goodIn_app (goodIn_of _ (by decide +kernel)) ggX2_looksWith_X2_isIn
set_option maxRecDepth 20000 in
theorem ggX2_looksWith_X2_anew : GoodIn wsX2_looksWith wsX2_anew := goodIn_r _ [9, 10, 11, 12, 13, 14, 15, 16, 17, 18, 4, 19, 20, 21, 22, 23, 24, 25, 30, 31, 32, 33, 34, 35, 36, 37, 38, 39, 40] (by decide +kernel) (by decide +kernel)
set_option maxRecDepth 20000 in
theorem gX2_looksWith_X2_anew : GoodIn wsX2_looksWith (wsV RX2 78 RX2 yX2_anew wsX2_anew) := goodIn_app (goodIn_of _ (by decide +kernel)) ggX2_looksWith_X2_anew
set_option maxRecDepth 20000 in
theorem ggX2_looksWith_X2_no : GoodIn wsX2_looksWith wsX2_no := goodIn_r _ [29, 1, 30, 31, 32, 33, 34, 35, 36, 37, 38, 39, 40] (by decide +kernel) (by decide +kernel)
set_option maxRecDepth 20000 in
theorem gX2_looksWith_X2_no : GoodIn wsX2_looksWith (wsV RX2 67 RX2 yX2_no wsX2_no) := goodIn_app (goodIn_of _ (by decide +kernel)) ggX2_looksWith_X2_no
theorem dX2_looksWith_0 : decode cX2_looksWith 0 = .ok (.aload_n 0, 1) := by decide +kernel
theorem dX2_looksWith_1 : decode cX2_looksWith 1 = .ok (.iconst 0, 1) := by decide +kernel
theorem dX2_looksWith_2 : decode cX2_looksWith 2 = .ok (.putfield 30, 3) := by decide +kernel
theorem dX2_looksWith_5 : decode cX2_looksWith 5 = .ok (.iload_n 1, 1) := by decide +kernel
theorem dX2_looksWith_6 : decode cX2_looksWith 6 = .ok (.iconst 3, 1) := by decide +kernel
theorem dX2_looksWith_7 : decode cX2_looksWith 7 = .ok (.bipush 40, 2) := by decide +kernel
theorem dX2_looksWith_9 : decode cX2_looksWith 9 = .ok (.invokestatic 33, 3) := by decide +kernel
theorem dX2_looksWith_12 : decode cX2_looksWith 12 = .ok (.ifCond .eq 21, 3) := by decide +kernel
theorem dX2_looksWith_15 : decode cX2_looksWith 15 = .ok (.iload_n 2, 1) := by decide +kernel
theorem dX2_looksWith_16 : decode cX2_looksWith 16 = .ok (.iconst 0, 1) := by decide +kernel
theorem dX2_looksWith_17 : decode cX2_looksWith 17 = .ok (.iconst 2, 1) := by decide +kernel
theorem dX2_looksWith_18 : decode cX2_looksWith 18 = .ok (.invokestatic 33, 3) := by decide +kernel
theorem dX2_looksWith_21 : decode cX2_looksWith 21 = .ok (.ifCond .eq 12, 3) := by decide +kernel
theorem dX2_looksWith_24 : decode cX2_looksWith 24 = .ok (.aload_n 0, 1) := by decide +kernel
theorem dX2_looksWith_25 : decode cX2_looksWith 25 = .ok (.iload_n 1, 1) := by decide +kernel
theorem dX2_looksWith_26 : decode cX2_looksWith 26 = .ok (.iload_n 2, 1) := by decide +kernel
theorem dX2_looksWith_27 : decode cX2_looksWith 27 = .ok (.invokevirtual 78, 3) := by decide +kernel
theorem dX2_looksWith_30 : decode cX2_looksWith 30 = .ok (.goto 8, 3) := by decide +kernel
theorem dX2_looksWith_33 : decode cX2_looksWith 33 = .ok (.aload_n 0, 1) := by decide +kernel
theorem dX2_looksWith_34 : decode cX2_looksWith 34 = .ok (.iconst 1, 1) := by decide +kernel
theorem dX2_looksWith_35 : decode cX2_looksWith 35 = .ok (.invokevirtual 67, 3) := by decide +kernel
theorem dX2_looksWith_38 : decode cX2_looksWith 38 = .ok (.ireturn, 1) := by decide +kernel
set_option maxRecDepth 20000 in
theorem ggX2_best_X2_anew : GoodIn wsX2_best wsX2_anew := goodIn_r _ [6, 7, 1, 8, 9, 10, 11, 12, 13, 14, 5, 15, 16, 17, 18, 19, 20, 21, 22, 23, 24, 25, 26, 27, 28, 29, 30, 31, 32] (by decide +kernel) (by decide +kernel)
set_option maxRecDepth 20000 in
theorem gX2_best_X2_anew : GoodIn wsX2_best (wsV RX2 78 RX2 yX2_anew wsX2_anew) := goodIn_app (goodIn_of _ (by decide +kernel)) ggX2_best_X2_anew
theorem dX2_best_0 : decode cX2_best 0 = .ok (.iconst (-1), 1) := by decide +kernel
theorem dX2_best_1 : decode cX2_best 1 = .ok (.istore_n 1, 1) := by decide +kernel
theorem dX2_best_2 : decode cX2_best 2 = .ok (.iconst 0, 1) := by decide +kernel
theorem dX2_best_3 : decode cX2_best 3 = .ok (.istore_n 2, 1) := by decide +kernel
theorem dX2_best_4 : decode cX2_best 4 = .ok (.iconst 0, 1) := by decide +kernel
theorem dX2_best_5 : decode cX2_best 5 = .ok (.istore_n 3, 1) := by decide +kernel
theorem dX2_best_6 : decode cX2_best 6 = .ok (.iload_n 3, 1) := by decide +kernel
theorem dX2_best_7 : decode cX2_best 7 = .ok (.iconst 3, 1) := by decide +kernel
theorem dX2_best_8 : decode cX2_best 8 = .ok (.if_icmp .ge 45, 3) := by decide +kernel
theorem dX2_best_11 : decode cX2_best 11 = .ok (.aload_n 0, 1) := by decide +kernel
theorem dX2_best_12 : decode cX2_best 12 = .ok (.aload_n 0, 1) := by decide +kernel
theorem dX2_best_13 : decode cX2_best 13 = .ok (.getfield 7, 3) := by decide +kernel
theorem dX2_best_16 : decode cX2_best 16 = .ok (.iload_n 3, 1) := by decide +kernel
theorem dX2_best_17 : decode cX2_best 17 = .ok (.invokevirtual 78, 3) := by decide +kernel
theorem dX2_best_20 : decode cX2_best 20 = .ok (.istore 4, 2) := by decide +kernel
theorem dX2_best_22 : decode cX2_best 22 = .ok (.iload 4, 2) := by decide +kernel
theorem dX2_best_24 : decode cX2_best 24 = .ok (.iconst (-1), 1) := by decide +kernel
theorem dX2_best_25 : decode cX2_best 25 = .ok (.if_icmp .eq 22, 3) := by decide +kernel
theorem dX2_best_28 : decode cX2_best 28 = .ok (.iload_n 1, 1) := by decide +kernel
theorem dX2_best_29 : decode cX2_best 29 = .ok (.iconst (-1), 1) := by decide +kernel
theorem dX2_best_30 : decode cX2_best 30 = .ok (.if_icmp .eq 12, 3) := by decide +kernel
theorem dX2_best_33 : decode cX2_best 33 = .ok (.iload 4, 2) := by decide +kernel
theorem dX2_best_35 : decode cX2_best 35 = .ok (.iload_n 2, 1) := by decide +kernel
theorem dX2_best_36 : decode cX2_best 36 = .ok (.if_icmp .lt 6, 3) := by decide +kernel
theorem dX2_best_39 : decode cX2_best 39 = .ok (.goto 8, 3) := by decide +kernel
theorem dX2_best_42 : decode cX2_best 42 = .ok (.iload_n 3, 1) := by decide +kernel
theorem dX2_best_43 : decode cX2_best 43 = .ok (.istore_n 1, 1) := by decide +kernel
theorem dX2_best_44 : decode cX2_best 44 = .ok (.iload 4, 2) := by decide +kernel
theorem dX2_best_46 : decode cX2_best 46 = .ok (.istore_n 2, 1) := by decide +kernel
theorem dX2_best_47 : decode cX2_best 47 = .ok (.iinc 3 1, 3) := by decide +kernel
theorem dX2_best_50 : decode cX2_best 50 = .ok (.goto (-44), 3) := by decide +kernel
theorem dX2_best_53 : decode cX2_best 53 = .ok (.iload_n 1, 1) := by decide +kernel
theorem dX2_best_54 : decode cX2_best 54 = .ok (.ireturn, 1) := by decide +kernel
set_option maxRecDepth 20000 in
theorem ggX2_bestWay_X2_best : GoodIn wsX2_bestWay wsX2_best := goodIn_r _ [5, 6, 7, 8, 9, 4, 10, 11, 12, 13, 14, 15, 16, 17, 18, 19, 20, 21, 22, 23, 24, 25, 31, 32, 33, 34, 35, 36, 37, 38, 39, 40, 41] (by decide +kernel) (by decide +kernel)
set_option maxRecDepth 20000 in
theorem gX2_bestWay_X2_best : GoodIn wsX2_bestWay (wsV RX2 139 RX2 yX2_best wsX2_best) := goodIn_app (goodIn_of _ (by decide +kernel)) ggX2_bestWay_X2_best
set_option maxRecDepth 20000 in
theorem ggX2_bestWay_X2_ok : GoodIn wsX2_bestWay wsX2_ok := goodIn_r _ [29, 30, 31, 32, 33, 34, 35, 36, 37, 38, 39, 40, 41] (by decide +kernel) (by decide +kernel)
set_option maxRecDepth 20000 in
theorem gX2_bestWay_X2_ok : GoodIn wsX2_bestWay (wsV RX2 89 RX2 yX2_ok wsX2_ok) := goodIn_app (goodIn_of _ (by decide +kernel)) ggX2_bestWay_X2_ok
theorem dX2_bestWay_0 : decode cX2_bestWay 0 = .ok (.aload_n 0, 1) := by decide +kernel
theorem dX2_bestWay_1 : decode cX2_bestWay 1 = .ok (.aload_n 0, 1) := by decide +kernel
theorem dX2_bestWay_2 : decode cX2_bestWay 2 = .ok (.invokevirtual 139, 3) := by decide +kernel
theorem dX2_bestWay_5 : decode cX2_bestWay 5 = .ok (.invokevirtual 89, 3) := by decide +kernel
theorem dX2_bestWay_8 : decode cX2_bestWay 8 = .ok (.ireturn, 1) := by decide +kernel
set_option maxRecDepth 20000 in
theorem ggX2_wanted_X2_anew : GoodIn wsX2_wanted wsX2_anew := goodIn_r _ [6, 7, 8, 9, 10, 11, 12, 13, 14, 15, 5, 16, 17, 18, 19, 20, 21, 22, 26, 27, 28, 29, 30, 31, 32, 33, 34, 35, 36] (by decide +kernel) (by decide +kernel)
set_option maxRecDepth 20000 in
theorem gX2_wanted_X2_anew : GoodIn wsX2_wanted (wsV RX2 78 RX2 yX2_anew wsX2_anew) := goodIn_app (goodIn_of _ (by decide +kernel)) ggX2_wanted_X2_anew
set_option maxRecDepth 20000 in
theorem ggX2_wanted_X2_isIn : GoodIn wsX2_wanted wsX2_isIn := goodIn_r _ [25] (by decide +kernel) (by decide +kernel)
set_option maxRecDepth 20000 in
theorem gX2_wanted_X2_isIn : GoodIn wsX2_wanted (va_wsS RX2 33 yX2_isIn wsX2_isIn) := goodIn_app (goodIn_of _ (by decide +kernel)) ggX2_wanted_X2_isIn
theorem dX2_wanted_0 : decode cX2_wanted 0 = .ok (.iconst 3, 1) := by decide +kernel
theorem dX2_wanted_1 : decode cX2_wanted 1 = .ok (.istore_n 2, 1) := by decide +kernel
theorem dX2_wanted_2 : decode cX2_wanted 2 = .ok (.iload_n 2, 1) := by decide +kernel
theorem dX2_wanted_3 : decode cX2_wanted 3 = .ok (.bipush 40, 2) := by decide +kernel
theorem dX2_wanted_5 : decode cX2_wanted 5 = .ok (.if_icmp .gt 28, 3) := by decide +kernel
theorem dX2_wanted_8 : decode cX2_wanted 8 = .ok (.aload_n 0, 1) := by decide +kernel
theorem dX2_wanted_9 : decode cX2_wanted 9 = .ok (.iload_n 2, 1) := by decide +kernel
theorem dX2_wanted_10 : decode cX2_wanted 10 = .ok (.aload_n 0, 1) := by decide +kernel
theorem dX2_wanted_11 : decode cX2_wanted 11 = .ok (.getfield 49, 3) := by decide +kernel
theorem dX2_wanted_14 : decode cX2_wanted 14 = .ok (.invokevirtual 78, 3) := by decide +kernel
theorem dX2_wanted_17 : decode cX2_wanted 17 = .ok (.iconst 0, 1) := by decide +kernel
theorem dX2_wanted_18 : decode cX2_wanted 18 = .ok (.iload_n 1, 1) := by decide +kernel
theorem dX2_wanted_19 : decode cX2_wanted 19 = .ok (.invokestatic 33, 3) := by decide +kernel
theorem dX2_wanted_22 : decode cX2_wanted 22 = .ok (.ifCond .eq 5, 3) := by decide +kernel
theorem dX2_wanted_25 : decode cX2_wanted 25 = .ok (.iload_n 2, 1) := by decide +kernel
theorem dX2_wanted_26 : decode cX2_wanted 26 = .ok (.ireturn, 1) := by decide +kernel
theorem dX2_wanted_27 : decode cX2_wanted 27 = .ok (.iinc 2 1, 3) := by decide +kernel
theorem dX2_wanted_30 : decode cX2_wanted 30 = .ok (.goto (-28), 3) := by decide +kernel
theorem dX2_wanted_33 : decode cX2_wanted 33 = .ok (.iconst (-1), 1) := by decide +kernel
theorem dX2_wanted_34 : decode cX2_wanted 34 = .ok (.ireturn, 1) := by decide +kernel
set_option maxRecDepth 20000 in
theorem ggX2_hooksWanted_X2_isIn : GoodIn wsX2_hooksWanted wsX2_isIn := goodIn_r _ [5] (by decide +kernel) (by decide +kernel)
set_option maxRecDepth 20000 in
theorem gX2_hooksWanted_X2_isIn : GoodIn wsX2_hooksWanted (va_wsS RX2 33 yX2_isIn wsX2_isIn) := goodIn_app (goodIn_of _ (by decide +kernel)) ggX2_hooksWanted_X2_isIn
set_option maxRecDepth 20000 in
theorem ggX2_hooksWanted_X2_wanted : GoodIn wsX2_hooksWanted wsX2_wanted := goodIn_r _ [9, 10, 11, 12, 13, 4, 14, 15, 16, 17, 18, 19, 20, 21, 22, 23, 24, 25, 26, 27, 28, 29, 30, 2, 3, 5, 35, 36, 37, 38, 39, 40, 41, 42, 43, 44, 45] (by decide +kernel) (by decide +kernel)
set_option maxRecDepth 20000 in
theorem gX2_hooksWanted_X2_wanted : GoodIn wsX2_hooksWanted (wsV RX2 142 RX2 yX2_wanted wsX2_wanted) := goodIn_app (goodIn_of _ (by decide +kernel)) ggX2_hooksWanted_X2_wanted
set_option maxRecDepth 20000 in
theorem ggX2_hooksWanted_X2_no : GoodIn wsX2_hooksWanted wsX2_no := goodIn_r _ [34, 1, 35, 36, 37, 38, 39, 40, 41, 42, 43, 44, 45] (by decide +kernel) (by decide +kernel)
set_option maxRecDepth 20000 in
theorem gX2_hooksWanted_X2_no : GoodIn wsX2_hooksWanted (wsV RX2 67 RX2 yX2_no wsX2_no) := goodIn_app (goodIn_of _ (by decide +kernel)) ggX2_hooksWanted_X2_no
theorem dX2_hooksWanted_0 : decode cX2_hooksWanted 0 = .ok (.aload_n 0, 1) := by decide +kernel
theorem dX2_hooksWanted_1 : decode cX2_hooksWanted 1 = .ok (.iconst 0, 1) := by decide +kernel
theorem dX2_hooksWanted_2 : decode cX2_hooksWanted 2 = .ok (.putfield 30, 3) := by decide +kernel
theorem dX2_hooksWanted_5 : decode cX2_hooksWanted 5 = .ok (.iload_n 1, 1) := by decide +kernel
theorem dX2_hooksWanted_6 : decode cX2_hooksWanted 6 = .ok (.iconst 0, 1) := by decide +kernel
theorem dX2_hooksWanted_7 : decode cX2_hooksWanted 7 = .ok (.sipush 400, 3) := by decide +kernel
theorem dX2_hooksWanted_10 : decode cX2_hooksWanted 10 = .ok (.invokestatic 33, 3) := by decide +kernel
theorem dX2_hooksWanted_13 : decode cX2_hooksWanted 13 = .ok (.ifCond .eq 11, 3) := by decide +kernel
theorem dX2_hooksWanted_16 : decode cX2_hooksWanted 16 = .ok (.aload_n 0, 1) := by decide +kernel
theorem dX2_hooksWanted_17 : decode cX2_hooksWanted 17 = .ok (.iload_n 1, 1) := by decide +kernel
theorem dX2_hooksWanted_18 : decode cX2_hooksWanted 18 = .ok (.invokevirtual 142, 3) := by decide +kernel
theorem dX2_hooksWanted_21 : decode cX2_hooksWanted 21 = .ok (.goto 8, 3) := by decide +kernel
theorem dX2_hooksWanted_24 : decode cX2_hooksWanted 24 = .ok (.aload_n 0, 1) := by decide +kernel
theorem dX2_hooksWanted_25 : decode cX2_hooksWanted 25 = .ok (.iconst 1, 1) := by decide +kernel
theorem dX2_hooksWanted_26 : decode cX2_hooksWanted 26 = .ok (.invokevirtual 67, 3) := by decide +kernel
theorem dX2_hooksWanted_29 : decode cX2_hooksWanted 29 = .ok (.ireturn, 1) := by decide +kernel
set_option maxRecDepth 20000 in
theorem ggX2_meanLooks_X2_many : GoodIn wsX2_meanLooks wsX2_many := goodIn_r _ [6, 7, 8, 30, 31, 32, 33, 34, 35, 36, 37, 38, 39, 40] (by decide +kernel) (by decide +kernel)
set_option maxRecDepth 20000 in
theorem gX2_meanLooks_X2_many : GoodIn wsX2_meanLooks (wsV RX2 92 RX2 yX2_many wsX2_many) := goodIn_app (goodIn_of _ (by decide +kernel)) ggX2_meanLooks_X2_many
set_option maxRecDepth 20000 in
theorem ggX2_meanLooks_X2_looksForAll : GoodIn wsX2_meanLooks wsX2_looksForAll := goodIn_r _ [12, 7, 8, 13, 14, 15, 5, 16, 17, 18, 19, 20, 21, 22, 23, 24, 25, 26, 27, 28, 29, 30, 31, 32, 33, 34, 35, 36, 37, 38, 39, 40] (by decide +kernel) (by decide +kernel)
set_option maxRecDepth 20000 in
theorem gX2_meanLooks_X2_looksForAll : GoodIn wsX2_meanLooks (wsV RX2 121 RX2 yX2_looksForAll wsX2_looksForAll) := goodIn_app (goodIn_of _ (by decide +kernel)) ggX2_meanLooks_X2_looksForAll
theorem dX2_meanLooks_0 : decode cX2_meanLooks 0 = .ok (.aload_n 0, 1) := by decide +kernel
theorem dX2_meanLooks_1 : decode cX2_meanLooks 1 = .ok (.iconst 0, 1) := by decide +kernel
theorem dX2_meanLooks_2 : decode cX2_meanLooks 2 = .ok (.putfield 30, 3) := by decide +kernel
theorem dX2_meanLooks_5 : decode cX2_meanLooks 5 = .ok (.aload_n 0, 1) := by decide +kernel
theorem dX2_meanLooks_6 : decode cX2_meanLooks 6 = .ok (.invokevirtual 92, 3) := by decide +kernel
theorem dX2_meanLooks_9 : decode cX2_meanLooks 9 = .ok (.istore_n 1, 1) := by decide +kernel
theorem dX2_meanLooks_10 : decode cX2_meanLooks 10 = .ok (.iload_n 1, 1) := by decide +kernel
theorem dX2_meanLooks_11 : decode cX2_meanLooks 11 = .ok (.ifCond .ne 7, 3) := by decide +kernel
theorem dX2_meanLooks_14 : decode cX2_meanLooks 14 = .ok (.dconst 0, 1) := by decide +kernel
theorem dX2_meanLooks_15 : decode cX2_meanLooks 15 = .ok (.goto 11, 3) := by decide +kernel
theorem dX2_meanLooks_18 : decode cX2_meanLooks 18 = .ok (.aload_n 0, 1) := by decide +kernel
theorem dX2_meanLooks_19 : decode cX2_meanLooks 19 = .ok (.invokevirtual 121, 3) := by decide +kernel
theorem dX2_meanLooks_22 : decode cX2_meanLooks 22 = .ok (.i2d, 1) := by decide +kernel
theorem dX2_meanLooks_23 : decode cX2_meanLooks 23 = .ok (.iload_n 1, 1) := by decide +kernel
theorem dX2_meanLooks_24 : decode cX2_meanLooks 24 = .ok (.i2d, 1) := by decide +kernel
theorem dX2_meanLooks_25 : decode cX2_meanLooks 25 = .ok (.ddiv, 1) := by decide +kernel
theorem dX2_meanLooks_26 : decode cX2_meanLooks 26 = .ok (.dreturn, 1) := by decide +kernel
set_option maxRecDepth 20000 in
theorem ggX2_digest_X2_many : GoodIn wsX2_digest wsX2_many := goodIn_r _ [11, 3, 12, 101, 102, 103, 104, 105, 106, 107, 108, 109, 110, 111] (by decide +kernel) (by decide +kernel)
set_option maxRecDepth 20000 in
theorem gX2_digest_X2_many : GoodIn wsX2_digest (wsV RX2 92 RX2 yX2_many wsX2_many) := goodIn_app (goodIn_of _ (by decide +kernel)) ggX2_digest_X2_many
set_option maxRecDepth 20000 in
theorem ggX2_digest_X2_count : GoodIn wsX2_digest wsX2_count := goodIn_r _ [16, 3, 12, 101, 102, 103, 104, 105, 106, 107, 108, 109, 110, 111] (by decide +kernel) (by decide +kernel)
set_option maxRecDepth 20000 in
theorem gX2_digest_X2_count : GoodIn wsX2_digest (wsV RX2 86 RX2 yX2_count wsX2_count) := goodIn_app (goodIn_of _ (by decide +kernel)) ggX2_digest_X2_count
set_option maxRecDepth 20000 in
theorem ggX2_digest_X2_all : GoodIn wsX2_digest wsX2_all := goodIn_r _ [20, 3, 21, 22, 23, 10, 24, 12, 25, 101, 102, 103, 104, 105, 106, 107, 108, 109, 110, 111] (by decide +kernel) (by decide +kernel)
set_option maxRecDepth 20000 in
theorem gX2_digest_X2_all : GoodIn wsX2_digest (wsV RX2 112 RX2 yX2_all wsX2_all) := goodIn_app (goodIn_of _ (by decide +kernel)) ggX2_digest_X2_all
set_option maxRecDepth 20000 in
theorem ggX2_digest_X2_heaviest : GoodIn wsX2_digest wsX2_heaviest := goodIn_r _ [29, 3, 12, 25, 101, 102, 103, 104, 105, 106, 107, 108, 109, 110, 111] (by decide +kernel) (by decide +kernel)
set_option maxRecDepth 20000 in
theorem gX2_digest_X2_heaviest : GoodIn wsX2_digest (wsV RX2 115 RX2 yX2_heaviest wsX2_heaviest) := goodIn_app (goodIn_of _ (by decide +kernel)) ggX2_digest_X2_heaviest
set_option maxRecDepth 20000 in
theorem ggX2_digest_X2_looksForAll : GoodIn wsX2_digest wsX2_looksForAll := goodIn_r _ [33, 3, 12, 34, 35, 36, 10, 37, 38, 39, 40, 41, 42, 4, 43, 44, 45, 46, 47, 48, 49, 101, 102, 103, 104, 105, 106, 107, 108, 109, 110, 111] (by decide +kernel) (by decide +kernel)
set_option maxRecDepth 20000 in
theorem gX2_digest_X2_looksForAll : GoodIn wsX2_digest (wsV RX2 121 RX2 yX2_looksForAll wsX2_looksForAll) := goodIn_app (goodIn_of _ (by decide +kernel)) ggX2_digest_X2_looksForAll
set_option maxRecDepth 20000 in
theorem ggX2_digest_X2_far : GoodIn wsX2_digest wsX2_far := goodIn_r _ [53, 3, 12, 38, 34, 35, 36, 10, 37, 39, 40, 41, 42, 4, 43, 44, 45, 46, 47, 48, 49, 101, 102, 103, 104, 105, 106, 107, 108, 109, 110, 111] (by decide +kernel) (by decide +kernel)
set_option maxRecDepth 20000 in
theorem gX2_digest_X2_far : GoodIn wsX2_digest (wsV RX2 124 RX2 yX2_far wsX2_far) := goodIn_app (goodIn_of _ (by decide +kernel)) ggX2_digest_X2_far
set_option maxRecDepth 20000 in
theorem ggX2_digest_X2_rowsNow : GoodIn wsX2_digest wsX2_rowsNow := goodIn_r _ [57, 3, 12, 13, 14, 15, 10, 16, 101, 102, 103, 104, 105, 106, 107, 108, 109, 110, 111] (by decide +kernel) (by decide +kernel)
set_option maxRecDepth 20000 in
theorem gX2_digest_X2_rowsNow : GoodIn wsX2_digest (wsV RX2 127 RX2 yX2_rowsNow wsX2_rowsNow) := goodIn_app (goodIn_of _ (by decide +kernel)) ggX2_digest_X2_rowsNow
set_option maxRecDepth 20000 in
theorem ggX2_digest_X2_longest : GoodIn wsX2_digest wsX2_longest := goodIn_r _ [61, 3, 62, 63, 64, 65, 66, 67, 68, 10, 69, 12, 70, 71, 72, 101, 102, 103, 104, 105, 106, 107, 108, 109, 110, 111] (by decide +kernel) (by decide +kernel)
set_option maxRecDepth 20000 in
theorem gX2_digest_X2_longest : GoodIn wsX2_digest (wsV RX2 136 RX2 yX2_longest wsX2_longest) := goodIn_app (goodIn_of _ (by decide +kernel)) ggX2_digest_X2_longest
set_option maxRecDepth 20000 in
theorem ggX2_digest_X2_best : GoodIn wsX2_digest wsX2_best := goodIn_r _ [76, 3, 77, 78, 79, 10, 80, 81, 12, 48, 82, 25, 38, 83, 84, 85, 43, 44, 45, 46, 47, 49, 101, 102, 103, 104, 105, 106, 107, 108, 109, 110, 111] (by decide +kernel) (by decide +kernel)
set_option maxRecDepth 20000 in
theorem gX2_digest_X2_best : GoodIn wsX2_digest (wsV RX2 139 RX2 yX2_best wsX2_best) := goodIn_app (goodIn_of _ (by decide +kernel)) ggX2_digest_X2_best
set_option maxRecDepth 20000 in
theorem ggX2_digest_X2_wanted : GoodIn wsX2_digest wsX2_wanted := goodIn_r _ [89, 4, 77, 78, 79, 10, 80, 81, 3, 12, 48, 82, 25, 38, 83, 84, 85, 43, 44, 45, 46, 47, 49, 90, 91, 92, 101, 102, 103, 104, 105, 106, 107, 108, 109, 110, 111] (by decide +kernel) (by decide +kernel)
set_option maxRecDepth 20000 in
theorem gX2_digest_X2_wanted : GoodIn wsX2_digest (wsV RX2 142 RX2 yX2_wanted wsX2_wanted) := goodIn_app (goodIn_of _ (by decide +kernel)) ggX2_digest_X2_wanted
set_option maxRecDepth 20000 in
theorem ggX2_digest_X2_state : GoodIn wsX2_digest wsX2_state := goodIn_r _ [96, 12, 101, 102, 103, 104, 105, 106, 107, 108, 109, 110, 111] (by decide +kernel) (by decide +kernel)
set_option maxRecDepth 20000 in
theorem gX2_digest_X2_state : GoodIn wsX2_digest (wsV RX2 98 RX2 yX2_state wsX2_state) := goodIn_app (goodIn_of _ (by decide +kernel)) ggX2_digest_X2_state
set_option maxRecDepth 20000 in
theorem ggX2_digest_X2_coat : GoodIn wsX2_digest wsX2_coat := goodIn_r _ [100, 12, 62, 63, 64, 65, 101, 102, 103, 104, 105, 106, 107, 108, 109, 110, 111] (by decide +kernel) (by decide +kernel)
set_option maxRecDepth 20000 in
theorem gX2_digest_X2_coat : GoodIn wsX2_digest (wsV RX2 106 RX2 yX2_coat wsX2_coat) := goodIn_app (goodIn_of _ (by decide +kernel)) ggX2_digest_X2_coat
set_option maxRecDepth 20000 in
theorem ggX2_digest_X2_weightOn : GoodIn wsX2_digest wsX2_weightOn := goodIn_r _ [24, 12, 25, 101, 102, 103, 104, 105, 106, 107, 108, 109, 110, 111] (by decide +kernel) (by decide +kernel)
set_option maxRecDepth 20000 in
theorem gX2_digest_X2_weightOn : GoodIn wsX2_digest (wsV RX2 109 RX2 yX2_weightOn wsX2_weightOn) := goodIn_app (goodIn_of _ (by decide +kernel)) ggX2_digest_X2_weightOn
set_option maxRecDepth 20000 in
theorem ggX2_digest_X2_rowOf : GoodIn wsX2_digest wsX2_rowOf := goodIn_r _ [69, 12, 3, 70, 71, 64, 72, 101, 102, 103, 104, 105, 106, 107, 108, 109, 110, 111] (by decide +kernel) (by decide +kernel)
set_option maxRecDepth 20000 in
theorem gX2_digest_X2_rowOf : GoodIn wsX2_digest (wsV RX2 133 RX2 yX2_rowOf wsX2_rowOf) := goodIn_app (goodIn_of _ (by decide +kernel)) ggX2_digest_X2_rowOf
set_option maxRecDepth 20000 in
theorem ggX2_digest_X2_manyLooks : GoodIn wsX2_digest wsX2_manyLooks := goodIn_r _ [37, 38, 39, 40, 41, 10, 42, 12, 3, 4, 43, 44, 45, 46, 47, 48, 49, 101, 102, 103, 104, 105, 106, 107, 108, 109, 110, 111] (by decide +kernel) (by decide +kernel)
set_option maxRecDepth 20000 in
theorem gX2_digest_X2_manyLooks : GoodIn wsX2_digest (wsV RX2 118 RX2 yX2_manyLooks wsX2_manyLooks) := goodIn_app (goodIn_of _ (by decide +kernel)) ggX2_digest_X2_manyLooks
theorem dX2_digest_0 : decode cX2_digest 0 = .ok (.aload_n 0, 1) := by decide +kernel
theorem dX2_digest_1 : decode cX2_digest 1 = .ok (.iconst 0, 1) := by decide +kernel
theorem dX2_digest_2 : decode cX2_digest 2 = .ok (.putfield 30, 3) := by decide +kernel
theorem dX2_digest_5 : decode cX2_digest 5 = .ok (.bipush 12, 2) := by decide +kernel
theorem dX2_digest_7 : decode cX2_digest 7 = .ok (.newarray .int, 2) := by decide +kernel
theorem dX2_digest_9 : decode cX2_digest 9 = .ok (.dup, 1) := by decide +kernel
theorem dX2_digest_10 : decode cX2_digest 10 = .ok (.iconst 0, 1) := by decide +kernel
theorem dX2_digest_11 : decode cX2_digest 11 = .ok (.aload_n 0, 1) := by decide +kernel
theorem dX2_digest_12 : decode cX2_digest 12 = .ok (.getfield 7, 3) := by decide +kernel
theorem dX2_digest_15 : decode cX2_digest 15 = .ok (.iastore, 1) := by decide +kernel
theorem dX2_digest_16 : decode cX2_digest 16 = .ok (.dup, 1) := by decide +kernel
theorem dX2_digest_17 : decode cX2_digest 17 = .ok (.iconst 1, 1) := by decide +kernel
theorem dX2_digest_18 : decode cX2_digest 18 = .ok (.aload_n 0, 1) := by decide +kernel
theorem dX2_digest_19 : decode cX2_digest 19 = .ok (.getfield 49, 3) := by decide +kernel
theorem dX2_digest_22 : decode cX2_digest 22 = .ok (.iastore, 1) := by decide +kernel
theorem dX2_digest_23 : decode cX2_digest 23 = .ok (.dup, 1) := by decide +kernel
theorem dX2_digest_24 : decode cX2_digest 24 = .ok (.iconst 2, 1) := by decide +kernel
theorem dX2_digest_25 : decode cX2_digest 25 = .ok (.aload_n 0, 1) := by decide +kernel
theorem dX2_digest_26 : decode cX2_digest 26 = .ok (.invokevirtual 92, 3) := by decide +kernel
theorem dX2_digest_29 : decode cX2_digest 29 = .ok (.iastore, 1) := by decide +kernel
theorem dX2_digest_30 : decode cX2_digest 30 = .ok (.dup, 1) := by decide +kernel
theorem dX2_digest_31 : decode cX2_digest 31 = .ok (.iconst 3, 1) := by decide +kernel
theorem dX2_digest_32 : decode cX2_digest 32 = .ok (.aload_n 0, 1) := by decide +kernel
theorem dX2_digest_33 : decode cX2_digest 33 = .ok (.bipush (-2), 2) := by decide +kernel
theorem dX2_digest_35 : decode cX2_digest 35 = .ok (.invokevirtual 86, 3) := by decide +kernel
theorem dX2_digest_38 : decode cX2_digest 38 = .ok (.iastore, 1) := by decide +kernel
theorem dX2_digest_39 : decode cX2_digest 39 = .ok (.dup, 1) := by decide +kernel
theorem dX2_digest_40 : decode cX2_digest 40 = .ok (.iconst 4, 1) := by decide +kernel
theorem dX2_digest_41 : decode cX2_digest 41 = .ok (.aload_n 0, 1) := by decide +kernel
theorem dX2_digest_42 : decode cX2_digest 42 = .ok (.invokevirtual 112, 3) := by decide +kernel
theorem dX2_digest_45 : decode cX2_digest 45 = .ok (.iastore, 1) := by decide +kernel
theorem dX2_digest_46 : decode cX2_digest 46 = .ok (.dup, 1) := by decide +kernel
theorem dX2_digest_47 : decode cX2_digest 47 = .ok (.iconst 5, 1) := by decide +kernel
theorem dX2_digest_48 : decode cX2_digest 48 = .ok (.aload_n 0, 1) := by decide +kernel
theorem dX2_digest_49 : decode cX2_digest 49 = .ok (.invokevirtual 115, 3) := by decide +kernel
theorem dX2_digest_52 : decode cX2_digest 52 = .ok (.iastore, 1) := by decide +kernel
theorem dX2_digest_53 : decode cX2_digest 53 = .ok (.dup, 1) := by decide +kernel
theorem dX2_digest_54 : decode cX2_digest 54 = .ok (.bipush 6, 2) := by decide +kernel
theorem dX2_digest_56 : decode cX2_digest 56 = .ok (.aload_n 0, 1) := by decide +kernel
theorem dX2_digest_57 : decode cX2_digest 57 = .ok (.invokevirtual 121, 3) := by decide +kernel
theorem dX2_digest_60 : decode cX2_digest 60 = .ok (.iastore, 1) := by decide +kernel
theorem dX2_digest_61 : decode cX2_digest 61 = .ok (.dup, 1) := by decide +kernel
theorem dX2_digest_62 : decode cX2_digest 62 = .ok (.bipush 7, 2) := by decide +kernel
theorem dX2_digest_64 : decode cX2_digest 64 = .ok (.aload_n 0, 1) := by decide +kernel
theorem dX2_digest_65 : decode cX2_digest 65 = .ok (.invokevirtual 124, 3) := by decide +kernel
theorem dX2_digest_68 : decode cX2_digest 68 = .ok (.iastore, 1) := by decide +kernel
theorem dX2_digest_69 : decode cX2_digest 69 = .ok (.dup, 1) := by decide +kernel
theorem dX2_digest_70 : decode cX2_digest 70 = .ok (.bipush 8, 2) := by decide +kernel
theorem dX2_digest_72 : decode cX2_digest 72 = .ok (.aload_n 0, 1) := by decide +kernel
theorem dX2_digest_73 : decode cX2_digest 73 = .ok (.invokevirtual 127, 3) := by decide +kernel
theorem dX2_digest_76 : decode cX2_digest 76 = .ok (.iastore, 1) := by decide +kernel
theorem dX2_digest_77 : decode cX2_digest 77 = .ok (.dup, 1) := by decide +kernel
theorem dX2_digest_78 : decode cX2_digest 78 = .ok (.bipush 9, 2) := by decide +kernel
theorem dX2_digest_80 : decode cX2_digest 80 = .ok (.aload_n 0, 1) := by decide +kernel
theorem dX2_digest_81 : decode cX2_digest 81 = .ok (.invokevirtual 136, 3) := by decide +kernel
theorem dX2_digest_84 : decode cX2_digest 84 = .ok (.iastore, 1) := by decide +kernel
theorem dX2_digest_85 : decode cX2_digest 85 = .ok (.dup, 1) := by decide +kernel
theorem dX2_digest_86 : decode cX2_digest 86 = .ok (.bipush 10, 2) := by decide +kernel
theorem dX2_digest_88 : decode cX2_digest 88 = .ok (.aload_n 0, 1) := by decide +kernel
theorem dX2_digest_89 : decode cX2_digest 89 = .ok (.invokevirtual 139, 3) := by decide +kernel
theorem dX2_digest_92 : decode cX2_digest 92 = .ok (.iastore, 1) := by decide +kernel
theorem dX2_digest_93 : decode cX2_digest 93 = .ok (.dup, 1) := by decide +kernel
theorem dX2_digest_94 : decode cX2_digest 94 = .ok (.bipush 11, 2) := by decide +kernel
theorem dX2_digest_96 : decode cX2_digest 96 = .ok (.aload_n 0, 1) := by decide +kernel
theorem dX2_digest_97 : decode cX2_digest 97 = .ok (.bipush 20, 2) := by decide +kernel
theorem dX2_digest_99 : decode cX2_digest 99 = .ok (.invokevirtual 142, 3) := by decide +kernel
theorem dX2_digest_102 : decode cX2_digest 102 = .ok (.iastore, 1) := by decide +kernel
theorem dX2_digest_103 : decode cX2_digest 103 = .ok (.astore_n 1, 1) := by decide +kernel
theorem dX2_digest_104 : decode cX2_digest 104 = .ok (.ldc2_w 145, 3) := by decide +kernel
theorem dX2_digest_107 : decode cX2_digest 107 = .ok (.lstore_n 2, 1) := by decide +kernel
theorem dX2_digest_108 : decode cX2_digest 108 = .ok (.aload_n 1, 1) := by decide +kernel
theorem dX2_digest_109 : decode cX2_digest 109 = .ok (.astore 4, 2) := by decide +kernel
theorem dX2_digest_111 : decode cX2_digest 111 = .ok (.aload 4, 2) := by decide +kernel
theorem dX2_digest_113 : decode cX2_digest 113 = .ok (.arraylength, 1) := by decide +kernel
theorem dX2_digest_114 : decode cX2_digest 114 = .ok (.istore 5, 2) := by decide +kernel
theorem dX2_digest_116 : decode cX2_digest 116 = .ok (.iconst 0, 1) := by decide +kernel
theorem dX2_digest_117 : decode cX2_digest 117 = .ok (.istore 6, 2) := by decide +kernel
theorem dX2_digest_119 : decode cX2_digest 119 = .ok (.iload 6, 2) := by decide +kernel
theorem dX2_digest_121 : decode cX2_digest 121 = .ok (.iload 5, 2) := by decide +kernel
theorem dX2_digest_123 : decode cX2_digest 123 = .ok (.if_icmp .ge 26, 3) := by decide +kernel
theorem dX2_digest_126 : decode cX2_digest 126 = .ok (.aload 4, 2) := by decide +kernel
theorem dX2_digest_128 : decode cX2_digest 128 = .ok (.iload 6, 2) := by decide +kernel
theorem dX2_digest_130 : decode cX2_digest 130 = .ok (.iaload, 1) := by decide +kernel
theorem dX2_digest_131 : decode cX2_digest 131 = .ok (.istore 7, 2) := by decide +kernel
theorem dX2_digest_133 : decode cX2_digest 133 = .ok (.lload_n 2, 1) := by decide +kernel
theorem dX2_digest_134 : decode cX2_digest 134 = .ok (.ldc2_w 147, 3) := by decide +kernel
theorem dX2_digest_137 : decode cX2_digest 137 = .ok (.lmul, 1) := by decide +kernel
theorem dX2_digest_138 : decode cX2_digest 138 = .ok (.iload 7, 2) := by decide +kernel
theorem dX2_digest_140 : decode cX2_digest 140 = .ok (.i2l, 1) := by decide +kernel
theorem dX2_digest_141 : decode cX2_digest 141 = .ok (.ladd, 1) := by decide +kernel
theorem dX2_digest_142 : decode cX2_digest 142 = .ok (.lstore_n 2, 1) := by decide +kernel
theorem dX2_digest_143 : decode cX2_digest 143 = .ok (.iinc 6 1, 3) := by decide +kernel
theorem dX2_digest_146 : decode cX2_digest 146 = .ok (.goto (-27), 3) := by decide +kernel
theorem dX2_digest_149 : decode cX2_digest 149 = .ok (.iconst 0, 1) := by decide +kernel
theorem dX2_digest_150 : decode cX2_digest 150 = .ok (.istore 4, 2) := by decide +kernel
theorem dX2_digest_152 : decode cX2_digest 152 = .ok (.iload 4, 2) := by decide +kernel
theorem dX2_digest_154 : decode cX2_digest 154 = .ok (.aload_n 0, 1) := by decide +kernel
theorem dX2_digest_155 : decode cX2_digest 155 = .ok (.getfield 7, 3) := by decide +kernel
theorem dX2_digest_158 : decode cX2_digest 158 = .ok (.if_icmp .ge 104, 3) := by decide +kernel
theorem dX2_digest_161 : decode cX2_digest 161 = .ok (.iconst 5, 1) := by decide +kernel
theorem dX2_digest_162 : decode cX2_digest 162 = .ok (.newarray .int, 2) := by decide +kernel
theorem dX2_digest_164 : decode cX2_digest 164 = .ok (.dup, 1) := by decide +kernel
theorem dX2_digest_165 : decode cX2_digest 165 = .ok (.iconst 0, 1) := by decide +kernel
theorem dX2_digest_166 : decode cX2_digest 166 = .ok (.aload_n 0, 1) := by decide +kernel
theorem dX2_digest_167 : decode cX2_digest 167 = .ok (.iload 4, 2) := by decide +kernel
theorem dX2_digest_169 : decode cX2_digest 169 = .ok (.invokevirtual 98, 3) := by decide +kernel
theorem dX2_digest_172 : decode cX2_digest 172 = .ok (.iastore, 1) := by decide +kernel
theorem dX2_digest_173 : decode cX2_digest 173 = .ok (.dup, 1) := by decide +kernel
theorem dX2_digest_174 : decode cX2_digest 174 = .ok (.iconst 1, 1) := by decide +kernel
theorem dX2_digest_175 : decode cX2_digest 175 = .ok (.aload_n 0, 1) := by decide +kernel
theorem dX2_digest_176 : decode cX2_digest 176 = .ok (.iload 4, 2) := by decide +kernel
theorem dX2_digest_178 : decode cX2_digest 178 = .ok (.invokevirtual 106, 3) := by decide +kernel
theorem dX2_digest_181 : decode cX2_digest 181 = .ok (.iastore, 1) := by decide +kernel
theorem dX2_digest_182 : decode cX2_digest 182 = .ok (.dup, 1) := by decide +kernel
theorem dX2_digest_183 : decode cX2_digest 183 = .ok (.iconst 2, 1) := by decide +kernel
theorem dX2_digest_184 : decode cX2_digest 184 = .ok (.aload_n 0, 1) := by decide +kernel
theorem dX2_digest_185 : decode cX2_digest 185 = .ok (.iload 4, 2) := by decide +kernel
theorem dX2_digest_187 : decode cX2_digest 187 = .ok (.invokevirtual 109, 3) := by decide +kernel
theorem dX2_digest_190 : decode cX2_digest 190 = .ok (.iastore, 1) := by decide +kernel
theorem dX2_digest_191 : decode cX2_digest 191 = .ok (.dup, 1) := by decide +kernel
theorem dX2_digest_192 : decode cX2_digest 192 = .ok (.iconst 3, 1) := by decide +kernel
theorem dX2_digest_193 : decode cX2_digest 193 = .ok (.aload_n 0, 1) := by decide +kernel
theorem dX2_digest_194 : decode cX2_digest 194 = .ok (.iload 4, 2) := by decide +kernel
theorem dX2_digest_196 : decode cX2_digest 196 = .ok (.invokevirtual 133, 3) := by decide +kernel
theorem dX2_digest_199 : decode cX2_digest 199 = .ok (.iastore, 1) := by decide +kernel
theorem dX2_digest_200 : decode cX2_digest 200 = .ok (.dup, 1) := by decide +kernel
theorem dX2_digest_201 : decode cX2_digest 201 = .ok (.iconst 4, 1) := by decide +kernel
theorem dX2_digest_202 : decode cX2_digest 202 = .ok (.aload_n 0, 1) := by decide +kernel
theorem dX2_digest_203 : decode cX2_digest 203 = .ok (.bipush 7, 2) := by decide +kernel
theorem dX2_digest_205 : decode cX2_digest 205 = .ok (.iload 4, 2) := by decide +kernel
theorem dX2_digest_207 : decode cX2_digest 207 = .ok (.imul, 1) := by decide +kernel
theorem dX2_digest_208 : decode cX2_digest 208 = .ok (.invokevirtual 118, 3) := by decide +kernel
theorem dX2_digest_211 : decode cX2_digest 211 = .ok (.iastore, 1) := by decide +kernel
theorem dX2_digest_212 : decode cX2_digest 212 = .ok (.astore 5, 2) := by decide +kernel
theorem dX2_digest_214 : decode cX2_digest 214 = .ok (.aload 5, 2) := by decide +kernel
theorem dX2_digest_216 : decode cX2_digest 216 = .ok (.astore 6, 2) := by decide +kernel
theorem dX2_digest_218 : decode cX2_digest 218 = .ok (.aload 6, 2) := by decide +kernel
theorem dX2_digest_220 : decode cX2_digest 220 = .ok (.arraylength, 1) := by decide +kernel
theorem dX2_digest_221 : decode cX2_digest 221 = .ok (.istore 7, 2) := by decide +kernel
theorem dX2_digest_223 : decode cX2_digest 223 = .ok (.iconst 0, 1) := by decide +kernel
theorem dX2_digest_224 : decode cX2_digest 224 = .ok (.istore 8, 2) := by decide +kernel
theorem dX2_digest_226 : decode cX2_digest 226 = .ok (.iload 8, 2) := by decide +kernel
theorem dX2_digest_228 : decode cX2_digest 228 = .ok (.iload 7, 2) := by decide +kernel
theorem dX2_digest_230 : decode cX2_digest 230 = .ok (.if_icmp .ge 26, 3) := by decide +kernel
theorem dX2_digest_233 : decode cX2_digest 233 = .ok (.aload 6, 2) := by decide +kernel
theorem dX2_digest_235 : decode cX2_digest 235 = .ok (.iload 8, 2) := by decide +kernel
theorem dX2_digest_237 : decode cX2_digest 237 = .ok (.iaload, 1) := by decide +kernel
theorem dX2_digest_238 : decode cX2_digest 238 = .ok (.istore 9, 2) := by decide +kernel
theorem dX2_digest_240 : decode cX2_digest 240 = .ok (.lload_n 2, 1) := by decide +kernel
theorem dX2_digest_241 : decode cX2_digest 241 = .ok (.ldc2_w 147, 3) := by decide +kernel
theorem dX2_digest_244 : decode cX2_digest 244 = .ok (.lmul, 1) := by decide +kernel
theorem dX2_digest_245 : decode cX2_digest 245 = .ok (.iload 9, 2) := by decide +kernel
theorem dX2_digest_247 : decode cX2_digest 247 = .ok (.i2l, 1) := by decide +kernel
theorem dX2_digest_248 : decode cX2_digest 248 = .ok (.ladd, 1) := by decide +kernel
theorem dX2_digest_249 : decode cX2_digest 249 = .ok (.lstore_n 2, 1) := by decide +kernel
theorem dX2_digest_250 : decode cX2_digest 250 = .ok (.iinc 8 1, 3) := by decide +kernel
theorem dX2_digest_253 : decode cX2_digest 253 = .ok (.goto (-27), 3) := by decide +kernel
theorem dX2_digest_256 : decode cX2_digest 256 = .ok (.iinc 4 1, 3) := by decide +kernel
theorem dX2_digest_259 : decode cX2_digest 259 = .ok (.goto (-107), 3) := by decide +kernel
theorem dX2_digest_262 : decode cX2_digest 262 = .ok (.lload_n 2, 1) := by decide +kernel
theorem dX2_digest_263 : decode cX2_digest 263 = .ok (.lreturn, 1) := by decide +kernel
theorem dJ9_max_7cf53_0 : decode cJ9_max_7cf53 0 = .ok (.iload_n 0, 1) := by decide +kernel
theorem dJ9_max_7cf53_1 : decode cJ9_max_7cf53 1 = .ok (.iload_n 1, 1) := by decide +kernel
theorem dJ9_max_7cf53_2 : decode cJ9_max_7cf53 2 = .ok (.if_icmp .lt 7, 3) := by decide +kernel
theorem dJ9_max_7cf53_5 : decode cJ9_max_7cf53 5 = .ok (.iload_n 0, 1) := by decide +kernel
theorem dJ9_max_7cf53_6 : decode cJ9_max_7cf53 6 = .ok (.goto 4, 3) := by decide +kernel
theorem dJ9_max_7cf53_9 : decode cJ9_max_7cf53 9 = .ok (.iload_n 1, 1) := by decide +kernel
theorem dJ9_max_7cf53_10 : decode cJ9_max_7cf53 10 = .ok (.ireturn, 1) := by decide +kernel
theorem dJ9_min_7cf53_0 : decode cJ9_min_7cf53 0 = .ok (.iload_n 0, 1) := by decide +kernel
theorem dJ9_min_7cf53_1 : decode cJ9_min_7cf53 1 = .ok (.iload_n 1, 1) := by decide +kernel
theorem dJ9_min_7cf53_2 : decode cJ9_min_7cf53 2 = .ok (.if_icmp .gt 7, 3) := by decide +kernel
theorem dJ9_min_7cf53_5 : decode cJ9_min_7cf53 5 = .ok (.iload_n 0, 1) := by decide +kernel
theorem dJ9_min_7cf53_6 : decode cJ9_min_7cf53 6 = .ok (.goto 4, 3) := by decide +kernel
theorem dJ9_min_7cf53_9 : decode cJ9_min_7cf53 9 = .ok (.iload_n 1, 1) := by decide +kernel
theorem dJ9_min_7cf53_10 : decode cJ9_min_7cf53 10 = .ok (.ireturn, 1) := by decide +kernel
set_option maxRecDepth 20000 in
theorem ggL_hang_X1_hang : GoodIn wsL_hang wsX1_hang := goodIn_ca (goodIn_ca (goodIn_r _ [7, 8, 9, 10, 11, 12, 13, 14, 6, 15, 16, 17, 18, 19, 20, 21, 22, 23, 24, 25, 26, 27, 28, 29, 30, 31, 32, 33, 34, 35, 36, 37, 38, 39, 40, 41, 42, 43, 44, 45, 46, 47, 48, 49, 50, 51, 52, 53, 54] (by decide +kernel) (by decide +kernel)) (goodIn_sub (fun _ h => List.mem_cons_of_mem _ (List.mem_append_left _ (List.mem_append_right _ h))) (by decide +kernel))) (goodIn_sub (fun _ h => List.mem_cons_of_mem _ (List.mem_append_right _ h)) (by decide +kernel))
set_option maxRecDepth 20000 in
theorem gL_hang_X1_hang : GoodIn wsL_hang (wsV RL 7 RX1 yX1_hang wsX1_hang) := goodIn_app (goodIn_of _ (by decide +kernel)) ggL_hang_X1_hang
