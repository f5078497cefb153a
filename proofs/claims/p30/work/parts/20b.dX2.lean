/-- one word more -/
theorem goodIn_k {big a : List Cond} {c : Cond} (hc : GoodIn big [c]) (ha : GoodIn big a) : GoodIn big (c :: a) := fun w h => (List.mem_cons.mp h).elim (fun e => hc w (List.mem_cons.mpr (Or.inl e))) (ha w)
theorem dX2_init_0 : decode cX2_init 0 = .ok (.aload_n 0, 1) := by decide +kernel
theorem dX2_init_1 : decode cX2_init 1 = .ok (.invokespecial 1, 3) := by decide +kernel
theorem dX2_init_4 : decode cX2_init 4 = .ok (.aload_n 0, 1) := by decide +kernel
theorem dX2_init_5 : decode cX2_init 5 = .ok (.bipush 8, 2) := by decide +kernel
theorem dX2_init_7 : decode cX2_init 7 = .ok (.newarray .int, 2) := by decide +kernel
theorem dX2_init_9 : decode cX2_init 9 = .ok (.dup, 1) := by decide +kernel
theorem dX2_init_10 : decode cX2_init 10 = .ok (.iconst 0, 1) := by decide +kernel
theorem dX2_init_11 : decode cX2_init 11 = .ok (.iconst (-1), 1) := by decide +kernel
theorem dX2_init_12 : decode cX2_init 12 = .ok (.iastore, 1) := by decide +kernel
theorem dX2_init_13 : decode cX2_init 13 = .ok (.dup, 1) := by decide +kernel
theorem dX2_init_14 : decode cX2_init 14 = .ok (.iconst 1, 1) := by decide +kernel
theorem dX2_init_15 : decode cX2_init 15 = .ok (.iconst (-1), 1) := by decide +kernel
theorem dX2_init_16 : decode cX2_init 16 = .ok (.iastore, 1) := by decide +kernel
theorem dX2_init_17 : decode cX2_init 17 = .ok (.dup, 1) := by decide +kernel
theorem dX2_init_18 : decode cX2_init 18 = .ok (.iconst 2, 1) := by decide +kernel
theorem dX2_init_19 : decode cX2_init 19 = .ok (.iconst (-1), 1) := by decide +kernel
theorem dX2_init_20 : decode cX2_init 20 = .ok (.iastore, 1) := by decide +kernel
theorem dX2_init_21 : decode cX2_init 21 = .ok (.dup, 1) := by decide +kernel
theorem dX2_init_22 : decode cX2_init 22 = .ok (.iconst 3, 1) := by decide +kernel
theorem dX2_init_23 : decode cX2_init 23 = .ok (.iconst (-1), 1) := by decide +kernel
theorem dX2_init_24 : decode cX2_init 24 = .ok (.iastore, 1) := by decide +kernel
theorem dX2_init_25 : decode cX2_init 25 = .ok (.dup, 1) := by decide +kernel
theorem dX2_init_26 : decode cX2_init 26 = .ok (.iconst 4, 1) := by decide +kernel
theorem dX2_init_27 : decode cX2_init 27 = .ok (.iconst (-1), 1) := by decide +kernel
theorem dX2_init_28 : decode cX2_init 28 = .ok (.iastore, 1) := by decide +kernel
theorem dX2_init_29 : decode cX2_init 29 = .ok (.dup, 1) := by decide +kernel
theorem dX2_init_30 : decode cX2_init 30 = .ok (.iconst 5, 1) := by decide +kernel
theorem dX2_init_31 : decode cX2_init 31 = .ok (.iconst (-1), 1) := by decide +kernel
theorem dX2_init_32 : decode cX2_init 32 = .ok (.iastore, 1) := by decide +kernel
theorem dX2_init_33 : decode cX2_init 33 = .ok (.dup, 1) := by decide +kernel
theorem dX2_init_34 : decode cX2_init 34 = .ok (.bipush 6, 2) := by decide +kernel
theorem dX2_init_36 : decode cX2_init 36 = .ok (.iconst (-1), 1) := by decide +kernel
theorem dX2_init_37 : decode cX2_init 37 = .ok (.iastore, 1) := by decide +kernel
theorem dX2_init_38 : decode cX2_init 38 = .ok (.dup, 1) := by decide +kernel
theorem dX2_init_39 : decode cX2_init 39 = .ok (.bipush 7, 2) := by decide +kernel
theorem dX2_init_41 : decode cX2_init 41 = .ok (.iconst (-1), 1) := by decide +kernel
theorem dX2_init_42 : decode cX2_init 42 = .ok (.iastore, 1) := by decide +kernel
theorem dX2_init_43 : decode cX2_init 43 = .ok (.putfield 7, 3) := by decide +kernel
theorem dX2_init_46 : decode cX2_init 46 = .ok (.aload_n 0, 1) := by decide +kernel
theorem dX2_init_47 : decode cX2_init 47 = .ok (.bipush 8, 2) := by decide +kernel
theorem dX2_init_49 : decode cX2_init 49 = .ok (.newarray .int, 2) := by decide +kernel
theorem dX2_init_51 : decode cX2_init 51 = .ok (.putfield 13, 3) := by decide +kernel
theorem dX2_init_54 : decode cX2_init 54 = .ok (.aload_n 0, 1) := by decide +kernel
theorem dX2_init_55 : decode cX2_init 55 = .ok (.bipush 8, 2) := by decide +kernel
theorem dX2_init_57 : decode cX2_init 57 = .ok (.newarray .boolean, 2) := by decide +kernel
theorem dX2_init_59 : decode cX2_init 59 = .ok (.putfield 16, 3) := by decide +kernel
theorem dX2_init_62 : decode cX2_init 62 = .ok (.return_, 1) := by decide +kernel
set_option maxRecDepth 20000 in
theorem ggX2_bare_X2_init : GoodIn wsX2_bare wsX2_init := goodIn_r _ [12, 13, 14, 15, 5, 6, 7, 8, 9, 16, 17, 18, 19] (by decide +kernel) (by decide +kernel)
set_option maxRecDepth 20000 in
theorem gX2_bare_X2_init : GoodIn wsX2_bare (wsX2_init) := ggX2_bare_X2_init
theorem dX2_bare_0 : decode cX2_bare 0 = .ok (.new 8, 3) := by decide +kernel
theorem dX2_bare_3 : decode cX2_bare 3 = .ok (.dup, 1) := by decide +kernel
theorem dX2_bare_4 : decode cX2_bare 4 = .ok (.invokespecial 20, 3) := by decide +kernel
theorem dX2_bare_7 : decode cX2_bare 7 = .ok (.astore_n 3, 1) := by decide +kernel
theorem dX2_bare_8 : decode cX2_bare 8 = .ok (.aload_n 3, 1) := by decide +kernel
theorem dX2_bare_9 : decode cX2_bare 9 = .ok (.iload_n 2, 1) := by decide +kernel
theorem dX2_bare_10 : decode cX2_bare 10 = .ok (.putfield 21, 3) := by decide +kernel
theorem dX2_bare_13 : decode cX2_bare 13 = .ok (.aload_n 3, 1) := by decide +kernel
theorem dX2_bare_14 : decode cX2_bare 14 = .ok (.iload_n 1, 1) := by decide +kernel
theorem dX2_bare_15 : decode cX2_bare 15 = .ok (.newarray .int, 2) := by decide +kernel
theorem dX2_bare_17 : decode cX2_bare 17 = .ok (.putfield 7, 3) := by decide +kernel
theorem dX2_bare_20 : decode cX2_bare 20 = .ok (.iconst 0, 1) := by decide +kernel
theorem dX2_bare_21 : decode cX2_bare 21 = .ok (.istore 4, 2) := by decide +kernel
theorem dX2_bare_23 : decode cX2_bare 23 = .ok (.iload 4, 2) := by decide +kernel
theorem dX2_bare_25 : decode cX2_bare 25 = .ok (.iload_n 1, 1) := by decide +kernel
theorem dX2_bare_26 : decode cX2_bare 26 = .ok (.if_icmp .ge 17, 3) := by decide +kernel
theorem dX2_bare_29 : decode cX2_bare 29 = .ok (.aload_n 3, 1) := by decide +kernel
theorem dX2_bare_30 : decode cX2_bare 30 = .ok (.getfield 7, 3) := by decide +kernel
theorem dX2_bare_33 : decode cX2_bare 33 = .ok (.iload 4, 2) := by decide +kernel
theorem dX2_bare_35 : decode cX2_bare 35 = .ok (.iconst (-1), 1) := by decide +kernel
theorem dX2_bare_36 : decode cX2_bare 36 = .ok (.iastore, 1) := by decide +kernel
theorem dX2_bare_37 : decode cX2_bare 37 = .ok (.iinc 4 1, 3) := by decide +kernel
theorem dX2_bare_40 : decode cX2_bare 40 = .ok (.goto (-17), 3) := by decide +kernel
theorem dX2_bare_43 : decode cX2_bare 43 = .ok (.aload_n 3, 1) := by decide +kernel
theorem dX2_bare_44 : decode cX2_bare 44 = .ok (.iload_n 1, 1) := by decide +kernel
theorem dX2_bare_45 : decode cX2_bare 45 = .ok (.newarray .int, 2) := by decide +kernel
theorem dX2_bare_47 : decode cX2_bare 47 = .ok (.putfield 13, 3) := by decide +kernel
theorem dX2_bare_50 : decode cX2_bare 50 = .ok (.aload_n 3, 1) := by decide +kernel
theorem dX2_bare_51 : decode cX2_bare 51 = .ok (.iload_n 1, 1) := by decide +kernel
theorem dX2_bare_52 : decode cX2_bare 52 = .ok (.newarray .boolean, 2) := by decide +kernel
theorem dX2_bare_54 : decode cX2_bare 54 = .ok (.putfield 16, 3) := by decide +kernel
theorem dX2_bare_57 : decode cX2_bare 57 = .ok (.aload_n 3, 1) := by decide +kernel
theorem dX2_bare_58 : decode cX2_bare 58 = .ok (.areturn, 1) := by decide +kernel
theorem dX2_isFree_0 : decode cX2_isFree 0 = .ok (.aload_n 0, 1) := by decide +kernel
theorem dX2_isFree_1 : decode cX2_isFree 1 = .ok (.getfield 7, 3) := by decide +kernel
theorem dX2_isFree_4 : decode cX2_isFree 4 = .ok (.iload_n 1, 1) := by decide +kernel
theorem dX2_isFree_5 : decode cX2_isFree 5 = .ok (.iaload, 1) := by decide +kernel
theorem dX2_isFree_6 : decode cX2_isFree 6 = .ok (.ifCond .ge 16, 3) := by decide +kernel
theorem dX2_isFree_9 : decode cX2_isFree 9 = .ok (.aload_n 0, 1) := by decide +kernel
theorem dX2_isFree_10 : decode cX2_isFree 10 = .ok (.getfield 16, 3) := by decide +kernel
theorem dX2_isFree_13 : decode cX2_isFree 13 = .ok (.iload_n 1, 1) := by decide +kernel
theorem dX2_isFree_14 : decode cX2_isFree 14 = .ok (.baload, 1) := by decide +kernel
theorem dX2_isFree_15 : decode cX2_isFree 15 = .ok (.ifCond .ne 7, 3) := by decide +kernel
theorem dX2_isFree_18 : decode cX2_isFree 18 = .ok (.iconst 1, 1) := by decide +kernel
theorem dX2_isFree_19 : decode cX2_isFree 19 = .ok (.goto 4, 3) := by decide +kernel
theorem dX2_isFree_22 : decode cX2_isFree 22 = .ok (.iconst 0, 1) := by decide +kernel
theorem dX2_isFree_23 : decode cX2_isFree 23 = .ok (.ireturn, 1) := by decide +kernel
theorem dX2_at_0 : decode cX2_at 0 = .ok (.aload_n 0, 1) := by decide +kernel
theorem dX2_at_1 : decode cX2_at 1 = .ok (.getfield 7, 3) := by decide +kernel
theorem dX2_at_4 : decode cX2_at 4 = .ok (.arraylength, 1) := by decide +kernel
theorem dX2_at_5 : decode cX2_at 5 = .ok (.istore_n 3, 1) := by decide +kernel
theorem dX2_at_6 : decode cX2_at 6 = .ok (.aload_n 0, 1) := by decide +kernel
theorem dX2_at_7 : decode cX2_at 7 = .ok (.getfield 21, 3) := by decide +kernel
theorem dX2_at_10 : decode cX2_at 10 = .ok (.ifCond .ne 11, 3) := by decide +kernel
theorem dX2_at_13 : decode cX2_at 13 = .ok (.iload_n 1, 1) := by decide +kernel
theorem dX2_at_14 : decode cX2_at 14 = .ok (.iload_n 2, 1) := by decide +kernel
theorem dX2_at_15 : decode cX2_at 15 = .ok (.iadd, 1) := by decide +kernel
theorem dX2_at_16 : decode cX2_at 16 = .ok (.iload_n 3, 1) := by decide +kernel
theorem dX2_at_17 : decode cX2_at 17 = .ok (.irem, 1) := by decide +kernel
theorem dX2_at_18 : decode cX2_at 18 = .ok (.goto 40, 3) := by decide +kernel
theorem dX2_at_21 : decode cX2_at 21 = .ok (.aload_n 0, 1) := by decide +kernel
theorem dX2_at_22 : decode cX2_at 22 = .ok (.getfield 21, 3) := by decide +kernel
theorem dX2_at_25 : decode cX2_at 25 = .ok (.iconst 1, 1) := by decide +kernel
theorem dX2_at_26 : decode cX2_at 26 = .ok (.if_icmp .ne 17, 3) := by decide +kernel
theorem dX2_at_29 : decode cX2_at 29 = .ok (.iload_n 1, 1) := by decide +kernel
theorem dX2_at_30 : decode cX2_at 30 = .ok (.iload_n 2, 1) := by decide +kernel
theorem dX2_at_31 : decode cX2_at 31 = .ok (.iload_n 2, 1) := by decide +kernel
theorem dX2_at_32 : decode cX2_at 32 = .ok (.iconst 1, 1) := by decide +kernel
theorem dX2_at_33 : decode cX2_at 33 = .ok (.iadd, 1) := by decide +kernel
theorem dX2_at_34 : decode cX2_at 34 = .ok (.imul, 1) := by decide +kernel
theorem dX2_at_35 : decode cX2_at 35 = .ok (.iconst 2, 1) := by decide +kernel
theorem dX2_at_36 : decode cX2_at 36 = .ok (.idiv, 1) := by decide +kernel
theorem dX2_at_37 : decode cX2_at 37 = .ok (.iadd, 1) := by decide +kernel
theorem dX2_at_38 : decode cX2_at 38 = .ok (.iload_n 3, 1) := by decide +kernel
theorem dX2_at_39 : decode cX2_at 39 = .ok (.irem, 1) := by decide +kernel
theorem dX2_at_40 : decode cX2_at 40 = .ok (.goto 18, 3) := by decide +kernel
theorem dX2_at_43 : decode cX2_at 43 = .ok (.iload_n 1, 1) := by decide +kernel
theorem dX2_at_44 : decode cX2_at 44 = .ok (.iload_n 2, 1) := by decide +kernel
theorem dX2_at_45 : decode cX2_at 45 = .ok (.iconst 1, 1) := by decide +kernel
theorem dX2_at_46 : decode cX2_at 46 = .ok (.iload_n 1, 1) := by decide +kernel
theorem dX2_at_47 : decode cX2_at 47 = .ok (.iload_n 3, 1) := by decide +kernel
theorem dX2_at_48 : decode cX2_at 48 = .ok (.idiv, 1) := by decide +kernel
theorem dX2_at_49 : decode cX2_at 49 = .ok (.iload_n 3, 1) := by decide +kernel
theorem dX2_at_50 : decode cX2_at 50 = .ok (.iconst 1, 1) := by decide +kernel
theorem dX2_at_51 : decode cX2_at 51 = .ok (.isub, 1) := by decide +kernel
theorem dX2_at_52 : decode cX2_at 52 = .ok (.irem, 1) := by decide +kernel
theorem dX2_at_53 : decode cX2_at 53 = .ok (.iadd, 1) := by decide +kernel
theorem dX2_at_54 : decode cX2_at 54 = .ok (.imul, 1) := by decide +kernel
theorem dX2_at_55 : decode cX2_at 55 = .ok (.iadd, 1) := by decide +kernel
theorem dX2_at_56 : decode cX2_at 56 = .ok (.iload_n 3, 1) := by decide +kernel
theorem dX2_at_57 : decode cX2_at 57 = .ok (.irem, 1) := by decide +kernel
theorem dX2_at_58 : decode cX2_at 58 = .ok (.ireturn, 1) := by decide +kernel
set_option maxRecDepth 20000 in
theorem ggX2_looks_X2_at : GoodIn wsX2_looks wsX2_at := goodIn_r _ [6, 1, 7, 13, 14, 15, 16] (by decide +kernel) (by decide +kernel)
set_option maxRecDepth 20000 in
theorem gX2_looks_X2_at : GoodIn wsX2_looks (wsV RX2 25 RX2 yX2_at wsX2_at) := goodIn_app (goodIn_of _ (by decide +kernel)) ggX2_looks_X2_at
set_option maxRecDepth 20000 in
theorem ggX2_looks_X2_isFree : GoodIn wsX2_looks wsX2_isFree := goodIn_r _ [11, 1, 12, 13, 14, 15, 16] (by decide +kernel) (by decide +kernel)
set_option maxRecDepth 20000 in
theorem gX2_looks_X2_isFree : GoodIn wsX2_looks (wsV RX2 29 RX2 yX2_isFree wsX2_isFree) := goodIn_app (goodIn_of _ (by decide +kernel)) ggX2_looks_X2_isFree
theorem dX2_looks_0 : decode cX2_looks 0 = .ok (.iconst 0, 1) := by decide +kernel
theorem dX2_looks_1 : decode cX2_looks 1 = .ok (.istore_n 2, 1) := by decide +kernel
theorem dX2_looks_2 : decode cX2_looks 2 = .ok (.iload_n 2, 1) := by decide +kernel
theorem dX2_looks_3 : decode cX2_looks 3 = .ok (.aload_n 0, 1) := by decide +kernel
theorem dX2_looks_4 : decode cX2_looks 4 = .ok (.getfield 7, 3) := by decide +kernel
theorem dX2_looks_7 : decode cX2_looks 7 = .ok (.arraylength, 1) := by decide +kernel
theorem dX2_looks_8 : decode cX2_looks 8 = .ok (.if_icmp .ge 41, 3) := by decide +kernel
theorem dX2_looks_11 : decode cX2_looks 11 = .ok (.aload_n 0, 1) := by decide +kernel
theorem dX2_looks_12 : decode cX2_looks 12 = .ok (.getfield 7, 3) := by decide +kernel
theorem dX2_looks_15 : decode cX2_looks 15 = .ok (.aload_n 0, 1) := by decide +kernel
theorem dX2_looks_16 : decode cX2_looks 16 = .ok (.iload_n 1, 1) := by decide +kernel
theorem dX2_looks_17 : decode cX2_looks 17 = .ok (.iload_n 2, 1) := by decide +kernel
theorem dX2_looks_18 : decode cX2_looks 18 = .ok (.invokevirtual 25, 3) := by decide +kernel
theorem dX2_looks_21 : decode cX2_looks 21 = .ok (.iaload, 1) := by decide +kernel
theorem dX2_looks_22 : decode cX2_looks 22 = .ok (.iload_n 1, 1) := by decide +kernel
theorem dX2_looks_23 : decode cX2_looks 23 = .ok (.if_icmp .eq 16, 3) := by decide +kernel
theorem dX2_looks_26 : decode cX2_looks 26 = .ok (.aload_n 0, 1) := by decide +kernel
theorem dX2_looks_27 : decode cX2_looks 27 = .ok (.aload_n 0, 1) := by decide +kernel
theorem dX2_looks_28 : decode cX2_looks 28 = .ok (.iload_n 1, 1) := by decide +kernel
theorem dX2_looks_29 : decode cX2_looks 29 = .ok (.iload_n 2, 1) := by decide +kernel
theorem dX2_looks_30 : decode cX2_looks 30 = .ok (.invokevirtual 25, 3) := by decide +kernel
theorem dX2_looks_33 : decode cX2_looks 33 = .ok (.invokevirtual 29, 3) := by decide +kernel
theorem dX2_looks_36 : decode cX2_looks 36 = .ok (.ifCond .eq 7, 3) := by decide +kernel
theorem dX2_looks_39 : decode cX2_looks 39 = .ok (.iload_n 2, 1) := by decide +kernel
theorem dX2_looks_40 : decode cX2_looks 40 = .ok (.iconst 1, 1) := by decide +kernel
theorem dX2_looks_41 : decode cX2_looks 41 = .ok (.iadd, 1) := by decide +kernel
theorem dX2_looks_42 : decode cX2_looks 42 = .ok (.ireturn, 1) := by decide +kernel
theorem dX2_looks_43 : decode cX2_looks 43 = .ok (.iinc 2 1, 3) := by decide +kernel
theorem dX2_looks_46 : decode cX2_looks 46 = .ok (.goto (-44), 3) := by decide +kernel
theorem dX2_looks_49 : decode cX2_looks 49 = .ok (.aload_n 0, 1) := by decide +kernel
theorem dX2_looks_50 : decode cX2_looks 50 = .ok (.getfield 7, 3) := by decide +kernel
theorem dX2_looks_53 : decode cX2_looks 53 = .ok (.arraylength, 1) := by decide +kernel
theorem dX2_looks_54 : decode cX2_looks 54 = .ok (.ireturn, 1) := by decide +kernel
set_option maxRecDepth 20000 in
theorem ggX2_find_X2_looks : GoodIn wsX2_find wsX2_looks := goodIn_r _ [6, 1, 7, 8, 9, 5, 10, 11, 12, 13, 14, 15, 16, 17, 18, 19, 20] (by decide +kernel) (by decide +kernel)
set_option maxRecDepth 20000 in
theorem gX2_find_X2_looks : GoodIn wsX2_find (wsV RX2 33 RX2 yX2_looks wsX2_looks) := goodIn_app (goodIn_of _ (by decide +kernel)) ggX2_find_X2_looks
set_option maxRecDepth 20000 in
theorem ggX2_find_X2_at : GoodIn wsX2_find wsX2_at := goodIn_r _ [10, 1, 11, 17, 18, 19, 20] (by decide +kernel) (by decide +kernel)
set_option maxRecDepth 20000 in
theorem gX2_find_X2_at : GoodIn wsX2_find (wsV RX2 25 RX2 yX2_at wsX2_at) := goodIn_app (goodIn_of _ (by decide +kernel)) ggX2_find_X2_at
theorem dX2_find_0 : decode cX2_find 0 = .ok (.aload_n 0, 1) := by decide +kernel
theorem dX2_find_1 : decode cX2_find 1 = .ok (.iload_n 1, 1) := by decide +kernel
theorem dX2_find_2 : decode cX2_find 2 = .ok (.aload_n 0, 1) := by decide +kernel
theorem dX2_find_3 : decode cX2_find 3 = .ok (.iload_n 1, 1) := by decide +kernel
theorem dX2_find_4 : decode cX2_find 4 = .ok (.invokevirtual 33, 3) := by decide +kernel
theorem dX2_find_7 : decode cX2_find 7 = .ok (.iconst 1, 1) := by decide +kernel
theorem dX2_find_8 : decode cX2_find 8 = .ok (.isub, 1) := by decide +kernel
theorem dX2_find_9 : decode cX2_find 9 = .ok (.invokevirtual 25, 3) := by decide +kernel
theorem dX2_find_12 : decode cX2_find 12 = .ok (.istore_n 2, 1) := by decide +kernel
theorem dX2_find_13 : decode cX2_find 13 = .ok (.aload_n 0, 1) := by decide +kernel
theorem dX2_find_14 : decode cX2_find 14 = .ok (.getfield 7, 3) := by decide +kernel
theorem dX2_find_17 : decode cX2_find 17 = .ok (.iload_n 2, 1) := by decide +kernel
theorem dX2_find_18 : decode cX2_find 18 = .ok (.iaload, 1) := by decide +kernel
theorem dX2_find_19 : decode cX2_find 19 = .ok (.iload_n 1, 1) := by decide +kernel
theorem dX2_find_20 : decode cX2_find 20 = .ok (.if_icmp .ne 7, 3) := by decide +kernel
theorem dX2_find_23 : decode cX2_find 23 = .ok (.iload_n 2, 1) := by decide +kernel
theorem dX2_find_24 : decode cX2_find 24 = .ok (.goto 4, 3) := by decide +kernel
theorem dX2_find_27 : decode cX2_find 27 = .ok (.iconst (-1), 1) := by decide +kernel
theorem dX2_find_28 : decode cX2_find 28 = .ok (.ireturn, 1) := by decide +kernel
theorem dX2_hangs_0 : decode cX2_hangs 0 = .ok (.aload_n 0, 1) := by decide +kernel
theorem dX2_hangs_1 : decode cX2_hangs 1 = .ok (.getfield 7, 3) := by decide +kernel
theorem dX2_hangs_4 : decode cX2_hangs 4 = .ok (.astore_n 2, 1) := by decide +kernel
theorem dX2_hangs_5 : decode cX2_hangs 5 = .ok (.aload_n 2, 1) := by decide +kernel
theorem dX2_hangs_6 : decode cX2_hangs 6 = .ok (.arraylength, 1) := by decide +kernel
theorem dX2_hangs_7 : decode cX2_hangs 7 = .ok (.istore_n 3, 1) := by decide +kernel
theorem dX2_hangs_8 : decode cX2_hangs 8 = .ok (.iconst 0, 1) := by decide +kernel
theorem dX2_hangs_9 : decode cX2_hangs 9 = .ok (.istore 4, 2) := by decide +kernel
theorem dX2_hangs_11 : decode cX2_hangs 11 = .ok (.iload 4, 2) := by decide +kernel
theorem dX2_hangs_13 : decode cX2_hangs 13 = .ok (.iload_n 3, 1) := by decide +kernel
theorem dX2_hangs_14 : decode cX2_hangs 14 = .ok (.if_icmp .ge 23, 3) := by decide +kernel
theorem dX2_hangs_17 : decode cX2_hangs 17 = .ok (.aload_n 2, 1) := by decide +kernel
theorem dX2_hangs_18 : decode cX2_hangs 18 = .ok (.iload 4, 2) := by decide +kernel
theorem dX2_hangs_20 : decode cX2_hangs 20 = .ok (.iaload, 1) := by decide +kernel
theorem dX2_hangs_21 : decode cX2_hangs 21 = .ok (.istore 5, 2) := by decide +kernel
theorem dX2_hangs_23 : decode cX2_hangs 23 = .ok (.iload 5, 2) := by decide +kernel
theorem dX2_hangs_25 : decode cX2_hangs 25 = .ok (.iload_n 1, 1) := by decide +kernel
theorem dX2_hangs_26 : decode cX2_hangs 26 = .ok (.if_icmp .ne 5, 3) := by decide +kernel
theorem dX2_hangs_29 : decode cX2_hangs 29 = .ok (.iconst 1, 1) := by decide +kernel
theorem dX2_hangs_30 : decode cX2_hangs 30 = .ok (.ireturn, 1) := by decide +kernel
theorem dX2_hangs_31 : decode cX2_hangs 31 = .ok (.iinc 4 1, 3) := by decide +kernel
theorem dX2_hangs_34 : decode cX2_hangs 34 = .ok (.goto (-23), 3) := by decide +kernel
theorem dX2_hangs_37 : decode cX2_hangs 37 = .ok (.iconst 0, 1) := by decide +kernel
theorem dX2_hangs_38 : decode cX2_hangs 38 = .ok (.ireturn, 1) := by decide +kernel
set_option maxRecDepth 20000 in
theorem ggX2_place_X2_hangs : GoodIn wsX2_place wsX2_hangs := goodIn_r _ [6, 7, 21, 22, 23, 24] (by decide +kernel) (by decide +kernel)
set_option maxRecDepth 20000 in
theorem gX2_place_X2_hangs : GoodIn wsX2_place (wsV RX2 37 RX2 yX2_hangs wsX2_hangs) := goodIn_app (goodIn_of _ (by decide +kernel)) ggX2_place_X2_hangs
set_option maxRecDepth 20000 in
theorem ggX2_place_X2_looks : GoodIn wsX2_place wsX2_looks := goodIn_r _ [11, 7, 12, 13, 14, 5, 15, 16, 17, 18, 19, 20, 1, 21, 22, 23, 24] (by decide +kernel) (by decide +kernel)
set_option maxRecDepth 20000 in
theorem gX2_place_X2_looks : GoodIn wsX2_place (wsV RX2 33 RX2 yX2_looks wsX2_looks) := goodIn_app (goodIn_of _ (by decide +kernel)) ggX2_place_X2_looks
set_option maxRecDepth 20000 in
theorem ggX2_place_X2_at : GoodIn wsX2_place wsX2_at := goodIn_r _ [15, 7, 16, 21, 22, 23, 24] (by decide +kernel) (by decide +kernel)
set_option maxRecDepth 20000 in
theorem gX2_place_X2_at : GoodIn wsX2_place (wsV RX2 25 RX2 yX2_at wsX2_at) := goodIn_app (goodIn_of _ (by decide +kernel)) ggX2_place_X2_at
set_option maxRecDepth 20000 in
theorem ggX2_place_X2_isFree : GoodIn wsX2_place wsX2_isFree := goodIn_r _ [20, 7, 1, 21, 22, 23, 24] (by decide +kernel) (by decide +kernel)
set_option maxRecDepth 20000 in
theorem gX2_place_X2_isFree : GoodIn wsX2_place (wsV RX2 29 RX2 yX2_isFree wsX2_isFree) := goodIn_app (goodIn_of _ (by decide +kernel)) ggX2_place_X2_isFree
theorem dX2_place_0 : decode cX2_place 0 = .ok (.aload_n 0, 1) := by decide +kernel
theorem dX2_place_1 : decode cX2_place 1 = .ok (.iload_n 1, 1) := by decide +kernel
theorem dX2_place_2 : decode cX2_place 2 = .ok (.invokevirtual 37, 3) := by decide +kernel
theorem dX2_place_5 : decode cX2_place 5 = .ok (.ifCond .eq 5, 3) := by decide +kernel
theorem dX2_place_8 : decode cX2_place 8 = .ok (.iconst (-1), 1) := by decide +kernel
theorem dX2_place_9 : decode cX2_place 9 = .ok (.ireturn, 1) := by decide +kernel
theorem dX2_place_10 : decode cX2_place 10 = .ok (.aload_n 0, 1) := by decide +kernel
theorem dX2_place_11 : decode cX2_place 11 = .ok (.iload_n 1, 1) := by decide +kernel
theorem dX2_place_12 : decode cX2_place 12 = .ok (.invokevirtual 33, 3) := by decide +kernel
theorem dX2_place_15 : decode cX2_place 15 = .ok (.istore_n 2, 1) := by decide +kernel
theorem dX2_place_16 : decode cX2_place 16 = .ok (.iconst 0, 1) := by decide +kernel
theorem dX2_place_17 : decode cX2_place 17 = .ok (.istore_n 3, 1) := by decide +kernel
theorem dX2_place_18 : decode cX2_place 18 = .ok (.iload_n 3, 1) := by decide +kernel
theorem dX2_place_19 : decode cX2_place 19 = .ok (.iload_n 2, 1) := by decide +kernel
theorem dX2_place_20 : decode cX2_place 20 = .ok (.if_icmp .ge 30, 3) := by decide +kernel
theorem dX2_place_23 : decode cX2_place 23 = .ok (.aload_n 0, 1) := by decide +kernel
theorem dX2_place_24 : decode cX2_place 24 = .ok (.getfield 16, 3) := by decide +kernel
theorem dX2_place_27 : decode cX2_place 27 = .ok (.aload_n 0, 1) := by decide +kernel
theorem dX2_place_28 : decode cX2_place 28 = .ok (.iload_n 1, 1) := by decide +kernel
theorem dX2_place_29 : decode cX2_place 29 = .ok (.iload_n 3, 1) := by decide +kernel
theorem dX2_place_30 : decode cX2_place 30 = .ok (.invokevirtual 25, 3) := by decide +kernel
theorem dX2_place_33 : decode cX2_place 33 = .ok (.baload, 1) := by decide +kernel
theorem dX2_place_34 : decode cX2_place 34 = .ok (.ifCond .eq 10, 3) := by decide +kernel
theorem dX2_place_37 : decode cX2_place 37 = .ok (.aload_n 0, 1) := by decide +kernel
theorem dX2_place_38 : decode cX2_place 38 = .ok (.iload_n 1, 1) := by decide +kernel
theorem dX2_place_39 : decode cX2_place 39 = .ok (.iload_n 3, 1) := by decide +kernel
theorem dX2_place_40 : decode cX2_place 40 = .ok (.invokevirtual 25, 3) := by decide +kernel
theorem dX2_place_43 : decode cX2_place 43 = .ok (.ireturn, 1) := by decide +kernel
theorem dX2_place_44 : decode cX2_place 44 = .ok (.iinc 3 1, 3) := by decide +kernel
theorem dX2_place_47 : decode cX2_place 47 = .ok (.goto (-29), 3) := by decide +kernel
theorem dX2_place_50 : decode cX2_place 50 = .ok (.aload_n 0, 1) := by decide +kernel
theorem dX2_place_51 : decode cX2_place 51 = .ok (.aload_n 0, 1) := by decide +kernel
theorem dX2_place_52 : decode cX2_place 52 = .ok (.iload_n 1, 1) := by decide +kernel
theorem dX2_place_53 : decode cX2_place 53 = .ok (.iload_n 2, 1) := by decide +kernel
theorem dX2_place_54 : decode cX2_place 54 = .ok (.iconst 1, 1) := by decide +kernel
theorem dX2_place_55 : decode cX2_place 55 = .ok (.isub, 1) := by decide +kernel
theorem dX2_place_56 : decode cX2_place 56 = .ok (.invokevirtual 25, 3) := by decide +kernel
theorem dX2_place_59 : decode cX2_place 59 = .ok (.invokevirtual 29, 3) := by decide +kernel
theorem dX2_place_62 : decode cX2_place 62 = .ok (.ifCond .eq 14, 3) := by decide +kernel
theorem dX2_place_65 : decode cX2_place 65 = .ok (.aload_n 0, 1) := by decide +kernel
theorem dX2_place_66 : decode cX2_place 66 = .ok (.iload_n 1, 1) := by decide +kernel
theorem dX2_place_67 : decode cX2_place 67 = .ok (.iload_n 2, 1) := by decide +kernel
theorem dX2_place_68 : decode cX2_place 68 = .ok (.iconst 1, 1) := by decide +kernel
theorem dX2_place_69 : decode cX2_place 69 = .ok (.isub, 1) := by decide +kernel
theorem dX2_place_70 : decode cX2_place 70 = .ok (.invokevirtual 25, 3) := by decide +kernel
theorem dX2_place_73 : decode cX2_place 73 = .ok (.goto 4, 3) := by decide +kernel
theorem dX2_place_76 : decode cX2_place 76 = .ok (.iconst (-1), 1) := by decide +kernel
theorem dX2_place_77 : decode cX2_place 77 = .ok (.ireturn, 1) := by decide +kernel
theorem dX2_hang_0 : decode cX2_hang 0 = .ok (.aload_n 0, 1) := by decide +kernel
theorem dX2_hang_1 : decode cX2_hang 1 = .ok (.getfield 7, 3) := by decide +kernel
theorem dX2_hang_4 : decode cX2_hang 4 = .ok (.iload_n 1, 1) := by decide +kernel
theorem dX2_hang_5 : decode cX2_hang 5 = .ok (.iload_n 2, 1) := by decide +kernel
theorem dX2_hang_6 : decode cX2_hang 6 = .ok (.iastore, 1) := by decide +kernel
theorem dX2_hang_7 : decode cX2_hang 7 = .ok (.aload_n 0, 1) := by decide +kernel
theorem dX2_hang_8 : decode cX2_hang 8 = .ok (.getfield 13, 3) := by decide +kernel
theorem dX2_hang_11 : decode cX2_hang 11 = .ok (.iload_n 1, 1) := by decide +kernel
theorem dX2_hang_12 : decode cX2_hang 12 = .ok (.iload_n 3, 1) := by decide +kernel
theorem dX2_hang_13 : decode cX2_hang 13 = .ok (.iastore, 1) := by decide +kernel
theorem dX2_hang_14 : decode cX2_hang 14 = .ok (.aload_n 0, 1) := by decide +kernel
theorem dX2_hang_15 : decode cX2_hang 15 = .ok (.getfield 16, 3) := by decide +kernel
theorem dX2_hang_18 : decode cX2_hang 18 = .ok (.iload_n 1, 1) := by decide +kernel
theorem dX2_hang_19 : decode cX2_hang 19 = .ok (.iconst 0, 1) := by decide +kernel
theorem dX2_hang_20 : decode cX2_hang 20 = .ok (.bastore, 1) := by decide +kernel
theorem dX2_hang_21 : decode cX2_hang 21 = .ok (.return_, 1) := by decide +kernel
set_option maxRecDepth 20000 in
theorem ggX2_anew_X2_bare : GoodIn wsX2_anew wsX2_bare := goodIn_r _ [7, 8, 9, 6, 10, 11, 1, 2, 12, 13, 14, 15, 16, 17, 18, 19, 44, 45, 46, 47] (by decide +kernel) (by decide +kernel)
set_option maxRecDepth 20000 in
theorem gX2_anew_X2_bare : GoodIn wsX2_anew (wsV RX2 40 RX2 yX2_bare wsX2_bare) := goodIn_app (goodIn_of _ (by decide +kernel)) ggX2_anew_X2_bare
set_option maxRecDepth 20000 in
theorem ggX2_anew_X2_place : GoodIn wsX2_anew wsX2_place := goodIn_r _ [23, 13, 24, 25, 26, 6, 27, 1, 28, 29, 30, 31, 32, 33, 34, 35, 10, 36, 37, 38, 39, 44, 45, 46, 47] (by decide +kernel) (by decide +kernel)
set_option maxRecDepth 20000 in
theorem gX2_anew_X2_place : GoodIn wsX2_anew (wsV RX2 44 RX2 yX2_place wsX2_place) := goodIn_app (goodIn_of _ (by decide +kernel)) ggX2_anew_X2_place
set_option maxRecDepth 20000 in
theorem ggX2_anew_X2_hang : GoodIn wsX2_anew wsX2_hang := goodIn_r _ [43, 1, 2, 13, 44, 45, 46, 47] (by decide +kernel) (by decide +kernel)
set_option maxRecDepth 20000 in
theorem gX2_anew_X2_hang : GoodIn wsX2_anew (wsV RX2 47 RX2 yX2_hang wsX2_hang) := goodIn_app (goodIn_of _ (by decide +kernel)) ggX2_anew_X2_hang
theorem dX2_anew_0 : decode cX2_anew 0 = .ok (.aload_n 0, 1) := by decide +kernel
theorem dX2_anew_1 : decode cX2_anew 1 = .ok (.iload_n 1, 1) := by decide +kernel
theorem dX2_anew_2 : decode cX2_anew 2 = .ok (.iload_n 2, 1) := by decide +kernel
theorem dX2_anew_3 : decode cX2_anew 3 = .ok (.invokevirtual 40, 3) := by decide +kernel
theorem dX2_anew_6 : decode cX2_anew 6 = .ok (.astore_n 3, 1) := by decide +kernel
theorem dX2_anew_7 : decode cX2_anew 7 = .ok (.iconst 0, 1) := by decide +kernel
theorem dX2_anew_8 : decode cX2_anew 8 = .ok (.istore 4, 2) := by decide +kernel
theorem dX2_anew_10 : decode cX2_anew 10 = .ok (.iload 4, 2) := by decide +kernel
theorem dX2_anew_12 : decode cX2_anew 12 = .ok (.aload_n 0, 1) := by decide +kernel
theorem dX2_anew_13 : decode cX2_anew 13 = .ok (.getfield 7, 3) := by decide +kernel
theorem dX2_anew_16 : decode cX2_anew 16 = .ok (.arraylength, 1) := by decide +kernel
theorem dX2_anew_17 : decode cX2_anew 17 = .ok (.if_icmp .ge 62, 3) := by decide +kernel
theorem dX2_anew_20 : decode cX2_anew 20 = .ok (.aload_n 0, 1) := by decide +kernel
theorem dX2_anew_21 : decode cX2_anew 21 = .ok (.getfield 7, 3) := by decide +kernel
theorem dX2_anew_24 : decode cX2_anew 24 = .ok (.iload 4, 2) := by decide +kernel
theorem dX2_anew_26 : decode cX2_anew 26 = .ok (.iaload, 1) := by decide +kernel
theorem dX2_anew_27 : decode cX2_anew 27 = .ok (.ifCond .ge 6, 3) := by decide +kernel
theorem dX2_anew_30 : decode cX2_anew 30 = .ok (.goto 43, 3) := by decide +kernel
theorem dX2_anew_33 : decode cX2_anew 33 = .ok (.aload_n 3, 1) := by decide +kernel
theorem dX2_anew_34 : decode cX2_anew 34 = .ok (.aload_n 0, 1) := by decide +kernel
theorem dX2_anew_35 : decode cX2_anew 35 = .ok (.getfield 7, 3) := by decide +kernel
theorem dX2_anew_38 : decode cX2_anew 38 = .ok (.iload 4, 2) := by decide +kernel
theorem dX2_anew_40 : decode cX2_anew 40 = .ok (.iaload, 1) := by decide +kernel
theorem dX2_anew_41 : decode cX2_anew 41 = .ok (.invokevirtual 44, 3) := by decide +kernel
theorem dX2_anew_44 : decode cX2_anew 44 = .ok (.istore 5, 2) := by decide +kernel
theorem dX2_anew_46 : decode cX2_anew 46 = .ok (.iload 5, 2) := by decide +kernel
theorem dX2_anew_48 : decode cX2_anew 48 = .ok (.ifCond .ge 5, 3) := by decide +kernel
theorem dX2_anew_51 : decode cX2_anew 51 = .ok (.aconst_null, 1) := by decide +kernel
theorem dX2_anew_52 : decode cX2_anew 52 = .ok (.areturn, 1) := by decide +kernel
theorem dX2_anew_53 : decode cX2_anew 53 = .ok (.aload_n 3, 1) := by decide +kernel
theorem dX2_anew_54 : decode cX2_anew 54 = .ok (.iload 5, 2) := by decide +kernel
theorem dX2_anew_56 : decode cX2_anew 56 = .ok (.aload_n 0, 1) := by decide +kernel
theorem dX2_anew_57 : decode cX2_anew 57 = .ok (.getfield 7, 3) := by decide +kernel
theorem dX2_anew_60 : decode cX2_anew 60 = .ok (.iload 4, 2) := by decide +kernel
theorem dX2_anew_62 : decode cX2_anew 62 = .ok (.iaload, 1) := by decide +kernel
theorem dX2_anew_63 : decode cX2_anew 63 = .ok (.aload_n 0, 1) := by decide +kernel
theorem dX2_anew_64 : decode cX2_anew 64 = .ok (.getfield 13, 3) := by decide +kernel
theorem dX2_anew_67 : decode cX2_anew 67 = .ok (.iload 4, 2) := by decide +kernel
theorem dX2_anew_69 : decode cX2_anew 69 = .ok (.iaload, 1) := by decide +kernel
theorem dX2_anew_70 : decode cX2_anew 70 = .ok (.invokevirtual 47, 3) := by decide +kernel
theorem dX2_anew_73 : decode cX2_anew 73 = .ok (.iinc 4 1, 3) := by decide +kernel
theorem dX2_anew_76 : decode cX2_anew 76 = .ok (.goto (-66), 3) := by decide +kernel
theorem dX2_anew_79 : decode cX2_anew 79 = .ok (.aload_n 3, 1) := by decide +kernel
theorem dX2_anew_80 : decode cX2_anew 80 = .ok (.areturn, 1) := by decide +kernel
set_option maxRecDepth 20000 in
theorem ggX2_allLooks_X2_looks : GoodIn wsX2_allLooks wsX2_looks := goodIn_r _ [6, 1, 7, 8, 9, 5, 10, 11, 12, 13, 14, 15, 16, 17, 18, 19, 20] (by decide +kernel) (by decide +kernel)
set_option maxRecDepth 20000 in
theorem gX2_allLooks_X2_looks : GoodIn wsX2_allLooks (wsV RX2 33 RX2 yX2_looks wsX2_looks) := goodIn_app (goodIn_of _ (by decide +kernel)) ggX2_allLooks_X2_looks
theorem dX2_allLooks_0 : decode cX2_allLooks 0 = .ok (.iconst 0, 1) := by decide +kernel
theorem dX2_allLooks_1 : decode cX2_allLooks 1 = .ok (.istore_n 1, 1) := by decide +kernel
theorem dX2_allLooks_2 : decode cX2_allLooks 2 = .ok (.aload_n 0, 1) := by decide +kernel
theorem dX2_allLooks_3 : decode cX2_allLooks 3 = .ok (.getfield 7, 3) := by decide +kernel
theorem dX2_allLooks_6 : decode cX2_allLooks 6 = .ok (.astore_n 2, 1) := by decide +kernel
theorem dX2_allLooks_7 : decode cX2_allLooks 7 = .ok (.aload_n 2, 1) := by decide +kernel
theorem dX2_allLooks_8 : decode cX2_allLooks 8 = .ok (.arraylength, 1) := by decide +kernel
theorem dX2_allLooks_9 : decode cX2_allLooks 9 = .ok (.istore_n 3, 1) := by decide +kernel
theorem dX2_allLooks_10 : decode cX2_allLooks 10 = .ok (.iconst 0, 1) := by decide +kernel
theorem dX2_allLooks_11 : decode cX2_allLooks 11 = .ok (.istore 4, 2) := by decide +kernel
theorem dX2_allLooks_13 : decode cX2_allLooks 13 = .ok (.iload 4, 2) := by decide +kernel
theorem dX2_allLooks_15 : decode cX2_allLooks 15 = .ok (.iload_n 3, 1) := by decide +kernel
theorem dX2_allLooks_16 : decode cX2_allLooks 16 = .ok (.if_icmp .ge 33, 3) := by decide +kernel
theorem dX2_allLooks_19 : decode cX2_allLooks 19 = .ok (.aload_n 2, 1) := by decide +kernel
theorem dX2_allLooks_20 : decode cX2_allLooks 20 = .ok (.iload 4, 2) := by decide +kernel
theorem dX2_allLooks_22 : decode cX2_allLooks 22 = .ok (.iaload, 1) := by decide +kernel
theorem dX2_allLooks_23 : decode cX2_allLooks 23 = .ok (.istore 5, 2) := by decide +kernel
theorem dX2_allLooks_25 : decode cX2_allLooks 25 = .ok (.iload_n 1, 1) := by decide +kernel
theorem dX2_allLooks_26 : decode cX2_allLooks 26 = .ok (.iload 5, 2) := by decide +kernel
theorem dX2_allLooks_28 : decode cX2_allLooks 28 = .ok (.ifCond .ge 7, 3) := by decide +kernel
theorem dX2_allLooks_31 : decode cX2_allLooks 31 = .ok (.iconst 0, 1) := by decide +kernel
theorem dX2_allLooks_32 : decode cX2_allLooks 32 = .ok (.goto 9, 3) := by decide +kernel
theorem dX2_allLooks_35 : decode cX2_allLooks 35 = .ok (.aload_n 0, 1) := by decide +kernel
theorem dX2_allLooks_36 : decode cX2_allLooks 36 = .ok (.iload 5, 2) := by decide +kernel
theorem dX2_allLooks_38 : decode cX2_allLooks 38 = .ok (.invokevirtual 33, 3) := by decide +kernel
theorem dX2_allLooks_41 : decode cX2_allLooks 41 = .ok (.iadd, 1) := by decide +kernel
theorem dX2_allLooks_42 : decode cX2_allLooks 42 = .ok (.istore_n 1, 1) := by decide +kernel
theorem dX2_allLooks_43 : decode cX2_allLooks 43 = .ok (.iinc 4 1, 3) := by decide +kernel
theorem dX2_allLooks_46 : decode cX2_allLooks 46 = .ok (.goto (-33), 3) := by decide +kernel
theorem dX2_allLooks_49 : decode cX2_allLooks 49 = .ok (.iload_n 1, 1) := by decide +kernel
theorem dX2_allLooks_50 : decode cX2_allLooks 50 = .ok (.ireturn, 1) := by decide +kernel
set_option maxRecDepth 20000 in
theorem ggX2_looksWith_X2_anew : GoodIn wsX2_looksWith wsX2_anew := goodIn_r _ [5, 6, 7, 8, 9, 10, 4, 11, 12, 13, 14, 15, 16, 17, 18, 19, 20, 21, 22, 23, 24, 25, 26, 27, 28, 29, 30, 31, 32, 33, 34, 35, 36, 37, 38, 39, 40, 41, 42, 43, 44, 45, 46, 47, 52, 53, 54, 55] (by decide +kernel) (by decide +kernel)
set_option maxRecDepth 20000 in
theorem gX2_looksWith_X2_anew : GoodIn wsX2_looksWith (wsV RX2 51 RX2 yX2_anew wsX2_anew) := goodIn_app (goodIn_of _ (by decide +kernel)) ggX2_looksWith_X2_anew
set_option maxRecDepth 20000 in
theorem ggX2_looksWith_X2_allLooks : GoodIn wsX2_looksWith wsX2_allLooks := goodIn_r _ [51, 6, 32, 33, 34, 4, 35, 36, 37, 38, 39, 14, 40, 41, 42, 43, 17, 52, 53, 54, 55] (by decide +kernel) (by decide +kernel)
set_option maxRecDepth 20000 in
theorem gX2_looksWith_X2_allLooks : GoodIn wsX2_looksWith (wsV RX2 54 RX2 yX2_allLooks wsX2_allLooks) := goodIn_app (goodIn_of _ (by decide +kernel)) ggX2_looksWith_X2_allLooks
theorem dX2_looksWith_0 : decode cX2_looksWith 0 = .ok (.aload_n 0, 1) := by decide +kernel
theorem dX2_looksWith_1 : decode cX2_looksWith 1 = .ok (.iload_n 1, 1) := by decide +kernel
theorem dX2_looksWith_2 : decode cX2_looksWith 2 = .ok (.iload_n 2, 1) := by decide +kernel
theorem dX2_looksWith_3 : decode cX2_looksWith 3 = .ok (.invokevirtual 51, 3) := by decide +kernel
theorem dX2_looksWith_6 : decode cX2_looksWith 6 = .ok (.astore_n 3, 1) := by decide +kernel
theorem dX2_looksWith_7 : decode cX2_looksWith 7 = .ok (.aload_n 3, 1) := by decide +kernel
theorem dX2_looksWith_8 : decode cX2_looksWith 8 = .ok (.ifnonnull 7, 3) := by decide +kernel
theorem dX2_looksWith_11 : decode cX2_looksWith 11 = .ok (.iconst (-1), 1) := by decide +kernel
theorem dX2_looksWith_12 : decode cX2_looksWith 12 = .ok (.goto 7, 3) := by decide +kernel
theorem dX2_looksWith_15 : decode cX2_looksWith 15 = .ok (.aload_n 3, 1) := by decide +kernel
theorem dX2_looksWith_16 : decode cX2_looksWith 16 = .ok (.invokevirtual 54, 3) := by decide +kernel
theorem dX2_looksWith_19 : decode cX2_looksWith 19 = .ok (.ireturn, 1) := by decide +kernel
theorem dX2_tickets_0 : decode cX2_tickets 0 = .ok (.iconst 0, 1) := by decide +kernel
theorem dX2_tickets_1 : decode cX2_tickets 1 = .ok (.istore_n 1, 1) := by decide +kernel
theorem dX2_tickets_2 : decode cX2_tickets 2 = .ok (.aload_n 0, 1) := by decide +kernel
theorem dX2_tickets_3 : decode cX2_tickets 3 = .ok (.getfield 16, 3) := by decide +kernel
theorem dX2_tickets_6 : decode cX2_tickets 6 = .ok (.astore_n 2, 1) := by decide +kernel
theorem dX2_tickets_7 : decode cX2_tickets 7 = .ok (.aload_n 2, 1) := by decide +kernel
theorem dX2_tickets_8 : decode cX2_tickets 8 = .ok (.arraylength, 1) := by decide +kernel
theorem dX2_tickets_9 : decode cX2_tickets 9 = .ok (.istore_n 3, 1) := by decide +kernel
theorem dX2_tickets_10 : decode cX2_tickets 10 = .ok (.iconst 0, 1) := by decide +kernel
theorem dX2_tickets_11 : decode cX2_tickets 11 = .ok (.istore 4, 2) := by decide +kernel
theorem dX2_tickets_13 : decode cX2_tickets 13 = .ok (.iload 4, 2) := by decide +kernel
theorem dX2_tickets_15 : decode cX2_tickets 15 = .ok (.iload_n 3, 1) := by decide +kernel
theorem dX2_tickets_16 : decode cX2_tickets 16 = .ok (.if_icmp .ge 28, 3) := by decide +kernel
theorem dX2_tickets_19 : decode cX2_tickets 19 = .ok (.aload_n 2, 1) := by decide +kernel
theorem dX2_tickets_20 : decode cX2_tickets 20 = .ok (.iload 4, 2) := by decide +kernel
theorem dX2_tickets_22 : decode cX2_tickets 22 = .ok (.baload, 1) := by decide +kernel
theorem dX2_tickets_23 : decode cX2_tickets 23 = .ok (.istore 5, 2) := by decide +kernel
theorem dX2_tickets_25 : decode cX2_tickets 25 = .ok (.iload_n 1, 1) := by decide +kernel
theorem dX2_tickets_26 : decode cX2_tickets 26 = .ok (.iload 5, 2) := by decide +kernel
theorem dX2_tickets_28 : decode cX2_tickets 28 = .ok (.ifCond .eq 7, 3) := by decide +kernel
theorem dX2_tickets_31 : decode cX2_tickets 31 = .ok (.iconst 1, 1) := by decide +kernel
theorem dX2_tickets_32 : decode cX2_tickets 32 = .ok (.goto 4, 3) := by decide +kernel
theorem dX2_tickets_35 : decode cX2_tickets 35 = .ok (.iconst 0, 1) := by decide +kernel
theorem dX2_tickets_36 : decode cX2_tickets 36 = .ok (.iadd, 1) := by decide +kernel
theorem dX2_tickets_37 : decode cX2_tickets 37 = .ok (.istore_n 1, 1) := by decide +kernel
theorem dX2_tickets_38 : decode cX2_tickets 38 = .ok (.iinc 4 1, 3) := by decide +kernel
theorem dX2_tickets_41 : decode cX2_tickets 41 = .ok (.goto (-28), 3) := by decide +kernel
theorem dX2_tickets_44 : decode cX2_tickets 44 = .ok (.iload_n 1, 1) := by decide +kernel
theorem dX2_tickets_45 : decode cX2_tickets 45 = .ok (.ireturn, 1) := by decide +kernel
set_option maxRecDepth 20000 in
theorem ggX2_sweep_X2_tickets : GoodIn wsX2_sweep wsX2_tickets := goodIn_r _ [8, 3, 13, 14, 15, 16] (by decide +kernel) (by decide +kernel)
set_option maxRecDepth 20000 in
theorem gX2_sweep_X2_tickets : GoodIn wsX2_sweep (wsV RX2 58 RX2 yX2_tickets wsX2_tickets) := goodIn_app (goodIn_of _ (by decide +kernel)) ggX2_sweep_X2_tickets
set_option maxRecDepth 20000 in
theorem ggX2_sweep_X2_isFree : GoodIn wsX2_sweep wsX2_isFree := goodIn_r _ [12, 1, 3, 13, 14, 15, 16] (by decide +kernel) (by decide +kernel)
set_option maxRecDepth 20000 in
theorem gX2_sweep_X2_isFree : GoodIn wsX2_sweep (wsV RX2 29 RX2 yX2_isFree wsX2_isFree) := goodIn_app (goodIn_of _ (by decide +kernel)) ggX2_sweep_X2_isFree
theorem dX2_sweep_0 : decode cX2_sweep 0 = .ok (.aload_n 0, 1) := by decide +kernel
theorem dX2_sweep_1 : decode cX2_sweep 1 = .ok (.invokevirtual 58, 3) := by decide +kernel
theorem dX2_sweep_4 : decode cX2_sweep 4 = .ok (.istore_n 1, 1) := by decide +kernel
theorem dX2_sweep_5 : decode cX2_sweep 5 = .ok (.iload_n 1, 1) := by decide +kernel
theorem dX2_sweep_6 : decode cX2_sweep 6 = .ok (.aload_n 0, 1) := by decide +kernel
theorem dX2_sweep_7 : decode cX2_sweep 7 = .ok (.getfield 7, 3) := by decide +kernel
theorem dX2_sweep_10 : decode cX2_sweep 10 = .ok (.arraylength, 1) := by decide +kernel
theorem dX2_sweep_11 : decode cX2_sweep 11 = .ok (.if_icmp .ne 10, 3) := by decide +kernel
theorem dX2_sweep_14 : decode cX2_sweep 14 = .ok (.aload_n 0, 1) := by decide +kernel
theorem dX2_sweep_15 : decode cX2_sweep 15 = .ok (.iload_n 1, 1) := by decide +kernel
theorem dX2_sweep_16 : decode cX2_sweep 16 = .ok (.newarray .boolean, 2) := by decide +kernel
theorem dX2_sweep_18 : decode cX2_sweep 18 = .ok (.putfield 16, 3) := by decide +kernel
theorem dX2_sweep_21 : decode cX2_sweep 21 = .ok (.iconst 1, 1) := by decide +kernel
theorem dX2_sweep_22 : decode cX2_sweep 22 = .ok (.istore_n 2, 1) := by decide +kernel
theorem dX2_sweep_23 : decode cX2_sweep 23 = .ok (.iload_n 2, 1) := by decide +kernel
theorem dX2_sweep_24 : decode cX2_sweep 24 = .ok (.ifCond .eq 62, 3) := by decide +kernel
theorem dX2_sweep_27 : decode cX2_sweep 27 = .ok (.iconst 0, 1) := by decide +kernel
theorem dX2_sweep_28 : decode cX2_sweep 28 = .ok (.istore_n 2, 1) := by decide +kernel
theorem dX2_sweep_29 : decode cX2_sweep 29 = .ok (.iconst 0, 1) := by decide +kernel
theorem dX2_sweep_30 : decode cX2_sweep 30 = .ok (.istore_n 3, 1) := by decide +kernel
theorem dX2_sweep_31 : decode cX2_sweep 31 = .ok (.iload_n 3, 1) := by decide +kernel
theorem dX2_sweep_32 : decode cX2_sweep 32 = .ok (.aload_n 0, 1) := by decide +kernel
theorem dX2_sweep_33 : decode cX2_sweep 33 = .ok (.getfield 7, 3) := by decide +kernel
theorem dX2_sweep_36 : decode cX2_sweep 36 = .ok (.arraylength, 1) := by decide +kernel
theorem dX2_sweep_37 : decode cX2_sweep 37 = .ok (.if_icmp .ge 46, 3) := by decide +kernel
theorem dX2_sweep_40 : decode cX2_sweep 40 = .ok (.aload_n 0, 1) := by decide +kernel
theorem dX2_sweep_41 : decode cX2_sweep 41 = .ok (.getfield 16, 3) := by decide +kernel
theorem dX2_sweep_44 : decode cX2_sweep 44 = .ok (.iload_n 3, 1) := by decide +kernel
theorem dX2_sweep_45 : decode cX2_sweep 45 = .ok (.baload, 1) := by decide +kernel
theorem dX2_sweep_46 : decode cX2_sweep 46 = .ok (.ifCond .eq 31, 3) := by decide +kernel
theorem dX2_sweep_49 : decode cX2_sweep 49 = .ok (.aload_n 0, 1) := by decide +kernel
theorem dX2_sweep_50 : decode cX2_sweep 50 = .ok (.iload_n 3, 1) := by decide +kernel
theorem dX2_sweep_51 : decode cX2_sweep 51 = .ok (.iconst 1, 1) := by decide +kernel
theorem dX2_sweep_52 : decode cX2_sweep 52 = .ok (.iadd, 1) := by decide +kernel
theorem dX2_sweep_53 : decode cX2_sweep 53 = .ok (.aload_n 0, 1) := by decide +kernel
theorem dX2_sweep_54 : decode cX2_sweep 54 = .ok (.getfield 7, 3) := by decide +kernel
theorem dX2_sweep_57 : decode cX2_sweep 57 = .ok (.arraylength, 1) := by decide +kernel
theorem dX2_sweep_58 : decode cX2_sweep 58 = .ok (.irem, 1) := by decide +kernel
theorem dX2_sweep_59 : decode cX2_sweep 59 = .ok (.invokevirtual 29, 3) := by decide +kernel
theorem dX2_sweep_62 : decode cX2_sweep 62 = .ok (.ifCond .ne 6, 3) := by decide +kernel
theorem dX2_sweep_65 : decode cX2_sweep 65 = .ok (.goto 12, 3) := by decide +kernel
theorem dX2_sweep_68 : decode cX2_sweep 68 = .ok (.aload_n 0, 1) := by decide +kernel
theorem dX2_sweep_69 : decode cX2_sweep 69 = .ok (.getfield 16, 3) := by decide +kernel
theorem dX2_sweep_72 : decode cX2_sweep 72 = .ok (.iload_n 3, 1) := by decide +kernel
theorem dX2_sweep_73 : decode cX2_sweep 73 = .ok (.iconst 0, 1) := by decide +kernel
theorem dX2_sweep_74 : decode cX2_sweep 74 = .ok (.bastore, 1) := by decide +kernel
theorem dX2_sweep_75 : decode cX2_sweep 75 = .ok (.iconst 1, 1) := by decide +kernel
theorem dX2_sweep_76 : decode cX2_sweep 76 = .ok (.istore_n 2, 1) := by decide +kernel
theorem dX2_sweep_77 : decode cX2_sweep 77 = .ok (.iinc 3 1, 3) := by decide +kernel
theorem dX2_sweep_80 : decode cX2_sweep 80 = .ok (.goto (-49), 3) := by decide +kernel
theorem dX2_sweep_83 : decode cX2_sweep 83 = .ok (.goto (-60), 3) := by decide +kernel
theorem dX2_sweep_86 : decode cX2_sweep 86 = .ok (.iload_n 1, 1) := by decide +kernel
theorem dX2_sweep_87 : decode cX2_sweep 87 = .ok (.aload_n 0, 1) := by decide +kernel
theorem dX2_sweep_88 : decode cX2_sweep 88 = .ok (.invokevirtual 58, 3) := by decide +kernel
theorem dX2_sweep_91 : decode cX2_sweep 91 = .ok (.isub, 1) := by decide +kernel
theorem dX2_sweep_92 : decode cX2_sweep 92 = .ok (.ireturn, 1) := by decide +kernel
set_option maxRecDepth 20000 in
theorem ggX2_row_X2_isFree : GoodIn wsX2_row wsX2_isFree := goodIn_r _ [6, 1, 7, 8, 9, 10, 11] (by decide +kernel) (by decide +kernel)
set_option maxRecDepth 20000 in
theorem gX2_row_X2_isFree : GoodIn wsX2_row (wsV RX2 29 RX2 yX2_isFree wsX2_isFree) := goodIn_app (goodIn_of _ (by decide +kernel)) ggX2_row_X2_isFree
theorem dX2_row_0 : decode cX2_row 0 = .ok (.aload_n 0, 1) := by decide +kernel
theorem dX2_row_1 : decode cX2_row 1 = .ok (.iload_n 1, 1) := by decide +kernel
theorem dX2_row_2 : decode cX2_row 2 = .ok (.invokevirtual 29, 3) := by decide +kernel
theorem dX2_row_5 : decode cX2_row 5 = .ok (.ifCond .eq 5, 3) := by decide +kernel
theorem dX2_row_8 : decode cX2_row 8 = .ok (.iconst 0, 1) := by decide +kernel
theorem dX2_row_9 : decode cX2_row 9 = .ok (.ireturn, 1) := by decide +kernel
theorem dX2_row_10 : decode cX2_row 10 = .ok (.iload_n 1, 1) := by decide +kernel
theorem dX2_row_11 : decode cX2_row 11 = .ok (.istore_n 2, 1) := by decide +kernel
theorem dX2_row_12 : decode cX2_row 12 = .ok (.iconst 0, 1) := by decide +kernel
theorem dX2_row_13 : decode cX2_row 13 = .ok (.istore_n 3, 1) := by decide +kernel
theorem dX2_row_14 : decode cX2_row 14 = .ok (.iload_n 3, 1) := by decide +kernel
theorem dX2_row_15 : decode cX2_row 15 = .ok (.aload_n 0, 1) := by decide +kernel
theorem dX2_row_16 : decode cX2_row 16 = .ok (.getfield 7, 3) := by decide +kernel
theorem dX2_row_19 : decode cX2_row 19 = .ok (.arraylength, 1) := by decide +kernel
theorem dX2_row_20 : decode cX2_row 20 = .ok (.if_icmp .ge 47, 3) := by decide +kernel
theorem dX2_row_23 : decode cX2_row 23 = .ok (.aload_n 0, 1) := by decide +kernel
theorem dX2_row_24 : decode cX2_row 24 = .ok (.iload_n 2, 1) := by decide +kernel
theorem dX2_row_25 : decode cX2_row 25 = .ok (.aload_n 0, 1) := by decide +kernel
theorem dX2_row_26 : decode cX2_row 26 = .ok (.getfield 7, 3) := by decide +kernel
theorem dX2_row_29 : decode cX2_row 29 = .ok (.arraylength, 1) := by decide +kernel
theorem dX2_row_30 : decode cX2_row 30 = .ok (.iadd, 1) := by decide +kernel
theorem dX2_row_31 : decode cX2_row 31 = .ok (.iconst 1, 1) := by decide +kernel
theorem dX2_row_32 : decode cX2_row 32 = .ok (.isub, 1) := by decide +kernel
theorem dX2_row_33 : decode cX2_row 33 = .ok (.aload_n 0, 1) := by decide +kernel
theorem dX2_row_34 : decode cX2_row 34 = .ok (.getfield 7, 3) := by decide +kernel
theorem dX2_row_37 : decode cX2_row 37 = .ok (.arraylength, 1) := by decide +kernel
theorem dX2_row_38 : decode cX2_row 38 = .ok (.irem, 1) := by decide +kernel
theorem dX2_row_39 : decode cX2_row 39 = .ok (.invokevirtual 29, 3) := by decide +kernel
theorem dX2_row_42 : decode cX2_row 42 = .ok (.ifCond .ne 25, 3) := by decide +kernel
theorem dX2_row_45 : decode cX2_row 45 = .ok (.iload_n 2, 1) := by decide +kernel
theorem dX2_row_46 : decode cX2_row 46 = .ok (.aload_n 0, 1) := by decide +kernel
theorem dX2_row_47 : decode cX2_row 47 = .ok (.getfield 7, 3) := by decide +kernel
theorem dX2_row_50 : decode cX2_row 50 = .ok (.arraylength, 1) := by decide +kernel
theorem dX2_row_51 : decode cX2_row 51 = .ok (.iadd, 1) := by decide +kernel
theorem dX2_row_52 : decode cX2_row 52 = .ok (.iconst 1, 1) := by decide +kernel
theorem dX2_row_53 : decode cX2_row 53 = .ok (.isub, 1) := by decide +kernel
theorem dX2_row_54 : decode cX2_row 54 = .ok (.aload_n 0, 1) := by decide +kernel
theorem dX2_row_55 : decode cX2_row 55 = .ok (.getfield 7, 3) := by decide +kernel
theorem dX2_row_58 : decode cX2_row 58 = .ok (.arraylength, 1) := by decide +kernel
theorem dX2_row_59 : decode cX2_row 59 = .ok (.irem, 1) := by decide +kernel
theorem dX2_row_60 : decode cX2_row 60 = .ok (.istore_n 2, 1) := by decide +kernel
theorem dX2_row_61 : decode cX2_row 61 = .ok (.iinc 3 1, 3) := by decide +kernel
theorem dX2_row_64 : decode cX2_row 64 = .ok (.goto (-50), 3) := by decide +kernel
theorem dX2_row_67 : decode cX2_row 67 = .ok (.iconst 0, 1) := by decide +kernel
theorem dX2_row_68 : decode cX2_row 68 = .ok (.istore_n 3, 1) := by decide +kernel
theorem dX2_row_69 : decode cX2_row 69 = .ok (.iload_n 3, 1) := by decide +kernel
theorem dX2_row_70 : decode cX2_row 70 = .ok (.aload_n 0, 1) := by decide +kernel
theorem dX2_row_71 : decode cX2_row 71 = .ok (.getfield 7, 3) := by decide +kernel
theorem dX2_row_74 : decode cX2_row 74 = .ok (.arraylength, 1) := by decide +kernel
theorem dX2_row_75 : decode cX2_row 75 = .ok (.if_icmp .ge 25, 3) := by decide +kernel
theorem dX2_row_78 : decode cX2_row 78 = .ok (.aload_n 0, 1) := by decide +kernel
theorem dX2_row_79 : decode cX2_row 79 = .ok (.iload_n 2, 1) := by decide +kernel
theorem dX2_row_80 : decode cX2_row 80 = .ok (.iload_n 3, 1) := by decide +kernel
theorem dX2_row_81 : decode cX2_row 81 = .ok (.iadd, 1) := by decide +kernel
theorem dX2_row_82 : decode cX2_row 82 = .ok (.aload_n 0, 1) := by decide +kernel
theorem dX2_row_83 : decode cX2_row 83 = .ok (.getfield 7, 3) := by decide +kernel
theorem dX2_row_86 : decode cX2_row 86 = .ok (.arraylength, 1) := by decide +kernel
theorem dX2_row_87 : decode cX2_row 87 = .ok (.irem, 1) := by decide +kernel
theorem dX2_row_88 : decode cX2_row 88 = .ok (.invokevirtual 29, 3) := by decide +kernel
theorem dX2_row_91 : decode cX2_row 91 = .ok (.ifCond .ne 9, 3) := by decide +kernel
theorem dX2_row_94 : decode cX2_row 94 = .ok (.iinc 3 1, 3) := by decide +kernel
theorem dX2_row_97 : decode cX2_row 97 = .ok (.goto (-28), 3) := by decide +kernel
theorem dX2_row_100 : decode cX2_row 100 = .ok (.iload_n 3, 1) := by decide +kernel
theorem dX2_row_101 : decode cX2_row 101 = .ok (.ireturn, 1) := by decide +kernel
set_option maxRecDepth 20000 in
theorem ggX2_isSame_X2_row : GoodIn wsX2_isSame wsX2_row := goodIn_r _ [13, 1, 14, 15, 16, 12, 17, 6, 220, 221, 222, 223] (by decide +kernel) (by decide +kernel)
set_option maxRecDepth 20000 in
theorem gX2_isSame_X2_row : GoodIn wsX2_isSame (wsV RX2 61 RX2 yX2_row wsX2_row) := goodIn_app (goodIn_of _ (by decide +kernel)) ggX2_isSame_X2_row
set_option maxRecDepth 20000 in
theorem ggX2_isSame_X2_isFree : GoodIn wsX2_isSame wsX2_isFree := goodIn_r _ [17, 1, 6, 220, 221, 222, 223] (by decide +kernel) (by decide +kernel)
set_option maxRecDepth 20000 in
theorem gX2_isSame_X2_isFree : GoodIn wsX2_isSame (wsV RX2 29 RX2 yX2_isFree wsX2_isFree) := goodIn_app (goodIn_of _ (by decide +kernel)) ggX2_isSame_X2_isFree
set_option maxRecDepth 20000 in
theorem ggX2_isSame_X1_stateOf : GoodIn wsX2_isSame wsX1_stateOf := goodIn_ca (goodIn_r _ [22, 23, 24, 25, 26, 21, 27, 28, 29, 30, 31, 32, 33, 34, 35, 36, 37, 38, 39, 40, 41, 42, 43, 44, 224, 225, 226, 227, 228, 229] (by decide +kernel) (by decide +kernel)) (goodIn_sub (fun _ h => List.mem_cons_of_mem _ (List.mem_append_left _ (List.mem_append_right _ h))) (by decide +kernel))
set_option maxRecDepth 20000 in
theorem gX2_isSame_X1_stateOf : GoodIn wsX2_isSame (wsV RX2 69 RX1 yX1_stateOf wsX1_stateOf) := goodIn_app (goodIn_of _ (by decide +kernel)) ggX2_isSame_X1_stateOf
set_option maxRecDepth 20000 in
theorem ggX2_isSame_X1_coatAt : GoodIn wsX2_isSame wsX1_coatAt := goodIn_ca (goodIn_r _ [48, 23, 24, 25, 26, 21, 27, 28, 29, 30, 31, 32, 33, 34, 35, 49, 50, 51, 52, 40, 41, 42, 43, 44, 224, 225, 226, 227, 228, 229] (by decide +kernel) (by decide +kernel)) (goodIn_sub (fun _ h => List.mem_cons_of_mem _ (List.mem_append_left _ (List.mem_append_right _ h))) (by decide +kernel))
set_option maxRecDepth 20000 in
theorem gX2_isSame_X1_coatAt : GoodIn wsX2_isSame (wsV RX2 74 RX1 yX1_coatAt wsX1_coatAt) := goodIn_app (goodIn_of _ (by decide +kernel)) ggX2_isSame_X1_coatAt
set_option maxRecDepth 20000 in
theorem ggX2_isSame_X1_weightAt : GoodIn wsX2_isSame wsX1_weightAt := goodIn_ca (goodIn_r _ [56, 23, 24, 25, 26, 21, 27, 28, 29, 30, 31, 32, 33, 34, 35, 57, 58, 59, 60, 61, 224, 225, 226, 227, 228, 229] (by decide +kernel) (by decide +kernel)) (goodIn_sub (fun _ h => List.mem_cons_of_mem _ (List.mem_append_left _ (List.mem_append_right _ h))) (by decide +kernel))
set_option maxRecDepth 20000 in
theorem gX2_isSame_X1_weightAt : GoodIn wsX2_isSame (wsV RX2 77 RX1 yX1_weightAt wsX1_weightAt) := goodIn_app (goodIn_of _ (by decide +kernel)) ggX2_isSame_X1_weightAt
set_option maxRecDepth 20000 in
theorem ggX2_isSame_X1_rowAt : GoodIn wsX2_isSame wsX1_rowAt := goodIn_ca (goodIn_r _ [65, 23, 24, 25, 26, 21, 27, 28, 29, 30, 31, 32, 33, 34, 35, 66, 67, 68, 69, 40, 41, 42, 43, 44, 70, 71, 72, 73, 74, 75, 76, 77, 224, 225, 226, 227, 228, 229] (by decide +kernel) (by decide +kernel)) (goodIn_sub (fun _ h => List.mem_cons_of_mem _ (List.mem_append_left _ (List.mem_append_right _ h))) (by decide +kernel))
set_option maxRecDepth 20000 in
theorem gX2_isSame_X1_rowAt : GoodIn wsX2_isSame (wsV RX2 80 RX1 yX1_rowAt wsX1_rowAt) := goodIn_app (goodIn_of _ (by decide +kernel)) ggX2_isSame_X1_rowAt
set_option maxRecDepth 20000 in
theorem ggX2_isSame_X2_looks : GoodIn wsX2_isSame wsX2_looks := goodIn_r _ [81, 1, 82, 83, 84, 12, 85, 8, 14, 15, 16, 17, 6, 220, 221, 222, 223] (by decide +kernel) (by decide +kernel)
set_option maxRecDepth 20000 in
theorem gX2_isSame_X2_looks : GoodIn wsX2_isSame (wsV RX2 33 RX2 yX2_looks wsX2_looks) := goodIn_app (goodIn_of _ (by decide +kernel)) ggX2_isSame_X2_looks
set_option maxRecDepth 20000 in
theorem ggX2_isSame_X1_find : GoodIn wsX2_isSame wsX1_find := goodIn_ca (goodIn_r _ [89, 23, 90, 91, 21, 92, 93, 94, 95, 96, 97, 33, 98, 99, 100, 101, 102, 35, 103, 104, 105, 106, 107, 40, 41, 42, 43, 44, 224, 225, 226, 227, 228, 229] (by decide +kernel) (by decide +kernel)) (goodIn_sub (fun _ h => List.mem_cons_of_mem _ (List.mem_append_right _ h)) (by decide +kernel))
set_option maxRecDepth 20000 in
theorem gX2_isSame_X1_find : GoodIn wsX2_isSame (wsV RX2 83 RX1 yX1_find wsX1_find) := goodIn_app (goodIn_of _ (by decide +kernel)) ggX2_isSame_X1_find
set_option maxRecDepth 20000 in
theorem ggX2_isSame_X2_find : GoodIn wsX2_isSame wsX2_find := goodIn_r _ [111, 1, 78, 79, 80, 12, 81, 82, 83, 84, 85, 8, 14, 15, 16, 17, 6, 220, 221, 222, 223] (by decide +kernel) (by decide +kernel)
set_option maxRecDepth 20000 in
theorem gX2_isSame_X2_find : GoodIn wsX2_isSame (wsV RX2 86 RX2 yX2_find wsX2_find) := goodIn_app (goodIn_of _ (by decide +kernel)) ggX2_isSame_X2_find
set_option maxRecDepth 20000 in
theorem ggX2_isSame_X1_looksFor : GoodIn wsX2_isSame wsX1_looksFor := goodIn_ca (goodIn_r _ [115, 23, 90, 91, 21, 92, 93, 94, 116, 100, 101, 33, 102, 35, 103, 104, 105, 106, 107, 40, 41, 42, 43, 44, 224, 225, 226, 227, 228, 229] (by decide +kernel) (by decide +kernel)) (goodIn_sub (fun _ h => List.mem_cons_of_mem _ (List.mem_append_right _ h)) (by decide +kernel))
set_option maxRecDepth 20000 in
theorem gX2_isSame_X1_looksFor : GoodIn wsX2_isSame (wsV RX2 87 RX1 yX1_looksFor wsX1_looksFor) := goodIn_app (goodIn_of _ (by decide +kernel)) ggX2_isSame_X1_looksFor
set_option maxRecDepth 20000 in
theorem ggX2_isSame_X1_placeFor : GoodIn wsX2_isSame wsX1_placeFor := goodIn_ca (goodIn_r _ [120, 23, 90, 91, 21, 92, 93, 94, 121, 122, 123, 33, 124, 125, 126, 127, 128, 35, 40, 41, 42, 43, 44, 129, 130, 131, 132, 99, 100, 101, 102, 103, 104, 105, 106, 107, 224, 225, 226, 227, 228, 229] (by decide +kernel) (by decide +kernel)) (goodIn_sub (fun _ h => List.mem_cons_of_mem _ (List.mem_append_right _ h)) (by decide +kernel))
set_option maxRecDepth 20000 in
theorem gX2_isSame_X1_placeFor : GoodIn wsX2_isSame (wsV RX2 90 RX1 yX1_placeFor wsX1_placeFor) := goodIn_app (goodIn_of _ (by decide +kernel)) ggX2_isSame_X1_placeFor
set_option maxRecDepth 20000 in
theorem ggX2_isSame_X1_hooks : GoodIn wsX2_isSame wsX1_hooks := goodIn_r _ [136, 23, 30, 31, 32, 33, 34, 35, 224, 225, 226, 227, 228, 229] (by decide +kernel) (by decide +kernel)
set_option maxRecDepth 20000 in
theorem gX2_isSame_X1_hooks : GoodIn wsX2_isSame (wsV RX2 93 RX1 yX1_hooks wsX1_hooks) := goodIn_app (goodIn_of _ (by decide +kernel)) ggX2_isSame_X1_hooks
set_option maxRecDepth 20000 in
theorem ggX2_isSame_X1_way : GoodIn wsX2_isSame wsX1_way := goodIn_r _ [140, 23, 141, 142, 143, 33, 144, 107, 224, 225, 226, 227, 228, 229] (by decide +kernel) (by decide +kernel)
set_option maxRecDepth 20000 in
theorem gX2_isSame_X1_way : GoodIn wsX2_isSame (wsV RX2 96 RX1 yX1_way wsX1_way) := goodIn_app (goodIn_of _ (by decide +kernel)) ggX2_isSame_X1_way
set_option maxRecDepth 20000 in
theorem ggX2_isSame_X1_coats : GoodIn wsX2_isSame wsX1_coats := goodIn_r _ [148, 23, 149, 150, 151, 33, 152, 35, 153, 37, 38, 39, 40, 41, 42, 43, 44, 224, 225, 226, 227, 228, 229] (by decide +kernel) (by decide +kernel)
set_option maxRecDepth 20000 in
theorem gX2_isSame_X1_coats : GoodIn wsX2_isSame (wsV RX2 98 RX1 yX1_coats wsX1_coats) := goodIn_app (goodIn_of _ (by decide +kernel)) ggX2_isSame_X1_coats
set_option maxRecDepth 20000 in
theorem ggX2_isSame_X1_tickets : GoodIn wsX2_isSame wsX1_tickets := goodIn_r _ [157, 23, 149, 150, 151, 33, 152, 35, 153, 37, 38, 39, 40, 41, 42, 43, 44, 224, 225, 226, 227, 228, 229] (by decide +kernel) (by decide +kernel)
set_option maxRecDepth 20000 in
theorem gX2_isSame_X1_tickets : GoodIn wsX2_isSame (wsV RX2 101 RX1 yX1_tickets wsX1_tickets) := goodIn_app (goodIn_of _ (by decide +kernel)) ggX2_isSame_X1_tickets
set_option maxRecDepth 20000 in
theorem ggX2_isSame_X2_tickets : GoodIn wsX2_isSame wsX2_tickets := goodIn_r _ [161, 6, 220, 221, 222, 223] (by decide +kernel) (by decide +kernel)
set_option maxRecDepth 20000 in
theorem gX2_isSame_X2_tickets : GoodIn wsX2_isSame (wsV RX2 58 RX2 yX2_tickets wsX2_tickets) := goodIn_app (goodIn_of _ (by decide +kernel)) ggX2_isSame_X2_tickets
set_option maxRecDepth 20000 in
theorem ggX2_isSame_X1_weight : GoodIn wsX2_isSame wsX1_weight := goodIn_r _ [165, 23, 166, 167, 168, 33, 169, 35, 170, 58, 59, 60, 61, 224, 225, 226, 227, 228, 229] (by decide +kernel) (by decide +kernel)
set_option maxRecDepth 20000 in
theorem gX2_isSame_X1_weight : GoodIn wsX2_isSame (wsV RX2 102 RX1 yX1_weight wsX1_weight) := goodIn_app (goodIn_of _ (by decide +kernel)) ggX2_isSame_X1_weight
set_option maxRecDepth 20000 in
theorem ggX2_isSame_X1_heaviestAt : GoodIn wsX2_isSame wsX1_heaviestAt := goodIn_r _ [174, 23, 175, 176, 177, 33, 178, 35, 170, 58, 59, 60, 61, 224, 225, 226, 227, 228, 229] (by decide +kernel) (by decide +kernel)
set_option maxRecDepth 20000 in
theorem gX2_isSame_X1_heaviestAt : GoodIn wsX2_isSame (wsV RX2 104 RX1 yX1_heaviestAt wsX1_heaviestAt) := goodIn_app (goodIn_of _ (by decide +kernel)) ggX2_isSame_X1_heaviestAt
set_option maxRecDepth 20000 in
theorem ggX2_isSame_X1_allLooks : GoodIn wsX2_isSame wsX1_allLooks := goodIn_r _ [182, 23, 183, 184, 185, 33, 186, 35, 40, 41, 42, 43, 44, 99, 100, 101, 102, 103, 104, 105, 106, 107, 224, 225, 226, 227, 228, 229] (by decide +kernel) (by decide +kernel)
set_option maxRecDepth 20000 in
theorem gX2_isSame_X1_allLooks : GoodIn wsX2_isSame (wsV RX2 107 RX1 yX1_allLooks wsX1_allLooks) := goodIn_app (goodIn_of _ (by decide +kernel)) ggX2_isSame_X1_allLooks
set_option maxRecDepth 20000 in
theorem ggX2_isSame_X2_allLooks : GoodIn wsX2_isSame wsX2_allLooks := goodIn_r _ [190, 1, 78, 79, 80, 12, 81, 82, 83, 84, 85, 8, 14, 15, 16, 17, 6, 220, 221, 222, 223] (by decide +kernel) (by decide +kernel)
set_option maxRecDepth 20000 in
theorem gX2_isSame_X2_allLooks : GoodIn wsX2_isSame (wsV RX2 54 RX2 yX2_allLooks wsX2_allLooks) := goodIn_app (goodIn_of _ (by decide +kernel)) ggX2_isSame_X2_allLooks
set_option maxRecDepth 20000 in
theorem ggX2_isSame_X1_farthest : GoodIn wsX2_isSame wsX1_farthest := goodIn_r _ [194, 23, 195, 196, 197, 33, 198, 35, 40, 41, 42, 43, 44, 99, 100, 101, 102, 103, 104, 105, 106, 107, 224, 225, 226, 227, 228, 229] (by decide +kernel) (by decide +kernel)
set_option maxRecDepth 20000 in
theorem gX2_isSame_X1_farthest : GoodIn wsX2_isSame (wsV RX2 108 RX1 yX1_farthest wsX1_farthest) := goodIn_app (goodIn_of _ (by decide +kernel)) ggX2_isSame_X1_farthest
set_option maxRecDepth 20000 in
theorem ggX2_isSame_X1_rows : GoodIn wsX2_isSame wsX1_rows := goodIn_r _ [202, 23, 203, 204, 205, 33, 206, 35, 40, 41, 42, 43, 44, 70, 71, 72, 73, 224, 225, 226, 227, 228, 229] (by decide +kernel) (by decide +kernel)
set_option maxRecDepth 20000 in
theorem gX2_isSame_X1_rows : GoodIn wsX2_isSame (wsV RX2 111 RX1 yX1_rows wsX1_rows) := goodIn_app (goodIn_of _ (by decide +kernel)) ggX2_isSame_X1_rows
set_option maxRecDepth 20000 in
theorem ggX2_isSame_X1_longestRow : GoodIn wsX2_isSame wsX1_longestRow := goodIn_r _ [210, 23, 211, 212, 213, 33, 214, 35, 215, 67, 68, 69, 40, 41, 42, 43, 44, 70, 71, 72, 73, 74, 75, 76, 77, 224, 225, 226, 227, 228, 229] (by decide +kernel) (by decide +kernel)
set_option maxRecDepth 20000 in
theorem gX2_isSame_X1_longestRow : GoodIn wsX2_isSame (wsV RX2 114 RX1 yX1_longestRow wsX1_longestRow) := goodIn_app (goodIn_of _ (by decide +kernel)) ggX2_isSame_X1_longestRow
set_option maxRecDepth 20000 in
theorem ggX2_isSame_X1_meanLooks : GoodIn wsX2_isSame wsX1_meanLooks := goodIn_r _ [219, 23, 149, 150, 151, 33, 152, 35, 153, 37, 38, 39, 40, 41, 42, 43, 44, 183, 184, 185, 186, 99, 100, 101, 102, 103, 104, 105, 106, 107, 224, 225, 226, 227, 228, 229] (by decide +kernel) (by decide +kernel)
set_option maxRecDepth 20000 in
theorem gX2_isSame_X1_meanLooks : GoodIn wsX2_isSame (wsV RX2 117 RX1 yX1_meanLooks wsX1_meanLooks) := goodIn_app (goodIn_of _ (by decide +kernel)) ggX2_isSame_X1_meanLooks
theorem dX2_isSame_0 : decode cX2_isSame 0 = .ok (.iconst 0, 1) := by decide +kernel
theorem dX2_isSame_1 : decode cX2_isSame 1 = .ok (.istore_n 2, 1) := by decide +kernel
theorem dX2_isSame_2 : decode cX2_isSame 2 = .ok (.iconst 0, 1) := by decide +kernel
theorem dX2_isSame_3 : decode cX2_isSame 3 = .ok (.istore_n 3, 1) := by decide +kernel
theorem dX2_isSame_4 : decode cX2_isSame 4 = .ok (.iconst (-1), 1) := by decide +kernel
theorem dX2_isSame_5 : decode cX2_isSame 5 = .ok (.istore 4, 2) := by decide +kernel
theorem dX2_isSame_7 : decode cX2_isSame 7 = .ok (.iconst (-1), 1) := by decide +kernel
theorem dX2_isSame_8 : decode cX2_isSame 8 = .ok (.istore 5, 2) := by decide +kernel
theorem dX2_isSame_10 : decode cX2_isSame 10 = .ok (.iconst 0, 1) := by decide +kernel
theorem dX2_isSame_11 : decode cX2_isSame 11 = .ok (.istore 6, 2) := by decide +kernel
theorem dX2_isSame_13 : decode cX2_isSame 13 = .ok (.iconst 0, 1) := by decide +kernel
theorem dX2_isSame_14 : decode cX2_isSame 14 = .ok (.istore 7, 2) := by decide +kernel
theorem dX2_isSame_16 : decode cX2_isSame 16 = .ok (.iconst 0, 1) := by decide +kernel
theorem dX2_isSame_17 : decode cX2_isSame 17 = .ok (.istore 8, 2) := by decide +kernel
theorem dX2_isSame_19 : decode cX2_isSame 19 = .ok (.iconst 1, 1) := by decide +kernel
theorem dX2_isSame_20 : decode cX2_isSame 20 = .ok (.istore 9, 2) := by decide +kernel
theorem dX2_isSame_22 : decode cX2_isSame 22 = .ok (.iconst 0, 1) := by decide +kernel
theorem dX2_isSame_23 : decode cX2_isSame 23 = .ok (.istore 10, 2) := by decide +kernel
theorem dX2_isSame_25 : decode cX2_isSame 25 = .ok (.iload 10, 2) := by decide +kernel
theorem dX2_isSame_27 : decode cX2_isSame 27 = .ok (.aload_n 0, 1) := by decide +kernel
theorem dX2_isSame_28 : decode cX2_isSame 28 = .ok (.getfield 7, 3) := by decide +kernel
theorem dX2_isSame_31 : decode cX2_isSame 31 = .ok (.arraylength, 1) := by decide +kernel
theorem dX2_isSame_32 : decode cX2_isSame 32 = .ok (.if_icmp .ge 336, 3) := by decide +kernel
theorem dX2_isSame_35 : decode cX2_isSame 35 = .ok (.iload 7, 2) := by decide +kernel
theorem dX2_isSame_37 : decode cX2_isSame 37 = .ok (.aload_n 0, 1) := by decide +kernel
theorem dX2_isSame_38 : decode cX2_isSame 38 = .ok (.iload 10, 2) := by decide +kernel
theorem dX2_isSame_40 : decode cX2_isSame 40 = .ok (.invokevirtual 61, 3) := by decide +kernel
theorem dX2_isSame_43 : decode cX2_isSame 43 = .ok (.invokestatic 64, 3) := by decide +kernel
theorem dX2_isSame_46 : decode cX2_isSame 46 = .ok (.istore 7, 2) := by decide +kernel
theorem dX2_isSame_48 : decode cX2_isSame 48 = .ok (.iload 8, 2) := by decide +kernel
theorem dX2_isSame_50 : decode cX2_isSame 50 = .ok (.aload_n 0, 1) := by decide +kernel
theorem dX2_isSame_51 : decode cX2_isSame 51 = .ok (.iload 10, 2) := by decide +kernel
theorem dX2_isSame_53 : decode cX2_isSame 53 = .ok (.invokevirtual 29, 3) := by decide +kernel
theorem dX2_isSame_56 : decode cX2_isSame 56 = .ok (.ifCond .ne 30, 3) := by decide +kernel
theorem dX2_isSame_59 : decode cX2_isSame 59 = .ok (.aload_n 0, 1) := by decide +kernel
theorem dX2_isSame_60 : decode cX2_isSame 60 = .ok (.iload 10, 2) := by decide +kernel
theorem dX2_isSame_62 : decode cX2_isSame 62 = .ok (.aload_n 0, 1) := by decide +kernel
theorem dX2_isSame_63 : decode cX2_isSame 63 = .ok (.getfield 7, 3) := by decide +kernel
theorem dX2_isSame_66 : decode cX2_isSame 66 = .ok (.arraylength, 1) := by decide +kernel
theorem dX2_isSame_67 : decode cX2_isSame 67 = .ok (.iadd, 1) := by decide +kernel
theorem dX2_isSame_68 : decode cX2_isSame 68 = .ok (.iconst 1, 1) := by decide +kernel
theorem dX2_isSame_69 : decode cX2_isSame 69 = .ok (.isub, 1) := by decide +kernel
theorem dX2_isSame_70 : decode cX2_isSame 70 = .ok (.aload_n 0, 1) := by decide +kernel
theorem dX2_isSame_71 : decode cX2_isSame 71 = .ok (.getfield 7, 3) := by decide +kernel
theorem dX2_isSame_74 : decode cX2_isSame 74 = .ok (.arraylength, 1) := by decide +kernel
theorem dX2_isSame_75 : decode cX2_isSame 75 = .ok (.irem, 1) := by decide +kernel
theorem dX2_isSame_76 : decode cX2_isSame 76 = .ok (.invokevirtual 29, 3) := by decide +kernel
theorem dX2_isSame_79 : decode cX2_isSame 79 = .ok (.ifCond .eq 7, 3) := by decide +kernel
theorem dX2_isSame_82 : decode cX2_isSame 82 = .ok (.iconst 1, 1) := by decide +kernel
theorem dX2_isSame_83 : decode cX2_isSame 83 = .ok (.goto 4, 3) := by decide +kernel
theorem dX2_isSame_86 : decode cX2_isSame 86 = .ok (.iconst 0, 1) := by decide +kernel
theorem dX2_isSame_87 : decode cX2_isSame 87 = .ok (.iadd, 1) := by decide +kernel
theorem dX2_isSame_88 : decode cX2_isSame 88 = .ok (.istore 8, 2) := by decide +kernel
theorem dX2_isSame_90 : decode cX2_isSame 90 = .ok (.iload 9, 2) := by decide +kernel
theorem dX2_isSame_92 : decode cX2_isSame 92 = .ok (.aload_n 0, 1) := by decide +kernel
theorem dX2_isSame_93 : decode cX2_isSame 93 = .ok (.iload 10, 2) := by decide +kernel
theorem dX2_isSame_95 : decode cX2_isSame 95 = .ok (.invokevirtual 29, 3) := by decide +kernel
theorem dX2_isSame_98 : decode cX2_isSame 98 = .ok (.ifCond .ne 7, 3) := by decide +kernel
theorem dX2_isSame_101 : decode cX2_isSame 101 = .ok (.iconst 1, 1) := by decide +kernel
theorem dX2_isSame_102 : decode cX2_isSame 102 = .ok (.goto 4, 3) := by decide +kernel
theorem dX2_isSame_105 : decode cX2_isSame 105 = .ok (.iconst 0, 1) := by decide +kernel
theorem dX2_isSame_106 : decode cX2_isSame 106 = .ok (.iand, 1) := by decide +kernel
theorem dX2_isSame_107 : decode cX2_isSame 107 = .ok (.istore 9, 2) := by decide +kernel
theorem dX2_isSame_109 : decode cX2_isSame 109 = .ok (.aload_n 1, 1) := by decide +kernel
theorem dX2_isSame_110 : decode cX2_isSame 110 = .ok (.iload 10, 2) := by decide +kernel
theorem dX2_isSame_112 : decode cX2_isSame 112 = .ok (.invokevirtual 69, 3) := by decide +kernel
theorem dX2_isSame_115 : decode cX2_isSame 115 = .ok (.aload_n 0, 1) := by decide +kernel
theorem dX2_isSame_116 : decode cX2_isSame 116 = .ok (.getfield 7, 3) := by decide +kernel
theorem dX2_isSame_119 : decode cX2_isSame 119 = .ok (.iload 10, 2) := by decide +kernel
theorem dX2_isSame_121 : decode cX2_isSame 121 = .ok (.iaload, 1) := by decide +kernel
theorem dX2_isSame_122 : decode cX2_isSame 122 = .ok (.ifCond .lt 7, 3) := by decide +kernel
theorem dX2_isSame_125 : decode cX2_isSame 125 = .ok (.iconst 1, 1) := by decide +kernel
theorem dX2_isSame_126 : decode cX2_isSame 126 = .ok (.goto 18, 3) := by decide +kernel
theorem dX2_isSame_129 : decode cX2_isSame 129 = .ok (.aload_n 0, 1) := by decide +kernel
theorem dX2_isSame_130 : decode cX2_isSame 130 = .ok (.getfield 16, 3) := by decide +kernel
theorem dX2_isSame_133 : decode cX2_isSame 133 = .ok (.iload 10, 2) := by decide +kernel
theorem dX2_isSame_135 : decode cX2_isSame 135 = .ok (.baload, 1) := by decide +kernel
theorem dX2_isSame_136 : decode cX2_isSame 136 = .ok (.ifCond .eq 7, 3) := by decide +kernel
theorem dX2_isSame_139 : decode cX2_isSame 139 = .ok (.iconst 2, 1) := by decide +kernel
theorem dX2_isSame_140 : decode cX2_isSame 140 = .ok (.goto 4, 3) := by decide +kernel
theorem dX2_isSame_143 : decode cX2_isSame 143 = .ok (.iconst 0, 1) := by decide +kernel
theorem dX2_isSame_144 : decode cX2_isSame 144 = .ok (.if_icmp .ne 64, 3) := by decide +kernel
theorem dX2_isSame_147 : decode cX2_isSame 147 = .ok (.aload_n 1, 1) := by decide +kernel
theorem dX2_isSame_148 : decode cX2_isSame 148 = .ok (.iload 10, 2) := by decide +kernel
theorem dX2_isSame_150 : decode cX2_isSame 150 = .ok (.invokevirtual 74, 3) := by decide +kernel
theorem dX2_isSame_153 : decode cX2_isSame 153 = .ok (.aload_n 0, 1) := by decide +kernel
theorem dX2_isSame_154 : decode cX2_isSame 154 = .ok (.getfield 7, 3) := by decide +kernel
theorem dX2_isSame_157 : decode cX2_isSame 157 = .ok (.iload 10, 2) := by decide +kernel
theorem dX2_isSame_159 : decode cX2_isSame 159 = .ok (.iaload, 1) := by decide +kernel
theorem dX2_isSame_160 : decode cX2_isSame 160 = .ok (.if_icmp .ne 48, 3) := by decide +kernel
theorem dX2_isSame_163 : decode cX2_isSame 163 = .ok (.aload_n 1, 1) := by decide +kernel
theorem dX2_isSame_164 : decode cX2_isSame 164 = .ok (.iload 10, 2) := by decide +kernel
theorem dX2_isSame_166 : decode cX2_isSame 166 = .ok (.invokevirtual 77, 3) := by decide +kernel
theorem dX2_isSame_169 : decode cX2_isSame 169 = .ok (.aload_n 0, 1) := by decide +kernel
theorem dX2_isSame_170 : decode cX2_isSame 170 = .ok (.getfield 7, 3) := by decide +kernel
theorem dX2_isSame_173 : decode cX2_isSame 173 = .ok (.iload 10, 2) := by decide +kernel
theorem dX2_isSame_175 : decode cX2_isSame 175 = .ok (.iaload, 1) := by decide +kernel
theorem dX2_isSame_176 : decode cX2_isSame 176 = .ok (.ifCond .ge 7, 3) := by decide +kernel
theorem dX2_isSame_179 : decode cX2_isSame 179 = .ok (.iconst 0, 1) := by decide +kernel
theorem dX2_isSame_180 : decode cX2_isSame 180 = .ok (.goto 10, 3) := by decide +kernel
theorem dX2_isSame_183 : decode cX2_isSame 183 = .ok (.aload_n 0, 1) := by decide +kernel
theorem dX2_isSame_184 : decode cX2_isSame 184 = .ok (.getfield 13, 3) := by decide +kernel
theorem dX2_isSame_187 : decode cX2_isSame 187 = .ok (.iload 10, 2) := by decide +kernel
theorem dX2_isSame_189 : decode cX2_isSame 189 = .ok (.iaload, 1) := by decide +kernel
theorem dX2_isSame_190 : decode cX2_isSame 190 = .ok (.if_icmp .ne 18, 3) := by decide +kernel
theorem dX2_isSame_193 : decode cX2_isSame 193 = .ok (.aload_n 1, 1) := by decide +kernel
theorem dX2_isSame_194 : decode cX2_isSame 194 = .ok (.iload 10, 2) := by decide +kernel
theorem dX2_isSame_196 : decode cX2_isSame 196 = .ok (.invokevirtual 80, 3) := by decide +kernel
theorem dX2_isSame_199 : decode cX2_isSame 199 = .ok (.aload_n 0, 1) := by decide +kernel
theorem dX2_isSame_200 : decode cX2_isSame 200 = .ok (.iload 10, 2) := by decide +kernel
theorem dX2_isSame_202 : decode cX2_isSame 202 = .ok (.invokevirtual 61, 3) := by decide +kernel
theorem dX2_isSame_205 : decode cX2_isSame 205 = .ok (.if_icmp .eq 5, 3) := by decide +kernel
theorem dX2_isSame_208 : decode cX2_isSame 208 = .ok (.iconst 0, 1) := by decide +kernel
theorem dX2_isSame_209 : decode cX2_isSame 209 = .ok (.ireturn, 1) := by decide +kernel
theorem dX2_isSame_210 : decode cX2_isSame 210 = .ok (.aload_n 0, 1) := by decide +kernel
theorem dX2_isSame_211 : decode cX2_isSame 211 = .ok (.getfield 7, 3) := by decide +kernel
theorem dX2_isSame_214 : decode cX2_isSame 214 = .ok (.iload 10, 2) := by decide +kernel
theorem dX2_isSame_216 : decode cX2_isSame 216 = .ok (.iaload, 1) := by decide +kernel
theorem dX2_isSame_217 : decode cX2_isSame 217 = .ok (.ifCond .ge 6, 3) := by decide +kernel
theorem dX2_isSame_220 : decode cX2_isSame 220 = .ok (.goto 142, 3) := by decide +kernel
theorem dX2_isSame_223 : decode cX2_isSame 223 = .ok (.iinc 2 1, 3) := by decide +kernel
theorem dX2_isSame_226 : decode cX2_isSame 226 = .ok (.iload_n 3, 1) := by decide +kernel
theorem dX2_isSame_227 : decode cX2_isSame 227 = .ok (.aload_n 0, 1) := by decide +kernel
theorem dX2_isSame_228 : decode cX2_isSame 228 = .ok (.getfield 13, 3) := by decide +kernel
theorem dX2_isSame_231 : decode cX2_isSame 231 = .ok (.iload 10, 2) := by decide +kernel
theorem dX2_isSame_233 : decode cX2_isSame 233 = .ok (.iaload, 1) := by decide +kernel
theorem dX2_isSame_234 : decode cX2_isSame 234 = .ok (.iadd, 1) := by decide +kernel
theorem dX2_isSame_235 : decode cX2_isSame 235 = .ok (.istore_n 3, 1) := by decide +kernel
theorem dX2_isSame_236 : decode cX2_isSame 236 = .ok (.iload 4, 2) := by decide +kernel
theorem dX2_isSame_238 : decode cX2_isSame 238 = .ok (.ifCond .lt 20, 3) := by decide +kernel
theorem dX2_isSame_241 : decode cX2_isSame 241 = .ok (.aload_n 0, 1) := by decide +kernel
theorem dX2_isSame_242 : decode cX2_isSame 242 = .ok (.getfield 13, 3) := by decide +kernel
theorem dX2_isSame_245 : decode cX2_isSame 245 = .ok (.iload 10, 2) := by decide +kernel
theorem dX2_isSame_247 : decode cX2_isSame 247 = .ok (.iaload, 1) := by decide +kernel
theorem dX2_isSame_248 : decode cX2_isSame 248 = .ok (.aload_n 0, 1) := by decide +kernel
theorem dX2_isSame_249 : decode cX2_isSame 249 = .ok (.getfield 13, 3) := by decide +kernel
theorem dX2_isSame_252 : decode cX2_isSame 252 = .ok (.iload 4, 2) := by decide +kernel
theorem dX2_isSame_254 : decode cX2_isSame 254 = .ok (.iaload, 1) := by decide +kernel
theorem dX2_isSame_255 : decode cX2_isSame 255 = .ok (.if_icmp .le 7, 3) := by decide +kernel
theorem dX2_isSame_258 : decode cX2_isSame 258 = .ok (.iload 10, 2) := by decide +kernel
theorem dX2_isSame_260 : decode cX2_isSame 260 = .ok (.istore 4, 2) := by decide +kernel
theorem dX2_isSame_262 : decode cX2_isSame 262 = .ok (.aload_n 0, 1) := by decide +kernel
theorem dX2_isSame_263 : decode cX2_isSame 263 = .ok (.aload_n 0, 1) := by decide +kernel
theorem dX2_isSame_264 : decode cX2_isSame 264 = .ok (.getfield 7, 3) := by decide +kernel
theorem dX2_isSame_267 : decode cX2_isSame 267 = .ok (.iload 10, 2) := by decide +kernel
theorem dX2_isSame_269 : decode cX2_isSame 269 = .ok (.iaload, 1) := by decide +kernel
theorem dX2_isSame_270 : decode cX2_isSame 270 = .ok (.invokevirtual 33, 3) := by decide +kernel
theorem dX2_isSame_273 : decode cX2_isSame 273 = .ok (.iload 6, 2) := by decide +kernel
theorem dX2_isSame_275 : decode cX2_isSame 275 = .ok (.if_icmp .le 20, 3) := by decide +kernel
theorem dX2_isSame_278 : decode cX2_isSame 278 = .ok (.aload_n 0, 1) := by decide +kernel
theorem dX2_isSame_279 : decode cX2_isSame 279 = .ok (.getfield 7, 3) := by decide +kernel
theorem dX2_isSame_282 : decode cX2_isSame 282 = .ok (.iload 10, 2) := by decide +kernel
theorem dX2_isSame_284 : decode cX2_isSame 284 = .ok (.iaload, 1) := by decide +kernel
theorem dX2_isSame_285 : decode cX2_isSame 285 = .ok (.istore 5, 2) := by decide +kernel
theorem dX2_isSame_287 : decode cX2_isSame 287 = .ok (.aload_n 0, 1) := by decide +kernel
theorem dX2_isSame_288 : decode cX2_isSame 288 = .ok (.iload 5, 2) := by decide +kernel
theorem dX2_isSame_290 : decode cX2_isSame 290 = .ok (.invokevirtual 33, 3) := by decide +kernel
theorem dX2_isSame_293 : decode cX2_isSame 293 = .ok (.istore 6, 2) := by decide +kernel
theorem dX2_isSame_295 : decode cX2_isSame 295 = .ok (.aload_n 1, 1) := by decide +kernel
theorem dX2_isSame_296 : decode cX2_isSame 296 = .ok (.aload_n 0, 1) := by decide +kernel
theorem dX2_isSame_297 : decode cX2_isSame 297 = .ok (.getfield 7, 3) := by decide +kernel
theorem dX2_isSame_300 : decode cX2_isSame 300 = .ok (.iload 10, 2) := by decide +kernel
theorem dX2_isSame_302 : decode cX2_isSame 302 = .ok (.iaload, 1) := by decide +kernel
theorem dX2_isSame_303 : decode cX2_isSame 303 = .ok (.invokevirtual 83, 3) := by decide +kernel
theorem dX2_isSame_306 : decode cX2_isSame 306 = .ok (.aload_n 0, 1) := by decide +kernel
theorem dX2_isSame_307 : decode cX2_isSame 307 = .ok (.aload_n 0, 1) := by decide +kernel
theorem dX2_isSame_308 : decode cX2_isSame 308 = .ok (.getfield 7, 3) := by decide +kernel
theorem dX2_isSame_311 : decode cX2_isSame 311 = .ok (.iload 10, 2) := by decide +kernel
theorem dX2_isSame_313 : decode cX2_isSame 313 = .ok (.iaload, 1) := by decide +kernel
theorem dX2_isSame_314 : decode cX2_isSame 314 = .ok (.invokevirtual 86, 3) := by decide +kernel
theorem dX2_isSame_317 : decode cX2_isSame 317 = .ok (.if_icmp .ne 43, 3) := by decide +kernel
theorem dX2_isSame_320 : decode cX2_isSame 320 = .ok (.aload_n 1, 1) := by decide +kernel
theorem dX2_isSame_321 : decode cX2_isSame 321 = .ok (.aload_n 0, 1) := by decide +kernel
theorem dX2_isSame_322 : decode cX2_isSame 322 = .ok (.getfield 7, 3) := by decide +kernel
theorem dX2_isSame_325 : decode cX2_isSame 325 = .ok (.iload 10, 2) := by decide +kernel
theorem dX2_isSame_327 : decode cX2_isSame 327 = .ok (.iaload, 1) := by decide +kernel
theorem dX2_isSame_328 : decode cX2_isSame 328 = .ok (.invokevirtual 87, 3) := by decide +kernel
theorem dX2_isSame_331 : decode cX2_isSame 331 = .ok (.aload_n 0, 1) := by decide +kernel
theorem dX2_isSame_332 : decode cX2_isSame 332 = .ok (.aload_n 0, 1) := by decide +kernel
theorem dX2_isSame_333 : decode cX2_isSame 333 = .ok (.getfield 7, 3) := by decide +kernel
theorem dX2_isSame_336 : decode cX2_isSame 336 = .ok (.iload 10, 2) := by decide +kernel
theorem dX2_isSame_338 : decode cX2_isSame 338 = .ok (.iaload, 1) := by decide +kernel
theorem dX2_isSame_339 : decode cX2_isSame 339 = .ok (.invokevirtual 33, 3) := by decide +kernel
theorem dX2_isSame_342 : decode cX2_isSame 342 = .ok (.if_icmp .ne 18, 3) := by decide +kernel
theorem dX2_isSame_345 : decode cX2_isSame 345 = .ok (.aload_n 1, 1) := by decide +kernel
theorem dX2_isSame_346 : decode cX2_isSame 346 = .ok (.aload_n 0, 1) := by decide +kernel
theorem dX2_isSame_347 : decode cX2_isSame 347 = .ok (.getfield 7, 3) := by decide +kernel
theorem dX2_isSame_350 : decode cX2_isSame 350 = .ok (.iload 10, 2) := by decide +kernel
theorem dX2_isSame_352 : decode cX2_isSame 352 = .ok (.iaload, 1) := by decide +kernel
theorem dX2_isSame_353 : decode cX2_isSame 353 = .ok (.invokevirtual 90, 3) := by decide +kernel
theorem dX2_isSame_356 : decode cX2_isSame 356 = .ok (.iconst (-1), 1) := by decide +kernel
theorem dX2_isSame_357 : decode cX2_isSame 357 = .ok (.if_icmp .eq 5, 3) := by decide +kernel
theorem dX2_isSame_360 : decode cX2_isSame 360 = .ok (.iconst 0, 1) := by decide +kernel
theorem dX2_isSame_361 : decode cX2_isSame 361 = .ok (.ireturn, 1) := by decide +kernel
theorem dX2_isSame_362 : decode cX2_isSame 362 = .ok (.iinc 10 1, 3) := by decide +kernel
theorem dX2_isSame_365 : decode cX2_isSame 365 = .ok (.goto (-340), 3) := by decide +kernel
theorem dX2_isSame_368 : decode cX2_isSame 368 = .ok (.aload_n 1, 1) := by decide +kernel
theorem dX2_isSame_369 : decode cX2_isSame 369 = .ok (.invokevirtual 93, 3) := by decide +kernel
theorem dX2_isSame_372 : decode cX2_isSame 372 = .ok (.aload_n 0, 1) := by decide +kernel
theorem dX2_isSame_373 : decode cX2_isSame 373 = .ok (.getfield 7, 3) := by decide +kernel
theorem dX2_isSame_376 : decode cX2_isSame 376 = .ok (.arraylength, 1) := by decide +kernel
theorem dX2_isSame_377 : decode cX2_isSame 377 = .ok (.if_icmp .ne 125, 3) := by decide +kernel
theorem dX2_isSame_380 : decode cX2_isSame 380 = .ok (.aload_n 1, 1) := by decide +kernel
theorem dX2_isSame_381 : decode cX2_isSame 381 = .ok (.invokevirtual 96, 3) := by decide +kernel
theorem dX2_isSame_384 : decode cX2_isSame 384 = .ok (.aload_n 0, 1) := by decide +kernel
theorem dX2_isSame_385 : decode cX2_isSame 385 = .ok (.getfield 21, 3) := by decide +kernel
theorem dX2_isSame_388 : decode cX2_isSame 388 = .ok (.if_icmp .ne 114, 3) := by decide +kernel
theorem dX2_isSame_391 : decode cX2_isSame 391 = .ok (.aload_n 1, 1) := by decide +kernel
theorem dX2_isSame_392 : decode cX2_isSame 392 = .ok (.invokevirtual 98, 3) := by decide +kernel
theorem dX2_isSame_395 : decode cX2_isSame 395 = .ok (.iload_n 2, 1) := by decide +kernel
theorem dX2_isSame_396 : decode cX2_isSame 396 = .ok (.if_icmp .ne 106, 3) := by decide +kernel
theorem dX2_isSame_399 : decode cX2_isSame 399 = .ok (.aload_n 1, 1) := by decide +kernel
theorem dX2_isSame_400 : decode cX2_isSame 400 = .ok (.invokevirtual 101, 3) := by decide +kernel
theorem dX2_isSame_403 : decode cX2_isSame 403 = .ok (.aload_n 0, 1) := by decide +kernel
theorem dX2_isSame_404 : decode cX2_isSame 404 = .ok (.invokevirtual 58, 3) := by decide +kernel
theorem dX2_isSame_407 : decode cX2_isSame 407 = .ok (.if_icmp .ne 95, 3) := by decide +kernel
theorem dX2_isSame_410 : decode cX2_isSame 410 = .ok (.aload_n 1, 1) := by decide +kernel
theorem dX2_isSame_411 : decode cX2_isSame 411 = .ok (.invokevirtual 102, 3) := by decide +kernel
theorem dX2_isSame_414 : decode cX2_isSame 414 = .ok (.iload_n 3, 1) := by decide +kernel
theorem dX2_isSame_415 : decode cX2_isSame 415 = .ok (.if_icmp .ne 87, 3) := by decide +kernel
theorem dX2_isSame_418 : decode cX2_isSame 418 = .ok (.aload_n 1, 1) := by decide +kernel
theorem dX2_isSame_419 : decode cX2_isSame 419 = .ok (.invokevirtual 104, 3) := by decide +kernel
theorem dX2_isSame_422 : decode cX2_isSame 422 = .ok (.iload 4, 2) := by decide +kernel
theorem dX2_isSame_424 : decode cX2_isSame 424 = .ok (.if_icmp .ne 78, 3) := by decide +kernel
theorem dX2_isSame_427 : decode cX2_isSame 427 = .ok (.aload_n 1, 1) := by decide +kernel
theorem dX2_isSame_428 : decode cX2_isSame 428 = .ok (.invokevirtual 107, 3) := by decide +kernel
theorem dX2_isSame_431 : decode cX2_isSame 431 = .ok (.aload_n 0, 1) := by decide +kernel
theorem dX2_isSame_432 : decode cX2_isSame 432 = .ok (.invokevirtual 54, 3) := by decide +kernel
theorem dX2_isSame_435 : decode cX2_isSame 435 = .ok (.if_icmp .ne 67, 3) := by decide +kernel
theorem dX2_isSame_438 : decode cX2_isSame 438 = .ok (.aload_n 1, 1) := by decide +kernel
theorem dX2_isSame_439 : decode cX2_isSame 439 = .ok (.invokevirtual 108, 3) := by decide +kernel
theorem dX2_isSame_442 : decode cX2_isSame 442 = .ok (.iload 5, 2) := by decide +kernel
theorem dX2_isSame_444 : decode cX2_isSame 444 = .ok (.if_icmp .ne 58, 3) := by decide +kernel
theorem dX2_isSame_447 : decode cX2_isSame 447 = .ok (.aload_n 1, 1) := by decide +kernel
theorem dX2_isSame_448 : decode cX2_isSame 448 = .ok (.invokevirtual 111, 3) := by decide +kernel
theorem dX2_isSame_451 : decode cX2_isSame 451 = .ok (.iload 9, 2) := by decide +kernel
theorem dX2_isSame_453 : decode cX2_isSame 453 = .ok (.ifCond .eq 7, 3) := by decide +kernel
theorem dX2_isSame_456 : decode cX2_isSame 456 = .ok (.iconst 1, 1) := by decide +kernel
theorem dX2_isSame_457 : decode cX2_isSame 457 = .ok (.goto 5, 3) := by decide +kernel
theorem dX2_isSame_460 : decode cX2_isSame 460 = .ok (.iload 8, 2) := by decide +kernel
theorem dX2_isSame_462 : decode cX2_isSame 462 = .ok (.if_icmp .ne 40, 3) := by decide +kernel
theorem dX2_isSame_465 : decode cX2_isSame 465 = .ok (.aload_n 1, 1) := by decide +kernel
theorem dX2_isSame_466 : decode cX2_isSame 466 = .ok (.invokevirtual 114, 3) := by decide +kernel
theorem dX2_isSame_469 : decode cX2_isSame 469 = .ok (.iload 7, 2) := by decide +kernel
theorem dX2_isSame_471 : decode cX2_isSame 471 = .ok (.if_icmp .ne 31, 3) := by decide +kernel
theorem dX2_isSame_474 : decode cX2_isSame 474 = .ok (.aload_n 1, 1) := by decide +kernel
theorem dX2_isSame_475 : decode cX2_isSame 475 = .ok (.invokevirtual 117, 3) := by decide +kernel
theorem dX2_isSame_478 : decode cX2_isSame 478 = .ok (.iload_n 2, 1) := by decide +kernel
theorem dX2_isSame_479 : decode cX2_isSame 479 = .ok (.ifCond .ne 7, 3) := by decide +kernel
theorem dX2_isSame_482 : decode cX2_isSame 482 = .ok (.dconst 0, 1) := by decide +kernel
theorem dX2_isSame_483 : decode cX2_isSame 483 = .ok (.goto 11, 3) := by decide +kernel
theorem dX2_isSame_486 : decode cX2_isSame 486 = .ok (.aload_n 0, 1) := by decide +kernel
theorem dX2_isSame_487 : decode cX2_isSame 487 = .ok (.invokevirtual 54, 3) := by decide +kernel
theorem dX2_isSame_490 : decode cX2_isSame 490 = .ok (.i2d, 1) := by decide +kernel
theorem dX2_isSame_491 : decode cX2_isSame 491 = .ok (.iload_n 2, 1) := by decide +kernel
theorem dX2_isSame_492 : decode cX2_isSame 492 = .ok (.i2d, 1) := by decide +kernel
theorem dX2_isSame_493 : decode cX2_isSame 493 = .ok (.ddiv, 1) := by decide +kernel
theorem dX2_isSame_494 : decode cX2_isSame 494 = .ok (.dcmp .l, 1) := by decide +kernel
theorem dX2_isSame_495 : decode cX2_isSame 495 = .ok (.ifCond .ne 7, 3) := by decide +kernel
theorem dX2_isSame_498 : decode cX2_isSame 498 = .ok (.iconst 1, 1) := by decide +kernel
theorem dX2_isSame_499 : decode cX2_isSame 499 = .ok (.goto 4, 3) := by decide +kernel
theorem dX2_isSame_502 : decode cX2_isSame 502 = .ok (.iconst 0, 1) := by decide +kernel
theorem dX2_isSame_503 : decode cX2_isSame 503 = .ok (.ireturn, 1) := by decide +kernel
theorem dJ9_max_7cf53_0 : decode cJ9_max_7cf53 0 = .ok (.iload_n 0, 1) := by decide +kernel
theorem dJ9_max_7cf53_1 : decode cJ9_max_7cf53 1 = .ok (.iload_n 1, 1) := by decide +kernel
theorem dJ9_max_7cf53_2 : decode cJ9_max_7cf53 2 = .ok (.if_icmp .lt 7, 3) := by decide +kernel
theorem dJ9_max_7cf53_5 : decode cJ9_max_7cf53 5 = .ok (.iload_n 0, 1) := by decide +kernel
theorem dJ9_max_7cf53_6 : decode cJ9_max_7cf53 6 = .ok (.goto 4, 3) := by decide +kernel
theorem dJ9_max_7cf53_9 : decode cJ9_max_7cf53 9 = .ok (.iload_n 1, 1) := by decide +kernel
theorem dJ9_max_7cf53_10 : decode cJ9_max_7cf53 10 = .ok (.ireturn, 1) := by decide +kernel
