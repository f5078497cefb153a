theorem dL_hang_0 : decode cL_hang 0 = .ok (.aload_n 3, 1) := by decide +kernel
theorem dL_hang_1 : decode cL_hang 1 = .ok (.iconst 0, 1) := by decide +kernel
theorem dL_hang_2 : decode cL_hang 2 = .ok (.aload_n 0, 1) := by decide +kernel
theorem dL_hang_3 : decode cL_hang 3 = .ok (.iload_n 1, 1) := by decide +kernel
theorem dL_hang_4 : decode cL_hang 4 = .ok (.iload_n 2, 1) := by decide +kernel
theorem dL_hang_5 : decode cL_hang 5 = .ok (.invokevirtual 7, 3) := by decide +kernel
theorem dL_hang_8 : decode cL_hang 8 = .ok (.i2l, 1) := by decide +kernel
theorem dL_hang_9 : decode cL_hang 9 = .ok (.lastore, 1) := by decide +kernel
theorem dL_hang_10 : decode cL_hang 10 = .ok (.goto 11, 3) := by decide +kernel
theorem dL_hang_13 : decode cL_hang 13 = .ok (.astore 4, 2) := by decide +kernel
theorem dL_hang_15 : decode cL_hang 15 = .ok (.iconst 1, 1) := by decide +kernel
theorem dL_hang_16 : decode cL_hang 16 = .ok (.ireturn, 1) := by decide +kernel
theorem dL_hang_17 : decode cL_hang 17 = .ok (.astore 4, 2) := by decide +kernel
theorem dL_hang_19 : decode cL_hang 19 = .ok (.iconst 2, 1) := by decide +kernel
theorem dL_hang_20 : decode cL_hang 20 = .ok (.ireturn, 1) := by decide +kernel
theorem dL_hang_21 : decode cL_hang 21 = .ok (.iconst 0, 1) := by decide +kernel
theorem dL_hang_22 : decode cL_hang 22 = .ok (.ireturn, 1) := by decide +kernel
set_option maxRecDepth 20000 in
theorem ggL_take_X1_take : GoodIn wsL_take wsX1_take := goodIn_ca (goodIn_ca (goodIn_r _ [7, 8, 9, 10, 11, 12, 6, 13, 14, 15, 16, 17, 18, 19, 20, 21, 22, 23, 24, 25, 26, 27, 28, 29, 30, 31, 32, 33, 34, 35, 36, 37, 38, 39, 40, 41, 42, 43, 44, 45, 46, 47, 48, 49, 50, 51, 52, 53, 54] (by decide +kernel) (by decide +kernel)) (goodIn_sub (fun _ h => List.mem_cons_of_mem _ (List.mem_append_left _ (List.mem_append_right _ h))) (by decide +kernel))) (goodIn_sub (fun _ h => List.mem_cons_of_mem _ (List.mem_append_right _ h)) (by decide +kernel))
set_option maxRecDepth 20000 in
theorem gL_take_X1_take : GoodIn wsL_take (wsV RL 17 RX1 yX1_take wsX1_take) := goodIn_app (goodIn_of _ (by decide +kernel)) ggL_take_X1_take
theorem dL_take_0 : decode cL_take 0 = .ok (.aload_n 2, 1) := by decide +kernel
theorem dL_take_1 : decode cL_take 1 = .ok (.iconst 0, 1) := by decide +kernel
theorem dL_take_2 : decode cL_take 2 = .ok (.aload_n 0, 1) := by decide +kernel
theorem dL_take_3 : decode cL_take 3 = .ok (.iload_n 1, 1) := by decide +kernel
theorem dL_take_4 : decode cL_take 4 = .ok (.invokevirtual 17, 3) := by decide +kernel
theorem dL_take_7 : decode cL_take 7 = .ok (.i2l, 1) := by decide +kernel
theorem dL_take_8 : decode cL_take 8 = .ok (.lastore, 1) := by decide +kernel
theorem dL_take_9 : decode cL_take 9 = .ok (.goto 9, 3) := by decide +kernel
theorem dL_take_12 : decode cL_take 12 = .ok (.astore_n 3, 1) := by decide +kernel
theorem dL_take_13 : decode cL_take 13 = .ok (.iconst 1, 1) := by decide +kernel
theorem dL_take_14 : decode cL_take 14 = .ok (.ireturn, 1) := by decide +kernel
theorem dL_take_15 : decode cL_take 15 = .ok (.astore_n 3, 1) := by decide +kernel
theorem dL_take_16 : decode cL_take 16 = .ok (.iconst 2, 1) := by decide +kernel
theorem dL_take_17 : decode cL_take 17 = .ok (.ireturn, 1) := by decide +kernel
theorem dL_take_18 : decode cL_take 18 = .ok (.iconst 0, 1) := by decide +kernel
theorem dL_take_19 : decode cL_take 19 = .ok (.ireturn, 1) := by decide +kernel
set_option maxRecDepth 20000 in
theorem ggL_rehang_X1_rehang : GoodIn wsL_rehang wsX1_rehang := goodIn_ca (goodIn_ca (goodIn_r _ [7, 8, 9, 10, 11, 6, 12, 13, 14, 15, 16, 17, 18, 19, 20, 21, 22, 23, 24, 25, 26, 27, 28, 29, 30, 31, 32, 33, 34, 35, 36, 37, 38, 39, 40, 41, 42, 43, 44, 45, 46, 47, 48, 49, 50, 51, 52, 53, 54, 55, 56, 57, 58, 59, 60, 61, 62, 63, 64, 65, 66, 67, 68, 69, 70, 71, 72, 73, 74, 75, 76, 77, 78, 79, 80] (by decide +kernel) (by decide +kernel)) (goodIn_sub (fun _ h => List.mem_cons_of_mem _ (List.mem_append_left _ (List.mem_append_right _ h))) (by decide +kernel))) (goodIn_sub (fun _ h => List.mem_cons_of_mem _ (List.mem_append_right _ h)) (by decide +kernel))
set_option maxRecDepth 20000 in
theorem gL_rehang_X1_rehang : GoodIn wsL_rehang (wsV RL 21 RX1 yX1_rehang wsX1_rehang) := goodIn_app (goodIn_of _ (by decide +kernel)) ggL_rehang_X1_rehang
theorem dL_rehang_0 : decode cL_rehang 0 = .ok (.aload_n 3, 1) := by decide +kernel
theorem dL_rehang_1 : decode cL_rehang 1 = .ok (.iconst 0, 1) := by decide +kernel
theorem dL_rehang_2 : decode cL_rehang 2 = .ok (.aload_n 0, 1) := by decide +kernel
theorem dL_rehang_3 : decode cL_rehang 3 = .ok (.iload_n 1, 1) := by decide +kernel
theorem dL_rehang_4 : decode cL_rehang 4 = .ok (.iload_n 2, 1) := by decide +kernel
theorem dL_rehang_5 : decode cL_rehang 5 = .ok (.invokevirtual 21, 3) := by decide +kernel
theorem dL_rehang_8 : decode cL_rehang 8 = .ok (.i2l, 1) := by decide +kernel
theorem dL_rehang_9 : decode cL_rehang 9 = .ok (.lastore, 1) := by decide +kernel
theorem dL_rehang_10 : decode cL_rehang 10 = .ok (.goto 11, 3) := by decide +kernel
theorem dL_rehang_13 : decode cL_rehang 13 = .ok (.astore 4, 2) := by decide +kernel
theorem dL_rehang_15 : decode cL_rehang 15 = .ok (.iconst 1, 1) := by decide +kernel
theorem dL_rehang_16 : decode cL_rehang 16 = .ok (.ireturn, 1) := by decide +kernel
theorem dL_rehang_17 : decode cL_rehang 17 = .ok (.astore 4, 2) := by decide +kernel
theorem dL_rehang_19 : decode cL_rehang 19 = .ok (.iconst 2, 1) := by decide +kernel
theorem dL_rehang_20 : decode cL_rehang 20 = .ok (.ireturn, 1) := by decide +kernel
theorem dL_rehang_21 : decode cL_rehang 21 = .ok (.iconst 0, 1) := by decide +kernel
theorem dL_rehang_22 : decode cL_rehang 22 = .ok (.ireturn, 1) := by decide +kernel
set_option maxRecDepth 20000 in
theorem ggL_stateOf_X1_stateOf : GoodIn wsL_stateOf wsX1_stateOf := goodIn_ca (goodIn_r _ [6, 7, 8, 9, 10, 5, 11, 12, 13, 14, 15, 16, 17, 18, 19, 20, 21, 22, 23, 24, 25, 26, 27, 28, 29, 30, 31, 32, 33, 34] (by decide +kernel) (by decide +kernel)) (goodIn_sub (fun _ h => List.mem_cons_of_mem _ (List.mem_append_right _ h)) (by decide +kernel))
set_option maxRecDepth 20000 in
theorem gL_stateOf_X1_stateOf : GoodIn wsL_stateOf (wsV RL 24 RX1 yX1_stateOf wsX1_stateOf) := goodIn_app (goodIn_of _ (by decide +kernel)) ggL_stateOf_X1_stateOf
theorem dL_stateOf_0 : decode cL_stateOf 0 = .ok (.aload_n 2, 1) := by decide +kernel
theorem dL_stateOf_1 : decode cL_stateOf 1 = .ok (.iconst 0, 1) := by decide +kernel
theorem dL_stateOf_2 : decode cL_stateOf 2 = .ok (.aload_n 0, 1) := by decide +kernel
theorem dL_stateOf_3 : decode cL_stateOf 3 = .ok (.iload_n 1, 1) := by decide +kernel
theorem dL_stateOf_4 : decode cL_stateOf 4 = .ok (.invokevirtual 24, 3) := by decide +kernel
theorem dL_stateOf_7 : decode cL_stateOf 7 = .ok (.i2l, 1) := by decide +kernel
theorem dL_stateOf_8 : decode cL_stateOf 8 = .ok (.lastore, 1) := by decide +kernel
theorem dL_stateOf_9 : decode cL_stateOf 9 = .ok (.goto 6, 3) := by decide +kernel
theorem dL_stateOf_12 : decode cL_stateOf 12 = .ok (.astore_n 3, 1) := by decide +kernel
theorem dL_stateOf_13 : decode cL_stateOf 13 = .ok (.iconst 1, 1) := by decide +kernel
theorem dL_stateOf_14 : decode cL_stateOf 14 = .ok (.ireturn, 1) := by decide +kernel
theorem dL_stateOf_15 : decode cL_stateOf 15 = .ok (.iconst 0, 1) := by decide +kernel
theorem dL_stateOf_16 : decode cL_stateOf 16 = .ok (.ireturn, 1) := by decide +kernel
set_option maxRecDepth 20000 in
theorem ggL_coatAt_X1_coatAt : GoodIn wsL_coatAt wsX1_coatAt := goodIn_ca (goodIn_r _ [6, 7, 8, 9, 10, 5, 11, 12, 13, 14, 15, 16, 17, 18, 19, 20, 21, 22, 23, 24, 25, 26, 27, 28, 29, 30, 31, 32, 33, 34] (by decide +kernel) (by decide +kernel)) (goodIn_sub (fun _ h => List.mem_cons_of_mem _ (List.mem_append_right _ h)) (by decide +kernel))
set_option maxRecDepth 20000 in
theorem gL_coatAt_X1_coatAt : GoodIn wsL_coatAt (wsV RL 29 RX1 yX1_coatAt wsX1_coatAt) := goodIn_app (goodIn_of _ (by decide +kernel)) ggL_coatAt_X1_coatAt
theorem dL_coatAt_0 : decode cL_coatAt 0 = .ok (.aload_n 2, 1) := by decide +kernel
theorem dL_coatAt_1 : decode cL_coatAt 1 = .ok (.iconst 0, 1) := by decide +kernel
theorem dL_coatAt_2 : decode cL_coatAt 2 = .ok (.aload_n 0, 1) := by decide +kernel
theorem dL_coatAt_3 : decode cL_coatAt 3 = .ok (.iload_n 1, 1) := by decide +kernel
theorem dL_coatAt_4 : decode cL_coatAt 4 = .ok (.invokevirtual 29, 3) := by decide +kernel
theorem dL_coatAt_7 : decode cL_coatAt 7 = .ok (.i2l, 1) := by decide +kernel
theorem dL_coatAt_8 : decode cL_coatAt 8 = .ok (.lastore, 1) := by decide +kernel
theorem dL_coatAt_9 : decode cL_coatAt 9 = .ok (.goto 6, 3) := by decide +kernel
theorem dL_coatAt_12 : decode cL_coatAt 12 = .ok (.astore_n 3, 1) := by decide +kernel
theorem dL_coatAt_13 : decode cL_coatAt 13 = .ok (.iconst 1, 1) := by decide +kernel
theorem dL_coatAt_14 : decode cL_coatAt 14 = .ok (.ireturn, 1) := by decide +kernel
theorem dL_coatAt_15 : decode cL_coatAt 15 = .ok (.iconst 0, 1) := by decide +kernel
theorem dL_coatAt_16 : decode cL_coatAt 16 = .ok (.ireturn, 1) := by decide +kernel
set_option maxRecDepth 20000 in
theorem ggL_weightAt_X1_weightAt : GoodIn wsL_weightAt wsX1_weightAt := goodIn_ca (goodIn_r _ [6, 7, 8, 9, 10, 5, 11, 12, 13, 14, 15, 16, 17, 18, 19, 20, 21, 22, 23, 24, 25, 26, 27, 28, 29, 30] (by decide +kernel) (by decide +kernel)) (goodIn_sub (fun _ h => List.mem_cons_of_mem _ (List.mem_append_right _ h)) (by decide +kernel))
set_option maxRecDepth 20000 in
theorem gL_weightAt_X1_weightAt : GoodIn wsL_weightAt (wsV RL 32 RX1 yX1_weightAt wsX1_weightAt) := goodIn_app (goodIn_of _ (by decide +kernel)) ggL_weightAt_X1_weightAt
theorem dL_weightAt_0 : decode cL_weightAt 0 = .ok (.aload_n 2, 1) := by decide +kernel
theorem dL_weightAt_1 : decode cL_weightAt 1 = .ok (.iconst 0, 1) := by decide +kernel
theorem dL_weightAt_2 : decode cL_weightAt 2 = .ok (.aload_n 0, 1) := by decide +kernel
theorem dL_weightAt_3 : decode cL_weightAt 3 = .ok (.iload_n 1, 1) := by decide +kernel
theorem dL_weightAt_4 : decode cL_weightAt 4 = .ok (.invokevirtual 32, 3) := by decide +kernel
theorem dL_weightAt_7 : decode cL_weightAt 7 = .ok (.i2l, 1) := by decide +kernel
theorem dL_weightAt_8 : decode cL_weightAt 8 = .ok (.lastore, 1) := by decide +kernel
theorem dL_weightAt_9 : decode cL_weightAt 9 = .ok (.goto 6, 3) := by decide +kernel
theorem dL_weightAt_12 : decode cL_weightAt 12 = .ok (.astore_n 3, 1) := by decide +kernel
theorem dL_weightAt_13 : decode cL_weightAt 13 = .ok (.iconst 1, 1) := by decide +kernel
theorem dL_weightAt_14 : decode cL_weightAt 14 = .ok (.ireturn, 1) := by decide +kernel
theorem dL_weightAt_15 : decode cL_weightAt 15 = .ok (.iconst 0, 1) := by decide +kernel
theorem dL_weightAt_16 : decode cL_weightAt 16 = .ok (.ireturn, 1) := by decide +kernel
set_option maxRecDepth 20000 in
theorem ggL_find_X1_find : GoodIn wsL_find wsX1_find := goodIn_ca (goodIn_r _ [6, 7, 8, 9, 5, 10, 11, 12, 13, 14, 15, 16, 17, 18, 19, 20, 21, 22, 23, 24, 25, 26, 27, 28, 29, 30, 31, 32, 33, 34, 35, 36, 37, 38] (by decide +kernel) (by decide +kernel)) (goodIn_sub (fun _ h => List.mem_cons_of_mem _ (List.mem_append_right _ h)) (by decide +kernel))
set_option maxRecDepth 20000 in
theorem gL_find_X1_find : GoodIn wsL_find (wsV RL 35 RX1 yX1_find wsX1_find) := goodIn_app (goodIn_of _ (by decide +kernel)) ggL_find_X1_find
theorem dL_find_0 : decode cL_find 0 = .ok (.aload_n 2, 1) := by decide +kernel
theorem dL_find_1 : decode cL_find 1 = .ok (.iconst 0, 1) := by decide +kernel
theorem dL_find_2 : decode cL_find 2 = .ok (.aload_n 0, 1) := by decide +kernel
theorem dL_find_3 : decode cL_find 3 = .ok (.iload_n 1, 1) := by decide +kernel
theorem dL_find_4 : decode cL_find 4 = .ok (.invokevirtual 35, 3) := by decide +kernel
theorem dL_find_7 : decode cL_find 7 = .ok (.i2l, 1) := by decide +kernel
theorem dL_find_8 : decode cL_find 8 = .ok (.lastore, 1) := by decide +kernel
theorem dL_find_9 : decode cL_find 9 = .ok (.goto 6, 3) := by decide +kernel
theorem dL_find_12 : decode cL_find 12 = .ok (.astore_n 3, 1) := by decide +kernel
theorem dL_find_13 : decode cL_find 13 = .ok (.iconst 1, 1) := by decide +kernel
theorem dL_find_14 : decode cL_find 14 = .ok (.ireturn, 1) := by decide +kernel
theorem dL_find_15 : decode cL_find 15 = .ok (.iconst 0, 1) := by decide +kernel
theorem dL_find_16 : decode cL_find 16 = .ok (.ireturn, 1) := by decide +kernel
set_option maxRecDepth 20000 in
theorem ggL_looksFor_X1_looksFor : GoodIn wsL_looksFor wsX1_looksFor := goodIn_ca (goodIn_r _ [6, 7, 8, 9, 5, 10, 11, 12, 13, 14, 15, 16, 17, 18, 19, 20, 21, 22, 23, 24, 25, 26, 27, 28, 29, 30, 31, 32, 33, 34] (by decide +kernel) (by decide +kernel)) (goodIn_sub (fun _ h => List.mem_cons_of_mem _ (List.mem_append_right _ h)) (by decide +kernel))
set_option maxRecDepth 20000 in
theorem gL_looksFor_X1_looksFor : GoodIn wsL_looksFor (wsV RL 38 RX1 yX1_looksFor wsX1_looksFor) := goodIn_app (goodIn_of _ (by decide +kernel)) ggL_looksFor_X1_looksFor
theorem dL_looksFor_0 : decode cL_looksFor 0 = .ok (.aload_n 2, 1) := by decide +kernel
theorem dL_looksFor_1 : decode cL_looksFor 1 = .ok (.iconst 0, 1) := by decide +kernel
theorem dL_looksFor_2 : decode cL_looksFor 2 = .ok (.aload_n 0, 1) := by decide +kernel
theorem dL_looksFor_3 : decode cL_looksFor 3 = .ok (.iload_n 1, 1) := by decide +kernel
theorem dL_looksFor_4 : decode cL_looksFor 4 = .ok (.invokevirtual 38, 3) := by decide +kernel
theorem dL_looksFor_7 : decode cL_looksFor 7 = .ok (.i2l, 1) := by decide +kernel
theorem dL_looksFor_8 : decode cL_looksFor 8 = .ok (.lastore, 1) := by decide +kernel
theorem dL_looksFor_9 : decode cL_looksFor 9 = .ok (.goto 6, 3) := by decide +kernel
theorem dL_looksFor_12 : decode cL_looksFor 12 = .ok (.astore_n 3, 1) := by decide +kernel
theorem dL_looksFor_13 : decode cL_looksFor 13 = .ok (.iconst 1, 1) := by decide +kernel
theorem dL_looksFor_14 : decode cL_looksFor 14 = .ok (.ireturn, 1) := by decide +kernel
theorem dL_looksFor_15 : decode cL_looksFor 15 = .ok (.iconst 0, 1) := by decide +kernel
theorem dL_looksFor_16 : decode cL_looksFor 16 = .ok (.ireturn, 1) := by decide +kernel
set_option maxRecDepth 20000 in
theorem ggL_placeFor_X1_placeFor : GoodIn wsL_placeFor wsX1_placeFor := goodIn_ca (goodIn_r _ [6, 7, 8, 9, 5, 10, 11, 12, 13, 14, 15, 16, 17, 18, 19, 20, 21, 22, 23, 24, 25, 26, 27, 28, 29, 30, 31, 32, 33, 34, 35, 36, 37, 38, 39, 40, 41, 42, 43, 44, 45, 46] (by decide +kernel) (by decide +kernel)) (goodIn_sub (fun _ h => List.mem_cons_of_mem _ (List.mem_append_right _ h)) (by decide +kernel))
set_option maxRecDepth 20000 in
theorem gL_placeFor_X1_placeFor : GoodIn wsL_placeFor (wsV RL 41 RX1 yX1_placeFor wsX1_placeFor) := goodIn_app (goodIn_of _ (by decide +kernel)) ggL_placeFor_X1_placeFor
theorem dL_placeFor_0 : decode cL_placeFor 0 = .ok (.aload_n 2, 1) := by decide +kernel
theorem dL_placeFor_1 : decode cL_placeFor 1 = .ok (.iconst 0, 1) := by decide +kernel
theorem dL_placeFor_2 : decode cL_placeFor 2 = .ok (.aload_n 0, 1) := by decide +kernel
theorem dL_placeFor_3 : decode cL_placeFor 3 = .ok (.iload_n 1, 1) := by decide +kernel
theorem dL_placeFor_4 : decode cL_placeFor 4 = .ok (.invokevirtual 41, 3) := by decide +kernel
theorem dL_placeFor_7 : decode cL_placeFor 7 = .ok (.i2l, 1) := by decide +kernel
theorem dL_placeFor_8 : decode cL_placeFor 8 = .ok (.lastore, 1) := by decide +kernel
theorem dL_placeFor_9 : decode cL_placeFor 9 = .ok (.goto 6, 3) := by decide +kernel
theorem dL_placeFor_12 : decode cL_placeFor 12 = .ok (.astore_n 3, 1) := by decide +kernel
theorem dL_placeFor_13 : decode cL_placeFor 13 = .ok (.iconst 1, 1) := by decide +kernel
theorem dL_placeFor_14 : decode cL_placeFor 14 = .ok (.ireturn, 1) := by decide +kernel
theorem dL_placeFor_15 : decode cL_placeFor 15 = .ok (.iconst 0, 1) := by decide +kernel
theorem dL_placeFor_16 : decode cL_placeFor 16 = .ok (.ireturn, 1) := by decide +kernel
set_option maxRecDepth 20000 in
theorem ggL_lookedAt_X1_lookedAt : GoodIn wsL_lookedAt wsX1_lookedAt := goodIn_ca (goodIn_r _ [6, 7, 8, 9, 10, 11, 5, 12, 13, 14, 15, 16, 17, 18, 19, 20, 21, 22, 23, 24, 25] (by decide +kernel) (by decide +kernel)) (goodIn_sub (fun _ h => List.mem_cons_of_mem _ (List.mem_append_right _ h)) (by decide +kernel))
set_option maxRecDepth 20000 in
theorem gL_lookedAt_X1_lookedAt : GoodIn wsL_lookedAt (wsV RL 44 RX1 yX1_lookedAt wsX1_lookedAt) := goodIn_app (goodIn_of _ (by decide +kernel)) ggL_lookedAt_X1_lookedAt
theorem dL_lookedAt_0 : decode cL_lookedAt 0 = .ok (.aload_n 3, 1) := by decide +kernel
theorem dL_lookedAt_1 : decode cL_lookedAt 1 = .ok (.iconst 0, 1) := by decide +kernel
theorem dL_lookedAt_2 : decode cL_lookedAt 2 = .ok (.aload_n 0, 1) := by decide +kernel
theorem dL_lookedAt_3 : decode cL_lookedAt 3 = .ok (.iload_n 1, 1) := by decide +kernel
theorem dL_lookedAt_4 : decode cL_lookedAt 4 = .ok (.iload_n 2, 1) := by decide +kernel
theorem dL_lookedAt_5 : decode cL_lookedAt 5 = .ok (.invokevirtual 44, 3) := by decide +kernel
theorem dL_lookedAt_8 : decode cL_lookedAt 8 = .ok (.i2l, 1) := by decide +kernel
theorem dL_lookedAt_9 : decode cL_lookedAt 9 = .ok (.lastore, 1) := by decide +kernel
theorem dL_lookedAt_10 : decode cL_lookedAt 10 = .ok (.goto 7, 3) := by decide +kernel
theorem dL_lookedAt_13 : decode cL_lookedAt 13 = .ok (.astore 4, 2) := by decide +kernel
theorem dL_lookedAt_15 : decode cL_lookedAt 15 = .ok (.iconst 1, 1) := by decide +kernel
theorem dL_lookedAt_16 : decode cL_lookedAt 16 = .ok (.ireturn, 1) := by decide +kernel
theorem dL_lookedAt_17 : decode cL_lookedAt 17 = .ok (.iconst 0, 1) := by decide +kernel
theorem dL_lookedAt_18 : decode cL_lookedAt 18 = .ok (.ireturn, 1) := by decide +kernel
set_option maxRecDepth 20000 in
theorem ggL_rowAt_X1_rowAt : GoodIn wsL_rowAt wsX1_rowAt := goodIn_ca (goodIn_r _ [6, 7, 8, 9, 10, 5, 11, 12, 13, 14, 15, 16, 17, 18, 19, 20, 21, 22, 23, 24, 25, 26, 27, 28, 29, 30, 31, 32, 33, 34, 35, 36, 37, 38, 39, 40, 41, 42] (by decide +kernel) (by decide +kernel)) (goodIn_sub (fun _ h => List.mem_cons_of_mem _ (List.mem_append_right _ h)) (by decide +kernel))
set_option maxRecDepth 20000 in
theorem gL_rowAt_X1_rowAt : GoodIn wsL_rowAt (wsV RL 47 RX1 yX1_rowAt wsX1_rowAt) := goodIn_app (goodIn_of _ (by decide +kernel)) ggL_rowAt_X1_rowAt
theorem dL_rowAt_0 : decode cL_rowAt 0 = .ok (.aload_n 2, 1) := by decide +kernel
theorem dL_rowAt_1 : decode cL_rowAt 1 = .ok (.iconst 0, 1) := by decide +kernel
theorem dL_rowAt_2 : decode cL_rowAt 2 = .ok (.aload_n 0, 1) := by decide +kernel
theorem dL_rowAt_3 : decode cL_rowAt 3 = .ok (.iload_n 1, 1) := by decide +kernel
theorem dL_rowAt_4 : decode cL_rowAt 4 = .ok (.invokevirtual 47, 3) := by decide +kernel
theorem dL_rowAt_7 : decode cL_rowAt 7 = .ok (.i2l, 1) := by decide +kernel
theorem dL_rowAt_8 : decode cL_rowAt 8 = .ok (.lastore, 1) := by decide +kernel
theorem dL_rowAt_9 : decode cL_rowAt 9 = .ok (.goto 6, 3) := by decide +kernel
theorem dL_rowAt_12 : decode cL_rowAt 12 = .ok (.astore_n 3, 1) := by decide +kernel
theorem dL_rowAt_13 : decode cL_rowAt 13 = .ok (.iconst 1, 1) := by decide +kernel
theorem dL_rowAt_14 : decode cL_rowAt 14 = .ok (.ireturn, 1) := by decide +kernel
theorem dL_rowAt_15 : decode cL_rowAt 15 = .ok (.iconst 0, 1) := by decide +kernel
theorem dL_rowAt_16 : decode cL_rowAt 16 = .ok (.ireturn, 1) := by decide +kernel
set_option maxRecDepth 20000 in
theorem ggL_looksWith_X1_looksWith : GoodIn wsL_looksWith wsX1_looksWith := goodIn_ca (goodIn_r _ [6, 7, 8, 5, 9, 10, 11, 12, 13, 14, 15, 16, 17, 18, 19, 20, 21, 22, 23, 24, 25, 26, 27, 28, 29, 30, 31, 32, 33, 34, 35, 36, 37, 38, 39, 40, 41, 42, 43, 44, 45, 46, 47, 48, 49, 50, 51, 52, 53, 54, 55, 56, 57, 58, 59, 60, 61, 62, 63, 64, 65, 66, 67, 68, 69, 70, 71, 72, 73] (by decide +kernel) (by decide +kernel)) (goodIn_sub (fun _ h => List.mem_cons_of_mem _ (List.mem_append_right _ h)) (by decide +kernel))
set_option maxRecDepth 20000 in
theorem gL_looksWith_X1_looksWith : GoodIn wsL_looksWith (wsV RL 50 RX1 yX1_looksWith wsX1_looksWith) := goodIn_app (goodIn_of _ (by decide +kernel)) ggL_looksWith_X1_looksWith
theorem dL_looksWith_0 : decode cL_looksWith 0 = .ok (.aload_n 3, 1) := by decide +kernel
theorem dL_looksWith_1 : decode cL_looksWith 1 = .ok (.iconst 0, 1) := by decide +kernel
theorem dL_looksWith_2 : decode cL_looksWith 2 = .ok (.aload_n 0, 1) := by decide +kernel
theorem dL_looksWith_3 : decode cL_looksWith 3 = .ok (.iload_n 1, 1) := by decide +kernel
theorem dL_looksWith_4 : decode cL_looksWith 4 = .ok (.iload_n 2, 1) := by decide +kernel
theorem dL_looksWith_5 : decode cL_looksWith 5 = .ok (.invokevirtual 50, 3) := by decide +kernel
theorem dL_looksWith_8 : decode cL_looksWith 8 = .ok (.i2l, 1) := by decide +kernel
theorem dL_looksWith_9 : decode cL_looksWith 9 = .ok (.lastore, 1) := by decide +kernel
theorem dL_looksWith_10 : decode cL_looksWith 10 = .ok (.goto 7, 3) := by decide +kernel
theorem dL_looksWith_13 : decode cL_looksWith 13 = .ok (.astore 4, 2) := by decide +kernel
theorem dL_looksWith_15 : decode cL_looksWith 15 = .ok (.iconst 1, 1) := by decide +kernel
theorem dL_looksWith_16 : decode cL_looksWith 16 = .ok (.ireturn, 1) := by decide +kernel
theorem dL_looksWith_17 : decode cL_looksWith 17 = .ok (.iconst 0, 1) := by decide +kernel
theorem dL_looksWith_18 : decode cL_looksWith 18 = .ok (.ireturn, 1) := by decide +kernel
set_option maxRecDepth 20000 in
theorem ggL_hooksWanted_X1_hooksWanted : GoodIn wsL_hooksWanted wsX1_hooksWanted := goodIn_ca (goodIn_r _ [6, 7, 8, 9, 10, 11, 5, 12, 13, 14, 15, 16, 17, 18, 19, 20, 21, 22, 23, 24, 25, 26, 27, 28, 29, 30, 31, 32, 33, 34, 35, 36, 37, 38, 39, 40, 41, 42, 43, 44, 45, 46, 47, 48, 49, 50, 51, 52, 53, 54, 55, 56, 57, 58, 59, 60, 61, 62, 63, 64, 65, 66, 67, 68, 69, 70, 71, 72, 73, 74, 75, 76, 77, 78] (by decide +kernel) (by decide +kernel)) (goodIn_sub (fun _ h => List.mem_cons_of_mem _ (List.mem_append_right _ h)) (by decide +kernel))
set_option maxRecDepth 20000 in
theorem gL_hooksWanted_X1_hooksWanted : GoodIn wsL_hooksWanted (wsV RL 53 RX1 yX1_hooksWanted wsX1_hooksWanted) := goodIn_app (goodIn_of _ (by decide +kernel)) ggL_hooksWanted_X1_hooksWanted
theorem dL_hooksWanted_0 : decode cL_hooksWanted 0 = .ok (.aload_n 2, 1) := by decide +kernel
theorem dL_hooksWanted_1 : decode cL_hooksWanted 1 = .ok (.iconst 0, 1) := by decide +kernel
theorem dL_hooksWanted_2 : decode cL_hooksWanted 2 = .ok (.aload_n 0, 1) := by decide +kernel
theorem dL_hooksWanted_3 : decode cL_hooksWanted 3 = .ok (.iload_n 1, 1) := by decide +kernel
theorem dL_hooksWanted_4 : decode cL_hooksWanted 4 = .ok (.invokevirtual 53, 3) := by decide +kernel
theorem dL_hooksWanted_7 : decode cL_hooksWanted 7 = .ok (.i2l, 1) := by decide +kernel
theorem dL_hooksWanted_8 : decode cL_hooksWanted 8 = .ok (.lastore, 1) := by decide +kernel
theorem dL_hooksWanted_9 : decode cL_hooksWanted 9 = .ok (.goto 6, 3) := by decide +kernel
theorem dL_hooksWanted_12 : decode cL_hooksWanted 12 = .ok (.astore_n 3, 1) := by decide +kernel
theorem dL_hooksWanted_13 : decode cL_hooksWanted 13 = .ok (.iconst 1, 1) := by decide +kernel
theorem dL_hooksWanted_14 : decode cL_hooksWanted 14 = .ok (.ireturn, 1) := by decide +kernel
theorem dL_hooksWanted_15 : decode cL_hooksWanted 15 = .ok (.iconst 0, 1) := by decide +kernel
theorem dL_hooksWanted_16 : decode cL_hooksWanted 16 = .ok (.ireturn, 1) := by decide +kernel
set_option maxRecDepth 20000 in
theorem ggL_law_X1_init : GoodIn wsL_law wsX1_init := goodIn_r _ [9, 10, 11, 12, 13, 14, 15, 16, 17, 18, 19, 20, 21, 22, 23, 24, 25, 26, 27, 28, 29, 30, 31, 32, 33, 34, 591, 592, 593, 594, 578, 579] (by decide +kernel) (by decide +kernel)
set_option maxRecDepth 20000 in
theorem gL_law_X1_init : GoodIn wsL_law (wsX1_init) := ggL_law_X1_init
set_option maxRecDepth 20000 in
theorem ggL_law_X2_init : GoodIn wsL_law wsX2_init := goodIn_r _ [37, 38, 11, 12, 39, 22, 40, 41, 42, 43, 44, 45, 5, 46, 580, 581, 582, 583, 584, 585, 586, 587, 588, 589, 590] (by decide +kernel) (by decide +kernel)
set_option maxRecDepth 20000 in
theorem gL_law_X2_init : GoodIn wsL_law (wsX2_init) := ggL_law_X2_init
set_option maxRecDepth 20000 in
theorem ggL_law_L_hang : GoodIn wsL_law wsL_hang := goodIn_ca (goodIn_ca (goodIn_r _ [50, 51, 52, 53, 54, 55, 2, 56, 57, 58, 59, 60, 16, 61, 62, 63, 64, 65, 66, 15, 67, 68, 69, 70, 71, 29, 72, 73, 74, 75, 23, 76, 77, 78, 79, 80, 81, 82, 83, 84, 85, 86, 87, 30, 88, 32, 33, 34, 24, 578, 579, 591, 592, 593, 594] (by decide +kernel) (by decide +kernel)) (goodIn_sub (fun _ h => List.mem_append_left _ (List.mem_append_left _ (List.mem_append_right _ h))) (by decide +kernel))) (goodIn_sub (fun _ h => List.mem_append_left _ (List.mem_append_right _ h)) (by decide +kernel))
set_option maxRecDepth 20000 in
theorem gL_law_L_hang : GoodIn wsL_law (va_wsS RL 60 yL_hang wsL_hang) := goodIn_app (goodIn_of _ (by decide +kernel)) ggL_law_L_hang
set_option maxRecDepth 20000 in
theorem ggL_law_X2_hang : GoodIn wsL_law wsX2_hang := goodIn_r _ [92, 93, 94, 95, 5, 96, 97, 98, 99, 100, 101, 102, 103, 104, 105, 106, 107, 108, 109, 110, 111, 112, 113, 39, 40, 114, 115, 116, 117, 118, 119, 120, 121, 122, 123, 124, 125, 126, 127, 128, 41, 580, 581, 582, 583, 584, 585, 586, 587, 588, 589, 590] (by decide +kernel) (by decide +kernel)
set_option maxRecDepth 20000 in
theorem gL_law_X2_hang : GoodIn wsL_law (wsV RL 65 RX2 yX2_hang wsX2_hang) := goodIn_app (goodIn_of _ (by decide +kernel)) ggL_law_X2_hang
set_option maxRecDepth 20000 in
theorem ggL_law_X2_thrown : GoodIn wsL_law wsX2_thrown := goodIn_r _ [132, 93, 580, 581, 582, 583, 584, 585, 586, 587, 588, 589, 590] (by decide +kernel) (by decide +kernel)
set_option maxRecDepth 20000 in
theorem gL_law_X2_thrown : GoodIn wsL_law (wsV RL 66 RX2 yX2_thrown wsX2_thrown) := goodIn_app (goodIn_of _ (by decide +kernel)) ggL_law_X2_thrown
set_option maxRecDepth 20000 in
theorem ggL_law_L_take : GoodIn wsL_law wsL_take := goodIn_ca (goodIn_ca (goodIn_r _ [135, 51, 52, 136, 137, 138, 2, 139, 59, 60, 16, 61, 62, 63, 57, 58, 140, 141, 142, 15, 143, 80, 81, 82, 83, 29, 84, 85, 86, 87, 30, 72, 73, 74, 75, 23, 144, 145, 146, 147, 24, 148, 149, 150, 151, 31, 32, 33, 34, 578, 579, 591, 592, 593, 594] (by decide +kernel) (by decide +kernel)) (goodIn_sub (fun _ h => List.mem_append_left _ (List.mem_append_right _ h)) (by decide +kernel))) (goodIn_sub (fun _ h => List.mem_append_left _ (List.mem_append_left _ (List.mem_append_right _ h))) (by decide +kernel))
set_option maxRecDepth 20000 in
theorem gL_law_L_take : GoodIn wsL_law (va_wsS RL 70 yL_take wsL_take) := goodIn_app (goodIn_of _ (by decide +kernel)) ggL_law_L_take
set_option maxRecDepth 20000 in
theorem ggL_law_X2_take : GoodIn wsL_law wsX2_take := goodIn_r _ [155, 93, 124, 40, 41, 94, 95, 5, 96, 97, 98, 99, 100, 101, 102, 103, 114, 115, 116, 117, 39, 118, 119, 120, 121, 122, 123, 109, 108, 580, 581, 582, 583, 584, 585, 586, 587, 588, 589, 590] (by decide +kernel) (by decide +kernel)
set_option maxRecDepth 20000 in
theorem gL_law_X2_take : GoodIn wsL_law (wsV RL 73 RX2 yX2_take wsX2_take) := goodIn_app (goodIn_of _ (by decide +kernel)) ggL_law_X2_take
set_option maxRecDepth 20000 in
theorem ggL_law_L_rehang : GoodIn wsL_law wsL_rehang := goodIn_ca (goodIn_ca (goodIn_r _ [158, 51, 52, 159, 160, 161, 2, 162, 59, 60, 163, 164, 165, 57, 58, 166, 167, 168, 169, 17, 16, 170, 26, 27, 15, 28, 29, 30, 23, 31, 32, 33, 34, 24, 171, 172, 173, 174, 175, 176, 177, 178, 72, 73, 74, 75, 179, 77, 78, 79, 80, 81, 82, 83, 84, 85, 86, 87, 144, 145, 146, 147, 88, 180, 181, 182, 183, 184, 185, 186, 187, 188, 189, 190, 191, 578, 579, 591, 592, 593, 594] (by decide +kernel) (by decide +kernel)) (goodIn_sub (fun _ h => List.mem_append_left _ (List.mem_append_right _ h)) (by decide +kernel))) (goodIn_sub (fun _ h => List.mem_append_left _ (List.mem_append_left _ (List.mem_append_right _ h))) (by decide +kernel))
set_option maxRecDepth 20000 in
theorem gL_law_L_rehang : GoodIn wsL_law (va_wsS RL 74 yL_rehang wsL_rehang) := goodIn_app (goodIn_of _ (by decide +kernel)) ggL_law_L_rehang
set_option maxRecDepth 20000 in
theorem ggL_law_X2_rehang : GoodIn wsL_law wsX2_rehang := goodIn_r _ [195, 93, 42, 40, 41, 43, 39, 118, 97, 98, 5, 99, 100, 101, 102, 103, 196, 197, 198, 199, 109, 123, 44, 45, 46, 119, 120, 121, 122, 124, 108, 200, 201, 202, 203, 580, 581, 582, 583, 584, 585, 586, 587, 588, 589, 590] (by decide +kernel) (by decide +kernel)
set_option maxRecDepth 20000 in
theorem gL_law_X2_rehang : GoodIn wsL_law (wsV RL 76 RX2 yX2_rehang wsX2_rehang) := goodIn_app (goodIn_of _ (by decide +kernel)) ggL_law_X2_rehang
set_option maxRecDepth 20000 in
theorem ggL_law_X1_sweep : GoodIn wsL_law wsX1_sweep := goodIn_r _ [207, 16, 208, 209, 210, 15, 211, 29, 212, 213, 214, 215, 72, 73, 74, 75, 23, 171, 172, 173, 174, 216, 217, 218, 219, 30, 25, 26, 27, 28, 31, 32, 33, 34, 24, 220, 221, 222, 223, 224, 225, 226, 227, 228, 229, 230, 231, 578, 579, 591, 592, 593, 594] (by decide +kernel) (by decide +kernel)
set_option maxRecDepth 20000 in
theorem gL_law_X1_sweep : GoodIn wsL_law (wsV RL 77 RX1 yX1_sweep wsX1_sweep) := goodIn_app (goodIn_of _ (by decide +kernel)) ggL_law_X1_sweep
set_option maxRecDepth 20000 in
theorem ggL_law_X2_sweep : GoodIn wsL_law wsX2_sweep := goodIn_r _ [235, 93, 39, 40, 236, 237, 238, 5, 239, 44, 45, 46, 580, 581, 582, 583, 584, 585, 586, 587, 588, 589, 590] (by decide +kernel) (by decide +kernel)
set_option maxRecDepth 20000 in
theorem gL_law_X2_sweep : GoodIn wsL_law (wsV RL 80 RX2 yX2_sweep wsX2_sweep) := goodIn_app (goodIn_of _ (by decide +kernel)) ggL_law_X2_sweep
set_option maxRecDepth 20000 in
theorem ggL_law_X1_hooks : GoodIn wsL_law wsX1_hooks := goodIn_r _ [243, 16, 171, 172, 173, 15, 174, 29, 578, 579, 591, 592, 593, 594] (by decide +kernel) (by decide +kernel)
set_option maxRecDepth 20000 in
theorem gL_law_X1_hooks : GoodIn wsL_law (wsV RL 81 RX1 yX1_hooks wsX1_hooks) := goodIn_app (goodIn_of _ (by decide +kernel)) ggL_law_X1_hooks
set_option maxRecDepth 20000 in
theorem ggL_law_X2_hooks : GoodIn wsL_law wsX2_hooks := goodIn_r _ [247, 39, 248, 249, 250, 5, 251, 93, 580, 581, 582, 583, 584, 585, 586, 587, 588, 589, 590] (by decide +kernel) (by decide +kernel)
set_option maxRecDepth 20000 in
theorem gL_law_X2_hooks : GoodIn wsL_law (wsV RL 84 RX2 yX2_hooks wsX2_hooks) := goodIn_app (goodIn_of _ (by decide +kernel)) ggL_law_X2_hooks
set_option maxRecDepth 20000 in
theorem ggL_law_X1_way : GoodIn wsL_law wsX1_way := goodIn_r _ [255, 16, 188, 189, 190, 15, 191, 30, 578, 579, 591, 592, 593, 594] (by decide +kernel) (by decide +kernel)
set_option maxRecDepth 20000 in
theorem gL_law_X1_way : GoodIn wsL_law (wsV RL 85 RX1 yX1_way wsX1_way) := goodIn_app (goodIn_of _ (by decide +kernel)) ggL_law_X1_way
set_option maxRecDepth 20000 in
theorem ggL_law_X2_way : GoodIn wsL_law wsX2_way := goodIn_r _ [259, 118, 248, 249, 250, 5, 251, 93, 580, 581, 582, 583, 584, 585, 586, 587, 588, 589, 590] (by decide +kernel) (by decide +kernel)
set_option maxRecDepth 20000 in
theorem gL_law_X2_way : GoodIn wsL_law (wsV RL 88 RX2 yX2_way wsX2_way) := goodIn_app (goodIn_of _ (by decide +kernel)) ggL_law_X2_way
set_option maxRecDepth 20000 in
theorem ggL_law_X1_coats : GoodIn wsL_law wsX1_coats := goodIn_r _ [263, 16, 208, 209, 210, 15, 211, 29, 212, 213, 214, 215, 72, 73, 74, 75, 23, 578, 579, 591, 592, 593, 594] (by decide +kernel) (by decide +kernel)
set_option maxRecDepth 20000 in
theorem gL_law_X1_coats : GoodIn wsL_law (wsV RL 89 RX1 yX1_coats wsX1_coats) := goodIn_app (goodIn_of _ (by decide +kernel)) ggL_law_X1_coats
set_option maxRecDepth 20000 in
theorem ggL_law_X2_coats : GoodIn wsL_law wsX2_coats := goodIn_r _ [267, 268, 269, 270, 5, 271, 39, 40, 248, 249, 250, 251, 93, 580, 581, 582, 583, 584, 585, 586, 587, 588, 589, 590] (by decide +kernel) (by decide +kernel)
set_option maxRecDepth 20000 in
theorem gL_law_X2_coats : GoodIn wsL_law (wsV RL 92 RX2 yX2_coats wsX2_coats) := goodIn_app (goodIn_of _ (by decide +kernel)) ggL_law_X2_coats
set_option maxRecDepth 20000 in
theorem ggL_law_X1_tickets : GoodIn wsL_law wsX1_tickets := goodIn_r _ [275, 16, 208, 209, 210, 15, 211, 29, 212, 213, 214, 215, 72, 73, 74, 75, 23, 578, 579, 591, 592, 593, 594] (by decide +kernel) (by decide +kernel)
set_option maxRecDepth 20000 in
theorem gL_law_X1_tickets : GoodIn wsL_law (wsV RL 93 RX1 yX1_tickets wsX1_tickets) := goodIn_app (goodIn_of _ (by decide +kernel)) ggL_law_X1_tickets
set_option maxRecDepth 20000 in
theorem ggL_law_X2_tickets : GoodIn wsL_law wsX2_tickets := goodIn_r _ [279, 236, 237, 238, 5, 239, 39, 40, 248, 249, 250, 251, 93, 580, 581, 582, 583, 584, 585, 586, 587, 588, 589, 590] (by decide +kernel) (by decide +kernel)
set_option maxRecDepth 20000 in
theorem gL_law_X2_tickets : GoodIn wsL_law (wsV RL 96 RX2 yX2_tickets wsX2_tickets) := goodIn_app (goodIn_of _ (by decide +kernel)) ggL_law_X2_tickets
set_option maxRecDepth 20000 in
theorem ggL_law_L_stateOf : GoodIn wsL_law wsL_stateOf := goodIn_ca (goodIn_r _ [282, 283, 284, 285, 286, 2, 287, 16, 288, 289, 290, 291, 292, 293, 171, 172, 173, 15, 174, 29, 294, 213, 214, 215, 72, 73, 74, 75, 23, 578, 579, 591, 592, 593, 594] (by decide +kernel) (by decide +kernel)) (goodIn_sub (fun _ h => List.mem_append_right _ h) (by decide +kernel))
set_option maxRecDepth 20000 in
theorem gL_law_L_stateOf : GoodIn wsL_law (va_wsS RL 97 yL_stateOf wsL_stateOf) := goodIn_app (goodIn_of _ (by decide +kernel)) ggL_law_L_stateOf
set_option maxRecDepth 20000 in
theorem ggL_law_X2_stateOf : GoodIn wsL_law wsX2_stateOf := goodIn_r _ [298, 93, 299, 300, 301, 5, 302, 39, 97, 98, 99, 303, 304, 305, 306, 40, 100, 101, 102, 103, 580, 581, 582, 583, 584, 585, 586, 587, 588, 589, 590] (by decide +kernel) (by decide +kernel)
set_option maxRecDepth 20000 in
theorem gL_law_X2_stateOf : GoodIn wsL_law (wsV RL 99 RX2 yX2_stateOf wsX2_stateOf) := goodIn_app (goodIn_of _ (by decide +kernel)) ggL_law_X2_stateOf
set_option maxRecDepth 20000 in
theorem ggL_law_L_coatAt : GoodIn wsL_law wsL_coatAt := goodIn_ca (goodIn_r _ [309, 283, 310, 311, 312, 2, 313, 16, 288, 289, 290, 291, 292, 293, 171, 172, 173, 15, 174, 29, 175, 176, 177, 178, 72, 73, 74, 75, 23, 578, 579, 591, 592, 593, 594] (by decide +kernel) (by decide +kernel)) (goodIn_sub (fun _ h => List.mem_append_right _ h) (by decide +kernel))
set_option maxRecDepth 20000 in
theorem gL_law_L_coatAt : GoodIn wsL_law (va_wsS RL 100 yL_coatAt wsL_coatAt) := goodIn_app (goodIn_of _ (by decide +kernel)) ggL_law_L_coatAt
set_option maxRecDepth 20000 in
theorem ggL_law_X2_coatAt : GoodIn wsL_law wsX2_coatAt := goodIn_r _ [317, 93, 299, 300, 301, 5, 302, 39, 97, 98, 99, 318, 319, 320, 321, 40, 322, 323, 324, 325, 100, 101, 102, 103, 580, 581, 582, 583, 584, 585, 586, 587, 588, 589, 590] (by decide +kernel) (by decide +kernel)
set_option maxRecDepth 20000 in
theorem gL_law_X2_coatAt : GoodIn wsL_law (wsV RL 102 RX2 yX2_coatAt wsX2_coatAt) := goodIn_app (goodIn_of _ (by decide +kernel)) ggL_law_X2_coatAt
set_option maxRecDepth 20000 in
theorem ggL_law_L_weightAt : GoodIn wsL_law wsL_weightAt := goodIn_ca (goodIn_r _ [328, 283, 329, 330, 331, 2, 332, 16, 288, 289, 290, 291, 292, 293, 171, 172, 173, 15, 174, 29, 144, 145, 146, 147, 24, 578, 579, 591, 592, 593, 594] (by decide +kernel) (by decide +kernel)) (goodIn_sub (fun _ h => List.mem_append_right _ h) (by decide +kernel))
set_option maxRecDepth 20000 in
theorem gL_law_L_weightAt : GoodIn wsL_law (va_wsS RL 103 yL_weightAt wsL_weightAt) := goodIn_app (goodIn_of _ (by decide +kernel)) ggL_law_L_weightAt
set_option maxRecDepth 20000 in
theorem ggL_law_X2_weightAt : GoodIn wsL_law wsX2_weightAt := goodIn_r _ [336, 93, 299, 300, 301, 5, 302, 39, 97, 98, 99, 337, 338, 339, 340, 40, 41, 100, 101, 102, 103, 580, 581, 582, 583, 584, 585, 586, 587, 588, 589, 590] (by decide +kernel) (by decide +kernel)
set_option maxRecDepth 20000 in
theorem gL_law_X2_weightAt : GoodIn wsL_law (wsV RL 105 RX2 yX2_weightAt wsX2_weightAt) := goodIn_app (goodIn_of _ (by decide +kernel)) ggL_law_X2_weightAt
set_option maxRecDepth 20000 in
theorem ggL_law_X1_weight : GoodIn wsL_law wsX1_weight := goodIn_r _ [344, 16, 345, 346, 347, 15, 348, 29, 349, 145, 146, 147, 24, 578, 579, 591, 592, 593, 594] (by decide +kernel) (by decide +kernel)
set_option maxRecDepth 20000 in
theorem gL_law_X1_weight : GoodIn wsL_law (wsV RL 106 RX1 yX1_weight wsX1_weight) := goodIn_app (goodIn_of _ (by decide +kernel)) ggL_law_X1_weight
set_option maxRecDepth 20000 in
theorem ggL_law_X2_weight : GoodIn wsL_law wsX2_weight := goodIn_r _ [353, 354, 355, 356, 5, 357, 39, 337, 338, 339, 340, 40, 41, 248, 249, 250, 251, 93, 580, 581, 582, 583, 584, 585, 586, 587, 588, 589, 590] (by decide +kernel) (by decide +kernel)
set_option maxRecDepth 20000 in
theorem gL_law_X2_weight : GoodIn wsL_law (wsV RL 109 RX2 yX2_weight wsX2_weight) := goodIn_app (goodIn_of _ (by decide +kernel)) ggL_law_X2_weight
set_option maxRecDepth 20000 in
theorem ggL_law_X1_heaviestAt : GoodIn wsL_law wsX1_heaviestAt := goodIn_r _ [361, 16, 362, 363, 364, 15, 365, 29, 349, 145, 146, 147, 24, 578, 579, 591, 592, 593, 594] (by decide +kernel) (by decide +kernel)
set_option maxRecDepth 20000 in
theorem gL_law_X1_heaviestAt : GoodIn wsL_law (wsV RL 110 RX1 yX1_heaviestAt wsX1_heaviestAt) := goodIn_app (goodIn_of _ (by decide +kernel)) ggL_law_X1_heaviestAt
set_option maxRecDepth 20000 in
theorem ggL_law_X2_heaviestAt : GoodIn wsL_law wsX2_heaviestAt := goodIn_r _ [369, 370, 371, 372, 5, 373, 39, 40, 41, 248, 249, 250, 251, 93, 580, 581, 582, 583, 584, 585, 586, 587, 588, 589, 590] (by decide +kernel) (by decide +kernel)
set_option maxRecDepth 20000 in
theorem gL_law_X2_heaviestAt : GoodIn wsL_law (wsV RL 113 RX2 yX2_heaviestAt wsX2_heaviestAt) := goodIn_app (goodIn_of _ (by decide +kernel)) ggL_law_X2_heaviestAt
set_option maxRecDepth 20000 in
theorem ggL_law_L_find : GoodIn wsL_law wsL_find := goodIn_ca (goodIn_r _ [376, 51, 377, 378, 379, 2, 380, 16, 61, 62, 63, 57, 58, 140, 141, 142, 15, 143, 80, 81, 82, 83, 29, 84, 85, 86, 87, 30, 72, 73, 74, 75, 23, 578, 579, 591, 592, 593, 594] (by decide +kernel) (by decide +kernel)) (goodIn_sub (fun _ h => List.mem_append_left _ (List.mem_append_left _ (List.mem_append_right _ h))) (by decide +kernel))
set_option maxRecDepth 20000 in
theorem gL_law_L_find : GoodIn wsL_law (va_wsS RL 114 yL_find wsL_find) := goodIn_app (goodIn_of _ (by decide +kernel)) ggL_law_L_find
set_option maxRecDepth 20000 in
theorem ggL_law_X2_find : GoodIn wsL_law wsX2_find := goodIn_r _ [384, 93, 124, 94, 95, 5, 96, 97, 98, 99, 100, 101, 102, 103, 114, 115, 116, 117, 40, 39, 118, 119, 120, 121, 122, 123, 109, 108, 580, 581, 582, 583, 584, 585, 586, 587, 588, 589, 590] (by decide +kernel) (by decide +kernel)
set_option maxRecDepth 20000 in
theorem gL_law_X2_find : GoodIn wsL_law (wsV RL 116 RX2 yX2_find wsX2_find) := goodIn_app (goodIn_of _ (by decide +kernel)) ggL_law_X2_find
set_option maxRecDepth 20000 in
theorem ggL_law_L_looksFor : GoodIn wsL_law wsL_looksFor := goodIn_ca (goodIn_r _ [387, 51, 388, 389, 390, 2, 391, 16, 61, 62, 63, 57, 58, 392, 81, 82, 15, 83, 29, 84, 85, 86, 87, 30, 72, 73, 74, 75, 23, 578, 579, 591, 592, 593, 594] (by decide +kernel) (by decide +kernel)) (goodIn_sub (fun _ h => List.mem_append_left _ (List.mem_append_left _ (List.mem_append_right _ h))) (by decide +kernel))
set_option maxRecDepth 20000 in
theorem gL_law_L_looksFor : GoodIn wsL_law (va_wsS RL 117 yL_looksFor wsL_looksFor) := goodIn_app (goodIn_of _ (by decide +kernel)) ggL_law_L_looksFor
set_option maxRecDepth 20000 in
theorem ggL_law_X2_looksFor : GoodIn wsL_law wsX2_looksFor := goodIn_r _ [396, 93, 94, 95, 5, 96, 97, 98, 99, 397, 398, 399, 400, 123, 114, 115, 116, 117, 40, 39, 118, 119, 120, 121, 122, 124, 109, 108, 100, 101, 102, 103, 580, 581, 582, 583, 584, 585, 586, 587, 588, 589, 590] (by decide +kernel) (by decide +kernel)
set_option maxRecDepth 20000 in
theorem gL_law_X2_looksFor : GoodIn wsL_law (wsV RL 119 RX2 yX2_looksFor wsX2_looksFor) := goodIn_app (goodIn_of _ (by decide +kernel)) ggL_law_X2_looksFor
set_option maxRecDepth 20000 in
theorem ggL_law_L_placeFor : GoodIn wsL_law wsL_placeFor := goodIn_ca (goodIn_r _ [403, 51, 404, 405, 406, 2, 407, 16, 61, 62, 63, 57, 58, 64, 65, 66, 15, 67, 68, 69, 70, 71, 29, 72, 73, 74, 75, 23, 76, 77, 78, 79, 80, 81, 82, 83, 84, 85, 86, 87, 30, 578, 579, 591, 592, 593, 594] (by decide +kernel) (by decide +kernel)) (goodIn_sub (fun _ h => List.mem_append_left _ (List.mem_append_left _ (List.mem_append_right _ h))) (by decide +kernel))
set_option maxRecDepth 20000 in
theorem gL_law_L_placeFor : GoodIn wsL_law (va_wsS RL 120 yL_placeFor wsL_placeFor) := goodIn_app (goodIn_of _ (by decide +kernel)) ggL_law_L_placeFor
set_option maxRecDepth 20000 in
theorem ggL_law_X2_placeFor : GoodIn wsL_law wsX2_placeFor := goodIn_r _ [411, 93, 94, 95, 5, 96, 97, 98, 99, 104, 105, 106, 107, 108, 109, 110, 111, 112, 113, 39, 40, 114, 115, 116, 117, 118, 119, 120, 121, 122, 123, 124, 100, 101, 102, 103, 580, 581, 582, 583, 584, 585, 586, 587, 588, 589, 590] (by decide +kernel) (by decide +kernel)
set_option maxRecDepth 20000 in
theorem gL_law_X2_placeFor : GoodIn wsL_law (wsV RL 122 RX2 yX2_placeFor wsX2_placeFor) := goodIn_app (goodIn_of _ (by decide +kernel)) ggL_law_X2_placeFor
set_option maxRecDepth 20000 in
theorem ggL_law_L_lookedAt : GoodIn wsL_law wsL_lookedAt := goodIn_ca (goodIn_r _ [414, 51, 415, 416, 417, 2, 418, 57, 58, 16, 61, 62, 63, 419, 85, 86, 15, 87, 29, 30, 578, 579, 591, 592, 593, 594] (by decide +kernel) (by decide +kernel)) (goodIn_sub (fun _ h => List.mem_append_left _ (List.mem_append_left _ (List.mem_append_right _ h))) (by decide +kernel))
set_option maxRecDepth 20000 in
theorem gL_law_L_lookedAt : GoodIn wsL_law (va_wsS RL 123 yL_lookedAt wsL_lookedAt) := goodIn_app (goodIn_of _ (by decide +kernel)) ggL_law_L_lookedAt
set_option maxRecDepth 20000 in
theorem ggL_law_X2_lookedAt : GoodIn wsL_law wsX2_lookedAt := goodIn_r _ [423, 93, 118, 39, 94, 95, 5, 96, 97, 98, 99, 100, 101, 102, 103, 580, 581, 582, 583, 584, 585, 586, 587, 588, 589, 590] (by decide +kernel) (by decide +kernel)
set_option maxRecDepth 20000 in
theorem gL_law_X2_lookedAt : GoodIn wsL_law (wsV RL 125 RX2 yX2_lookedAt wsX2_lookedAt) := goodIn_app (goodIn_of _ (by decide +kernel)) ggL_law_X2_lookedAt
set_option maxRecDepth 20000 in
theorem ggL_law_X1_allLooks : GoodIn wsL_law wsX1_allLooks := goodIn_r _ [427, 16, 428, 429, 430, 15, 431, 29, 72, 73, 74, 75, 23, 80, 81, 82, 83, 84, 85, 86, 87, 30, 578, 579, 591, 592, 593, 594] (by decide +kernel) (by decide +kernel)
set_option maxRecDepth 20000 in
theorem gL_law_X1_allLooks : GoodIn wsL_law (wsV RL 126 RX1 yX1_allLooks wsX1_allLooks) := goodIn_app (goodIn_of _ (by decide +kernel)) ggL_law_X1_allLooks
set_option maxRecDepth 20000 in
theorem ggL_law_X2_allLooks : GoodIn wsL_law wsX2_allLooks := goodIn_r _ [435, 436, 437, 438, 5, 439, 39, 40, 397, 398, 399, 400, 123, 114, 115, 116, 117, 118, 119, 120, 121, 122, 124, 109, 108, 248, 249, 250, 251, 93, 580, 581, 582, 583, 584, 585, 586, 587, 588, 589, 590] (by decide +kernel) (by decide +kernel)
set_option maxRecDepth 20000 in
theorem gL_law_X2_allLooks : GoodIn wsL_law (wsV RL 129 RX2 yX2_allLooks wsX2_allLooks) := goodIn_app (goodIn_of _ (by decide +kernel)) ggL_law_X2_allLooks
set_option maxRecDepth 20000 in
theorem ggL_law_X1_farthest : GoodIn wsL_law wsX1_farthest := goodIn_r _ [443, 16, 444, 445, 446, 15, 447, 29, 72, 73, 74, 75, 23, 80, 81, 82, 83, 84, 85, 86, 87, 30, 578, 579, 591, 592, 593, 594] (by decide +kernel) (by decide +kernel)
set_option maxRecDepth 20000 in
theorem gL_law_X1_farthest : GoodIn wsL_law (wsV RL 130 RX1 yX1_farthest wsX1_farthest) := goodIn_app (goodIn_of _ (by decide +kernel)) ggL_law_X1_farthest
set_option maxRecDepth 20000 in
theorem ggL_law_X2_farthest : GoodIn wsL_law wsX2_farthest := goodIn_r _ [451, 452, 453, 454, 5, 455, 39, 40, 123, 397, 398, 399, 400, 114, 115, 116, 117, 118, 119, 120, 121, 122, 124, 109, 108, 248, 249, 250, 251, 93, 580, 581, 582, 583, 584, 585, 586, 587, 588, 589, 590] (by decide +kernel) (by decide +kernel)
set_option maxRecDepth 20000 in
theorem gL_law_X2_farthest : GoodIn wsL_law (wsV RL 133 RX2 yX2_farthest wsX2_farthest) := goodIn_app (goodIn_of _ (by decide +kernel)) ggL_law_X2_farthest
set_option maxRecDepth 20000 in
theorem ggL_law_X1_rows : GoodIn wsL_law wsX1_rows := goodIn_r _ [459, 16, 460, 461, 462, 15, 463, 29, 72, 73, 74, 75, 23, 224, 225, 226, 227, 578, 579, 591, 592, 593, 594] (by decide +kernel) (by decide +kernel)
set_option maxRecDepth 20000 in
theorem gL_law_X1_rows : GoodIn wsL_law (wsV RL 134 RX1 yX1_rows wsX1_rows) := goodIn_app (goodIn_of _ (by decide +kernel)) ggL_law_X1_rows
set_option maxRecDepth 20000 in
theorem ggL_law_X2_rows : GoodIn wsL_law wsX2_rows := goodIn_r _ [467, 468, 469, 470, 5, 471, 39, 40, 236, 237, 238, 239, 248, 249, 250, 251, 93, 580, 581, 582, 583, 584, 585, 586, 587, 588, 589, 590] (by decide +kernel) (by decide +kernel)
set_option maxRecDepth 20000 in
theorem gL_law_X2_rows : GoodIn wsL_law (wsV RL 137 RX2 yX2_rows wsX2_rows) := goodIn_app (goodIn_of _ (by decide +kernel)) ggL_law_X2_rows
set_option maxRecDepth 20000 in
theorem ggL_law_X1_longestRow : GoodIn wsL_law wsX1_longestRow := goodIn_r _ [475, 16, 476, 477, 478, 15, 479, 29, 480, 481, 482, 483, 72, 73, 74, 75, 23, 224, 225, 226, 227, 228, 229, 230, 231, 578, 579, 591, 592, 593, 594] (by decide +kernel) (by decide +kernel)
set_option maxRecDepth 20000 in
theorem gL_law_X1_longestRow : GoodIn wsL_law (wsV RL 138 RX1 yX1_longestRow wsX1_longestRow) := goodIn_app (goodIn_of _ (by decide +kernel)) ggL_law_X1_longestRow
set_option maxRecDepth 20000 in
theorem ggL_law_X2_longestRow : GoodIn wsL_law wsX2_longestRow := goodIn_r _ [487, 488, 489, 490, 5, 491, 39, 322, 323, 324, 325, 492, 493, 494, 495, 40, 496, 497, 498, 248, 249, 250, 251, 93, 580, 581, 582, 583, 584, 585, 586, 587, 588, 589, 590] (by decide +kernel) (by decide +kernel)
set_option maxRecDepth 20000 in
theorem gL_law_X2_longestRow : GoodIn wsL_law (wsV RL 141 RX2 yX2_longestRow wsX2_longestRow) := goodIn_app (goodIn_of _ (by decide +kernel)) ggL_law_X2_longestRow
set_option maxRecDepth 20000 in
theorem ggL_law_L_rowAt : GoodIn wsL_law wsL_rowAt := goodIn_ca (goodIn_r _ [501, 283, 502, 503, 504, 2, 505, 16, 288, 289, 290, 291, 292, 293, 171, 172, 173, 15, 174, 29, 506, 481, 482, 483, 72, 73, 74, 75, 23, 224, 225, 226, 227, 228, 229, 230, 231, 578, 579, 591, 592, 593, 594] (by decide +kernel) (by decide +kernel)) (goodIn_sub (fun _ h => List.mem_append_right _ h) (by decide +kernel))
set_option maxRecDepth 20000 in
theorem gL_law_L_rowAt : GoodIn wsL_law (va_wsS RL 142 yL_rowAt wsL_rowAt) := goodIn_app (goodIn_of _ (by decide +kernel)) ggL_law_L_rowAt
set_option maxRecDepth 20000 in
theorem ggL_law_X2_rowAt : GoodIn wsL_law wsX2_rowAt := goodIn_r _ [510, 93, 299, 300, 301, 5, 302, 39, 97, 98, 99, 492, 493, 494, 495, 40, 496, 497, 324, 498, 100, 101, 102, 103, 580, 581, 582, 583, 584, 585, 586, 587, 588, 589, 590] (by decide +kernel) (by decide +kernel)
set_option maxRecDepth 20000 in
theorem gL_law_X2_rowAt : GoodIn wsL_law (wsV RL 144 RX2 yX2_rowAt wsX2_rowAt) := goodIn_app (goodIn_of _ (by decide +kernel)) ggL_law_X2_rowAt
set_option maxRecDepth 20000 in
theorem ggL_law_L_looksWith : GoodIn wsL_law wsL_looksWith := goodIn_ca (goodIn_r _ [513, 51, 514, 515, 516, 2, 517, 163, 164, 165, 57, 58, 518, 519, 520, 521, 17, 166, 167, 168, 169, 16, 170, 26, 27, 15, 28, 29, 30, 23, 31, 32, 33, 34, 24, 171, 172, 173, 174, 175, 176, 177, 178, 72, 73, 74, 75, 179, 77, 78, 79, 80, 81, 82, 83, 84, 85, 86, 87, 144, 145, 146, 147, 88, 428, 429, 430, 431, 578, 579, 591, 592, 593, 594] (by decide +kernel) (by decide +kernel)) (goodIn_sub (fun _ h => List.mem_append_left _ (List.mem_append_left _ (List.mem_append_right _ h))) (by decide +kernel))
set_option maxRecDepth 20000 in
theorem gL_law_L_looksWith : GoodIn wsL_law (va_wsS RL 145 yL_looksWith wsL_looksWith) := goodIn_app (goodIn_of _ (by decide +kernel)) ggL_law_L_looksWith
set_option maxRecDepth 20000 in
theorem ggL_law_X2_looksWith : GoodIn wsL_law wsX2_looksWith := goodIn_r _ [525, 93, 97, 98, 5, 99, 196, 197, 198, 199, 42, 39, 40, 109, 43, 41, 123, 44, 45, 46, 119, 120, 121, 122, 124, 108, 100, 101, 102, 103, 580, 581, 582, 583, 584, 585, 586, 587, 588, 589, 590] (by decide +kernel) (by decide +kernel)
set_option maxRecDepth 20000 in
theorem gL_law_X2_looksWith : GoodIn wsL_law (wsV RL 147 RX2 yX2_looksWith wsX2_looksWith) := goodIn_app (goodIn_of _ (by decide +kernel)) ggL_law_X2_looksWith
set_option maxRecDepth 20000 in
theorem ggL_law_X1_bestWay : GoodIn wsL_law wsX1_bestWay := goodIn_r _ [529, 16, 171, 172, 173, 15, 174, 29, 518, 519, 520, 2, 521, 17, 166, 167, 168, 169, 170, 26, 27, 28, 30, 23, 31, 32, 33, 34, 24, 175, 176, 177, 178, 72, 73, 74, 75, 179, 77, 78, 79, 80, 81, 82, 83, 84, 85, 86, 87, 144, 145, 146, 147, 88, 428, 429, 430, 431, 578, 579, 591, 592, 593, 594] (by decide +kernel) (by decide +kernel)
set_option maxRecDepth 20000 in
theorem gL_law_X1_bestWay : GoodIn wsL_law (wsV RL 148 RX1 yX1_bestWay wsX1_bestWay) := goodIn_app (goodIn_of _ (by decide +kernel)) ggL_law_X1_bestWay
set_option maxRecDepth 20000 in
theorem ggL_law_X2_bestWay : GoodIn wsL_law wsX2_bestWay := goodIn_r _ [533, 534, 535, 536, 5, 537, 39, 196, 197, 198, 199, 42, 40, 109, 43, 41, 123, 44, 45, 46, 119, 120, 121, 122, 124, 108, 248, 249, 250, 251, 93, 580, 581, 582, 583, 584, 585, 586, 587, 588, 589, 590] (by decide +kernel) (by decide +kernel)
set_option maxRecDepth 20000 in
theorem gL_law_X2_bestWay : GoodIn wsL_law (wsV RL 151 RX2 yX2_bestWay wsX2_bestWay) := goodIn_app (goodIn_of _ (by decide +kernel)) ggL_law_X2_bestWay
set_option maxRecDepth 20000 in
theorem ggL_law_L_hooksWanted : GoodIn wsL_law wsL_hooksWanted := goodIn_ca (goodIn_r _ [540, 51, 541, 542, 543, 2, 544, 57, 58, 545, 546, 547, 548, 16, 188, 189, 190, 15, 191, 30, 518, 519, 520, 521, 17, 166, 167, 168, 169, 170, 26, 27, 28, 29, 23, 31, 32, 33, 34, 24, 171, 172, 173, 174, 175, 176, 177, 178, 72, 73, 74, 75, 179, 77, 78, 79, 80, 81, 82, 83, 84, 85, 86, 87, 144, 145, 146, 147, 88, 428, 429, 430, 431, 578, 579, 591, 592, 593, 594] (by decide +kernel) (by decide +kernel)) (goodIn_sub (fun _ h => List.mem_append_left _ (List.mem_append_left _ (List.mem_append_right _ h))) (by decide +kernel))
set_option maxRecDepth 20000 in
theorem gL_law_L_hooksWanted : GoodIn wsL_law (va_wsS RL 152 yL_hooksWanted wsL_hooksWanted) := goodIn_app (goodIn_of _ (by decide +kernel)) ggL_law_L_hooksWanted
set_option maxRecDepth 20000 in
theorem ggL_law_X2_hooksWanted : GoodIn wsL_law wsX2_hooksWanted := goodIn_r _ [552, 93, 97, 98, 5, 99, 553, 554, 555, 556, 118, 196, 197, 198, 199, 42, 39, 40, 109, 43, 41, 123, 44, 45, 46, 119, 120, 121, 122, 124, 108, 100, 101, 102, 103, 580, 581, 582, 583, 584, 585, 586, 587, 588, 589, 590] (by decide +kernel) (by decide +kernel)
set_option maxRecDepth 20000 in
theorem gL_law_X2_hooksWanted : GoodIn wsL_law (wsV RL 154 RX2 yX2_hooksWanted wsX2_hooksWanted) := goodIn_app (goodIn_of _ (by decide +kernel)) ggL_law_X2_hooksWanted
set_option maxRecDepth 20000 in
theorem ggL_law_X1_meanLooks : GoodIn wsL_law wsX1_meanLooks := goodIn_r _ [560, 16, 208, 209, 210, 15, 211, 29, 212, 213, 214, 215, 72, 73, 74, 75, 23, 428, 429, 430, 431, 80, 81, 82, 83, 84, 85, 86, 87, 30, 578, 579, 591, 592, 593, 594] (by decide +kernel) (by decide +kernel)
set_option maxRecDepth 20000 in
theorem gL_law_X1_meanLooks : GoodIn wsL_law (wsV RL 155 RX1 yX1_meanLooks wsX1_meanLooks) := goodIn_app (goodIn_of _ (by decide +kernel)) ggL_law_X1_meanLooks
set_option maxRecDepth 20000 in
theorem ggL_law_X2_meanLooks : GoodIn wsL_law wsX2_meanLooks := goodIn_r _ [564, 93, 268, 269, 270, 5, 271, 39, 40, 436, 437, 438, 439, 397, 398, 399, 400, 123, 114, 115, 116, 117, 118, 119, 120, 121, 122, 124, 109, 108, 580, 581, 582, 583, 584, 585, 586, 587, 588, 589, 590] (by decide +kernel) (by decide +kernel)
set_option maxRecDepth 20000 in
theorem gL_law_X2_meanLooks : GoodIn wsL_law (wsV RL 159 RX2 yX2_meanLooks wsX2_meanLooks) := goodIn_app (goodIn_of _ (by decide +kernel)) ggL_law_X2_meanLooks
set_option maxRecDepth 20000 in
theorem ggL_law_X1_digest : GoodIn wsL_law wsX1_digest := goodIn_r _ [568, 569, 570, 16, 171, 172, 173, 15, 174, 29, 188, 189, 190, 191, 30, 208, 209, 210, 211, 212, 213, 214, 215, 72, 73, 74, 75, 23, 345, 346, 347, 348, 349, 145, 146, 147, 24, 362, 363, 364, 365, 428, 429, 430, 431, 80, 81, 82, 83, 84, 85, 86, 87, 444, 445, 446, 447, 460, 461, 462, 463, 224, 225, 226, 227, 476, 477, 478, 479, 480, 481, 482, 483, 228, 229, 230, 231, 571, 527, 528, 2, 529, 518, 519, 520, 521, 17, 166, 167, 168, 169, 170, 26, 27, 28, 31, 32, 33, 34, 175, 176, 177, 178, 179, 77, 78, 79, 144, 88, 545, 546, 547, 548, 294, 506, 392, 578, 579, 591, 592, 593, 594] (by decide +kernel) (by decide +kernel)
set_option maxRecDepth 20000 in
theorem gL_law_X1_digest : GoodIn wsL_law (wsV RL 160 RX1 yX1_digest wsX1_digest) := goodIn_app (goodIn_of _ (by decide +kernel)) ggL_law_X1_digest
set_option maxRecDepth 20000 in
theorem ggL_law_X2_digest : GoodIn wsL_law wsX2_digest := goodIn_r _ [575, 93, 22, 39, 118, 576, 577, 268, 269, 270, 5, 271, 40, 236, 237, 238, 239, 354, 355, 356, 357, 337, 338, 339, 340, 41, 370, 371, 372, 373, 436, 437, 438, 439, 397, 398, 399, 400, 123, 114, 115, 116, 117, 119, 120, 121, 122, 124, 109, 108, 452, 453, 454, 455, 468, 469, 470, 471, 488, 489, 490, 491, 322, 323, 324, 325, 492, 493, 494, 495, 496, 497, 498, 534, 535, 536, 537, 196, 197, 198, 199, 42, 43, 44, 45, 46, 553, 554, 555, 556, 97, 98, 99, 303, 304, 305, 306, 318, 319, 320, 321, 580, 581, 582, 583, 584, 585, 586, 587, 588, 589, 590] (by decide +kernel) (by decide +kernel)
set_option maxRecDepth 20000 in
theorem gL_law_X2_digest : GoodIn wsL_law (wsV RL 164 RX2 yX2_digest wsX2_digest) := goodIn_app (goodIn_of _ (by decide +kernel)) ggL_law_X2_digest
theorem dL_law_0 : decode cL_law 0 = .ok (.new 8, 3) := by decide +kernel
theorem dL_law_3 : decode cL_law 3 = .ok (.dup, 1) := by decide +kernel
theorem dL_law_4 : decode cL_law 4 = .ok (.invokespecial 56, 3) := by decide +kernel
theorem dL_law_7 : decode cL_law 7 = .ok (.astore_n 1, 1) := by decide +kernel
theorem dL_law_8 : decode cL_law 8 = .ok (.new 57, 3) := by decide +kernel
theorem dL_law_11 : decode cL_law 11 = .ok (.dup, 1) := by decide +kernel
theorem dL_law_12 : decode cL_law 12 = .ok (.invokespecial 59, 3) := by decide +kernel
theorem dL_law_15 : decode cL_law 15 = .ok (.astore_n 2, 1) := by decide +kernel
theorem dL_law_16 : decode cL_law 16 = .ok (.iconst 1, 1) := by decide +kernel
theorem dL_law_17 : decode cL_law 17 = .ok (.newarray .long, 2) := by decide +kernel
theorem dL_law_19 : decode cL_law 19 = .ok (.astore_n 3, 1) := by decide +kernel
theorem dL_law_20 : decode cL_law 20 = .ok (.iconst 0, 1) := by decide +kernel
theorem dL_law_21 : decode cL_law 21 = .ok (.istore 4, 2) := by decide +kernel
theorem dL_law_23 : decode cL_law 23 = .ok (.iload 4, 2) := by decide +kernel
theorem dL_law_25 : decode cL_law 25 = .ok (.aload_n 0, 1) := by decide +kernel
theorem dL_law_26 : decode cL_law 26 = .ok (.arraylength, 1) := by decide +kernel
theorem dL_law_27 : decode cL_law 27 = .ok (.iconst 3, 1) := by decide +kernel
theorem dL_law_28 : decode cL_law 28 = .ok (.isub, 1) := by decide +kernel
theorem dL_law_29 : decode cL_law 29 = .ok (.if_icmp .gt 1124, 3) := by decide +kernel
theorem dL_law_32 : decode cL_law 32 = .ok (.aload_n 0, 1) := by decide +kernel
theorem dL_law_33 : decode cL_law 33 = .ok (.iload 4, 2) := by decide +kernel
theorem dL_law_35 : decode cL_law 35 = .ok (.iaload, 1) := by decide +kernel
theorem dL_law_36 : decode cL_law 36 = .ok (.bipush 31, 2) := by decide +kernel
theorem dL_law_38 : decode cL_law 38 = .ok (.iand, 1) := by decide +kernel
theorem dL_law_39 : decode cL_law 39 = .ok (.tableswitch 1108 0 26 #[121, 189, 245, 313, 326, 339, 352, 365, 378, 434, 490, 546, 559, 572, 628, 684, 740, 808, 821, 834, 847, 860, 916, 984, 997, 1053, 1094], 121) := by decide +kernel
theorem dL_law_160 : decode cL_law 160 = .ok (.aload_n 1, 1) := by decide +kernel
theorem dL_law_161 : decode cL_law 161 = .ok (.aload_n 0, 1) := by decide +kernel
theorem dL_law_162 : decode cL_law 162 = .ok (.iload 4, 2) := by decide +kernel
theorem dL_law_164 : decode cL_law 164 = .ok (.iconst 1, 1) := by decide +kernel
theorem dL_law_165 : decode cL_law 165 = .ok (.iadd, 1) := by decide +kernel
theorem dL_law_166 : decode cL_law 166 = .ok (.iaload, 1) := by decide +kernel
theorem dL_law_167 : decode cL_law 167 = .ok (.aload_n 0, 1) := by decide +kernel
theorem dL_law_168 : decode cL_law 168 = .ok (.iload 4, 2) := by decide +kernel
theorem dL_law_170 : decode cL_law 170 = .ok (.iconst 2, 1) := by decide +kernel
theorem dL_law_171 : decode cL_law 171 = .ok (.iadd, 1) := by decide +kernel
theorem dL_law_172 : decode cL_law 172 = .ok (.iaload, 1) := by decide +kernel
theorem dL_law_173 : decode cL_law 173 = .ok (.aload_n 3, 1) := by decide +kernel
theorem dL_law_174 : decode cL_law 174 = .ok (.invokestatic 60, 3) := by decide +kernel
theorem dL_law_177 : decode cL_law 177 = .ok (.istore 5, 2) := by decide +kernel
theorem dL_law_179 : decode cL_law 179 = .ok (.aload_n 2, 1) := by decide +kernel
theorem dL_law_180 : decode cL_law 180 = .ok (.aload_n 0, 1) := by decide +kernel
theorem dL_law_181 : decode cL_law 181 = .ok (.iload 4, 2) := by decide +kernel
theorem dL_law_183 : decode cL_law 183 = .ok (.iconst 1, 1) := by decide +kernel
theorem dL_law_184 : decode cL_law 184 = .ok (.iadd, 1) := by decide +kernel
theorem dL_law_185 : decode cL_law 185 = .ok (.iaload, 1) := by decide +kernel
theorem dL_law_186 : decode cL_law 186 = .ok (.aload_n 0, 1) := by decide +kernel
theorem dL_law_187 : decode cL_law 187 = .ok (.iload 4, 2) := by decide +kernel
theorem dL_law_189 : decode cL_law 189 = .ok (.iconst 2, 1) := by decide +kernel
theorem dL_law_190 : decode cL_law 190 = .ok (.iadd, 1) := by decide +kernel
theorem dL_law_191 : decode cL_law 191 = .ok (.iaload, 1) := by decide +kernel
theorem dL_law_192 : decode cL_law 192 = .ok (.invokevirtual 65, 3) := by decide +kernel
theorem dL_law_195 : decode cL_law 195 = .ok (.istore 6, 2) := by decide +kernel
theorem dL_law_197 : decode cL_law 197 = .ok (.aload_n 2, 1) := by decide +kernel
theorem dL_law_198 : decode cL_law 198 = .ok (.invokevirtual 66, 3) := by decide +kernel
theorem dL_law_201 : decode cL_law 201 = .ok (.iload 5, 2) := by decide +kernel
theorem dL_law_203 : decode cL_law 203 = .ok (.if_icmp .eq 5, 3) := by decide +kernel
theorem dL_law_206 : decode cL_law 206 = .ok (.iconst 0, 1) := by decide +kernel
theorem dL_law_207 : decode cL_law 207 = .ok (.ireturn, 1) := by decide +kernel
theorem dL_law_208 : decode cL_law 208 = .ok (.iload 5, 2) := by decide +kernel
theorem dL_law_210 : decode cL_law 210 = .ok (.ifCond .ne 15, 3) := by decide +kernel
theorem dL_law_213 : decode cL_law 213 = .ok (.aload_n 3, 1) := by decide +kernel
theorem dL_law_214 : decode cL_law 214 = .ok (.iconst 0, 1) := by decide +kernel
theorem dL_law_215 : decode cL_law 215 = .ok (.laload, 1) := by decide +kernel
theorem dL_law_216 : decode cL_law 216 = .ok (.iload 6, 2) := by decide +kernel
theorem dL_law_218 : decode cL_law 218 = .ok (.i2l, 1) := by decide +kernel
theorem dL_law_219 : decode cL_law 219 = .ok (.lcmp, 1) := by decide +kernel
theorem dL_law_220 : decode cL_law 220 = .ok (.ifCond .eq 5, 3) := by decide +kernel
theorem dL_law_223 : decode cL_law 223 = .ok (.iconst 0, 1) := by decide +kernel
theorem dL_law_224 : decode cL_law 224 = .ok (.ireturn, 1) := by decide +kernel
theorem dL_law_225 : decode cL_law 225 = .ok (.goto 922, 3) := by decide +kernel
theorem dL_law_228 : decode cL_law 228 = .ok (.aload_n 1, 1) := by decide +kernel
theorem dL_law_229 : decode cL_law 229 = .ok (.aload_n 0, 1) := by decide +kernel
theorem dL_law_230 : decode cL_law 230 = .ok (.iload 4, 2) := by decide +kernel
theorem dL_law_232 : decode cL_law 232 = .ok (.iconst 1, 1) := by decide +kernel
theorem dL_law_233 : decode cL_law 233 = .ok (.iadd, 1) := by decide +kernel
theorem dL_law_234 : decode cL_law 234 = .ok (.iaload, 1) := by decide +kernel
theorem dL_law_235 : decode cL_law 235 = .ok (.aload_n 3, 1) := by decide +kernel
theorem dL_law_236 : decode cL_law 236 = .ok (.invokestatic 70, 3) := by decide +kernel
theorem dL_law_239 : decode cL_law 239 = .ok (.istore 5, 2) := by decide +kernel
theorem dL_law_241 : decode cL_law 241 = .ok (.aload_n 2, 1) := by decide +kernel
theorem dL_law_242 : decode cL_law 242 = .ok (.aload_n 0, 1) := by decide +kernel
theorem dL_law_243 : decode cL_law 243 = .ok (.iload 4, 2) := by decide +kernel
theorem dL_law_245 : decode cL_law 245 = .ok (.iconst 1, 1) := by decide +kernel
theorem dL_law_246 : decode cL_law 246 = .ok (.iadd, 1) := by decide +kernel
theorem dL_law_247 : decode cL_law 247 = .ok (.iaload, 1) := by decide +kernel
theorem dL_law_248 : decode cL_law 248 = .ok (.invokevirtual 73, 3) := by decide +kernel
theorem dL_law_251 : decode cL_law 251 = .ok (.istore 6, 2) := by decide +kernel
theorem dL_law_253 : decode cL_law 253 = .ok (.aload_n 2, 1) := by decide +kernel
theorem dL_law_254 : decode cL_law 254 = .ok (.invokevirtual 66, 3) := by decide +kernel
theorem dL_law_257 : decode cL_law 257 = .ok (.iload 5, 2) := by decide +kernel
theorem dL_law_259 : decode cL_law 259 = .ok (.if_icmp .eq 5, 3) := by decide +kernel
theorem dL_law_262 : decode cL_law 262 = .ok (.iconst 0, 1) := by decide +kernel
theorem dL_law_263 : decode cL_law 263 = .ok (.ireturn, 1) := by decide +kernel
theorem dL_law_264 : decode cL_law 264 = .ok (.iload 5, 2) := by decide +kernel
theorem dL_law_266 : decode cL_law 266 = .ok (.ifCond .ne 15, 3) := by decide +kernel
theorem dL_law_269 : decode cL_law 269 = .ok (.aload_n 3, 1) := by decide +kernel
theorem dL_law_270 : decode cL_law 270 = .ok (.iconst 0, 1) := by decide +kernel
theorem dL_law_271 : decode cL_law 271 = .ok (.laload, 1) := by decide +kernel
theorem dL_law_272 : decode cL_law 272 = .ok (.iload 6, 2) := by decide +kernel
theorem dL_law_274 : decode cL_law 274 = .ok (.i2l, 1) := by decide +kernel
theorem dL_law_275 : decode cL_law 275 = .ok (.lcmp, 1) := by decide +kernel
theorem dL_law_276 : decode cL_law 276 = .ok (.ifCond .eq 5, 3) := by decide +kernel
theorem dL_law_279 : decode cL_law 279 = .ok (.iconst 0, 1) := by decide +kernel
theorem dL_law_280 : decode cL_law 280 = .ok (.ireturn, 1) := by decide +kernel
theorem dL_law_281 : decode cL_law 281 = .ok (.goto 866, 3) := by decide +kernel
theorem dL_law_284 : decode cL_law 284 = .ok (.aload_n 1, 1) := by decide +kernel
theorem dL_law_285 : decode cL_law 285 = .ok (.aload_n 0, 1) := by decide +kernel
theorem dL_law_286 : decode cL_law 286 = .ok (.iload 4, 2) := by decide +kernel
theorem dL_law_288 : decode cL_law 288 = .ok (.iconst 1, 1) := by decide +kernel
theorem dL_law_289 : decode cL_law 289 = .ok (.iadd, 1) := by decide +kernel
theorem dL_law_290 : decode cL_law 290 = .ok (.iaload, 1) := by decide +kernel
theorem dL_law_291 : decode cL_law 291 = .ok (.aload_n 0, 1) := by decide +kernel
theorem dL_law_292 : decode cL_law 292 = .ok (.iload 4, 2) := by decide +kernel
theorem dL_law_294 : decode cL_law 294 = .ok (.iconst 2, 1) := by decide +kernel
theorem dL_law_295 : decode cL_law 295 = .ok (.iadd, 1) := by decide +kernel
theorem dL_law_296 : decode cL_law 296 = .ok (.iaload, 1) := by decide +kernel
theorem dL_law_297 : decode cL_law 297 = .ok (.aload_n 3, 1) := by decide +kernel
theorem dL_law_298 : decode cL_law 298 = .ok (.invokestatic 74, 3) := by decide +kernel
theorem dL_law_301 : decode cL_law 301 = .ok (.istore 5, 2) := by decide +kernel
theorem dL_law_303 : decode cL_law 303 = .ok (.aload_n 2, 1) := by decide +kernel
theorem dL_law_304 : decode cL_law 304 = .ok (.aload_n 0, 1) := by decide +kernel
theorem dL_law_305 : decode cL_law 305 = .ok (.iload 4, 2) := by decide +kernel
theorem dL_law_307 : decode cL_law 307 = .ok (.iconst 1, 1) := by decide +kernel
theorem dL_law_308 : decode cL_law 308 = .ok (.iadd, 1) := by decide +kernel
theorem dL_law_309 : decode cL_law 309 = .ok (.iaload, 1) := by decide +kernel
theorem dL_law_310 : decode cL_law 310 = .ok (.aload_n 0, 1) := by decide +kernel
theorem dL_law_311 : decode cL_law 311 = .ok (.iload 4, 2) := by decide +kernel
theorem dL_law_313 : decode cL_law 313 = .ok (.iconst 2, 1) := by decide +kernel
theorem dL_law_314 : decode cL_law 314 = .ok (.iadd, 1) := by decide +kernel
theorem dL_law_315 : decode cL_law 315 = .ok (.iaload, 1) := by decide +kernel
theorem dL_law_316 : decode cL_law 316 = .ok (.invokevirtual 76, 3) := by decide +kernel
theorem dL_law_319 : decode cL_law 319 = .ok (.istore 6, 2) := by decide +kernel
theorem dL_law_321 : decode cL_law 321 = .ok (.aload_n 2, 1) := by decide +kernel
theorem dL_law_322 : decode cL_law 322 = .ok (.invokevirtual 66, 3) := by decide +kernel
theorem dL_law_325 : decode cL_law 325 = .ok (.iload 5, 2) := by decide +kernel
theorem dL_law_327 : decode cL_law 327 = .ok (.if_icmp .eq 5, 3) := by decide +kernel
theorem dL_law_330 : decode cL_law 330 = .ok (.iconst 0, 1) := by decide +kernel
theorem dL_law_331 : decode cL_law 331 = .ok (.ireturn, 1) := by decide +kernel
theorem dL_law_332 : decode cL_law 332 = .ok (.iload 5, 2) := by decide +kernel
theorem dL_law_334 : decode cL_law 334 = .ok (.ifCond .ne 15, 3) := by decide +kernel
theorem dL_law_337 : decode cL_law 337 = .ok (.aload_n 3, 1) := by decide +kernel
theorem dL_law_338 : decode cL_law 338 = .ok (.iconst 0, 1) := by decide +kernel
theorem dL_law_339 : decode cL_law 339 = .ok (.laload, 1) := by decide +kernel
theorem dL_law_340 : decode cL_law 340 = .ok (.iload 6, 2) := by decide +kernel
theorem dL_law_342 : decode cL_law 342 = .ok (.i2l, 1) := by decide +kernel
theorem dL_law_343 : decode cL_law 343 = .ok (.lcmp, 1) := by decide +kernel
theorem dL_law_344 : decode cL_law 344 = .ok (.ifCond .eq 5, 3) := by decide +kernel
theorem dL_law_347 : decode cL_law 347 = .ok (.iconst 0, 1) := by decide +kernel
theorem dL_law_348 : decode cL_law 348 = .ok (.ireturn, 1) := by decide +kernel
theorem dL_law_349 : decode cL_law 349 = .ok (.goto 798, 3) := by decide +kernel
theorem dL_law_352 : decode cL_law 352 = .ok (.aload_n 1, 1) := by decide +kernel
theorem dL_law_353 : decode cL_law 353 = .ok (.invokevirtual 77, 3) := by decide +kernel
theorem dL_law_356 : decode cL_law 356 = .ok (.aload_n 2, 1) := by decide +kernel
theorem dL_law_357 : decode cL_law 357 = .ok (.invokevirtual 80, 3) := by decide +kernel
theorem dL_law_360 : decode cL_law 360 = .ok (.if_icmp .eq 787, 3) := by decide +kernel
theorem dL_law_363 : decode cL_law 363 = .ok (.iconst 0, 1) := by decide +kernel
theorem dL_law_364 : decode cL_law 364 = .ok (.ireturn, 1) := by decide +kernel
theorem dL_law_365 : decode cL_law 365 = .ok (.aload_n 1, 1) := by decide +kernel
theorem dL_law_366 : decode cL_law 366 = .ok (.invokevirtual 81, 3) := by decide +kernel
theorem dL_law_369 : decode cL_law 369 = .ok (.aload_n 2, 1) := by decide +kernel
theorem dL_law_370 : decode cL_law 370 = .ok (.invokevirtual 84, 3) := by decide +kernel
theorem dL_law_373 : decode cL_law 373 = .ok (.if_icmp .eq 774, 3) := by decide +kernel
theorem dL_law_376 : decode cL_law 376 = .ok (.iconst 0, 1) := by decide +kernel
theorem dL_law_377 : decode cL_law 377 = .ok (.ireturn, 1) := by decide +kernel
theorem dL_law_378 : decode cL_law 378 = .ok (.aload_n 1, 1) := by decide +kernel
theorem dL_law_379 : decode cL_law 379 = .ok (.invokevirtual 85, 3) := by decide +kernel
theorem dL_law_382 : decode cL_law 382 = .ok (.aload_n 2, 1) := by decide +kernel
theorem dL_law_383 : decode cL_law 383 = .ok (.invokevirtual 88, 3) := by decide +kernel
theorem dL_law_386 : decode cL_law 386 = .ok (.if_icmp .eq 761, 3) := by decide +kernel
theorem dL_law_389 : decode cL_law 389 = .ok (.iconst 0, 1) := by decide +kernel
theorem dL_law_390 : decode cL_law 390 = .ok (.ireturn, 1) := by decide +kernel
theorem dL_law_391 : decode cL_law 391 = .ok (.aload_n 1, 1) := by decide +kernel
theorem dL_law_392 : decode cL_law 392 = .ok (.invokevirtual 89, 3) := by decide +kernel
theorem dL_law_395 : decode cL_law 395 = .ok (.aload_n 2, 1) := by decide +kernel
theorem dL_law_396 : decode cL_law 396 = .ok (.invokevirtual 92, 3) := by decide +kernel
theorem dL_law_399 : decode cL_law 399 = .ok (.if_icmp .eq 748, 3) := by decide +kernel
theorem dL_law_402 : decode cL_law 402 = .ok (.iconst 0, 1) := by decide +kernel
theorem dL_law_403 : decode cL_law 403 = .ok (.ireturn, 1) := by decide +kernel
theorem dL_law_404 : decode cL_law 404 = .ok (.aload_n 1, 1) := by decide +kernel
theorem dL_law_405 : decode cL_law 405 = .ok (.invokevirtual 93, 3) := by decide +kernel
theorem dL_law_408 : decode cL_law 408 = .ok (.aload_n 2, 1) := by decide +kernel
theorem dL_law_409 : decode cL_law 409 = .ok (.invokevirtual 96, 3) := by decide +kernel
theorem dL_law_412 : decode cL_law 412 = .ok (.if_icmp .eq 735, 3) := by decide +kernel
theorem dL_law_415 : decode cL_law 415 = .ok (.iconst 0, 1) := by decide +kernel
theorem dL_law_416 : decode cL_law 416 = .ok (.ireturn, 1) := by decide +kernel
theorem dL_law_417 : decode cL_law 417 = .ok (.aload_n 1, 1) := by decide +kernel
theorem dL_law_418 : decode cL_law 418 = .ok (.aload_n 0, 1) := by decide +kernel
theorem dL_law_419 : decode cL_law 419 = .ok (.iload 4, 2) := by decide +kernel
theorem dL_law_421 : decode cL_law 421 = .ok (.iconst 1, 1) := by decide +kernel
theorem dL_law_422 : decode cL_law 422 = .ok (.iadd, 1) := by decide +kernel
theorem dL_law_423 : decode cL_law 423 = .ok (.iaload, 1) := by decide +kernel
theorem dL_law_424 : decode cL_law 424 = .ok (.aload_n 3, 1) := by decide +kernel
theorem dL_law_425 : decode cL_law 425 = .ok (.invokestatic 97, 3) := by decide +kernel
theorem dL_law_428 : decode cL_law 428 = .ok (.istore 5, 2) := by decide +kernel
theorem dL_law_430 : decode cL_law 430 = .ok (.aload_n 2, 1) := by decide +kernel
theorem dL_law_431 : decode cL_law 431 = .ok (.aload_n 0, 1) := by decide +kernel
theorem dL_law_432 : decode cL_law 432 = .ok (.iload 4, 2) := by decide +kernel
theorem dL_law_434 : decode cL_law 434 = .ok (.iconst 1, 1) := by decide +kernel
theorem dL_law_435 : decode cL_law 435 = .ok (.iadd, 1) := by decide +kernel
theorem dL_law_436 : decode cL_law 436 = .ok (.iaload, 1) := by decide +kernel
theorem dL_law_437 : decode cL_law 437 = .ok (.invokevirtual 99, 3) := by decide +kernel
theorem dL_law_440 : decode cL_law 440 = .ok (.istore 6, 2) := by decide +kernel
theorem dL_law_442 : decode cL_law 442 = .ok (.aload_n 2, 1) := by decide +kernel
theorem dL_law_443 : decode cL_law 443 = .ok (.invokevirtual 66, 3) := by decide +kernel
theorem dL_law_446 : decode cL_law 446 = .ok (.iload 5, 2) := by decide +kernel
theorem dL_law_448 : decode cL_law 448 = .ok (.if_icmp .eq 5, 3) := by decide +kernel
theorem dL_law_451 : decode cL_law 451 = .ok (.iconst 0, 1) := by decide +kernel
theorem dL_law_452 : decode cL_law 452 = .ok (.ireturn, 1) := by decide +kernel
theorem dL_law_453 : decode cL_law 453 = .ok (.iload 5, 2) := by decide +kernel
theorem dL_law_455 : decode cL_law 455 = .ok (.ifCond .ne 15, 3) := by decide +kernel
theorem dL_law_458 : decode cL_law 458 = .ok (.aload_n 3, 1) := by decide +kernel
theorem dL_law_459 : decode cL_law 459 = .ok (.iconst 0, 1) := by decide +kernel
theorem dL_law_460 : decode cL_law 460 = .ok (.laload, 1) := by decide +kernel
theorem dL_law_461 : decode cL_law 461 = .ok (.iload 6, 2) := by decide +kernel
theorem dL_law_463 : decode cL_law 463 = .ok (.i2l, 1) := by decide +kernel
theorem dL_law_464 : decode cL_law 464 = .ok (.lcmp, 1) := by decide +kernel
theorem dL_law_465 : decode cL_law 465 = .ok (.ifCond .eq 5, 3) := by decide +kernel
theorem dL_law_468 : decode cL_law 468 = .ok (.iconst 0, 1) := by decide +kernel
theorem dL_law_469 : decode cL_law 469 = .ok (.ireturn, 1) := by decide +kernel
theorem dL_law_470 : decode cL_law 470 = .ok (.goto 677, 3) := by decide +kernel
theorem dL_law_473 : decode cL_law 473 = .ok (.aload_n 1, 1) := by decide +kernel
theorem dL_law_474 : decode cL_law 474 = .ok (.aload_n 0, 1) := by decide +kernel
theorem dL_law_475 : decode cL_law 475 = .ok (.iload 4, 2) := by decide +kernel
theorem dL_law_477 : decode cL_law 477 = .ok (.iconst 1, 1) := by decide +kernel
theorem dL_law_478 : decode cL_law 478 = .ok (.iadd, 1) := by decide +kernel
theorem dL_law_479 : decode cL_law 479 = .ok (.iaload, 1) := by decide +kernel
theorem dL_law_480 : decode cL_law 480 = .ok (.aload_n 3, 1) := by decide +kernel
theorem dL_law_481 : decode cL_law 481 = .ok (.invokestatic 100, 3) := by decide +kernel
theorem dL_law_484 : decode cL_law 484 = .ok (.istore 5, 2) := by decide +kernel
theorem dL_law_486 : decode cL_law 486 = .ok (.aload_n 2, 1) := by decide +kernel
theorem dL_law_487 : decode cL_law 487 = .ok (.aload_n 0, 1) := by decide +kernel
theorem dL_law_488 : decode cL_law 488 = .ok (.iload 4, 2) := by decide +kernel
theorem dL_law_490 : decode cL_law 490 = .ok (.iconst 1, 1) := by decide +kernel
theorem dL_law_491 : decode cL_law 491 = .ok (.iadd, 1) := by decide +kernel
theorem dL_law_492 : decode cL_law 492 = .ok (.iaload, 1) := by decide +kernel
theorem dL_law_493 : decode cL_law 493 = .ok (.invokevirtual 102, 3) := by decide +kernel
theorem dL_law_496 : decode cL_law 496 = .ok (.istore 6, 2) := by decide +kernel
theorem dL_law_498 : decode cL_law 498 = .ok (.aload_n 2, 1) := by decide +kernel
theorem dL_law_499 : decode cL_law 499 = .ok (.invokevirtual 66, 3) := by decide +kernel
theorem dL_law_502 : decode cL_law 502 = .ok (.iload 5, 2) := by decide +kernel
theorem dL_law_504 : decode cL_law 504 = .ok (.if_icmp .eq 5, 3) := by decide +kernel
theorem dL_law_507 : decode cL_law 507 = .ok (.iconst 0, 1) := by decide +kernel
theorem dL_law_508 : decode cL_law 508 = .ok (.ireturn, 1) := by decide +kernel
theorem dL_law_509 : decode cL_law 509 = .ok (.iload 5, 2) := by decide +kernel
theorem dL_law_511 : decode cL_law 511 = .ok (.ifCond .ne 15, 3) := by decide +kernel
theorem dL_law_514 : decode cL_law 514 = .ok (.aload_n 3, 1) := by decide +kernel
theorem dL_law_515 : decode cL_law 515 = .ok (.iconst 0, 1) := by decide +kernel
theorem dL_law_516 : decode cL_law 516 = .ok (.laload, 1) := by decide +kernel
theorem dL_law_517 : decode cL_law 517 = .ok (.iload 6, 2) := by decide +kernel
theorem dL_law_519 : decode cL_law 519 = .ok (.i2l, 1) := by decide +kernel
theorem dL_law_520 : decode cL_law 520 = .ok (.lcmp, 1) := by decide +kernel
theorem dL_law_521 : decode cL_law 521 = .ok (.ifCond .eq 5, 3) := by decide +kernel
theorem dL_law_524 : decode cL_law 524 = .ok (.iconst 0, 1) := by decide +kernel
theorem dL_law_525 : decode cL_law 525 = .ok (.ireturn, 1) := by decide +kernel
theorem dL_law_526 : decode cL_law 526 = .ok (.goto 621, 3) := by decide +kernel
theorem dL_law_529 : decode cL_law 529 = .ok (.aload_n 1, 1) := by decide +kernel
theorem dL_law_530 : decode cL_law 530 = .ok (.aload_n 0, 1) := by decide +kernel
theorem dL_law_531 : decode cL_law 531 = .ok (.iload 4, 2) := by decide +kernel
theorem dL_law_533 : decode cL_law 533 = .ok (.iconst 1, 1) := by decide +kernel
theorem dL_law_534 : decode cL_law 534 = .ok (.iadd, 1) := by decide +kernel
theorem dL_law_535 : decode cL_law 535 = .ok (.iaload, 1) := by decide +kernel
theorem dL_law_536 : decode cL_law 536 = .ok (.aload_n 3, 1) := by decide +kernel
theorem dL_law_537 : decode cL_law 537 = .ok (.invokestatic 103, 3) := by decide +kernel
theorem dL_law_540 : decode cL_law 540 = .ok (.istore 5, 2) := by decide +kernel
theorem dL_law_542 : decode cL_law 542 = .ok (.aload_n 2, 1) := by decide +kernel
theorem dL_law_543 : decode cL_law 543 = .ok (.aload_n 0, 1) := by decide +kernel
theorem dL_law_544 : decode cL_law 544 = .ok (.iload 4, 2) := by decide +kernel
theorem dL_law_546 : decode cL_law 546 = .ok (.iconst 1, 1) := by decide +kernel
theorem dL_law_547 : decode cL_law 547 = .ok (.iadd, 1) := by decide +kernel
theorem dL_law_548 : decode cL_law 548 = .ok (.iaload, 1) := by decide +kernel
theorem dL_law_549 : decode cL_law 549 = .ok (.invokevirtual 105, 3) := by decide +kernel
theorem dL_law_552 : decode cL_law 552 = .ok (.istore 6, 2) := by decide +kernel
theorem dL_law_554 : decode cL_law 554 = .ok (.aload_n 2, 1) := by decide +kernel
theorem dL_law_555 : decode cL_law 555 = .ok (.invokevirtual 66, 3) := by decide +kernel
theorem dL_law_558 : decode cL_law 558 = .ok (.iload 5, 2) := by decide +kernel
theorem dL_law_560 : decode cL_law 560 = .ok (.if_icmp .eq 5, 3) := by decide +kernel
theorem dL_law_563 : decode cL_law 563 = .ok (.iconst 0, 1) := by decide +kernel
theorem dL_law_564 : decode cL_law 564 = .ok (.ireturn, 1) := by decide +kernel
theorem dL_law_565 : decode cL_law 565 = .ok (.iload 5, 2) := by decide +kernel
theorem dL_law_567 : decode cL_law 567 = .ok (.ifCond .ne 15, 3) := by decide +kernel
theorem dL_law_570 : decode cL_law 570 = .ok (.aload_n 3, 1) := by decide +kernel
theorem dL_law_571 : decode cL_law 571 = .ok (.iconst 0, 1) := by decide +kernel
theorem dL_law_572 : decode cL_law 572 = .ok (.laload, 1) := by decide +kernel
theorem dL_law_573 : decode cL_law 573 = .ok (.iload 6, 2) := by decide +kernel
theorem dL_law_575 : decode cL_law 575 = .ok (.i2l, 1) := by decide +kernel
theorem dL_law_576 : decode cL_law 576 = .ok (.lcmp, 1) := by decide +kernel
theorem dL_law_577 : decode cL_law 577 = .ok (.ifCond .eq 5, 3) := by decide +kernel
theorem dL_law_580 : decode cL_law 580 = .ok (.iconst 0, 1) := by decide +kernel
theorem dL_law_581 : decode cL_law 581 = .ok (.ireturn, 1) := by decide +kernel
theorem dL_law_582 : decode cL_law 582 = .ok (.goto 565, 3) := by decide +kernel
theorem dL_law_585 : decode cL_law 585 = .ok (.aload_n 1, 1) := by decide +kernel
theorem dL_law_586 : decode cL_law 586 = .ok (.invokevirtual 106, 3) := by decide +kernel
theorem dL_law_589 : decode cL_law 589 = .ok (.aload_n 2, 1) := by decide +kernel
theorem dL_law_590 : decode cL_law 590 = .ok (.invokevirtual 109, 3) := by decide +kernel
theorem dL_law_593 : decode cL_law 593 = .ok (.if_icmp .eq 554, 3) := by decide +kernel
theorem dL_law_596 : decode cL_law 596 = .ok (.iconst 0, 1) := by decide +kernel
theorem dL_law_597 : decode cL_law 597 = .ok (.ireturn, 1) := by decide +kernel
theorem dL_law_598 : decode cL_law 598 = .ok (.aload_n 1, 1) := by decide +kernel
theorem dL_law_599 : decode cL_law 599 = .ok (.invokevirtual 110, 3) := by decide +kernel
theorem dL_law_602 : decode cL_law 602 = .ok (.aload_n 2, 1) := by decide +kernel
theorem dL_law_603 : decode cL_law 603 = .ok (.invokevirtual 113, 3) := by decide +kernel
theorem dL_law_606 : decode cL_law 606 = .ok (.if_icmp .eq 541, 3) := by decide +kernel
theorem dL_law_609 : decode cL_law 609 = .ok (.iconst 0, 1) := by decide +kernel
theorem dL_law_610 : decode cL_law 610 = .ok (.ireturn, 1) := by decide +kernel
theorem dL_law_611 : decode cL_law 611 = .ok (.aload_n 1, 1) := by decide +kernel
theorem dL_law_612 : decode cL_law 612 = .ok (.aload_n 0, 1) := by decide +kernel
theorem dL_law_613 : decode cL_law 613 = .ok (.iload 4, 2) := by decide +kernel
theorem dL_law_615 : decode cL_law 615 = .ok (.iconst 1, 1) := by decide +kernel
theorem dL_law_616 : decode cL_law 616 = .ok (.iadd, 1) := by decide +kernel
theorem dL_law_617 : decode cL_law 617 = .ok (.iaload, 1) := by decide +kernel
theorem dL_law_618 : decode cL_law 618 = .ok (.aload_n 3, 1) := by decide +kernel
theorem dL_law_619 : decode cL_law 619 = .ok (.invokestatic 114, 3) := by decide +kernel
theorem dL_law_622 : decode cL_law 622 = .ok (.istore 5, 2) := by decide +kernel
theorem dL_law_624 : decode cL_law 624 = .ok (.aload_n 2, 1) := by decide +kernel
theorem dL_law_625 : decode cL_law 625 = .ok (.aload_n 0, 1) := by decide +kernel
theorem dL_law_626 : decode cL_law 626 = .ok (.iload 4, 2) := by decide +kernel
theorem dL_law_628 : decode cL_law 628 = .ok (.iconst 1, 1) := by decide +kernel
theorem dL_law_629 : decode cL_law 629 = .ok (.iadd, 1) := by decide +kernel
theorem dL_law_630 : decode cL_law 630 = .ok (.iaload, 1) := by decide +kernel
theorem dL_law_631 : decode cL_law 631 = .ok (.invokevirtual 116, 3) := by decide +kernel
theorem dL_law_634 : decode cL_law 634 = .ok (.istore 6, 2) := by decide +kernel
theorem dL_law_636 : decode cL_law 636 = .ok (.aload_n 2, 1) := by decide +kernel
theorem dL_law_637 : decode cL_law 637 = .ok (.invokevirtual 66, 3) := by decide +kernel
theorem dL_law_640 : decode cL_law 640 = .ok (.iload 5, 2) := by decide +kernel
theorem dL_law_642 : decode cL_law 642 = .ok (.if_icmp .eq 5, 3) := by decide +kernel
theorem dL_law_645 : decode cL_law 645 = .ok (.iconst 0, 1) := by decide +kernel
theorem dL_law_646 : decode cL_law 646 = .ok (.ireturn, 1) := by decide +kernel
theorem dL_law_647 : decode cL_law 647 = .ok (.iload 5, 2) := by decide +kernel
theorem dL_law_649 : decode cL_law 649 = .ok (.ifCond .ne 15, 3) := by decide +kernel
theorem dL_law_652 : decode cL_law 652 = .ok (.aload_n 3, 1) := by decide +kernel
theorem dL_law_653 : decode cL_law 653 = .ok (.iconst 0, 1) := by decide +kernel
theorem dL_law_654 : decode cL_law 654 = .ok (.laload, 1) := by decide +kernel
theorem dL_law_655 : decode cL_law 655 = .ok (.iload 6, 2) := by decide +kernel
theorem dL_law_657 : decode cL_law 657 = .ok (.i2l, 1) := by decide +kernel
theorem dL_law_658 : decode cL_law 658 = .ok (.lcmp, 1) := by decide +kernel
theorem dL_law_659 : decode cL_law 659 = .ok (.ifCond .eq 5, 3) := by decide +kernel
theorem dL_law_662 : decode cL_law 662 = .ok (.iconst 0, 1) := by decide +kernel
theorem dL_law_663 : decode cL_law 663 = .ok (.ireturn, 1) := by decide +kernel
theorem dL_law_664 : decode cL_law 664 = .ok (.goto 483, 3) := by decide +kernel
theorem dL_law_667 : decode cL_law 667 = .ok (.aload_n 1, 1) := by decide +kernel
theorem dL_law_668 : decode cL_law 668 = .ok (.aload_n 0, 1) := by decide +kernel
theorem dL_law_669 : decode cL_law 669 = .ok (.iload 4, 2) := by decide +kernel
theorem dL_law_671 : decode cL_law 671 = .ok (.iconst 1, 1) := by decide +kernel
theorem dL_law_672 : decode cL_law 672 = .ok (.iadd, 1) := by decide +kernel
theorem dL_law_673 : decode cL_law 673 = .ok (.iaload, 1) := by decide +kernel
theorem dL_law_674 : decode cL_law 674 = .ok (.aload_n 3, 1) := by decide +kernel
theorem dL_law_675 : decode cL_law 675 = .ok (.invokestatic 117, 3) := by decide +kernel
theorem dL_law_678 : decode cL_law 678 = .ok (.istore 5, 2) := by decide +kernel
theorem dL_law_680 : decode cL_law 680 = .ok (.aload_n 2, 1) := by decide +kernel
theorem dL_law_681 : decode cL_law 681 = .ok (.aload_n 0, 1) := by decide +kernel
theorem dL_law_682 : decode cL_law 682 = .ok (.iload 4, 2) := by decide +kernel
theorem dL_law_684 : decode cL_law 684 = .ok (.iconst 1, 1) := by decide +kernel
theorem dL_law_685 : decode cL_law 685 = .ok (.iadd, 1) := by decide +kernel
theorem dL_law_686 : decode cL_law 686 = .ok (.iaload, 1) := by decide +kernel
theorem dL_law_687 : decode cL_law 687 = .ok (.invokevirtual 119, 3) := by decide +kernel
theorem dL_law_690 : decode cL_law 690 = .ok (.istore 6, 2) := by decide +kernel
theorem dL_law_692 : decode cL_law 692 = .ok (.aload_n 2, 1) := by decide +kernel
theorem dL_law_693 : decode cL_law 693 = .ok (.invokevirtual 66, 3) := by decide +kernel
theorem dL_law_696 : decode cL_law 696 = .ok (.iload 5, 2) := by decide +kernel
theorem dL_law_698 : decode cL_law 698 = .ok (.if_icmp .eq 5, 3) := by decide +kernel
theorem dL_law_701 : decode cL_law 701 = .ok (.iconst 0, 1) := by decide +kernel
theorem dL_law_702 : decode cL_law 702 = .ok (.ireturn, 1) := by decide +kernel
theorem dL_law_703 : decode cL_law 703 = .ok (.iload 5, 2) := by decide +kernel
theorem dL_law_705 : decode cL_law 705 = .ok (.ifCond .ne 15, 3) := by decide +kernel
theorem dL_law_708 : decode cL_law 708 = .ok (.aload_n 3, 1) := by decide +kernel
theorem dL_law_709 : decode cL_law 709 = .ok (.iconst 0, 1) := by decide +kernel
theorem dL_law_710 : decode cL_law 710 = .ok (.laload, 1) := by decide +kernel
theorem dL_law_711 : decode cL_law 711 = .ok (.iload 6, 2) := by decide +kernel
theorem dL_law_713 : decode cL_law 713 = .ok (.i2l, 1) := by decide +kernel
theorem dL_law_714 : decode cL_law 714 = .ok (.lcmp, 1) := by decide +kernel
theorem dL_law_715 : decode cL_law 715 = .ok (.ifCond .eq 5, 3) := by decide +kernel
theorem dL_law_718 : decode cL_law 718 = .ok (.iconst 0, 1) := by decide +kernel
theorem dL_law_719 : decode cL_law 719 = .ok (.ireturn, 1) := by decide +kernel
theorem dL_law_720 : decode cL_law 720 = .ok (.goto 427, 3) := by decide +kernel
theorem dL_law_723 : decode cL_law 723 = .ok (.aload_n 1, 1) := by decide +kernel
theorem dL_law_724 : decode cL_law 724 = .ok (.aload_n 0, 1) := by decide +kernel
theorem dL_law_725 : decode cL_law 725 = .ok (.iload 4, 2) := by decide +kernel
theorem dL_law_727 : decode cL_law 727 = .ok (.iconst 1, 1) := by decide +kernel
theorem dL_law_728 : decode cL_law 728 = .ok (.iadd, 1) := by decide +kernel
theorem dL_law_729 : decode cL_law 729 = .ok (.iaload, 1) := by decide +kernel
theorem dL_law_730 : decode cL_law 730 = .ok (.aload_n 3, 1) := by decide +kernel
theorem dL_law_731 : decode cL_law 731 = .ok (.invokestatic 120, 3) := by decide +kernel
theorem dL_law_734 : decode cL_law 734 = .ok (.istore 5, 2) := by decide +kernel
theorem dL_law_736 : decode cL_law 736 = .ok (.aload_n 2, 1) := by decide +kernel
theorem dL_law_737 : decode cL_law 737 = .ok (.aload_n 0, 1) := by decide +kernel
theorem dL_law_738 : decode cL_law 738 = .ok (.iload 4, 2) := by decide +kernel
theorem dL_law_740 : decode cL_law 740 = .ok (.iconst 1, 1) := by decide +kernel
theorem dL_law_741 : decode cL_law 741 = .ok (.iadd, 1) := by decide +kernel
theorem dL_law_742 : decode cL_law 742 = .ok (.iaload, 1) := by decide +kernel
theorem dL_law_743 : decode cL_law 743 = .ok (.invokevirtual 122, 3) := by decide +kernel
theorem dL_law_746 : decode cL_law 746 = .ok (.istore 6, 2) := by decide +kernel
theorem dL_law_748 : decode cL_law 748 = .ok (.aload_n 2, 1) := by decide +kernel
theorem dL_law_749 : decode cL_law 749 = .ok (.invokevirtual 66, 3) := by decide +kernel
theorem dL_law_752 : decode cL_law 752 = .ok (.iload 5, 2) := by decide +kernel
theorem dL_law_754 : decode cL_law 754 = .ok (.if_icmp .eq 5, 3) := by decide +kernel
theorem dL_law_757 : decode cL_law 757 = .ok (.iconst 0, 1) := by decide +kernel
theorem dL_law_758 : decode cL_law 758 = .ok (.ireturn, 1) := by decide +kernel
theorem dL_law_759 : decode cL_law 759 = .ok (.iload 5, 2) := by decide +kernel
theorem dL_law_761 : decode cL_law 761 = .ok (.ifCond .ne 15, 3) := by decide +kernel
theorem dL_law_764 : decode cL_law 764 = .ok (.aload_n 3, 1) := by decide +kernel
theorem dL_law_765 : decode cL_law 765 = .ok (.iconst 0, 1) := by decide +kernel
theorem dL_law_766 : decode cL_law 766 = .ok (.laload, 1) := by decide +kernel
theorem dL_law_767 : decode cL_law 767 = .ok (.iload 6, 2) := by decide +kernel
theorem dL_law_769 : decode cL_law 769 = .ok (.i2l, 1) := by decide +kernel
theorem dL_law_770 : decode cL_law 770 = .ok (.lcmp, 1) := by decide +kernel
theorem dL_law_771 : decode cL_law 771 = .ok (.ifCond .eq 5, 3) := by decide +kernel
theorem dL_law_774 : decode cL_law 774 = .ok (.iconst 0, 1) := by decide +kernel
theorem dL_law_775 : decode cL_law 775 = .ok (.ireturn, 1) := by decide +kernel
theorem dL_law_776 : decode cL_law 776 = .ok (.goto 371, 3) := by decide +kernel
theorem dL_law_779 : decode cL_law 779 = .ok (.aload_n 1, 1) := by decide +kernel
theorem dL_law_780 : decode cL_law 780 = .ok (.aload_n 0, 1) := by decide +kernel
theorem dL_law_781 : decode cL_law 781 = .ok (.iload 4, 2) := by decide +kernel
theorem dL_law_783 : decode cL_law 783 = .ok (.iconst 1, 1) := by decide +kernel
theorem dL_law_784 : decode cL_law 784 = .ok (.iadd, 1) := by decide +kernel
theorem dL_law_785 : decode cL_law 785 = .ok (.iaload, 1) := by decide +kernel
theorem dL_law_786 : decode cL_law 786 = .ok (.aload_n 0, 1) := by decide +kernel
theorem dL_law_787 : decode cL_law 787 = .ok (.iload 4, 2) := by decide +kernel
theorem dL_law_789 : decode cL_law 789 = .ok (.iconst 2, 1) := by decide +kernel
theorem dL_law_790 : decode cL_law 790 = .ok (.iadd, 1) := by decide +kernel
theorem dL_law_791 : decode cL_law 791 = .ok (.iaload, 1) := by decide +kernel
theorem dL_law_792 : decode cL_law 792 = .ok (.aload_n 3, 1) := by decide +kernel
theorem dL_law_793 : decode cL_law 793 = .ok (.invokestatic 123, 3) := by decide +kernel
theorem dL_law_796 : decode cL_law 796 = .ok (.istore 5, 2) := by decide +kernel
theorem dL_law_798 : decode cL_law 798 = .ok (.aload_n 2, 1) := by decide +kernel
theorem dL_law_799 : decode cL_law 799 = .ok (.aload_n 0, 1) := by decide +kernel
theorem dL_law_800 : decode cL_law 800 = .ok (.iload 4, 2) := by decide +kernel
theorem dL_law_802 : decode cL_law 802 = .ok (.iconst 1, 1) := by decide +kernel
theorem dL_law_803 : decode cL_law 803 = .ok (.iadd, 1) := by decide +kernel
theorem dL_law_804 : decode cL_law 804 = .ok (.iaload, 1) := by decide +kernel
theorem dL_law_805 : decode cL_law 805 = .ok (.aload_n 0, 1) := by decide +kernel
theorem dL_law_806 : decode cL_law 806 = .ok (.iload 4, 2) := by decide +kernel
theorem dL_law_808 : decode cL_law 808 = .ok (.iconst 2, 1) := by decide +kernel
theorem dL_law_809 : decode cL_law 809 = .ok (.iadd, 1) := by decide +kernel
theorem dL_law_810 : decode cL_law 810 = .ok (.iaload, 1) := by decide +kernel
theorem dL_law_811 : decode cL_law 811 = .ok (.invokevirtual 125, 3) := by decide +kernel
theorem dL_law_814 : decode cL_law 814 = .ok (.istore 6, 2) := by decide +kernel
theorem dL_law_816 : decode cL_law 816 = .ok (.aload_n 2, 1) := by decide +kernel
theorem dL_law_817 : decode cL_law 817 = .ok (.invokevirtual 66, 3) := by decide +kernel
theorem dL_law_820 : decode cL_law 820 = .ok (.iload 5, 2) := by decide +kernel
theorem dL_law_822 : decode cL_law 822 = .ok (.if_icmp .eq 5, 3) := by decide +kernel
theorem dL_law_825 : decode cL_law 825 = .ok (.iconst 0, 1) := by decide +kernel
theorem dL_law_826 : decode cL_law 826 = .ok (.ireturn, 1) := by decide +kernel
theorem dL_law_827 : decode cL_law 827 = .ok (.iload 5, 2) := by decide +kernel
theorem dL_law_829 : decode cL_law 829 = .ok (.ifCond .ne 15, 3) := by decide +kernel
theorem dL_law_832 : decode cL_law 832 = .ok (.aload_n 3, 1) := by decide +kernel
theorem dL_law_833 : decode cL_law 833 = .ok (.iconst 0, 1) := by decide +kernel
theorem dL_law_834 : decode cL_law 834 = .ok (.laload, 1) := by decide +kernel
theorem dL_law_835 : decode cL_law 835 = .ok (.iload 6, 2) := by decide +kernel
theorem dL_law_837 : decode cL_law 837 = .ok (.i2l, 1) := by decide +kernel
theorem dL_law_838 : decode cL_law 838 = .ok (.lcmp, 1) := by decide +kernel
theorem dL_law_839 : decode cL_law 839 = .ok (.ifCond .eq 5, 3) := by decide +kernel
theorem dL_law_842 : decode cL_law 842 = .ok (.iconst 0, 1) := by decide +kernel
theorem dL_law_843 : decode cL_law 843 = .ok (.ireturn, 1) := by decide +kernel
theorem dL_law_844 : decode cL_law 844 = .ok (.goto 303, 3) := by decide +kernel
theorem dL_law_847 : decode cL_law 847 = .ok (.aload_n 1, 1) := by decide +kernel
theorem dL_law_848 : decode cL_law 848 = .ok (.invokevirtual 126, 3) := by decide +kernel
theorem dL_law_851 : decode cL_law 851 = .ok (.aload_n 2, 1) := by decide +kernel
theorem dL_law_852 : decode cL_law 852 = .ok (.invokevirtual 129, 3) := by decide +kernel
theorem dL_law_855 : decode cL_law 855 = .ok (.if_icmp .eq 292, 3) := by decide +kernel
theorem dL_law_858 : decode cL_law 858 = .ok (.iconst 0, 1) := by decide +kernel
theorem dL_law_859 : decode cL_law 859 = .ok (.ireturn, 1) := by decide +kernel
theorem dL_law_860 : decode cL_law 860 = .ok (.aload_n 1, 1) := by decide +kernel
theorem dL_law_861 : decode cL_law 861 = .ok (.invokevirtual 130, 3) := by decide +kernel
theorem dL_law_864 : decode cL_law 864 = .ok (.aload_n 2, 1) := by decide +kernel
theorem dL_law_865 : decode cL_law 865 = .ok (.invokevirtual 133, 3) := by decide +kernel
theorem dL_law_868 : decode cL_law 868 = .ok (.if_icmp .eq 279, 3) := by decide +kernel
theorem dL_law_871 : decode cL_law 871 = .ok (.iconst 0, 1) := by decide +kernel
theorem dL_law_872 : decode cL_law 872 = .ok (.ireturn, 1) := by decide +kernel
theorem dL_law_873 : decode cL_law 873 = .ok (.aload_n 1, 1) := by decide +kernel
theorem dL_law_874 : decode cL_law 874 = .ok (.invokevirtual 134, 3) := by decide +kernel
theorem dL_law_877 : decode cL_law 877 = .ok (.aload_n 2, 1) := by decide +kernel
theorem dL_law_878 : decode cL_law 878 = .ok (.invokevirtual 137, 3) := by decide +kernel
theorem dL_law_881 : decode cL_law 881 = .ok (.if_icmp .eq 266, 3) := by decide +kernel
theorem dL_law_884 : decode cL_law 884 = .ok (.iconst 0, 1) := by decide +kernel
theorem dL_law_885 : decode cL_law 885 = .ok (.ireturn, 1) := by decide +kernel
theorem dL_law_886 : decode cL_law 886 = .ok (.aload_n 1, 1) := by decide +kernel
theorem dL_law_887 : decode cL_law 887 = .ok (.invokevirtual 138, 3) := by decide +kernel
theorem dL_law_890 : decode cL_law 890 = .ok (.aload_n 2, 1) := by decide +kernel
theorem dL_law_891 : decode cL_law 891 = .ok (.invokevirtual 141, 3) := by decide +kernel
theorem dL_law_894 : decode cL_law 894 = .ok (.if_icmp .eq 253, 3) := by decide +kernel
theorem dL_law_897 : decode cL_law 897 = .ok (.iconst 0, 1) := by decide +kernel
theorem dL_law_898 : decode cL_law 898 = .ok (.ireturn, 1) := by decide +kernel
theorem dL_law_899 : decode cL_law 899 = .ok (.aload_n 1, 1) := by decide +kernel
theorem dL_law_900 : decode cL_law 900 = .ok (.aload_n 0, 1) := by decide +kernel
theorem dL_law_901 : decode cL_law 901 = .ok (.iload 4, 2) := by decide +kernel
theorem dL_law_903 : decode cL_law 903 = .ok (.iconst 1, 1) := by decide +kernel
theorem dL_law_904 : decode cL_law 904 = .ok (.iadd, 1) := by decide +kernel
theorem dL_law_905 : decode cL_law 905 = .ok (.iaload, 1) := by decide +kernel
theorem dL_law_906 : decode cL_law 906 = .ok (.aload_n 3, 1) := by decide +kernel
theorem dL_law_907 : decode cL_law 907 = .ok (.invokestatic 142, 3) := by decide +kernel
theorem dL_law_910 : decode cL_law 910 = .ok (.istore 5, 2) := by decide +kernel
theorem dL_law_912 : decode cL_law 912 = .ok (.aload_n 2, 1) := by decide +kernel
theorem dL_law_913 : decode cL_law 913 = .ok (.aload_n 0, 1) := by decide +kernel
theorem dL_law_914 : decode cL_law 914 = .ok (.iload 4, 2) := by decide +kernel
theorem dL_law_916 : decode cL_law 916 = .ok (.iconst 1, 1) := by decide +kernel
theorem dL_law_917 : decode cL_law 917 = .ok (.iadd, 1) := by decide +kernel
theorem dL_law_918 : decode cL_law 918 = .ok (.iaload, 1) := by decide +kernel
theorem dL_law_919 : decode cL_law 919 = .ok (.invokevirtual 144, 3) := by decide +kernel
theorem dL_law_922 : decode cL_law 922 = .ok (.istore 6, 2) := by decide +kernel
theorem dL_law_924 : decode cL_law 924 = .ok (.aload_n 2, 1) := by decide +kernel
theorem dL_law_925 : decode cL_law 925 = .ok (.invokevirtual 66, 3) := by decide +kernel
theorem dL_law_928 : decode cL_law 928 = .ok (.iload 5, 2) := by decide +kernel
theorem dL_law_930 : decode cL_law 930 = .ok (.if_icmp .eq 5, 3) := by decide +kernel
theorem dL_law_933 : decode cL_law 933 = .ok (.iconst 0, 1) := by decide +kernel
theorem dL_law_934 : decode cL_law 934 = .ok (.ireturn, 1) := by decide +kernel
theorem dL_law_935 : decode cL_law 935 = .ok (.iload 5, 2) := by decide +kernel
theorem dL_law_937 : decode cL_law 937 = .ok (.ifCond .ne 15, 3) := by decide +kernel
theorem dL_law_940 : decode cL_law 940 = .ok (.aload_n 3, 1) := by decide +kernel
theorem dL_law_941 : decode cL_law 941 = .ok (.iconst 0, 1) := by decide +kernel
theorem dL_law_942 : decode cL_law 942 = .ok (.laload, 1) := by decide +kernel
theorem dL_law_943 : decode cL_law 943 = .ok (.iload 6, 2) := by decide +kernel
theorem dL_law_945 : decode cL_law 945 = .ok (.i2l, 1) := by decide +kernel
theorem dL_law_946 : decode cL_law 946 = .ok (.lcmp, 1) := by decide +kernel
theorem dL_law_947 : decode cL_law 947 = .ok (.ifCond .eq 5, 3) := by decide +kernel
theorem dL_law_950 : decode cL_law 950 = .ok (.iconst 0, 1) := by decide +kernel
theorem dL_law_951 : decode cL_law 951 = .ok (.ireturn, 1) := by decide +kernel
theorem dL_law_952 : decode cL_law 952 = .ok (.goto 195, 3) := by decide +kernel
theorem dL_law_955 : decode cL_law 955 = .ok (.aload_n 1, 1) := by decide +kernel
theorem dL_law_956 : decode cL_law 956 = .ok (.aload_n 0, 1) := by decide +kernel
theorem dL_law_957 : decode cL_law 957 = .ok (.iload 4, 2) := by decide +kernel
theorem dL_law_959 : decode cL_law 959 = .ok (.iconst 1, 1) := by decide +kernel
theorem dL_law_960 : decode cL_law 960 = .ok (.iadd, 1) := by decide +kernel
theorem dL_law_961 : decode cL_law 961 = .ok (.iaload, 1) := by decide +kernel
theorem dL_law_962 : decode cL_law 962 = .ok (.aload_n 0, 1) := by decide +kernel
theorem dL_law_963 : decode cL_law 963 = .ok (.iload 4, 2) := by decide +kernel
theorem dL_law_965 : decode cL_law 965 = .ok (.iconst 2, 1) := by decide +kernel
theorem dL_law_966 : decode cL_law 966 = .ok (.iadd, 1) := by decide +kernel
theorem dL_law_967 : decode cL_law 967 = .ok (.iaload, 1) := by decide +kernel
theorem dL_law_968 : decode cL_law 968 = .ok (.aload_n 3, 1) := by decide +kernel
theorem dL_law_969 : decode cL_law 969 = .ok (.invokestatic 145, 3) := by decide +kernel
theorem dL_law_972 : decode cL_law 972 = .ok (.istore 5, 2) := by decide +kernel
theorem dL_law_974 : decode cL_law 974 = .ok (.aload_n 2, 1) := by decide +kernel
theorem dL_law_975 : decode cL_law 975 = .ok (.aload_n 0, 1) := by decide +kernel
theorem dL_law_976 : decode cL_law 976 = .ok (.iload 4, 2) := by decide +kernel
theorem dL_law_978 : decode cL_law 978 = .ok (.iconst 1, 1) := by decide +kernel
theorem dL_law_979 : decode cL_law 979 = .ok (.iadd, 1) := by decide +kernel
theorem dL_law_980 : decode cL_law 980 = .ok (.iaload, 1) := by decide +kernel
theorem dL_law_981 : decode cL_law 981 = .ok (.aload_n 0, 1) := by decide +kernel
theorem dL_law_982 : decode cL_law 982 = .ok (.iload 4, 2) := by decide +kernel
theorem dL_law_984 : decode cL_law 984 = .ok (.iconst 2, 1) := by decide +kernel
theorem dL_law_985 : decode cL_law 985 = .ok (.iadd, 1) := by decide +kernel
theorem dL_law_986 : decode cL_law 986 = .ok (.iaload, 1) := by decide +kernel
theorem dL_law_987 : decode cL_law 987 = .ok (.invokevirtual 147, 3) := by decide +kernel
theorem dL_law_990 : decode cL_law 990 = .ok (.istore 6, 2) := by decide +kernel
theorem dL_law_992 : decode cL_law 992 = .ok (.aload_n 2, 1) := by decide +kernel
theorem dL_law_993 : decode cL_law 993 = .ok (.invokevirtual 66, 3) := by decide +kernel
theorem dL_law_996 : decode cL_law 996 = .ok (.iload 5, 2) := by decide +kernel
theorem dL_law_998 : decode cL_law 998 = .ok (.if_icmp .eq 5, 3) := by decide +kernel
theorem dL_law_1001 : decode cL_law 1001 = .ok (.iconst 0, 1) := by decide +kernel
theorem dL_law_1002 : decode cL_law 1002 = .ok (.ireturn, 1) := by decide +kernel
theorem dL_law_1003 : decode cL_law 1003 = .ok (.iload 5, 2) := by decide +kernel
theorem dL_law_1005 : decode cL_law 1005 = .ok (.ifCond .ne 15, 3) := by decide +kernel
theorem dL_law_1008 : decode cL_law 1008 = .ok (.aload_n 3, 1) := by decide +kernel
theorem dL_law_1009 : decode cL_law 1009 = .ok (.iconst 0, 1) := by decide +kernel
theorem dL_law_1010 : decode cL_law 1010 = .ok (.laload, 1) := by decide +kernel
theorem dL_law_1011 : decode cL_law 1011 = .ok (.iload 6, 2) := by decide +kernel
theorem dL_law_1013 : decode cL_law 1013 = .ok (.i2l, 1) := by decide +kernel
theorem dL_law_1014 : decode cL_law 1014 = .ok (.lcmp, 1) := by decide +kernel
theorem dL_law_1015 : decode cL_law 1015 = .ok (.ifCond .eq 5, 3) := by decide +kernel
theorem dL_law_1018 : decode cL_law 1018 = .ok (.iconst 0, 1) := by decide +kernel
theorem dL_law_1019 : decode cL_law 1019 = .ok (.ireturn, 1) := by decide +kernel
theorem dL_law_1020 : decode cL_law 1020 = .ok (.goto 127, 3) := by decide +kernel
theorem dL_law_1023 : decode cL_law 1023 = .ok (.aload_n 1, 1) := by decide +kernel
theorem dL_law_1024 : decode cL_law 1024 = .ok (.invokevirtual 148, 3) := by decide +kernel
theorem dL_law_1027 : decode cL_law 1027 = .ok (.aload_n 2, 1) := by decide +kernel
theorem dL_law_1028 : decode cL_law 1028 = .ok (.invokevirtual 151, 3) := by decide +kernel
theorem dL_law_1031 : decode cL_law 1031 = .ok (.if_icmp .eq 116, 3) := by decide +kernel
theorem dL_law_1034 : decode cL_law 1034 = .ok (.iconst 0, 1) := by decide +kernel
theorem dL_law_1035 : decode cL_law 1035 = .ok (.ireturn, 1) := by decide +kernel
theorem dL_law_1036 : decode cL_law 1036 = .ok (.aload_n 1, 1) := by decide +kernel
theorem dL_law_1037 : decode cL_law 1037 = .ok (.aload_n 0, 1) := by decide +kernel
theorem dL_law_1038 : decode cL_law 1038 = .ok (.iload 4, 2) := by decide +kernel
theorem dL_law_1040 : decode cL_law 1040 = .ok (.iconst 1, 1) := by decide +kernel
theorem dL_law_1041 : decode cL_law 1041 = .ok (.iadd, 1) := by decide +kernel
theorem dL_law_1042 : decode cL_law 1042 = .ok (.iaload, 1) := by decide +kernel
theorem dL_law_1043 : decode cL_law 1043 = .ok (.aload_n 3, 1) := by decide +kernel
theorem dL_law_1044 : decode cL_law 1044 = .ok (.invokestatic 152, 3) := by decide +kernel
theorem dL_law_1047 : decode cL_law 1047 = .ok (.istore 5, 2) := by decide +kernel
theorem dL_law_1049 : decode cL_law 1049 = .ok (.aload_n 2, 1) := by decide +kernel
theorem dL_law_1050 : decode cL_law 1050 = .ok (.aload_n 0, 1) := by decide +kernel
theorem dL_law_1051 : decode cL_law 1051 = .ok (.iload 4, 2) := by decide +kernel
theorem dL_law_1053 : decode cL_law 1053 = .ok (.iconst 1, 1) := by decide +kernel
theorem dL_law_1054 : decode cL_law 1054 = .ok (.iadd, 1) := by decide +kernel
theorem dL_law_1055 : decode cL_law 1055 = .ok (.iaload, 1) := by decide +kernel
theorem dL_law_1056 : decode cL_law 1056 = .ok (.invokevirtual 154, 3) := by decide +kernel
theorem dL_law_1059 : decode cL_law 1059 = .ok (.istore 6, 2) := by decide +kernel
theorem dL_law_1061 : decode cL_law 1061 = .ok (.aload_n 2, 1) := by decide +kernel
theorem dL_law_1062 : decode cL_law 1062 = .ok (.invokevirtual 66, 3) := by decide +kernel
theorem dL_law_1065 : decode cL_law 1065 = .ok (.iload 5, 2) := by decide +kernel
theorem dL_law_1067 : decode cL_law 1067 = .ok (.if_icmp .eq 5, 3) := by decide +kernel
theorem dL_law_1070 : decode cL_law 1070 = .ok (.iconst 0, 1) := by decide +kernel
theorem dL_law_1071 : decode cL_law 1071 = .ok (.ireturn, 1) := by decide +kernel
theorem dL_law_1072 : decode cL_law 1072 = .ok (.iload 5, 2) := by decide +kernel
theorem dL_law_1074 : decode cL_law 1074 = .ok (.ifCond .ne 15, 3) := by decide +kernel
theorem dL_law_1077 : decode cL_law 1077 = .ok (.aload_n 3, 1) := by decide +kernel
theorem dL_law_1078 : decode cL_law 1078 = .ok (.iconst 0, 1) := by decide +kernel
theorem dL_law_1079 : decode cL_law 1079 = .ok (.laload, 1) := by decide +kernel
theorem dL_law_1080 : decode cL_law 1080 = .ok (.iload 6, 2) := by decide +kernel
theorem dL_law_1082 : decode cL_law 1082 = .ok (.i2l, 1) := by decide +kernel
theorem dL_law_1083 : decode cL_law 1083 = .ok (.lcmp, 1) := by decide +kernel
theorem dL_law_1084 : decode cL_law 1084 = .ok (.ifCond .eq 5, 3) := by decide +kernel
theorem dL_law_1087 : decode cL_law 1087 = .ok (.iconst 0, 1) := by decide +kernel
theorem dL_law_1088 : decode cL_law 1088 = .ok (.ireturn, 1) := by decide +kernel
theorem dL_law_1089 : decode cL_law 1089 = .ok (.goto 58, 3) := by decide +kernel
theorem dL_law_1092 : decode cL_law 1092 = .ok (.aload_n 1, 1) := by decide +kernel
theorem dL_law_1093 : decode cL_law 1093 = .ok (.invokevirtual 155, 3) := by decide +kernel
theorem dL_law_1096 : decode cL_law 1096 = .ok (.dstore 5, 2) := by decide +kernel
theorem dL_law_1098 : decode cL_law 1098 = .ok (.aload_n 2, 1) := by decide +kernel
theorem dL_law_1099 : decode cL_law 1099 = .ok (.invokevirtual 159, 3) := by decide +kernel
theorem dL_law_1102 : decode cL_law 1102 = .ok (.dstore 7, 2) := by decide +kernel
theorem dL_law_1104 : decode cL_law 1104 = .ok (.dload 5, 2) := by decide +kernel
theorem dL_law_1106 : decode cL_law 1106 = .ok (.dload 7, 2) := by decide +kernel
theorem dL_law_1108 : decode cL_law 1108 = .ok (.dcmp .l, 1) := by decide +kernel
theorem dL_law_1109 : decode cL_law 1109 = .ok (.ifCond .eq 21, 3) := by decide +kernel
theorem dL_law_1112 : decode cL_law 1112 = .ok (.dload 5, 2) := by decide +kernel
theorem dL_law_1114 : decode cL_law 1114 = .ok (.dload 5, 2) := by decide +kernel
theorem dL_law_1116 : decode cL_law 1116 = .ok (.dcmp .l, 1) := by decide +kernel
theorem dL_law_1117 : decode cL_law 1117 = .ok (.ifCond .eq 11, 3) := by decide +kernel
theorem dL_law_1120 : decode cL_law 1120 = .ok (.dload 7, 2) := by decide +kernel
theorem dL_law_1122 : decode cL_law 1122 = .ok (.dload 7, 2) := by decide +kernel
theorem dL_law_1124 : decode cL_law 1124 = .ok (.dcmp .l, 1) := by decide +kernel
theorem dL_law_1125 : decode cL_law 1125 = .ok (.ifCond .ne 5, 3) := by decide +kernel
theorem dL_law_1128 : decode cL_law 1128 = .ok (.iconst 0, 1) := by decide +kernel
theorem dL_law_1129 : decode cL_law 1129 = .ok (.ireturn, 1) := by decide +kernel
theorem dL_law_1130 : decode cL_law 1130 = .ok (.goto 17, 3) := by decide +kernel
theorem dL_law_1133 : decode cL_law 1133 = .ok (.aload_n 1, 1) := by decide +kernel
theorem dL_law_1134 : decode cL_law 1134 = .ok (.invokevirtual 160, 3) := by decide +kernel
theorem dL_law_1137 : decode cL_law 1137 = .ok (.aload_n 2, 1) := by decide +kernel
theorem dL_law_1138 : decode cL_law 1138 = .ok (.invokevirtual 164, 3) := by decide +kernel
theorem dL_law_1141 : decode cL_law 1141 = .ok (.lcmp, 1) := by decide +kernel
theorem dL_law_1142 : decode cL_law 1142 = .ok (.ifCond .eq 5, 3) := by decide +kernel
theorem dL_law_1145 : decode cL_law 1145 = .ok (.iconst 0, 1) := by decide +kernel
theorem dL_law_1146 : decode cL_law 1146 = .ok (.ireturn, 1) := by decide +kernel
theorem dL_law_1147 : decode cL_law 1147 = .ok (.iinc 4 3, 3) := by decide +kernel
theorem dL_law_1150 : decode cL_law 1150 = .ok (.goto (-1127), 3) := by decide +kernel
theorem dL_law_1153 : decode cL_law 1153 = .ok (.iconst 1, 1) := by decide +kernel
theorem dL_law_1154 : decode cL_law 1154 = .ok (.ireturn, 1) := by decide +kernel
