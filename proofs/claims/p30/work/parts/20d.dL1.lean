theorem dL_build_57 : decode cL_build 57 = .ok (.invokestatic 69, 3) := by decide +kernel
theorem dL_build_60 : decode cL_build 60 = .ok (.ifCond .ne 5, 3) := by decide +kernel
theorem dL_build_63 : decode cL_build 63 = .ok (.aconst_null, 1) := by decide +kernel
theorem dL_build_64 : decode cL_build 64 = .ok (.areturn, 1) := by decide +kernel
theorem dL_build_65 : decode cL_build 65 = .ok (.iinc 4 1, 3) := by decide +kernel
theorem dL_build_68 : decode cL_build 68 = .ok (.goto (-44), 3) := by decide +kernel
theorem dL_build_71 : decode cL_build 71 = .ok (.aload_n 2, 1) := by decide +kernel
theorem dL_build_72 : decode cL_build 72 = .ok (.areturn, 1) := by decide +kernel
set_option maxRecDepth 20000 in
theorem ggL_law_X1_init : GoodIn wsL_law wsX1_init := goodIn_r _ [13, 14, 15, 16, 17, 18, 19, 20, 21, 22, 23, 24, 25, 26, 27, 28, 29, 30, 31, 32, 33, 34, 35, 36, 37, 38, 411, 412, 413, 414, 405, 406] (by decide +kernel) (by decide +kernel)
set_option maxRecDepth 20000 in
theorem gL_law_X1_init : GoodIn wsL_law (wsX1_init) := ggL_law_X1_init
set_option maxRecDepth 20000 in
theorem ggL_law_L_build_c1 : GoodIn wsL_law wsL_build_r1 := goodIn_r _ [43, 44, 45, 46, 47, 48, 15, 16, 26, 49, 50, 51, 52, 53, 54, 41, 55, 56, 57, 58, 59, 60, 61, 62] (by decide +kernel) (by decide +kernel)
set_option maxRecDepth 20000 in
theorem ggL_law_L_build_c2 : GoodIn wsL_law wsL_build_r2 := goodIn_r _ [63, 64, 8, 7, 9, 10, 65, 66, 67, 68, 69, 70, 71, 72, 73, 74, 75, 76, 77, 78, 79, 80, 81, 82] (by decide +kernel) (by decide +kernel)
set_option maxRecDepth 20000 in
theorem ggL_law_L_build_c3 : GoodIn wsL_law wsL_build_r3 := goodIn_r _ [83, 84, 85, 86, 87, 88, 89, 90, 91, 92, 93, 94, 95, 96, 97, 98, 99, 100, 101, 102, 2, 103, 104, 105] (by decide +kernel) (by decide +kernel)
set_option maxRecDepth 20000 in
theorem ggL_law_L_build_c4 : GoodIn wsL_law wsL_build_r4 := goodIn_r _ [106, 107, 108, 109, 110, 111, 112, 113, 114, 21, 20, 115, 30, 31, 19, 32, 33, 34, 27, 35, 36, 37, 38, 28] (by decide +kernel) (by decide +kernel)
set_option maxRecDepth 20000 in
theorem ggL_law_L_build_c5 : GoodIn wsL_law wsL_build_r5 := goodIn_r _ [116, 117, 118, 119, 120, 121, 122, 123, 124, 125, 126, 127, 128, 129, 130, 131, 132, 133, 134, 135, 136, 137, 138, 139] (by decide +kernel) (by decide +kernel)
set_option maxRecDepth 20000 in
theorem ggL_law_L_build_c6 : GoodIn wsL_law wsL_build_r6 := goodIn_r _ [140, 141, 142, 143, 144, 145, 146, 147, 148, 149, 150, 151, 152, 153, 154, 155, 156, 157, 158, 159, 160, 161, 162, 163] (by decide +kernel) (by decide +kernel)
set_option maxRecDepth 20000 in
theorem ggL_law_L_build_c7 : GoodIn wsL_law wsL_build_r7 := goodIn_r _ [164, 165, 166, 167, 168, 169, 170, 171, 172, 29, 173, 174, 175, 176, 177, 178, 179, 180, 181, 182, 183, 184, 185, 186] (by decide +kernel) (by decide +kernel)
set_option maxRecDepth 20000 in
theorem ggL_law_L_build_c8 : GoodIn wsL_law wsL_build_r8 := goodIn_r _ [187, 188, 189, 190, 191, 192, 193, 194, 195, 196, 197, 198, 199, 200, 201, 202, 203, 204, 205, 206, 207, 208, 209, 210] (by decide +kernel) (by decide +kernel)
set_option maxRecDepth 20000 in
theorem ggL_law_L_build_c9 : GoodIn wsL_law wsL_build_r9 := goodIn_r _ [211, 212, 213, 214, 215, 216, 217, 218, 219, 220, 221, 222, 223, 224, 225, 226] (by decide +kernel) (by decide +kernel)
set_option maxRecDepth 20000 in
theorem ggL_law_L_build_c10 : GoodIn wsL_law wsX20 := goodIn_r _ [407, 408, 409, 410] (by decide +kernel) (by decide +kernel)
set_option maxRecDepth 20000 in
theorem ggL_law_L_build_c11 : GoodIn wsL_law wsX10 := goodIn_r _ [405, 406] (by decide +kernel) (by decide +kernel)
set_option maxRecDepth 20000 in
theorem ggL_law_L_build_c12 : GoodIn wsL_law wsX00 := goodIn_r _ [411, 412, 413, 414] (by decide +kernel) (by decide +kernel)
set_option maxRecDepth 20000 in
theorem ggL_law_L_build_c0 : GoodIn wsL_law [Cond.code yL_build cL_build 5 (some (.object "CoatHooksLaw$Sim"))] := goodIn_r _ [42] (by decide +kernel) (by decide +kernel)
set_option maxRecDepth 20000 in
theorem ggL_law_L_build : GoodIn wsL_law wsL_build := goodIn_ca (goodIn_ca (goodIn_k ggL_law_L_build_c0 (goodIn_app (goodIn_app (goodIn_app (goodIn_app ggL_law_L_build_c1 (goodIn_app ggL_law_L_build_c2 (goodIn_app ggL_law_L_build_c3 (goodIn_app ggL_law_L_build_c4 (goodIn_app ggL_law_L_build_c5 (goodIn_app ggL_law_L_build_c6 (goodIn_app ggL_law_L_build_c7 (goodIn_app ggL_law_L_build_c8 ggL_law_L_build_c9)))))))) ggL_law_L_build_c10) ggL_law_L_build_c11) ggL_law_L_build_c12)) (goodIn_sub (fun _ h => List.mem_append_left _ (List.mem_append_left _ (List.mem_append_right _ h))) (by decide +kernel))) (goodIn_sub (fun _ h => List.mem_append_left _ (List.mem_append_right _ h)) (by decide +kernel))
set_option maxRecDepth 20000 in
theorem gL_law_L_build : GoodIn wsL_law (va_wsS RL 74 yL_build wsL_build) := goodIn_app (goodIn_of _ (by decide +kernel)) ggL_law_L_build
set_option maxRecDepth 20000 in
theorem ggL_law_L_cell : GoodIn wsL_law wsL_cell := goodIn_r _ [55, 56] (by decide +kernel) (by decide +kernel)
set_option maxRecDepth 20000 in
theorem gL_law_L_cell : GoodIn wsL_law (va_wsS RL 65 yL_cell wsL_cell) := goodIn_app (goodIn_of _ (by decide +kernel)) ggL_law_L_cell
set_option maxRecDepth 20000 in
theorem ggL_law_L_act_c1 : GoodIn wsL_law wsL_act_r1 := goodIn_r _ [64, 8, 7, 9, 10, 57, 58, 41, 59, 60, 65, 66, 67, 45, 68, 49, 50, 69, 70, 71, 72, 73, 44, 74] (by decide +kernel) (by decide +kernel)
set_option maxRecDepth 20000 in
theorem ggL_law_L_act_c2 : GoodIn wsL_law wsL_act_r2 := goodIn_r _ [26, 51, 52, 75, 46, 47, 48, 15, 16, 76, 77, 78, 79, 80, 81, 82, 83, 84, 85, 86, 87, 88, 89, 90] (by decide +kernel) (by decide +kernel)
set_option maxRecDepth 20000 in
theorem ggL_law_L_act_c3 : GoodIn wsL_law wsL_act_r3 := goodIn_r _ [91, 92, 93, 94, 95, 96, 97, 98, 99, 100, 101, 102, 2, 103, 104, 105, 106, 107, 108, 109, 110, 111, 112, 113] (by decide +kernel) (by decide +kernel)
set_option maxRecDepth 20000 in
theorem ggL_law_L_act_c4 : GoodIn wsL_law wsL_act_r4 := goodIn_r _ [114, 21, 20, 115, 30, 31, 19, 32, 33, 34, 27, 35, 36, 37, 38, 28, 116, 117, 118, 119, 120, 121, 122, 123] (by decide +kernel) (by decide +kernel)
set_option maxRecDepth 20000 in
theorem ggL_law_L_act_c5 : GoodIn wsL_law wsL_act_r5 := goodIn_r _ [124, 125, 126, 127, 128, 129, 130, 131, 132, 133, 134, 135, 136, 137, 138, 139, 140, 141, 142, 143, 144, 145, 146, 147] (by decide +kernel) (by decide +kernel)
set_option maxRecDepth 20000 in
theorem ggL_law_L_act_c6 : GoodIn wsL_law wsL_act_r6 := goodIn_r _ [148, 149, 150, 151, 152, 153, 154, 155, 156, 157, 158, 159, 160, 161, 162, 163, 164, 165, 166, 167, 168, 169, 170, 171] (by decide +kernel) (by decide +kernel)
set_option maxRecDepth 20000 in
theorem ggL_law_L_act_c7 : GoodIn wsL_law wsL_act_r7 := goodIn_r _ [172, 29, 173, 174, 175, 176, 177, 178, 179, 180, 181, 182, 183, 184, 185, 186, 187, 188, 189, 190, 191, 192, 193, 194] (by decide +kernel) (by decide +kernel)
set_option maxRecDepth 20000 in
theorem ggL_law_L_act_c8 : GoodIn wsL_law wsL_act_r8 := goodIn_r _ [195, 196, 197, 198, 199, 200, 201, 202, 203, 204, 205, 206, 207, 208, 209, 210, 211, 212, 213, 214, 215, 216, 217, 218] (by decide +kernel) (by decide +kernel)
set_option maxRecDepth 20000 in
theorem ggL_law_L_act_c9 : GoodIn wsL_law wsL_act_r9 := goodIn_r _ [219, 220, 221, 222, 223, 224, 225, 226] (by decide +kernel) (by decide +kernel)
set_option maxRecDepth 20000 in
theorem ggL_law_L_act_c10 : GoodIn wsL_law wsX20 := goodIn_r _ [407, 408, 409, 410] (by decide +kernel) (by decide +kernel)
set_option maxRecDepth 20000 in
theorem ggL_law_L_act_c11 : GoodIn wsL_law wsX10 := goodIn_r _ [405, 406] (by decide +kernel) (by decide +kernel)
set_option maxRecDepth 20000 in
theorem ggL_law_L_act_c12 : GoodIn wsL_law wsX00 := goodIn_r _ [411, 412, 413, 414] (by decide +kernel) (by decide +kernel)
set_option maxRecDepth 20000 in
theorem ggL_law_L_act_c0 : GoodIn wsL_law [Cond.codeWith yL_act cL_act 10 (some .boolean) [(46, 267, 486, 62), (268, 279, 486, 62), (280, 296, 486, 62), (297, 417, 486, 62), (418, 485, 486, 62)]] := goodIn_r _ [63] (by decide +kernel) (by decide +kernel)
set_option maxRecDepth 20000 in
theorem ggL_law_L_act : GoodIn wsL_law wsL_act := goodIn_ca (goodIn_ca (goodIn_k ggL_law_L_act_c0 (goodIn_app (goodIn_app (goodIn_app (goodIn_app ggL_law_L_act_c1 (goodIn_app ggL_law_L_act_c2 (goodIn_app ggL_law_L_act_c3 (goodIn_app ggL_law_L_act_c4 (goodIn_app ggL_law_L_act_c5 (goodIn_app ggL_law_L_act_c6 (goodIn_app ggL_law_L_act_c7 (goodIn_app ggL_law_L_act_c8 ggL_law_L_act_c9)))))))) ggL_law_L_act_c10) ggL_law_L_act_c11) ggL_law_L_act_c12)) (goodIn_sub (fun _ h => List.mem_append_left _ (List.mem_append_left _ (List.mem_append_right _ h))) (by decide +kernel))) (goodIn_sub (fun _ h => List.mem_append_left _ (List.mem_append_right _ h)) (by decide +kernel))
set_option maxRecDepth 20000 in
theorem gL_law_L_act : GoodIn wsL_law (va_wsS RL 69 yL_act wsL_act) := goodIn_app (goodIn_of _ (by decide +kernel)) ggL_law_L_act
set_option maxRecDepth 20000 in
theorem ggL_law_X1_digest_c1 : GoodIn wsL_law wsX1_digest_r1 := goodIn_r _ [231, 232, 20, 116, 117, 118, 19, 119, 33, 153, 154, 155, 156, 34, 161, 162, 163, 164, 165, 166, 167, 168, 124, 125] (by decide +kernel) (by decide +kernel)
set_option maxRecDepth 20000 in
theorem ggL_law_X1_digest_c2 : GoodIn wsL_law wsX1_digest_r2 := goodIn_r _ [126, 127, 27, 233, 234, 235, 236, 237, 141, 142, 143, 28, 238, 239, 240, 241, 242, 243, 244, 245, 132, 133, 134, 135] (by decide +kernel) (by decide +kernel)
set_option maxRecDepth 20000 in
theorem ggL_law_X1_digest_c3 : GoodIn wsL_law wsX1_digest_r3 := goodIn_r _ [136, 137, 138, 139, 246, 247, 248, 249, 250, 251, 252, 253, 177, 178, 179, 180, 254, 255, 256, 257, 258, 259, 260, 261] (by decide +kernel) (by decide +kernel)
set_option maxRecDepth 20000 in
theorem ggL_law_X1_digest_c4 : GoodIn wsL_law wsX1_digest_r4 := goodIn_r _ [181, 182, 183, 184, 262, 263, 264, 2, 265, 266, 267, 268, 269, 21, 111, 112, 113, 114, 115, 30, 31, 32, 35, 36] (by decide +kernel) (by decide +kernel)
set_option maxRecDepth 20000 in
theorem ggL_law_X1_digest_c5 : GoodIn wsL_law wsX1_digest_r5 := goodIn_r _ [37, 38, 120, 121, 122, 123, 128, 129, 130, 131, 140, 144, 270, 271, 272, 273, 274, 275, 276] (by decide +kernel) (by decide +kernel)
set_option maxRecDepth 20000 in
theorem ggL_law_X1_digest_c6 : GoodIn wsL_law wsX10 := goodIn_r _ [405, 406] (by decide +kernel) (by decide +kernel)
set_option maxRecDepth 20000 in
theorem ggL_law_X1_digest_c7 : GoodIn wsL_law wsX00 := goodIn_r _ [411, 412, 413, 414] (by decide +kernel) (by decide +kernel)
set_option maxRecDepth 20000 in
theorem ggL_law_X1_digest_c0 : GoodIn wsL_law [Cond.code yX1_digest cX1_digest 4 (some .long)] := goodIn_r _ [230] (by decide +kernel) (by decide +kernel)
set_option maxRecDepth 20000 in
theorem ggL_law_X1_digest : GoodIn wsL_law wsX1_digest := goodIn_k ggL_law_X1_digest_c0 (goodIn_app (goodIn_app (goodIn_app ggL_law_X1_digest_c1 (goodIn_app ggL_law_X1_digest_c2 (goodIn_app ggL_law_X1_digest_c3 (goodIn_app ggL_law_X1_digest_c4 ggL_law_X1_digest_c5)))) ggL_law_X1_digest_c6) ggL_law_X1_digest_c7)
set_option maxRecDepth 20000 in
theorem gL_law_X1_digest : GoodIn wsL_law (wsV RL 78 RX1 yX1_digest wsX1_digest) := goodIn_app (goodIn_of _ (by decide +kernel)) ggL_law_X1_digest
set_option maxRecDepth 20000 in
theorem ggL_law_X1_hooks : GoodIn wsL_law wsX1_hooks := goodIn_r _ [280, 20, 116, 117, 118, 19, 119, 33, 405, 406, 411, 412, 413, 414] (by decide +kernel) (by decide +kernel)
set_option maxRecDepth 20000 in
theorem gL_law_X1_hooks : GoodIn wsL_law (wsV RL 82 RX1 yX1_hooks wsX1_hooks) := goodIn_app (goodIn_of _ (by decide +kernel)) ggL_law_X1_hooks
set_option maxRecDepth 20000 in
theorem ggL_law_X1_stateOf : GoodIn wsL_law wsX1_stateOf := goodIn_ca (goodIn_r _ [284, 20, 285, 286, 287, 2, 288, 289, 290, 116, 117, 118, 19, 119, 33, 274, 166, 167, 168, 124, 125, 126, 127, 27, 405, 406, 411, 412, 413, 414] (by decide +kernel) (by decide +kernel)) (goodIn_sub (fun _ h => List.mem_append_right _ h) (by decide +kernel))
set_option maxRecDepth 20000 in
theorem gL_law_X1_stateOf : GoodIn wsL_law (wsV RL 85 RX1 yX1_stateOf wsX1_stateOf) := goodIn_app (goodIn_of _ (by decide +kernel)) ggL_law_X1_stateOf
set_option maxRecDepth 20000 in
theorem ggL_law_X1_coatAt : GoodIn wsL_law wsX1_coatAt := goodIn_ca (goodIn_r _ [294, 20, 285, 286, 287, 2, 288, 289, 290, 116, 117, 118, 19, 119, 33, 120, 121, 122, 123, 124, 125, 126, 127, 27, 405, 406, 411, 412, 413, 414] (by decide +kernel) (by decide +kernel)) (goodIn_sub (fun _ h => List.mem_append_right _ h) (by decide +kernel))
set_option maxRecDepth 20000 in
theorem gL_law_X1_coatAt : GoodIn wsL_law (wsV RL 88 RX1 yX1_coatAt wsX1_coatAt) := goodIn_app (goodIn_of _ (by decide +kernel)) ggL_law_X1_coatAt
set_option maxRecDepth 20000 in
theorem ggL_law_X1_rowAt : GoodIn wsL_law wsX1_rowAt := goodIn_ca (goodIn_r _ [298, 20, 285, 286, 287, 2, 288, 289, 290, 116, 117, 118, 19, 119, 33, 275, 259, 260, 261, 124, 125, 126, 127, 27, 177, 178, 179, 180, 181, 182, 183, 184, 405, 406, 411, 412, 413, 414] (by decide +kernel) (by decide +kernel)) (goodIn_sub (fun _ h => List.mem_append_right _ h) (by decide +kernel))
set_option maxRecDepth 20000 in
theorem gL_law_X1_rowAt : GoodIn wsL_law (wsV RL 91 RX1 yX1_rowAt wsX1_rowAt) := goodIn_app (goodIn_of _ (by decide +kernel)) ggL_law_X1_rowAt
set_option maxRecDepth 20000 in
theorem ggL_law_X1_weightAt : GoodIn wsL_law wsX1_weightAt := goodIn_ca (goodIn_r _ [302, 20, 285, 286, 287, 2, 288, 289, 290, 116, 117, 118, 19, 119, 33, 140, 141, 142, 143, 28, 405, 406, 411, 412, 413, 414] (by decide +kernel) (by decide +kernel)) (goodIn_sub (fun _ h => List.mem_append_right _ h) (by decide +kernel))
set_option maxRecDepth 20000 in
theorem gL_law_X1_weightAt : GoodIn wsL_law (wsV RL 94 RX1 yX1_weightAt wsX1_weightAt) := goodIn_app (goodIn_of _ (by decide +kernel)) ggL_law_X1_weightAt
set_option maxRecDepth 20000 in
theorem ggL_law_X1_longestRow : GoodIn wsL_law wsX1_longestRow := goodIn_r _ [306, 20, 254, 255, 256, 19, 257, 33, 258, 259, 260, 261, 124, 125, 126, 127, 27, 177, 178, 179, 180, 181, 182, 183, 184, 405, 406, 411, 412, 413, 414] (by decide +kernel) (by decide +kernel)
set_option maxRecDepth 20000 in
theorem gL_law_X1_longestRow : GoodIn wsL_law (wsV RL 97 RX1 yX1_longestRow wsX1_longestRow) := goodIn_app (goodIn_of _ (by decide +kernel)) ggL_law_X1_longestRow
set_option maxRecDepth 20000 in
theorem ggL_law_X1_looksFor : GoodIn wsL_law wsX1_looksFor := goodIn_ca (goodIn_r _ [310, 20, 201, 202, 2, 203, 109, 110, 276, 133, 134, 19, 135, 33, 136, 137, 138, 139, 34, 124, 125, 126, 127, 27, 405, 406, 411, 412, 413, 414] (by decide +kernel) (by decide +kernel)) (goodIn_sub (fun _ h => List.mem_append_left _ (List.mem_append_right _ h)) (by decide +kernel))
set_option maxRecDepth 20000 in
theorem gL_law_X1_looksFor : GoodIn wsL_law (wsV RL 100 RX1 yX1_looksFor wsX1_looksFor) := goodIn_app (goodIn_of _ (by decide +kernel)) ggL_law_X1_looksFor
set_option maxRecDepth 20000 in
theorem ggL_law_X1_find : GoodIn wsL_law wsX1_find := goodIn_ca (goodIn_r _ [314, 20, 201, 202, 2, 203, 109, 110, 204, 205, 206, 19, 207, 132, 133, 134, 135, 33, 136, 137, 138, 139, 34, 124, 125, 126, 127, 27, 405, 406, 411, 412, 413, 414] (by decide +kernel) (by decide +kernel)) (goodIn_sub (fun _ h => List.mem_append_left _ (List.mem_append_right _ h)) (by decide +kernel))
set_option maxRecDepth 20000 in
theorem gL_law_X1_find : GoodIn wsL_law (wsV RL 108 RX1 yX1_find wsX1_find) := goodIn_app (goodIn_of _ (by decide +kernel)) ggL_law_X1_find
set_option maxRecDepth 20000 in
theorem ggL_law_X1_lookedAt : GoodIn wsL_law wsX1_lookedAt := goodIn_ca (goodIn_r _ [318, 109, 110, 20, 201, 202, 2, 203, 319, 137, 138, 19, 139, 33, 34, 405, 406, 411, 412, 413, 414] (by decide +kernel) (by decide +kernel)) (goodIn_sub (fun _ h => List.mem_append_left _ (List.mem_append_right _ h)) (by decide +kernel))
set_option maxRecDepth 20000 in
theorem gL_law_X1_lookedAt : GoodIn wsL_law (wsV RL 109 RX1 yX1_lookedAt wsX1_lookedAt) := goodIn_app (goodIn_of _ (by decide +kernel)) ggL_law_X1_lookedAt
set_option maxRecDepth 20000 in
theorem ggL_law_X1_placeFor : GoodIn wsL_law wsX1_placeFor := goodIn_ca (goodIn_r _ [323, 20, 201, 202, 2, 203, 109, 110, 218, 219, 220, 19, 221, 222, 223, 224, 225, 33, 124, 125, 126, 127, 27, 226, 129, 130, 131, 132, 133, 134, 135, 136, 137, 138, 139, 34, 405, 406, 411, 412, 413, 414] (by decide +kernel) (by decide +kernel)) (goodIn_sub (fun _ h => List.mem_append_left _ (List.mem_append_right _ h)) (by decide +kernel))
set_option maxRecDepth 20000 in
theorem gL_law_X1_placeFor : GoodIn wsL_law (wsV RL 112 RX1 yX1_placeFor wsX1_placeFor) := goodIn_app (goodIn_of _ (by decide +kernel)) ggL_law_X1_placeFor
set_option maxRecDepth 20000 in
theorem ggL_law_X1_coats : GoodIn wsL_law wsX1_coats := goodIn_r _ [327, 20, 161, 162, 163, 19, 164, 33, 165, 166, 167, 168, 124, 125, 126, 127, 27, 405, 406, 411, 412, 413, 414] (by decide +kernel) (by decide +kernel)
set_option maxRecDepth 20000 in
theorem gL_law_X1_coats : GoodIn wsL_law (wsV RL 115 RX1 yX1_coats wsX1_coats) := goodIn_app (goodIn_of _ (by decide +kernel)) ggL_law_X1_coats
set_option maxRecDepth 20000 in
theorem ggL_law_X1_tickets : GoodIn wsL_law wsX1_tickets := goodIn_r _ [331, 20, 161, 162, 163, 19, 164, 33, 165, 166, 167, 168, 124, 125, 126, 127, 27, 405, 406, 411, 412, 413, 414] (by decide +kernel) (by decide +kernel)
set_option maxRecDepth 20000 in
theorem gL_law_X1_tickets : GoodIn wsL_law (wsV RL 118 RX1 yX1_tickets wsX1_tickets) := goodIn_app (goodIn_of _ (by decide +kernel)) ggL_law_X1_tickets
set_option maxRecDepth 20000 in
theorem ggL_law_X1_allLooks : GoodIn wsL_law wsX1_allLooks := goodIn_r _ [335, 20, 242, 243, 244, 19, 245, 33, 124, 125, 126, 127, 27, 132, 133, 134, 135, 136, 137, 138, 139, 34, 405, 406, 411, 412, 413, 414] (by decide +kernel) (by decide +kernel)
set_option maxRecDepth 20000 in
theorem gL_law_X1_allLooks : GoodIn wsL_law (wsV RL 121 RX1 yX1_allLooks wsX1_allLooks) := goodIn_app (goodIn_of _ (by decide +kernel)) ggL_law_X1_allLooks
set_option maxRecDepth 20000 in
theorem ggL_law_X1_farthest : GoodIn wsL_law wsX1_farthest := goodIn_r _ [339, 20, 246, 247, 248, 19, 249, 33, 124, 125, 126, 127, 27, 132, 133, 134, 135, 136, 137, 138, 139, 34, 405, 406, 411, 412, 413, 414] (by decide +kernel) (by decide +kernel)
set_option maxRecDepth 20000 in
theorem gL_law_X1_farthest : GoodIn wsL_law (wsV RL 124 RX1 yX1_farthest wsX1_farthest) := goodIn_app (goodIn_of _ (by decide +kernel)) ggL_law_X1_farthest
set_option maxRecDepth 20000 in
theorem ggL_law_X1_rows : GoodIn wsL_law wsX1_rows := goodIn_r _ [343, 20, 250, 251, 252, 19, 253, 33, 124, 125, 126, 127, 27, 177, 178, 179, 180, 405, 406, 411, 412, 413, 414] (by decide +kernel) (by decide +kernel)
set_option maxRecDepth 20000 in
theorem gL_law_X1_rows : GoodIn wsL_law (wsV RL 127 RX1 yX1_rows wsX1_rows) := goodIn_app (goodIn_of _ (by decide +kernel)) ggL_law_X1_rows
set_option maxRecDepth 20000 in
theorem ggL_law_L_below : GoodIn wsL_law wsL_below := goodIn_r _ [59, 60] (by decide +kernel) (by decide +kernel)
set_option maxRecDepth 20000 in
theorem gL_law_L_below : GoodIn wsL_law (va_wsS RL 9 yL_below wsL_below) := goodIn_app (goodIn_of _ (by decide +kernel)) ggL_law_L_below
set_option maxRecDepth 20000 in
theorem ggL_law_X2_hangs : GoodIn wsL_law wsX2_hangs := goodIn_r _ [83, 49, 407, 408, 409, 410] (by decide +kernel) (by decide +kernel)
set_option maxRecDepth 20000 in
theorem gL_law_X2_hangs : GoodIn wsL_law (wsV RL 130 RX2 yX2_hangs wsX2_hangs) := goodIn_app (goodIn_of _ (by decide +kernel)) ggL_law_X2_hangs
set_option maxRecDepth 20000 in
theorem ggL_law_X1_looksWith_c1 : GoodIn wsL_law wsX1_looksWith_r1 := goodIn_r _ [106, 107, 2, 108, 109, 110, 266, 267, 268, 269, 21, 111, 112, 113, 114, 20, 115, 30, 31, 19, 32, 33, 34, 27] (by decide +kernel) (by decide +kernel)
set_option maxRecDepth 20000 in
theorem ggL_law_X1_looksWith_c2 : GoodIn wsL_law wsX1_looksWith_r2 := goodIn_r _ [35, 36, 37, 38, 28, 116, 117, 118, 119, 120, 121, 122, 123, 124, 125, 126, 127, 128, 129, 130, 131, 132, 133, 134] (by decide +kernel) (by decide +kernel)
set_option maxRecDepth 20000 in
theorem ggL_law_X1_looksWith_c3 : GoodIn wsL_law wsX1_looksWith_r3 := goodIn_r _ [135, 136, 137, 138, 139, 140, 141, 142, 143, 144, 242, 243, 244, 245] (by decide +kernel) (by decide +kernel)
set_option maxRecDepth 20000 in
theorem ggL_law_X1_looksWith_c4 : GoodIn wsL_law wsX10 := goodIn_r _ [405, 406] (by decide +kernel) (by decide +kernel)
set_option maxRecDepth 20000 in
theorem ggL_law_X1_looksWith_c5 : GoodIn wsL_law wsX00 := goodIn_r _ [411, 412, 413, 414] (by decide +kernel) (by decide +kernel)
set_option maxRecDepth 20000 in
theorem ggL_law_X1_looksWith_c0 : GoodIn wsL_law [Cond.code yX1_looksWith cX1_looksWith 3 (some .int)] := goodIn_r _ [348] (by decide +kernel) (by decide +kernel)
set_option maxRecDepth 20000 in
theorem ggL_law_X1_looksWith : GoodIn wsL_law wsX1_looksWith := goodIn_ca (goodIn_k ggL_law_X1_looksWith_c0 (goodIn_app (goodIn_app (goodIn_app ggL_law_X1_looksWith_c1 (goodIn_app ggL_law_X1_looksWith_c2 ggL_law_X1_looksWith_c3)) ggL_law_X1_looksWith_c4) ggL_law_X1_looksWith_c5)) (goodIn_sub (fun _ h => List.mem_append_left _ (List.mem_append_right _ h)) (by decide +kernel))
set_option maxRecDepth 20000 in
theorem gL_law_X1_looksWith : GoodIn wsL_law (wsV RL 134 RX1 yX1_looksWith wsX1_looksWith) := goodIn_app (goodIn_of _ (by decide +kernel)) ggL_law_X1_looksWith
set_option maxRecDepth 20000 in
theorem ggL_law_X1_bestWay : GoodIn wsL_law wsX1_bestWay := goodIn_r _ [265, 20, 116, 117, 118, 19, 119, 33, 266, 267, 268, 2, 269, 21, 111, 112, 113, 114, 115, 30, 31, 32, 34, 27, 35, 36, 37, 38, 28, 120, 121, 122, 123, 124, 125, 126, 127, 128, 129, 130, 131, 132, 133, 134, 135, 136, 137, 138, 139, 140, 141, 142, 143, 144, 242, 243, 244, 245, 405, 406, 411, 412, 413, 414] (by decide +kernel) (by decide +kernel)
set_option maxRecDepth 20000 in
theorem gL_law_X1_bestWay : GoodIn wsL_law (wsV RL 137 RX1 yX1_bestWay wsX1_bestWay) := goodIn_app (goodIn_of _ (by decide +kernel)) ggL_law_X1_bestWay
set_option maxRecDepth 20000 in
theorem ggL_law_X1_hooksWanted_c1 : GoodIn wsL_law wsX1_hooksWanted_r1 := goodIn_r _ [109, 110, 270, 271, 272, 2, 273, 20, 153, 154, 155, 19, 156, 34, 266, 267, 268, 269, 21, 111, 112, 113, 114, 115] (by decide +kernel) (by decide +kernel)
set_option maxRecDepth 20000 in
theorem ggL_law_X1_hooksWanted_c2 : GoodIn wsL_law wsX1_hooksWanted_r2 := goodIn_r _ [30, 31, 32, 33, 27, 35, 36, 37, 38, 28, 116, 117, 118, 119, 120, 121, 122, 123, 124, 125, 126, 127, 128, 129] (by decide +kernel) (by decide +kernel)
set_option maxRecDepth 20000 in
theorem ggL_law_X1_hooksWanted_c3 : GoodIn wsL_law wsX1_hooksWanted_r3 := goodIn_r _ [130, 131, 132, 133, 134, 135, 136, 137, 138, 139, 140, 141, 142, 143, 144, 242, 243, 244, 245] (by decide +kernel) (by decide +kernel)
set_option maxRecDepth 20000 in
theorem ggL_law_X1_hooksWanted_c4 : GoodIn wsL_law wsX10 := goodIn_r _ [405, 406] (by decide +kernel) (by decide +kernel)
set_option maxRecDepth 20000 in
theorem ggL_law_X1_hooksWanted_c5 : GoodIn wsL_law wsX00 := goodIn_r _ [411, 412, 413, 414] (by decide +kernel) (by decide +kernel)
set_option maxRecDepth 20000 in
theorem ggL_law_X1_hooksWanted_c0 : GoodIn wsL_law [Cond.code yX1_hooksWanted cX1_hooksWanted 2 (some .int)] := goodIn_r _ [353] (by decide +kernel) (by decide +kernel)
set_option maxRecDepth 20000 in
theorem ggL_law_X1_hooksWanted : GoodIn wsL_law wsX1_hooksWanted := goodIn_ca (goodIn_k ggL_law_X1_hooksWanted_c0 (goodIn_app (goodIn_app (goodIn_app ggL_law_X1_hooksWanted_c1 (goodIn_app ggL_law_X1_hooksWanted_c2 ggL_law_X1_hooksWanted_c3)) ggL_law_X1_hooksWanted_c4) ggL_law_X1_hooksWanted_c5)) (goodIn_sub (fun _ h => List.mem_append_left _ (List.mem_append_right _ h)) (by decide +kernel))
set_option maxRecDepth 20000 in
theorem gL_law_X1_hooksWanted : GoodIn wsL_law (wsV RL 140 RX1 yX1_hooksWanted wsX1_hooksWanted) := goodIn_app (goodIn_of _ (by decide +kernel)) ggL_law_X1_hooksWanted
set_option maxRecDepth 20000 in
theorem ggL_law_X2_looksWith : GoodIn wsL_law wsX2_looksWith := goodIn_r _ [357, 358, 66, 67, 45, 68, 49, 50, 69, 70, 71, 72, 73, 44, 74, 26, 51, 52, 75, 46, 47, 48, 15, 16, 76, 77, 78, 79, 80, 81, 82, 83, 84, 85, 86, 87, 88, 89, 90, 91, 92, 93, 94, 95, 96, 97, 98, 99, 359, 360, 361, 362, 407, 408, 409, 410] (by decide +kernel) (by decide +kernel)
set_option maxRecDepth 20000 in
theorem gL_law_X2_looksWith : GoodIn wsL_law (wsV RL 143 RX2 yX2_looksWith wsX2_looksWith) := goodIn_app (goodIn_of _ (by decide +kernel)) ggL_law_X2_looksWith
set_option maxRecDepth 20000 in
theorem ggL_law_X1_way : GoodIn wsL_law wsX1_way := goodIn_r _ [366, 20, 153, 154, 155, 19, 156, 34, 405, 406, 411, 412, 413, 414] (by decide +kernel) (by decide +kernel)
set_option maxRecDepth 20000 in
theorem gL_law_X1_way : GoodIn wsL_law (wsV RL 144 RX1 yX1_way wsX1_way) := goodIn_app (goodIn_of _ (by decide +kernel)) ggL_law_X1_way
set_option maxRecDepth 20000 in
theorem ggL_law_X1_sweep : GoodIn wsL_law wsX1_sweep := goodIn_r _ [160, 20, 161, 162, 163, 19, 164, 33, 165, 166, 167, 168, 124, 125, 126, 127, 27, 116, 117, 118, 119, 169, 170, 171, 172, 34, 29, 30, 31, 32, 35, 36, 37, 38, 28, 173, 174, 175, 176, 177, 178, 179, 180, 181, 182, 183, 184, 405, 406, 411, 412, 413, 414] (by decide +kernel) (by decide +kernel)
set_option maxRecDepth 20000 in
theorem gL_law_X1_sweep : GoodIn wsL_law (wsV RL 41 RX1 yX1_sweep wsX1_sweep) := goodIn_app (goodIn_of _ (by decide +kernel)) ggL_law_X1_sweep
set_option maxRecDepth 20000 in
theorem ggL_law_X2_sweep : GoodIn wsL_law wsX2_sweep := goodIn_r _ [188, 49, 51, 52, 189, 190, 191, 45, 192, 92, 93, 94, 95, 407, 408, 409, 410] (by decide +kernel) (by decide +kernel)
set_option maxRecDepth 20000 in
theorem gL_law_X2_sweep : GoodIn wsL_law (wsV RL 45 RX2 yX2_sweep wsX2_sweep) := goodIn_app (goodIn_of _ (by decide +kernel)) ggL_law_X2_sweep
set_option maxRecDepth 20000 in
theorem ggL_law_X2_anew : GoodIn wsL_law wsX2_anew := goodIn_r _ [68, 49, 50, 69, 70, 71, 45, 72, 73, 44, 74, 26, 51, 52, 75, 46, 47, 48, 15, 16, 76, 77, 78, 79, 80, 81, 82, 83, 84, 85, 86, 87, 88, 89, 90, 91, 92, 93, 94, 95, 96, 97, 98, 99, 407, 408, 409, 410] (by decide +kernel) (by decide +kernel)
set_option maxRecDepth 20000 in
theorem gL_law_X2_anew : GoodIn wsL_law (wsV RL 15 RX2 yX2_anew wsX2_anew) := goodIn_app (goodIn_of _ (by decide +kernel)) ggL_law_X2_anew
set_option maxRecDepth 20000 in
theorem ggL_law_X1_weight : GoodIn wsL_law wsX1_weight := goodIn_r _ [370, 20, 233, 234, 235, 19, 236, 33, 237, 141, 142, 143, 28, 405, 406, 411, 412, 413, 414] (by decide +kernel) (by decide +kernel)
set_option maxRecDepth 20000 in
theorem gL_law_X1_weight : GoodIn wsL_law (wsV RL 146 RX1 yX1_weight wsX1_weight) := goodIn_app (goodIn_of _ (by decide +kernel)) ggL_law_X1_weight
set_option maxRecDepth 20000 in
theorem ggL_law_X1_rehang_c1 : GoodIn wsL_law wsX1_rehang_r1 := goodIn_r _ [104, 105, 106, 107, 2, 108, 109, 110, 111, 112, 113, 114, 21, 20, 115, 30, 31, 19, 32, 33, 34, 27, 35, 36] (by decide +kernel) (by decide +kernel)
set_option maxRecDepth 20000 in
theorem ggL_law_X1_rehang_c2 : GoodIn wsL_law wsX1_rehang_r2 := goodIn_r _ [37, 38, 28, 116, 117, 118, 119, 120, 121, 122, 123, 124, 125, 126, 127, 128, 129, 130, 131, 132, 133, 134, 135, 136] (by decide +kernel) (by decide +kernel)
set_option maxRecDepth 20000 in
theorem ggL_law_X1_rehang_c3 : GoodIn wsL_law wsX1_rehang_r3 := goodIn_r _ [137, 138, 139, 140, 141, 142, 143, 144, 145, 146, 147, 148, 149, 150, 151, 152, 153, 154, 155, 156] (by decide +kernel) (by decide +kernel)
set_option maxRecDepth 20000 in
theorem ggL_law_X1_rehang_c4 : GoodIn wsL_law wsX10 := goodIn_r _ [405, 406] (by decide +kernel) (by decide +kernel)
set_option maxRecDepth 20000 in
theorem ggL_law_X1_rehang_c5 : GoodIn wsL_law wsX00 := goodIn_r _ [411, 412, 413, 414] (by decide +kernel) (by decide +kernel)
set_option maxRecDepth 20000 in
theorem ggL_law_X1_rehang_c0 : GoodIn wsL_law [Cond.code yX1_rehang cX1_rehang 4 (some .int)] := goodIn_r _ [103] (by decide +kernel) (by decide +kernel)
set_option maxRecDepth 20000 in
theorem ggL_law_X1_rehang : GoodIn wsL_law wsX1_rehang := goodIn_ca (goodIn_ca (goodIn_k ggL_law_X1_rehang_c0 (goodIn_app (goodIn_app (goodIn_app ggL_law_X1_rehang_c1 (goodIn_app ggL_law_X1_rehang_c2 ggL_law_X1_rehang_c3)) ggL_law_X1_rehang_c4) ggL_law_X1_rehang_c5)) (goodIn_sub (fun _ h => List.mem_append_left _ (List.mem_append_left _ (List.mem_append_right _ h))) (by decide +kernel))) (goodIn_sub (fun _ h => List.mem_append_left _ (List.mem_append_right _ h)) (by decide +kernel))
set_option maxRecDepth 20000 in
theorem gL_law_X1_rehang : GoodIn wsL_law (wsV RL 36 RX1 yX1_rehang wsX1_rehang) := goodIn_app (goodIn_of _ (by decide +kernel)) ggL_law_X1_rehang
set_option maxRecDepth 20000 in
theorem ggL_law_X2_isSame_c1 : GoodIn wsL_law wsX2_isSame_r1 := goodIn_r _ [49, 375, 4, 5, 6, 52, 50, 74, 376, 377, 378, 45, 379, 92, 93, 94, 95, 380, 282, 283, 2, 284, 20, 285] (by decide +kernel) (by decide +kernel)
set_option maxRecDepth 20000 in
theorem ggL_law_X2_isSame_c2 : GoodIn wsL_law wsX2_isSame_r2 := goodIn_r _ [286, 287, 288, 289, 290, 116, 117, 118, 19, 119, 33, 274, 166, 167, 168, 124, 125, 126, 127, 27, 381, 292, 293, 294] (by decide +kernel) (by decide +kernel)
set_option maxRecDepth 20000 in
theorem ggL_law_X2_isSame_c3 : GoodIn wsL_law wsX2_isSame_r3 := goodIn_r _ [120, 121, 122, 123, 382, 300, 301, 302, 140, 141, 142, 143, 28, 383, 296, 297, 298, 275, 259, 260, 261, 177, 178, 179] (by decide +kernel) (by decide +kernel)
set_option maxRecDepth 20000 in
theorem ggL_law_X2_isSame_c4 : GoodIn wsL_law wsX2_isSame_r4 := goodIn_r _ [180, 181, 182, 183, 184, 84, 85, 86, 87, 88, 89, 90, 91, 384, 312, 313, 314, 201, 202, 203, 109, 110, 204, 205] (by decide +kernel) (by decide +kernel)
set_option maxRecDepth 20000 in
theorem ggL_law_X2_isSame_c5 : GoodIn wsL_law wsX2_isSame_r5 := goodIn_r _ [206, 207, 132, 133, 134, 135, 136, 137, 138, 139, 34, 385, 194, 195, 196, 386, 308, 309, 310, 276, 387, 321, 322, 323] (by decide +kernel) (by decide +kernel)
set_option maxRecDepth 20000 in
theorem ggL_law_X2_isSame_c6 : GoodIn wsL_law wsX2_isSame_r6 := goodIn_r _ [218, 219, 220, 221, 222, 223, 224, 225, 226, 129, 130, 131, 388, 278, 279, 280, 389, 364, 365, 366, 153, 154, 155, 156] (by decide +kernel) (by decide +kernel)
set_option maxRecDepth 20000 in
theorem ggL_law_X2_isSame_c7 : GoodIn wsL_law wsX2_isSame_r7 := goodIn_r _ [390, 325, 326, 327, 161, 162, 163, 164, 165, 391, 329, 330, 331, 189, 190, 191, 192, 392, 368, 369, 370, 233, 234, 235] (by decide +kernel) (by decide +kernel)
set_option maxRecDepth 20000 in
theorem ggL_law_X2_isSame_c8 : GoodIn wsL_law wsX2_isSame_r8 := goodIn_r _ [236, 237, 393, 394, 395, 396, 238, 239, 240, 241, 397, 333, 334, 335, 242, 243, 244, 245, 359, 360, 361, 362, 398, 337] (by decide +kernel) (by decide +kernel)
set_option maxRecDepth 20000 in
theorem ggL_law_X2_isSame_c9 : GoodIn wsL_law wsX2_isSame_r9 := goodIn_r _ [338, 339, 246, 247, 248, 249, 399, 341, 342, 343, 250, 251, 252, 253, 400, 304, 305, 306, 254, 255, 256, 257, 258, 401] (by decide +kernel) (by decide +kernel)
set_option maxRecDepth 20000 in
theorem ggL_law_X2_isSame_c10 : GoodIn wsL_law wsX2_isSame_r10 := goodIn_r _ [402, 403, 404] (by decide +kernel) (by decide +kernel)
set_option maxRecDepth 20000 in
theorem ggL_law_X2_isSame_c11 : GoodIn wsL_law wsX20 := goodIn_r _ [407, 408, 409, 410] (by decide +kernel) (by decide +kernel)
set_option maxRecDepth 20000 in
theorem ggL_law_X2_isSame_c12 : GoodIn wsL_law wsX10 := goodIn_r _ [405, 406] (by decide +kernel) (by decide +kernel)
set_option maxRecDepth 20000 in
theorem ggL_law_X2_isSame_c13 : GoodIn wsL_law wsX00 := goodIn_r _ [411, 412, 413, 414] (by decide +kernel) (by decide +kernel)
set_option maxRecDepth 20000 in
theorem ggL_law_X2_isSame_c0 : GoodIn wsL_law [Cond.code yX2_isSame cX2_isSame 11 (some .boolean)] := goodIn_r _ [374] (by decide +kernel) (by decide +kernel)
set_option maxRecDepth 20000 in
theorem ggL_law_X2_isSame : GoodIn wsL_law wsX2_isSame := goodIn_ca (goodIn_ca (goodIn_k ggL_law_X2_isSame_c0 (goodIn_app (goodIn_app (goodIn_app (goodIn_app ggL_law_X2_isSame_c1 (goodIn_app ggL_law_X2_isSame_c2 (goodIn_app ggL_law_X2_isSame_c3 (goodIn_app ggL_law_X2_isSame_c4 (goodIn_app ggL_law_X2_isSame_c5 (goodIn_app ggL_law_X2_isSame_c6 (goodIn_app ggL_law_X2_isSame_c7 (goodIn_app ggL_law_X2_isSame_c8 (goodIn_app ggL_law_X2_isSame_c9 ggL_law_X2_isSame_c10))))))))) ggL_law_X2_isSame_c11) ggL_law_X2_isSame_c12) ggL_law_X2_isSame_c13)) (goodIn_sub (fun _ h => List.mem_append_right _ h) (by decide +kernel))) (goodIn_sub (fun _ h => List.mem_append_left _ (List.mem_append_right _ h)) (by decide +kernel))
set_option maxRecDepth 20000 in
theorem gL_law_X2_isSame : GoodIn wsL_law (wsV RL 148 RX2 yX2_isSame wsX2_isSame) := goodIn_app (goodIn_of _ (by decide +kernel)) ggL_law_X2_isSame
theorem dL_law_0 : decode cL_law 0 = .ok (.new 37, 3) := by decide +kernel
theorem dL_law_3 : decode cL_law 3 = .ok (.dup, 1) := by decide +kernel
theorem dL_law_4 : decode cL_law 4 = .ok (.invokespecial 73, 3) := by decide +kernel
theorem dL_law_7 : decode cL_law 7 = .ok (.astore_n 1, 1) := by decide +kernel
theorem dL_law_8 : decode cL_law 8 = .ok (.aload_n 1, 1) := by decide +kernel
theorem dL_law_9 : decode cL_law 9 = .ok (.aload_n 0, 1) := by decide +kernel
theorem dL_law_10 : decode cL_law 10 = .ok (.invokestatic 74, 3) := by decide +kernel
theorem dL_law_13 : decode cL_law 13 = .ok (.astore_n 2, 1) := by decide +kernel
theorem dL_law_14 : decode cL_law 14 = .ok (.aload_n 2, 1) := by decide +kernel
theorem dL_law_15 : decode cL_law 15 = .ok (.ifnonnull 5, 3) := by decide +kernel
theorem dL_law_18 : decode cL_law 18 = .ok (.iconst 0, 1) := by decide +kernel
theorem dL_law_19 : decode cL_law 19 = .ok (.ireturn, 1) := by decide +kernel
theorem dL_law_20 : decode cL_law 20 = .ok (.iconst 0, 1) := by decide +kernel
theorem dL_law_21 : decode cL_law 21 = .ok (.istore_n 3, 1) := by decide +kernel
theorem dL_law_22 : decode cL_law 22 = .ok (.iload_n 3, 1) := by decide +kernel
theorem dL_law_23 : decode cL_law 23 = .ok (.bipush 7, 2) := by decide +kernel
theorem dL_law_25 : decode cL_law 25 = .ok (.if_icmp .ge 1139, 3) := by decide +kernel
theorem dL_law_28 : decode cL_law 28 = .ok (.aload_n 0, 1) := by decide +kernel
theorem dL_law_29 : decode cL_law 29 = .ok (.iload_n 3, 1) := by decide +kernel
theorem dL_law_30 : decode cL_law 30 = .ok (.iconst 1, 1) := by decide +kernel
theorem dL_law_31 : decode cL_law 31 = .ok (.iadd, 1) := by decide +kernel
theorem dL_law_32 : decode cL_law 32 = .ok (.invokestatic 65, 3) := by decide +kernel
theorem dL_law_35 : decode cL_law 35 = .ok (.iconst 2, 1) := by decide +kernel
theorem dL_law_36 : decode cL_law 36 = .ok (.ishr, 1) := by decide +kernel
theorem dL_law_37 : decode cL_law 37 = .ok (.bipush 53, 2) := by decide +kernel
theorem dL_law_39 : decode cL_law 39 = .ok (.iload_n 3, 1) := by decide +kernel
theorem dL_law_40 : decode cL_law 40 = .ok (.imul, 1) := by decide +kernel
theorem dL_law_41 : decode cL_law 41 = .ok (.iadd, 1) := by decide +kernel
theorem dL_law_42 : decode cL_law 42 = .ok (.istore 4, 2) := by decide +kernel
theorem dL_law_44 : decode cL_law 44 = .ok (.iconst 0, 1) := by decide +kernel
theorem dL_law_45 : decode cL_law 45 = .ok (.istore 5, 2) := by decide +kernel
theorem dL_law_47 : decode cL_law 47 = .ok (.iload 5, 2) := by decide +kernel
theorem dL_law_49 : decode cL_law 49 = .ok (.iconst 4, 1) := by decide +kernel
theorem dL_law_50 : decode cL_law 50 = .ok (.if_icmp .ge 32, 3) := by decide +kernel
theorem dL_law_53 : decode cL_law 53 = .ok (.aload_n 1, 1) := by decide +kernel
theorem dL_law_54 : decode cL_law 54 = .ok (.aload_n 2, 1) := by decide +kernel
theorem dL_law_55 : decode cL_law 55 = .ok (.iload 4, 2) := by decide +kernel
theorem dL_law_57 : decode cL_law 57 = .ok (.iconst 3, 1) := by decide +kernel
theorem dL_law_58 : decode cL_law 58 = .ok (.iload 5, 2) := by decide +kernel
theorem dL_law_60 : decode cL_law 60 = .ok (.imul, 1) := by decide +kernel
theorem dL_law_61 : decode cL_law 61 = .ok (.ishr, 1) := by decide +kernel
theorem dL_law_62 : decode cL_law 62 = .ok (.bipush 29, 2) := by decide +kernel
theorem dL_law_64 : decode cL_law 64 = .ok (.iload 5, 2) := by decide +kernel
theorem dL_law_66 : decode cL_law 66 = .ok (.imul, 1) := by decide +kernel
theorem dL_law_67 : decode cL_law 67 = .ok (.iadd, 1) := by decide +kernel
theorem dL_law_68 : decode cL_law 68 = .ok (.invokestatic 69, 3) := by decide +kernel
theorem dL_law_71 : decode cL_law 71 = .ok (.ifCond .ne 5, 3) := by decide +kernel
theorem dL_law_74 : decode cL_law 74 = .ok (.iconst 0, 1) := by decide +kernel
theorem dL_law_75 : decode cL_law 75 = .ok (.ireturn, 1) := by decide +kernel
theorem dL_law_76 : decode cL_law 76 = .ok (.iinc 5 1, 3) := by decide +kernel
theorem dL_law_79 : decode cL_law 79 = .ok (.goto (-32), 3) := by decide +kernel
theorem dL_law_82 : decode cL_law 82 = .ok (.aload_n 1, 1) := by decide +kernel
theorem dL_law_83 : decode cL_law 83 = .ok (.invokevirtual 78, 3) := by decide +kernel
theorem dL_law_86 : decode cL_law 86 = .ok (.lstore 5, 2) := by decide +kernel
theorem dL_law_88 : decode cL_law 88 = .ok (.aload_n 1, 1) := by decide +kernel
theorem dL_law_89 : decode cL_law 89 = .ok (.invokevirtual 82, 3) := by decide +kernel
theorem dL_law_92 : decode cL_law 92 = .ok (.istore 7, 2) := by decide +kernel
theorem dL_law_94 : decode cL_law 94 = .ok (.iconst 0, 1) := by decide +kernel
theorem dL_law_95 : decode cL_law 95 = .ok (.istore 8, 2) := by decide +kernel
theorem dL_law_97 : decode cL_law 97 = .ok (.iconst 0, 1) := by decide +kernel
theorem dL_law_98 : decode cL_law 98 = .ok (.istore 9, 2) := by decide +kernel
theorem dL_law_100 : decode cL_law 100 = .ok (.iconst 0, 1) := by decide +kernel
theorem dL_law_101 : decode cL_law 101 = .ok (.istore 10, 2) := by decide +kernel
theorem dL_law_103 : decode cL_law 103 = .ok (.iconst 0, 1) := by decide +kernel
theorem dL_law_104 : decode cL_law 104 = .ok (.istore 11, 2) := by decide +kernel
theorem dL_law_106 : decode cL_law 106 = .ok (.iconst 0, 1) := by decide +kernel
theorem dL_law_107 : decode cL_law 107 = .ok (.istore 12, 2) := by decide +kernel
theorem dL_law_109 : decode cL_law 109 = .ok (.iload 12, 2) := by decide +kernel
theorem dL_law_111 : decode cL_law 111 = .ok (.iload 7, 2) := by decide +kernel
theorem dL_law_113 : decode cL_law 113 = .ok (.if_icmp .ge 247, 3) := by decide +kernel
theorem dL_law_116 : decode cL_law 116 = .ok (.aload_n 1, 1) := by decide +kernel
theorem dL_law_117 : decode cL_law 117 = .ok (.iload 12, 2) := by decide +kernel
theorem dL_law_119 : decode cL_law 119 = .ok (.invokevirtual 85, 3) := by decide +kernel
theorem dL_law_122 : decode cL_law 122 = .ok (.istore 13, 2) := by decide +kernel
theorem dL_law_124 : decode cL_law 124 = .ok (.aload_n 1, 1) := by decide +kernel
theorem dL_law_125 : decode cL_law 125 = .ok (.iload 12, 2) := by decide +kernel
theorem dL_law_127 : decode cL_law 127 = .ok (.invokevirtual 88, 3) := by decide +kernel
theorem dL_law_130 : decode cL_law 130 = .ok (.istore 14, 2) := by decide +kernel
theorem dL_law_132 : decode cL_law 132 = .ok (.iload 8, 2) := by decide +kernel
theorem dL_law_134 : decode cL_law 134 = .ok (.iload 13, 2) := by decide +kernel
theorem dL_law_136 : decode cL_law 136 = .ok (.ifCond .ne 7, 3) := by decide +kernel
theorem dL_law_139 : decode cL_law 139 = .ok (.iconst 1, 1) := by decide +kernel
theorem dL_law_140 : decode cL_law 140 = .ok (.goto 4, 3) := by decide +kernel
theorem dL_law_143 : decode cL_law 143 = .ok (.iconst 0, 1) := by decide +kernel
theorem dL_law_144 : decode cL_law 144 = .ok (.iadd, 1) := by decide +kernel
theorem dL_law_145 : decode cL_law 145 = .ok (.istore 8, 2) := by decide +kernel
theorem dL_law_147 : decode cL_law 147 = .ok (.iload 9, 2) := by decide +kernel
theorem dL_law_149 : decode cL_law 149 = .ok (.aload_n 1, 1) := by decide +kernel
theorem dL_law_150 : decode cL_law 150 = .ok (.iload 12, 2) := by decide +kernel
theorem dL_law_152 : decode cL_law 152 = .ok (.invokevirtual 91, 3) := by decide +kernel
theorem dL_law_155 : decode cL_law 155 = .ok (.ifCond .le 7, 3) := by decide +kernel
theorem dL_law_158 : decode cL_law 158 = .ok (.iconst 1, 1) := by decide +kernel
theorem dL_law_159 : decode cL_law 159 = .ok (.goto 4, 3) := by decide +kernel
theorem dL_law_162 : decode cL_law 162 = .ok (.iconst 0, 1) := by decide +kernel
theorem dL_law_163 : decode cL_law 163 = .ok (.iadd, 1) := by decide +kernel
theorem dL_law_164 : decode cL_law 164 = .ok (.istore 9, 2) := by decide +kernel
theorem dL_law_166 : decode cL_law 166 = .ok (.iload 13, 2) := by decide +kernel
theorem dL_law_168 : decode cL_law 168 = .ok (.ifCond .lt 101, 3) := by decide +kernel
theorem dL_law_171 : decode cL_law 171 = .ok (.iload 13, 2) := by decide +kernel
theorem dL_law_173 : decode cL_law 173 = .ok (.iconst 2, 1) := by decide +kernel
theorem dL_law_174 : decode cL_law 174 = .ok (.if_icmp .gt 95, 3) := by decide +kernel
theorem dL_law_177 : decode cL_law 177 = .ok (.iload 13, 2) := by decide +kernel
theorem dL_law_179 : decode cL_law 179 = .ok (.iconst 1, 1) := by decide +kernel
theorem dL_law_180 : decode cL_law 180 = .ok (.if_icmp .ne 7, 3) := by decide +kernel
theorem dL_law_183 : decode cL_law 183 = .ok (.iconst 1, 1) := by decide +kernel
theorem dL_law_184 : decode cL_law 184 = .ok (.goto 4, 3) := by decide +kernel
theorem dL_law_187 : decode cL_law 187 = .ok (.iconst 0, 1) := by decide +kernel
theorem dL_law_188 : decode cL_law 188 = .ok (.iload 14, 2) := by decide +kernel
theorem dL_law_190 : decode cL_law 190 = .ok (.ifCond .lt 7, 3) := by decide +kernel
theorem dL_law_193 : decode cL_law 193 = .ok (.iconst 1, 1) := by decide +kernel
theorem dL_law_194 : decode cL_law 194 = .ok (.goto 4, 3) := by decide +kernel
theorem dL_law_197 : decode cL_law 197 = .ok (.iconst 0, 1) := by decide +kernel
theorem dL_law_198 : decode cL_law 198 = .ok (.if_icmp .ne 71, 3) := by decide +kernel
theorem dL_law_201 : decode cL_law 201 = .ok (.aload_n 1, 1) := by decide +kernel
theorem dL_law_202 : decode cL_law 202 = .ok (.iload 12, 2) := by decide +kernel
theorem dL_law_204 : decode cL_law 204 = .ok (.invokevirtual 94, 3) := by decide +kernel
theorem dL_law_207 : decode cL_law 207 = .ok (.ifCond .le 7, 3) := by decide +kernel
theorem dL_law_210 : decode cL_law 210 = .ok (.iconst 1, 1) := by decide +kernel
theorem dL_law_211 : decode cL_law 211 = .ok (.goto 4, 3) := by decide +kernel
theorem dL_law_214 : decode cL_law 214 = .ok (.iconst 0, 1) := by decide +kernel
theorem dL_law_215 : decode cL_law 215 = .ok (.iload 13, 2) := by decide +kernel
theorem dL_law_217 : decode cL_law 217 = .ok (.iconst 1, 1) := by decide +kernel
theorem dL_law_218 : decode cL_law 218 = .ok (.if_icmp .ne 7, 3) := by decide +kernel
theorem dL_law_221 : decode cL_law 221 = .ok (.iconst 1, 1) := by decide +kernel
theorem dL_law_222 : decode cL_law 222 = .ok (.goto 4, 3) := by decide +kernel
theorem dL_law_225 : decode cL_law 225 = .ok (.iconst 0, 1) := by decide +kernel
theorem dL_law_226 : decode cL_law 226 = .ok (.if_icmp .ne 43, 3) := by decide +kernel
theorem dL_law_229 : decode cL_law 229 = .ok (.aload_n 1, 1) := by decide +kernel
theorem dL_law_230 : decode cL_law 230 = .ok (.iload 12, 2) := by decide +kernel
theorem dL_law_232 : decode cL_law 232 = .ok (.invokevirtual 91, 3) := by decide +kernel
theorem dL_law_235 : decode cL_law 235 = .ok (.ifCond .ne 7, 3) := by decide +kernel
theorem dL_law_238 : decode cL_law 238 = .ok (.iconst 1, 1) := by decide +kernel
theorem dL_law_239 : decode cL_law 239 = .ok (.goto 4, 3) := by decide +kernel
theorem dL_law_242 : decode cL_law 242 = .ok (.iconst 0, 1) := by decide +kernel
theorem dL_law_243 : decode cL_law 243 = .ok (.iload 13, 2) := by decide +kernel
theorem dL_law_245 : decode cL_law 245 = .ok (.ifCond .ne 7, 3) := by decide +kernel
theorem dL_law_248 : decode cL_law 248 = .ok (.iconst 1, 1) := by decide +kernel
theorem dL_law_249 : decode cL_law 249 = .ok (.goto 4, 3) := by decide +kernel
theorem dL_law_252 : decode cL_law 252 = .ok (.iconst 0, 1) := by decide +kernel
theorem dL_law_253 : decode cL_law 253 = .ok (.if_icmp .ne 16, 3) := by decide +kernel
theorem dL_law_256 : decode cL_law 256 = .ok (.aload_n 1, 1) := by decide +kernel
theorem dL_law_257 : decode cL_law 257 = .ok (.iload 12, 2) := by decide +kernel
theorem dL_law_259 : decode cL_law 259 = .ok (.invokevirtual 91, 3) := by decide +kernel
theorem dL_law_262 : decode cL_law 262 = .ok (.aload_n 1, 1) := by decide +kernel
theorem dL_law_263 : decode cL_law 263 = .ok (.invokevirtual 97, 3) := by decide +kernel
theorem dL_law_266 : decode cL_law 266 = .ok (.if_icmp .le 5, 3) := by decide +kernel
theorem dL_law_269 : decode cL_law 269 = .ok (.iconst 0, 1) := by decide +kernel
theorem dL_law_270 : decode cL_law 270 = .ok (.ireturn, 1) := by decide +kernel
theorem dL_law_271 : decode cL_law 271 = .ok (.iload 14, 2) := by decide +kernel
theorem dL_law_273 : decode cL_law 273 = .ok (.ifCond .ge 6, 3) := by decide +kernel
theorem dL_law_276 : decode cL_law 276 = .ok (.goto 78, 3) := by decide +kernel
theorem dL_law_279 : decode cL_law 279 = .ok (.iload 10, 2) := by decide +kernel
theorem dL_law_281 : decode cL_law 281 = .ok (.aload_n 1, 1) := by decide +kernel
theorem dL_law_282 : decode cL_law 282 = .ok (.iload 14, 2) := by decide +kernel
theorem dL_law_284 : decode cL_law 284 = .ok (.invokevirtual 100, 3) := by decide +kernel
theorem dL_law_287 : decode cL_law 287 = .ok (.iadd, 1) := by decide +kernel
theorem dL_law_288 : decode cL_law 288 = .ok (.istore 10, 2) := by decide +kernel
theorem dL_law_290 : decode cL_law 290 = .ok (.iload 11, 2) := by decide +kernel
theorem dL_law_292 : decode cL_law 292 = .ok (.aload_n 1, 1) := by decide +kernel
theorem dL_law_293 : decode cL_law 293 = .ok (.iload 14, 2) := by decide +kernel
theorem dL_law_295 : decode cL_law 295 = .ok (.invokevirtual 100, 3) := by decide +kernel
theorem dL_law_298 : decode cL_law 298 = .ok (.invokestatic 103, 3) := by decide +kernel
theorem dL_law_301 : decode cL_law 301 = .ok (.istore 11, 2) := by decide +kernel
theorem dL_law_303 : decode cL_law 303 = .ok (.aload_n 1, 1) := by decide +kernel
theorem dL_law_304 : decode cL_law 304 = .ok (.iload 14, 2) := by decide +kernel
theorem dL_law_306 : decode cL_law 306 = .ok (.invokevirtual 108, 3) := by decide +kernel
theorem dL_law_309 : decode cL_law 309 = .ok (.ifCond .lt 33, 3) := by decide +kernel
theorem dL_law_312 : decode cL_law 312 = .ok (.aload_n 1, 1) := by decide +kernel
theorem dL_law_313 : decode cL_law 313 = .ok (.iload 14, 2) := by decide +kernel
theorem dL_law_315 : decode cL_law 315 = .ok (.invokevirtual 108, 3) := by decide +kernel
theorem dL_law_318 : decode cL_law 318 = .ok (.iload 12, 2) := by decide +kernel
theorem dL_law_320 : decode cL_law 320 = .ok (.if_icmp .ne 32, 3) := by decide +kernel
theorem dL_law_323 : decode cL_law 323 = .ok (.aload_n 1, 1) := by decide +kernel
theorem dL_law_324 : decode cL_law 324 = .ok (.iload 14, 2) := by decide +kernel
theorem dL_law_326 : decode cL_law 326 = .ok (.aload_n 1, 1) := by decide +kernel
theorem dL_law_327 : decode cL_law 327 = .ok (.iload 14, 2) := by decide +kernel
theorem dL_law_329 : decode cL_law 329 = .ok (.invokevirtual 100, 3) := by decide +kernel
theorem dL_law_332 : decode cL_law 332 = .ok (.iconst 1, 1) := by decide +kernel
theorem dL_law_333 : decode cL_law 333 = .ok (.isub, 1) := by decide +kernel
theorem dL_law_334 : decode cL_law 334 = .ok (.invokevirtual 109, 3) := by decide +kernel
theorem dL_law_337 : decode cL_law 337 = .ok (.iload 12, 2) := by decide +kernel
theorem dL_law_339 : decode cL_law 339 = .ok (.if_icmp .ne 13, 3) := by decide +kernel
theorem dL_law_342 : decode cL_law 342 = .ok (.aload_n 1, 1) := by decide +kernel
theorem dL_law_343 : decode cL_law 343 = .ok (.iload 14, 2) := by decide +kernel
theorem dL_law_345 : decode cL_law 345 = .ok (.invokevirtual 112, 3) := by decide +kernel
theorem dL_law_348 : decode cL_law 348 = .ok (.iconst (-1), 1) := by decide +kernel
theorem dL_law_349 : decode cL_law 349 = .ok (.if_icmp .eq 5, 3) := by decide +kernel
theorem dL_law_352 : decode cL_law 352 = .ok (.iconst 0, 1) := by decide +kernel
theorem dL_law_353 : decode cL_law 353 = .ok (.ireturn, 1) := by decide +kernel
theorem dL_law_354 : decode cL_law 354 = .ok (.iinc 12 1, 3) := by decide +kernel
theorem dL_law_357 : decode cL_law 357 = .ok (.goto (-248), 3) := by decide +kernel
theorem dL_law_360 : decode cL_law 360 = .ok (.iload 8, 2) := by decide +kernel
theorem dL_law_362 : decode cL_law 362 = .ok (.aload_n 1, 1) := by decide +kernel
theorem dL_law_363 : decode cL_law 363 = .ok (.invokevirtual 115, 3) := by decide +kernel
theorem dL_law_366 : decode cL_law 366 = .ok (.iadd, 1) := by decide +kernel
theorem dL_law_367 : decode cL_law 367 = .ok (.aload_n 1, 1) := by decide +kernel
theorem dL_law_368 : decode cL_law 368 = .ok (.invokevirtual 118, 3) := by decide +kernel
theorem dL_law_371 : decode cL_law 371 = .ok (.iadd, 1) := by decide +kernel
theorem dL_law_372 : decode cL_law 372 = .ok (.iload 7, 2) := by decide +kernel
theorem dL_law_374 : decode cL_law 374 = .ok (.if_icmp .ne 96, 3) := by decide +kernel
theorem dL_law_377 : decode cL_law 377 = .ok (.iload 9, 2) := by decide +kernel
theorem dL_law_379 : decode cL_law 379 = .ok (.iload 7, 2) := by decide +kernel
theorem dL_law_381 : decode cL_law 381 = .ok (.iload 8, 2) := by decide +kernel
theorem dL_law_383 : decode cL_law 383 = .ok (.isub, 1) := by decide +kernel
theorem dL_law_384 : decode cL_law 384 = .ok (.if_icmp .ne 86, 3) := by decide +kernel
theorem dL_law_387 : decode cL_law 387 = .ok (.iload 10, 2) := by decide +kernel
theorem dL_law_389 : decode cL_law 389 = .ok (.aload_n 1, 1) := by decide +kernel
theorem dL_law_390 : decode cL_law 390 = .ok (.invokevirtual 121, 3) := by decide +kernel
theorem dL_law_393 : decode cL_law 393 = .ok (.if_icmp .ne 77, 3) := by decide +kernel
theorem dL_law_396 : decode cL_law 396 = .ok (.aload_n 1, 1) := by decide +kernel
theorem dL_law_397 : decode cL_law 397 = .ok (.invokevirtual 115, 3) := by decide +kernel
theorem dL_law_400 : decode cL_law 400 = .ok (.ifCond .le 16, 3) := by decide +kernel
theorem dL_law_403 : decode cL_law 403 = .ok (.aload_n 1, 1) := by decide +kernel
theorem dL_law_404 : decode cL_law 404 = .ok (.aload_n 1, 1) := by decide +kernel
theorem dL_law_405 : decode cL_law 405 = .ok (.invokevirtual 124, 3) := by decide +kernel
theorem dL_law_408 : decode cL_law 408 = .ok (.invokevirtual 100, 3) := by decide +kernel
theorem dL_law_411 : decode cL_law 411 = .ok (.iload 11, 2) := by decide +kernel
theorem dL_law_413 : decode cL_law 413 = .ok (.if_icmp .ne 57, 3) := by decide +kernel
theorem dL_law_416 : decode cL_law 416 = .ok (.aload_n 1, 1) := by decide +kernel
theorem dL_law_417 : decode cL_law 417 = .ok (.invokevirtual 124, 3) := by decide +kernel
theorem dL_law_420 : decode cL_law 420 = .ok (.ifCond .ge 7, 3) := by decide +kernel
theorem dL_law_423 : decode cL_law 423 = .ok (.iconst 1, 1) := by decide +kernel
theorem dL_law_424 : decode cL_law 424 = .ok (.goto 4, 3) := by decide +kernel
theorem dL_law_427 : decode cL_law 427 = .ok (.iconst 0, 1) := by decide +kernel
theorem dL_law_428 : decode cL_law 428 = .ok (.aload_n 1, 1) := by decide +kernel
theorem dL_law_429 : decode cL_law 429 = .ok (.invokevirtual 115, 3) := by decide +kernel
theorem dL_law_432 : decode cL_law 432 = .ok (.ifCond .ne 7, 3) := by decide +kernel
theorem dL_law_435 : decode cL_law 435 = .ok (.iconst 1, 1) := by decide +kernel
theorem dL_law_436 : decode cL_law 436 = .ok (.goto 4, 3) := by decide +kernel
theorem dL_law_439 : decode cL_law 439 = .ok (.iconst 0, 1) := by decide +kernel
theorem dL_law_440 : decode cL_law 440 = .ok (.if_icmp .ne 30, 3) := by decide +kernel
theorem dL_law_443 : decode cL_law 443 = .ok (.aload_n 1, 1) := by decide +kernel
theorem dL_law_444 : decode cL_law 444 = .ok (.invokevirtual 127, 3) := by decide +kernel
theorem dL_law_447 : decode cL_law 447 = .ok (.ifCond .ne 7, 3) := by decide +kernel
theorem dL_law_450 : decode cL_law 450 = .ok (.iconst 1, 1) := by decide +kernel
theorem dL_law_451 : decode cL_law 451 = .ok (.goto 4, 3) := by decide +kernel
theorem dL_law_454 : decode cL_law 454 = .ok (.iconst 0, 1) := by decide +kernel
theorem dL_law_455 : decode cL_law 455 = .ok (.iload 8, 2) := by decide +kernel
theorem dL_law_457 : decode cL_law 457 = .ok (.iload 7, 2) := by decide +kernel
theorem dL_law_459 : decode cL_law 459 = .ok (.if_icmp .ne 7, 3) := by decide +kernel
theorem dL_law_462 : decode cL_law 462 = .ok (.iconst 1, 1) := by decide +kernel
theorem dL_law_463 : decode cL_law 463 = .ok (.goto 4, 3) := by decide +kernel
theorem dL_law_466 : decode cL_law 466 = .ok (.iconst 0, 1) := by decide +kernel
theorem dL_law_467 : decode cL_law 467 = .ok (.if_icmp .eq 5, 3) := by decide +kernel
theorem dL_law_470 : decode cL_law 470 = .ok (.iconst 0, 1) := by decide +kernel
theorem dL_law_471 : decode cL_law 471 = .ok (.ireturn, 1) := by decide +kernel
theorem dL_law_472 : decode cL_law 472 = .ok (.iload 4, 2) := by decide +kernel
theorem dL_law_474 : decode cL_law 474 = .ok (.iconst 3, 1) := by decide +kernel
theorem dL_law_475 : decode cL_law 475 = .ok (.ishr, 1) := by decide +kernel
theorem dL_law_476 : decode cL_law 476 = .ok (.iload 4, 2) := by decide +kernel
theorem dL_law_478 : decode cL_law 478 = .ok (.bipush 6, 2) := by decide +kernel
theorem dL_law_480 : decode cL_law 480 = .ok (.ishr, 1) := by decide +kernel
theorem dL_law_481 : decode cL_law 481 = .ok (.iconst 2, 1) := by decide +kernel
theorem dL_law_482 : decode cL_law 482 = .ok (.invokestatic 9, 3) := by decide +kernel
theorem dL_law_485 : decode cL_law 485 = .ok (.ifCond .ne 8, 3) := by decide +kernel
theorem dL_law_488 : decode cL_law 488 = .ok (.bipush 60, 2) := by decide +kernel
theorem dL_law_490 : decode cL_law 490 = .ok (.goto 6, 3) := by decide +kernel
theorem dL_law_493 : decode cL_law 493 = .ok (.sipush 10000, 3) := by decide +kernel
theorem dL_law_496 : decode cL_law 496 = .ok (.invokestatic 9, 3) := by decide +kernel
theorem dL_law_499 : decode cL_law 499 = .ok (.istore 12, 2) := by decide +kernel
theorem dL_law_501 : decode cL_law 501 = .ok (.aload_n 1, 1) := by decide +kernel
theorem dL_law_502 : decode cL_law 502 = .ok (.iload 12, 2) := by decide +kernel
theorem dL_law_504 : decode cL_law 504 = .ok (.invokevirtual 112, 3) := by decide +kernel
theorem dL_law_507 : decode cL_law 507 = .ok (.istore 13, 2) := by decide +kernel
theorem dL_law_509 : decode cL_law 509 = .ok (.aload_n 1, 1) := by decide +kernel
theorem dL_law_510 : decode cL_law 510 = .ok (.iload 12, 2) := by decide +kernel
theorem dL_law_512 : decode cL_law 512 = .ok (.invokevirtual 100, 3) := by decide +kernel
theorem dL_law_515 : decode cL_law 515 = .ok (.istore 14, 2) := by decide +kernel
theorem dL_law_517 : decode cL_law 517 = .ok (.iconst 0, 1) := by decide +kernel
theorem dL_law_518 : decode cL_law 518 = .ok (.istore 15, 2) := by decide +kernel
theorem dL_law_520 : decode cL_law 520 = .ok (.iconst 0, 1) := by decide +kernel
theorem dL_law_521 : decode cL_law 521 = .ok (.istore 16, 2) := by decide +kernel
theorem dL_law_523 : decode cL_law 523 = .ok (.iload 16, 2) := by decide +kernel
theorem dL_law_525 : decode cL_law 525 = .ok (.iload 14, 2) := by decide +kernel
theorem dL_law_527 : decode cL_law 527 = .ok (.if_icmp .ge 32, 3) := by decide +kernel
theorem dL_law_530 : decode cL_law 530 = .ok (.iload 15, 2) := by decide +kernel
theorem dL_law_532 : decode cL_law 532 = .ok (.aload_n 1, 1) := by decide +kernel
theorem dL_law_533 : decode cL_law 533 = .ok (.iload 12, 2) := by decide +kernel
theorem dL_law_535 : decode cL_law 535 = .ok (.iload 16, 2) := by decide +kernel
theorem dL_law_537 : decode cL_law 537 = .ok (.invokevirtual 109, 3) := by decide +kernel
theorem dL_law_540 : decode cL_law 540 = .ok (.iload 13, 2) := by decide +kernel
theorem dL_law_542 : decode cL_law 542 = .ok (.if_icmp .ne 7, 3) := by decide +kernel
theorem dL_law_545 : decode cL_law 545 = .ok (.iconst 1, 1) := by decide +kernel
theorem dL_law_546 : decode cL_law 546 = .ok (.goto 4, 3) := by decide +kernel
theorem dL_law_549 : decode cL_law 549 = .ok (.iconst 0, 1) := by decide +kernel
theorem dL_law_550 : decode cL_law 550 = .ok (.ior, 1) := by decide +kernel
theorem dL_law_551 : decode cL_law 551 = .ok (.istore 15, 2) := by decide +kernel
theorem dL_law_553 : decode cL_law 553 = .ok (.iinc 16 1, 3) := by decide +kernel
theorem dL_law_556 : decode cL_law 556 = .ok (.goto (-33), 3) := by decide +kernel
theorem dL_law_559 : decode cL_law 559 = .ok (.aload_n 1, 1) := by decide +kernel
theorem dL_law_560 : decode cL_law 560 = .ok (.iload 12, 2) := by decide +kernel
theorem dL_law_562 : decode cL_law 562 = .ok (.iload 14, 2) := by decide +kernel
