theorem dL_below_0 : decode cL_below 0 = .ok (.iload_n 0, 1) := by decide +kernel
theorem dL_below_1 : decode cL_below 1 = .ok (.ldc 7, 2) := by decide +kernel
theorem dL_below_3 : decode cL_below 3 = .ok (.iand, 1) := by decide +kernel
theorem dL_below_4 : decode cL_below 4 = .ok (.iload_n 1, 1) := by decide +kernel
theorem dL_below_5 : decode cL_below 5 = .ok (.irem, 1) := by decide +kernel
theorem dL_below_6 : decode cL_below 6 = .ok (.ireturn, 1) := by decide +kernel
theorem dL_cell_0 : decode cL_cell 0 = .ok (.iload_n 1, 1) := by decide +kernel
theorem dL_cell_1 : decode cL_cell 1 = .ok (.aload_n 0, 1) := by decide +kernel
theorem dL_cell_2 : decode cL_cell 2 = .ok (.arraylength, 1) := by decide +kernel
theorem dL_cell_3 : decode cL_cell 3 = .ok (.if_icmp .ge 9, 3) := by decide +kernel
theorem dL_cell_6 : decode cL_cell 6 = .ok (.aload_n 0, 1) := by decide +kernel
theorem dL_cell_7 : decode cL_cell 7 = .ok (.iload_n 1, 1) := by decide +kernel
theorem dL_cell_8 : decode cL_cell 8 = .ok (.iaload, 1) := by decide +kernel
theorem dL_cell_9 : decode cL_cell 9 = .ok (.goto 9, 3) := by decide +kernel
theorem dL_cell_12 : decode cL_cell 12 = .ok (.ldc 8, 2) := by decide +kernel
theorem dL_cell_14 : decode cL_cell 14 = .ok (.iload_n 1, 1) := by decide +kernel
theorem dL_cell_15 : decode cL_cell 15 = .ok (.iconst 3, 1) := by decide +kernel
theorem dL_cell_16 : decode cL_cell 16 = .ok (.iadd, 1) := by decide +kernel
theorem dL_cell_17 : decode cL_cell 17 = .ok (.imul, 1) := by decide +kernel
theorem dL_cell_18 : decode cL_cell 18 = .ok (.ireturn, 1) := by decide +kernel
set_option maxRecDepth 20000 in
theorem ggL_act_L_below : GoodIn wsL_act wsL_below := goodIn_r _ [9, 10] (by decide +kernel) (by decide +kernel)
set_option maxRecDepth 20000 in
theorem gL_act_L_below : GoodIn wsL_act (va_wsS RL 9 yL_below wsL_below) := goodIn_app (goodIn_of _ (by decide +kernel)) ggL_act_L_below
set_option maxRecDepth 20000 in
theorem ggL_act_X2_anew : GoodIn wsL_act wsX2_anew := goodIn_r _ [15, 16, 17, 18, 19, 20, 14, 21, 22, 23, 24, 25, 26, 27, 28, 29, 30, 31, 32, 33, 34, 35, 36, 37, 38, 39, 40, 41, 42, 43, 44, 45, 46, 47, 48, 49, 50, 51, 52, 53, 54, 55, 56, 57, 201, 202, 203, 204] (by decide +kernel) (by decide +kernel)
set_option maxRecDepth 20000 in
theorem gL_act_X2_anew : GoodIn wsL_act (wsV RL 15 RX2 yX2_anew wsX2_anew) := goodIn_app (goodIn_of _ (by decide +kernel)) ggL_act_X2_anew
set_option maxRecDepth 20000 in
theorem ggL_act_X1_rehang_c1 : GoodIn wsL_act wsX1_rehang_r1 := goodIn_r _ [63, 64, 65, 66, 61, 67, 68, 69, 70, 71, 72, 73, 74, 75, 76, 77, 78, 79, 80, 81, 82, 83, 84, 85] (by decide +kernel) (by decide +kernel)
set_option maxRecDepth 20000 in
theorem ggL_act_X1_rehang_c2 : GoodIn wsL_act wsX1_rehang_r2 := goodIn_r _ [86, 87, 88, 89, 90, 91, 92, 93, 94, 95, 96, 97, 98, 99, 100, 101, 102, 103, 104, 105, 106, 107, 108, 109] (by decide +kernel) (by decide +kernel)
set_option maxRecDepth 20000 in
theorem ggL_act_X1_rehang_c3 : GoodIn wsL_act wsX1_rehang_r3 := goodIn_r _ [110, 111, 112, 113, 114, 115, 116, 117, 118, 119, 120, 121, 122, 123, 124, 125, 126, 127, 128, 129] (by decide +kernel) (by decide +kernel)
set_option maxRecDepth 20000 in
theorem ggL_act_X1_rehang_c4 : GoodIn wsL_act wsX10 := goodIn_r _ [205, 206] (by decide +kernel) (by decide +kernel)
set_option maxRecDepth 20000 in
theorem ggL_act_X1_rehang_c5 : GoodIn wsL_act wsX00 := goodIn_r _ [207, 208, 209, 210] (by decide +kernel) (by decide +kernel)
set_option maxRecDepth 20000 in
theorem ggL_act_X1_rehang_c0 : GoodIn wsL_act [Cond.code yX1_rehang cX1_rehang 4 (some .int)] := goodIn_r _ [62] (by decide +kernel) (by decide +kernel)
set_option maxRecDepth 20000 in
theorem ggL_act_X1_rehang : GoodIn wsL_act wsX1_rehang := goodIn_ca (goodIn_ca (goodIn_k ggL_act_X1_rehang_c0 (goodIn_app (goodIn_app (goodIn_app ggL_act_X1_rehang_c1 (goodIn_app ggL_act_X1_rehang_c2 ggL_act_X1_rehang_c3)) ggL_act_X1_rehang_c4) ggL_act_X1_rehang_c5)) (goodIn_sub (fun _ h => List.mem_cons_of_mem _ (List.mem_append_left _ (List.mem_append_right _ h))) (by decide +kernel))) (goodIn_sub (fun _ h => List.mem_cons_of_mem _ (List.mem_append_right _ h)) (by decide +kernel))
set_option maxRecDepth 20000 in
theorem gL_act_X1_rehang : GoodIn wsL_act (wsV RL 36 RX1 yX1_rehang wsX1_rehang) := goodIn_app (goodIn_of _ (by decide +kernel)) ggL_act_X1_rehang
set_option maxRecDepth 20000 in
theorem ggL_act_X1_sweep : GoodIn wsL_act wsX1_sweep := goodIn_r _ [133, 75, 134, 135, 136, 79, 137, 81, 138, 139, 140, 141, 97, 98, 99, 100, 83, 89, 90, 91, 92, 142, 143, 144, 145, 82, 146, 77, 78, 80, 84, 85, 86, 87, 88, 147, 148, 149, 150, 151, 152, 153, 154, 155, 156, 157, 158, 205, 206, 207, 208, 209, 210] (by decide +kernel) (by decide +kernel)
set_option maxRecDepth 20000 in
theorem gL_act_X1_sweep : GoodIn wsL_act (wsV RL 41 RX1 yX1_sweep wsX1_sweep) := goodIn_app (goodIn_of _ (by decide +kernel)) ggL_act_X1_sweep
set_option maxRecDepth 20000 in
theorem ggL_act_X2_sweep : GoodIn wsL_act wsX2_sweep := goodIn_r _ [162, 16, 26, 27, 163, 164, 165, 14, 166, 50, 51, 52, 53, 201, 202, 203, 204] (by decide +kernel) (by decide +kernel)
set_option maxRecDepth 20000 in
theorem gL_act_X2_sweep : GoodIn wsL_act (wsV RL 45 RX2 yX2_sweep wsX2_sweep) := goodIn_app (goodIn_of _ (by decide +kernel)) ggL_act_X2_sweep
set_option maxRecDepth 20000 in
theorem ggL_act_X2_find : GoodIn wsL_act wsX2_find := goodIn_r _ [170, 16, 42, 43, 44, 14, 45, 46, 47, 48, 49, 24, 50, 51, 52, 53, 27, 201, 202, 203, 204] (by decide +kernel) (by decide +kernel)
set_option maxRecDepth 20000 in
theorem gL_act_X2_find : GoodIn wsL_act (wsV RL 46 RX2 yX2_find wsX2_find) := goodIn_app (goodIn_of _ (by decide +kernel)) ggL_act_X2_find
set_option maxRecDepth 20000 in
theorem ggL_act_X1_take : GoodIn wsL_act wsX1_take := goodIn_ca (goodIn_ca (goodIn_r _ [174, 63, 64, 75, 175, 176, 61, 177, 68, 69, 178, 179, 180, 79, 181, 105, 106, 107, 108, 81, 109, 110, 111, 112, 82, 97, 98, 99, 100, 83, 113, 114, 115, 116, 88, 182, 183, 184, 185, 84, 85, 86, 87, 205, 206, 207, 208, 209, 210] (by decide +kernel) (by decide +kernel)) (goodIn_sub (fun _ h => List.mem_cons_of_mem _ (List.mem_append_left _ (List.mem_append_right _ h))) (by decide +kernel))) (goodIn_sub (fun _ h => List.mem_cons_of_mem _ (List.mem_append_right _ h)) (by decide +kernel))
set_option maxRecDepth 20000 in
theorem gL_act_X1_take : GoodIn wsL_act (wsV RL 50 RX1 yX1_take wsX1_take) := goodIn_app (goodIn_of _ (by decide +kernel)) ggL_act_X1_take
set_option maxRecDepth 20000 in
theorem ggL_act_X2_place : GoodIn wsL_act wsX2_place := goodIn_r _ [37, 27, 38, 39, 40, 14, 41, 16, 42, 43, 44, 45, 46, 47, 48, 49, 24, 50, 51, 52, 53, 201, 202, 203, 204] (by decide +kernel) (by decide +kernel)
set_option maxRecDepth 20000 in
theorem gL_act_X2_place : GoodIn wsL_act (wsV RL 53 RX2 yX2_place wsX2_place) := goodIn_app (goodIn_of _ (by decide +kernel)) ggL_act_X2_place
set_option maxRecDepth 20000 in
theorem ggL_act_X2_hang : GoodIn wsL_act wsX2_hang := goodIn_r _ [57, 16, 17, 27, 201, 202, 203, 204] (by decide +kernel) (by decide +kernel)
set_option maxRecDepth 20000 in
theorem gL_act_X2_hang : GoodIn wsL_act (wsV RL 56 RX2 yX2_hang wsX2_hang) := goodIn_app (goodIn_of _ (by decide +kernel)) ggL_act_X2_hang
set_option maxRecDepth 20000 in
theorem ggL_act_X1_hang : GoodIn wsL_act wsX1_hang := goodIn_ca (goodIn_ca (goodIn_r _ [191, 68, 69, 63, 64, 75, 175, 176, 61, 177, 192, 193, 194, 79, 195, 196, 197, 198, 199, 81, 97, 98, 99, 100, 83, 200, 102, 103, 104, 105, 106, 107, 108, 109, 110, 111, 112, 82, 117, 85, 86, 87, 88, 205, 206, 207, 208, 209, 210] (by decide +kernel) (by decide +kernel)) (goodIn_sub (fun _ h => List.mem_cons_of_mem _ (List.mem_append_right _ h)) (by decide +kernel))) (goodIn_sub (fun _ h => List.mem_cons_of_mem _ (List.mem_append_left _ (List.mem_append_right _ h))) (by decide +kernel))
set_option maxRecDepth 20000 in
theorem gL_act_X1_hang : GoodIn wsL_act (wsV RL 60 RX1 yX1_hang wsX1_hang) := goodIn_app (goodIn_of _ (by decide +kernel)) ggL_act_X1_hang
theorem dL_act_0 : decode cL_act 0 = .ok (.iload_n 2, 1) := by decide +kernel
theorem dL_act_1 : decode cL_act 1 = .ok (.iconst 3, 1) := by decide +kernel
theorem dL_act_2 : decode cL_act 2 = .ok (.ishr, 1) := by decide +kernel
theorem dL_act_3 : decode cL_act 3 = .ok (.iload_n 2, 1) := by decide +kernel
theorem dL_act_4 : decode cL_act 4 = .ok (.bipush 9, 2) := by decide +kernel
theorem dL_act_6 : decode cL_act 6 = .ok (.ishr, 1) := by decide +kernel
theorem dL_act_7 : decode cL_act 7 = .ok (.iconst 2, 1) := by decide +kernel
theorem dL_act_8 : decode cL_act 8 = .ok (.invokestatic 9, 3) := by decide +kernel
theorem dL_act_11 : decode cL_act 11 = .ok (.ifCond .ne 8, 3) := by decide +kernel
theorem dL_act_14 : decode cL_act 14 = .ok (.bipush 40, 2) := by decide +kernel
theorem dL_act_16 : decode cL_act 16 = .ok (.goto 23, 3) := by decide +kernel
theorem dL_act_19 : decode cL_act 19 = .ok (.iload_n 2, 1) := by decide +kernel
theorem dL_act_20 : decode cL_act 20 = .ok (.bipush 7, 2) := by decide +kernel
theorem dL_act_22 : decode cL_act 22 = .ok (.ishr, 1) := by decide +kernel
theorem dL_act_23 : decode cL_act 23 = .ok (.iconst 2, 1) := by decide +kernel
theorem dL_act_24 : decode cL_act 24 = .ok (.invokestatic 9, 3) := by decide +kernel
theorem dL_act_27 : decode cL_act 27 = .ok (.ifCond .ne 9, 3) := by decide +kernel
theorem dL_act_30 : decode cL_act 30 = .ok (.sipush 300, 3) := by decide +kernel
theorem dL_act_33 : decode cL_act 33 = .ok (.goto 6, 3) := by decide +kernel
theorem dL_act_36 : decode cL_act 36 = .ok (.sipush 10000, 3) := by decide +kernel
theorem dL_act_39 : decode cL_act 39 = .ok (.invokestatic 9, 3) := by decide +kernel
theorem dL_act_42 : decode cL_act 42 = .ok (.istore_n 3, 1) := by decide +kernel
theorem dL_act_43 : decode cL_act 43 = .ok (.iconst 1, 1) := by decide +kernel
theorem dL_act_44 : decode cL_act 44 = .ok (.istore 4, 2) := by decide +kernel
theorem dL_act_46 : decode cL_act 46 = .ok (.iload_n 2, 1) := by decide +kernel
theorem dL_act_47 : decode cL_act 47 = .ok (.bipush 12, 2) := by decide +kernel
theorem dL_act_49 : decode cL_act 49 = .ok (.invokestatic 9, 3) := by decide +kernel
theorem dL_act_52 : decode cL_act 52 = .ok (.tableswitch 366 0 5 #[40, 216, 245, 245, 245, 245], 40) := by decide +kernel
theorem dL_act_92 : decode cL_act 92 = .ok (.iconst 3, 1) := by decide +kernel
theorem dL_act_93 : decode cL_act 93 = .ok (.iload_n 2, 1) := by decide +kernel
theorem dL_act_94 : decode cL_act 94 = .ok (.iconst 4, 1) := by decide +kernel
theorem dL_act_95 : decode cL_act 95 = .ok (.ishr, 1) := by decide +kernel
theorem dL_act_96 : decode cL_act 96 = .ok (.bipush 38, 2) := by decide +kernel
theorem dL_act_98 : decode cL_act 98 = .ok (.invokestatic 9, 3) := by decide +kernel
theorem dL_act_101 : decode cL_act 101 = .ok (.iadd, 1) := by decide +kernel
theorem dL_act_102 : decode cL_act 102 = .ok (.istore 5, 2) := by decide +kernel
theorem dL_act_104 : decode cL_act 104 = .ok (.iload_n 2, 1) := by decide +kernel
theorem dL_act_105 : decode cL_act 105 = .ok (.bipush 6, 2) := by decide +kernel
theorem dL_act_107 : decode cL_act 107 = .ok (.ishr, 1) := by decide +kernel
theorem dL_act_108 : decode cL_act 108 = .ok (.iconst 3, 1) := by decide +kernel
theorem dL_act_109 : decode cL_act 109 = .ok (.invokestatic 9, 3) := by decide +kernel
theorem dL_act_112 : decode cL_act 112 = .ok (.istore 6, 2) := by decide +kernel
theorem dL_act_114 : decode cL_act 114 = .ok (.aload_n 1, 1) := by decide +kernel
theorem dL_act_115 : decode cL_act 115 = .ok (.iload 5, 2) := by decide +kernel
theorem dL_act_117 : decode cL_act 117 = .ok (.iload 6, 2) := by decide +kernel
theorem dL_act_119 : decode cL_act 119 = .ok (.invokevirtual 15, 3) := by decide +kernel
theorem dL_act_122 : decode cL_act 122 = .ok (.astore 7, 2) := by decide +kernel
theorem dL_act_124 : decode cL_act 124 = .ok (.aload 7, 2) := by decide +kernel
theorem dL_act_126 : decode cL_act 126 = .ok (.ifnull 7, 3) := by decide +kernel
theorem dL_act_129 : decode cL_act 129 = .ok (.iconst 1, 1) := by decide +kernel
theorem dL_act_130 : decode cL_act 130 = .ok (.goto 4, 3) := by decide +kernel
theorem dL_act_133 : decode cL_act 133 = .ok (.iconst 0, 1) := by decide +kernel
theorem dL_act_134 : decode cL_act 134 = .ok (.istore 4, 2) := by decide +kernel
theorem dL_act_136 : decode cL_act 136 = .ok (.iconst 0, 1) := by decide +kernel
theorem dL_act_137 : decode cL_act 137 = .ok (.istore 8, 2) := by decide +kernel
theorem dL_act_139 : decode cL_act 139 = .ok (.iload 4, 2) := by decide +kernel
theorem dL_act_141 : decode cL_act 141 = .ok (.ifCond .eq 103, 3) := by decide +kernel
theorem dL_act_144 : decode cL_act 144 = .ok (.iconst 0, 1) := by decide +kernel
theorem dL_act_145 : decode cL_act 145 = .ok (.istore 9, 2) := by decide +kernel
theorem dL_act_147 : decode cL_act 147 = .ok (.iload 9, 2) := by decide +kernel
theorem dL_act_149 : decode cL_act 149 = .ok (.aload_n 1, 1) := by decide +kernel
theorem dL_act_150 : decode cL_act 150 = .ok (.getfield 21, 3) := by decide +kernel
theorem dL_act_153 : decode cL_act 153 = .ok (.arraylength, 1) := by decide +kernel
theorem dL_act_154 : decode cL_act 154 = .ok (.if_icmp .ge 54, 3) := by decide +kernel
theorem dL_act_157 : decode cL_act 157 = .ok (.iload 8, 2) := by decide +kernel
theorem dL_act_159 : decode cL_act 159 = .ok (.aload_n 1, 1) := by decide +kernel
theorem dL_act_160 : decode cL_act 160 = .ok (.getfield 21, 3) := by decide +kernel
theorem dL_act_163 : decode cL_act 163 = .ok (.iload 9, 2) := by decide +kernel
theorem dL_act_165 : decode cL_act 165 = .ok (.iaload, 1) := by decide +kernel
theorem dL_act_166 : decode cL_act 166 = .ok (.ifCond .lt 32, 3) := by decide +kernel
theorem dL_act_169 : decode cL_act 169 = .ok (.iload 9, 2) := by decide +kernel
theorem dL_act_171 : decode cL_act 171 = .ok (.iload 5, 2) := by decide +kernel
theorem dL_act_173 : decode cL_act 173 = .ok (.if_icmp .ge 21, 3) := by decide +kernel
theorem dL_act_176 : decode cL_act 176 = .ok (.aload 7, 2) := by decide +kernel
theorem dL_act_178 : decode cL_act 178 = .ok (.getfield 21, 3) := by decide +kernel
theorem dL_act_181 : decode cL_act 181 = .ok (.iload 9, 2) := by decide +kernel
theorem dL_act_183 : decode cL_act 183 = .ok (.iaload, 1) := by decide +kernel
theorem dL_act_184 : decode cL_act 184 = .ok (.aload_n 1, 1) := by decide +kernel
theorem dL_act_185 : decode cL_act 185 = .ok (.getfield 21, 3) := by decide +kernel
theorem dL_act_188 : decode cL_act 188 = .ok (.iload 9, 2) := by decide +kernel
theorem dL_act_190 : decode cL_act 190 = .ok (.iaload, 1) := by decide +kernel
theorem dL_act_191 : decode cL_act 191 = .ok (.if_icmp .eq 7, 3) := by decide +kernel
theorem dL_act_194 : decode cL_act 194 = .ok (.iconst 1, 1) := by decide +kernel
theorem dL_act_195 : decode cL_act 195 = .ok (.goto 4, 3) := by decide +kernel
theorem dL_act_198 : decode cL_act 198 = .ok (.iconst 0, 1) := by decide +kernel
theorem dL_act_199 : decode cL_act 199 = .ok (.iadd, 1) := by decide +kernel
theorem dL_act_200 : decode cL_act 200 = .ok (.istore 8, 2) := by decide +kernel
theorem dL_act_202 : decode cL_act 202 = .ok (.iinc 9 1, 3) := by decide +kernel
theorem dL_act_205 : decode cL_act 205 = .ok (.goto (-58), 3) := by decide +kernel
theorem dL_act_208 : decode cL_act 208 = .ok (.aload_n 1, 1) := by decide +kernel
theorem dL_act_209 : decode cL_act 209 = .ok (.aload 7, 2) := by decide +kernel
theorem dL_act_211 : decode cL_act 211 = .ok (.getfield 25, 3) := by decide +kernel
theorem dL_act_214 : decode cL_act 214 = .ok (.putfield 25, 3) := by decide +kernel
theorem dL_act_217 : decode cL_act 217 = .ok (.aload_n 1, 1) := by decide +kernel
theorem dL_act_218 : decode cL_act 218 = .ok (.aload 7, 2) := by decide +kernel
theorem dL_act_220 : decode cL_act 220 = .ok (.getfield 21, 3) := by decide +kernel
theorem dL_act_223 : decode cL_act 223 = .ok (.putfield 21, 3) := by decide +kernel
theorem dL_act_226 : decode cL_act 226 = .ok (.aload_n 1, 1) := by decide +kernel
theorem dL_act_227 : decode cL_act 227 = .ok (.aload 7, 2) := by decide +kernel
theorem dL_act_229 : decode cL_act 229 = .ok (.getfield 29, 3) := by decide +kernel
theorem dL_act_232 : decode cL_act 232 = .ok (.putfield 29, 3) := by decide +kernel
theorem dL_act_235 : decode cL_act 235 = .ok (.aload_n 1, 1) := by decide +kernel
theorem dL_act_236 : decode cL_act 236 = .ok (.aload 7, 2) := by decide +kernel
theorem dL_act_238 : decode cL_act 238 = .ok (.getfield 32, 3) := by decide +kernel
theorem dL_act_241 : decode cL_act 241 = .ok (.putfield 32, 3) := by decide +kernel
theorem dL_act_244 : decode cL_act 244 = .ok (.aload_n 0, 1) := by decide +kernel
theorem dL_act_245 : decode cL_act 245 = .ok (.iload 5, 2) := by decide +kernel
theorem dL_act_247 : decode cL_act 247 = .ok (.iload 6, 2) := by decide +kernel
theorem dL_act_249 : decode cL_act 249 = .ok (.invokevirtual 36, 3) := by decide +kernel
theorem dL_act_252 : decode cL_act 252 = .ok (.iload 8, 2) := by decide +kernel
theorem dL_act_254 : decode cL_act 254 = .ok (.if_icmp .ne 12, 3) := by decide +kernel
theorem dL_act_257 : decode cL_act 257 = .ok (.iload 4, 2) := by decide +kernel
theorem dL_act_259 : decode cL_act 259 = .ok (.ifCond .eq 7, 3) := by decide +kernel
theorem dL_act_262 : decode cL_act 262 = .ok (.iconst 1, 1) := by decide +kernel
theorem dL_act_263 : decode cL_act 263 = .ok (.goto 4, 3) := by decide +kernel
theorem dL_act_266 : decode cL_act 266 = .ok (.iconst 0, 1) := by decide +kernel
theorem dL_act_267 : decode cL_act 267 = .ok (.ireturn, 1) := by decide +kernel
theorem dL_act_268 : decode cL_act 268 = .ok (.iload_n 2, 1) := by decide +kernel
theorem dL_act_269 : decode cL_act 269 = .ok (.iconst 5, 1) := by decide +kernel
theorem dL_act_270 : decode cL_act 270 = .ok (.ishr, 1) := by decide +kernel
theorem dL_act_271 : decode cL_act 271 = .ok (.iconst 3, 1) := by decide +kernel
theorem dL_act_272 : decode cL_act 272 = .ok (.invokestatic 9, 3) := by decide +kernel
theorem dL_act_275 : decode cL_act 275 = .ok (.ifCond .le 5, 3) := by decide +kernel
theorem dL_act_278 : decode cL_act 278 = .ok (.iconst 1, 1) := by decide +kernel
theorem dL_act_279 : decode cL_act 279 = .ok (.ireturn, 1) := by decide +kernel
theorem dL_act_280 : decode cL_act 280 = .ok (.aload_n 0, 1) := by decide +kernel
theorem dL_act_281 : decode cL_act 281 = .ok (.invokevirtual 41, 3) := by decide +kernel
theorem dL_act_284 : decode cL_act 284 = .ok (.aload_n 1, 1) := by decide +kernel
theorem dL_act_285 : decode cL_act 285 = .ok (.invokevirtual 45, 3) := by decide +kernel
theorem dL_act_288 : decode cL_act 288 = .ok (.if_icmp .ne 7, 3) := by decide +kernel
theorem dL_act_291 : decode cL_act 291 = .ok (.iconst 1, 1) := by decide +kernel
theorem dL_act_292 : decode cL_act 292 = .ok (.goto 4, 3) := by decide +kernel
theorem dL_act_295 : decode cL_act 295 = .ok (.iconst 0, 1) := by decide +kernel
theorem dL_act_296 : decode cL_act 296 = .ok (.ireturn, 1) := by decide +kernel
theorem dL_act_297 : decode cL_act 297 = .ok (.iload_n 2, 1) := by decide +kernel
theorem dL_act_298 : decode cL_act 298 = .ok (.iconst 4, 1) := by decide +kernel
theorem dL_act_299 : decode cL_act 299 = .ok (.ishr, 1) := by decide +kernel
theorem dL_act_300 : decode cL_act 300 = .ok (.aload_n 1, 1) := by decide +kernel
theorem dL_act_301 : decode cL_act 301 = .ok (.getfield 21, 3) := by decide +kernel
theorem dL_act_304 : decode cL_act 304 = .ok (.arraylength, 1) := by decide +kernel
theorem dL_act_305 : decode cL_act 305 = .ok (.invokestatic 9, 3) := by decide +kernel
theorem dL_act_308 : decode cL_act 308 = .ok (.istore 5, 2) := by decide +kernel
theorem dL_act_310 : decode cL_act 310 = .ok (.aload_n 1, 1) := by decide +kernel
theorem dL_act_311 : decode cL_act 311 = .ok (.getfield 21, 3) := by decide +kernel
theorem dL_act_314 : decode cL_act 314 = .ok (.iload 5, 2) := by decide +kernel
theorem dL_act_316 : decode cL_act 316 = .ok (.iaload, 1) := by decide +kernel
theorem dL_act_317 : decode cL_act 317 = .ok (.ifCond .lt 22, 3) := by decide +kernel
theorem dL_act_320 : decode cL_act 320 = .ok (.iload_n 2, 1) := by decide +kernel
theorem dL_act_321 : decode cL_act 321 = .ok (.bipush 8, 2) := by decide +kernel
theorem dL_act_323 : decode cL_act 323 = .ok (.ishr, 1) := by decide +kernel
theorem dL_act_324 : decode cL_act 324 = .ok (.iconst 4, 1) := by decide +kernel
theorem dL_act_325 : decode cL_act 325 = .ok (.invokestatic 9, 3) := by decide +kernel
theorem dL_act_328 : decode cL_act 328 = .ok (.ifCond .le 11, 3) := by decide +kernel
theorem dL_act_331 : decode cL_act 331 = .ok (.aload_n 1, 1) := by decide +kernel
theorem dL_act_332 : decode cL_act 332 = .ok (.getfield 21, 3) := by decide +kernel
theorem dL_act_335 : decode cL_act 335 = .ok (.iload 5, 2) := by decide +kernel
theorem dL_act_337 : decode cL_act 337 = .ok (.iaload, 1) := by decide +kernel
theorem dL_act_338 : decode cL_act 338 = .ok (.istore_n 3, 1) := by decide +kernel
theorem dL_act_339 : decode cL_act 339 = .ok (.aload_n 1, 1) := by decide +kernel
theorem dL_act_340 : decode cL_act 340 = .ok (.iload_n 3, 1) := by decide +kernel
theorem dL_act_341 : decode cL_act 341 = .ok (.invokevirtual 46, 3) := by decide +kernel
theorem dL_act_344 : decode cL_act 344 = .ok (.istore 6, 2) := by decide +kernel
theorem dL_act_346 : decode cL_act 346 = .ok (.iload 6, 2) := by decide +kernel
theorem dL_act_348 : decode cL_act 348 = .ok (.ifCond .lt 7, 3) := by decide +kernel
theorem dL_act_351 : decode cL_act 351 = .ok (.iconst 1, 1) := by decide +kernel
theorem dL_act_352 : decode cL_act 352 = .ok (.goto 4, 3) := by decide +kernel
theorem dL_act_355 : decode cL_act 355 = .ok (.iconst 0, 1) := by decide +kernel
theorem dL_act_356 : decode cL_act 356 = .ok (.istore 4, 2) := by decide +kernel
theorem dL_act_358 : decode cL_act 358 = .ok (.iload 4, 2) := by decide +kernel
theorem dL_act_360 : decode cL_act 360 = .ok (.ifCond .eq 13, 3) := by decide +kernel
theorem dL_act_363 : decode cL_act 363 = .ok (.aload_n 1, 1) := by decide +kernel
theorem dL_act_364 : decode cL_act 364 = .ok (.getfield 29, 3) := by decide +kernel
theorem dL_act_367 : decode cL_act 367 = .ok (.iload 6, 2) := by decide +kernel
theorem dL_act_369 : decode cL_act 369 = .ok (.iaload, 1) := by decide +kernel
theorem dL_act_370 : decode cL_act 370 = .ok (.goto 4, 3) := by decide +kernel
theorem dL_act_373 : decode cL_act 373 = .ok (.iconst 0, 1) := by decide +kernel
theorem dL_act_374 : decode cL_act 374 = .ok (.istore 7, 2) := by decide +kernel
theorem dL_act_376 : decode cL_act 376 = .ok (.iload 4, 2) := by decide +kernel
theorem dL_act_378 : decode cL_act 378 = .ok (.ifCond .eq 19, 3) := by decide +kernel
theorem dL_act_381 : decode cL_act 381 = .ok (.aload_n 1, 1) := by decide +kernel
theorem dL_act_382 : decode cL_act 382 = .ok (.getfield 21, 3) := by decide +kernel
theorem dL_act_385 : decode cL_act 385 = .ok (.iload 6, 2) := by decide +kernel
theorem dL_act_387 : decode cL_act 387 = .ok (.iconst (-1), 1) := by decide +kernel
theorem dL_act_388 : decode cL_act 388 = .ok (.iastore, 1) := by decide +kernel
theorem dL_act_389 : decode cL_act 389 = .ok (.aload_n 1, 1) := by decide +kernel
theorem dL_act_390 : decode cL_act 390 = .ok (.getfield 32, 3) := by decide +kernel
theorem dL_act_393 : decode cL_act 393 = .ok (.iload 6, 2) := by decide +kernel
theorem dL_act_395 : decode cL_act 395 = .ok (.iconst 1, 1) := by decide +kernel
theorem dL_act_396 : decode cL_act 396 = .ok (.bastore, 1) := by decide +kernel
theorem dL_act_397 : decode cL_act 397 = .ok (.aload_n 0, 1) := by decide +kernel
theorem dL_act_398 : decode cL_act 398 = .ok (.iload_n 3, 1) := by decide +kernel
theorem dL_act_399 : decode cL_act 399 = .ok (.invokevirtual 50, 3) := by decide +kernel
theorem dL_act_402 : decode cL_act 402 = .ok (.iload 7, 2) := by decide +kernel
theorem dL_act_404 : decode cL_act 404 = .ok (.if_icmp .ne 12, 3) := by decide +kernel
theorem dL_act_407 : decode cL_act 407 = .ok (.iload 4, 2) := by decide +kernel
theorem dL_act_409 : decode cL_act 409 = .ok (.ifCond .eq 7, 3) := by decide +kernel
theorem dL_act_412 : decode cL_act 412 = .ok (.iconst 1, 1) := by decide +kernel
theorem dL_act_413 : decode cL_act 413 = .ok (.goto 4, 3) := by decide +kernel
theorem dL_act_416 : decode cL_act 416 = .ok (.iconst 0, 1) := by decide +kernel
theorem dL_act_417 : decode cL_act 417 = .ok (.ireturn, 1) := by decide +kernel
theorem dL_act_418 : decode cL_act 418 = .ok (.aload_n 1, 1) := by decide +kernel
theorem dL_act_419 : decode cL_act 419 = .ok (.iload_n 3, 1) := by decide +kernel
theorem dL_act_420 : decode cL_act 420 = .ok (.invokevirtual 53, 3) := by decide +kernel
theorem dL_act_423 : decode cL_act 423 = .ok (.istore 5, 2) := by decide +kernel
theorem dL_act_425 : decode cL_act 425 = .ok (.iconst 1, 1) := by decide +kernel
theorem dL_act_426 : decode cL_act 426 = .ok (.iload_n 2, 1) := by decide +kernel
theorem dL_act_427 : decode cL_act 427 = .ok (.iconst 5, 1) := by decide +kernel
theorem dL_act_428 : decode cL_act 428 = .ok (.ishr, 1) := by decide +kernel
theorem dL_act_429 : decode cL_act 429 = .ok (.bipush 99, 2) := by decide +kernel
theorem dL_act_431 : decode cL_act 431 = .ok (.invokestatic 9, 3) := by decide +kernel
theorem dL_act_434 : decode cL_act 434 = .ok (.iadd, 1) := by decide +kernel
theorem dL_act_435 : decode cL_act 435 = .ok (.istore 6, 2) := by decide +kernel
theorem dL_act_437 : decode cL_act 437 = .ok (.iload 5, 2) := by decide +kernel
theorem dL_act_439 : decode cL_act 439 = .ok (.ifCond .lt 7, 3) := by decide +kernel
theorem dL_act_442 : decode cL_act 442 = .ok (.iconst 1, 1) := by decide +kernel
theorem dL_act_443 : decode cL_act 443 = .ok (.goto 4, 3) := by decide +kernel
theorem dL_act_446 : decode cL_act 446 = .ok (.iconst 0, 1) := by decide +kernel
theorem dL_act_447 : decode cL_act 447 = .ok (.istore 4, 2) := by decide +kernel
theorem dL_act_449 : decode cL_act 449 = .ok (.iload 4, 2) := by decide +kernel
theorem dL_act_451 : decode cL_act 451 = .ok (.ifCond .eq 12, 3) := by decide +kernel
theorem dL_act_454 : decode cL_act 454 = .ok (.aload_n 1, 1) := by decide +kernel
theorem dL_act_455 : decode cL_act 455 = .ok (.iload 5, 2) := by decide +kernel
theorem dL_act_457 : decode cL_act 457 = .ok (.iload_n 3, 1) := by decide +kernel
theorem dL_act_458 : decode cL_act 458 = .ok (.iload 6, 2) := by decide +kernel
theorem dL_act_460 : decode cL_act 460 = .ok (.invokevirtual 56, 3) := by decide +kernel
theorem dL_act_463 : decode cL_act 463 = .ok (.aload_n 0, 1) := by decide +kernel
theorem dL_act_464 : decode cL_act 464 = .ok (.iload_n 3, 1) := by decide +kernel
theorem dL_act_465 : decode cL_act 465 = .ok (.iload 6, 2) := by decide +kernel
theorem dL_act_467 : decode cL_act 467 = .ok (.invokevirtual 60, 3) := by decide +kernel
theorem dL_act_470 : decode cL_act 470 = .ok (.iload 5, 2) := by decide +kernel
theorem dL_act_472 : decode cL_act 472 = .ok (.if_icmp .ne 12, 3) := by decide +kernel
theorem dL_act_475 : decode cL_act 475 = .ok (.iload 4, 2) := by decide +kernel
theorem dL_act_477 : decode cL_act 477 = .ok (.ifCond .eq 7, 3) := by decide +kernel
theorem dL_act_480 : decode cL_act 480 = .ok (.iconst 1, 1) := by decide +kernel
theorem dL_act_481 : decode cL_act 481 = .ok (.goto 4, 3) := by decide +kernel
theorem dL_act_484 : decode cL_act 484 = .ok (.iconst 0, 1) := by decide +kernel
theorem dL_act_485 : decode cL_act 485 = .ok (.ireturn, 1) := by decide +kernel
theorem dL_act_486 : decode cL_act 486 = .ok (.astore 5, 2) := by decide +kernel
theorem dL_act_488 : decode cL_act 488 = .ok (.iload 4, 2) := by decide +kernel
theorem dL_act_490 : decode cL_act 490 = .ok (.ifCond .ne 7, 3) := by decide +kernel
theorem dL_act_493 : decode cL_act 493 = .ok (.iconst 1, 1) := by decide +kernel
theorem dL_act_494 : decode cL_act 494 = .ok (.goto 4, 3) := by decide +kernel
theorem dL_act_497 : decode cL_act 497 = .ok (.iconst 0, 1) := by decide +kernel
theorem dL_act_498 : decode cL_act 498 = .ok (.ireturn, 1) := by decide +kernel
set_option maxRecDepth 20000 in
theorem ggL_build_X2_init : GoodIn wsL_build wsX2_init := goodIn_r _ [5, 6, 7, 8, 9, 10, 11, 12, 13, 209, 210, 211, 212] (by decide +kernel) (by decide +kernel)
set_option maxRecDepth 20000 in
theorem gL_build_X2_init_n64 : GoodIn wsL_build (wsX2_init) := ggL_build_X2_init
set_option maxRecDepth 20000 in
theorem ggL_build_L_cell : GoodIn wsL_build wsL_cell := goodIn_r _ [17, 18] (by decide +kernel) (by decide +kernel)
set_option maxRecDepth 20000 in
theorem gL_build_L_cell : GoodIn wsL_build (va_wsS RL 65 yL_cell wsL_cell) := goodIn_app (goodIn_of _ (by decide +kernel)) ggL_build_L_cell
set_option maxRecDepth 20000 in
theorem ggL_build_L_below : GoodIn wsL_build wsL_below := goodIn_r _ [21, 22] (by decide +kernel) (by decide +kernel)
set_option maxRecDepth 20000 in
theorem gL_build_L_below : GoodIn wsL_build (va_wsS RL 9 yL_below wsL_below) := goodIn_app (goodIn_of _ (by decide +kernel)) ggL_build_L_below
set_option maxRecDepth 20000 in
theorem ggL_build_L_act_c1 : GoodIn wsL_build wsL_act_r1 := goodIn_r _ [26, 27, 28, 29, 30, 19, 20, 16, 21, 22, 31, 32, 33, 3, 34, 10, 11, 35, 36, 37, 38, 39, 2, 40] (by decide +kernel) (by decide +kernel)
set_option maxRecDepth 20000 in
theorem ggL_build_L_act_c2 : GoodIn wsL_build wsL_act_r2 := goodIn_r _ [9, 12, 13, 41, 4, 5, 6, 7, 8, 42, 43, 44, 45, 46, 47, 48, 49, 50, 51, 52, 53, 54, 55, 56] (by decide +kernel) (by decide +kernel)
set_option maxRecDepth 20000 in
theorem ggL_build_L_act_c3 : GoodIn wsL_build wsL_act_r3 := goodIn_r _ [57, 58, 59, 60, 61, 62, 63, 64, 65, 66, 67, 68, 69, 70, 71, 72, 73, 74, 75, 76, 77, 78, 79, 80] (by decide +kernel) (by decide +kernel)
set_option maxRecDepth 20000 in
theorem ggL_build_L_act_c4 : GoodIn wsL_build wsL_act_r4 := goodIn_r _ [81, 82, 83, 84, 85, 86, 87, 88, 89, 90, 91, 92, 93, 94, 95, 96, 97, 98, 99, 100, 101, 102, 103, 104] (by decide +kernel) (by decide +kernel)
set_option maxRecDepth 20000 in
theorem ggL_build_L_act_c5 : GoodIn wsL_build wsL_act_r5 := goodIn_r _ [105, 106, 107, 108, 109, 110, 111, 112, 113, 114, 115, 116, 117, 118, 119, 120, 121, 122, 123, 124, 125, 126, 127, 128] (by decide +kernel) (by decide +kernel)
set_option maxRecDepth 20000 in
theorem ggL_build_L_act_c6 : GoodIn wsL_build wsL_act_r6 := goodIn_r _ [129, 130, 131, 132, 133, 134, 135, 136, 137, 138, 139, 140, 141, 142, 143, 144, 145, 146, 147, 148, 149, 150, 151, 152] (by decide +kernel) (by decide +kernel)
set_option maxRecDepth 20000 in
theorem ggL_build_L_act_c7 : GoodIn wsL_build wsL_act_r7 := goodIn_r _ [153, 154, 155, 156, 157, 158, 159, 160, 161, 162, 163, 164, 165, 166, 167, 168, 169, 170, 171, 172, 173, 174, 175, 176] (by decide +kernel) (by decide +kernel)
set_option maxRecDepth 20000 in
theorem ggL_build_L_act_c8 : GoodIn wsL_build wsL_act_r8 := goodIn_r _ [177, 178, 179, 180, 181, 182, 183, 184, 185, 186, 187, 188, 189, 190, 191, 192, 193, 194, 195, 196, 197, 198, 199, 200] (by decide +kernel) (by decide +kernel)
set_option maxRecDepth 20000 in
theorem ggL_build_L_act_c9 : GoodIn wsL_build wsL_act_r9 := goodIn_r _ [201, 202, 203, 204, 205, 206, 207, 208] (by decide +kernel) (by decide +kernel)
set_option maxRecDepth 20000 in
theorem ggL_build_L_act_c10 : GoodIn wsL_build wsX20 := goodIn_r _ [209, 210, 211, 212] (by decide +kernel) (by decide +kernel)
set_option maxRecDepth 20000 in
theorem ggL_build_L_act_c11 : GoodIn wsL_build wsX10 := goodIn_r _ [213, 214] (by decide +kernel) (by decide +kernel)
set_option maxRecDepth 20000 in
theorem ggL_build_L_act_c12 : GoodIn wsL_build wsX00 := goodIn_r _ [215, 216, 217, 218] (by decide +kernel) (by decide +kernel)
set_option maxRecDepth 20000 in
theorem ggL_build_L_act_c0 : GoodIn wsL_build [Cond.codeWith yL_act cL_act 10 (some .boolean) [(46, 267, 486, 62), (268, 279, 486, 62), (280, 296, 486, 62), (297, 417, 486, 62), (418, 485, 486, 62)]] := goodIn_r _ [25] (by decide +kernel) (by decide +kernel)
set_option maxRecDepth 20000 in
theorem ggL_build_L_act : GoodIn wsL_build wsL_act := goodIn_ca (goodIn_ca (goodIn_k ggL_build_L_act_c0 (goodIn_app (goodIn_app (goodIn_app (goodIn_app ggL_build_L_act_c1 (goodIn_app ggL_build_L_act_c2 (goodIn_app ggL_build_L_act_c3 (goodIn_app ggL_build_L_act_c4 (goodIn_app ggL_build_L_act_c5 (goodIn_app ggL_build_L_act_c6 (goodIn_app ggL_build_L_act_c7 (goodIn_app ggL_build_L_act_c8 ggL_build_L_act_c9)))))))) ggL_build_L_act_c10) ggL_build_L_act_c11) ggL_build_L_act_c12)) (goodIn_sub (fun _ h => List.mem_cons_of_mem _ (List.mem_append_left _ (List.mem_append_right _ h))) (by decide +kernel))) (goodIn_sub (fun _ h => List.mem_cons_of_mem _ (List.mem_append_right _ h)) (by decide +kernel))
set_option maxRecDepth 20000 in
theorem gL_build_L_act : GoodIn wsL_build (va_wsS RL 69 yL_act wsL_act) := goodIn_app (goodIn_of _ (by decide +kernel)) ggL_build_L_act
theorem dL_build_0 : decode cL_build 0 = .ok (.new 16, 3) := by decide +kernel
theorem dL_build_3 : decode cL_build 3 = .ok (.dup, 1) := by decide +kernel
theorem dL_build_4 : decode cL_build 4 = .ok (.invokespecial 64, 3) := by decide +kernel
theorem dL_build_7 : decode cL_build 7 = .ok (.astore_n 2, 1) := by decide +kernel
theorem dL_build_8 : decode cL_build 8 = .ok (.iconst 3, 1) := by decide +kernel
theorem dL_build_9 : decode cL_build 9 = .ok (.aload_n 1, 1) := by decide +kernel
theorem dL_build_10 : decode cL_build 10 = .ok (.iconst 0, 1) := by decide +kernel
theorem dL_build_11 : decode cL_build 11 = .ok (.invokestatic 65, 3) := by decide +kernel
theorem dL_build_14 : decode cL_build 14 = .ok (.bipush 40, 2) := by decide +kernel
theorem dL_build_16 : decode cL_build 16 = .ok (.invokestatic 9, 3) := by decide +kernel
theorem dL_build_19 : decode cL_build 19 = .ok (.iadd, 1) := by decide +kernel
theorem dL_build_20 : decode cL_build 20 = .ok (.istore_n 3, 1) := by decide +kernel
theorem dL_build_21 : decode cL_build 21 = .ok (.iconst 0, 1) := by decide +kernel
theorem dL_build_22 : decode cL_build 22 = .ok (.istore 4, 2) := by decide +kernel
theorem dL_build_24 : decode cL_build 24 = .ok (.iload 4, 2) := by decide +kernel
theorem dL_build_26 : decode cL_build 26 = .ok (.iload_n 3, 1) := by decide +kernel
theorem dL_build_27 : decode cL_build 27 = .ok (.if_icmp .ge 44, 3) := by decide +kernel
theorem dL_build_30 : decode cL_build 30 = .ok (.aload_n 0, 1) := by decide +kernel
theorem dL_build_31 : decode cL_build 31 = .ok (.aload_n 2, 1) := by decide +kernel
theorem dL_build_32 : decode cL_build 32 = .ok (.aload_n 1, 1) := by decide +kernel
theorem dL_build_33 : decode cL_build 33 = .ok (.iconst 1, 1) := by decide +kernel
theorem dL_build_34 : decode cL_build 34 = .ok (.iload 4, 2) := by decide +kernel
theorem dL_build_36 : decode cL_build 36 = .ok (.bipush 15, 2) := by decide +kernel
theorem dL_build_38 : decode cL_build 38 = .ok (.irem, 1) := by decide +kernel
theorem dL_build_39 : decode cL_build 39 = .ok (.iadd, 1) := by decide +kernel
theorem dL_build_40 : decode cL_build 40 = .ok (.invokestatic 65, 3) := by decide +kernel
theorem dL_build_43 : decode cL_build 43 = .ok (.iload 4, 2) := by decide +kernel
theorem dL_build_45 : decode cL_build 45 = .ok (.bipush 15, 2) := by decide +kernel
theorem dL_build_47 : decode cL_build 47 = .ok (.idiv, 1) := by decide +kernel
theorem dL_build_48 : decode cL_build 48 = .ok (.iconst 3, 1) := by decide +kernel
theorem dL_build_49 : decode cL_build 49 = .ok (.imul, 1) := by decide +kernel
theorem dL_build_50 : decode cL_build 50 = .ok (.ishr, 1) := by decide +kernel
theorem dL_build_51 : decode cL_build 51 = .ok (.bipush 41, 2) := by decide +kernel
theorem dL_build_53 : decode cL_build 53 = .ok (.iload 4, 2) := by decide +kernel
theorem dL_build_55 : decode cL_build 55 = .ok (.imul, 1) := by decide +kernel
theorem dL_build_56 : decode cL_build 56 = .ok (.iadd, 1) := by decide +kernel
