/-! the law's words by their places in the tables -/
theorem mem_pos {big : List Cond} (ws : List Cond) (ps : List Nat) (hp : ws = ps.filterMap (fun i => big[i]?)) : ∀ w ∈ ws, w ∈ big := by
  intro w hw
  rw [hp] at hw
  obtain ⟨i, -, hi⟩ := List.mem_filterMap.mp hw
  exact List.mem_of_getElem? hi
theorem mem_app {big a b : List Cond} (ha : ∀ w ∈ a, w ∈ big) (hb : ∀ w ∈ b, w ∈ big) : ∀ w ∈ a ++ b, w ∈ big := fun w h => (List.mem_append.mp h).elim (ha w) (hb w)
theorem wsL_c1 : ∀ w ∈ wsL_law0_r1, w ∈ lw_tbl := mem_pos _ [22, 23, 12, 546, 481, 21, 482, 417, 419, 421, 423, 24, 25, 26, 27, 28, 29, 30, 31, 13, 58, 59, 32, 33] (by decide +kernel)
theorem wsL_c2 : ∀ w ∈ wsL_law0_r2, w ∈ lw_tbl := mem_pos _ [34, 35, 57, 44, 45, 36, 37, 38, 39, 46, 47, 40, 41, 42, 43, 541, 542, 11, 543, 544, 411, 14, 413, 414] (by decide +kernel)
theorem wsL_c3 : ∀ w ∈ wsL_law0_r3, w ∈ lw_tbl := mem_pos _ [415, 418, 420, 433, 422, 515, 516, 517, 518, 511, 512, 513, 514, 519, 520, 521, 522, 402, 403, 404, 405, 406, 407, 408] (by decide +kernel)
theorem wsL_c4 : ∀ w ∈ wsL_law0_r4, w ∈ lw_tbl := mem_pos _ [409, 410, 416, 412, 434, 435, 436, 437, 438, 399, 400, 401, 439, 440, 441, 442, 443, 444, 445, 446, 447, 448, 449, 450] (by decide +kernel)
theorem wsL_c5 : ∀ w ∈ wsL_law0_r5, w ∈ lw_tbl := mem_pos _ [451, 452, 453, 454, 65, 66, 67, 68, 175, 19, 69, 70, 71, 72, 18, 141, 143, 1, 144, 145, 146, 147, 148, 149] (by decide +kernel)
theorem wsL_c6 : ∀ w ∈ wsL_law0_r6, w ∈ lw_tbl := mem_pos _ [150, 151, 152, 153, 154, 156, 2, 157, 158, 159, 160, 161, 162, 163, 164, 165, 166, 167, 168, 169, 170, 171, 172, 173] (by decide +kernel)
theorem wsL_c7 : ∀ w ∈ wsL_law0_r7, w ∈ lw_tbl := mem_pos _ [174, 191, 193, 3, 194, 195, 197, 4, 198, 199, 200, 201, 202, 203, 204, 205, 206, 207, 208, 209, 210, 211, 212, 213] (by decide +kernel)
theorem wsL_c8 : ∀ w ∈ wsL_law0_r8, w ∈ lw_tbl := mem_pos _ [214, 215, 216, 217, 218, 219, 220, 221, 222, 223, 225, 5, 226, 227, 229, 6, 230, 464, 465, 466, 467, 468, 469, 470] (by decide +kernel)
theorem wsL_c9 : ∀ w ∈ wsL_law0_r9, w ∈ lw_tbl := mem_pos _ [471, 523, 489, 490, 491, 524, 525, 526, 527, 293, 294, 295, 297, 298, 299, 300, 529, 530, 531, 532, 533, 534, 535, 536] (by decide +kernel)
theorem wsL_c10 : ∀ w ∈ wsL_law0_r10, w ∈ lw_tbl := mem_pos _ [537, 538, 310, 311, 312, 313, 314, 316, 8, 317, 318, 387, 388, 389, 390, 391, 392, 284, 285, 286, 287, 288, 393, 394] (by decide +kernel)
theorem wsL_c11 : ∀ w ∈ wsL_law0_r11, w ∈ lw_tbl := mem_pos _ [395, 396, 329, 330, 331, 332, 337, 338, 339, 340, 345, 346, 347, 348, 353, 354, 355, 356, 357, 358, 359, 360, 397, 375] (by decide +kernel)
theorem wsL_c12 : ∀ w ∈ wsL_law0_r12, w ∈ lw_tbl := mem_pos _ [376, 377, 370, 372, 9, 373, 383, 385, 10, 386, 271, 365, 305, 231, 232, 233, 234, 247, 248, 249, 250, 251, 253, 7] (by decide +kernel)
theorem wsL_c13 : ∀ w ∈ wsL_law0_r13, w ∈ lw_tbl := mem_pos _ [254, 255, 20, 272, 273, 274, 275, 361, 362, 363, 364, 276, 277, 278, 279, 349, 350, 351, 352, 301, 302, 303, 304, 289] (by decide +kernel)
theorem wsL_c14 : ∀ w ∈ wsL_law0_r14, w ∈ lw_tbl := mem_pos _ [290, 291, 292, 319, 320, 321, 322, 324, 306, 307, 308, 309, 239, 240, 241, 242, 243, 244, 245, 246, 325, 326, 327, 328] (by decide +kernel)
theorem wsL_c15 : ∀ w ∈ wsL_law0_r15, w ∈ lw_tbl := mem_pos _ [333, 334, 335, 336, 341, 342, 343, 344, 398, 366, 367, 368, 369, 374, 378, 379, 380, 381, 455, 456, 457, 458, 459, 460] (by decide +kernel)
theorem wsL_c16 : ∀ w ∈ wsL_law0_r16, w ∈ lw_tbl := mem_pos _ [461, 462, 463, 235, 236, 237, 238, 280, 281, 282, 283, 472, 473, 474, 475, 480, 476, 477, 478, 479, 483, 484, 485, 486] (by decide +kernel)
theorem wsL_c17 : ∀ w ∈ wsL_law0_r17, w ∈ lw_tbl := mem_pos _ [487, 488, 492, 493, 494, 495, 496, 497, 498, 499, 500, 501, 502, 503, 504, 505, 506, 507, 508, 509, 510] (by decide +kernel)
theorem wsX1_c : ∀ w ∈ wsX10, w ∈ lw_tbl := mem_pos _ [60, 62] (by decide +kernel)
theorem wsX2_c : ∀ w ∈ wsX20, w ∈ lw_tbl := mem_pos _ [424, 426, 428, 430] (by decide +kernel)
theorem wsX0_c : ∀ w ∈ wsX00, w ∈ lw_tbl := mem_pos _ [48, 50, 52, 54] (by decide +kernel)
theorem wsL_law_in0 : ∀ w ∈ wsL_law0, w ∈ lw_tbl := mem_app (mem_app (mem_app (mem_app (mem_app wsL_c1 (mem_app wsL_c2 (mem_app wsL_c3 (mem_app wsL_c4 (mem_app wsL_c5 (mem_app wsL_c6 (mem_app wsL_c7 (mem_app wsL_c8 (mem_app wsL_c9 (mem_app wsL_c10 (mem_app wsL_c11 (mem_app wsL_c12 (mem_app wsL_c13 (mem_app wsL_c14 (mem_app wsL_c15 (mem_app wsL_c16 wsL_c17)))))))))))))))) wsX1_c) wsX2_c) wsX0_c) (fun _ h => absurd h List.not_mem_nil)
theorem wsL_law_x0 : ∀ w ∈ (vx_atS RX1 38 "java/lang/IllegalStateException" ["java/lang/RuntimeException", "java/lang/Exception"]).filter goodWord, w ∈ lw_tbl := by decide +kernel
theorem wsL_law_x1 : ∀ w ∈ (vx_atS RX1 27 "java/lang/IllegalArgumentException" ["java/lang/RuntimeException", "java/lang/Exception"]).filter goodWord, w ∈ lw_tbl := by decide +kernel
theorem wsL_law_x2 : ∀ w ∈ (vx_atS RX1 150 "java/lang/IndexOutOfBoundsException" ["java/lang/RuntimeException", "java/lang/Exception"]).filter goodWord, w ∈ lw_tbl := by decide +kernel
theorem wsL_law_in : ∀ w ∈ wsL_law, w ∈ lw_tbl := fun w h => (List.mem_append.mp h).elim (fun h => (List.mem_append.mp h).elim (fun h => (List.mem_append.mp h).elim (fun h => wsL_law_in0 w h) (fun h => wsL_law_x0 w h)) (fun h => wsL_law_x1 w h)) (fun h => wsL_law_x2 w h)
theorem inlX0 : ∀ w ∈ wsX00, w ∈ wsL_law := fun _ h => List.mem_append_left _ (List.mem_append_left _ (List.mem_append_left _ (List.mem_append_left _ (List.mem_append_right _ h))))
theorem inX0 : ∀ w ∈ wsX00, w ∈ lw_tbl := fun w h => wsL_law_in w (inlX0 w h)
theorem inlX1 : ∀ w ∈ wsX10, w ∈ wsL_law := fun _ h => List.mem_append_left _ (List.mem_append_left _ (List.mem_append_left _ (List.mem_append_left _ (List.mem_append_left _ (List.mem_append_left _ (List.mem_append_right _ h))))))
theorem inX1 : ∀ w ∈ wsX10, w ∈ lw_tbl := fun w h => wsL_law_in w (inlX1 w h)
theorem inlX2 : ∀ w ∈ wsX20, w ∈ wsL_law := fun _ h => List.mem_append_left _ (List.mem_append_left _ (List.mem_append_left _ (List.mem_append_left _ (List.mem_append_left _ (List.mem_append_right _ h)))))
theorem inX2 : ∀ w ∈ wsX20, w ∈ lw_tbl := fun w h => wsL_law_in w (inlX2 w h)
theorem inX3 : ∀ w ∈ wsX30, w ∈ lw_tbl := by decide +kernel
theorem inJ9 : ∀ w ∈ wsJ90, w ∈ lw_tbl := by decide +kernel
theorem inJ0 : ∀ w ∈ wsJ00, w ∈ lw_tbl := by decide +kernel
