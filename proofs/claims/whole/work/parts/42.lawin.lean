theorem mem_pos {big : List Cond} (ws : List Cond) (ps : List Nat) (hp : ws = ps.filterMap (fun i => big[i]?)) : ∀ w ∈ ws, w ∈ big := by
  intro w hw
  rw [hp] at hw
  obtain ⟨i, -, hi⟩ := List.mem_filterMap.mp hw
  exact List.mem_of_getElem? hi
theorem mem_app {big a b : List Cond} (ha : ∀ w ∈ a, w ∈ big) (hb : ∀ w ∈ b, w ∈ big) : ∀ w ∈ a ++ b, w ∈ big := fun w h => (List.mem_append.mp h).elim (ha w) (hb w)
theorem wsL_c1 : ∀ w ∈ wsL_law0_r1, w ∈ lw_tbl := mem_pos _ [47, 48, 37, 488, 489, 39, 757, 49, 50, 51, 52, 53, 54, 55, 56, 38, 83, 84, 57, 58, 59, 60, 82, 69] (by decide +kernel)
theorem wsL_c2 : ∀ w ∈ wsL_law0_r2, w ∈ lw_tbl := mem_pos _ [70, 61, 62, 63, 64, 71, 72, 65, 66, 67, 68, 490, 491, 492, 493, 498, 500, 501, 502, 503, 494, 495, 496, 251] (by decide +kernel)
theorem wsL_c3 : ∀ w ∈ wsL_law0_r3, w ∈ lw_tbl := mem_pos _ [252, 36, 253, 254, 255, 256, 257, 258, 259, 263, 43, 341, 44, 260, 261, 262, 332, 333, 334, 335, 336, 338, 7, 339] (by decide +kernel)
theorem wsL_c4 : ∀ w ∈ wsL_law0_r4, w ∈ lw_tbl := mem_pos _ [102, 104, 0, 105, 340, 228, 229, 230, 174, 175, 176, 177, 178, 179, 180, 181, 232, 535, 536, 537, 538, 497, 539, 540] (by decide +kernel)
theorem wsL_c5 : ∀ w ∈ wsL_law0_r5, w ∈ lw_tbl := mem_pos _ [541, 542, 543, 544, 545, 547, 11, 548, 549, 551, 12, 552, 507, 506, 553, 555, 13, 556, 557, 559, 14, 560, 499, 561] (by decide +kernel)
theorem wsL_c6 : ∀ w ∈ wsL_law0_r6, w ∈ lw_tbl := mem_pos _ [563, 15, 564, 504, 505, 565, 567, 16, 568, 531, 532, 533, 534, 357, 358, 359, 360, 361, 362, 363, 364, 365, 366, 367] (by decide +kernel)
theorem wsL_c7 : ∀ w ∈ wsL_law0_r7, w ∈ lw_tbl := mem_pos _ [231, 155, 156, 157, 369, 370, 371, 372, 569, 570, 571, 572, 373, 374, 375, 376, 377, 378, 379, 380, 381, 382, 218, 220] (by decide +kernel)
theorem wsL_c8 : ∀ w ∈ wsL_law0_r8, w ∈ lw_tbl := mem_pos _ [4, 221, 222, 106, 107, 108, 109, 223, 224, 225, 226, 227, 386, 388, 8, 389, 390, 392, 9, 393, 134, 135, 136, 137] (by decide +kernel)
theorem wsL_c9 : ∀ w ∈ wsL_law0_r9, w ∈ lw_tbl := mem_pos _ [573, 574, 575, 576, 577, 579, 17, 580, 581, 583, 18, 584, 90, 91, 92, 93, 94, 95, 96, 97, 98, 99, 100, 101] (by decide +kernel)
theorem wsL_c10 : ∀ w ∈ wsL_law0_r10, w ∈ lw_tbl := mem_pos _ [110, 111, 112, 113, 114, 115, 116, 117, 118, 120, 1, 121, 122, 124, 2, 125, 585, 586, 587, 588, 589, 591, 19, 592] (by decide +kernel)
theorem wsL_c11 : ∀ w ∈ wsL_law0_r11, w ∈ lw_tbl := mem_pos _ [126, 127, 128, 129, 593, 594, 595, 596, 597, 599, 20, 600, 130, 131, 132, 133, 601, 602, 603, 604, 138, 139, 140, 141] (by decide +kernel)
theorem wsL_c12 : ∀ w ∈ wsL_law0_r12, w ∈ lw_tbl := mem_pos _ [605, 606, 607, 608, 609, 611, 21, 612, 142, 143, 144, 145, 613, 614, 615, 616, 394, 395, 396, 397, 398, 399, 400, 401] (by decide +kernel)
theorem wsL_c13 : ∀ w ∈ wsL_law0_r13, w ∈ lw_tbl := mem_pos _ [402, 404, 10, 405, 406, 45, 248, 617, 618, 619, 620, 621, 623, 22, 624, 625, 627, 23, 628, 422, 423, 424, 425, 426] (by decide +kernel)
theorem wsL_c14 : ∀ w ∈ wsL_law0_r14, w ∈ lw_tbl := mem_pos _ [427, 428, 629, 630, 631, 632, 633, 635, 24, 636, 637, 638, 46, 639, 429, 430, 431, 432, 433, 434, 435, 640, 641, 642] (by decide +kernel)
theorem wsL_c15 : ∀ w ∈ wsL_law0_r15, w ∈ lw_tbl := mem_pos _ [643, 644, 646, 25, 647, 146, 147, 148, 149, 150, 151, 152, 153, 154, 648, 649, 650, 651, 652, 654, 26, 655, 158, 159] (by decide +kernel)
theorem wsL_c16 : ∀ w ∈ wsL_law0_r16, w ∈ lw_tbl := mem_pos _ [160, 161, 162, 163, 164, 165, 656, 657, 658, 659, 660, 662, 27, 663, 436, 437, 438, 439, 440, 441, 442, 664, 665, 666] (by decide +kernel)
theorem wsL_c17 : ∀ w ∈ wsL_law0_r17, w ∈ lw_tbl := mem_pos _ [667, 443, 444, 445, 446, 447, 448, 449, 250, 668, 669, 670, 671, 672, 674, 28, 675, 450, 451, 452, 453, 454, 455, 456] (by decide +kernel)
theorem wsL_c18 : ∀ w ∈ wsL_law0_r18, w ∈ lw_tbl := mem_pos _ [676, 677, 678, 679, 457, 458, 459, 460, 461, 462, 463, 465, 680, 681, 682, 683, 166, 167, 168, 169, 170, 171, 172, 173] (by decide +kernel)
theorem wsL_c19 : ∀ w ∈ wsL_law0_r19, w ∈ lw_tbl := mem_pos _ [684, 685, 686, 687, 688, 690, 29, 691, 182, 183, 184, 185, 186, 187, 188, 189, 692, 693, 694, 695, 696, 698, 30, 699] (by decide +kernel)
theorem wsL_c20 : ∀ w ∈ wsL_law0_r20, w ∈ lw_tbl := mem_pos _ [190, 191, 192, 193, 194, 195, 196, 197, 700, 701, 702, 703, 704, 706, 31, 707, 198, 199, 200, 201, 202, 203, 204, 205] (by decide +kernel)
theorem wsL_c21 : ∀ w ∈ wsL_law0_r21, w ∈ lw_tbl := mem_pos _ [206, 207, 208, 209, 708, 709, 710, 711, 712, 714, 32, 715, 716, 718, 33, 719, 720, 721, 722, 466, 467, 468, 469, 470] (by decide +kernel)
theorem wsL_c22 : ∀ w ∈ wsL_law0_r22, w ∈ lw_tbl := mem_pos _ [471, 472, 249, 723, 724, 725, 726, 473, 474, 475, 476, 477, 478, 479, 214, 216, 3, 217, 727, 728, 729, 730, 210, 211] (by decide +kernel)
theorem wsL_c23 : ∀ w ∈ wsL_law0_r23, w ∈ lw_tbl := mem_pos _ [212, 213, 731, 732, 733, 734, 735, 737, 34, 738, 480, 481, 482, 483, 484, 485, 486, 244, 246, 5, 247, 739, 740, 741] (by decide +kernel)
theorem wsL_c24 : ∀ w ∈ wsL_law0_r24, w ∈ lw_tbl := mem_pos _ [742, 743, 745, 35, 746, 233, 234, 235, 236, 747, 748, 749, 750, 237, 238, 239, 240, 241, 242, 243, 751, 752, 753, 754] (by decide +kernel)
theorem wsL_c25 : ∀ w ∈ wsL_law0_r25, w ∈ lw_tbl := mem_pos _ [755, 756] (by decide +kernel)
theorem wsX1_c : ∀ w ∈ wsX10, w ∈ lw_tbl := mem_pos _ [85, 87] (by decide +kernel)
theorem wsX2_c : ∀ w ∈ wsX20, w ∈ lw_tbl := mem_pos _ [508, 510, 512, 514, 516, 518, 520, 522, 524, 526, 528] (by decide +kernel)
theorem wsX0_c : ∀ w ∈ wsX00, w ∈ lw_tbl := mem_pos _ [73, 75, 77, 79] (by decide +kernel)
theorem wsL_law_in0 : ∀ w ∈ wsL_law0, w ∈ lw_tbl := mem_app (mem_app (mem_app (mem_app (mem_app wsL_c1 (mem_app wsL_c2 (mem_app wsL_c3 (mem_app wsL_c4 (mem_app wsL_c5 (mem_app wsL_c6 (mem_app wsL_c7 (mem_app wsL_c8 (mem_app wsL_c9 (mem_app wsL_c10 (mem_app wsL_c11 (mem_app wsL_c12 (mem_app wsL_c13 (mem_app wsL_c14 (mem_app wsL_c15 (mem_app wsL_c16 (mem_app wsL_c17 (mem_app wsL_c18 (mem_app wsL_c19 (mem_app wsL_c20 (mem_app wsL_c21 (mem_app wsL_c22 (mem_app wsL_c23 (mem_app wsL_c24 wsL_c25)))))))))))))))))))))))) wsX1_c) wsX2_c) wsX0_c) (fun _ h => absurd h List.not_mem_nil)
theorem wsL_law_x0 : ∀ w ∈ (vx_atS RX1 27 "java/lang/IllegalArgumentException" ["java/lang/RuntimeException", "java/lang/Exception"]).filter goodWord, w ∈ lw_tbl := by decide +kernel
theorem wsL_law_x1 : ∀ w ∈ (vx_atS RX1 38 "java/lang/IllegalStateException" ["java/lang/RuntimeException", "java/lang/Exception"]).filter goodWord, w ∈ lw_tbl := by decide +kernel
theorem wsL_law_x2 : ∀ w ∈ (vx_atS RX1 150 "java/lang/IndexOutOfBoundsException" ["java/lang/RuntimeException", "java/lang/Exception"]).filter goodWord, w ∈ lw_tbl := by decide +kernel
theorem wsL_law_in : ∀ w ∈ wsL_law, w ∈ lw_tbl := fun w h => (List.mem_append.mp h).elim (fun h => (List.mem_append.mp h).elim (fun h => (List.mem_append.mp h).elim (fun h => wsL_law_in0 w h) (fun h => wsL_law_x0 w h)) (fun h => wsL_law_x1 w h)) (fun h => wsL_law_x2 w h)
theorem inlX0 : ∀ w ∈ wsX00, w ∈ wsL_law := fun _ h => List.mem_append_left _ (List.mem_append_left _ (List.mem_append_left _ (List.mem_append_left _ (List.mem_append_right _ h))))
theorem inX0 : ∀ w ∈ wsX00, w ∈ lw_tbl := fun w h => wsL_law_in w (inlX0 w h)
theorem inlX1 : ∀ w ∈ wsX10, w ∈ wsL_law := fun _ h => List.mem_append_left _ (List.mem_append_left _ (List.mem_append_left _ (List.mem_append_left _ (List.mem_append_left _ (List.mem_append_left _ (List.mem_append_right _ h))))))
theorem inX1 : ∀ w ∈ wsX10, w ∈ lw_tbl := fun w h => wsL_law_in w (inlX1 w h)
theorem inlX2 : ∀ w ∈ wsX20, w ∈ wsL_law := fun _ h => List.mem_append_left _ (List.mem_append_left _ (List.mem_append_left _ (List.mem_append_left _ (List.mem_append_left _ (List.mem_append_right _ h)))))
theorem inX2 : ∀ w ∈ wsX20, w ∈ lw_tbl := fun w h => wsL_law_in w (inlX2 w h)
theorem inJ9 : ∀ w ∈ wsJ90, w ∈ lw_tbl := by decide +kernel
theorem inJ0 : ∀ w ∈ wsJ00, w ∈ lw_tbl := by decide +kernel
