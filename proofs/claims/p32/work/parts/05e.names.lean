theorem dL_isLike_53 : decode cL_isLike 53 = .ok (.istore 4, 2) := by decide +kernel
theorem dL_isLike_55 : decode cL_isLike 55 = .ok (.iinc 5 1, 3) := by decide +kernel
theorem dL_isLike_58 : decode cL_isLike 58 = .ok (.goto (-52), 3) := by decide +kernel
theorem dL_isLike_61 : decode cL_isLike 61 = .ok (.iload 4, 2) := by decide +kernel
theorem dL_isLike_63 : decode cL_isLike 63 = .ok (.ireturn, 1) := by decide +kernel
set_option maxRecDepth 20000 in
theorem ggL_matrices_L_draw : GoodIn wsL_matrices wsL_draw := goodIn_r _ [5, 6, 7, 8] (by decide +kernel) (by decide +kernel)
set_option maxRecDepth 20000 in
theorem gL_matrices_L_draw : GoodIn wsL_matrices (va_wsS RL 94 yL_draw wsL_draw) := goodIn_app (goodIn_of _ (by decide +kernel)) ggL_matrices_L_draw
set_option maxRecDepth 20000 in
theorem ggL_matrices_L_fills : GoodIn wsL_matrices wsL_fills := goodIn_ca (goodIn_ca (goodIn_r _ [11, 12, 1, 13, 14, 15, 16, 17, 18, 19, 20, 21, 22, 23, 24, 25, 26, 27, 28, 29, 30, 31, 32, 33, 34, 35, 36, 37, 38, 39, 40, 41, 42, 43, 2, 3, 4, 5, 6, 7, 8, 44, 45, 46, 47, 48, 49, 50, 51, 52, 53, 54, 55, 419, 420, 421, 422, 423, 424, 425, 426, 427, 428, 429, 430] (by decide +kernel) (by decide +kernel)) (goodIn_sub (fun _ h => List.mem_cons_of_mem _ (List.mem_append_left _ (List.mem_append_left _ (List.mem_append_right _ h)))) (by decide +kernel))) (goodIn_sub (fun _ h => List.mem_cons_of_mem _ (List.mem_append_left _ (List.mem_append_right _ h))) (by decide +kernel))
set_option maxRecDepth 20000 in
theorem gL_matrices_L_fills : GoodIn wsL_matrices (va_wsS RL 104 yL_fills wsL_fills) := goodIn_app (goodIn_of _ (by decide +kernel)) ggL_matrices_L_fills
set_option maxRecDepth 20000 in
theorem ggL_matrices_X5_determinant : GoodIn wsL_matrices wsX5_determinant := goodIn_ca (goodIn_r _ [59, 60, 18, 19, 20, 16, 21, 22, 23, 24, 25, 26, 61, 62, 63, 64, 65, 66, 67, 68, 69, 70, 71, 72, 73, 74, 75, 76, 77, 78, 79, 80, 81, 82, 83, 84, 85, 55, 419, 420, 421, 422, 423, 424, 425, 426, 427, 428, 431, 432, 429, 430] (by decide +kernel) (by decide +kernel)) (goodIn_sub (fun _ h => List.mem_cons_of_mem _ (List.mem_append_left _ (List.mem_append_left _ (List.mem_append_right _ h)))) (by decide +kernel))
set_option maxRecDepth 20000 in
theorem gL_matrices_X5_determinant : GoodIn wsL_matrices (wsV RL 108 RX5 yX5_determinant wsX5_determinant) := goodIn_app (goodIn_of _ (by decide +kernel)) ggL_matrices_X5_determinant
set_option maxRecDepth 20000 in
theorem ggL_matrices_L_asks : GoodIn wsL_matrices wsL_asks := goodIn_ca (goodIn_ca (goodIn_ca (goodIn_r _ [88, 89, 90, 91, 92, 93, 94, 95, 16, 96, 97, 98, 99, 100, 19, 20, 21, 22, 23, 24, 25, 26, 101, 102, 103, 104, 105, 106, 107, 108, 109, 110, 111, 112, 113, 114, 115, 116, 117, 118, 119, 84, 85, 55, 120, 121, 122, 123, 124, 125, 126, 127, 128, 129, 130, 131, 132, 133, 134, 135, 136, 137, 138, 139, 140, 141, 18, 142, 143, 144, 145, 35, 146, 37, 39, 38, 147, 148, 149, 150, 151, 152, 153, 154, 155, 156, 157, 158, 159, 160, 161, 162, 163, 164, 165, 166, 167, 168, 169, 170, 171, 172, 173, 174, 175, 176, 177, 178, 179, 180, 181, 182, 183, 184, 185, 186, 187, 188, 189, 190, 191, 192, 193, 194, 195, 196, 197, 198, 199, 200, 201, 202, 203, 204, 205, 206, 207, 208, 209, 210, 211, 212, 213, 214, 215, 216, 217, 218, 219, 220, 221, 222, 223, 224, 225, 226, 227, 228, 229, 230, 231, 232, 233, 234, 235, 236, 237, 238, 239, 240, 241, 242, 243, 244, 245, 246, 247, 248, 249, 250, 251, 252, 253, 254, 255, 256, 257, 258, 259, 260, 261, 262, 263, 264, 265, 266, 267, 268, 269, 270, 271, 272, 273, 274, 275, 276, 277, 278, 279, 280, 281, 282, 283, 284, 285, 286, 287, 288, 289, 290, 291, 292, 293, 294, 295, 296, 297, 298, 299, 300, 301, 302, 303, 304, 305, 306, 307, 308, 309, 310, 311, 312, 313, 314, 315, 316, 317, 318, 319, 320, 321, 322, 323, 324, 325, 326, 327, 328, 329, 330, 331, 332, 333, 334, 335, 336, 337, 338, 339, 340, 341, 342, 343, 344, 345, 346, 347, 348, 349, 350, 351, 352, 353, 354, 355, 356, 357, 358, 359, 360, 361, 362, 363, 364, 365, 366, 367, 368, 369, 370, 371, 27, 28, 29, 30, 31, 372, 373, 374, 375, 376, 377, 378, 379, 380, 381, 382, 419, 420, 421, 422, 423, 424, 425, 426, 427, 428, 433, 429, 430, 434, 435, 436, 437, 438, 439, 440] (by decide +kernel) (by decide +kernel)) (goodIn_sub (fun _ h => List.mem_cons_of_mem _ (List.mem_append_right _ h)) (by decide +kernel))) (goodIn_sub (fun _ h => List.mem_cons_of_mem _ (List.mem_append_left _ (List.mem_append_left _ (List.mem_append_right _ h)))) (by decide +kernel))) (goodIn_sub (fun _ h => List.mem_cons_of_mem _ (List.mem_append_left _ (List.mem_append_right _ h))) (by decide +kernel))
set_option maxRecDepth 20000 in
theorem gL_matrices_L_asks : GoodIn wsL_matrices (va_wsS RL 59 yL_asks wsL_asks) := goodIn_app (goodIn_of _ (by decide +kernel)) ggL_matrices_L_asks
set_option maxRecDepth 20000 in
theorem ggL_matrices_L_plus : GoodIn wsL_matrices wsL_plus := goodIn_r _ [385, 1] (by decide +kernel) (by decide +kernel)
set_option maxRecDepth 20000 in
theorem gL_matrices_L_plus : GoodIn wsL_matrices (va_wsS RL 83 yL_plus wsL_plus) := goodIn_app (goodIn_of _ (by decide +kernel)) ggL_matrices_L_plus
set_option maxRecDepth 20000 in
theorem ggL_matrices_L_isLike : GoodIn wsL_matrices wsL_isLike := goodIn_ca (goodIn_r _ [388, 389, 390, 391, 16, 392, 18, 48, 49, 50, 51, 19, 20, 21, 22, 23, 24, 25, 26, 419, 420, 421, 422, 423, 424, 425, 426, 427, 428, 429, 430] (by decide +kernel) (by decide +kernel)) (goodIn_sub (fun _ h => List.mem_cons_of_mem _ (List.mem_append_left _ (List.mem_append_left _ (List.mem_append_right _ h)))) (by decide +kernel))
set_option maxRecDepth 20000 in
theorem gL_matrices_L_isLike : GoodIn wsL_matrices (va_wsS RL 111 yL_isLike wsL_isLike) := goodIn_app (goodIn_of _ (by decide +kernel)) ggL_matrices_L_isLike
set_option maxRecDepth 20000 in
theorem ggL_matrices_X5_ways : GoodIn wsL_matrices wsX5_ways := goodIn_ca (goodIn_r _ [396, 60, 18, 19, 20, 16, 21, 22, 23, 24, 25, 26, 397, 398, 399, 64, 400, 71, 67, 68, 69, 70, 66, 72, 73, 74, 75, 76, 77, 78, 79, 80, 81, 82, 83, 84, 85, 55, 419, 420, 421, 422, 423, 424, 425, 426, 427, 428, 431, 432, 429, 430] (by decide +kernel) (by decide +kernel)) (goodIn_sub (fun _ h => List.mem_cons_of_mem _ (List.mem_append_left _ (List.mem_append_left _ (List.mem_append_right _ h)))) (by decide +kernel))
set_option maxRecDepth 20000 in
theorem gL_matrices_X5_ways : GoodIn wsL_matrices (wsV RL 115 RX5 yX5_ways wsX5_ways) := goodIn_app (goodIn_of _ (by decide +kernel)) ggL_matrices_X5_ways
set_option maxRecDepth 20000 in
theorem ggL_matrices_X5_mean : GoodIn wsL_matrices wsX5_mean := goodIn_ca (goodIn_ca (goodIn_r _ [404, 18, 354, 19, 20, 16, 21, 22, 23, 24, 25, 26, 27, 28, 29, 30, 31, 405, 406, 407, 408, 142, 409, 55, 410, 411, 412, 379, 413, 381, 382, 157, 158, 159, 35, 160, 37, 38, 161, 131, 132, 133, 414, 415, 416, 417, 418, 377, 378, 380, 143, 144, 145, 146, 39, 147, 117, 118, 119, 84, 85, 419, 420, 421, 422, 423, 424, 425, 426, 427, 428, 439, 440, 429, 430] (by decide +kernel) (by decide +kernel)) (goodIn_sub (fun _ h => List.mem_cons_of_mem _ (List.mem_append_left _ (List.mem_append_left _ (List.mem_append_right _ h)))) (by decide +kernel))) (goodIn_sub (fun _ h => List.mem_cons_of_mem _ (List.mem_append_left _ (List.mem_append_right _ h))) (by decide +kernel))
set_option maxRecDepth 20000 in
theorem gL_matrices_X5_mean : GoodIn wsL_matrices (wsV RL 118 RX5 yX5_mean wsX5_mean) := goodIn_app (goodIn_of _ (by decide +kernel)) ggL_matrices_X5_mean
set_option maxRecDepth 20000 in
theorem ggL_matrices_X5_at : GoodIn wsL_matrices wsX5_at := goodIn_ca (goodIn_r _ [392, 18, 48, 49, 50, 16, 51, 19, 20, 21, 22, 23, 24, 25, 26, 419, 420, 421, 422, 423, 424, 425, 426, 427, 428, 429, 430] (by decide +kernel) (by decide +kernel)) (goodIn_sub (fun _ h => List.mem_cons_of_mem _ (List.mem_append_left _ (List.mem_append_left _ (List.mem_append_right _ h)))) (by decide +kernel))
set_option maxRecDepth 20000 in
theorem gL_matrices_X5_at : GoodIn wsL_matrices (wsV RL 101 RX5 yX5_at wsX5_at) := goodIn_app (goodIn_of _ (by decide +kernel)) ggL_matrices_X5_at
theorem dL_matrices_0 : decode cL_matrices 0 = .ok (.iconst 1, 1) := by decide +kernel
theorem dL_matrices_1 : decode cL_matrices 1 = .ok (.aload_n 1, 1) := by decide +kernel
theorem dL_matrices_2 : decode cL_matrices 2 = .ok (.iload_n 2, 1) := by decide +kernel
theorem dL_matrices_3 : decode cL_matrices 3 = .ok (.iconst 5, 1) := by decide +kernel
theorem dL_matrices_4 : decode cL_matrices 4 = .ok (.invokestatic 94, 3) := by decide +kernel
theorem dL_matrices_7 : decode cL_matrices 7 = .ok (.iadd, 1) := by decide +kernel
theorem dL_matrices_8 : decode cL_matrices 8 = .ok (.istore_n 3, 1) := by decide +kernel
theorem dL_matrices_9 : decode cL_matrices 9 = .ok (.aload_n 0, 1) := by decide +kernel
theorem dL_matrices_10 : decode cL_matrices 10 = .ok (.iconst 0, 1) := by decide +kernel
theorem dL_matrices_11 : decode cL_matrices 11 = .ok (.iload_n 3, 1) := by decide +kernel
theorem dL_matrices_12 : decode cL_matrices 12 = .ok (.aload_n 1, 1) := by decide +kernel
theorem dL_matrices_13 : decode cL_matrices 13 = .ok (.iload_n 2, 1) := by decide +kernel
theorem dL_matrices_14 : decode cL_matrices 14 = .ok (.iconst 1, 1) := by decide +kernel
theorem dL_matrices_15 : decode cL_matrices 15 = .ok (.iadd, 1) := by decide +kernel
theorem dL_matrices_16 : decode cL_matrices 16 = .ok (.bipush (-6), 2) := by decide +kernel
theorem dL_matrices_18 : decode cL_matrices 18 = .ok (.bipush 40, 2) := by decide +kernel
theorem dL_matrices_20 : decode cL_matrices 20 = .ok (.invokestatic 104, 3) := by decide +kernel
theorem dL_matrices_23 : decode cL_matrices 23 = .ok (.aload_n 0, 1) := by decide +kernel
theorem dL_matrices_24 : decode cL_matrices 24 = .ok (.iconst 1, 1) := by decide +kernel
theorem dL_matrices_25 : decode cL_matrices 25 = .ok (.iload_n 3, 1) := by decide +kernel
theorem dL_matrices_26 : decode cL_matrices 26 = .ok (.aload_n 1, 1) := by decide +kernel
theorem dL_matrices_27 : decode cL_matrices 27 = .ok (.iload_n 2, 1) := by decide +kernel
theorem dL_matrices_28 : decode cL_matrices 28 = .ok (.bipush 26, 2) := by decide +kernel
theorem dL_matrices_30 : decode cL_matrices 30 = .ok (.iadd, 1) := by decide +kernel
theorem dL_matrices_31 : decode cL_matrices 31 = .ok (.bipush (-20), 2) := by decide +kernel
theorem dL_matrices_33 : decode cL_matrices 33 = .ok (.bipush 60, 2) := by decide +kernel
theorem dL_matrices_35 : decode cL_matrices 35 = .ok (.invokestatic 104, 3) := by decide +kernel
theorem dL_matrices_38 : decode cL_matrices 38 = .ok (.aload_n 0, 1) := by decide +kernel
theorem dL_matrices_39 : decode cL_matrices 39 = .ok (.iconst 2, 1) := by decide +kernel
theorem dL_matrices_40 : decode cL_matrices 40 = .ok (.iload_n 3, 1) := by decide +kernel
theorem dL_matrices_41 : decode cL_matrices 41 = .ok (.aload_n 1, 1) := by decide +kernel
theorem dL_matrices_42 : decode cL_matrices 42 = .ok (.iload_n 2, 1) := by decide +kernel
theorem dL_matrices_43 : decode cL_matrices 43 = .ok (.bipush 51, 2) := by decide +kernel
theorem dL_matrices_45 : decode cL_matrices 45 = .ok (.iadd, 1) := by decide +kernel
theorem dL_matrices_46 : decode cL_matrices 46 = .ok (.bipush (-3), 2) := by decide +kernel
theorem dL_matrices_48 : decode cL_matrices 48 = .ok (.bipush 9, 2) := by decide +kernel
theorem dL_matrices_50 : decode cL_matrices 50 = .ok (.invokestatic 104, 3) := by decide +kernel
theorem dL_matrices_53 : decode cL_matrices 53 = .ok (.aload_n 0, 1) := by decide +kernel
theorem dL_matrices_54 : decode cL_matrices 54 = .ok (.iconst 0, 1) := by decide +kernel
theorem dL_matrices_55 : decode cL_matrices 55 = .ok (.invokevirtual 108, 3) := by decide +kernel
theorem dL_matrices_58 : decode cL_matrices 58 = .ok (.istore 4, 2) := by decide +kernel
theorem dL_matrices_60 : decode cL_matrices 60 = .ok (.aload_n 0, 1) := by decide +kernel
theorem dL_matrices_61 : decode cL_matrices 61 = .ok (.iconst 1, 1) := by decide +kernel
theorem dL_matrices_62 : decode cL_matrices 62 = .ok (.invokevirtual 108, 3) := by decide +kernel
theorem dL_matrices_65 : decode cL_matrices 65 = .ok (.istore 5, 2) := by decide +kernel
theorem dL_matrices_67 : decode cL_matrices 67 = .ok (.aload_n 0, 1) := by decide +kernel
theorem dL_matrices_68 : decode cL_matrices 68 = .ok (.iconst 1, 1) := by decide +kernel
theorem dL_matrices_69 : decode cL_matrices 69 = .ok (.iconst 0, 1) := by decide +kernel
theorem dL_matrices_70 : decode cL_matrices 70 = .ok (.iconst 1, 1) := by decide +kernel
theorem dL_matrices_71 : decode cL_matrices 71 = .ok (.iconst 3, 1) := by decide +kernel
theorem dL_matrices_72 : decode cL_matrices 72 = .ok (.invokestatic 59, 3) := by decide +kernel
theorem dL_matrices_75 : decode cL_matrices 75 = .ok (.ifCond .lt 93, 3) := by decide +kernel
theorem dL_matrices_78 : decode cL_matrices 78 = .ok (.aload_n 0, 1) := by decide +kernel
theorem dL_matrices_79 : decode cL_matrices 79 = .ok (.iconst 3, 1) := by decide +kernel
theorem dL_matrices_80 : decode cL_matrices 80 = .ok (.invokevirtual 108, 3) := by decide +kernel
theorem dL_matrices_83 : decode cL_matrices 83 = .ok (.iload 4, 2) := by decide +kernel
theorem dL_matrices_85 : decode cL_matrices 85 = .ok (.iload 5, 2) := by decide +kernel
theorem dL_matrices_87 : decode cL_matrices 87 = .ok (.invokestatic 83, 3) := by decide +kernel
theorem dL_matrices_90 : decode cL_matrices 90 = .ok (.if_icmp .gt 78, 3) := by decide +kernel
theorem dL_matrices_93 : decode cL_matrices 93 = .ok (.aload_n 0, 1) := by decide +kernel
theorem dL_matrices_94 : decode cL_matrices 94 = .ok (.iconst 1, 1) := by decide +kernel
theorem dL_matrices_95 : decode cL_matrices 95 = .ok (.iconst 3, 1) := by decide +kernel
theorem dL_matrices_96 : decode cL_matrices 96 = .ok (.iconst 2, 1) := by decide +kernel
theorem dL_matrices_97 : decode cL_matrices 97 = .ok (.iconst 3, 1) := by decide +kernel
theorem dL_matrices_98 : decode cL_matrices 98 = .ok (.invokestatic 59, 3) := by decide +kernel
theorem dL_matrices_101 : decode cL_matrices 101 = .ok (.ifCond .lt 67, 3) := by decide +kernel
theorem dL_matrices_104 : decode cL_matrices 104 = .ok (.aload_n 0, 1) := by decide +kernel
theorem dL_matrices_105 : decode cL_matrices 105 = .ok (.iconst 1, 1) := by decide +kernel
theorem dL_matrices_106 : decode cL_matrices 106 = .ok (.iconst 1, 1) := by decide +kernel
theorem dL_matrices_107 : decode cL_matrices 107 = .ok (.iconst 2, 1) := by decide +kernel
theorem dL_matrices_108 : decode cL_matrices 108 = .ok (.iconst 1, 1) := by decide +kernel
theorem dL_matrices_109 : decode cL_matrices 109 = .ok (.invokestatic 59, 3) := by decide +kernel
theorem dL_matrices_112 : decode cL_matrices 112 = .ok (.ifCond .lt 56, 3) := by decide +kernel
theorem dL_matrices_115 : decode cL_matrices 115 = .ok (.aload_n 0, 1) := by decide +kernel
theorem dL_matrices_116 : decode cL_matrices 116 = .ok (.iconst 1, 1) := by decide +kernel
theorem dL_matrices_117 : decode cL_matrices 117 = .ok (.iconst 0, 1) := by decide +kernel
theorem dL_matrices_118 : decode cL_matrices 118 = .ok (.iconst 1, 1) := by decide +kernel
theorem dL_matrices_119 : decode cL_matrices 119 = .ok (.iconst 1, 1) := by decide +kernel
theorem dL_matrices_120 : decode cL_matrices 120 = .ok (.invokestatic 59, 3) := by decide +kernel
theorem dL_matrices_123 : decode cL_matrices 123 = .ok (.ifCond .lt 45, 3) := by decide +kernel
theorem dL_matrices_126 : decode cL_matrices 126 = .ok (.aload_n 0, 1) := by decide +kernel
theorem dL_matrices_127 : decode cL_matrices 127 = .ok (.iconst 1, 1) := by decide +kernel
theorem dL_matrices_128 : decode cL_matrices 128 = .ok (.iconst 3, 1) := by decide +kernel
theorem dL_matrices_129 : decode cL_matrices 129 = .ok (.iload_n 3, 1) := by decide +kernel
theorem dL_matrices_130 : decode cL_matrices 130 = .ok (.invokestatic 111, 3) := by decide +kernel
theorem dL_matrices_133 : decode cL_matrices 133 = .ok (.ifCond .eq 35, 3) := by decide +kernel
theorem dL_matrices_136 : decode cL_matrices 136 = .ok (.iload 4, 2) := by decide +kernel
theorem dL_matrices_138 : decode cL_matrices 138 = .ok (.ldc 55, 2) := by decide +kernel
theorem dL_matrices_140 : decode cL_matrices 140 = .ok (.if_icmp .ne 7, 3) := by decide +kernel
theorem dL_matrices_143 : decode cL_matrices 143 = .ok (.iconst 1, 1) := by decide +kernel
theorem dL_matrices_144 : decode cL_matrices 144 = .ok (.goto 4, 3) := by decide +kernel
theorem dL_matrices_147 : decode cL_matrices 147 = .ok (.iconst 0, 1) := by decide +kernel
theorem dL_matrices_148 : decode cL_matrices 148 = .ok (.aload_n 0, 1) := by decide +kernel
theorem dL_matrices_149 : decode cL_matrices 149 = .ok (.iconst 0, 1) := by decide +kernel
theorem dL_matrices_150 : decode cL_matrices 150 = .ok (.invokevirtual 115, 3) := by decide +kernel
theorem dL_matrices_153 : decode cL_matrices 153 = .ok (.ifCond .ne 7, 3) := by decide +kernel
theorem dL_matrices_156 : decode cL_matrices 156 = .ok (.iconst 1, 1) := by decide +kernel
theorem dL_matrices_157 : decode cL_matrices 157 = .ok (.goto 4, 3) := by decide +kernel
theorem dL_matrices_160 : decode cL_matrices 160 = .ok (.iconst 0, 1) := by decide +kernel
theorem dL_matrices_161 : decode cL_matrices 161 = .ok (.if_icmp .ne 7, 3) := by decide +kernel
theorem dL_matrices_164 : decode cL_matrices 164 = .ok (.iconst 1, 1) := by decide +kernel
theorem dL_matrices_165 : decode cL_matrices 165 = .ok (.goto 4, 3) := by decide +kernel
theorem dL_matrices_168 : decode cL_matrices 168 = .ok (.iconst 0, 1) := by decide +kernel
theorem dL_matrices_169 : decode cL_matrices 169 = .ok (.istore 6, 2) := by decide +kernel
theorem dL_matrices_171 : decode cL_matrices 171 = .ok (.aload_n 0, 1) := by decide +kernel
theorem dL_matrices_172 : decode cL_matrices 172 = .ok (.iconst 0, 1) := by decide +kernel
theorem dL_matrices_173 : decode cL_matrices 173 = .ok (.iconst 0, 1) := by decide +kernel
theorem dL_matrices_174 : decode cL_matrices 174 = .ok (.invokevirtual 118, 3) := by decide +kernel
theorem dL_matrices_177 : decode cL_matrices 177 = .ok (.istore 7, 2) := by decide +kernel
theorem dL_matrices_179 : decode cL_matrices 179 = .ok (.aload_n 0, 1) := by decide +kernel
theorem dL_matrices_180 : decode cL_matrices 180 = .ok (.iconst 0, 1) := by decide +kernel
theorem dL_matrices_181 : decode cL_matrices 181 = .ok (.iconst 1, 1) := by decide +kernel
theorem dL_matrices_182 : decode cL_matrices 182 = .ok (.invokevirtual 118, 3) := by decide +kernel
theorem dL_matrices_185 : decode cL_matrices 185 = .ok (.istore 8, 2) := by decide +kernel
theorem dL_matrices_187 : decode cL_matrices 187 = .ok (.aload_n 0, 1) := by decide +kernel
theorem dL_matrices_188 : decode cL_matrices 188 = .ok (.iconst 2, 1) := by decide +kernel
theorem dL_matrices_189 : decode cL_matrices 189 = .ok (.iconst 0, 1) := by decide +kernel
theorem dL_matrices_190 : decode cL_matrices 190 = .ok (.iconst 1, 1) := by decide +kernel
theorem dL_matrices_191 : decode cL_matrices 191 = .ok (.iconst 0, 1) := by decide +kernel
theorem dL_matrices_192 : decode cL_matrices 192 = .ok (.invokestatic 59, 3) := by decide +kernel
theorem dL_matrices_195 : decode cL_matrices 195 = .ok (.istore 9, 2) := by decide +kernel
theorem dL_matrices_197 : decode cL_matrices 197 = .ok (.iload 9, 2) := by decide +kernel
theorem dL_matrices_199 : decode cL_matrices 199 = .ok (.ifCond .lt 8, 3) := by decide +kernel
theorem dL_matrices_202 : decode cL_matrices 202 = .ok (.iload 6, 2) := by decide +kernel
theorem dL_matrices_204 : decode cL_matrices 204 = .ok (.ifCond .ne 24, 3) := by decide +kernel
theorem dL_matrices_207 : decode cL_matrices 207 = .ok (.iload 6, 2) := by decide +kernel
theorem dL_matrices_209 : decode cL_matrices 209 = .ok (.ifCond .eq 17, 3) := by decide +kernel
theorem dL_matrices_212 : decode cL_matrices 212 = .ok (.iload 7, 2) := by decide +kernel
theorem dL_matrices_214 : decode cL_matrices 214 = .ok (.ifCond .ge 12, 3) := by decide +kernel
theorem dL_matrices_217 : decode cL_matrices 217 = .ok (.iload 8, 2) := by decide +kernel
theorem dL_matrices_219 : decode cL_matrices 219 = .ok (.ifCond .le 7, 3) := by decide +kernel
theorem dL_matrices_222 : decode cL_matrices 222 = .ok (.iconst 1, 1) := by decide +kernel
theorem dL_matrices_223 : decode cL_matrices 223 = .ok (.goto 4, 3) := by decide +kernel
theorem dL_matrices_226 : decode cL_matrices 226 = .ok (.iconst 0, 1) := by decide +kernel
theorem dL_matrices_227 : decode cL_matrices 227 = .ok (.ireturn, 1) := by decide +kernel
theorem dL_matrices_228 : decode cL_matrices 228 = .ok (.iload 6, 2) := by decide +kernel
theorem dL_matrices_230 : decode cL_matrices 230 = .ok (.ifCond .eq 85, 3) := by decide +kernel
theorem dL_matrices_233 : decode cL_matrices 233 = .ok (.iload 7, 2) := by decide +kernel
theorem dL_matrices_235 : decode cL_matrices 235 = .ok (.ifCond .lt 80, 3) := by decide +kernel
theorem dL_matrices_238 : decode cL_matrices 238 = .ok (.aload_n 0, 1) := by decide +kernel
theorem dL_matrices_239 : decode cL_matrices 239 = .ok (.iconst 1, 1) := by decide +kernel
theorem dL_matrices_240 : decode cL_matrices 240 = .ok (.iconst 1, 1) := by decide +kernel
theorem dL_matrices_241 : decode cL_matrices 241 = .ok (.iconst 1, 1) := by decide +kernel
theorem dL_matrices_242 : decode cL_matrices 242 = .ok (.iconst 3, 1) := by decide +kernel
theorem dL_matrices_243 : decode cL_matrices 243 = .ok (.invokestatic 59, 3) := by decide +kernel
theorem dL_matrices_246 : decode cL_matrices 246 = .ok (.iload 9, 2) := by decide +kernel
theorem dL_matrices_248 : decode cL_matrices 248 = .ok (.if_icmp .ne 67, 3) := by decide +kernel
theorem dL_matrices_251 : decode cL_matrices 251 = .ok (.aload_n 0, 1) := by decide +kernel
theorem dL_matrices_252 : decode cL_matrices 252 = .ok (.iconst 1, 1) := by decide +kernel
theorem dL_matrices_253 : decode cL_matrices 253 = .ok (.iconst 3, 1) := by decide +kernel
theorem dL_matrices_254 : decode cL_matrices 254 = .ok (.iload_n 3, 1) := by decide +kernel
theorem dL_matrices_255 : decode cL_matrices 255 = .ok (.invokestatic 111, 3) := by decide +kernel
theorem dL_matrices_258 : decode cL_matrices 258 = .ok (.ifCond .eq 57, 3) := by decide +kernel
theorem dL_matrices_261 : decode cL_matrices 261 = .ok (.aload_n 0, 1) := by decide +kernel
theorem dL_matrices_262 : decode cL_matrices 262 = .ok (.iconst 2, 1) := by decide +kernel
theorem dL_matrices_263 : decode cL_matrices 263 = .ok (.iconst 1, 1) := by decide +kernel
theorem dL_matrices_264 : decode cL_matrices 264 = .ok (.iconst 3, 1) := by decide +kernel
theorem dL_matrices_265 : decode cL_matrices 265 = .ok (.iconst 0, 1) := by decide +kernel
theorem dL_matrices_266 : decode cL_matrices 266 = .ok (.invokestatic 59, 3) := by decide +kernel
theorem dL_matrices_269 : decode cL_matrices 269 = .ok (.iload 9, 2) := by decide +kernel
theorem dL_matrices_271 : decode cL_matrices 271 = .ok (.if_icmp .ne 44, 3) := by decide +kernel
theorem dL_matrices_274 : decode cL_matrices 274 = .ok (.aload_n 0, 1) := by decide +kernel
theorem dL_matrices_275 : decode cL_matrices 275 = .ok (.iconst 1, 1) := by decide +kernel
theorem dL_matrices_276 : decode cL_matrices 276 = .ok (.iconst 3, 1) := by decide +kernel
theorem dL_matrices_277 : decode cL_matrices 277 = .ok (.iload_n 3, 1) := by decide +kernel
theorem dL_matrices_278 : decode cL_matrices 278 = .ok (.invokestatic 111, 3) := by decide +kernel
theorem dL_matrices_281 : decode cL_matrices 281 = .ok (.ifCond .eq 34, 3) := by decide +kernel
theorem dL_matrices_284 : decode cL_matrices 284 = .ok (.aload_n 0, 1) := by decide +kernel
theorem dL_matrices_285 : decode cL_matrices 285 = .ok (.iconst 1, 1) := by decide +kernel
theorem dL_matrices_286 : decode cL_matrices 286 = .ok (.iconst 0, 1) := by decide +kernel
theorem dL_matrices_287 : decode cL_matrices 287 = .ok (.invokevirtual 118, 3) := by decide +kernel
theorem dL_matrices_290 : decode cL_matrices 290 = .ok (.ifCond .ne 25, 3) := by decide +kernel
theorem dL_matrices_293 : decode cL_matrices 293 = .ok (.aload_n 0, 1) := by decide +kernel
theorem dL_matrices_294 : decode cL_matrices 294 = .ok (.iconst 1, 1) := by decide +kernel
theorem dL_matrices_295 : decode cL_matrices 295 = .ok (.iconst 1, 1) := by decide +kernel
theorem dL_matrices_296 : decode cL_matrices 296 = .ok (.invokevirtual 118, 3) := by decide +kernel
theorem dL_matrices_299 : decode cL_matrices 299 = .ok (.iconst 1, 1) := by decide +kernel
theorem dL_matrices_300 : decode cL_matrices 300 = .ok (.if_icmp .ne 15, 3) := by decide +kernel
theorem dL_matrices_303 : decode cL_matrices 303 = .ok (.aload_n 0, 1) := by decide +kernel
theorem dL_matrices_304 : decode cL_matrices 304 = .ok (.iconst 1, 1) := by decide +kernel
theorem dL_matrices_305 : decode cL_matrices 305 = .ok (.invokevirtual 108, 3) := by decide +kernel
theorem dL_matrices_308 : decode cL_matrices 308 = .ok (.ifCond .ne 7, 3) := by decide +kernel
theorem dL_matrices_311 : decode cL_matrices 311 = .ok (.iconst 1, 1) := by decide +kernel
theorem dL_matrices_312 : decode cL_matrices 312 = .ok (.goto 4, 3) := by decide +kernel
theorem dL_matrices_315 : decode cL_matrices 315 = .ok (.iconst 0, 1) := by decide +kernel
theorem dL_matrices_316 : decode cL_matrices 316 = .ok (.istore 6, 2) := by decide +kernel
theorem dL_matrices_318 : decode cL_matrices 318 = .ok (.iconst 0, 1) := by decide +kernel
theorem dL_matrices_319 : decode cL_matrices 319 = .ok (.istore 10, 2) := by decide +kernel
theorem dL_matrices_321 : decode cL_matrices 321 = .ok (.iload 10, 2) := by decide +kernel
theorem dL_matrices_323 : decode cL_matrices 323 = .ok (.iload_n 3, 1) := by decide +kernel
theorem dL_matrices_324 : decode cL_matrices 324 = .ok (.iload_n 3, 1) := by decide +kernel
theorem dL_matrices_325 : decode cL_matrices 325 = .ok (.imul, 1) := by decide +kernel
theorem dL_matrices_326 : decode cL_matrices 326 = .ok (.if_icmp .ge 77, 3) := by decide +kernel
theorem dL_matrices_329 : decode cL_matrices 329 = .ok (.iload 6, 2) := by decide +kernel
theorem dL_matrices_331 : decode cL_matrices 331 = .ok (.ifCond .eq 72, 3) := by decide +kernel
theorem dL_matrices_334 : decode cL_matrices 334 = .ok (.aload_n 0, 1) := by decide +kernel
theorem dL_matrices_335 : decode cL_matrices 335 = .ok (.iconst 1, 1) := by decide +kernel
theorem dL_matrices_336 : decode cL_matrices 336 = .ok (.iload 10, 2) := by decide +kernel
theorem dL_matrices_338 : decode cL_matrices 338 = .ok (.iload_n 3, 1) := by decide +kernel
theorem dL_matrices_339 : decode cL_matrices 339 = .ok (.idiv, 1) := by decide +kernel
theorem dL_matrices_340 : decode cL_matrices 340 = .ok (.iload 10, 2) := by decide +kernel
theorem dL_matrices_342 : decode cL_matrices 342 = .ok (.iload_n 3, 1) := by decide +kernel
theorem dL_matrices_343 : decode cL_matrices 343 = .ok (.irem, 1) := by decide +kernel
theorem dL_matrices_344 : decode cL_matrices 344 = .ok (.invokevirtual 101, 3) := by decide +kernel
theorem dL_matrices_347 : decode cL_matrices 347 = .ok (.aload_n 0, 1) := by decide +kernel
theorem dL_matrices_348 : decode cL_matrices 348 = .ok (.iconst 0, 1) := by decide +kernel
theorem dL_matrices_349 : decode cL_matrices 349 = .ok (.iload 10, 2) := by decide +kernel
theorem dL_matrices_351 : decode cL_matrices 351 = .ok (.iload_n 3, 1) := by decide +kernel
theorem dL_matrices_352 : decode cL_matrices 352 = .ok (.idiv, 1) := by decide +kernel
theorem dL_matrices_353 : decode cL_matrices 353 = .ok (.iload 10, 2) := by decide +kernel
theorem dL_matrices_355 : decode cL_matrices 355 = .ok (.iload_n 3, 1) := by decide +kernel
theorem dL_matrices_356 : decode cL_matrices 356 = .ok (.irem, 1) := by decide +kernel
theorem dL_matrices_357 : decode cL_matrices 357 = .ok (.invokevirtual 101, 3) := by decide +kernel
theorem dL_matrices_360 : decode cL_matrices 360 = .ok (.if_icmp .gt 34, 3) := by decide +kernel
theorem dL_matrices_363 : decode cL_matrices 363 = .ok (.iload 10, 2) := by decide +kernel
theorem dL_matrices_365 : decode cL_matrices 365 = .ok (.iload_n 3, 1) := by decide +kernel
theorem dL_matrices_366 : decode cL_matrices 366 = .ok (.idiv, 1) := by decide +kernel
theorem dL_matrices_367 : decode cL_matrices 367 = .ok (.iload 10, 2) := by decide +kernel
theorem dL_matrices_369 : decode cL_matrices 369 = .ok (.iload_n 3, 1) := by decide +kernel
theorem dL_matrices_370 : decode cL_matrices 370 = .ok (.irem, 1) := by decide +kernel
theorem dL_matrices_371 : decode cL_matrices 371 = .ok (.if_icmp .ne 19, 3) := by decide +kernel
theorem dL_matrices_374 : decode cL_matrices 374 = .ok (.aload_n 0, 1) := by decide +kernel
theorem dL_matrices_375 : decode cL_matrices 375 = .ok (.iconst 1, 1) := by decide +kernel
theorem dL_matrices_376 : decode cL_matrices 376 = .ok (.iload 10, 2) := by decide +kernel
theorem dL_matrices_378 : decode cL_matrices 378 = .ok (.iload_n 3, 1) := by decide +kernel
theorem dL_matrices_379 : decode cL_matrices 379 = .ok (.idiv, 1) := by decide +kernel
theorem dL_matrices_380 : decode cL_matrices 380 = .ok (.iload 10, 2) := by decide +kernel
theorem dL_matrices_382 : decode cL_matrices 382 = .ok (.iload_n 3, 1) := by decide +kernel
theorem dL_matrices_383 : decode cL_matrices 383 = .ok (.idiv, 1) := by decide +kernel
theorem dL_matrices_384 : decode cL_matrices 384 = .ok (.invokevirtual 101, 3) := by decide +kernel
theorem dL_matrices_387 : decode cL_matrices 387 = .ok (.ifCond .ne 7, 3) := by decide +kernel
theorem dL_matrices_390 : decode cL_matrices 390 = .ok (.iconst 1, 1) := by decide +kernel
theorem dL_matrices_391 : decode cL_matrices 391 = .ok (.goto 4, 3) := by decide +kernel
theorem dL_matrices_394 : decode cL_matrices 394 = .ok (.iconst 0, 1) := by decide +kernel
theorem dL_matrices_395 : decode cL_matrices 395 = .ok (.istore 6, 2) := by decide +kernel
theorem dL_matrices_397 : decode cL_matrices 397 = .ok (.iinc 10 1, 3) := by decide +kernel
theorem dL_matrices_400 : decode cL_matrices 400 = .ok (.goto (-79), 3) := by decide +kernel
theorem dL_matrices_403 : decode cL_matrices 403 = .ok (.iload 6, 2) := by decide +kernel
theorem dL_matrices_405 : decode cL_matrices 405 = .ok (.ireturn, 1) := by decide +kernel
set_option maxRecDepth 20000 in
theorem ggL_vectors_L_draw : GoodIn wsL_vectors wsL_draw := goodIn_r _ [6, 7, 8, 9] (by decide +kernel) (by decide +kernel)
set_option maxRecDepth 20000 in
theorem gL_vectors_L_draw : GoodIn wsL_vectors (va_wsS RL 94 yL_draw wsL_draw) := goodIn_app (goodIn_of _ (by decide +kernel)) ggL_vectors_L_draw
set_option maxRecDepth 20000 in
theorem ggL_vectors_L_fills : GoodIn wsL_vectors wsL_fills := goodIn_ca (goodIn_ca (goodIn_r _ [12, 1, 2, 13, 14, 15, 16, 17, 18, 19, 20, 21, 22, 23, 24, 25, 26, 27, 28, 29, 30, 31, 32, 33, 34, 35, 36, 37, 38, 39, 40, 41, 42, 43, 3, 4, 5, 6, 7, 8, 9, 44, 45, 46, 47, 48, 49, 50, 51, 52, 53, 54, 55, 373, 374, 375, 376, 377, 378, 379, 380, 381, 382, 383, 384] (by decide +kernel) (by decide +kernel)) (goodIn_sub (fun _ h => List.mem_cons_of_mem _ (List.mem_append_left _ (List.mem_append_left _ (List.mem_append_right _ h)))) (by decide +kernel))) (goodIn_sub (fun _ h => List.mem_cons_of_mem _ (List.mem_append_left _ (List.mem_append_right _ h))) (by decide +kernel))
set_option maxRecDepth 20000 in
theorem gL_vectors_L_fills : GoodIn wsL_vectors (va_wsS RL 104 yL_fills wsL_fills) := goodIn_app (goodIn_of _ (by decide +kernel)) ggL_vectors_L_fills
set_option maxRecDepth 20000 in
theorem ggL_vectors_X5_matrix : GoodIn wsL_vectors wsX5_matrix := goodIn_ca (goodIn_ca (goodIn_r _ [17, 18, 19, 20, 16, 21, 22, 23, 24, 25, 26, 27, 28, 29, 30, 31, 32, 33, 34, 35, 36, 37, 38, 39, 40, 41, 42, 43, 373, 374, 375, 376, 377, 378, 379, 380, 381, 382, 383, 384] (by decide +kernel) (by decide +kernel)) (goodIn_sub (fun _ h => List.mem_cons_of_mem _ (List.mem_append_left _ (List.mem_append_left _ (List.mem_append_right _ h)))) (by decide +kernel))) (goodIn_sub (fun _ h => List.mem_cons_of_mem _ (List.mem_append_left _ (List.mem_append_right _ h))) (by decide +kernel))
set_option maxRecDepth 20000 in
theorem gL_vectors_X5_matrix : GoodIn wsL_vectors (wsV RL 90 RX5 yX5_matrix wsX5_matrix) := goodIn_app (goodIn_of _ (by decide +kernel)) ggL_vectors_X5_matrix
set_option maxRecDepth 20000 in
theorem ggL_vectors_X5_entry : GoodIn wsL_vectors wsX5_entry := goodIn_ca (goodIn_ca (goodIn_r _ [47, 18, 48, 49, 50, 16, 51, 19, 20, 21, 22, 23, 24, 25, 26, 52, 53, 54, 55, 27, 28, 29, 30, 31, 373, 374, 375, 376, 377, 378, 379, 380, 381, 382, 383, 384] (by decide +kernel) (by decide +kernel)) (goodIn_sub (fun _ h => List.mem_cons_of_mem _ (List.mem_append_left _ (List.mem_append_left _ (List.mem_append_right _ h)))) (by decide +kernel))) (goodIn_sub (fun _ h => List.mem_cons_of_mem _ (List.mem_append_left _ (List.mem_append_right _ h))) (by decide +kernel))
set_option maxRecDepth 20000 in
theorem gL_vectors_X5_entry : GoodIn wsL_vectors (wsV RL 97 RX5 yX5_entry wsX5_entry) := goodIn_app (goodIn_of _ (by decide +kernel)) ggL_vectors_X5_entry
set_option maxRecDepth 20000 in
theorem ggL_vectors_X5_part : GoodIn wsL_vectors wsX5_part := goodIn_ca (goodIn_ca (goodIn_r _ [59, 60, 19, 20, 16, 21, 22, 23, 24, 25, 26, 52, 53, 54, 55, 27, 28, 29, 30, 31, 373, 374, 375, 376, 377, 378, 379, 380, 381, 382] (by decide +kernel) (by decide +kernel)) (goodIn_sub (fun _ h => List.mem_cons_of_mem _ (List.mem_append_left _ (List.mem_append_left _ (List.mem_append_right _ h)))) (by decide +kernel))) (goodIn_sub (fun _ h => List.mem_cons_of_mem _ (List.mem_append_left _ (List.mem_append_right _ h))) (by decide +kernel))
set_option maxRecDepth 20000 in
theorem gL_vectors_X5_part : GoodIn wsL_vectors (wsV RL 121 RX5 yX5_part wsX5_part) := goodIn_app (goodIn_of _ (by decide +kernel)) ggL_vectors_X5_part
set_option maxRecDepth 20000 in
theorem ggL_vectors_L_asks : GoodIn wsL_vectors wsL_asks := goodIn_ca (goodIn_ca (goodIn_ca (goodIn_r _ [63, 64, 65, 66, 67, 68, 69, 70, 16, 71, 72, 73, 74, 75, 19, 20, 21, 22, 23, 24, 25, 26, 76, 77, 78, 79, 80, 81, 82, 83, 84, 85, 86, 87, 88, 89, 90, 91, 92, 93, 94, 95, 96, 55, 97, 98, 99, 100, 101, 102, 103, 104, 105, 106, 107, 108, 109, 110, 111, 112, 113, 114, 115, 116, 117, 118, 18, 119, 120, 121, 122, 35, 123, 37, 39, 38, 124, 125, 126, 127, 128, 129, 130, 131, 132, 133, 134, 135, 136, 137, 138, 139, 140, 141, 142, 143, 144, 145, 146, 147, 148, 149, 150, 151, 152, 153, 154, 155, 156, 157, 158, 60, 159, 160, 161, 162, 163, 164, 165, 166, 167, 168, 169, 170, 171, 172, 173, 174, 175, 176, 177, 178, 179, 180, 181, 182, 183, 184, 185, 186, 187, 188, 189, 190, 191, 192, 193, 194, 195, 196, 197, 198, 199, 200, 201, 202, 203, 204, 205, 206, 207, 208, 209, 210, 211, 212, 213, 214, 215, 216, 217, 218, 219, 220, 221, 222, 223, 224, 225, 226, 227, 228, 229, 230, 231, 232, 233, 234, 235, 236, 237, 238, 239, 240, 241, 242, 243, 244, 245, 246, 247, 248, 249, 250, 251, 252, 253, 254, 255, 256, 257, 258, 259, 260, 261, 262, 263, 264, 265, 266, 267, 268, 269, 270, 271, 272, 273, 274, 275, 276, 277, 278, 279, 280, 281, 282, 283, 284, 285, 286, 287, 288, 289, 290, 291, 292, 293, 294, 295, 296, 297, 298, 299, 300, 301, 302, 303, 304, 305, 306, 307, 308, 309, 310, 311, 312, 313, 314, 315, 316, 317, 318, 319, 320, 321, 322, 323, 324, 325, 326, 327, 328, 329, 330, 331, 332, 333, 334, 335, 336, 337, 338, 339, 340, 341, 342, 343, 344, 345, 346, 347, 27, 28, 29, 30, 31, 348, 349, 350, 351, 352, 353, 354, 355, 356, 357, 358, 373, 374, 375, 376, 377, 378, 379, 380, 381, 382, 385, 383, 384, 386, 387, 388, 389, 390, 391, 392] (by decide +kernel) (by decide +kernel)) (goodIn_sub (fun _ h => List.mem_cons_of_mem _ (List.mem_append_right _ h)) (by decide +kernel))) (goodIn_sub (fun _ h => List.mem_cons_of_mem _ (List.mem_append_left _ (List.mem_append_left _ (List.mem_append_right _ h)))) (by decide +kernel))) (goodIn_sub (fun _ h => List.mem_cons_of_mem _ (List.mem_append_left _ (List.mem_append_right _ h))) (by decide +kernel))
set_option maxRecDepth 20000 in
theorem gL_vectors_L_asks : GoodIn wsL_vectors (va_wsS RL 59 yL_asks wsL_asks) := goodIn_app (goodIn_of _ (by decide +kernel)) ggL_vectors_L_asks
set_option maxRecDepth 20000 in
theorem ggL_vectors_X5_at : GoodIn wsL_vectors wsX5_at := goodIn_ca (goodIn_r _ [362, 18, 48, 49, 50, 16, 51, 19, 20, 21, 22, 23, 24, 25, 26, 373, 374, 375, 376, 377, 378, 379, 380, 381, 382, 383, 384] (by decide +kernel) (by decide +kernel)) (goodIn_sub (fun _ h => List.mem_cons_of_mem _ (List.mem_append_left _ (List.mem_append_left _ (List.mem_append_right _ h)))) (by decide +kernel))
set_option maxRecDepth 20000 in
theorem gL_vectors_X5_at : GoodIn wsL_vectors (wsV RL 101 RX5 yX5_at wsX5_at) := goodIn_app (goodIn_of _ (by decide +kernel)) ggL_vectors_X5_at
set_option maxRecDepth 20000 in
theorem ggL_vectors_X5_partAt : GoodIn wsL_vectors wsX5_partAt := goodIn_ca (goodIn_r _ [366, 60, 19, 20, 16, 21, 22, 23, 24, 25, 26, 373, 374, 375, 376, 377, 378, 379, 380, 381, 382] (by decide +kernel) (by decide +kernel)) (goodIn_sub (fun _ h => List.mem_cons_of_mem _ (List.mem_append_left _ (List.mem_append_left _ (List.mem_append_right _ h)))) (by decide +kernel))
set_option maxRecDepth 20000 in
theorem gL_vectors_X5_partAt : GoodIn wsL_vectors (wsV RL 124 RX5 yX5_partAt wsX5_partAt) := goodIn_app (goodIn_of _ (by decide +kernel)) ggL_vectors_X5_partAt
set_option maxRecDepth 20000 in
theorem ggL_vectors_L_plus : GoodIn wsL_vectors wsL_plus := goodIn_r _ [369, 2] (by decide +kernel) (by decide +kernel)
set_option maxRecDepth 20000 in
theorem gL_vectors_L_plus : GoodIn wsL_vectors (va_wsS RL 83 yL_plus wsL_plus) := goodIn_app (goodIn_of _ (by decide +kernel)) ggL_vectors_L_plus
set_option maxRecDepth 20000 in
theorem ggL_vectors_L_lesser : GoodIn wsL_vectors wsL_lesser := goodIn_r _ [372] (by decide +kernel) (by decide +kernel)
set_option maxRecDepth 20000 in
theorem gL_vectors_L_lesser : GoodIn wsL_vectors (va_wsS RL 68 yL_lesser wsL_lesser) := goodIn_app (goodIn_of _ (by decide +kernel)) ggL_vectors_L_lesser
theorem dL_vectors_0 : decode cL_vectors 0 = .ok (.iconst 1, 1) := by decide +kernel
theorem dL_vectors_1 : decode cL_vectors 1 = .ok (.aload_n 1, 1) := by decide +kernel
theorem dL_vectors_2 : decode cL_vectors 2 = .ok (.iload_n 2, 1) := by decide +kernel
theorem dL_vectors_3 : decode cL_vectors 3 = .ok (.iconst 5, 1) := by decide +kernel
theorem dL_vectors_4 : decode cL_vectors 4 = .ok (.invokestatic 94, 3) := by decide +kernel
theorem dL_vectors_7 : decode cL_vectors 7 = .ok (.iadd, 1) := by decide +kernel
theorem dL_vectors_8 : decode cL_vectors 8 = .ok (.istore_n 3, 1) := by decide +kernel
theorem dL_vectors_9 : decode cL_vectors 9 = .ok (.iconst 1, 1) := by decide +kernel
theorem dL_vectors_10 : decode cL_vectors 10 = .ok (.istore 4, 2) := by decide +kernel
theorem dL_vectors_12 : decode cL_vectors 12 = .ok (.aload_n 0, 1) := by decide +kernel
theorem dL_vectors_13 : decode cL_vectors 13 = .ok (.iconst 0, 1) := by decide +kernel
theorem dL_vectors_14 : decode cL_vectors 14 = .ok (.iload_n 3, 1) := by decide +kernel
theorem dL_vectors_15 : decode cL_vectors 15 = .ok (.aload_n 1, 1) := by decide +kernel
theorem dL_vectors_16 : decode cL_vectors 16 = .ok (.iload_n 2, 1) := by decide +kernel
theorem dL_vectors_17 : decode cL_vectors 17 = .ok (.iconst 1, 1) := by decide +kernel
theorem dL_vectors_18 : decode cL_vectors 18 = .ok (.iadd, 1) := by decide +kernel
theorem dL_vectors_19 : decode cL_vectors 19 = .ok (.bipush (-30), 2) := by decide +kernel
theorem dL_vectors_21 : decode cL_vectors 21 = .ok (.bipush 70, 2) := by decide +kernel
theorem dL_vectors_23 : decode cL_vectors 23 = .ok (.invokestatic 104, 3) := by decide +kernel
theorem dL_vectors_26 : decode cL_vectors 26 = .ok (.aload_n 0, 1) := by decide +kernel
theorem dL_vectors_27 : decode cL_vectors 27 = .ok (.iconst 1, 1) := by decide +kernel
theorem dL_vectors_28 : decode cL_vectors 28 = .ok (.iload_n 3, 1) := by decide +kernel
theorem dL_vectors_29 : decode cL_vectors 29 = .ok (.invokevirtual 90, 3) := by decide +kernel
theorem dL_vectors_32 : decode cL_vectors 32 = .ok (.pop, 1) := by decide +kernel
theorem dL_vectors_33 : decode cL_vectors 33 = .ok (.iconst 0, 1) := by decide +kernel
theorem dL_vectors_34 : decode cL_vectors 34 = .ok (.istore 5, 2) := by decide +kernel
theorem dL_vectors_36 : decode cL_vectors 36 = .ok (.iload 5, 2) := by decide +kernel
theorem dL_vectors_38 : decode cL_vectors 38 = .ok (.iload_n 3, 1) := by decide +kernel
theorem dL_vectors_39 : decode cL_vectors 39 = .ok (.iload_n 3, 1) := by decide +kernel
theorem dL_vectors_40 : decode cL_vectors 40 = .ok (.imul, 1) := by decide +kernel
theorem dL_vectors_41 : decode cL_vectors 41 = .ok (.if_icmp .ge 43, 3) := by decide +kernel
theorem dL_vectors_44 : decode cL_vectors 44 = .ok (.aload_n 0, 1) := by decide +kernel
theorem dL_vectors_45 : decode cL_vectors 45 = .ok (.iconst 1, 1) := by decide +kernel
theorem dL_vectors_46 : decode cL_vectors 46 = .ok (.iload 5, 2) := by decide +kernel
theorem dL_vectors_48 : decode cL_vectors 48 = .ok (.iload_n 3, 1) := by decide +kernel
theorem dL_vectors_49 : decode cL_vectors 49 = .ok (.idiv, 1) := by decide +kernel
theorem dL_vectors_50 : decode cL_vectors 50 = .ok (.iload 5, 2) := by decide +kernel
theorem dL_vectors_52 : decode cL_vectors 52 = .ok (.iload_n 3, 1) := by decide +kernel
theorem dL_vectors_53 : decode cL_vectors 53 = .ok (.irem, 1) := by decide +kernel
theorem dL_vectors_54 : decode cL_vectors 54 = .ok (.aload_n 1, 1) := by decide +kernel
theorem dL_vectors_55 : decode cL_vectors 55 = .ok (.iload_n 2, 1) := by decide +kernel
theorem dL_vectors_56 : decode cL_vectors 56 = .ok (.iconst 1, 1) := by decide +kernel
theorem dL_vectors_57 : decode cL_vectors 57 = .ok (.iadd, 1) := by decide +kernel
theorem dL_vectors_58 : decode cL_vectors 58 = .ok (.iload 5, 2) := by decide +kernel
theorem dL_vectors_60 : decode cL_vectors 60 = .ok (.iadd, 1) := by decide +kernel
theorem dL_vectors_61 : decode cL_vectors 61 = .ok (.ldc 93, 2) := by decide +kernel
theorem dL_vectors_63 : decode cL_vectors 63 = .ok (.invokestatic 94, 3) := by decide +kernel
theorem dL_vectors_66 : decode cL_vectors 66 = .ok (.iconst 4, 1) := by decide +kernel
theorem dL_vectors_67 : decode cL_vectors 67 = .ok (.idiv, 1) := by decide +kernel
theorem dL_vectors_68 : decode cL_vectors 68 = .ok (.bipush 70, 2) := by decide +kernel
theorem dL_vectors_70 : decode cL_vectors 70 = .ok (.irem, 1) := by decide +kernel
theorem dL_vectors_71 : decode cL_vectors 71 = .ok (.bipush 30, 2) := by decide +kernel
theorem dL_vectors_73 : decode cL_vectors 73 = .ok (.isub, 1) := by decide +kernel
theorem dL_vectors_74 : decode cL_vectors 74 = .ok (.invokevirtual 97, 3) := by decide +kernel
theorem dL_vectors_77 : decode cL_vectors 77 = .ok (.pop, 1) := by decide +kernel
theorem dL_vectors_78 : decode cL_vectors 78 = .ok (.iinc 5 1, 3) := by decide +kernel
theorem dL_vectors_81 : decode cL_vectors 81 = .ok (.goto (-45), 3) := by decide +kernel
theorem dL_vectors_84 : decode cL_vectors 84 = .ok (.iconst 0, 1) := by decide +kernel
theorem dL_vectors_85 : decode cL_vectors 85 = .ok (.istore 5, 2) := by decide +kernel
theorem dL_vectors_87 : decode cL_vectors 87 = .ok (.iload 5, 2) := by decide +kernel
theorem dL_vectors_89 : decode cL_vectors 89 = .ok (.iconst 5, 1) := by decide +kernel
theorem dL_vectors_90 : decode cL_vectors 90 = .ok (.if_icmp .ge 45, 3) := by decide +kernel
theorem dL_vectors_93 : decode cL_vectors 93 = .ok (.aload_n 0, 1) := by decide +kernel
theorem dL_vectors_94 : decode cL_vectors 94 = .ok (.iconst 0, 1) := by decide +kernel
theorem dL_vectors_95 : decode cL_vectors 95 = .ok (.iload 5, 2) := by decide +kernel
theorem dL_vectors_97 : decode cL_vectors 97 = .ok (.aload_n 1, 1) := by decide +kernel
theorem dL_vectors_98 : decode cL_vectors 98 = .ok (.iload_n 2, 1) := by decide +kernel
theorem dL_vectors_99 : decode cL_vectors 99 = .ok (.bipush 26, 2) := by decide +kernel
theorem dL_vectors_101 : decode cL_vectors 101 = .ok (.iadd, 1) := by decide +kernel
theorem dL_vectors_102 : decode cL_vectors 102 = .ok (.iload 5, 2) := by decide +kernel
theorem dL_vectors_104 : decode cL_vectors 104 = .ok (.iadd, 1) := by decide +kernel
theorem dL_vectors_105 : decode cL_vectors 105 = .ok (.sipush 1999, 3) := by decide +kernel
theorem dL_vectors_108 : decode cL_vectors 108 = .ok (.invokestatic 94, 3) := by decide +kernel
theorem dL_vectors_111 : decode cL_vectors 111 = .ok (.sipush 999, 3) := by decide +kernel
theorem dL_vectors_114 : decode cL_vectors 114 = .ok (.isub, 1) := by decide +kernel
theorem dL_vectors_115 : decode cL_vectors 115 = .ok (.invokevirtual 121, 3) := by decide +kernel
theorem dL_vectors_118 : decode cL_vectors 118 = .ok (.pop, 1) := by decide +kernel
theorem dL_vectors_119 : decode cL_vectors 119 = .ok (.aload_n 0, 1) := by decide +kernel
theorem dL_vectors_120 : decode cL_vectors 120 = .ok (.iconst 1, 1) := by decide +kernel
theorem dL_vectors_121 : decode cL_vectors 121 = .ok (.iload 5, 2) := by decide +kernel
theorem dL_vectors_123 : decode cL_vectors 123 = .ok (.bipush 7, 2) := by decide +kernel
theorem dL_vectors_125 : decode cL_vectors 125 = .ok (.invokevirtual 121, 3) := by decide +kernel
theorem dL_vectors_128 : decode cL_vectors 128 = .ok (.pop, 1) := by decide +kernel
theorem dL_vectors_129 : decode cL_vectors 129 = .ok (.iinc 5 1, 3) := by decide +kernel
theorem dL_vectors_132 : decode cL_vectors 132 = .ok (.goto (-45), 3) := by decide +kernel
theorem dL_vectors_135 : decode cL_vectors 135 = .ok (.aload_n 0, 1) := by decide +kernel
theorem dL_vectors_136 : decode cL_vectors 136 = .ok (.iconst 3, 1) := by decide +kernel
theorem dL_vectors_137 : decode cL_vectors 137 = .ok (.iconst 0, 1) := by decide +kernel
theorem dL_vectors_138 : decode cL_vectors 138 = .ok (.iconst 0, 1) := by decide +kernel
theorem dL_vectors_139 : decode cL_vectors 139 = .ok (.iconst 1, 1) := by decide +kernel
theorem dL_vectors_140 : decode cL_vectors 140 = .ok (.invokestatic 59, 3) := by decide +kernel
theorem dL_vectors_143 : decode cL_vectors 143 = .ok (.istore 5, 2) := by decide +kernel
theorem dL_vectors_145 : decode cL_vectors 145 = .ok (.iconst 1, 1) := by decide +kernel
theorem dL_vectors_146 : decode cL_vectors 146 = .ok (.istore 6, 2) := by decide +kernel
theorem dL_vectors_148 : decode cL_vectors 148 = .ok (.iconst 0, 1) := by decide +kernel
theorem dL_vectors_149 : decode cL_vectors 149 = .ok (.istore 7, 2) := by decide +kernel
theorem dL_vectors_151 : decode cL_vectors 151 = .ok (.iload 7, 2) := by decide +kernel
theorem dL_vectors_153 : decode cL_vectors 153 = .ok (.iload_n 3, 1) := by decide +kernel
theorem dL_vectors_154 : decode cL_vectors 154 = .ok (.if_icmp .ge 102, 3) := by decide +kernel
theorem dL_vectors_157 : decode cL_vectors 157 = .ok (.ldc 55, 2) := by decide +kernel
theorem dL_vectors_159 : decode cL_vectors 159 = .ok (.istore 8, 2) := by decide +kernel
theorem dL_vectors_161 : decode cL_vectors 161 = .ok (.iconst 0, 1) := by decide +kernel
theorem dL_vectors_162 : decode cL_vectors 162 = .ok (.istore 9, 2) := by decide +kernel
theorem dL_vectors_164 : decode cL_vectors 164 = .ok (.iload 9, 2) := by decide +kernel
theorem dL_vectors_166 : decode cL_vectors 166 = .ok (.iload_n 3, 1) := by decide +kernel
theorem dL_vectors_167 : decode cL_vectors 167 = .ok (.if_icmp .ge 35, 3) := by decide +kernel
theorem dL_vectors_170 : decode cL_vectors 170 = .ok (.iload 8, 2) := by decide +kernel
theorem dL_vectors_172 : decode cL_vectors 172 = .ok (.aload_n 0, 1) := by decide +kernel
theorem dL_vectors_173 : decode cL_vectors 173 = .ok (.iconst 0, 1) := by decide +kernel
theorem dL_vectors_174 : decode cL_vectors 174 = .ok (.iload 7, 2) := by decide +kernel
theorem dL_vectors_176 : decode cL_vectors 176 = .ok (.iload 9, 2) := by decide +kernel
theorem dL_vectors_178 : decode cL_vectors 178 = .ok (.invokevirtual 101, 3) := by decide +kernel
theorem dL_vectors_181 : decode cL_vectors 181 = .ok (.aload_n 0, 1) := by decide +kernel
theorem dL_vectors_182 : decode cL_vectors 182 = .ok (.iconst 1, 1) := by decide +kernel
theorem dL_vectors_183 : decode cL_vectors 183 = .ok (.iload 9, 2) := by decide +kernel
theorem dL_vectors_185 : decode cL_vectors 185 = .ok (.invokevirtual 124, 3) := by decide +kernel
theorem dL_vectors_188 : decode cL_vectors 188 = .ok (.invokestatic 83, 3) := by decide +kernel
theorem dL_vectors_191 : decode cL_vectors 191 = .ok (.invokestatic 68, 3) := by decide +kernel
theorem dL_vectors_194 : decode cL_vectors 194 = .ok (.istore 8, 2) := by decide +kernel
theorem dL_vectors_196 : decode cL_vectors 196 = .ok (.iinc 9 1, 3) := by decide +kernel
theorem dL_vectors_199 : decode cL_vectors 199 = .ok (.goto (-35), 3) := by decide +kernel
theorem dL_vectors_202 : decode cL_vectors 202 = .ok (.iload 4, 2) := by decide +kernel
theorem dL_vectors_204 : decode cL_vectors 204 = .ok (.ifCond .eq 19, 3) := by decide +kernel
theorem dL_vectors_207 : decode cL_vectors 207 = .ok (.iload 8, 2) := by decide +kernel
theorem dL_vectors_209 : decode cL_vectors 209 = .ok (.aload_n 0, 1) := by decide +kernel
theorem dL_vectors_210 : decode cL_vectors 210 = .ok (.iconst 0, 1) := by decide +kernel
theorem dL_vectors_211 : decode cL_vectors 211 = .ok (.iload 7, 2) := by decide +kernel
theorem dL_vectors_213 : decode cL_vectors 213 = .ok (.invokevirtual 124, 3) := by decide +kernel
theorem dL_vectors_216 : decode cL_vectors 216 = .ok (.if_icmp .lt 7, 3) := by decide +kernel
theorem dL_vectors_219 : decode cL_vectors 219 = .ok (.iconst 1, 1) := by decide +kernel
theorem dL_vectors_220 : decode cL_vectors 220 = .ok (.goto 4, 3) := by decide +kernel
theorem dL_vectors_223 : decode cL_vectors 223 = .ok (.iconst 0, 1) := by decide +kernel
theorem dL_vectors_224 : decode cL_vectors 224 = .ok (.istore 4, 2) := by decide +kernel
theorem dL_vectors_226 : decode cL_vectors 226 = .ok (.iload 6, 2) := by decide +kernel
theorem dL_vectors_228 : decode cL_vectors 228 = .ok (.ifCond .eq 19, 3) := by decide +kernel
theorem dL_vectors_231 : decode cL_vectors 231 = .ok (.iload 8, 2) := by decide +kernel
theorem dL_vectors_233 : decode cL_vectors 233 = .ok (.aload_n 0, 1) := by decide +kernel
theorem dL_vectors_234 : decode cL_vectors 234 = .ok (.iconst 0, 1) := by decide +kernel
theorem dL_vectors_235 : decode cL_vectors 235 = .ok (.iload 7, 2) := by decide +kernel
theorem dL_vectors_237 : decode cL_vectors 237 = .ok (.invokevirtual 124, 3) := by decide +kernel
theorem dL_vectors_240 : decode cL_vectors 240 = .ok (.if_icmp .ne 7, 3) := by decide +kernel
theorem dL_vectors_243 : decode cL_vectors 243 = .ok (.iconst 1, 1) := by decide +kernel
theorem dL_vectors_244 : decode cL_vectors 244 = .ok (.goto 4, 3) := by decide +kernel
theorem dL_vectors_247 : decode cL_vectors 247 = .ok (.iconst 0, 1) := by decide +kernel
theorem dL_vectors_248 : decode cL_vectors 248 = .ok (.istore 6, 2) := by decide +kernel
theorem dL_vectors_250 : decode cL_vectors 250 = .ok (.iinc 7 1, 3) := by decide +kernel
theorem dL_vectors_253 : decode cL_vectors 253 = .ok (.goto (-102), 3) := by decide +kernel
theorem dL_vectors_256 : decode cL_vectors 256 = .ok (.iload_n 3, 1) := by decide +kernel
theorem dL_vectors_257 : decode cL_vectors 257 = .ok (.istore 7, 2) := by decide +kernel
theorem dL_vectors_259 : decode cL_vectors 259 = .ok (.iload 7, 2) := by decide +kernel
theorem dL_vectors_261 : decode cL_vectors 261 = .ok (.iconst 5, 1) := by decide +kernel
theorem dL_vectors_262 : decode cL_vectors 262 = .ok (.if_icmp .ge 33, 3) := by decide +kernel
theorem dL_vectors_265 : decode cL_vectors 265 = .ok (.iload 4, 2) := by decide +kernel
theorem dL_vectors_267 : decode cL_vectors 267 = .ok (.ifCond .eq 19, 3) := by decide +kernel
theorem dL_vectors_270 : decode cL_vectors 270 = .ok (.aload_n 0, 1) := by decide +kernel
theorem dL_vectors_271 : decode cL_vectors 271 = .ok (.iconst 1, 1) := by decide +kernel
theorem dL_vectors_272 : decode cL_vectors 272 = .ok (.iload 7, 2) := by decide +kernel
theorem dL_vectors_274 : decode cL_vectors 274 = .ok (.invokevirtual 124, 3) := by decide +kernel
theorem dL_vectors_277 : decode cL_vectors 277 = .ok (.bipush 7, 2) := by decide +kernel
theorem dL_vectors_279 : decode cL_vectors 279 = .ok (.if_icmp .ne 7, 3) := by decide +kernel
theorem dL_vectors_282 : decode cL_vectors 282 = .ok (.iconst 1, 1) := by decide +kernel
theorem dL_vectors_283 : decode cL_vectors 283 = .ok (.goto 4, 3) := by decide +kernel
theorem dL_vectors_286 : decode cL_vectors 286 = .ok (.iconst 0, 1) := by decide +kernel
theorem dL_vectors_287 : decode cL_vectors 287 = .ok (.istore 4, 2) := by decide +kernel
theorem dL_vectors_289 : decode cL_vectors 289 = .ok (.iinc 7 1, 3) := by decide +kernel
theorem dL_vectors_292 : decode cL_vectors 292 = .ok (.goto (-33), 3) := by decide +kernel
theorem dL_vectors_295 : decode cL_vectors 295 = .ok (.aload_n 0, 1) := by decide +kernel
theorem dL_vectors_296 : decode cL_vectors 296 = .ok (.iconst 4, 1) := by decide +kernel
theorem dL_vectors_297 : decode cL_vectors 297 = .ok (.iconst 1, 1) := by decide +kernel
theorem dL_vectors_298 : decode cL_vectors 298 = .ok (.iconst 0, 1) := by decide +kernel
theorem dL_vectors_299 : decode cL_vectors 299 = .ok (.iconst 2, 1) := by decide +kernel
theorem dL_vectors_300 : decode cL_vectors 300 = .ok (.invokestatic 59, 3) := by decide +kernel
theorem dL_vectors_303 : decode cL_vectors 303 = .ok (.iconst 1, 1) := by decide +kernel
theorem dL_vectors_304 : decode cL_vectors 304 = .ok (.if_icmp .ne 7, 3) := by decide +kernel
theorem dL_vectors_307 : decode cL_vectors 307 = .ok (.iconst 1, 1) := by decide +kernel
theorem dL_vectors_308 : decode cL_vectors 308 = .ok (.goto 4, 3) := by decide +kernel
theorem dL_vectors_311 : decode cL_vectors 311 = .ok (.iconst 0, 1) := by decide +kernel
theorem dL_vectors_312 : decode cL_vectors 312 = .ok (.istore 7, 2) := by decide +kernel
theorem dL_vectors_314 : decode cL_vectors 314 = .ok (.iconst 0, 1) := by decide +kernel
theorem dL_vectors_315 : decode cL_vectors 315 = .ok (.istore 8, 2) := by decide +kernel
theorem dL_vectors_317 : decode cL_vectors 317 = .ok (.iload 8, 2) := by decide +kernel
theorem dL_vectors_319 : decode cL_vectors 319 = .ok (.iload_n 3, 1) := by decide +kernel
theorem dL_vectors_320 : decode cL_vectors 320 = .ok (.if_icmp .ge 80, 3) := by decide +kernel
theorem dL_vectors_323 : decode cL_vectors 323 = .ok (.iload 7, 2) := by decide +kernel
theorem dL_vectors_325 : decode cL_vectors 325 = .ok (.ifCond .eq 24, 3) := by decide +kernel
theorem dL_vectors_328 : decode cL_vectors 328 = .ok (.aload_n 0, 1) := by decide +kernel
theorem dL_vectors_329 : decode cL_vectors 329 = .ok (.iconst 2, 1) := by decide +kernel
theorem dL_vectors_330 : decode cL_vectors 330 = .ok (.iload 8, 2) := by decide +kernel
theorem dL_vectors_332 : decode cL_vectors 332 = .ok (.invokevirtual 124, 3) := by decide +kernel
theorem dL_vectors_335 : decode cL_vectors 335 = .ok (.aload_n 0, 1) := by decide +kernel
theorem dL_vectors_336 : decode cL_vectors 336 = .ok (.iconst 0, 1) := by decide +kernel
theorem dL_vectors_337 : decode cL_vectors 337 = .ok (.iload 8, 2) := by decide +kernel
theorem dL_vectors_339 : decode cL_vectors 339 = .ok (.invokevirtual 124, 3) := by decide +kernel
theorem dL_vectors_342 : decode cL_vectors 342 = .ok (.if_icmp .ne 7, 3) := by decide +kernel
theorem dL_vectors_345 : decode cL_vectors 345 = .ok (.iconst 1, 1) := by decide +kernel
theorem dL_vectors_346 : decode cL_vectors 346 = .ok (.goto 4, 3) := by decide +kernel
theorem dL_vectors_349 : decode cL_vectors 349 = .ok (.iconst 0, 1) := by decide +kernel
theorem dL_vectors_350 : decode cL_vectors 350 = .ok (.istore 7, 2) := by decide +kernel
theorem dL_vectors_352 : decode cL_vectors 352 = .ok (.iload 4, 2) := by decide +kernel
theorem dL_vectors_354 : decode cL_vectors 354 = .ok (.ifCond .eq 37, 3) := by decide +kernel
theorem dL_vectors_357 : decode cL_vectors 357 = .ok (.aload_n 0, 1) := by decide +kernel
theorem dL_vectors_358 : decode cL_vectors 358 = .ok (.iconst 2, 1) := by decide +kernel
theorem dL_vectors_359 : decode cL_vectors 359 = .ok (.iload 8, 2) := by decide +kernel
theorem dL_vectors_361 : decode cL_vectors 361 = .ok (.invokevirtual 124, 3) := by decide +kernel
theorem dL_vectors_364 : decode cL_vectors 364 = .ok (.aload_n 0, 1) := by decide +kernel
theorem dL_vectors_365 : decode cL_vectors 365 = .ok (.iconst 0, 1) := by decide +kernel
theorem dL_vectors_366 : decode cL_vectors 366 = .ok (.iload 8, 2) := by decide +kernel
theorem dL_vectors_368 : decode cL_vectors 368 = .ok (.invokevirtual 124, 3) := by decide +kernel
theorem dL_vectors_371 : decode cL_vectors 371 = .ok (.if_icmp .lt 20, 3) := by decide +kernel
theorem dL_vectors_374 : decode cL_vectors 374 = .ok (.aload_n 0, 1) := by decide +kernel
theorem dL_vectors_375 : decode cL_vectors 375 = .ok (.iconst 0, 1) := by decide +kernel
theorem dL_vectors_376 : decode cL_vectors 376 = .ok (.iload 8, 2) := by decide +kernel
theorem dL_vectors_378 : decode cL_vectors 378 = .ok (.invokevirtual 124, 3) := by decide +kernel
theorem dL_vectors_381 : decode cL_vectors 381 = .ok (.sipush 1000, 3) := by decide +kernel
theorem dL_vectors_384 : decode cL_vectors 384 = .ok (.if_icmp .ge 7, 3) := by decide +kernel
theorem dL_vectors_387 : decode cL_vectors 387 = .ok (.iconst 1, 1) := by decide +kernel
theorem dL_vectors_388 : decode cL_vectors 388 = .ok (.goto 4, 3) := by decide +kernel
theorem dL_vectors_391 : decode cL_vectors 391 = .ok (.iconst 0, 1) := by decide +kernel
theorem dL_vectors_392 : decode cL_vectors 392 = .ok (.istore 4, 2) := by decide +kernel
theorem dL_vectors_394 : decode cL_vectors 394 = .ok (.iinc 8 1, 3) := by decide +kernel
theorem dL_vectors_397 : decode cL_vectors 397 = .ok (.goto (-80), 3) := by decide +kernel
theorem dL_vectors_400 : decode cL_vectors 400 = .ok (.iload 4, 2) := by decide +kernel
theorem dL_vectors_402 : decode cL_vectors 402 = .ok (.ifCond .eq 75, 3) := by decide +kernel
theorem dL_vectors_405 : decode cL_vectors 405 = .ok (.iload 5, 2) := by decide +kernel
theorem dL_vectors_407 : decode cL_vectors 407 = .ok (.iload 6, 2) := by decide +kernel
theorem dL_vectors_409 : decode cL_vectors 409 = .ok (.ifCond .eq 7, 3) := by decide +kernel
theorem dL_vectors_412 : decode cL_vectors 412 = .ok (.iconst 1, 1) := by decide +kernel
theorem dL_vectors_413 : decode cL_vectors 413 = .ok (.goto 4, 3) := by decide +kernel
theorem dL_vectors_416 : decode cL_vectors 416 = .ok (.iconst 0, 1) := by decide +kernel
theorem dL_vectors_417 : decode cL_vectors 417 = .ok (.if_icmp .ne 60, 3) := by decide +kernel
theorem dL_vectors_420 : decode cL_vectors 420 = .ok (.iload 7, 2) := by decide +kernel
theorem dL_vectors_422 : decode cL_vectors 422 = .ok (.aload_n 0, 1) := by decide +kernel
theorem dL_vectors_423 : decode cL_vectors 423 = .ok (.iconst 4, 1) := by decide +kernel
theorem dL_vectors_424 : decode cL_vectors 424 = .ok (.iconst 1, 1) := by decide +kernel
theorem dL_vectors_425 : decode cL_vectors 425 = .ok (.iconst 0, 1) := by decide +kernel
theorem dL_vectors_426 : decode cL_vectors 426 = .ok (.iconst 3, 1) := by decide +kernel
theorem dL_vectors_427 : decode cL_vectors 427 = .ok (.invokestatic 59, 3) := by decide +kernel
theorem dL_vectors_430 : decode cL_vectors 430 = .ok (.iconst 1, 1) := by decide +kernel
theorem dL_vectors_431 : decode cL_vectors 431 = .ok (.if_icmp .ne 7, 3) := by decide +kernel
theorem dL_vectors_434 : decode cL_vectors 434 = .ok (.iconst 1, 1) := by decide +kernel
theorem dL_vectors_435 : decode cL_vectors 435 = .ok (.goto 4, 3) := by decide +kernel
theorem dL_vectors_438 : decode cL_vectors 438 = .ok (.iconst 0, 1) := by decide +kernel
theorem dL_vectors_439 : decode cL_vectors 439 = .ok (.if_icmp .ne 38, 3) := by decide +kernel
theorem dL_vectors_442 : decode cL_vectors 442 = .ok (.aload_n 0, 1) := by decide +kernel
theorem dL_vectors_443 : decode cL_vectors 443 = .ok (.iconst 4, 1) := by decide +kernel
theorem dL_vectors_444 : decode cL_vectors 444 = .ok (.iconst 1, 1) := by decide +kernel
theorem dL_vectors_445 : decode cL_vectors 445 = .ok (.iconst 2, 1) := by decide +kernel
theorem dL_vectors_446 : decode cL_vectors 446 = .ok (.iconst 3, 1) := by decide +kernel
theorem dL_vectors_447 : decode cL_vectors 447 = .ok (.invokestatic 59, 3) := by decide +kernel
theorem dL_vectors_450 : decode cL_vectors 450 = .ok (.iconst 1, 1) := by decide +kernel
theorem dL_vectors_451 : decode cL_vectors 451 = .ok (.if_icmp .ne 26, 3) := by decide +kernel
theorem dL_vectors_454 : decode cL_vectors 454 = .ok (.aload_n 0, 1) := by decide +kernel
theorem dL_vectors_455 : decode cL_vectors 455 = .ok (.iconst 3, 1) := by decide +kernel
theorem dL_vectors_456 : decode cL_vectors 456 = .ok (.iload_n 3, 1) := by decide +kernel
theorem dL_vectors_457 : decode cL_vectors 457 = .ok (.iconst 1, 1) := by decide +kernel
theorem dL_vectors_458 : decode cL_vectors 458 = .ok (.isub, 1) := by decide +kernel
theorem dL_vectors_459 : decode cL_vectors 459 = .ok (.invokevirtual 124, 3) := by decide +kernel
theorem dL_vectors_462 : decode cL_vectors 462 = .ok (.aload_n 0, 1) := by decide +kernel
theorem dL_vectors_463 : decode cL_vectors 463 = .ok (.iconst 2, 1) := by decide +kernel
theorem dL_vectors_464 : decode cL_vectors 464 = .ok (.iload_n 3, 1) := by decide +kernel
theorem dL_vectors_465 : decode cL_vectors 465 = .ok (.iconst 1, 1) := by decide +kernel
theorem dL_vectors_466 : decode cL_vectors 466 = .ok (.isub, 1) := by decide +kernel
theorem dL_vectors_467 : decode cL_vectors 467 = .ok (.invokevirtual 124, 3) := by decide +kernel
theorem dL_vectors_470 : decode cL_vectors 470 = .ok (.if_icmp .ne 7, 3) := by decide +kernel
theorem dL_vectors_473 : decode cL_vectors 473 = .ok (.iconst 1, 1) := by decide +kernel
theorem dL_vectors_474 : decode cL_vectors 474 = .ok (.goto 4, 3) := by decide +kernel
theorem dL_vectors_477 : decode cL_vectors 477 = .ok (.iconst 0, 1) := by decide +kernel
theorem dL_vectors_478 : decode cL_vectors 478 = .ok (.ireturn, 1) := by decide +kernel
set_option maxRecDepth 20000 in
theorem ggL_isReduced_L_asks : GoodIn wsL_isReduced wsL_asks := goodIn_ca (goodIn_ca (goodIn_ca (goodIn_r _ [6, 7, 8, 9, 2, 10, 11, 12, 13, 14, 15, 16, 17, 18, 19, 20, 21, 22, 23, 24, 25, 26, 27, 28, 29, 30, 31, 32, 33, 34, 35, 36, 37, 38, 39, 40, 41, 42, 43, 44, 45, 46, 47, 48, 49, 50, 51, 52, 53, 54, 55, 56, 57, 58, 59, 60, 61, 62, 63, 64, 65, 66, 67, 68, 69, 70, 71, 72, 73, 74, 75, 76, 77, 78, 79, 80, 81, 82, 83, 84, 85, 86, 87, 88, 89, 90, 91, 92, 93, 94, 95, 96, 97, 98, 99, 100, 101, 102, 103, 104, 105, 106, 107, 108, 109, 110, 111, 112, 113, 114, 115, 116, 117, 118, 119, 120, 121, 122, 123, 124, 125, 126, 127, 128, 129, 130, 131, 132, 133, 134, 135, 136, 137, 138, 139, 140, 141, 142, 143, 144, 145, 146, 147, 148, 149, 150, 151, 152, 153, 154, 155, 156, 157, 158, 159, 160, 161, 162, 163, 164, 165, 166, 167, 168, 169, 170, 171, 172, 173, 174, 175, 176, 177, 178, 179, 180, 181, 182, 183, 184, 185, 186, 187, 188, 189, 190, 191, 192, 193, 194, 195, 196, 197, 198, 199, 200, 201, 202, 203, 204, 205, 206, 207, 208, 209, 210, 211, 212, 213, 214, 215, 216, 217, 218, 219, 220, 221, 222, 223, 224, 225, 226, 227, 228, 229, 230, 231, 232, 233, 234, 235, 236, 237, 238, 239, 240, 241, 242, 243, 244, 245, 246, 247, 248, 249, 250, 251, 252, 253, 254, 255, 256, 257, 258, 259, 260, 261, 262, 263, 264, 265, 266, 267, 268, 269, 270, 271, 272, 273, 274, 275, 276, 277, 278, 279, 280, 281, 282, 283, 284, 285, 286, 287, 288, 289, 290, 291, 292, 293, 294, 295, 296, 297, 298, 299, 300, 301, 302, 303, 304, 305, 306, 307, 308, 309, 310, 311, 312, 313, 314, 315, 316, 317, 318, 319, 320, 321, 322, 323, 324, 325, 326, 327, 328, 329, 330, 331, 332, 333, 334, 335, 336, 337, 338, 339, 340, 341] (by decide +kernel) (by decide +kernel)) (goodIn_sub (fun _ h => List.mem_cons_of_mem _ (List.mem_append_left _ (List.mem_append_left _ (List.mem_append_right _ h)))) (by decide +kernel))) (goodIn_sub (fun _ h => List.mem_cons_of_mem _ (List.mem_append_left _ (List.mem_append_right _ h))) (by decide +kernel))) (goodIn_sub (fun _ h => List.mem_cons_of_mem _ (List.mem_append_right _ h)) (by decide +kernel))
set_option maxRecDepth 20000 in
theorem gL_isReduced_L_asks : GoodIn wsL_isReduced (va_wsS RL 59 yL_asks wsL_asks) := goodIn_app (goodIn_of _ (by decide +kernel)) ggL_isReduced_L_asks
theorem dL_isReduced_0 : decode cL_isReduced 0 = .ok (.iconst 5, 1) := by decide +kernel
theorem dL_isReduced_1 : decode cL_isReduced 1 = .ok (.newarray .int, 2) := by decide +kernel
theorem dL_isReduced_3 : decode cL_isReduced 3 = .ok (.astore_n 3, 1) := by decide +kernel
theorem dL_isReduced_4 : decode cL_isReduced 4 = .ok (.iconst 0, 1) := by decide +kernel
theorem dL_isReduced_5 : decode cL_isReduced 5 = .ok (.istore 4, 2) := by decide +kernel
theorem dL_isReduced_7 : decode cL_isReduced 7 = .ok (.iconst 1, 1) := by decide +kernel
theorem dL_isReduced_8 : decode cL_isReduced 8 = .ok (.istore 5, 2) := by decide +kernel
theorem dL_isReduced_10 : decode cL_isReduced 10 = .ok (.iconst 0, 1) := by decide +kernel
theorem dL_isReduced_11 : decode cL_isReduced 11 = .ok (.istore 6, 2) := by decide +kernel
theorem dL_isReduced_13 : decode cL_isReduced 13 = .ok (.iload 6, 2) := by decide +kernel
theorem dL_isReduced_15 : decode cL_isReduced 15 = .ok (.iconst 5, 1) := by decide +kernel
theorem dL_isReduced_16 : decode cL_isReduced 16 = .ok (.if_icmp .ge 72, 3) := by decide +kernel
theorem dL_isReduced_19 : decode cL_isReduced 19 = .ok (.aload_n 0, 1) := by decide +kernel
theorem dL_isReduced_20 : decode cL_isReduced 20 = .ok (.bipush 7, 2) := by decide +kernel
theorem dL_isReduced_22 : decode cL_isReduced 22 = .ok (.iload_n 1, 1) := by decide +kernel
theorem dL_isReduced_23 : decode cL_isReduced 23 = .ok (.iload 6, 2) := by decide +kernel
theorem dL_isReduced_25 : decode cL_isReduced 25 = .ok (.iconst 0, 1) := by decide +kernel
theorem dL_isReduced_26 : decode cL_isReduced 26 = .ok (.invokestatic 59, 3) := by decide +kernel
theorem dL_isReduced_29 : decode cL_isReduced 29 = .ok (.istore 7, 2) := by decide +kernel
theorem dL_isReduced_31 : decode cL_isReduced 31 = .ok (.aload_n 3, 1) := by decide +kernel
theorem dL_isReduced_32 : decode cL_isReduced 32 = .ok (.iload 6, 2) := by decide +kernel
theorem dL_isReduced_34 : decode cL_isReduced 34 = .ok (.iload 7, 2) := by decide +kernel
theorem dL_isReduced_36 : decode cL_isReduced 36 = .ok (.ldc 52, 2) := by decide +kernel
theorem dL_isReduced_38 : decode cL_isReduced 38 = .ok (.if_icmp .ne 7, 3) := by decide +kernel
theorem dL_isReduced_41 : decode cL_isReduced 41 = .ok (.iconst 0, 1) := by decide +kernel
theorem dL_isReduced_42 : decode cL_isReduced 42 = .ok (.goto 5, 3) := by decide +kernel
theorem dL_isReduced_45 : decode cL_isReduced 45 = .ok (.iload 7, 2) := by decide +kernel
theorem dL_isReduced_47 : decode cL_isReduced 47 = .ok (.iastore, 1) := by decide +kernel
theorem dL_isReduced_48 : decode cL_isReduced 48 = .ok (.iload 4, 2) := by decide +kernel
theorem dL_isReduced_50 : decode cL_isReduced 50 = .ok (.aload_n 3, 1) := by decide +kernel
theorem dL_isReduced_51 : decode cL_isReduced 51 = .ok (.iload 6, 2) := by decide +kernel
theorem dL_isReduced_53 : decode cL_isReduced 53 = .ok (.iaload, 1) := by decide +kernel
theorem dL_isReduced_54 : decode cL_isReduced 54 = .ok (.iadd, 1) := by decide +kernel
theorem dL_isReduced_55 : decode cL_isReduced 55 = .ok (.istore 4, 2) := by decide +kernel
theorem dL_isReduced_57 : decode cL_isReduced 57 = .ok (.iload 5, 2) := by decide +kernel
theorem dL_isReduced_59 : decode cL_isReduced 59 = .ok (.ifCond .eq 20, 3) := by decide +kernel
theorem dL_isReduced_62 : decode cL_isReduced 62 = .ok (.iload 6, 2) := by decide +kernel
theorem dL_isReduced_64 : decode cL_isReduced 64 = .ok (.iload_n 1, 1) := by decide +kernel
theorem dL_isReduced_65 : decode cL_isReduced 65 = .ok (.if_icmp .eq 10, 3) := by decide +kernel
theorem dL_isReduced_68 : decode cL_isReduced 68 = .ok (.aload_n 3, 1) := by decide +kernel
theorem dL_isReduced_69 : decode cL_isReduced 69 = .ok (.iload 6, 2) := by decide +kernel
theorem dL_isReduced_71 : decode cL_isReduced 71 = .ok (.iaload, 1) := by decide +kernel
theorem dL_isReduced_72 : decode cL_isReduced 72 = .ok (.ifCond .lt 7, 3) := by decide +kernel
theorem dL_isReduced_75 : decode cL_isReduced 75 = .ok (.iconst 1, 1) := by decide +kernel
theorem dL_isReduced_76 : decode cL_isReduced 76 = .ok (.goto 4, 3) := by decide +kernel
theorem dL_isReduced_79 : decode cL_isReduced 79 = .ok (.iconst 0, 1) := by decide +kernel
theorem dL_isReduced_80 : decode cL_isReduced 80 = .ok (.istore 5, 2) := by decide +kernel
theorem dL_isReduced_82 : decode cL_isReduced 82 = .ok (.iinc 6 1, 3) := by decide +kernel
theorem dL_isReduced_85 : decode cL_isReduced 85 = .ok (.goto (-72), 3) := by decide +kernel
theorem dL_isReduced_88 : decode cL_isReduced 88 = .ok (.iload 5, 2) := by decide +kernel
theorem dL_isReduced_90 : decode cL_isReduced 90 = .ok (.ifCond .eq 13, 3) := by decide +kernel
theorem dL_isReduced_93 : decode cL_isReduced 93 = .ok (.iload 4, 2) := by decide +kernel
theorem dL_isReduced_95 : decode cL_isReduced 95 = .ok (.iload_n 2, 1) := by decide +kernel
theorem dL_isReduced_96 : decode cL_isReduced 96 = .ok (.if_icmp .ne 7, 3) := by decide +kernel
theorem dL_isReduced_99 : decode cL_isReduced 99 = .ok (.iconst 1, 1) := by decide +kernel
theorem dL_isReduced_100 : decode cL_isReduced 100 = .ok (.goto 4, 3) := by decide +kernel
theorem dL_isReduced_103 : decode cL_isReduced 103 = .ok (.iconst 0, 1) := by decide +kernel
theorem dL_isReduced_104 : decode cL_isReduced 104 = .ok (.ireturn, 1) := by decide +kernel
set_option maxRecDepth 20000 in
theorem ggL_chips_L_draw : GoodIn wsL_chips wsL_draw := goodIn_r _ [6, 7, 8, 9] (by decide +kernel) (by decide +kernel)
set_option maxRecDepth 20000 in
theorem gL_chips_L_draw : GoodIn wsL_chips (va_wsS RL 94 yL_draw wsL_draw) := goodIn_app (goodIn_of _ (by decide +kernel)) ggL_chips_L_draw
set_option maxRecDepth 20000 in
theorem ggL_chips_X5_edges : GoodIn wsL_chips wsX5_edges := goodIn_ca (goodIn_ca (goodIn_r _ [14, 15, 16, 17, 18, 19, 13, 20, 21, 22, 23, 24, 25, 365, 366, 367, 368, 369, 370, 371, 372, 373, 374, 375, 376, 377, 378, 379] (by decide +kernel) (by decide +kernel)) (goodIn_sub (fun _ h => List.mem_cons_of_mem _ (List.mem_append_left _ (List.mem_append_left _ (List.mem_append_right _ h)))) (by decide +kernel))) (goodIn_sub (fun _ h => List.mem_cons_of_mem _ (List.mem_append_left _ (List.mem_append_right _ h))) (by decide +kernel))
set_option maxRecDepth 20000 in
theorem gL_chips_X5_edges : GoodIn wsL_chips (wsV RL 128 RX5 yX5_edges wsX5_edges) := goodIn_app (goodIn_of _ (by decide +kernel)) ggL_chips_X5_edges
set_option maxRecDepth 20000 in
theorem ggL_chips_X5_chips : GoodIn wsL_chips wsX5_chips := goodIn_ca (goodIn_ca (goodIn_r _ [29, 17, 18, 19, 13, 20, 21, 22, 23, 24, 25, 15, 16, 365, 366, 367, 368, 369, 370, 371, 372, 373, 374, 375, 376, 377, 378, 379] (by decide +kernel) (by decide +kernel)) (goodIn_sub (fun _ h => List.mem_cons_of_mem _ (List.mem_append_left _ (List.mem_append_right _ h))) (by decide +kernel))) (goodIn_sub (fun _ h => List.mem_cons_of_mem _ (List.mem_append_left _ (List.mem_append_left _ (List.mem_append_right _ h)))) (by decide +kernel))
set_option maxRecDepth 20000 in
theorem gL_chips_X5_chips : GoodIn wsL_chips (wsV RL 131 RX5 yX5_chips wsX5_chips) := goodIn_app (goodIn_of _ (by decide +kernel)) ggL_chips_X5_chips
set_option maxRecDepth 20000 in
theorem ggL_chips_X5_graph : GoodIn wsL_chips wsX5_graph := goodIn_ca (goodIn_r _ [33, 17, 23, 24, 13, 25, 15, 16, 34, 35, 36, 37, 38, 39, 40, 41, 42, 43, 44, 45, 46, 47, 48, 49, 50, 51, 52, 53, 54, 55, 56, 57, 58, 59, 60, 61, 62, 63, 64, 65, 66, 67, 68, 69, 70, 71, 72, 73, 74, 75, 76, 77, 78, 79, 80, 81, 82, 83, 84, 85, 86, 87, 88, 89, 90, 91, 92, 93, 94, 95, 96, 97, 98, 99, 100, 101, 102, 103, 104, 105, 106, 107, 108, 109, 110, 365, 366, 367, 368, 369, 370, 371, 372, 373, 374, 375, 376, 377, 378, 379] (by decide +kernel) (by decide +kernel)) (goodIn_sub (fun _ h => List.mem_cons_of_mem _ (List.mem_append_left _ (List.mem_append_left _ (List.mem_append_right _ h)))) (by decide +kernel))
set_option maxRecDepth 20000 in
theorem gL_chips_X5_graph : GoodIn wsL_chips (wsV RL 134 RX5 yX5_graph wsX5_graph) := goodIn_app (goodIn_of _ (by decide +kernel)) ggL_chips_X5_graph
set_option maxRecDepth 20000 in
theorem ggL_chips_L_asks : GoodIn wsL_chips wsL_asks := goodIn_ca (goodIn_ca (goodIn_ca (goodIn_r _ [113, 114, 115, 116, 2, 117, 118, 119, 13, 120, 121, 122, 123, 124, 125, 126, 127, 18, 19, 20, 21, 22, 128, 129, 130, 131, 132, 133, 134, 135, 136, 137, 138, 139, 140, 141, 142, 143, 144, 105, 145, 146, 147, 148, 149, 150, 151, 152, 153, 154, 155, 156, 157, 158, 159, 82, 83, 84, 160, 161, 162, 163, 164, 165, 166, 167, 168, 169, 170, 171, 172, 173, 174, 175, 176, 177, 178, 179, 180, 181, 182, 183, 184, 185, 186, 187, 188, 189, 190, 191, 192, 193, 194, 195, 196, 197, 198, 199, 200, 201, 202, 203, 204, 205, 206, 207, 208, 209, 210, 211, 212, 213, 214, 215, 216, 217, 218, 219, 220, 221, 222, 223, 104, 106, 224, 225, 226, 227, 228, 229, 230, 231, 232, 233, 234, 235, 236, 237, 238, 239, 240, 241, 242, 243, 244, 245, 246, 247, 248, 249, 250, 251, 252, 253, 254, 255, 256, 17, 257, 258, 259, 260, 62, 63, 64, 37, 65, 66, 67, 68, 69, 70, 47, 48, 49, 50, 51, 39, 40, 41, 42, 43, 44, 45, 46, 71, 72, 73, 74, 75, 76, 77, 78, 79, 80, 81, 261, 262, 263, 264, 85, 86, 87, 88, 89, 90, 91, 92, 265, 266, 267, 268, 103, 269, 270, 271, 272, 273, 274, 275, 276, 277, 278, 279, 280, 281, 282, 283, 284, 285, 286, 287, 288, 289, 290, 291, 292, 293, 294, 295, 296, 57, 58, 59, 60, 53, 54, 55, 61, 35, 36, 38, 297, 298, 299, 300, 301, 302, 303, 304, 305, 306, 307, 308, 309, 310, 311, 312, 313, 314, 315, 316, 317, 318, 319, 320, 321, 322, 323, 324, 325, 326, 327, 328, 329, 330, 331, 332, 333, 334, 335, 336, 337, 338, 339, 340, 341, 342, 343, 344, 345, 23, 24, 25, 15, 16, 346, 347, 348, 349, 350, 351, 352, 353, 354, 355, 356, 365, 366, 367, 368, 369, 370, 371, 372, 373, 374, 380, 381, 382, 375, 376, 377, 378, 379, 383, 384] (by decide +kernel) (by decide +kernel)) (goodIn_sub (fun _ h => List.mem_cons_of_mem _ (List.mem_append_right _ h)) (by decide +kernel))) (goodIn_sub (fun _ h => List.mem_cons_of_mem _ (List.mem_append_left _ (List.mem_append_right _ h))) (by decide +kernel))) (goodIn_sub (fun _ h => List.mem_cons_of_mem _ (List.mem_append_left _ (List.mem_append_left _ (List.mem_append_right _ h)))) (by decide +kernel))
set_option maxRecDepth 20000 in
theorem gL_chips_L_asks : GoodIn wsL_chips (va_wsS RL 59 yL_asks wsL_asks) := goodIn_app (goodIn_of _ (by decide +kernel)) ggL_chips_L_asks
set_option maxRecDepth 20000 in
theorem ggL_chips_L_isReduced : GoodIn wsL_chips wsL_isReduced := goodIn_ca (goodIn_ca (goodIn_ca (goodIn_r _ [359, 360, 2, 111, 112, 5, 113, 114, 115, 116, 117, 118, 119, 13, 120, 121, 122, 123, 124, 125, 126, 127, 18, 19, 20, 21, 22, 128, 129, 130, 131, 132, 133, 134, 135, 136, 137, 138, 139, 140, 141, 142, 143, 144, 105, 145, 146, 147, 148, 149, 150, 151, 152, 153, 154, 155, 156, 157, 158, 159, 82, 83, 84, 160, 161, 162, 163, 164, 165, 166, 167, 168, 169, 170, 171, 172, 173, 174, 175, 176, 177, 178, 179, 180, 181, 182, 183, 184, 185, 186, 187, 188, 189, 190, 191, 192, 193, 194, 195, 196, 197, 198, 199, 200, 201, 202, 203, 204, 205, 206, 207, 208, 209, 210, 211, 212, 213, 214, 215, 216, 217, 218, 219, 220, 221, 222, 223, 104, 106, 224, 225, 226, 227, 228, 229, 230, 231, 232, 233, 234, 235, 236, 237, 238, 239, 240, 241, 242, 243, 244, 245, 246, 247, 248, 249, 250, 251, 252, 253, 254, 255, 256, 17, 257, 258, 259, 260, 62, 63, 64, 37, 65, 66, 67, 68, 69, 70, 47, 48, 49, 50, 51, 39, 40, 41, 42, 43, 44, 45, 46, 71, 72, 73, 74, 75, 76, 77, 78, 79, 80, 81, 261, 262, 263, 264, 85, 86, 87, 88, 89, 90, 91, 92, 265, 266, 267, 268, 103, 269, 270, 271, 272, 273, 274, 275, 276, 277, 278, 279, 280, 281, 282, 283, 284, 285, 286, 287, 288, 289, 290, 291, 292, 293, 294, 295, 296, 57, 58, 59, 60, 53, 54, 55, 61, 35, 36, 38, 297, 298, 299, 300, 301, 302, 303, 304, 305, 306, 307, 308, 309, 310, 311, 312, 313, 314, 315, 316, 317, 318, 319, 320, 321, 322, 323, 324, 325, 326, 327, 328, 329, 330, 331, 332, 333, 334, 335, 336, 337, 338, 339, 340, 341, 342, 343, 344, 345, 23, 24, 25, 15, 16, 346, 347, 348, 349, 350, 351, 352, 353, 354, 355, 356, 365, 366, 367, 368, 369, 370, 371, 372, 373, 374, 380, 381, 382, 375, 376, 377, 378, 379, 383, 384] (by decide +kernel) (by decide +kernel)) (goodIn_sub (fun _ h => List.mem_cons_of_mem _ (List.mem_append_right _ h)) (by decide +kernel))) (goodIn_sub (fun _ h => List.mem_cons_of_mem _ (List.mem_append_left _ (List.mem_append_right _ h))) (by decide +kernel))) (goodIn_sub (fun _ h => List.mem_cons_of_mem _ (List.mem_append_left _ (List.mem_append_left _ (List.mem_append_right _ h)))) (by decide +kernel))
set_option maxRecDepth 20000 in
theorem gL_chips_L_isReduced : GoodIn wsL_chips (va_wsS RL 137 yL_isReduced wsL_isReduced) := goodIn_app (goodIn_of _ (by decide +kernel)) ggL_chips_L_isReduced
set_option maxRecDepth 20000 in
theorem ggL_chips_X5_chipsAt : GoodIn wsL_chips wsX5_chipsAt := goodIn_ca (goodIn_r _ [364, 17, 18, 19, 13, 20, 21, 22, 365, 366, 367, 368, 369, 370, 371, 372, 373, 374, 375, 376, 377, 378, 379] (by decide +kernel) (by decide +kernel)) (goodIn_sub (fun _ h => List.mem_cons_of_mem _ (List.mem_append_left _ (List.mem_append_right _ h))) (by decide +kernel))
set_option maxRecDepth 20000 in
theorem gL_chips_X5_chipsAt : GoodIn wsL_chips (wsV RL 141 RX5 yX5_chipsAt wsX5_chipsAt) := goodIn_app (goodIn_of _ (by decide +kernel)) ggL_chips_X5_chipsAt
theorem dL_chips_0 : decode cL_chips 0 = .ok (.aload_n 1, 1) := by decide +kernel
theorem dL_chips_1 : decode cL_chips 1 = .ok (.iload_n 2, 1) := by decide +kernel
theorem dL_chips_2 : decode cL_chips 2 = .ok (.ldc 127, 2) := by decide +kernel
theorem dL_chips_4 : decode cL_chips 4 = .ok (.invokestatic 94, 3) := by decide +kernel
theorem dL_chips_7 : decode cL_chips 7 = .ok (.istore_n 3, 1) := by decide +kernel
theorem dL_chips_8 : decode cL_chips 8 = .ok (.iconst 1, 1) := by decide +kernel
theorem dL_chips_9 : decode cL_chips 9 = .ok (.istore 4, 2) := by decide +kernel
theorem dL_chips_11 : decode cL_chips 11 = .ok (.iconst 0, 1) := by decide +kernel
theorem dL_chips_12 : decode cL_chips 12 = .ok (.istore 5, 2) := by decide +kernel
theorem dL_chips_14 : decode cL_chips 14 = .ok (.iload 5, 2) := by decide +kernel
theorem dL_chips_16 : decode cL_chips 16 = .ok (.bipush 10, 2) := by decide +kernel
theorem dL_chips_18 : decode cL_chips 18 = .ok (.if_icmp .ge 175, 3) := by decide +kernel
theorem dL_chips_21 : decode cL_chips 21 = .ok (.iload 5, 2) := by decide +kernel
theorem dL_chips_23 : decode cL_chips 23 = .ok (.iconst 4, 1) := by decide +kernel
theorem dL_chips_24 : decode cL_chips 24 = .ok (.if_icmp .ge 7, 3) := by decide +kernel
theorem dL_chips_27 : decode cL_chips 27 = .ok (.iconst 0, 1) := by decide +kernel
theorem dL_chips_28 : decode cL_chips 28 = .ok (.goto 26, 3) := by decide +kernel
theorem dL_chips_31 : decode cL_chips 31 = .ok (.iload 5, 2) := by decide +kernel
theorem dL_chips_33 : decode cL_chips 33 = .ok (.bipush 7, 2) := by decide +kernel
theorem dL_chips_35 : decode cL_chips 35 = .ok (.if_icmp .ge 7, 3) := by decide +kernel
theorem dL_chips_38 : decode cL_chips 38 = .ok (.iconst 1, 1) := by decide +kernel
theorem dL_chips_39 : decode cL_chips 39 = .ok (.goto 15, 3) := by decide +kernel
theorem dL_chips_42 : decode cL_chips 42 = .ok (.iload 5, 2) := by decide +kernel
theorem dL_chips_44 : decode cL_chips 44 = .ok (.bipush 9, 2) := by decide +kernel
theorem dL_chips_46 : decode cL_chips 46 = .ok (.if_icmp .ge 7, 3) := by decide +kernel
theorem dL_chips_49 : decode cL_chips 49 = .ok (.iconst 2, 1) := by decide +kernel
theorem dL_chips_50 : decode cL_chips 50 = .ok (.goto 4, 3) := by decide +kernel
theorem dL_chips_53 : decode cL_chips 53 = .ok (.iconst 3, 1) := by decide +kernel
theorem dL_chips_54 : decode cL_chips 54 = .ok (.istore 6, 2) := by decide +kernel
theorem dL_chips_56 : decode cL_chips 56 = .ok (.iload 5, 2) := by decide +kernel
theorem dL_chips_58 : decode cL_chips 58 = .ok (.iconst 4, 1) := by decide +kernel
theorem dL_chips_59 : decode cL_chips 59 = .ok (.if_icmp .ge 10, 3) := by decide +kernel
theorem dL_chips_62 : decode cL_chips 62 = .ok (.iconst 1, 1) := by decide +kernel
theorem dL_chips_63 : decode cL_chips 63 = .ok (.iload 5, 2) := by decide +kernel
theorem dL_chips_65 : decode cL_chips 65 = .ok (.iadd, 1) := by decide +kernel
theorem dL_chips_66 : decode cL_chips 66 = .ok (.goto 32, 3) := by decide +kernel
theorem dL_chips_69 : decode cL_chips 69 = .ok (.iload 5, 2) := by decide +kernel
theorem dL_chips_71 : decode cL_chips 71 = .ok (.bipush 7, 2) := by decide +kernel
theorem dL_chips_73 : decode cL_chips 73 = .ok (.if_icmp .ge 10, 3) := by decide +kernel
theorem dL_chips_76 : decode cL_chips 76 = .ok (.iload 5, 2) := by decide +kernel
theorem dL_chips_78 : decode cL_chips 78 = .ok (.iconst 2, 1) := by decide +kernel
theorem dL_chips_79 : decode cL_chips 79 = .ok (.isub, 1) := by decide +kernel
theorem dL_chips_80 : decode cL_chips 80 = .ok (.goto 18, 3) := by decide +kernel
theorem dL_chips_83 : decode cL_chips 83 = .ok (.iload 5, 2) := by decide +kernel
theorem dL_chips_85 : decode cL_chips 85 = .ok (.bipush 9, 2) := by decide +kernel
theorem dL_chips_87 : decode cL_chips 87 = .ok (.if_icmp .ge 10, 3) := by decide +kernel
theorem dL_chips_90 : decode cL_chips 90 = .ok (.iload 5, 2) := by decide +kernel
theorem dL_chips_92 : decode cL_chips 92 = .ok (.iconst 4, 1) := by decide +kernel
theorem dL_chips_93 : decode cL_chips 93 = .ok (.isub, 1) := by decide +kernel
theorem dL_chips_94 : decode cL_chips 94 = .ok (.goto 4, 3) := by decide +kernel
theorem dL_chips_97 : decode cL_chips 97 = .ok (.iconst 4, 1) := by decide +kernel
theorem dL_chips_98 : decode cL_chips 98 = .ok (.istore 7, 2) := by decide +kernel
theorem dL_chips_100 : decode cL_chips 100 = .ok (.iload_n 3, 1) := by decide +kernel
theorem dL_chips_101 : decode cL_chips 101 = .ok (.iconst 2, 1) := by decide +kernel
theorem dL_chips_102 : decode cL_chips 102 = .ok (.iload 5, 2) := by decide +kernel
theorem dL_chips_104 : decode cL_chips 104 = .ok (.imul, 1) := by decide +kernel
theorem dL_chips_105 : decode cL_chips 105 = .ok (.ishr, 1) := by decide +kernel
theorem dL_chips_106 : decode cL_chips 106 = .ok (.iconst 3, 1) := by decide +kernel
theorem dL_chips_107 : decode cL_chips 107 = .ok (.iand, 1) := by decide +kernel
theorem dL_chips_108 : decode cL_chips 108 = .ok (.ifCond .le 36, 3) := by decide +kernel
theorem dL_chips_111 : decode cL_chips 111 = .ok (.iload 5, 2) := by decide +kernel
theorem dL_chips_113 : decode cL_chips 113 = .ok (.iconst 3, 1) := by decide +kernel
theorem dL_chips_114 : decode cL_chips 114 = .ok (.if_icmp .gt 16, 3) := by decide +kernel
theorem dL_chips_117 : decode cL_chips 117 = .ok (.iload 7, 2) := by decide +kernel
theorem dL_chips_119 : decode cL_chips 119 = .ok (.iconst 1, 1) := by decide +kernel
theorem dL_chips_120 : decode cL_chips 120 = .ok (.iload_n 3, 1) := by decide +kernel
theorem dL_chips_121 : decode cL_chips 121 = .ok (.bipush 7, 2) := by decide +kernel
theorem dL_chips_123 : decode cL_chips 123 = .ok (.idiv, 1) := by decide +kernel
theorem dL_chips_124 : decode cL_chips 124 = .ok (.iconst 4, 1) := by decide +kernel
theorem dL_chips_125 : decode cL_chips 125 = .ok (.irem, 1) := by decide +kernel
theorem dL_chips_126 : decode cL_chips 126 = .ok (.iadd, 1) := by decide +kernel
theorem dL_chips_127 : decode cL_chips 127 = .ok (.if_icmp .gt 17, 3) := by decide +kernel
theorem dL_chips_130 : decode cL_chips 130 = .ok (.aload_n 1, 1) := by decide +kernel
theorem dL_chips_131 : decode cL_chips 131 = .ok (.iload_n 2, 1) := by decide +kernel
theorem dL_chips_132 : decode cL_chips 132 = .ok (.iconst 1, 1) := by decide +kernel
theorem dL_chips_133 : decode cL_chips 133 = .ok (.iadd, 1) := by decide +kernel
theorem dL_chips_134 : decode cL_chips 134 = .ok (.iload 5, 2) := by decide +kernel
theorem dL_chips_136 : decode cL_chips 136 = .ok (.iadd, 1) := by decide +kernel
theorem dL_chips_137 : decode cL_chips 137 = .ok (.iconst 4, 1) := by decide +kernel
theorem dL_chips_138 : decode cL_chips 138 = .ok (.invokestatic 94, 3) := by decide +kernel
theorem dL_chips_141 : decode cL_chips 141 = .ok (.goto 4, 3) := by decide +kernel
theorem dL_chips_144 : decode cL_chips 144 = .ok (.iconst 0, 1) := by decide +kernel
theorem dL_chips_145 : decode cL_chips 145 = .ok (.istore 8, 2) := by decide +kernel
theorem dL_chips_147 : decode cL_chips 147 = .ok (.iload 4, 2) := by decide +kernel
theorem dL_chips_149 : decode cL_chips 149 = .ok (.ifCond .eq 35, 3) := by decide +kernel
theorem dL_chips_152 : decode cL_chips 152 = .ok (.aload_n 0, 1) := by decide +kernel
theorem dL_chips_153 : decode cL_chips 153 = .ok (.iload 6, 2) := by decide +kernel
theorem dL_chips_155 : decode cL_chips 155 = .ok (.iload 7, 2) := by decide +kernel
theorem dL_chips_157 : decode cL_chips 157 = .ok (.iload 8, 2) := by decide +kernel
theorem dL_chips_159 : decode cL_chips 159 = .ok (.invokevirtual 128, 3) := by decide +kernel
theorem dL_chips_162 : decode cL_chips 162 = .ok (.ifCond .lt 22, 3) := by decide +kernel
theorem dL_chips_165 : decode cL_chips 165 = .ok (.aload_n 0, 1) := by decide +kernel
theorem dL_chips_166 : decode cL_chips 166 = .ok (.iload 7, 2) := by decide +kernel
theorem dL_chips_168 : decode cL_chips 168 = .ok (.iload 6, 2) := by decide +kernel
theorem dL_chips_170 : decode cL_chips 170 = .ok (.iload 8, 2) := by decide +kernel
theorem dL_chips_172 : decode cL_chips 172 = .ok (.invokevirtual 128, 3) := by decide +kernel
theorem dL_chips_175 : decode cL_chips 175 = .ok (.iload 8, 2) := by decide +kernel
theorem dL_chips_177 : decode cL_chips 177 = .ok (.if_icmp .ne 7, 3) := by decide +kernel
theorem dL_chips_180 : decode cL_chips 180 = .ok (.iconst 1, 1) := by decide +kernel
theorem dL_chips_181 : decode cL_chips 181 = .ok (.goto 4, 3) := by decide +kernel
theorem dL_chips_184 : decode cL_chips 184 = .ok (.iconst 0, 1) := by decide +kernel
theorem dL_chips_185 : decode cL_chips 185 = .ok (.istore 4, 2) := by decide +kernel
theorem dL_chips_187 : decode cL_chips 187 = .ok (.iinc 5 1, 3) := by decide +kernel
theorem dL_chips_190 : decode cL_chips 190 = .ok (.goto (-176), 3) := by decide +kernel
theorem dL_chips_193 : decode cL_chips 193 = .ok (.iconst 0, 1) := by decide +kernel
theorem dL_chips_194 : decode cL_chips 194 = .ok (.istore 5, 2) := by decide +kernel
theorem dL_chips_196 : decode cL_chips 196 = .ok (.iload 5, 2) := by decide +kernel
theorem dL_chips_198 : decode cL_chips 198 = .ok (.iconst 5, 1) := by decide +kernel
theorem dL_chips_199 : decode cL_chips 199 = .ok (.if_icmp .ge 61, 3) := by decide +kernel
theorem dL_chips_202 : decode cL_chips 202 = .ok (.aload_n 0, 1) := by decide +kernel
theorem dL_chips_203 : decode cL_chips 203 = .ok (.iload 5, 2) := by decide +kernel
theorem dL_chips_205 : decode cL_chips 205 = .ok (.aload_n 1, 1) := by decide +kernel
theorem dL_chips_206 : decode cL_chips 206 = .ok (.iload_n 2, 1) := by decide +kernel
theorem dL_chips_207 : decode cL_chips 207 = .ok (.bipush 11, 2) := by decide +kernel
theorem dL_chips_209 : decode cL_chips 209 = .ok (.iadd, 1) := by decide +kernel
theorem dL_chips_210 : decode cL_chips 210 = .ok (.iload 5, 2) := by decide +kernel
theorem dL_chips_212 : decode cL_chips 212 = .ok (.iadd, 1) := by decide +kernel
theorem dL_chips_213 : decode cL_chips 213 = .ok (.bipush 9, 2) := by decide +kernel
theorem dL_chips_215 : decode cL_chips 215 = .ok (.invokestatic 94, 3) := by decide +kernel
theorem dL_chips_218 : decode cL_chips 218 = .ok (.iconst 4, 1) := by decide +kernel
theorem dL_chips_219 : decode cL_chips 219 = .ok (.isub, 1) := by decide +kernel
theorem dL_chips_220 : decode cL_chips 220 = .ok (.iload_n 3, 1) := by decide +kernel
theorem dL_chips_221 : decode cL_chips 221 = .ok (.bipush 11, 2) := by decide +kernel
theorem dL_chips_223 : decode cL_chips 223 = .ok (.idiv, 1) := by decide +kernel
theorem dL_chips_224 : decode cL_chips 224 = .ok (.iconst 5, 1) := by decide +kernel
theorem dL_chips_225 : decode cL_chips 225 = .ok (.irem, 1) := by decide +kernel
theorem dL_chips_226 : decode cL_chips 226 = .ok (.ifCond .ne 22, 3) := by decide +kernel
theorem dL_chips_229 : decode cL_chips 229 = .ok (.aload_n 1, 1) := by decide +kernel
theorem dL_chips_230 : decode cL_chips 230 = .ok (.iload_n 2, 1) := by decide +kernel
theorem dL_chips_231 : decode cL_chips 231 = .ok (.bipush 16, 2) := by decide +kernel
theorem dL_chips_233 : decode cL_chips 233 = .ok (.iadd, 1) := by decide +kernel
theorem dL_chips_234 : decode cL_chips 234 = .ok (.iload 5, 2) := by decide +kernel
theorem dL_chips_236 : decode cL_chips 236 = .ok (.iadd, 1) := by decide +kernel
theorem dL_chips_237 : decode cL_chips 237 = .ok (.bipush 41, 2) := by decide +kernel
theorem dL_chips_239 : decode cL_chips 239 = .ok (.invokestatic 94, 3) := by decide +kernel
theorem dL_chips_242 : decode cL_chips 242 = .ok (.bipush 20, 2) := by decide +kernel
theorem dL_chips_244 : decode cL_chips 244 = .ok (.isub, 1) := by decide +kernel
theorem dL_chips_245 : decode cL_chips 245 = .ok (.goto 4, 3) := by decide +kernel
theorem dL_chips_248 : decode cL_chips 248 = .ok (.iconst 0, 1) := by decide +kernel
theorem dL_chips_249 : decode cL_chips 249 = .ok (.iadd, 1) := by decide +kernel
theorem dL_chips_250 : decode cL_chips 250 = .ok (.invokevirtual 131, 3) := by decide +kernel
theorem dL_chips_253 : decode cL_chips 253 = .ok (.pop, 1) := by decide +kernel
theorem dL_chips_254 : decode cL_chips 254 = .ok (.iinc 5 1, 3) := by decide +kernel
theorem dL_chips_257 : decode cL_chips 257 = .ok (.goto (-61), 3) := by decide +kernel
theorem dL_chips_260 : decode cL_chips 260 = .ok (.aload_n 0, 1) := by decide +kernel
theorem dL_chips_261 : decode cL_chips 261 = .ok (.iconst 4, 1) := by decide +kernel
theorem dL_chips_262 : decode cL_chips 262 = .ok (.invokevirtual 134, 3) := by decide +kernel
theorem dL_chips_265 : decode cL_chips 265 = .ok (.istore 5, 2) := by decide +kernel
theorem dL_chips_267 : decode cL_chips 267 = .ok (.aload_n 0, 1) := by decide +kernel
theorem dL_chips_268 : decode cL_chips 268 = .ok (.iconst 2, 1) := by decide +kernel
theorem dL_chips_269 : decode cL_chips 269 = .ok (.invokevirtual 134, 3) := by decide +kernel
theorem dL_chips_272 : decode cL_chips 272 = .ok (.istore 6, 2) := by decide +kernel
theorem dL_chips_274 : decode cL_chips 274 = .ok (.aload_n 0, 1) := by decide +kernel
theorem dL_chips_275 : decode cL_chips 275 = .ok (.iconst 3, 1) := by decide +kernel
theorem dL_chips_276 : decode cL_chips 276 = .ok (.invokevirtual 134, 3) := by decide +kernel
theorem dL_chips_279 : decode cL_chips 279 = .ok (.iconst 1, 1) := by decide +kernel
theorem dL_chips_280 : decode cL_chips 280 = .ok (.if_icmp .ne 7, 3) := by decide +kernel
theorem dL_chips_283 : decode cL_chips 283 = .ok (.iconst 1, 1) := by decide +kernel
theorem dL_chips_284 : decode cL_chips 284 = .ok (.goto 4, 3) := by decide +kernel
theorem dL_chips_287 : decode cL_chips 287 = .ok (.iconst 0, 1) := by decide +kernel
theorem dL_chips_288 : decode cL_chips 288 = .ok (.istore 7, 2) := by decide +kernel
theorem dL_chips_290 : decode cL_chips 290 = .ok (.iload 4, 2) := by decide +kernel
theorem dL_chips_292 : decode cL_chips 292 = .ok (.ifCond .eq 51, 3) := by decide +kernel
theorem dL_chips_295 : decode cL_chips 295 = .ok (.iload 6, 2) := by decide +kernel
theorem dL_chips_297 : decode cL_chips 297 = .ok (.aload_n 0, 1) := by decide +kernel
theorem dL_chips_298 : decode cL_chips 298 = .ok (.iconst 1, 1) := by decide +kernel
theorem dL_chips_299 : decode cL_chips 299 = .ok (.invokevirtual 134, 3) := by decide +kernel
theorem dL_chips_302 : decode cL_chips 302 = .ok (.aload_n 0, 1) := by decide +kernel
theorem dL_chips_303 : decode cL_chips 303 = .ok (.iconst 0, 1) := by decide +kernel
theorem dL_chips_304 : decode cL_chips 304 = .ok (.invokevirtual 134, 3) := by decide +kernel
theorem dL_chips_307 : decode cL_chips 307 = .ok (.isub, 1) := by decide +kernel
theorem dL_chips_308 : decode cL_chips 308 = .ok (.iconst 1, 1) := by decide +kernel
theorem dL_chips_309 : decode cL_chips 309 = .ok (.iadd, 1) := by decide +kernel
theorem dL_chips_310 : decode cL_chips 310 = .ok (.if_icmp .ne 33, 3) := by decide +kernel
theorem dL_chips_313 : decode cL_chips 313 = .ok (.aload_n 0, 1) := by decide +kernel
theorem dL_chips_314 : decode cL_chips 314 = .ok (.iconst 5, 1) := by decide +kernel
theorem dL_chips_315 : decode cL_chips 315 = .ok (.invokevirtual 134, 3) := by decide +kernel
theorem dL_chips_318 : decode cL_chips 318 = .ok (.ifCond .le 7, 3) := by decide +kernel
theorem dL_chips_321 : decode cL_chips 321 = .ok (.iconst 1, 1) := by decide +kernel
theorem dL_chips_322 : decode cL_chips 322 = .ok (.goto 4, 3) := by decide +kernel
theorem dL_chips_325 : decode cL_chips 325 = .ok (.iconst 0, 1) := by decide +kernel
theorem dL_chips_326 : decode cL_chips 326 = .ok (.iload 7, 2) := by decide +kernel
theorem dL_chips_328 : decode cL_chips 328 = .ok (.if_icmp .ne 15, 3) := by decide +kernel
theorem dL_chips_331 : decode cL_chips 331 = .ok (.aload_n 0, 1) := by decide +kernel
theorem dL_chips_332 : decode cL_chips 332 = .ok (.iconst 0, 1) := by decide +kernel
theorem dL_chips_333 : decode cL_chips 333 = .ok (.invokevirtual 134, 3) := by decide +kernel
theorem dL_chips_336 : decode cL_chips 336 = .ok (.ifCond .le 7, 3) := by decide +kernel
theorem dL_chips_339 : decode cL_chips 339 = .ok (.iconst 1, 1) := by decide +kernel
theorem dL_chips_340 : decode cL_chips 340 = .ok (.goto 4, 3) := by decide +kernel
theorem dL_chips_343 : decode cL_chips 343 = .ok (.iconst 0, 1) := by decide +kernel
theorem dL_chips_344 : decode cL_chips 344 = .ok (.istore 4, 2) := by decide +kernel
theorem dL_chips_346 : decode cL_chips 346 = .ok (.aload_n 0, 1) := by decide +kernel
theorem dL_chips_347 : decode cL_chips 347 = .ok (.iconst 5, 1) := by decide +kernel
theorem dL_chips_348 : decode cL_chips 348 = .ok (.iconst 0, 1) := by decide +kernel
theorem dL_chips_349 : decode cL_chips 349 = .ok (.iconst 0, 1) := by decide +kernel
theorem dL_chips_350 : decode cL_chips 350 = .ok (.iconst 0, 1) := by decide +kernel
theorem dL_chips_351 : decode cL_chips 351 = .ok (.invokestatic 59, 3) := by decide +kernel
theorem dL_chips_354 : decode cL_chips 354 = .ok (.istore 8, 2) := by decide +kernel
theorem dL_chips_356 : decode cL_chips 356 = .ok (.aload_n 0, 1) := by decide +kernel
theorem dL_chips_357 : decode cL_chips 357 = .ok (.bipush 6, 2) := by decide +kernel
theorem dL_chips_359 : decode cL_chips 359 = .ok (.iconst 0, 1) := by decide +kernel
theorem dL_chips_360 : decode cL_chips 360 = .ok (.iconst 0, 1) := by decide +kernel
theorem dL_chips_361 : decode cL_chips 361 = .ok (.iconst 0, 1) := by decide +kernel
theorem dL_chips_362 : decode cL_chips 362 = .ok (.invokestatic 59, 3) := by decide +kernel
theorem dL_chips_365 : decode cL_chips 365 = .ok (.istore 9, 2) := by decide +kernel
theorem dL_chips_367 : decode cL_chips 367 = .ok (.iconst 2, 1) := by decide +kernel
theorem dL_chips_368 : decode cL_chips 368 = .ok (.iload 6, 2) := by decide +kernel
theorem dL_chips_370 : decode cL_chips 370 = .ok (.imul, 1) := by decide +kernel
theorem dL_chips_371 : decode cL_chips 371 = .ok (.iconst 2, 1) := by decide +kernel
theorem dL_chips_372 : decode cL_chips 372 = .ok (.isub, 1) := by decide +kernel
theorem dL_chips_373 : decode cL_chips 373 = .ok (.iload 5, 2) := by decide +kernel
theorem dL_chips_375 : decode cL_chips 375 = .ok (.isub, 1) := by decide +kernel
theorem dL_chips_376 : decode cL_chips 376 = .ok (.istore 10, 2) := by decide +kernel
theorem dL_chips_378 : decode cL_chips 378 = .ok (.iload 7, 2) := by decide +kernel
theorem dL_chips_380 : decode cL_chips 380 = .ok (.ifCond .ne 42, 3) := by decide +kernel
theorem dL_chips_383 : decode cL_chips 383 = .ok (.iload 4, 2) := by decide +kernel
theorem dL_chips_385 : decode cL_chips 385 = .ok (.ifCond .eq 35, 3) := by decide +kernel
theorem dL_chips_388 : decode cL_chips 388 = .ok (.iload 8, 2) := by decide +kernel
theorem dL_chips_390 : decode cL_chips 390 = .ok (.ldc 52, 2) := by decide +kernel
theorem dL_chips_392 : decode cL_chips 392 = .ok (.if_icmp .ne 28, 3) := by decide +kernel
theorem dL_chips_395 : decode cL_chips 395 = .ok (.iload 9, 2) := by decide +kernel
theorem dL_chips_397 : decode cL_chips 397 = .ok (.ldc 52, 2) := by decide +kernel
theorem dL_chips_399 : decode cL_chips 399 = .ok (.if_icmp .ne 21, 3) := by decide +kernel
theorem dL_chips_402 : decode cL_chips 402 = .ok (.aload_n 0, 1) := by decide +kernel
theorem dL_chips_403 : decode cL_chips 403 = .ok (.bipush 7, 2) := by decide +kernel
theorem dL_chips_405 : decode cL_chips 405 = .ok (.iconst 0, 1) := by decide +kernel
theorem dL_chips_406 : decode cL_chips 406 = .ok (.iconst 0, 1) := by decide +kernel
theorem dL_chips_407 : decode cL_chips 407 = .ok (.iconst 0, 1) := by decide +kernel
theorem dL_chips_408 : decode cL_chips 408 = .ok (.invokestatic 59, 3) := by decide +kernel
theorem dL_chips_411 : decode cL_chips 411 = .ok (.ldc 52, 2) := by decide +kernel
theorem dL_chips_413 : decode cL_chips 413 = .ok (.if_icmp .ne 7, 3) := by decide +kernel
theorem dL_chips_416 : decode cL_chips 416 = .ok (.iconst 1, 1) := by decide +kernel
theorem dL_chips_417 : decode cL_chips 417 = .ok (.goto 4, 3) := by decide +kernel
theorem dL_chips_420 : decode cL_chips 420 = .ok (.iconst 0, 1) := by decide +kernel
theorem dL_chips_421 : decode cL_chips 421 = .ok (.ireturn, 1) := by decide +kernel
theorem dL_chips_422 : decode cL_chips 422 = .ok (.iload 4, 2) := by decide +kernel
theorem dL_chips_424 : decode cL_chips 424 = .ok (.ifCond .eq 61, 3) := by decide +kernel
theorem dL_chips_427 : decode cL_chips 427 = .ok (.iload 8, 2) := by decide +kernel
theorem dL_chips_429 : decode cL_chips 429 = .ok (.ldc 52, 2) := by decide +kernel
theorem dL_chips_431 : decode cL_chips 431 = .ok (.if_icmp .ne 7, 3) := by decide +kernel
theorem dL_chips_434 : decode cL_chips 434 = .ok (.iconst 1, 1) := by decide +kernel
theorem dL_chips_435 : decode cL_chips 435 = .ok (.goto 4, 3) := by decide +kernel
theorem dL_chips_438 : decode cL_chips 438 = .ok (.iconst 0, 1) := by decide +kernel
theorem dL_chips_439 : decode cL_chips 439 = .ok (.iload 5, 2) := by decide +kernel
theorem dL_chips_441 : decode cL_chips 441 = .ok (.bipush 8, 2) := by decide +kernel
theorem dL_chips_443 : decode cL_chips 443 = .ok (.if_icmp .le 7, 3) := by decide +kernel
theorem dL_chips_446 : decode cL_chips 446 = .ok (.iconst 1, 1) := by decide +kernel
theorem dL_chips_447 : decode cL_chips 447 = .ok (.goto 4, 3) := by decide +kernel
theorem dL_chips_450 : decode cL_chips 450 = .ok (.iconst 0, 1) := by decide +kernel
theorem dL_chips_451 : decode cL_chips 451 = .ok (.if_icmp .ne 34, 3) := by decide +kernel
theorem dL_chips_454 : decode cL_chips 454 = .ok (.iload 9, 2) := by decide +kernel
theorem dL_chips_456 : decode cL_chips 456 = .ok (.ldc 52, 2) := by decide +kernel
theorem dL_chips_458 : decode cL_chips 458 = .ok (.if_icmp .ne 7, 3) := by decide +kernel
theorem dL_chips_461 : decode cL_chips 461 = .ok (.iconst 1, 1) := by decide +kernel
theorem dL_chips_462 : decode cL_chips 462 = .ok (.goto 4, 3) := by decide +kernel
theorem dL_chips_465 : decode cL_chips 465 = .ok (.iconst 0, 1) := by decide +kernel
theorem dL_chips_466 : decode cL_chips 466 = .ok (.iload 10, 2) := by decide +kernel
theorem dL_chips_468 : decode cL_chips 468 = .ok (.bipush 8, 2) := by decide +kernel
theorem dL_chips_470 : decode cL_chips 470 = .ok (.if_icmp .le 7, 3) := by decide +kernel
theorem dL_chips_473 : decode cL_chips 473 = .ok (.iconst 1, 1) := by decide +kernel
theorem dL_chips_474 : decode cL_chips 474 = .ok (.goto 4, 3) := by decide +kernel
theorem dL_chips_477 : decode cL_chips 477 = .ok (.iconst 0, 1) := by decide +kernel
theorem dL_chips_478 : decode cL_chips 478 = .ok (.if_icmp .ne 7, 3) := by decide +kernel
theorem dL_chips_481 : decode cL_chips 481 = .ok (.iconst 1, 1) := by decide +kernel
theorem dL_chips_482 : decode cL_chips 482 = .ok (.goto 4, 3) := by decide +kernel
theorem dL_chips_485 : decode cL_chips 485 = .ok (.iconst 0, 1) := by decide +kernel
theorem dL_chips_486 : decode cL_chips 486 = .ok (.istore 4, 2) := by decide +kernel
theorem dL_chips_488 : decode cL_chips 488 = .ok (.iload 8, 2) := by decide +kernel
theorem dL_chips_490 : decode cL_chips 490 = .ok (.ldc 52, 2) := by decide +kernel
theorem dL_chips_492 : decode cL_chips 492 = .ok (.if_icmp .eq 52, 3) := by decide +kernel
theorem dL_chips_495 : decode cL_chips 495 = .ok (.iload 4, 2) := by decide +kernel
theorem dL_chips_497 : decode cL_chips 497 = .ok (.ifCond .eq 44, 3) := by decide +kernel
theorem dL_chips_500 : decode cL_chips 500 = .ok (.iload 8, 2) := by decide +kernel
theorem dL_chips_502 : decode cL_chips 502 = .ok (.iconst (-1), 1) := by decide +kernel
theorem dL_chips_503 : decode cL_chips 503 = .ok (.if_icmp .lt 38, 3) := by decide +kernel
theorem dL_chips_506 : decode cL_chips 506 = .ok (.iload 8, 2) := by decide +kernel
theorem dL_chips_508 : decode cL_chips 508 = .ok (.iload 5, 2) := by decide +kernel
theorem dL_chips_510 : decode cL_chips 510 = .ok (.iload 6, 2) := by decide +kernel
theorem dL_chips_512 : decode cL_chips 512 = .ok (.isub, 1) := by decide +kernel
theorem dL_chips_513 : decode cL_chips 513 = .ok (.if_icmp .lt 28, 3) := by decide +kernel
theorem dL_chips_516 : decode cL_chips 516 = .ok (.iload 5, 2) := by decide +kernel
theorem dL_chips_518 : decode cL_chips 518 = .ok (.ifCond .ge 12, 3) := by decide +kernel
theorem dL_chips_521 : decode cL_chips 521 = .ok (.iload 8, 2) := by decide +kernel
theorem dL_chips_523 : decode cL_chips 523 = .ok (.iconst (-1), 1) := by decide +kernel
theorem dL_chips_524 : decode cL_chips 524 = .ok (.if_icmp .ne 17, 3) := by decide +kernel
theorem dL_chips_527 : decode cL_chips 527 = .ok (.goto 10, 3) := by decide +kernel
theorem dL_chips_530 : decode cL_chips 530 = .ok (.iload 8, 2) := by decide +kernel
theorem dL_chips_532 : decode cL_chips 532 = .ok (.iload 5, 2) := by decide +kernel
theorem dL_chips_534 : decode cL_chips 534 = .ok (.if_icmp .gt 7, 3) := by decide +kernel
theorem dL_chips_537 : decode cL_chips 537 = .ok (.iconst 1, 1) := by decide +kernel
theorem dL_chips_538 : decode cL_chips 538 = .ok (.goto 4, 3) := by decide +kernel
theorem dL_chips_541 : decode cL_chips 541 = .ok (.iconst 0, 1) := by decide +kernel
theorem dL_chips_542 : decode cL_chips 542 = .ok (.istore 4, 2) := by decide +kernel
theorem dL_chips_544 : decode cL_chips 544 = .ok (.iload 8, 2) := by decide +kernel
theorem dL_chips_546 : decode cL_chips 546 = .ok (.ldc 52, 2) := by decide +kernel
theorem dL_chips_548 : decode cL_chips 548 = .ok (.if_icmp .eq 37, 3) := by decide +kernel
theorem dL_chips_551 : decode cL_chips 551 = .ok (.iload 9, 2) := by decide +kernel
theorem dL_chips_553 : decode cL_chips 553 = .ok (.ldc 52, 2) := by decide +kernel
theorem dL_chips_555 : decode cL_chips 555 = .ok (.if_icmp .eq 30, 3) := by decide +kernel
theorem dL_chips_558 : decode cL_chips 558 = .ok (.iload 4, 2) := by decide +kernel
theorem dL_chips_560 : decode cL_chips 560 = .ok (.ifCond .eq 22, 3) := by decide +kernel
theorem dL_chips_563 : decode cL_chips 563 = .ok (.iload 8, 2) := by decide +kernel
theorem dL_chips_565 : decode cL_chips 565 = .ok (.iload 9, 2) := by decide +kernel
theorem dL_chips_567 : decode cL_chips 567 = .ok (.isub, 1) := by decide +kernel
theorem dL_chips_568 : decode cL_chips 568 = .ok (.iload 5, 2) := by decide +kernel
theorem dL_chips_570 : decode cL_chips 570 = .ok (.iload 6, 2) := by decide +kernel
theorem dL_chips_572 : decode cL_chips 572 = .ok (.isub, 1) := by decide +kernel
theorem dL_chips_573 : decode cL_chips 573 = .ok (.iconst 1, 1) := by decide +kernel
theorem dL_chips_574 : decode cL_chips 574 = .ok (.iadd, 1) := by decide +kernel
theorem dL_chips_575 : decode cL_chips 575 = .ok (.if_icmp .ne 7, 3) := by decide +kernel
theorem dL_chips_578 : decode cL_chips 578 = .ok (.iconst 1, 1) := by decide +kernel
theorem dL_chips_579 : decode cL_chips 579 = .ok (.goto 4, 3) := by decide +kernel
theorem dL_chips_582 : decode cL_chips 582 = .ok (.iconst 0, 1) := by decide +kernel
theorem dL_chips_583 : decode cL_chips 583 = .ok (.istore 4, 2) := by decide +kernel
theorem dL_chips_585 : decode cL_chips 585 = .ok (.iload_n 3, 1) := by decide +kernel
theorem dL_chips_586 : decode cL_chips 586 = .ok (.bipush 64, 2) := by decide +kernel
theorem dL_chips_588 : decode cL_chips 588 = .ok (.idiv, 1) := by decide +kernel
theorem dL_chips_589 : decode cL_chips 589 = .ok (.iconst 5, 1) := by decide +kernel
theorem dL_chips_590 : decode cL_chips 590 = .ok (.irem, 1) := by decide +kernel
theorem dL_chips_591 : decode cL_chips 591 = .ok (.istore 11, 2) := by decide +kernel
theorem dL_chips_593 : decode cL_chips 593 = .ok (.iload_n 3, 1) := by decide +kernel
theorem dL_chips_594 : decode cL_chips 594 = .ok (.sipush 320, 3) := by decide +kernel
theorem dL_chips_597 : decode cL_chips 597 = .ok (.idiv, 1) := by decide +kernel
theorem dL_chips_598 : decode cL_chips 598 = .ok (.iconst 5, 1) := by decide +kernel
theorem dL_chips_599 : decode cL_chips 599 = .ok (.irem, 1) := by decide +kernel
theorem dL_chips_600 : decode cL_chips 600 = .ok (.istore 12, 2) := by decide +kernel
theorem dL_chips_602 : decode cL_chips 602 = .ok (.aload_n 0, 1) := by decide +kernel
theorem dL_chips_603 : decode cL_chips 603 = .ok (.bipush 7, 2) := by decide +kernel
theorem dL_chips_605 : decode cL_chips 605 = .ok (.iload 11, 2) := by decide +kernel
theorem dL_chips_607 : decode cL_chips 607 = .ok (.iload 11, 2) := by decide +kernel
theorem dL_chips_609 : decode cL_chips 609 = .ok (.iconst 0, 1) := by decide +kernel
theorem dL_chips_610 : decode cL_chips 610 = .ok (.invokestatic 59, 3) := by decide +kernel
theorem dL_chips_613 : decode cL_chips 613 = .ok (.ldc 52, 2) := by decide +kernel
theorem dL_chips_615 : decode cL_chips 615 = .ok (.if_icmp .eq 7, 3) := by decide +kernel
theorem dL_chips_618 : decode cL_chips 618 = .ok (.iconst 1, 1) := by decide +kernel
theorem dL_chips_619 : decode cL_chips 619 = .ok (.goto 4, 3) := by decide +kernel
theorem dL_chips_622 : decode cL_chips 622 = .ok (.iconst 0, 1) := by decide +kernel
theorem dL_chips_623 : decode cL_chips 623 = .ok (.istore 13, 2) := by decide +kernel
theorem dL_chips_625 : decode cL_chips 625 = .ok (.aload_n 0, 1) := by decide +kernel
theorem dL_chips_626 : decode cL_chips 626 = .ok (.bipush 7, 2) := by decide +kernel
theorem dL_chips_628 : decode cL_chips 628 = .ok (.iconst 0, 1) := by decide +kernel
theorem dL_chips_629 : decode cL_chips 629 = .ok (.iconst 0, 1) := by decide +kernel
theorem dL_chips_630 : decode cL_chips 630 = .ok (.iconst 0, 1) := by decide +kernel
theorem dL_chips_631 : decode cL_chips 631 = .ok (.invokestatic 59, 3) := by decide +kernel
theorem dL_chips_634 : decode cL_chips 634 = .ok (.istore 14, 2) := by decide +kernel
theorem dL_chips_636 : decode cL_chips 636 = .ok (.aload_n 0, 1) := by decide +kernel
theorem dL_chips_637 : decode cL_chips 637 = .ok (.bipush 8, 2) := by decide +kernel
theorem dL_chips_639 : decode cL_chips 639 = .ok (.iload 12, 2) := by decide +kernel
theorem dL_chips_641 : decode cL_chips 641 = .ok (.iconst 0, 1) := by decide +kernel
theorem dL_chips_642 : decode cL_chips 642 = .ok (.iconst 0, 1) := by decide +kernel
theorem dL_chips_643 : decode cL_chips 643 = .ok (.invokestatic 59, 3) := by decide +kernel
theorem dL_chips_646 : decode cL_chips 646 = .ok (.istore 15, 2) := by decide +kernel
theorem dL_chips_648 : decode cL_chips 648 = .ok (.iload 4, 2) := by decide +kernel
theorem dL_chips_650 : decode cL_chips 650 = .ok (.ifCond .eq 78, 3) := by decide +kernel
theorem dL_chips_653 : decode cL_chips 653 = .ok (.iload 13, 2) := by decide +kernel
theorem dL_chips_655 : decode cL_chips 655 = .ok (.ifCond .eq 14, 3) := by decide +kernel
theorem dL_chips_658 : decode cL_chips 658 = .ok (.aload_n 0, 1) := by decide +kernel
theorem dL_chips_659 : decode cL_chips 659 = .ok (.iload 11, 2) := by decide +kernel
theorem dL_chips_661 : decode cL_chips 661 = .ok (.iload 5, 2) := by decide +kernel
theorem dL_chips_663 : decode cL_chips 663 = .ok (.invokestatic 137, 3) := by decide +kernel
theorem dL_chips_666 : decode cL_chips 666 = .ok (.ifCond .eq 62, 3) := by decide +kernel
theorem dL_chips_669 : decode cL_chips 669 = .ok (.aload_n 0, 1) := by decide +kernel
theorem dL_chips_670 : decode cL_chips 670 = .ok (.iconst 4, 1) := by decide +kernel
theorem dL_chips_671 : decode cL_chips 671 = .ok (.invokevirtual 134, 3) := by decide +kernel
theorem dL_chips_674 : decode cL_chips 674 = .ok (.iload 5, 2) := by decide +kernel
theorem dL_chips_676 : decode cL_chips 676 = .ok (.if_icmp .ne 52, 3) := by decide +kernel
theorem dL_chips_679 : decode cL_chips 679 = .ok (.iload 15, 2) := by decide +kernel
theorem dL_chips_681 : decode cL_chips 681 = .ok (.ldc 52, 2) := by decide +kernel
theorem dL_chips_683 : decode cL_chips 683 = .ok (.if_icmp .eq 14, 3) := by decide +kernel
theorem dL_chips_686 : decode cL_chips 686 = .ok (.iload 15, 2) := by decide +kernel
theorem dL_chips_688 : decode cL_chips 688 = .ok (.aload_n 0, 1) := by decide +kernel
theorem dL_chips_689 : decode cL_chips 689 = .ok (.iload 12, 2) := by decide +kernel
theorem dL_chips_691 : decode cL_chips 691 = .ok (.invokevirtual 141, 3) := by decide +kernel
theorem dL_chips_694 : decode cL_chips 694 = .ok (.if_icmp .ne 34, 3) := by decide +kernel
theorem dL_chips_697 : decode cL_chips 697 = .ok (.aload_n 0, 1) := by decide +kernel
theorem dL_chips_698 : decode cL_chips 698 = .ok (.bipush 7, 2) := by decide +kernel
theorem dL_chips_700 : decode cL_chips 700 = .ok (.iconst 0, 1) := by decide +kernel
theorem dL_chips_701 : decode cL_chips 701 = .ok (.iconst 0, 1) := by decide +kernel
theorem dL_chips_702 : decode cL_chips 702 = .ok (.iconst 0, 1) := by decide +kernel
theorem dL_chips_703 : decode cL_chips 703 = .ok (.invokestatic 59, 3) := by decide +kernel
theorem dL_chips_706 : decode cL_chips 706 = .ok (.iload 14, 2) := by decide +kernel
theorem dL_chips_708 : decode cL_chips 708 = .ok (.if_icmp .ne 20, 3) := by decide +kernel
theorem dL_chips_711 : decode cL_chips 711 = .ok (.aload_n 0, 1) := by decide +kernel
theorem dL_chips_712 : decode cL_chips 712 = .ok (.iconst 5, 1) := by decide +kernel
theorem dL_chips_713 : decode cL_chips 713 = .ok (.iconst 0, 1) := by decide +kernel
theorem dL_chips_714 : decode cL_chips 714 = .ok (.iconst 0, 1) := by decide +kernel
theorem dL_chips_715 : decode cL_chips 715 = .ok (.iconst 0, 1) := by decide +kernel
theorem dL_chips_716 : decode cL_chips 716 = .ok (.invokestatic 59, 3) := by decide +kernel
theorem dL_chips_719 : decode cL_chips 719 = .ok (.iload 8, 2) := by decide +kernel
theorem dL_chips_721 : decode cL_chips 721 = .ok (.if_icmp .ne 7, 3) := by decide +kernel
theorem dL_chips_724 : decode cL_chips 724 = .ok (.iconst 1, 1) := by decide +kernel
theorem dL_chips_725 : decode cL_chips 725 = .ok (.goto 4, 3) := by decide +kernel
theorem dL_chips_728 : decode cL_chips 728 = .ok (.iconst 0, 1) := by decide +kernel
theorem dL_chips_729 : decode cL_chips 729 = .ok (.ireturn, 1) := by decide +kernel
theorem dL_law_0 : decode cL_law 0 = .ok (.new 11, 3) := by decide +kernel
theorem dL_law_3 : decode cL_law 3 = .ok (.dup, 1) := by decide +kernel
theorem dL_law_4 : decode cL_law 4 = .ok (.invokespecial 144, 3) := by decide +kernel
theorem dL_law_7 : decode cL_law 7 = .ok (.astore_n 1, 1) := by decide +kernel
theorem dL_law_8 : decode cL_law 8 = .ok (.bipush 64, 2) := by decide +kernel
theorem dL_law_10 : decode cL_law 10 = .ok (.newarray .int, 2) := by decide +kernel
theorem dL_law_12 : decode cL_law 12 = .ok (.astore_n 2, 1) := by decide +kernel
theorem dL_law_13 : decode cL_law 13 = .ok (.iconst 1, 1) := by decide +kernel
theorem dL_law_14 : decode cL_law 14 = .ok (.istore_n 3, 1) := by decide +kernel
theorem dL_law_15 : decode cL_law 15 = .ok (.iconst 0, 1) := by decide +kernel
theorem dL_law_16 : decode cL_law 16 = .ok (.istore 4, 2) := by decide +kernel
theorem dL_law_18 : decode cL_law 18 = .ok (.iload 4, 2) := by decide +kernel
theorem dL_law_20 : decode cL_law 20 = .ok (.bipush 36, 2) := by decide +kernel
theorem dL_law_22 : decode cL_law 22 = .ok (.if_icmp .ge 15, 3) := by decide +kernel
theorem dL_law_25 : decode cL_law 25 = .ok (.aload_n 2, 1) := by decide +kernel
theorem dL_law_26 : decode cL_law 26 = .ok (.iload 4, 2) := by decide +kernel
theorem dL_law_28 : decode cL_law 28 = .ok (.ldc 55, 2) := by decide +kernel
theorem dL_law_30 : decode cL_law 30 = .ok (.iastore, 1) := by decide +kernel
theorem dL_law_31 : decode cL_law 31 = .ok (.iinc 4 1, 3) := by decide +kernel
theorem dL_law_34 : decode cL_law 34 = .ok (.goto (-16), 3) := by decide +kernel
theorem dL_law_37 : decode cL_law 37 = .ok (.iconst 0, 1) := by decide +kernel
theorem dL_law_38 : decode cL_law 38 = .ok (.istore 4, 2) := by decide +kernel
theorem dL_law_40 : decode cL_law 40 = .ok (.iload 4, 2) := by decide +kernel
theorem dL_law_42 : decode cL_law 42 = .ok (.bipush 40, 2) := by decide +kernel
theorem dL_law_44 : decode cL_law 44 = .ok (.if_icmp .ge 71, 3) := by decide +kernel
theorem dL_law_47 : decode cL_law 47 = .ok (.iload_n 3, 1) := by decide +kernel
theorem dL_law_48 : decode cL_law 48 = .ok (.ifCond .eq 67, 3) := by decide +kernel
theorem dL_law_51 : decode cL_law 51 = .ok (.aload_n 1, 1) := by decide +kernel
theorem dL_law_52 : decode cL_law 52 = .ok (.aload_n 0, 1) := by decide +kernel
theorem dL_law_53 : decode cL_law 53 = .ok (.iconst 2, 1) := by decide +kernel
theorem dL_law_54 : decode cL_law 54 = .ok (.iload 4, 2) := by decide +kernel
theorem dL_law_56 : decode cL_law 56 = .ok (.imul, 1) := by decide +kernel
theorem dL_law_57 : decode cL_law 57 = .ok (.ldc 127, 2) := by decide +kernel
theorem dL_law_59 : decode cL_law 59 = .ok (.invokestatic 94, 3) := by decide +kernel
theorem dL_law_62 : decode cL_law 62 = .ok (.aload_n 0, 1) := by decide +kernel
theorem dL_law_63 : decode cL_law 63 = .ok (.iconst 2, 1) := by decide +kernel
theorem dL_law_64 : decode cL_law 64 = .ok (.iload 4, 2) := by decide +kernel
theorem dL_law_66 : decode cL_law 66 = .ok (.imul, 1) := by decide +kernel
theorem dL_law_67 : decode cL_law 67 = .ok (.iconst 1, 1) := by decide +kernel
theorem dL_law_68 : decode cL_law 68 = .ok (.iadd, 1) := by decide +kernel
theorem dL_law_69 : decode cL_law 69 = .ok (.ldc 127, 2) := by decide +kernel
theorem dL_law_71 : decode cL_law 71 = .ok (.invokestatic 94, 3) := by decide +kernel
theorem dL_law_74 : decode cL_law 74 = .ok (.aload_n 2, 1) := by decide +kernel
theorem dL_law_75 : decode cL_law 75 = .ok (.invokestatic 145, 3) := by decide +kernel
theorem dL_law_78 : decode cL_law 78 = .ok (.ifCond .eq 29, 3) := by decide +kernel
theorem dL_law_81 : decode cL_law 81 = .ok (.iload 4, 2) := by decide +kernel
theorem dL_law_83 : decode cL_law 83 = .ok (.iconst 5, 1) := by decide +kernel
theorem dL_law_84 : decode cL_law 84 = .ok (.irem, 1) := by decide +kernel
theorem dL_law_85 : decode cL_law 85 = .ok (.iconst 4, 1) := by decide +kernel
theorem dL_law_86 : decode cL_law 86 = .ok (.if_icmp .lt 17, 3) := by decide +kernel
theorem dL_law_89 : decode cL_law 89 = .ok (.aload_n 1, 1) := by decide +kernel
theorem dL_law_90 : decode cL_law 90 = .ok (.aload_n 2, 1) := by decide +kernel
theorem dL_law_91 : decode cL_law 91 = .ok (.iload 4, 2) := by decide +kernel
theorem dL_law_93 : decode cL_law 93 = .ok (.iconst 5, 1) := by decide +kernel
theorem dL_law_94 : decode cL_law 94 = .ok (.idiv, 1) := by decide +kernel
theorem dL_law_95 : decode cL_law 95 = .ok (.iconst 4, 1) := by decide +kernel
theorem dL_law_96 : decode cL_law 96 = .ok (.irem, 1) := by decide +kernel
theorem dL_law_97 : decode cL_law 97 = .ok (.invokestatic 149, 3) := by decide +kernel
theorem dL_law_100 : decode cL_law 100 = .ok (.ifCond .eq 7, 3) := by decide +kernel
theorem dL_law_103 : decode cL_law 103 = .ok (.iconst 1, 1) := by decide +kernel
theorem dL_law_104 : decode cL_law 104 = .ok (.goto 4, 3) := by decide +kernel
theorem dL_law_107 : decode cL_law 107 = .ok (.iconst 0, 1) := by decide +kernel
theorem dL_law_108 : decode cL_law 108 = .ok (.istore_n 3, 1) := by decide +kernel
theorem dL_law_109 : decode cL_law 109 = .ok (.iinc 4 1, 3) := by decide +kernel
theorem dL_law_112 : decode cL_law 112 = .ok (.goto (-72), 3) := by decide +kernel
theorem dL_law_115 : decode cL_law 115 = .ok (.iconst 0, 1) := by decide +kernel
theorem dL_law_116 : decode cL_law 116 = .ok (.istore 4, 2) := by decide +kernel
theorem dL_law_118 : decode cL_law 118 = .ok (.iload 4, 2) := by decide +kernel
theorem dL_law_120 : decode cL_law 120 = .ok (.iconst 3, 1) := by decide +kernel
theorem dL_law_121 : decode cL_law 121 = .ok (.if_icmp .ge 75, 3) := by decide +kernel
theorem dL_law_124 : decode cL_law 124 = .ok (.iload_n 3, 1) := by decide +kernel
theorem dL_law_125 : decode cL_law 125 = .ok (.ifCond .eq 71, 3) := by decide +kernel
theorem dL_law_128 : decode cL_law 128 = .ok (.aload_n 1, 1) := by decide +kernel
theorem dL_law_129 : decode cL_law 129 = .ok (.aload_n 0, 1) := by decide +kernel
theorem dL_law_130 : decode cL_law 130 = .ok (.bipush 80, 2) := by decide +kernel
theorem dL_law_132 : decode cL_law 132 = .ok (.bipush 110, 2) := by decide +kernel
theorem dL_law_134 : decode cL_law 134 = .ok (.iload 4, 2) := by decide +kernel
theorem dL_law_136 : decode cL_law 136 = .ok (.imul, 1) := by decide +kernel
theorem dL_law_137 : decode cL_law 137 = .ok (.iadd, 1) := by decide +kernel
theorem dL_law_138 : decode cL_law 138 = .ok (.invokestatic 153, 3) := by decide +kernel
theorem dL_law_141 : decode cL_law 141 = .ok (.ifCond .eq 47, 3) := by decide +kernel
theorem dL_law_144 : decode cL_law 144 = .ok (.aload_n 1, 1) := by decide +kernel
theorem dL_law_145 : decode cL_law 145 = .ok (.aload_n 0, 1) := by decide +kernel
theorem dL_law_146 : decode cL_law 146 = .ok (.sipush 156, 3) := by decide +kernel
theorem dL_law_149 : decode cL_law 149 = .ok (.bipush 110, 2) := by decide +kernel
theorem dL_law_151 : decode cL_law 151 = .ok (.iload 4, 2) := by decide +kernel
theorem dL_law_153 : decode cL_law 153 = .ok (.imul, 1) := by decide +kernel
theorem dL_law_154 : decode cL_law 154 = .ok (.iadd, 1) := by decide +kernel
theorem dL_law_155 : decode cL_law 155 = .ok (.invokestatic 156, 3) := by decide +kernel
theorem dL_law_158 : decode cL_law 158 = .ok (.ifCond .eq 30, 3) := by decide +kernel
theorem dL_law_161 : decode cL_law 161 = .ok (.new 11, 3) := by decide +kernel
theorem dL_law_164 : decode cL_law 164 = .ok (.dup, 1) := by decide +kernel
theorem dL_law_165 : decode cL_law 165 = .ok (.invokespecial 144, 3) := by decide +kernel
theorem dL_law_168 : decode cL_law 168 = .ok (.aload_n 0, 1) := by decide +kernel
theorem dL_law_169 : decode cL_law 169 = .ok (.sipush 410, 3) := by decide +kernel
theorem dL_law_172 : decode cL_law 172 = .ok (.bipush 21, 2) := by decide +kernel
theorem dL_law_174 : decode cL_law 174 = .ok (.iload 4, 2) := by decide +kernel
theorem dL_law_176 : decode cL_law 176 = .ok (.imul, 1) := by decide +kernel
theorem dL_law_177 : decode cL_law 177 = .ok (.iadd, 1) := by decide +kernel
theorem dL_law_178 : decode cL_law 178 = .ok (.invokestatic 159, 3) := by decide +kernel
theorem dL_law_181 : decode cL_law 181 = .ok (.ifCond .eq 7, 3) := by decide +kernel
theorem dL_law_184 : decode cL_law 184 = .ok (.iconst 1, 1) := by decide +kernel
theorem dL_law_185 : decode cL_law 185 = .ok (.goto 4, 3) := by decide +kernel
theorem dL_law_188 : decode cL_law 188 = .ok (.iconst 0, 1) := by decide +kernel
theorem dL_law_189 : decode cL_law 189 = .ok (.istore_n 3, 1) := by decide +kernel
theorem dL_law_190 : decode cL_law 190 = .ok (.iinc 4 1, 3) := by decide +kernel
theorem dL_law_193 : decode cL_law 193 = .ok (.goto (-75), 3) := by decide +kernel
theorem dL_law_196 : decode cL_law 196 = .ok (.iload_n 3, 1) := by decide +kernel
theorem dL_law_197 : decode cL_law 197 = .ok (.ireturn, 1) := by decide +kernel
