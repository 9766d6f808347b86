theorem dJ6_bitCount_0f7a4_17 : decode cJ6_bitCount_0f7a4 17 = .ok (.iushr, 1) := by decide +kernel
theorem dJ6_bitCount_0f7a4_18 : decode cJ6_bitCount_0f7a4 18 = .ok (.ldc_w 266, 3) := by decide +kernel
theorem dJ6_bitCount_0f7a4_21 : decode cJ6_bitCount_0f7a4 21 = .ok (.iand, 1) := by decide +kernel
theorem dJ6_bitCount_0f7a4_22 : decode cJ6_bitCount_0f7a4 22 = .ok (.iadd, 1) := by decide +kernel
theorem dJ6_bitCount_0f7a4_23 : decode cJ6_bitCount_0f7a4 23 = .ok (.istore_n 0, 1) := by decide +kernel
theorem dJ6_bitCount_0f7a4_24 : decode cJ6_bitCount_0f7a4 24 = .ok (.iload_n 0, 1) := by decide +kernel
theorem dJ6_bitCount_0f7a4_25 : decode cJ6_bitCount_0f7a4 25 = .ok (.iload_n 0, 1) := by decide +kernel
theorem dJ6_bitCount_0f7a4_26 : decode cJ6_bitCount_0f7a4 26 = .ok (.iconst 4, 1) := by decide +kernel
theorem dJ6_bitCount_0f7a4_27 : decode cJ6_bitCount_0f7a4 27 = .ok (.iushr, 1) := by decide +kernel
theorem dJ6_bitCount_0f7a4_28 : decode cJ6_bitCount_0f7a4 28 = .ok (.iadd, 1) := by decide +kernel
theorem dJ6_bitCount_0f7a4_29 : decode cJ6_bitCount_0f7a4 29 = .ok (.ldc_w 267, 3) := by decide +kernel
theorem dJ6_bitCount_0f7a4_32 : decode cJ6_bitCount_0f7a4 32 = .ok (.iand, 1) := by decide +kernel
theorem dJ6_bitCount_0f7a4_33 : decode cJ6_bitCount_0f7a4 33 = .ok (.istore_n 0, 1) := by decide +kernel
theorem dJ6_bitCount_0f7a4_34 : decode cJ6_bitCount_0f7a4 34 = .ok (.iload_n 0, 1) := by decide +kernel
theorem dJ6_bitCount_0f7a4_35 : decode cJ6_bitCount_0f7a4 35 = .ok (.iload_n 0, 1) := by decide +kernel
theorem dJ6_bitCount_0f7a4_36 : decode cJ6_bitCount_0f7a4 36 = .ok (.bipush 8, 2) := by decide +kernel
theorem dJ6_bitCount_0f7a4_38 : decode cJ6_bitCount_0f7a4 38 = .ok (.iushr, 1) := by decide +kernel
theorem dJ6_bitCount_0f7a4_39 : decode cJ6_bitCount_0f7a4 39 = .ok (.iadd, 1) := by decide +kernel
theorem dJ6_bitCount_0f7a4_40 : decode cJ6_bitCount_0f7a4 40 = .ok (.istore_n 0, 1) := by decide +kernel
theorem dJ6_bitCount_0f7a4_41 : decode cJ6_bitCount_0f7a4 41 = .ok (.iload_n 0, 1) := by decide +kernel
theorem dJ6_bitCount_0f7a4_42 : decode cJ6_bitCount_0f7a4 42 = .ok (.iload_n 0, 1) := by decide +kernel
theorem dJ6_bitCount_0f7a4_43 : decode cJ6_bitCount_0f7a4 43 = .ok (.bipush 16, 2) := by decide +kernel
theorem dJ6_bitCount_0f7a4_45 : decode cJ6_bitCount_0f7a4 45 = .ok (.iushr, 1) := by decide +kernel
theorem dJ6_bitCount_0f7a4_46 : decode cJ6_bitCount_0f7a4 46 = .ok (.iadd, 1) := by decide +kernel
theorem dJ6_bitCount_0f7a4_47 : decode cJ6_bitCount_0f7a4 47 = .ok (.istore_n 0, 1) := by decide +kernel
theorem dJ6_bitCount_0f7a4_48 : decode cJ6_bitCount_0f7a4 48 = .ok (.iload_n 0, 1) := by decide +kernel
theorem dJ6_bitCount_0f7a4_49 : decode cJ6_bitCount_0f7a4 49 = .ok (.bipush 63, 2) := by decide +kernel
theorem dJ6_bitCount_0f7a4_51 : decode cJ6_bitCount_0f7a4 51 = .ok (.iand, 1) := by decide +kernel
theorem dJ6_bitCount_0f7a4_52 : decode cJ6_bitCount_0f7a4 52 = .ok (.ireturn, 1) := by decide +kernel
theorem dJ9_floorDiv_7cf53_0 : decode cJ9_floorDiv_7cf53 0 = .ok (.iload_n 0, 1) := by decide +kernel
theorem dJ9_floorDiv_7cf53_1 : decode cJ9_floorDiv_7cf53 1 = .ok (.iload_n 1, 1) := by decide +kernel
theorem dJ9_floorDiv_7cf53_2 : decode cJ9_floorDiv_7cf53 2 = .ok (.idiv, 1) := by decide +kernel
theorem dJ9_floorDiv_7cf53_3 : decode cJ9_floorDiv_7cf53 3 = .ok (.istore_n 2, 1) := by decide +kernel
theorem dJ9_floorDiv_7cf53_4 : decode cJ9_floorDiv_7cf53 4 = .ok (.iload_n 0, 1) := by decide +kernel
theorem dJ9_floorDiv_7cf53_5 : decode cJ9_floorDiv_7cf53 5 = .ok (.iload_n 1, 1) := by decide +kernel
theorem dJ9_floorDiv_7cf53_6 : decode cJ9_floorDiv_7cf53 6 = .ok (.ixor, 1) := by decide +kernel
theorem dJ9_floorDiv_7cf53_7 : decode cJ9_floorDiv_7cf53 7 = .ok (.ifCond .ge 14, 3) := by decide +kernel
theorem dJ9_floorDiv_7cf53_10 : decode cJ9_floorDiv_7cf53 10 = .ok (.iload_n 2, 1) := by decide +kernel
theorem dJ9_floorDiv_7cf53_11 : decode cJ9_floorDiv_7cf53 11 = .ok (.iload_n 1, 1) := by decide +kernel
theorem dJ9_floorDiv_7cf53_12 : decode cJ9_floorDiv_7cf53 12 = .ok (.imul, 1) := by decide +kernel
theorem dJ9_floorDiv_7cf53_13 : decode cJ9_floorDiv_7cf53 13 = .ok (.iload_n 0, 1) := by decide +kernel
theorem dJ9_floorDiv_7cf53_14 : decode cJ9_floorDiv_7cf53 14 = .ok (.if_icmp .eq 7, 3) := by decide +kernel
theorem dJ9_floorDiv_7cf53_17 : decode cJ9_floorDiv_7cf53 17 = .ok (.iload_n 2, 1) := by decide +kernel
theorem dJ9_floorDiv_7cf53_18 : decode cJ9_floorDiv_7cf53 18 = .ok (.iconst 1, 1) := by decide +kernel
theorem dJ9_floorDiv_7cf53_19 : decode cJ9_floorDiv_7cf53 19 = .ok (.isub, 1) := by decide +kernel
theorem dJ9_floorDiv_7cf53_20 : decode cJ9_floorDiv_7cf53 20 = .ok (.ireturn, 1) := by decide +kernel
theorem dJ9_floorDiv_7cf53_21 : decode cJ9_floorDiv_7cf53 21 = .ok (.iload_n 2, 1) := by decide +kernel
theorem dJ9_floorDiv_7cf53_22 : decode cJ9_floorDiv_7cf53 22 = .ok (.ireturn, 1) := by decide +kernel
theorem dJ9_max_7cf53_0 : decode cJ9_max_7cf53 0 = .ok (.iload_n 0, 1) := by decide +kernel
theorem dJ9_max_7cf53_1 : decode cJ9_max_7cf53 1 = .ok (.iload_n 1, 1) := by decide +kernel
theorem dJ9_max_7cf53_2 : decode cJ9_max_7cf53 2 = .ok (.if_icmp .lt 7, 3) := by decide +kernel
theorem dJ9_max_7cf53_5 : decode cJ9_max_7cf53 5 = .ok (.iload_n 0, 1) := by decide +kernel
theorem dJ9_max_7cf53_6 : decode cJ9_max_7cf53 6 = .ok (.goto 4, 3) := by decide +kernel
theorem dJ9_max_7cf53_9 : decode cJ9_max_7cf53 9 = .ok (.iload_n 1, 1) := by decide +kernel
theorem dJ9_max_7cf53_10 : decode cJ9_max_7cf53 10 = .ok (.ireturn, 1) := by decide +kernel
theorem dJ9_min_7cf53_0 : decode cJ9_min_7cf53 0 = .ok (.iload_n 0, 1) := by decide +kernel
theorem dJ9_min_7cf53_1 : decode cJ9_min_7cf53 1 = .ok (.iload_n 1, 1) := by decide +kernel
theorem dJ9_min_7cf53_2 : decode cJ9_min_7cf53 2 = .ok (.if_icmp .gt 7, 3) := by decide +kernel
theorem dJ9_min_7cf53_5 : decode cJ9_min_7cf53 5 = .ok (.iload_n 0, 1) := by decide +kernel
theorem dJ9_min_7cf53_6 : decode cJ9_min_7cf53 6 = .ok (.goto 4, 3) := by decide +kernel
theorem dJ9_min_7cf53_9 : decode cJ9_min_7cf53 9 = .ok (.iload_n 1, 1) := by decide +kernel
theorem dJ9_min_7cf53_10 : decode cJ9_min_7cf53 10 = .ok (.ireturn, 1) := by decide +kernel
theorem dJ7_fill_53178_0 : decode cJ7_fill_53178 0 = .ok (.iconst 0, 1) := by decide +kernel
theorem dJ7_fill_53178_1 : decode cJ7_fill_53178 1 = .ok (.istore_n 2, 1) := by decide +kernel
theorem dJ7_fill_53178_2 : decode cJ7_fill_53178 2 = .ok (.aload_n 0, 1) := by decide +kernel
theorem dJ7_fill_53178_3 : decode cJ7_fill_53178 3 = .ok (.arraylength, 1) := by decide +kernel
theorem dJ7_fill_53178_4 : decode cJ7_fill_53178 4 = .ok (.istore_n 3, 1) := by decide +kernel
theorem dJ7_fill_53178_5 : decode cJ7_fill_53178 5 = .ok (.iload_n 2, 1) := by decide +kernel
theorem dJ7_fill_53178_6 : decode cJ7_fill_53178 6 = .ok (.iload_n 3, 1) := by decide +kernel
theorem dJ7_fill_53178_7 : decode cJ7_fill_53178 7 = .ok (.if_icmp .ge 13, 3) := by decide +kernel
theorem dJ7_fill_53178_10 : decode cJ7_fill_53178 10 = .ok (.aload_n 0, 1) := by decide +kernel
theorem dJ7_fill_53178_11 : decode cJ7_fill_53178 11 = .ok (.iload_n 2, 1) := by decide +kernel
theorem dJ7_fill_53178_12 : decode cJ7_fill_53178 12 = .ok (.iload_n 1, 1) := by decide +kernel
theorem dJ7_fill_53178_13 : decode cJ7_fill_53178 13 = .ok (.iastore, 1) := by decide +kernel
theorem dJ7_fill_53178_14 : decode cJ7_fill_53178 14 = .ok (.iinc 2 1, 3) := by decide +kernel
theorem dJ7_fill_53178_17 : decode cJ7_fill_53178 17 = .ok (.goto (-12), 3) := by decide +kernel
theorem dJ7_fill_53178_20 : decode cJ7_fill_53178 20 = .ok (.return_, 1) := by decide +kernel
theorem dL_draw_0 : decode cL_draw 0 = .ok (.iload_n 1, 1) := by decide +kernel
theorem dL_draw_1 : decode cL_draw 1 = .ok (.aload_n 0, 1) := by decide +kernel
theorem dL_draw_2 : decode cL_draw 2 = .ok (.arraylength, 1) := by decide +kernel
theorem dL_draw_3 : decode cL_draw 3 = .ok (.if_icmp .ge 9, 3) := by decide +kernel
theorem dL_draw_6 : decode cL_draw 6 = .ok (.aload_n 0, 1) := by decide +kernel
theorem dL_draw_7 : decode cL_draw 7 = .ok (.iload_n 1, 1) := by decide +kernel
theorem dL_draw_8 : decode cL_draw 8 = .ok (.iaload, 1) := by decide +kernel
theorem dL_draw_9 : decode cL_draw 9 = .ok (.goto 14, 3) := by decide +kernel
theorem dL_draw_12 : decode cL_draw 12 = .ok (.ldc 7, 2) := by decide +kernel
theorem dL_draw_14 : decode cL_draw 14 = .ok (.iload_n 1, 1) := by decide +kernel
theorem dL_draw_15 : decode cL_draw 15 = .ok (.sipush 1151, 3) := by decide +kernel
theorem dL_draw_18 : decode cL_draw 18 = .ok (.iadd, 1) := by decide +kernel
theorem dL_draw_19 : decode cL_draw 19 = .ok (.imul, 1) := by decide +kernel
theorem dL_draw_20 : decode cL_draw 20 = .ok (.ldc 8, 2) := by decide +kernel
theorem dL_draw_22 : decode cL_draw 22 = .ok (.iadd, 1) := by decide +kernel
theorem dL_draw_23 : decode cL_draw 23 = .ok (.istore_n 3, 1) := by decide +kernel
theorem dL_draw_24 : decode cL_draw 24 = .ok (.iload_n 3, 1) := by decide +kernel
theorem dL_draw_25 : decode cL_draw 25 = .ok (.ldc 9, 2) := by decide +kernel
theorem dL_draw_27 : decode cL_draw 27 = .ok (.iand, 1) := by decide +kernel
theorem dL_draw_28 : decode cL_draw 28 = .ok (.iload_n 2, 1) := by decide +kernel
theorem dL_draw_29 : decode cL_draw 29 = .ok (.irem, 1) := by decide +kernel
theorem dL_draw_30 : decode cL_draw 30 = .ok (.ireturn, 1) := by decide +kernel
set_option maxRecDepth 20000 in
theorem ggL_asks_X5_product : GoodIn wsL_asks wsX5_product := goodIn_ca (goodIn_ca (goodIn_r _ [9, 10, 11, 12, 13, 14, 15, 8, 16, 17, 18, 19, 20, 21, 22, 23, 24, 25, 26, 27, 28, 29, 30, 31, 32, 33, 34, 35, 36, 37, 38, 39, 40, 41, 42, 43, 44, 45, 46, 47, 48, 49, 50, 51, 52, 53, 54, 55, 56, 57, 58, 59, 60, 61, 317, 318, 319, 320, 321, 322, 323, 324, 325, 326, 327] (by decide +kernel) (by decide +kernel)) (goodIn_sub (fun _ h => List.mem_cons_of_mem _ (List.mem_append_left _ (List.mem_append_left _ (List.mem_append_right _ h)))) (by decide +kernel))) (goodIn_sub (fun _ h => List.mem_cons_of_mem _ (List.mem_append_left _ (List.mem_append_right _ h))) (by decide +kernel))
set_option maxRecDepth 20000 in
theorem gL_asks_X5_product : GoodIn wsL_asks (wsV RL 10 RX5 yX5_product wsX5_product) := goodIn_app (goodIn_of _ (by decide +kernel)) ggL_asks_X5_product
set_option maxRecDepth 20000 in
theorem ggL_asks_X5_multiply : GoodIn wsL_asks wsX5_multiply := goodIn_ca (goodIn_ca (goodIn_r _ [65, 10, 11, 66, 67, 14, 15, 8, 16, 17, 18, 19, 20, 21, 68, 69, 70, 71, 72, 73, 74, 75, 76, 38, 39, 40, 41, 42, 43, 77, 78, 79, 80, 81, 82, 83, 84, 85, 48, 49, 86, 87, 88, 89, 90, 55, 56, 57, 91, 92, 93, 94, 317, 318, 319, 320, 321, 322, 323, 324, 325, 326, 328, 329] (by decide +kernel) (by decide +kernel)) (goodIn_sub (fun _ h => List.mem_cons_of_mem _ (List.mem_append_left _ (List.mem_append_left _ (List.mem_append_right _ h)))) (by decide +kernel))) (goodIn_sub (fun _ h => List.mem_cons_of_mem _ (List.mem_append_left _ (List.mem_append_right _ h))) (by decide +kernel))
set_option maxRecDepth 20000 in
theorem gL_asks_X5_multiply : GoodIn wsL_asks (wsV RL 16 RX5 yX5_multiply wsX5_multiply) := goodIn_app (goodIn_of _ (by decide +kernel)) ggL_asks_X5_multiply
set_option maxRecDepth 20000 in
theorem ggL_asks_X5_star : GoodIn wsL_asks wsX5_star := goodIn_ca (goodIn_ca (goodIn_r _ [98, 10, 11, 67, 66, 14, 15, 8, 16, 17, 18, 19, 20, 21, 86, 87, 88, 71, 89, 73, 75, 90, 55, 56, 57, 99, 100, 101, 102, 76, 38, 39, 40, 41, 42, 43, 103, 104, 105, 106, 77, 78, 79, 80, 81, 82, 83, 84, 85, 48, 49, 91, 92, 93, 94, 74, 317, 318, 319, 320, 321, 322, 323, 324, 325, 326, 328, 329] (by decide +kernel) (by decide +kernel)) (goodIn_sub (fun _ h => List.mem_cons_of_mem _ (List.mem_append_left _ (List.mem_append_left _ (List.mem_append_right _ h)))) (by decide +kernel))) (goodIn_sub (fun _ h => List.mem_cons_of_mem _ (List.mem_append_left _ (List.mem_append_right _ h))) (by decide +kernel))
set_option maxRecDepth 20000 in
theorem gL_asks_X5_star : GoodIn wsL_asks (wsV RL 19 RX5 yX5_star wsX5_star) := goodIn_app (goodIn_of _ (by decide +kernel)) ggL_asks_X5_star
set_option maxRecDepth 20000 in
theorem ggL_asks_X5_solve : GoodIn wsL_asks wsX5_solve := goodIn_ca (goodIn_ca (goodIn_r _ [110, 10, 11, 66, 111, 112, 113, 55, 56, 57, 14, 15, 8, 16, 17, 18, 19, 20, 21, 114, 115, 116, 43, 117, 118, 119, 71, 120, 73, 74, 75, 121, 122, 39, 123, 124, 125, 126, 127, 128, 48, 49, 129, 130, 131, 132, 76, 38, 40, 41, 42, 317, 318, 319, 320, 321, 322, 323, 324, 325, 326, 328, 329] (by decide +kernel) (by decide +kernel)) (goodIn_sub (fun _ h => List.mem_cons_of_mem _ (List.mem_append_left _ (List.mem_append_left _ (List.mem_append_right _ h)))) (by decide +kernel))) (goodIn_sub (fun _ h => List.mem_cons_of_mem _ (List.mem_append_left _ (List.mem_append_right _ h))) (by decide +kernel))
set_option maxRecDepth 20000 in
theorem gL_asks_X5_solve : GoodIn wsL_asks (wsV RL 23 RX5 yX5_solve wsX5_solve) := goodIn_app (goodIn_of _ (by decide +kernel)) ggL_asks_X5_solve
set_option maxRecDepth 20000 in
theorem ggL_asks_X5_project : GoodIn wsL_asks wsX5_project := goodIn_ca (goodIn_ca (goodIn_r _ [136, 10, 11, 66, 111, 112, 113, 55, 56, 57, 14, 15, 8, 16, 17, 18, 19, 20, 21, 137, 138, 139, 71, 140, 73, 141, 92, 93, 94, 75, 74, 114, 115, 116, 43, 142, 143, 144, 145, 76, 38, 39, 40, 146, 147, 148, 149, 121, 122, 123, 124, 125, 126, 127, 128, 48, 49, 150, 151, 152, 317, 318, 319, 320, 321, 322, 323, 324, 325, 326, 328, 329] (by decide +kernel) (by decide +kernel)) (goodIn_sub (fun _ h => List.mem_cons_of_mem _ (List.mem_append_left _ (List.mem_append_left _ (List.mem_append_right _ h)))) (by decide +kernel))) (goodIn_sub (fun _ h => List.mem_cons_of_mem _ (List.mem_append_left _ (List.mem_append_right _ h))) (by decide +kernel))
set_option maxRecDepth 20000 in
theorem gL_asks_X5_project : GoodIn wsL_asks (wsV RL 27 RX5 yX5_project wsX5_project) := goodIn_app (goodIn_of _ (by decide +kernel)) ggL_asks_X5_project
set_option maxRecDepth 20000 in
theorem ggL_asks_X5_rank : GoodIn wsL_asks wsX5_rank := goodIn_ca (goodIn_r _ [156, 157, 158, 159, 160, 8, 161, 10, 11, 162, 163, 164, 165, 166, 167, 168, 169, 170, 171, 172, 173, 174, 175, 176, 177, 178, 179, 180, 181, 182, 183, 184, 185, 186, 187, 188, 189, 190, 191, 192, 193, 194, 195, 55, 56, 57, 196, 197, 198, 199, 200, 201, 202, 203, 204, 205, 206, 207, 208, 209, 210, 211, 212, 122, 39, 123, 213, 214, 215, 216, 217, 218, 219, 220, 221, 222, 223, 224, 225, 226, 227, 228, 229, 230, 231, 232, 233, 234, 235, 236, 237, 238, 38, 40, 239, 240, 241, 242, 243, 244, 245, 246, 247, 248, 249, 250, 251, 252, 253, 254, 317, 318, 319, 320, 321, 322, 323, 324, 325, 326, 330, 331, 332, 333, 334] (by decide +kernel) (by decide +kernel)) (goodIn_sub (fun _ h => List.mem_cons_of_mem _ (List.mem_append_left _ (List.mem_append_left _ (List.mem_append_right _ h)))) (by decide +kernel))
set_option maxRecDepth 20000 in
theorem gL_asks_X5_rank : GoodIn wsL_asks (wsV RL 30 RX5 yX5_rank wsX5_rank) := goodIn_app (goodIn_of _ (by decide +kernel)) ggL_asks_X5_rank
set_option maxRecDepth 20000 in
theorem ggL_asks_X5_restRank : GoodIn wsL_asks wsX5_restRank := goodIn_ca (goodIn_r _ [258, 157, 158, 159, 160, 8, 161, 10, 11, 162, 163, 164, 165, 166, 167, 168, 169, 170, 171, 172, 173, 174, 175, 176, 177, 178, 179, 180, 181, 182, 183, 184, 185, 186, 187, 188, 259, 260, 261, 262, 194, 193, 196, 197, 198, 199, 200, 201, 202, 203, 204, 205, 206, 207, 208, 209, 210, 211, 212, 122, 39, 123, 213, 214, 215, 216, 217, 218, 219, 220, 221, 222, 223, 224, 225, 226, 227, 228, 229, 230, 231, 232, 233, 234, 235, 236, 237, 238, 38, 40, 239, 240, 241, 242, 243, 244, 245, 246, 247, 248, 249, 250, 251, 252, 253, 254, 195, 55, 56, 57, 317, 318, 319, 320, 321, 322, 323, 324, 325, 326, 330, 331, 332, 333, 334] (by decide +kernel) (by decide +kernel)) (goodIn_sub (fun _ h => List.mem_cons_of_mem _ (List.mem_append_left _ (List.mem_append_left _ (List.mem_append_right _ h)))) (by decide +kernel))
set_option maxRecDepth 20000 in
theorem gL_asks_X5_restRank : GoodIn wsL_asks (wsV RL 34 RX5 yX5_restRank wsX5_restRank) := goodIn_app (goodIn_of _ (by decide +kernel)) ggL_asks_X5_restRank
set_option maxRecDepth 20000 in
theorem ggL_asks_X5_reduced : GoodIn wsL_asks wsX5_reduced := goodIn_ca (goodIn_ca (goodIn_r _ [266, 10, 11, 157, 17, 18, 8, 19, 20, 21, 267, 178, 179, 165, 180, 181, 182, 183, 184, 172, 173, 174, 175, 176, 158, 159, 160, 161, 162, 163, 164, 166, 167, 168, 169, 170, 171, 177, 185, 186, 187, 188, 189, 190, 191, 192, 193, 194, 195, 55, 56, 57, 268, 200, 201, 202, 203, 269, 214, 215, 216, 217, 218, 219, 220, 221, 212, 122, 39, 123, 222, 223, 224, 225, 226, 227, 228, 229, 230, 231, 232, 233, 234, 235, 236, 237, 238, 38, 40, 317, 318, 319, 320, 321, 322, 323, 324, 325, 326, 330, 331, 332, 333, 334] (by decide +kernel) (by decide +kernel)) (goodIn_sub (fun _ h => List.mem_cons_of_mem _ (List.mem_append_left _ (List.mem_append_left _ (List.mem_append_right _ h)))) (by decide +kernel))) (goodIn_sub (fun _ h => List.mem_cons_of_mem _ (List.mem_append_left _ (List.mem_append_right _ h))) (by decide +kernel))
set_option maxRecDepth 20000 in
theorem gL_asks_X5_reduced : GoodIn wsL_asks (wsV RL 37 RX5 yX5_reduced wsX5_reduced) := goodIn_app (goodIn_of _ (by decide +kernel)) ggL_asks_X5_reduced
set_option maxRecDepth 20000 in
theorem ggL_asks_X5_fire : GoodIn wsL_asks wsX5_fire := goodIn_ca (goodIn_ca (goodIn_r _ [273, 10, 11, 157, 113, 55, 56, 57, 17, 18, 8, 19, 20, 21, 189, 190, 191, 165, 192, 193, 194, 195, 200, 201, 202, 203, 274, 227, 228, 229, 185, 186, 187, 188, 172, 173, 174, 175, 176, 275, 276, 277, 278, 48, 49, 43, 317, 318, 319, 320, 321, 322, 323, 324, 325, 326, 330, 331, 332, 333, 334] (by decide +kernel) (by decide +kernel)) (goodIn_sub (fun _ h => List.mem_cons_of_mem _ (List.mem_append_left _ (List.mem_append_left _ (List.mem_append_right _ h)))) (by decide +kernel))) (goodIn_sub (fun _ h => List.mem_cons_of_mem _ (List.mem_append_left _ (List.mem_append_right _ h))) (by decide +kernel))
set_option maxRecDepth 20000 in
theorem gL_asks_X5_fire : GoodIn wsL_asks (wsV RL 40 RX5 yX5_fire wsX5_fire) := goodIn_app (goodIn_of _ (by decide +kernel)) ggL_asks_X5_fire
set_option maxRecDepth 20000 in
theorem ggL_asks_X5_root : GoodIn wsL_asks wsX5_root := goodIn_ca (goodIn_ca (goodIn_r _ [282, 12, 283, 14, 15, 8, 16, 17, 18, 19, 20, 21, 284, 285, 286, 25, 287, 288, 122, 39, 123, 289, 290, 291, 292, 27, 28, 29, 30, 31, 32, 293, 294, 295, 296, 297, 298, 299, 300, 301, 302, 303, 304, 305, 306, 307, 308, 309, 37, 38, 40, 310, 311, 312, 313, 314, 315, 316, 317, 318, 319, 320, 321, 322, 323, 324, 325, 326, 327, 335, 336] (by decide +kernel) (by decide +kernel)) (goodIn_sub (fun _ h => List.mem_cons_of_mem _ (List.mem_append_left _ (List.mem_append_right _ h))) (by decide +kernel))) (goodIn_sub (fun _ h => List.mem_cons_of_mem _ (List.mem_append_right _ h)) (by decide +kernel))
set_option maxRecDepth 20000 in
theorem gL_asks_X5_root : GoodIn wsL_asks (wsV RL 44 RX5 yX5_root wsX5_root) := goodIn_app (goodIn_of _ (by decide +kernel)) ggL_asks_X5_root
theorem dL_asks_0 : decode cL_asks 0 = .ok (.iload_n 1, 1) := by decide +kernel
theorem dL_asks_1 : decode cL_asks 1 = .ok (.ifCond .ne 14, 3) := by decide +kernel
theorem dL_asks_4 : decode cL_asks 4 = .ok (.aload_n 0, 1) := by decide +kernel
theorem dL_asks_5 : decode cL_asks 5 = .ok (.iload_n 2, 1) := by decide +kernel
theorem dL_asks_6 : decode cL_asks 6 = .ok (.iload_n 3, 1) := by decide +kernel
theorem dL_asks_7 : decode cL_asks 7 = .ok (.iload 4, 2) := by decide +kernel
theorem dL_asks_9 : decode cL_asks 9 = .ok (.invokevirtual 10, 3) := by decide +kernel
theorem dL_asks_12 : decode cL_asks 12 = .ok (.goto 143, 3) := by decide +kernel
theorem dL_asks_15 : decode cL_asks 15 = .ok (.iload_n 1, 1) := by decide +kernel
theorem dL_asks_16 : decode cL_asks 16 = .ok (.iconst 1, 1) := by decide +kernel
theorem dL_asks_17 : decode cL_asks 17 = .ok (.if_icmp .ne 14, 3) := by decide +kernel
theorem dL_asks_20 : decode cL_asks 20 = .ok (.aload_n 0, 1) := by decide +kernel
theorem dL_asks_21 : decode cL_asks 21 = .ok (.iload_n 2, 1) := by decide +kernel
theorem dL_asks_22 : decode cL_asks 22 = .ok (.iload_n 3, 1) := by decide +kernel
theorem dL_asks_23 : decode cL_asks 23 = .ok (.iload 4, 2) := by decide +kernel
theorem dL_asks_25 : decode cL_asks 25 = .ok (.invokevirtual 16, 3) := by decide +kernel
theorem dL_asks_28 : decode cL_asks 28 = .ok (.goto 127, 3) := by decide +kernel
theorem dL_asks_31 : decode cL_asks 31 = .ok (.iload_n 1, 1) := by decide +kernel
theorem dL_asks_32 : decode cL_asks 32 = .ok (.iconst 2, 1) := by decide +kernel
theorem dL_asks_33 : decode cL_asks 33 = .ok (.if_icmp .ne 12, 3) := by decide +kernel
theorem dL_asks_36 : decode cL_asks 36 = .ok (.aload_n 0, 1) := by decide +kernel
theorem dL_asks_37 : decode cL_asks 37 = .ok (.iload_n 2, 1) := by decide +kernel
theorem dL_asks_38 : decode cL_asks 38 = .ok (.iload_n 3, 1) := by decide +kernel
theorem dL_asks_39 : decode cL_asks 39 = .ok (.invokevirtual 19, 3) := by decide +kernel
theorem dL_asks_42 : decode cL_asks 42 = .ok (.goto 113, 3) := by decide +kernel
theorem dL_asks_45 : decode cL_asks 45 = .ok (.iload_n 1, 1) := by decide +kernel
theorem dL_asks_46 : decode cL_asks 46 = .ok (.iconst 3, 1) := by decide +kernel
theorem dL_asks_47 : decode cL_asks 47 = .ok (.if_icmp .ne 22, 3) := by decide +kernel
theorem dL_asks_50 : decode cL_asks 50 = .ok (.aload_n 0, 1) := by decide +kernel
theorem dL_asks_51 : decode cL_asks 51 = .ok (.iload_n 2, 1) := by decide +kernel
theorem dL_asks_52 : decode cL_asks 52 = .ok (.iload_n 3, 1) := by decide +kernel
theorem dL_asks_53 : decode cL_asks 53 = .ok (.iload 4, 2) := by decide +kernel
theorem dL_asks_55 : decode cL_asks 55 = .ok (.invokevirtual 23, 3) := by decide +kernel
theorem dL_asks_58 : decode cL_asks 58 = .ok (.ifCond .eq 7, 3) := by decide +kernel
theorem dL_asks_61 : decode cL_asks 61 = .ok (.iconst 1, 1) := by decide +kernel
theorem dL_asks_62 : decode cL_asks 62 = .ok (.goto 93, 3) := by decide +kernel
theorem dL_asks_65 : decode cL_asks 65 = .ok (.iconst 0, 1) := by decide +kernel
theorem dL_asks_66 : decode cL_asks 66 = .ok (.goto 89, 3) := by decide +kernel
theorem dL_asks_69 : decode cL_asks 69 = .ok (.iload_n 1, 1) := by decide +kernel
theorem dL_asks_70 : decode cL_asks 70 = .ok (.iconst 4, 1) := by decide +kernel
theorem dL_asks_71 : decode cL_asks 71 = .ok (.if_icmp .ne 22, 3) := by decide +kernel
theorem dL_asks_74 : decode cL_asks 74 = .ok (.aload_n 0, 1) := by decide +kernel
theorem dL_asks_75 : decode cL_asks 75 = .ok (.iload_n 2, 1) := by decide +kernel
theorem dL_asks_76 : decode cL_asks 76 = .ok (.iload_n 3, 1) := by decide +kernel
theorem dL_asks_77 : decode cL_asks 77 = .ok (.iload 4, 2) := by decide +kernel
theorem dL_asks_79 : decode cL_asks 79 = .ok (.invokevirtual 27, 3) := by decide +kernel
theorem dL_asks_82 : decode cL_asks 82 = .ok (.ifCond .eq 7, 3) := by decide +kernel
theorem dL_asks_85 : decode cL_asks 85 = .ok (.iconst 1, 1) := by decide +kernel
theorem dL_asks_86 : decode cL_asks 86 = .ok (.goto 69, 3) := by decide +kernel
theorem dL_asks_89 : decode cL_asks 89 = .ok (.iconst 0, 1) := by decide +kernel
theorem dL_asks_90 : decode cL_asks 90 = .ok (.goto 65, 3) := by decide +kernel
theorem dL_asks_93 : decode cL_asks 93 = .ok (.iload_n 1, 1) := by decide +kernel
theorem dL_asks_94 : decode cL_asks 94 = .ok (.iconst 5, 1) := by decide +kernel
theorem dL_asks_95 : decode cL_asks 95 = .ok (.if_icmp .ne 10, 3) := by decide +kernel
theorem dL_asks_98 : decode cL_asks 98 = .ok (.aload_n 0, 1) := by decide +kernel
theorem dL_asks_99 : decode cL_asks 99 = .ok (.invokevirtual 30, 3) := by decide +kernel
theorem dL_asks_102 : decode cL_asks 102 = .ok (.goto 53, 3) := by decide +kernel
theorem dL_asks_105 : decode cL_asks 105 = .ok (.iload_n 1, 1) := by decide +kernel
theorem dL_asks_106 : decode cL_asks 106 = .ok (.bipush 6, 2) := by decide +kernel
theorem dL_asks_108 : decode cL_asks 108 = .ok (.if_icmp .ne 10, 3) := by decide +kernel
theorem dL_asks_111 : decode cL_asks 111 = .ok (.aload_n 0, 1) := by decide +kernel
theorem dL_asks_112 : decode cL_asks 112 = .ok (.invokevirtual 34, 3) := by decide +kernel
theorem dL_asks_115 : decode cL_asks 115 = .ok (.goto 40, 3) := by decide +kernel
theorem dL_asks_118 : decode cL_asks 118 = .ok (.iload_n 1, 1) := by decide +kernel
theorem dL_asks_119 : decode cL_asks 119 = .ok (.bipush 7, 2) := by decide +kernel
theorem dL_asks_121 : decode cL_asks 121 = .ok (.if_icmp .ne 12, 3) := by decide +kernel
theorem dL_asks_124 : decode cL_asks 124 = .ok (.aload_n 0, 1) := by decide +kernel
theorem dL_asks_125 : decode cL_asks 125 = .ok (.iload_n 2, 1) := by decide +kernel
theorem dL_asks_126 : decode cL_asks 126 = .ok (.iload_n 3, 1) := by decide +kernel
theorem dL_asks_127 : decode cL_asks 127 = .ok (.invokevirtual 37, 3) := by decide +kernel
theorem dL_asks_130 : decode cL_asks 130 = .ok (.goto 25, 3) := by decide +kernel
theorem dL_asks_133 : decode cL_asks 133 = .ok (.iload_n 1, 1) := by decide +kernel
theorem dL_asks_134 : decode cL_asks 134 = .ok (.bipush 8, 2) := by decide +kernel
theorem dL_asks_136 : decode cL_asks 136 = .ok (.if_icmp .ne 11, 3) := by decide +kernel
theorem dL_asks_139 : decode cL_asks 139 = .ok (.aload_n 0, 1) := by decide +kernel
theorem dL_asks_140 : decode cL_asks 140 = .ok (.iload_n 2, 1) := by decide +kernel
theorem dL_asks_141 : decode cL_asks 141 = .ok (.invokevirtual 40, 3) := by decide +kernel
theorem dL_asks_144 : decode cL_asks 144 = .ok (.goto 11, 3) := by decide +kernel
theorem dL_asks_147 : decode cL_asks 147 = .ok (.aload_n 0, 1) := by decide +kernel
theorem dL_asks_148 : decode cL_asks 148 = .ok (.iload_n 2, 1) := by decide +kernel
theorem dL_asks_149 : decode cL_asks 149 = .ok (.iload_n 3, 1) := by decide +kernel
theorem dL_asks_150 : decode cL_asks 150 = .ok (.iload 4, 2) := by decide +kernel
theorem dL_asks_152 : decode cL_asks 152 = .ok (.invokevirtual 44, 3) := by decide +kernel
theorem dL_asks_155 : decode cL_asks 155 = .ok (.ireturn, 1) := by decide +kernel
theorem dL_asks_156 : decode cL_asks 156 = .ok (.astore 5, 2) := by decide +kernel
theorem dL_asks_158 : decode cL_asks 158 = .ok (.ldc 49, 2) := by decide +kernel
theorem dL_asks_160 : decode cL_asks 160 = .ok (.ireturn, 1) := by decide +kernel
theorem dL_asks_161 : decode cL_asks 161 = .ok (.astore 5, 2) := by decide +kernel
theorem dL_asks_163 : decode cL_asks 163 = .ok (.ldc 52, 2) := by decide +kernel
theorem dL_asks_165 : decode cL_asks 165 = .ok (.ireturn, 1) := by decide +kernel
theorem dL_plus_0 : decode cL_plus 0 = .ok (.iload_n 0, 1) := by decide +kernel
theorem dL_plus_1 : decode cL_plus 1 = .ok (.ldc 55, 2) := by decide +kernel
theorem dL_plus_3 : decode cL_plus 3 = .ok (.if_icmp .eq 9, 3) := by decide +kernel
theorem dL_plus_6 : decode cL_plus 6 = .ok (.iload_n 1, 1) := by decide +kernel
theorem dL_plus_7 : decode cL_plus 7 = .ok (.ldc 55, 2) := by decide +kernel
theorem dL_plus_9 : decode cL_plus 9 = .ok (.if_icmp .ne 8, 3) := by decide +kernel
theorem dL_plus_12 : decode cL_plus 12 = .ok (.ldc 55, 2) := by decide +kernel
theorem dL_plus_14 : decode cL_plus 14 = .ok (.goto 6, 3) := by decide +kernel
theorem dL_plus_17 : decode cL_plus 17 = .ok (.iload_n 0, 1) := by decide +kernel
theorem dL_plus_18 : decode cL_plus 18 = .ok (.iload_n 1, 1) := by decide +kernel
theorem dL_plus_19 : decode cL_plus 19 = .ok (.iadd, 1) := by decide +kernel
theorem dL_plus_20 : decode cL_plus 20 = .ok (.ireturn, 1) := by decide +kernel
theorem dL_lesser_0 : decode cL_lesser 0 = .ok (.iload_n 0, 1) := by decide +kernel
theorem dL_lesser_1 : decode cL_lesser 1 = .ok (.iload_n 1, 1) := by decide +kernel
theorem dL_lesser_2 : decode cL_lesser 2 = .ok (.if_icmp .ge 7, 3) := by decide +kernel
theorem dL_lesser_5 : decode cL_lesser 5 = .ok (.iload_n 0, 1) := by decide +kernel
theorem dL_lesser_6 : decode cL_lesser 6 = .ok (.goto 4, 3) := by decide +kernel
theorem dL_lesser_9 : decode cL_lesser 9 = .ok (.iload_n 1, 1) := by decide +kernel
theorem dL_lesser_10 : decode cL_lesser 10 = .ok (.ireturn, 1) := by decide +kernel
set_option maxRecDepth 20000 in
theorem ggL_isPoly_X5_roots : GoodIn wsL_isPoly wsX5_roots := goodIn_ca (goodIn_r _ [8, 9, 10, 11, 7, 12, 13, 14, 15, 16, 17, 18, 19, 20, 21, 22, 23, 24, 25, 26, 27, 28, 29, 30, 31, 32, 33, 34, 35, 36, 37, 38, 39, 40, 41, 42, 43, 44, 343, 344, 345, 346, 347, 348, 349, 350, 351, 352, 353] (by decide +kernel) (by decide +kernel)) (goodIn_sub (fun _ h => List.mem_cons_of_mem _ (List.mem_append_left _ (List.mem_append_left _ (List.mem_append_right _ h)))) (by decide +kernel))
set_option maxRecDepth 20000 in
theorem gL_isPoly_X5_roots : GoodIn wsL_isPoly (wsV RL 56 RX5 yX5_roots wsX5_roots) := goodIn_app (goodIn_of _ (by decide +kernel)) ggL_isPoly_X5_roots
set_option maxRecDepth 20000 in
theorem ggL_isPoly_L_asks : GoodIn wsL_isPoly wsL_asks := goodIn_ca (goodIn_ca (goodIn_ca (goodIn_r _ [48, 49, 50, 1, 51, 52, 53, 54, 7, 55, 56, 57, 9, 58, 10, 11, 12, 13, 14, 15, 16, 17, 59, 60, 61, 21, 62, 31, 32, 33, 34, 35, 36, 63, 64, 65, 66, 67, 68, 25, 69, 70, 71, 72, 73, 74, 75, 76, 77, 78, 79, 80, 81, 82, 83, 84, 85, 86, 87, 88, 89, 90, 91, 92, 93, 94, 95, 96, 97, 98, 99, 100, 101, 102, 103, 104, 105, 106, 107, 108, 109, 110, 111, 112, 113, 114, 115, 116, 117, 118, 119, 120, 121, 122, 123, 124, 125, 126, 127, 128, 129, 130, 131, 132, 133, 134, 135, 136, 137, 138, 139, 140, 141, 142, 143, 144, 145, 146, 147, 148, 149, 150, 24, 26, 151, 152, 153, 154, 155, 156, 157, 158, 159, 160, 161, 162, 163, 164, 165, 166, 167, 168, 169, 170, 171, 172, 173, 174, 175, 176, 177, 178, 179, 180, 181, 182, 183, 184, 185, 186, 187, 188, 189, 190, 191, 192, 193, 194, 195, 196, 197, 198, 199, 200, 201, 202, 203, 204, 205, 206, 207, 208, 209, 210, 211, 212, 213, 214, 215, 216, 217, 218, 219, 220, 221, 222, 223, 224, 225, 226, 227, 228, 229, 230, 231, 232, 233, 234, 235, 236, 237, 238, 239, 240, 241, 242, 243, 244, 245, 246, 247, 248, 249, 250, 251, 252, 253, 254, 255, 256, 257, 258, 259, 260, 261, 262, 263, 264, 265, 266, 267, 268, 269, 270, 271, 272, 273, 274, 275, 276, 277, 278, 279, 280, 281, 282, 283, 284, 285, 286, 287, 288, 289, 290, 291, 292, 293, 294, 295, 296, 297, 298, 299, 300, 301, 302, 303, 304, 305, 306, 307, 308, 309, 310, 18, 19, 20, 22, 23, 27, 28, 29, 30, 37, 38, 39, 40, 41, 42, 43, 44, 311, 312, 313, 314, 315, 316, 317, 318, 319, 320, 321, 322, 323, 324, 325, 326, 343, 344, 345, 346, 347, 348, 349, 350, 351, 352, 353, 354, 355, 356, 357, 358, 359, 360, 361, 362] (by decide +kernel) (by decide +kernel)) (goodIn_sub (fun _ h => List.mem_cons_of_mem _ (List.mem_append_left _ (List.mem_append_right _ h))) (by decide +kernel))) (goodIn_sub (fun _ h => List.mem_cons_of_mem _ (List.mem_append_left _ (List.mem_append_left _ (List.mem_append_right _ h)))) (by decide +kernel))) (goodIn_sub (fun _ h => List.mem_cons_of_mem _ (List.mem_append_right _ h)) (by decide +kernel))
set_option maxRecDepth 20000 in
theorem gL_isPoly_L_asks : GoodIn wsL_isPoly (va_wsS RL 59 yL_asks wsL_asks) := goodIn_app (goodIn_of _ (by decide +kernel)) ggL_isPoly_L_asks
set_option maxRecDepth 20000 in
theorem ggL_isPoly_X5_isSpare : GoodIn wsL_isPoly wsX5_isSpare := goodIn_ca (goodIn_r _ [330, 9, 10, 11, 7, 12, 13, 14, 15, 16, 17, 331, 38, 39, 21, 40, 31, 32, 33, 34, 35, 36, 41, 42, 43, 44, 343, 344, 345, 346, 347, 348, 349, 350, 351, 352, 353] (by decide +kernel) (by decide +kernel)) (goodIn_sub (fun _ h => List.mem_cons_of_mem _ (List.mem_append_left _ (List.mem_append_left _ (List.mem_append_right _ h)))) (by decide +kernel))
set_option maxRecDepth 20000 in
theorem gL_isPoly_X5_isSpare : GoodIn wsL_isPoly (wsV RL 63 RX5 yX5_isSpare wsX5_isSpare) := goodIn_app (goodIn_of _ (by decide +kernel)) ggL_isPoly_X5_isSpare
set_option maxRecDepth 20000 in
theorem ggL_isPoly_X5_root : GoodIn wsL_isPoly wsX5_root := goodIn_ca (goodIn_ca (goodIn_r _ [309, 9, 310, 10, 11, 7, 12, 13, 14, 15, 16, 17, 18, 19, 20, 21, 22, 23, 24, 25, 26, 27, 28, 29, 30, 31, 32, 33, 34, 35, 36, 37, 38, 39, 40, 41, 42, 43, 44, 311, 312, 313, 314, 315, 316, 317, 318, 319, 67, 68, 69, 320, 321, 322, 323, 324, 325, 326, 343, 344, 345, 346, 347, 348, 349, 350, 351, 352, 353, 361, 362] (by decide +kernel) (by decide +kernel)) (goodIn_sub (fun _ h => List.mem_cons_of_mem _ (List.mem_append_left _ (List.mem_append_left _ (List.mem_append_right _ h)))) (by decide +kernel))) (goodIn_sub (fun _ h => List.mem_cons_of_mem _ (List.mem_append_right _ h)) (by decide +kernel))
set_option maxRecDepth 20000 in
theorem gL_isPoly_X5_root : GoodIn wsL_isPoly (wsV RL 44 RX5 yX5_root wsX5_root) := goodIn_app (goodIn_of _ (by decide +kernel)) ggL_isPoly_X5_root
set_option maxRecDepth 20000 in
theorem ggL_isPoly_L_lesser : GoodIn wsL_isPoly wsL_lesser := goodIn_r _ [334] (by decide +kernel) (by decide +kernel)
set_option maxRecDepth 20000 in
theorem gL_isPoly_L_lesser : GoodIn wsL_isPoly (va_wsS RL 68 yL_lesser wsL_lesser) := goodIn_app (goodIn_of _ (by decide +kernel)) ggL_isPoly_L_lesser
set_option maxRecDepth 20000 in
theorem ggL_isPoly_X5_areSame : GoodIn wsL_isPoly wsX5_areSame := goodIn_ca (goodIn_r _ [338, 9, 10, 11, 7, 12, 13, 14, 15, 16, 17, 339, 340, 341, 21, 342, 35, 27, 28, 29, 30, 31, 32, 33, 34, 36, 37, 38, 39, 40, 41, 42, 43, 44, 343, 344, 345, 346, 347, 348, 349, 350, 351, 352, 353] (by decide +kernel) (by decide +kernel)) (goodIn_sub (fun _ h => List.mem_cons_of_mem _ (List.mem_append_left _ (List.mem_append_left _ (List.mem_append_right _ h)))) (by decide +kernel))
set_option maxRecDepth 20000 in
theorem gL_isPoly_X5_areSame : GoodIn wsL_isPoly (wsV RL 71 RX5 yX5_areSame wsX5_areSame) := goodIn_app (goodIn_of _ (by decide +kernel)) ggL_isPoly_X5_areSame
theorem dL_isPoly_0 : decode cL_isPoly 0 = .ok (.aload_n 0, 1) := by decide +kernel
theorem dL_isPoly_1 : decode cL_isPoly 1 = .ok (.iload_n 2, 1) := by decide +kernel
theorem dL_isPoly_2 : decode cL_isPoly 2 = .ok (.invokevirtual 56, 3) := by decide +kernel
theorem dL_isPoly_5 : decode cL_isPoly 5 = .ok (.istore_n 3, 1) := by decide +kernel
theorem dL_isPoly_6 : decode cL_isPoly 6 = .ok (.iconst (-1), 1) := by decide +kernel
theorem dL_isPoly_7 : decode cL_isPoly 7 = .ok (.istore 4, 2) := by decide +kernel
theorem dL_isPoly_9 : decode cL_isPoly 9 = .ok (.iconst (-1), 1) := by decide +kernel
theorem dL_isPoly_10 : decode cL_isPoly 10 = .ok (.istore 5, 2) := by decide +kernel
theorem dL_isPoly_12 : decode cL_isPoly 12 = .ok (.iconst 0, 1) := by decide +kernel
theorem dL_isPoly_13 : decode cL_isPoly 13 = .ok (.istore 6, 2) := by decide +kernel
theorem dL_isPoly_15 : decode cL_isPoly 15 = .ok (.iconst 0, 1) := by decide +kernel
theorem dL_isPoly_16 : decode cL_isPoly 16 = .ok (.istore 7, 2) := by decide +kernel
theorem dL_isPoly_18 : decode cL_isPoly 18 = .ok (.iconst 0, 1) := by decide +kernel
theorem dL_isPoly_19 : decode cL_isPoly 19 = .ok (.istore 8, 2) := by decide +kernel
theorem dL_isPoly_21 : decode cL_isPoly 21 = .ok (.aload_n 0, 1) := by decide +kernel
theorem dL_isPoly_22 : decode cL_isPoly 22 = .ok (.bipush 9, 2) := by decide +kernel
theorem dL_isPoly_24 : decode cL_isPoly 24 = .ok (.iload_n 2, 1) := by decide +kernel
theorem dL_isPoly_25 : decode cL_isPoly 25 = .ok (.iload_n 3, 1) := by decide +kernel
theorem dL_isPoly_26 : decode cL_isPoly 26 = .ok (.iconst 0, 1) := by decide +kernel
theorem dL_isPoly_27 : decode cL_isPoly 27 = .ok (.invokestatic 59, 3) := by decide +kernel
theorem dL_isPoly_30 : decode cL_isPoly 30 = .ok (.ldc 49, 2) := by decide +kernel
theorem dL_isPoly_32 : decode cL_isPoly 32 = .ok (.if_icmp .ne 7, 3) := by decide +kernel
theorem dL_isPoly_35 : decode cL_isPoly 35 = .ok (.iconst 1, 1) := by decide +kernel
theorem dL_isPoly_36 : decode cL_isPoly 36 = .ok (.goto 4, 3) := by decide +kernel
theorem dL_isPoly_39 : decode cL_isPoly 39 = .ok (.iconst 0, 1) := by decide +kernel
theorem dL_isPoly_40 : decode cL_isPoly 40 = .ok (.istore 9, 2) := by decide +kernel
theorem dL_isPoly_42 : decode cL_isPoly 42 = .ok (.iconst 0, 1) := by decide +kernel
theorem dL_isPoly_43 : decode cL_isPoly 43 = .ok (.istore 10, 2) := by decide +kernel
theorem dL_isPoly_45 : decode cL_isPoly 45 = .ok (.iload 10, 2) := by decide +kernel
theorem dL_isPoly_47 : decode cL_isPoly 47 = .ok (.bipush 9, 2) := by decide +kernel
theorem dL_isPoly_49 : decode cL_isPoly 49 = .ok (.if_icmp .ge 115, 3) := by decide +kernel
theorem dL_isPoly_52 : decode cL_isPoly 52 = .ok (.aload_n 1, 1) := by decide +kernel
theorem dL_isPoly_53 : decode cL_isPoly 53 = .ok (.bipush 9, 2) := by decide +kernel
theorem dL_isPoly_55 : decode cL_isPoly 55 = .ok (.iload_n 2, 1) := by decide +kernel
theorem dL_isPoly_56 : decode cL_isPoly 56 = .ok (.imul, 1) := by decide +kernel
theorem dL_isPoly_57 : decode cL_isPoly 57 = .ok (.iload 10, 2) := by decide +kernel
theorem dL_isPoly_59 : decode cL_isPoly 59 = .ok (.iadd, 1) := by decide +kernel
theorem dL_isPoly_60 : decode cL_isPoly 60 = .ok (.iaload, 1) := by decide +kernel
theorem dL_isPoly_61 : decode cL_isPoly 61 = .ok (.ldc 55, 2) := by decide +kernel
theorem dL_isPoly_63 : decode cL_isPoly 63 = .ok (.if_icmp .eq 7, 3) := by decide +kernel
theorem dL_isPoly_66 : decode cL_isPoly 66 = .ok (.iconst 1, 1) := by decide +kernel
theorem dL_isPoly_67 : decode cL_isPoly 67 = .ok (.goto 4, 3) := by decide +kernel
theorem dL_isPoly_70 : decode cL_isPoly 70 = .ok (.iconst 0, 1) := by decide +kernel
theorem dL_isPoly_71 : decode cL_isPoly 71 = .ok (.istore 11, 2) := by decide +kernel
theorem dL_isPoly_73 : decode cL_isPoly 73 = .ok (.iload 11, 2) := by decide +kernel
theorem dL_isPoly_75 : decode cL_isPoly 75 = .ok (.ifCond .eq 13, 3) := by decide +kernel
theorem dL_isPoly_78 : decode cL_isPoly 78 = .ok (.iload 4, 2) := by decide +kernel
theorem dL_isPoly_80 : decode cL_isPoly 80 = .ok (.ifCond .ge 8, 3) := by decide +kernel
theorem dL_isPoly_83 : decode cL_isPoly 83 = .ok (.iload 10, 2) := by decide +kernel
theorem dL_isPoly_85 : decode cL_isPoly 85 = .ok (.goto 5, 3) := by decide +kernel
theorem dL_isPoly_88 : decode cL_isPoly 88 = .ok (.iload 4, 2) := by decide +kernel
theorem dL_isPoly_90 : decode cL_isPoly 90 = .ok (.istore 4, 2) := by decide +kernel
theorem dL_isPoly_92 : decode cL_isPoly 92 = .ok (.iload 11, 2) := by decide +kernel
theorem dL_isPoly_94 : decode cL_isPoly 94 = .ok (.ifCond .eq 8, 3) := by decide +kernel
theorem dL_isPoly_97 : decode cL_isPoly 97 = .ok (.iload 10, 2) := by decide +kernel
theorem dL_isPoly_99 : decode cL_isPoly 99 = .ok (.goto 5, 3) := by decide +kernel
theorem dL_isPoly_102 : decode cL_isPoly 102 = .ok (.iload 5, 2) := by decide +kernel
theorem dL_isPoly_104 : decode cL_isPoly 104 = .ok (.istore 5, 2) := by decide +kernel
theorem dL_isPoly_106 : decode cL_isPoly 106 = .ok (.iload 6, 2) := by decide +kernel
theorem dL_isPoly_108 : decode cL_isPoly 108 = .ok (.iload 11, 2) := by decide +kernel
theorem dL_isPoly_110 : decode cL_isPoly 110 = .ok (.ifCond .eq 17, 3) := by decide +kernel
theorem dL_isPoly_113 : decode cL_isPoly 113 = .ok (.aload_n 0, 1) := by decide +kernel
theorem dL_isPoly_114 : decode cL_isPoly 114 = .ok (.iload_n 2, 1) := by decide +kernel
theorem dL_isPoly_115 : decode cL_isPoly 115 = .ok (.iload 10, 2) := by decide +kernel
theorem dL_isPoly_117 : decode cL_isPoly 117 = .ok (.invokevirtual 63, 3) := by decide +kernel
theorem dL_isPoly_120 : decode cL_isPoly 120 = .ok (.ifCond .ne 7, 3) := by decide +kernel
theorem dL_isPoly_123 : decode cL_isPoly 123 = .ok (.iconst 1, 1) := by decide +kernel
theorem dL_isPoly_124 : decode cL_isPoly 124 = .ok (.goto 4, 3) := by decide +kernel
theorem dL_isPoly_127 : decode cL_isPoly 127 = .ok (.iconst 0, 1) := by decide +kernel
theorem dL_isPoly_128 : decode cL_isPoly 128 = .ok (.iadd, 1) := by decide +kernel
theorem dL_isPoly_129 : decode cL_isPoly 129 = .ok (.istore 6, 2) := by decide +kernel
theorem dL_isPoly_131 : decode cL_isPoly 131 = .ok (.iload 9, 2) := by decide +kernel
theorem dL_isPoly_133 : decode cL_isPoly 133 = .ok (.ifCond .eq 22, 3) := by decide +kernel
theorem dL_isPoly_136 : decode cL_isPoly 136 = .ok (.iload 11, 2) := by decide +kernel
theorem dL_isPoly_138 : decode cL_isPoly 138 = .ok (.ifCond .ne 13, 3) := by decide +kernel
theorem dL_isPoly_141 : decode cL_isPoly 141 = .ok (.aload_n 0, 1) := by decide +kernel
theorem dL_isPoly_142 : decode cL_isPoly 142 = .ok (.iload_n 2, 1) := by decide +kernel
theorem dL_isPoly_143 : decode cL_isPoly 143 = .ok (.iload 10, 2) := by decide +kernel
theorem dL_isPoly_145 : decode cL_isPoly 145 = .ok (.invokevirtual 63, 3) := by decide +kernel
theorem dL_isPoly_148 : decode cL_isPoly 148 = .ok (.ifCond .ne 7, 3) := by decide +kernel
theorem dL_isPoly_151 : decode cL_isPoly 151 = .ok (.iconst 1, 1) := by decide +kernel
theorem dL_isPoly_152 : decode cL_isPoly 152 = .ok (.goto 4, 3) := by decide +kernel
theorem dL_isPoly_155 : decode cL_isPoly 155 = .ok (.iconst 0, 1) := by decide +kernel
theorem dL_isPoly_156 : decode cL_isPoly 156 = .ok (.istore 9, 2) := by decide +kernel
theorem dL_isPoly_158 : decode cL_isPoly 158 = .ok (.iinc 10 1, 3) := by decide +kernel
theorem dL_isPoly_161 : decode cL_isPoly 161 = .ok (.goto (-116), 3) := by decide +kernel
theorem dL_isPoly_164 : decode cL_isPoly 164 = .ok (.iconst 0, 1) := by decide +kernel
theorem dL_isPoly_165 : decode cL_isPoly 165 = .ok (.istore 10, 2) := by decide +kernel
theorem dL_isPoly_167 : decode cL_isPoly 167 = .ok (.iload 10, 2) := by decide +kernel
theorem dL_isPoly_169 : decode cL_isPoly 169 = .ok (.iload_n 3, 1) := by decide +kernel
theorem dL_isPoly_170 : decode cL_isPoly 170 = .ok (.if_icmp .ge 236, 3) := by decide +kernel
theorem dL_isPoly_173 : decode cL_isPoly 173 = .ok (.iload 9, 2) := by decide +kernel
theorem dL_isPoly_175 : decode cL_isPoly 175 = .ok (.ifCond .eq 231, 3) := by decide +kernel
theorem dL_isPoly_178 : decode cL_isPoly 178 = .ok (.aload_n 0, 1) := by decide +kernel
theorem dL_isPoly_179 : decode cL_isPoly 179 = .ok (.iload_n 2, 1) := by decide +kernel
theorem dL_isPoly_180 : decode cL_isPoly 180 = .ok (.iload 10, 2) := by decide +kernel
theorem dL_isPoly_182 : decode cL_isPoly 182 = .ok (.iconst 0, 1) := by decide +kernel
theorem dL_isPoly_183 : decode cL_isPoly 183 = .ok (.invokevirtual 44, 3) := by decide +kernel
theorem dL_isPoly_186 : decode cL_isPoly 186 = .ok (.istore 11, 2) := by decide +kernel
theorem dL_isPoly_188 : decode cL_isPoly 188 = .ok (.aload_n 0, 1) := by decide +kernel
theorem dL_isPoly_189 : decode cL_isPoly 189 = .ok (.iload_n 2, 1) := by decide +kernel
theorem dL_isPoly_190 : decode cL_isPoly 190 = .ok (.iload 10, 2) := by decide +kernel
theorem dL_isPoly_192 : decode cL_isPoly 192 = .ok (.iconst 1, 1) := by decide +kernel
theorem dL_isPoly_193 : decode cL_isPoly 193 = .ok (.invokevirtual 44, 3) := by decide +kernel
theorem dL_isPoly_196 : decode cL_isPoly 196 = .ok (.istore 12, 2) := by decide +kernel
theorem dL_isPoly_198 : decode cL_isPoly 198 = .ok (.aload_n 0, 1) := by decide +kernel
theorem dL_isPoly_199 : decode cL_isPoly 199 = .ok (.iload_n 2, 1) := by decide +kernel
theorem dL_isPoly_200 : decode cL_isPoly 200 = .ok (.iload 10, 2) := by decide +kernel
theorem dL_isPoly_202 : decode cL_isPoly 202 = .ok (.iconst 2, 1) := by decide +kernel
theorem dL_isPoly_203 : decode cL_isPoly 203 = .ok (.invokevirtual 44, 3) := by decide +kernel
theorem dL_isPoly_206 : decode cL_isPoly 206 = .ok (.istore 13, 2) := by decide +kernel
theorem dL_isPoly_208 : decode cL_isPoly 208 = .ok (.ldc 67, 2) := by decide +kernel
theorem dL_isPoly_210 : decode cL_isPoly 210 = .ok (.istore 14, 2) := by decide +kernel
theorem dL_isPoly_212 : decode cL_isPoly 212 = .ok (.iconst 0, 1) := by decide +kernel
theorem dL_isPoly_213 : decode cL_isPoly 213 = .ok (.istore 15, 2) := by decide +kernel
theorem dL_isPoly_215 : decode cL_isPoly 215 = .ok (.iconst 0, 1) := by decide +kernel
theorem dL_isPoly_216 : decode cL_isPoly 216 = .ok (.istore 16, 2) := by decide +kernel
theorem dL_isPoly_218 : decode cL_isPoly 218 = .ok (.iload 16, 2) := by decide +kernel
theorem dL_isPoly_220 : decode cL_isPoly 220 = .ok (.bipush 9, 2) := by decide +kernel
theorem dL_isPoly_222 : decode cL_isPoly 222 = .ok (.if_icmp .ge 93, 3) := by decide +kernel
theorem dL_isPoly_225 : decode cL_isPoly 225 = .ok (.aload_n 1, 1) := by decide +kernel
theorem dL_isPoly_226 : decode cL_isPoly 226 = .ok (.bipush 9, 2) := by decide +kernel
theorem dL_isPoly_228 : decode cL_isPoly 228 = .ok (.iload_n 2, 1) := by decide +kernel
theorem dL_isPoly_229 : decode cL_isPoly 229 = .ok (.imul, 1) := by decide +kernel
theorem dL_isPoly_230 : decode cL_isPoly 230 = .ok (.iload 16, 2) := by decide +kernel
theorem dL_isPoly_232 : decode cL_isPoly 232 = .ok (.iadd, 1) := by decide +kernel
theorem dL_isPoly_233 : decode cL_isPoly 233 = .ok (.iaload, 1) := by decide +kernel
theorem dL_isPoly_234 : decode cL_isPoly 234 = .ok (.ldc 55, 2) := by decide +kernel
theorem dL_isPoly_236 : decode cL_isPoly 236 = .ok (.if_icmp .ne 8, 3) := by decide +kernel
theorem dL_isPoly_239 : decode cL_isPoly 239 = .ok (.ldc 67, 2) := by decide +kernel
theorem dL_isPoly_241 : decode cL_isPoly 241 = .ok (.goto 21, 3) := by decide +kernel
theorem dL_isPoly_244 : decode cL_isPoly 244 = .ok (.aload_n 1, 1) := by decide +kernel
theorem dL_isPoly_245 : decode cL_isPoly 245 = .ok (.bipush 9, 2) := by decide +kernel
theorem dL_isPoly_247 : decode cL_isPoly 247 = .ok (.iload_n 2, 1) := by decide +kernel
theorem dL_isPoly_248 : decode cL_isPoly 248 = .ok (.imul, 1) := by decide +kernel
theorem dL_isPoly_249 : decode cL_isPoly 249 = .ok (.iload 16, 2) := by decide +kernel
theorem dL_isPoly_251 : decode cL_isPoly 251 = .ok (.iadd, 1) := by decide +kernel
theorem dL_isPoly_252 : decode cL_isPoly 252 = .ok (.iaload, 1) := by decide +kernel
theorem dL_isPoly_253 : decode cL_isPoly 253 = .ok (.iload 12, 2) := by decide +kernel
theorem dL_isPoly_255 : decode cL_isPoly 255 = .ok (.imul, 1) := by decide +kernel
theorem dL_isPoly_256 : decode cL_isPoly 256 = .ok (.iload 16, 2) := by decide +kernel
theorem dL_isPoly_258 : decode cL_isPoly 258 = .ok (.iload 11, 2) := by decide +kernel
theorem dL_isPoly_260 : decode cL_isPoly 260 = .ok (.imul, 1) := by decide +kernel
theorem dL_isPoly_261 : decode cL_isPoly 261 = .ok (.iadd, 1) := by decide +kernel
theorem dL_isPoly_262 : decode cL_isPoly 262 = .ok (.istore 17, 2) := by decide +kernel
theorem dL_isPoly_264 : decode cL_isPoly 264 = .ok (.iload 17, 2) := by decide +kernel
theorem dL_isPoly_266 : decode cL_isPoly 266 = .ok (.iload 14, 2) := by decide +kernel
theorem dL_isPoly_268 : decode cL_isPoly 268 = .ok (.if_icmp .ge 7, 3) := by decide +kernel
theorem dL_isPoly_271 : decode cL_isPoly 271 = .ok (.iconst 1, 1) := by decide +kernel
theorem dL_isPoly_272 : decode cL_isPoly 272 = .ok (.goto 26, 3) := by decide +kernel
theorem dL_isPoly_275 : decode cL_isPoly 275 = .ok (.iload 17, 2) := by decide +kernel
theorem dL_isPoly_277 : decode cL_isPoly 277 = .ok (.iload 14, 2) := by decide +kernel
theorem dL_isPoly_279 : decode cL_isPoly 279 = .ok (.if_icmp .ne 17, 3) := by decide +kernel
theorem dL_isPoly_282 : decode cL_isPoly 282 = .ok (.iload 17, 2) := by decide +kernel
theorem dL_isPoly_284 : decode cL_isPoly 284 = .ok (.ldc 67, 2) := by decide +kernel
theorem dL_isPoly_286 : decode cL_isPoly 286 = .ok (.if_icmp .eq 10, 3) := by decide +kernel
theorem dL_isPoly_289 : decode cL_isPoly 289 = .ok (.iload 15, 2) := by decide +kernel
theorem dL_isPoly_291 : decode cL_isPoly 291 = .ok (.iconst 1, 1) := by decide +kernel
theorem dL_isPoly_292 : decode cL_isPoly 292 = .ok (.iadd, 1) := by decide +kernel
theorem dL_isPoly_293 : decode cL_isPoly 293 = .ok (.goto 5, 3) := by decide +kernel
theorem dL_isPoly_296 : decode cL_isPoly 296 = .ok (.iload 15, 2) := by decide +kernel
theorem dL_isPoly_298 : decode cL_isPoly 298 = .ok (.istore 15, 2) := by decide +kernel
theorem dL_isPoly_300 : decode cL_isPoly 300 = .ok (.iload 14, 2) := by decide +kernel
theorem dL_isPoly_302 : decode cL_isPoly 302 = .ok (.iload 17, 2) := by decide +kernel
theorem dL_isPoly_304 : decode cL_isPoly 304 = .ok (.invokestatic 68, 3) := by decide +kernel
theorem dL_isPoly_307 : decode cL_isPoly 307 = .ok (.istore 14, 2) := by decide +kernel
theorem dL_isPoly_309 : decode cL_isPoly 309 = .ok (.iinc 16 1, 3) := by decide +kernel
theorem dL_isPoly_312 : decode cL_isPoly 312 = .ok (.goto (-94), 3) := by decide +kernel
theorem dL_isPoly_315 : decode cL_isPoly 315 = .ok (.iload 7, 2) := by decide +kernel
theorem dL_isPoly_317 : decode cL_isPoly 317 = .ok (.iload 13, 2) := by decide +kernel
theorem dL_isPoly_319 : decode cL_isPoly 319 = .ok (.iload 12, 2) := by decide +kernel
theorem dL_isPoly_321 : decode cL_isPoly 321 = .ok (.idiv, 1) := by decide +kernel
theorem dL_isPoly_322 : decode cL_isPoly 322 = .ok (.iload 11, 2) := by decide +kernel
theorem dL_isPoly_324 : decode cL_isPoly 324 = .ok (.imul, 1) := by decide +kernel
theorem dL_isPoly_325 : decode cL_isPoly 325 = .ok (.iadd, 1) := by decide +kernel
theorem dL_isPoly_326 : decode cL_isPoly 326 = .ok (.istore 7, 2) := by decide +kernel
theorem dL_isPoly_328 : decode cL_isPoly 328 = .ok (.iload 8, 2) := by decide +kernel
theorem dL_isPoly_330 : decode cL_isPoly 330 = .ok (.iload 13, 2) := by decide +kernel
theorem dL_isPoly_332 : decode cL_isPoly 332 = .ok (.iadd, 1) := by decide +kernel
theorem dL_isPoly_333 : decode cL_isPoly 333 = .ok (.istore 8, 2) := by decide +kernel
theorem dL_isPoly_335 : decode cL_isPoly 335 = .ok (.iload 12, 2) := by decide +kernel
theorem dL_isPoly_337 : decode cL_isPoly 337 = .ok (.ifCond .le 60, 3) := by decide +kernel
theorem dL_isPoly_340 : decode cL_isPoly 340 = .ok (.iload 13, 2) := by decide +kernel
theorem dL_isPoly_342 : decode cL_isPoly 342 = .ok (.ifCond .le 55, 3) := by decide +kernel
theorem dL_isPoly_345 : decode cL_isPoly 345 = .ok (.iload 13, 2) := by decide +kernel
theorem dL_isPoly_347 : decode cL_isPoly 347 = .ok (.iload 12, 2) := by decide +kernel
theorem dL_isPoly_349 : decode cL_isPoly 349 = .ok (.irem, 1) := by decide +kernel
theorem dL_isPoly_350 : decode cL_isPoly 350 = .ok (.ifCond .ne 47, 3) := by decide +kernel
theorem dL_isPoly_353 : decode cL_isPoly 353 = .ok (.iload 15, 2) := by decide +kernel
theorem dL_isPoly_355 : decode cL_isPoly 355 = .ok (.iconst 1, 1) := by decide +kernel
theorem dL_isPoly_356 : decode cL_isPoly 356 = .ok (.if_icmp .le 41, 3) := by decide +kernel
theorem dL_isPoly_359 : decode cL_isPoly 359 = .ok (.iload 10, 2) := by decide +kernel
theorem dL_isPoly_361 : decode cL_isPoly 361 = .ok (.ifCond .eq 32, 3) := by decide +kernel
theorem dL_isPoly_364 : decode cL_isPoly 364 = .ok (.aload_n 0, 1) := by decide +kernel
theorem dL_isPoly_365 : decode cL_isPoly 365 = .ok (.iload_n 2, 1) := by decide +kernel
theorem dL_isPoly_366 : decode cL_isPoly 366 = .ok (.iload 10, 2) := by decide +kernel
theorem dL_isPoly_368 : decode cL_isPoly 368 = .ok (.iconst 1, 1) := by decide +kernel
theorem dL_isPoly_369 : decode cL_isPoly 369 = .ok (.isub, 1) := by decide +kernel
theorem dL_isPoly_370 : decode cL_isPoly 370 = .ok (.iconst 0, 1) := by decide +kernel
theorem dL_isPoly_371 : decode cL_isPoly 371 = .ok (.invokevirtual 44, 3) := by decide +kernel
theorem dL_isPoly_374 : decode cL_isPoly 374 = .ok (.iload 12, 2) := by decide +kernel
theorem dL_isPoly_376 : decode cL_isPoly 376 = .ok (.imul, 1) := by decide +kernel
theorem dL_isPoly_377 : decode cL_isPoly 377 = .ok (.iload 11, 2) := by decide +kernel
theorem dL_isPoly_379 : decode cL_isPoly 379 = .ok (.aload_n 0, 1) := by decide +kernel
theorem dL_isPoly_380 : decode cL_isPoly 380 = .ok (.iload_n 2, 1) := by decide +kernel
theorem dL_isPoly_381 : decode cL_isPoly 381 = .ok (.iload 10, 2) := by decide +kernel
theorem dL_isPoly_383 : decode cL_isPoly 383 = .ok (.iconst 1, 1) := by decide +kernel
theorem dL_isPoly_384 : decode cL_isPoly 384 = .ok (.isub, 1) := by decide +kernel
theorem dL_isPoly_385 : decode cL_isPoly 385 = .ok (.iconst 1, 1) := by decide +kernel
theorem dL_isPoly_386 : decode cL_isPoly 386 = .ok (.invokevirtual 44, 3) := by decide +kernel
theorem dL_isPoly_389 : decode cL_isPoly 389 = .ok (.imul, 1) := by decide +kernel
theorem dL_isPoly_390 : decode cL_isPoly 390 = .ok (.if_icmp .ge 7, 3) := by decide +kernel
theorem dL_isPoly_393 : decode cL_isPoly 393 = .ok (.iconst 1, 1) := by decide +kernel
theorem dL_isPoly_394 : decode cL_isPoly 394 = .ok (.goto 4, 3) := by decide +kernel
theorem dL_isPoly_397 : decode cL_isPoly 397 = .ok (.iconst 0, 1) := by decide +kernel
theorem dL_isPoly_398 : decode cL_isPoly 398 = .ok (.istore 9, 2) := by decide +kernel
theorem dL_isPoly_400 : decode cL_isPoly 400 = .ok (.iinc 10 1, 3) := by decide +kernel
theorem dL_isPoly_403 : decode cL_isPoly 403 = .ok (.goto (-236), 3) := by decide +kernel
theorem dL_isPoly_406 : decode cL_isPoly 406 = .ok (.iload 9, 2) := by decide +kernel
theorem dL_isPoly_408 : decode cL_isPoly 408 = .ok (.ifCond .eq 80, 3) := by decide +kernel
theorem dL_isPoly_411 : decode cL_isPoly 411 = .ok (.iload 6, 2) := by decide +kernel
theorem dL_isPoly_413 : decode cL_isPoly 413 = .ok (.ifCond .ne 15, 3) := by decide +kernel
theorem dL_isPoly_416 : decode cL_isPoly 416 = .ok (.iload_n 3, 1) := by decide +kernel
theorem dL_isPoly_417 : decode cL_isPoly 417 = .ok (.ifCond .ne 71, 3) := by decide +kernel
theorem dL_isPoly_420 : decode cL_isPoly 420 = .ok (.iload 4, 2) := by decide +kernel
theorem dL_isPoly_422 : decode cL_isPoly 422 = .ok (.ifCond .ge 66, 3) := by decide +kernel
theorem dL_isPoly_425 : decode cL_isPoly 425 = .ok (.goto 11, 3) := by decide +kernel
theorem dL_isPoly_428 : decode cL_isPoly 428 = .ok (.iload_n 3, 1) := by decide +kernel
theorem dL_isPoly_429 : decode cL_isPoly 429 = .ok (.iload 6, 2) := by decide +kernel
theorem dL_isPoly_431 : decode cL_isPoly 431 = .ok (.iconst 1, 1) := by decide +kernel
theorem dL_isPoly_432 : decode cL_isPoly 432 = .ok (.isub, 1) := by decide +kernel
theorem dL_isPoly_433 : decode cL_isPoly 433 = .ok (.if_icmp .ne 55, 3) := by decide +kernel
theorem dL_isPoly_436 : decode cL_isPoly 436 = .ok (.iload 4, 2) := by decide +kernel
theorem dL_isPoly_438 : decode cL_isPoly 438 = .ok (.ifCond .lt 37, 3) := by decide +kernel
theorem dL_isPoly_441 : decode cL_isPoly 441 = .ok (.iload 8, 2) := by decide +kernel
theorem dL_isPoly_443 : decode cL_isPoly 443 = .ok (.iload 5, 2) := by decide +kernel
theorem dL_isPoly_445 : decode cL_isPoly 445 = .ok (.iload 4, 2) := by decide +kernel
theorem dL_isPoly_447 : decode cL_isPoly 447 = .ok (.isub, 1) := by decide +kernel
theorem dL_isPoly_448 : decode cL_isPoly 448 = .ok (.if_icmp .ne 40, 3) := by decide +kernel
theorem dL_isPoly_451 : decode cL_isPoly 451 = .ok (.iload 7, 2) := by decide +kernel
theorem dL_isPoly_453 : decode cL_isPoly 453 = .ok (.aload_n 1, 1) := by decide +kernel
theorem dL_isPoly_454 : decode cL_isPoly 454 = .ok (.bipush 9, 2) := by decide +kernel
theorem dL_isPoly_456 : decode cL_isPoly 456 = .ok (.iload_n 2, 1) := by decide +kernel
theorem dL_isPoly_457 : decode cL_isPoly 457 = .ok (.imul, 1) := by decide +kernel
theorem dL_isPoly_458 : decode cL_isPoly 458 = .ok (.iload 4, 2) := by decide +kernel
theorem dL_isPoly_460 : decode cL_isPoly 460 = .ok (.iadd, 1) := by decide +kernel
theorem dL_isPoly_461 : decode cL_isPoly 461 = .ok (.iaload, 1) := by decide +kernel
theorem dL_isPoly_462 : decode cL_isPoly 462 = .ok (.aload_n 1, 1) := by decide +kernel
theorem dL_isPoly_463 : decode cL_isPoly 463 = .ok (.bipush 9, 2) := by decide +kernel
theorem dL_isPoly_465 : decode cL_isPoly 465 = .ok (.iload_n 2, 1) := by decide +kernel
theorem dL_isPoly_466 : decode cL_isPoly 466 = .ok (.imul, 1) := by decide +kernel
theorem dL_isPoly_467 : decode cL_isPoly 467 = .ok (.iload 5, 2) := by decide +kernel
theorem dL_isPoly_469 : decode cL_isPoly 469 = .ok (.iadd, 1) := by decide +kernel
theorem dL_isPoly_470 : decode cL_isPoly 470 = .ok (.iaload, 1) := by decide +kernel
theorem dL_isPoly_471 : decode cL_isPoly 471 = .ok (.isub, 1) := by decide +kernel
theorem dL_isPoly_472 : decode cL_isPoly 472 = .ok (.if_icmp .ne 16, 3) := by decide +kernel
theorem dL_isPoly_475 : decode cL_isPoly 475 = .ok (.aload_n 0, 1) := by decide +kernel
theorem dL_isPoly_476 : decode cL_isPoly 476 = .ok (.iload_n 2, 1) := by decide +kernel
theorem dL_isPoly_477 : decode cL_isPoly 477 = .ok (.iload_n 2, 1) := by decide +kernel
theorem dL_isPoly_478 : decode cL_isPoly 478 = .ok (.invokevirtual 71, 3) := by decide +kernel
theorem dL_isPoly_481 : decode cL_isPoly 481 = .ok (.ifCond .eq 7, 3) := by decide +kernel
theorem dL_isPoly_484 : decode cL_isPoly 484 = .ok (.iconst 1, 1) := by decide +kernel
theorem dL_isPoly_485 : decode cL_isPoly 485 = .ok (.goto 4, 3) := by decide +kernel
theorem dL_isPoly_488 : decode cL_isPoly 488 = .ok (.iconst 0, 1) := by decide +kernel
theorem dL_isPoly_489 : decode cL_isPoly 489 = .ok (.ireturn, 1) := by decide +kernel
set_option maxRecDepth 20000 in
theorem ggL_valueOf_L_lesser : GoodIn wsL_valueOf wsL_lesser := goodIn_r _ [5] (by decide +kernel) (by decide +kernel)
set_option maxRecDepth 20000 in
theorem gL_valueOf_L_lesser : GoodIn wsL_valueOf (va_wsS RL 68 yL_lesser wsL_lesser) := goodIn_app (goodIn_of _ (by decide +kernel)) ggL_valueOf_L_lesser
theorem dL_valueOf_0 : decode cL_valueOf 0 = .ok (.ldc 55, 2) := by decide +kernel
theorem dL_valueOf_2 : decode cL_valueOf 2 = .ok (.istore_n 3, 1) := by decide +kernel
theorem dL_valueOf_3 : decode cL_valueOf 3 = .ok (.iconst 0, 1) := by decide +kernel
theorem dL_valueOf_4 : decode cL_valueOf 4 = .ok (.istore 4, 2) := by decide +kernel
theorem dL_valueOf_6 : decode cL_valueOf 6 = .ok (.iload 4, 2) := by decide +kernel
theorem dL_valueOf_8 : decode cL_valueOf 8 = .ok (.bipush 9, 2) := by decide +kernel
theorem dL_valueOf_10 : decode cL_valueOf 10 = .ok (.if_icmp .ge 46, 3) := by decide +kernel
theorem dL_valueOf_13 : decode cL_valueOf 13 = .ok (.aload_n 0, 1) := by decide +kernel
theorem dL_valueOf_14 : decode cL_valueOf 14 = .ok (.bipush 9, 2) := by decide +kernel
theorem dL_valueOf_16 : decode cL_valueOf 16 = .ok (.iload_n 1, 1) := by decide +kernel
theorem dL_valueOf_17 : decode cL_valueOf 17 = .ok (.imul, 1) := by decide +kernel
theorem dL_valueOf_18 : decode cL_valueOf 18 = .ok (.iload 4, 2) := by decide +kernel
theorem dL_valueOf_20 : decode cL_valueOf 20 = .ok (.iadd, 1) := by decide +kernel
theorem dL_valueOf_21 : decode cL_valueOf 21 = .ok (.iaload, 1) := by decide +kernel
theorem dL_valueOf_22 : decode cL_valueOf 22 = .ok (.ldc 55, 2) := by decide +kernel
theorem dL_valueOf_24 : decode cL_valueOf 24 = .ok (.if_icmp .ne 7, 3) := by decide +kernel
theorem dL_valueOf_27 : decode cL_valueOf 27 = .ok (.iload_n 3, 1) := by decide +kernel
theorem dL_valueOf_28 : decode cL_valueOf 28 = .ok (.goto 21, 3) := by decide +kernel
theorem dL_valueOf_31 : decode cL_valueOf 31 = .ok (.iload_n 3, 1) := by decide +kernel
theorem dL_valueOf_32 : decode cL_valueOf 32 = .ok (.aload_n 0, 1) := by decide +kernel
theorem dL_valueOf_33 : decode cL_valueOf 33 = .ok (.bipush 9, 2) := by decide +kernel
theorem dL_valueOf_35 : decode cL_valueOf 35 = .ok (.iload_n 1, 1) := by decide +kernel
theorem dL_valueOf_36 : decode cL_valueOf 36 = .ok (.imul, 1) := by decide +kernel
theorem dL_valueOf_37 : decode cL_valueOf 37 = .ok (.iload 4, 2) := by decide +kernel
theorem dL_valueOf_39 : decode cL_valueOf 39 = .ok (.iadd, 1) := by decide +kernel
theorem dL_valueOf_40 : decode cL_valueOf 40 = .ok (.iaload, 1) := by decide +kernel
theorem dL_valueOf_41 : decode cL_valueOf 41 = .ok (.iload 4, 2) := by decide +kernel
theorem dL_valueOf_43 : decode cL_valueOf 43 = .ok (.iload_n 2, 1) := by decide +kernel
theorem dL_valueOf_44 : decode cL_valueOf 44 = .ok (.imul, 1) := by decide +kernel
theorem dL_valueOf_45 : decode cL_valueOf 45 = .ok (.iadd, 1) := by decide +kernel
theorem dL_valueOf_46 : decode cL_valueOf 46 = .ok (.invokestatic 68, 3) := by decide +kernel
theorem dL_valueOf_49 : decode cL_valueOf 49 = .ok (.istore_n 3, 1) := by decide +kernel
theorem dL_valueOf_50 : decode cL_valueOf 50 = .ok (.iinc 4 1, 3) := by decide +kernel
theorem dL_valueOf_53 : decode cL_valueOf 53 = .ok (.goto (-47), 3) := by decide +kernel
theorem dL_valueOf_56 : decode cL_valueOf 56 = .ok (.iload_n 3, 1) := by decide +kernel
theorem dL_valueOf_57 : decode cL_valueOf 57 = .ok (.ireturn, 1) := by decide +kernel
set_option maxRecDepth 20000 in
theorem ggL_polys_X5_coefficient : GoodIn wsL_polys wsX5_coefficient := goodIn_ca (goodIn_ca (goodIn_r _ [7, 8, 9, 10, 6, 11, 12, 13, 14, 15, 16, 17, 18, 19, 20, 21, 22, 23, 24, 25, 371, 372, 373, 374, 375, 376, 377, 378, 379, 380, 381] (by decide +kernel) (by decide +kernel)) (goodIn_sub (fun _ h => List.mem_cons_of_mem _ (List.mem_append_left _ (List.mem_append_left _ (List.mem_append_right _ h)))) (by decide +kernel))) (goodIn_sub (fun _ h => List.mem_cons_of_mem _ (List.mem_append_left _ (List.mem_append_right _ h))) (by decide +kernel))
set_option maxRecDepth 20000 in
theorem gL_polys_X5_coefficient : GoodIn wsL_polys (wsV RL 74 RX5 yX5_coefficient wsX5_coefficient) := goodIn_app (goodIn_of _ (by decide +kernel)) ggL_polys_X5_coefficient
set_option maxRecDepth 20000 in
theorem ggL_polys_X5_value : GoodIn wsL_polys wsX5_value := goodIn_ca (goodIn_ca (goodIn_r _ [29, 8, 9, 10, 6, 11, 12, 13, 14, 15, 16, 21, 22, 23, 24, 25, 30, 31, 32, 33, 34, 35, 36, 37, 38, 39, 40, 41, 42, 43, 44, 371, 372, 373, 374, 375, 376, 377, 378, 379, 380, 381] (by decide +kernel) (by decide +kernel)) (goodIn_sub (fun _ h => List.mem_cons_of_mem _ (List.mem_append_left _ (List.mem_append_left _ (List.mem_append_right _ h)))) (by decide +kernel))) (goodIn_sub (fun _ h => List.mem_cons_of_mem _ (List.mem_append_left _ (List.mem_append_right _ h))) (by decide +kernel))
set_option maxRecDepth 20000 in
theorem gL_polys_X5_value : GoodIn wsL_polys (wsV RL 77 RX5 yX5_value wsX5_value) := goodIn_app (goodIn_of _ (by decide +kernel)) ggL_polys_X5_value
set_option maxRecDepth 20000 in
theorem ggL_polys_L_lesser : GoodIn wsL_polys wsL_lesser := goodIn_r _ [48] (by decide +kernel) (by decide +kernel)
set_option maxRecDepth 20000 in
theorem gL_polys_L_lesser : GoodIn wsL_polys (va_wsS RL 68 yL_lesser wsL_lesser) := goodIn_app (goodIn_of _ (by decide +kernel)) ggL_polys_L_lesser
set_option maxRecDepth 20000 in
theorem ggL_polys_X5_sum : GoodIn wsL_polys wsX5_sum := goodIn_ca (goodIn_r _ [52, 53, 8, 9, 10, 6, 11, 12, 13, 14, 15, 16, 54, 55, 56, 33, 57, 36, 37, 38, 39, 40, 58, 59, 60, 61, 62, 63, 64, 65, 66, 67, 68, 69, 41, 42, 43, 44, 35, 371, 372, 373, 374, 375, 376, 377, 378, 379, 380, 381] (by decide +kernel) (by decide +kernel)) (goodIn_sub (fun _ h => List.mem_cons_of_mem _ (List.mem_append_left _ (List.mem_append_left _ (List.mem_append_right _ h)))) (by decide +kernel))
set_option maxRecDepth 20000 in
theorem gL_polys_X5_sum : GoodIn wsL_polys (wsV RL 80 RX5 yX5_sum wsX5_sum) := goodIn_app (goodIn_of _ (by decide +kernel)) ggL_polys_X5_sum
set_option maxRecDepth 20000 in
theorem ggL_polys_L_plus : GoodIn wsL_polys wsL_plus := goodIn_r _ [72, 1] (by decide +kernel) (by decide +kernel)
set_option maxRecDepth 20000 in
theorem gL_polys_L_plus : GoodIn wsL_polys (va_wsS RL 83 yL_plus wsL_plus) := goodIn_app (goodIn_of _ (by decide +kernel)) ggL_polys_L_plus
set_option maxRecDepth 20000 in
theorem ggL_polys_L_asks : GoodIn wsL_polys wsL_asks := goodIn_ca (goodIn_ca (goodIn_ca (goodIn_r _ [75, 76, 77, 78, 2, 79, 80, 81, 6, 82, 83, 84, 8, 53, 9, 10, 11, 12, 13, 14, 15, 16, 85, 86, 87, 33, 88, 41, 42, 43, 44, 36, 35, 89, 90, 91, 92, 37, 38, 39, 40, 93, 94, 20, 95, 96, 97, 98, 99, 100, 58, 59, 60, 61, 62, 63, 64, 65, 66, 67, 68, 69, 101, 102, 103, 104, 105, 106, 107, 108, 109, 110, 111, 112, 113, 114, 115, 116, 117, 118, 119, 120, 121, 122, 123, 124, 125, 126, 127, 128, 129, 130, 131, 132, 133, 134, 135, 136, 137, 138, 139, 140, 141, 142, 143, 144, 145, 146, 147, 148, 149, 150, 151, 152, 153, 154, 155, 156, 157, 158, 159, 160, 161, 162, 163, 164, 165, 166, 167, 168, 169, 170, 171, 172, 173, 174, 175, 176, 177, 178, 179, 180, 181, 182, 183, 184, 185, 186, 187, 188, 189, 190, 191, 192, 193, 194, 195, 196, 197, 198, 199, 200, 201, 202, 203, 204, 205, 206, 207, 208, 209, 210, 211, 212, 213, 214, 215, 216, 217, 218, 219, 220, 221, 222, 223, 224, 225, 226, 227, 228, 229, 230, 231, 232, 233, 234, 235, 236, 237, 238, 239, 240, 241, 242, 243, 244, 245, 246, 247, 248, 249, 250, 251, 252, 253, 254, 255, 256, 257, 258, 259, 260, 261, 262, 263, 264, 265, 266, 267, 268, 269, 270, 271, 272, 273, 274, 275, 276, 277, 278, 279, 280, 281, 282, 283, 284, 285, 286, 287, 288, 289, 290, 291, 292, 293, 294, 295, 296, 297, 298, 299, 300, 301, 302, 303, 304, 305, 306, 307, 308, 309, 310, 311, 312, 313, 314, 315, 316, 317, 318, 319, 320, 321, 322, 323, 324, 325, 326, 327, 328, 329, 330, 331, 332, 333, 334, 335, 336, 337, 338, 339, 21, 22, 23, 24, 25, 340, 341, 342, 343, 344, 345, 346, 347, 348, 349, 350, 371, 372, 373, 374, 375, 376, 377, 378, 379, 380, 381, 382, 383, 384, 385, 386, 387, 388, 389, 390] (by decide +kernel) (by decide +kernel)) (goodIn_sub (fun _ h => List.mem_cons_of_mem _ (List.mem_append_right _ h)) (by decide +kernel))) (goodIn_sub (fun _ h => List.mem_cons_of_mem _ (List.mem_append_left _ (List.mem_append_left _ (List.mem_append_right _ h)))) (by decide +kernel))) (goodIn_sub (fun _ h => List.mem_cons_of_mem _ (List.mem_append_left _ (List.mem_append_right _ h))) (by decide +kernel))
set_option maxRecDepth 20000 in
theorem gL_polys_L_asks : GoodIn wsL_polys (va_wsS RL 59 yL_asks wsL_asks) := goodIn_app (goodIn_of _ (by decide +kernel)) ggL_polys_L_asks
set_option maxRecDepth 20000 in
theorem ggL_polys_X5_areSame : GoodIn wsL_polys wsX5_areSame := goodIn_ca (goodIn_r _ [354, 8, 9, 10, 6, 11, 12, 13, 14, 15, 16, 355, 356, 357, 33, 358, 36, 328, 329, 330, 331, 41, 42, 43, 44, 35, 332, 333, 334, 335, 336, 337, 338, 339, 371, 372, 373, 374, 375, 376, 377, 378, 379, 380, 381] (by decide +kernel) (by decide +kernel)) (goodIn_sub (fun _ h => List.mem_cons_of_mem _ (List.mem_append_left _ (List.mem_append_left _ (List.mem_append_right _ h)))) (by decide +kernel))
set_option maxRecDepth 20000 in
theorem gL_polys_X5_areSame : GoodIn wsL_polys (wsV RL 71 RX5 yX5_areSame wsX5_areSame) := goodIn_app (goodIn_of _ (by decide +kernel)) ggL_polys_X5_areSame
set_option maxRecDepth 20000 in
theorem ggL_polys_X5_isSpare : GoodIn wsL_polys wsX5_isSpare := goodIn_ca (goodIn_r _ [362, 8, 9, 10, 6, 11, 12, 13, 14, 15, 16, 363, 333, 334, 33, 335, 41, 42, 43, 44, 36, 35, 336, 337, 338, 339, 371, 372, 373, 374, 375, 376, 377, 378, 379, 380, 381] (by decide +kernel) (by decide +kernel)) (goodIn_sub (fun _ h => List.mem_cons_of_mem _ (List.mem_append_left _ (List.mem_append_left _ (List.mem_append_right _ h)))) (by decide +kernel))
set_option maxRecDepth 20000 in
theorem gL_polys_X5_isSpare : GoodIn wsL_polys (wsV RL 63 RX5 yX5_isSpare wsX5_isSpare) := goodIn_app (goodIn_of _ (by decide +kernel)) ggL_polys_X5_isSpare
set_option maxRecDepth 20000 in
theorem ggL_polys_X5_roots : GoodIn wsL_polys wsX5_roots := goodIn_ca (goodIn_r _ [367, 8, 9, 10, 6, 11, 12, 13, 14, 15, 16, 323, 324, 325, 33, 326, 327, 161, 39, 162, 328, 329, 330, 331, 41, 42, 43, 44, 36, 35, 332, 333, 334, 335, 336, 337, 338, 339, 371, 372, 373, 374, 375, 376, 377, 378, 379, 380, 381] (by decide +kernel) (by decide +kernel)) (goodIn_sub (fun _ h => List.mem_cons_of_mem _ (List.mem_append_left _ (List.mem_append_left _ (List.mem_append_right _ h)))) (by decide +kernel))
set_option maxRecDepth 20000 in
theorem gL_polys_X5_roots : GoodIn wsL_polys (wsV RL 56 RX5 yX5_roots wsX5_roots) := goodIn_app (goodIn_of _ (by decide +kernel)) ggL_polys_X5_roots
set_option maxRecDepth 20000 in
theorem ggL_polys_L_valueOf : GoodIn wsL_polys wsL_valueOf := goodIn_r _ [370, 1, 45, 46, 47, 48] (by decide +kernel) (by decide +kernel)
set_option maxRecDepth 20000 in
theorem gL_polys_L_valueOf : GoodIn wsL_polys (va_wsS RL 86 yL_valueOf wsL_valueOf) := goodIn_app (goodIn_of _ (by decide +kernel)) ggL_polys_L_valueOf
theorem dL_polys_0 : decode cL_polys 0 = .ok (.iload_n 1, 1) := by decide +kernel
theorem dL_polys_1 : decode cL_polys 1 = .ok (.iconst 5, 1) := by decide +kernel
theorem dL_polys_2 : decode cL_polys 2 = .ok (.irem, 1) := by decide +kernel
theorem dL_polys_3 : decode cL_polys 3 = .ok (.istore 4, 2) := by decide +kernel
theorem dL_polys_5 : decode cL_polys 5 = .ok (.iload_n 1, 1) := by decide +kernel
theorem dL_polys_6 : decode cL_polys 6 = .ok (.iconst 5, 1) := by decide +kernel
theorem dL_polys_7 : decode cL_polys 7 = .ok (.idiv, 1) := by decide +kernel
theorem dL_polys_8 : decode cL_polys 8 = .ok (.iconst 4, 1) := by decide +kernel
theorem dL_polys_9 : decode cL_polys 9 = .ok (.irem, 1) := by decide +kernel
theorem dL_polys_10 : decode cL_polys 10 = .ok (.istore 5, 2) := by decide +kernel
theorem dL_polys_12 : decode cL_polys 12 = .ok (.iload_n 1, 1) := by decide +kernel
theorem dL_polys_13 : decode cL_polys 13 = .ok (.bipush 20, 2) := by decide +kernel
theorem dL_polys_15 : decode cL_polys 15 = .ok (.idiv, 1) := by decide +kernel
theorem dL_polys_16 : decode cL_polys 16 = .ok (.iconst 4, 1) := by decide +kernel
theorem dL_polys_17 : decode cL_polys 17 = .ok (.irem, 1) := by decide +kernel
theorem dL_polys_18 : decode cL_polys 18 = .ok (.istore 6, 2) := by decide +kernel
theorem dL_polys_20 : decode cL_polys 20 = .ok (.iload_n 1, 1) := by decide +kernel
theorem dL_polys_21 : decode cL_polys 21 = .ok (.bipush 80, 2) := by decide +kernel
theorem dL_polys_23 : decode cL_polys 23 = .ok (.idiv, 1) := by decide +kernel
theorem dL_polys_24 : decode cL_polys 24 = .ok (.iconst 4, 1) := by decide +kernel
theorem dL_polys_25 : decode cL_polys 25 = .ok (.irem, 1) := by decide +kernel
theorem dL_polys_26 : decode cL_polys 26 = .ok (.istore 7, 2) := by decide +kernel
theorem dL_polys_28 : decode cL_polys 28 = .ok (.iload_n 2, 1) := by decide +kernel
theorem dL_polys_29 : decode cL_polys 29 = .ok (.sipush 1999, 3) := by decide +kernel
theorem dL_polys_32 : decode cL_polys 32 = .ok (.irem, 1) := by decide +kernel
theorem dL_polys_33 : decode cL_polys 33 = .ok (.sipush 999, 3) := by decide +kernel
theorem dL_polys_36 : decode cL_polys 36 = .ok (.isub, 1) := by decide +kernel
theorem dL_polys_37 : decode cL_polys 37 = .ok (.istore 8, 2) := by decide +kernel
theorem dL_polys_39 : decode cL_polys 39 = .ok (.iload 4, 2) := by decide +kernel
theorem dL_polys_41 : decode cL_polys 41 = .ok (.iconst 2, 1) := by decide +kernel
theorem dL_polys_42 : decode cL_polys 42 = .ok (.if_icmp .ge 104, 3) := by decide +kernel
theorem dL_polys_45 : decode cL_polys 45 = .ok (.iload_n 2, 1) := by decide +kernel
theorem dL_polys_46 : decode cL_polys 46 = .ok (.bipush 9, 2) := by decide +kernel
theorem dL_polys_48 : decode cL_polys 48 = .ok (.irem, 1) := by decide +kernel
theorem dL_polys_49 : decode cL_polys 49 = .ok (.istore 9, 2) := by decide +kernel
theorem dL_polys_51 : decode cL_polys 51 = .ok (.iload_n 2, 1) := by decide +kernel
theorem dL_polys_52 : decode cL_polys 52 = .ok (.bipush 9, 2) := by decide +kernel
theorem dL_polys_54 : decode cL_polys 54 = .ok (.idiv, 1) := by decide +kernel
theorem dL_polys_55 : decode cL_polys 55 = .ok (.iconst 5, 1) := by decide +kernel
theorem dL_polys_56 : decode cL_polys 56 = .ok (.irem, 1) := by decide +kernel
theorem dL_polys_57 : decode cL_polys 57 = .ok (.ifCond .ne 8, 3) := by decide +kernel
theorem dL_polys_60 : decode cL_polys 60 = .ok (.ldc 55, 2) := by decide +kernel
theorem dL_polys_62 : decode cL_polys 62 = .ok (.goto 37, 3) := by decide +kernel
theorem dL_polys_65 : decode cL_polys 65 = .ok (.iload_n 2, 1) := by decide +kernel
theorem dL_polys_66 : decode cL_polys 66 = .ok (.bipush 45, 2) := by decide +kernel
theorem dL_polys_68 : decode cL_polys 68 = .ok (.idiv, 1) := by decide +kernel
theorem dL_polys_69 : decode cL_polys 69 = .ok (.bipush 41, 2) := by decide +kernel
theorem dL_polys_71 : decode cL_polys 71 = .ok (.irem, 1) := by decide +kernel
theorem dL_polys_72 : decode cL_polys 72 = .ok (.bipush 20, 2) := by decide +kernel
theorem dL_polys_74 : decode cL_polys 74 = .ok (.isub, 1) := by decide +kernel
theorem dL_polys_75 : decode cL_polys 75 = .ok (.iload_n 2, 1) := by decide +kernel
theorem dL_polys_76 : decode cL_polys 76 = .ok (.sipush 2000, 3) := by decide +kernel
theorem dL_polys_79 : decode cL_polys 79 = .ok (.idiv, 1) := by decide +kernel
theorem dL_polys_80 : decode cL_polys 80 = .ok (.bipush 9, 2) := by decide +kernel
theorem dL_polys_82 : decode cL_polys 82 = .ok (.irem, 1) := by decide +kernel
theorem dL_polys_83 : decode cL_polys 83 = .ok (.ifCond .ne 14, 3) := by decide +kernel
theorem dL_polys_86 : decode cL_polys 86 = .ok (.bipush 7, 2) := by decide +kernel
theorem dL_polys_88 : decode cL_polys 88 = .ok (.iload 9, 2) := by decide +kernel
theorem dL_polys_90 : decode cL_polys 90 = .ok (.imul, 1) := by decide +kernel
theorem dL_polys_91 : decode cL_polys 91 = .ok (.iload 9, 2) := by decide +kernel
theorem dL_polys_93 : decode cL_polys 93 = .ok (.imul, 1) := by decide +kernel
theorem dL_polys_94 : decode cL_polys 94 = .ok (.goto 4, 3) := by decide +kernel
theorem dL_polys_97 : decode cL_polys 97 = .ok (.iconst 0, 1) := by decide +kernel
theorem dL_polys_98 : decode cL_polys 98 = .ok (.iadd, 1) := by decide +kernel
theorem dL_polys_99 : decode cL_polys 99 = .ok (.istore 10, 2) := by decide +kernel
theorem dL_polys_101 : decode cL_polys 101 = .ok (.aload_n 3, 1) := by decide +kernel
theorem dL_polys_102 : decode cL_polys 102 = .ok (.bipush 9, 2) := by decide +kernel
theorem dL_polys_104 : decode cL_polys 104 = .ok (.iload 5, 2) := by decide +kernel
theorem dL_polys_106 : decode cL_polys 106 = .ok (.imul, 1) := by decide +kernel
theorem dL_polys_107 : decode cL_polys 107 = .ok (.iload 9, 2) := by decide +kernel
theorem dL_polys_109 : decode cL_polys 109 = .ok (.iadd, 1) := by decide +kernel
theorem dL_polys_110 : decode cL_polys 110 = .ok (.iaload, 1) := by decide +kernel
theorem dL_polys_111 : decode cL_polys 111 = .ok (.istore 11, 2) := by decide +kernel
theorem dL_polys_113 : decode cL_polys 113 = .ok (.aload_n 3, 1) := by decide +kernel
theorem dL_polys_114 : decode cL_polys 114 = .ok (.bipush 9, 2) := by decide +kernel
theorem dL_polys_116 : decode cL_polys 116 = .ok (.iload 5, 2) := by decide +kernel
theorem dL_polys_118 : decode cL_polys 118 = .ok (.imul, 1) := by decide +kernel
theorem dL_polys_119 : decode cL_polys 119 = .ok (.iload 9, 2) := by decide +kernel
theorem dL_polys_121 : decode cL_polys 121 = .ok (.iadd, 1) := by decide +kernel
theorem dL_polys_122 : decode cL_polys 122 = .ok (.iload 10, 2) := by decide +kernel
theorem dL_polys_124 : decode cL_polys 124 = .ok (.iastore, 1) := by decide +kernel
theorem dL_polys_125 : decode cL_polys 125 = .ok (.aload_n 0, 1) := by decide +kernel
theorem dL_polys_126 : decode cL_polys 126 = .ok (.iload 5, 2) := by decide +kernel
theorem dL_polys_128 : decode cL_polys 128 = .ok (.iload 9, 2) := by decide +kernel
theorem dL_polys_130 : decode cL_polys 130 = .ok (.iload 10, 2) := by decide +kernel
theorem dL_polys_132 : decode cL_polys 132 = .ok (.invokevirtual 74, 3) := by decide +kernel
theorem dL_polys_135 : decode cL_polys 135 = .ok (.iload 11, 2) := by decide +kernel
theorem dL_polys_137 : decode cL_polys 137 = .ok (.if_icmp .ne 7, 3) := by decide +kernel
theorem dL_polys_140 : decode cL_polys 140 = .ok (.iconst 1, 1) := by decide +kernel
theorem dL_polys_141 : decode cL_polys 141 = .ok (.goto 4, 3) := by decide +kernel
theorem dL_polys_144 : decode cL_polys 144 = .ok (.iconst 0, 1) := by decide +kernel
theorem dL_polys_145 : decode cL_polys 145 = .ok (.ireturn, 1) := by decide +kernel
theorem dL_polys_146 : decode cL_polys 146 = .ok (.iload 4, 2) := by decide +kernel
theorem dL_polys_148 : decode cL_polys 148 = .ok (.iconst 2, 1) := by decide +kernel
theorem dL_polys_149 : decode cL_polys 149 = .ok (.if_icmp .ne 165, 3) := by decide +kernel
theorem dL_polys_152 : decode cL_polys 152 = .ok (.iconst 0, 1) := by decide +kernel
theorem dL_polys_153 : decode cL_polys 153 = .ok (.istore 9, 2) := by decide +kernel
theorem dL_polys_155 : decode cL_polys 155 = .ok (.aload_n 0, 1) := by decide +kernel
theorem dL_polys_156 : decode cL_polys 156 = .ok (.iload 5, 2) := by decide +kernel
theorem dL_polys_158 : decode cL_polys 158 = .ok (.iload 8, 2) := by decide +kernel
theorem dL_polys_160 : decode cL_polys 160 = .ok (.invokevirtual 77, 3) := by decide +kernel
theorem dL_polys_163 : decode cL_polys 163 = .ok (.istore 10, 2) := by decide +kernel
theorem dL_polys_165 : decode cL_polys 165 = .ok (.aload_n 0, 1) := by decide +kernel
theorem dL_polys_166 : decode cL_polys 166 = .ok (.iload 6, 2) := by decide +kernel
theorem dL_polys_168 : decode cL_polys 168 = .ok (.iload 8, 2) := by decide +kernel
theorem dL_polys_170 : decode cL_polys 170 = .ok (.invokevirtual 77, 3) := by decide +kernel
theorem dL_polys_173 : decode cL_polys 173 = .ok (.istore 11, 2) := by decide +kernel
theorem dL_polys_175 : decode cL_polys 175 = .ok (.iconst 0, 1) := by decide +kernel
theorem dL_polys_176 : decode cL_polys 176 = .ok (.istore 12, 2) := by decide +kernel
theorem dL_polys_178 : decode cL_polys 178 = .ok (.iload 12, 2) := by decide +kernel
theorem dL_polys_180 : decode cL_polys 180 = .ok (.bipush 9, 2) := by decide +kernel
theorem dL_polys_182 : decode cL_polys 182 = .ok (.if_icmp .ge 60, 3) := by decide +kernel
theorem dL_polys_185 : decode cL_polys 185 = .ok (.aload_n 3, 1) := by decide +kernel
theorem dL_polys_186 : decode cL_polys 186 = .ok (.bipush 9, 2) := by decide +kernel
theorem dL_polys_188 : decode cL_polys 188 = .ok (.iload 5, 2) := by decide +kernel
theorem dL_polys_190 : decode cL_polys 190 = .ok (.imul, 1) := by decide +kernel
theorem dL_polys_191 : decode cL_polys 191 = .ok (.iload 12, 2) := by decide +kernel
theorem dL_polys_193 : decode cL_polys 193 = .ok (.iadd, 1) := by decide +kernel
theorem dL_polys_194 : decode cL_polys 194 = .ok (.iaload, 1) := by decide +kernel
theorem dL_polys_195 : decode cL_polys 195 = .ok (.aload_n 3, 1) := by decide +kernel
theorem dL_polys_196 : decode cL_polys 196 = .ok (.bipush 9, 2) := by decide +kernel
theorem dL_polys_198 : decode cL_polys 198 = .ok (.iload 6, 2) := by decide +kernel
theorem dL_polys_200 : decode cL_polys 200 = .ok (.imul, 1) := by decide +kernel
theorem dL_polys_201 : decode cL_polys 201 = .ok (.iload 12, 2) := by decide +kernel
theorem dL_polys_203 : decode cL_polys 203 = .ok (.iadd, 1) := by decide +kernel
theorem dL_polys_204 : decode cL_polys 204 = .ok (.iaload, 1) := by decide +kernel
theorem dL_polys_205 : decode cL_polys 205 = .ok (.invokestatic 68, 3) := by decide +kernel
theorem dL_polys_208 : decode cL_polys 208 = .ok (.istore 13, 2) := by decide +kernel
theorem dL_polys_210 : decode cL_polys 210 = .ok (.iload 9, 2) := by decide +kernel
theorem dL_polys_212 : decode cL_polys 212 = .ok (.iload 13, 2) := by decide +kernel
theorem dL_polys_214 : decode cL_polys 214 = .ok (.ldc 55, 2) := by decide +kernel
theorem dL_polys_216 : decode cL_polys 216 = .ok (.if_icmp .ne 7, 3) := by decide +kernel
theorem dL_polys_219 : decode cL_polys 219 = .ok (.iconst 0, 1) := by decide +kernel
theorem dL_polys_220 : decode cL_polys 220 = .ok (.goto 4, 3) := by decide +kernel
theorem dL_polys_223 : decode cL_polys 223 = .ok (.iconst 1, 1) := by decide +kernel
theorem dL_polys_224 : decode cL_polys 224 = .ok (.iadd, 1) := by decide +kernel
theorem dL_polys_225 : decode cL_polys 225 = .ok (.istore 9, 2) := by decide +kernel
theorem dL_polys_227 : decode cL_polys 227 = .ok (.aload_n 3, 1) := by decide +kernel
theorem dL_polys_228 : decode cL_polys 228 = .ok (.bipush 36, 2) := by decide +kernel
theorem dL_polys_230 : decode cL_polys 230 = .ok (.iload 12, 2) := by decide +kernel
theorem dL_polys_232 : decode cL_polys 232 = .ok (.iadd, 1) := by decide +kernel
theorem dL_polys_233 : decode cL_polys 233 = .ok (.iload 13, 2) := by decide +kernel
theorem dL_polys_235 : decode cL_polys 235 = .ok (.iastore, 1) := by decide +kernel
theorem dL_polys_236 : decode cL_polys 236 = .ok (.iinc 12 1, 3) := by decide +kernel
theorem dL_polys_239 : decode cL_polys 239 = .ok (.goto (-61), 3) := by decide +kernel
theorem dL_polys_242 : decode cL_polys 242 = .ok (.iconst 0, 1) := by decide +kernel
theorem dL_polys_243 : decode cL_polys 243 = .ok (.istore 12, 2) := by decide +kernel
theorem dL_polys_245 : decode cL_polys 245 = .ok (.iload 12, 2) := by decide +kernel
theorem dL_polys_247 : decode cL_polys 247 = .ok (.bipush 9, 2) := by decide +kernel
theorem dL_polys_249 : decode cL_polys 249 = .ok (.if_icmp .ge 26, 3) := by decide +kernel
theorem dL_polys_252 : decode cL_polys 252 = .ok (.aload_n 3, 1) := by decide +kernel
theorem dL_polys_253 : decode cL_polys 253 = .ok (.bipush 9, 2) := by decide +kernel
theorem dL_polys_255 : decode cL_polys 255 = .ok (.iload 7, 2) := by decide +kernel
theorem dL_polys_257 : decode cL_polys 257 = .ok (.imul, 1) := by decide +kernel
theorem dL_polys_258 : decode cL_polys 258 = .ok (.iload 12, 2) := by decide +kernel
theorem dL_polys_260 : decode cL_polys 260 = .ok (.iadd, 1) := by decide +kernel
theorem dL_polys_261 : decode cL_polys 261 = .ok (.aload_n 3, 1) := by decide +kernel
theorem dL_polys_262 : decode cL_polys 262 = .ok (.bipush 36, 2) := by decide +kernel
theorem dL_polys_264 : decode cL_polys 264 = .ok (.iload 12, 2) := by decide +kernel
theorem dL_polys_266 : decode cL_polys 266 = .ok (.iadd, 1) := by decide +kernel
theorem dL_polys_267 : decode cL_polys 267 = .ok (.iaload, 1) := by decide +kernel
theorem dL_polys_268 : decode cL_polys 268 = .ok (.iastore, 1) := by decide +kernel
theorem dL_polys_269 : decode cL_polys 269 = .ok (.iinc 12 1, 3) := by decide +kernel
theorem dL_polys_272 : decode cL_polys 272 = .ok (.goto (-27), 3) := by decide +kernel
theorem dL_polys_275 : decode cL_polys 275 = .ok (.aload_n 0, 1) := by decide +kernel
theorem dL_polys_276 : decode cL_polys 276 = .ok (.iload 5, 2) := by decide +kernel
theorem dL_polys_278 : decode cL_polys 278 = .ok (.iload 6, 2) := by decide +kernel
theorem dL_polys_280 : decode cL_polys 280 = .ok (.iload 7, 2) := by decide +kernel
theorem dL_polys_282 : decode cL_polys 282 = .ok (.invokevirtual 80, 3) := by decide +kernel
theorem dL_polys_285 : decode cL_polys 285 = .ok (.iload 9, 2) := by decide +kernel
theorem dL_polys_287 : decode cL_polys 287 = .ok (.if_icmp .ne 25, 3) := by decide +kernel
theorem dL_polys_290 : decode cL_polys 290 = .ok (.aload_n 0, 1) := by decide +kernel
theorem dL_polys_291 : decode cL_polys 291 = .ok (.iload 7, 2) := by decide +kernel
theorem dL_polys_293 : decode cL_polys 293 = .ok (.iload 8, 2) := by decide +kernel
theorem dL_polys_295 : decode cL_polys 295 = .ok (.invokevirtual 77, 3) := by decide +kernel
theorem dL_polys_298 : decode cL_polys 298 = .ok (.iload 10, 2) := by decide +kernel
theorem dL_polys_300 : decode cL_polys 300 = .ok (.iload 11, 2) := by decide +kernel
theorem dL_polys_302 : decode cL_polys 302 = .ok (.invokestatic 68, 3) := by decide +kernel
theorem dL_polys_305 : decode cL_polys 305 = .ok (.if_icmp .ne 7, 3) := by decide +kernel
theorem dL_polys_308 : decode cL_polys 308 = .ok (.iconst 1, 1) := by decide +kernel
theorem dL_polys_309 : decode cL_polys 309 = .ok (.goto 4, 3) := by decide +kernel
theorem dL_polys_312 : decode cL_polys 312 = .ok (.iconst 0, 1) := by decide +kernel
theorem dL_polys_313 : decode cL_polys 313 = .ok (.ireturn, 1) := by decide +kernel
theorem dL_polys_314 : decode cL_polys 314 = .ok (.iload 4, 2) := by decide +kernel
theorem dL_polys_316 : decode cL_polys 316 = .ok (.iconst 3, 1) := by decide +kernel
theorem dL_polys_317 : decode cL_polys 317 = .ok (.if_icmp .ne 313, 3) := by decide +kernel
theorem dL_polys_320 : decode cL_polys 320 = .ok (.iconst 0, 1) := by decide +kernel
theorem dL_polys_321 : decode cL_polys 321 = .ok (.istore 9, 2) := by decide +kernel
theorem dL_polys_323 : decode cL_polys 323 = .ok (.aload_n 0, 1) := by decide +kernel
theorem dL_polys_324 : decode cL_polys 324 = .ok (.iload 5, 2) := by decide +kernel
theorem dL_polys_326 : decode cL_polys 326 = .ok (.iload 8, 2) := by decide +kernel
theorem dL_polys_328 : decode cL_polys 328 = .ok (.invokevirtual 77, 3) := by decide +kernel
theorem dL_polys_331 : decode cL_polys 331 = .ok (.istore 10, 2) := by decide +kernel
theorem dL_polys_333 : decode cL_polys 333 = .ok (.aload_n 0, 1) := by decide +kernel
theorem dL_polys_334 : decode cL_polys 334 = .ok (.iload 6, 2) := by decide +kernel
theorem dL_polys_336 : decode cL_polys 336 = .ok (.iload 8, 2) := by decide +kernel
theorem dL_polys_338 : decode cL_polys 338 = .ok (.invokevirtual 77, 3) := by decide +kernel
theorem dL_polys_341 : decode cL_polys 341 = .ok (.istore 11, 2) := by decide +kernel
theorem dL_polys_343 : decode cL_polys 343 = .ok (.iconst 1, 1) := by decide +kernel
theorem dL_polys_344 : decode cL_polys 344 = .ok (.istore 12, 2) := by decide +kernel
theorem dL_polys_346 : decode cL_polys 346 = .ok (.bipush 36, 2) := by decide +kernel
theorem dL_polys_348 : decode cL_polys 348 = .ok (.istore 13, 2) := by decide +kernel
theorem dL_polys_350 : decode cL_polys 350 = .ok (.iload 13, 2) := by decide +kernel
theorem dL_polys_352 : decode cL_polys 352 = .ok (.bipush 53, 2) := by decide +kernel
theorem dL_polys_354 : decode cL_polys 354 = .ok (.if_icmp .ge 15, 3) := by decide +kernel
theorem dL_polys_357 : decode cL_polys 357 = .ok (.aload_n 3, 1) := by decide +kernel
theorem dL_polys_358 : decode cL_polys 358 = .ok (.iload 13, 2) := by decide +kernel
theorem dL_polys_360 : decode cL_polys 360 = .ok (.ldc 55, 2) := by decide +kernel
theorem dL_polys_362 : decode cL_polys 362 = .ok (.iastore, 1) := by decide +kernel
theorem dL_polys_363 : decode cL_polys 363 = .ok (.iinc 13 1, 3) := by decide +kernel
theorem dL_polys_366 : decode cL_polys 366 = .ok (.goto (-16), 3) := by decide +kernel
theorem dL_polys_369 : decode cL_polys 369 = .ok (.iconst 0, 1) := by decide +kernel
theorem dL_polys_370 : decode cL_polys 370 = .ok (.istore 13, 2) := by decide +kernel
theorem dL_polys_372 : decode cL_polys 372 = .ok (.iload 13, 2) := by decide +kernel
theorem dL_polys_374 : decode cL_polys 374 = .ok (.bipush 81, 2) := by decide +kernel
theorem dL_polys_376 : decode cL_polys 376 = .ok (.if_icmp .ge 65, 3) := by decide +kernel
theorem dL_polys_379 : decode cL_polys 379 = .ok (.bipush 36, 2) := by decide +kernel
theorem dL_polys_381 : decode cL_polys 381 = .ok (.iload 13, 2) := by decide +kernel
theorem dL_polys_383 : decode cL_polys 383 = .ok (.bipush 9, 2) := by decide +kernel
theorem dL_polys_385 : decode cL_polys 385 = .ok (.idiv, 1) := by decide +kernel
theorem dL_polys_386 : decode cL_polys 386 = .ok (.iadd, 1) := by decide +kernel
theorem dL_polys_387 : decode cL_polys 387 = .ok (.iload 13, 2) := by decide +kernel
theorem dL_polys_389 : decode cL_polys 389 = .ok (.bipush 9, 2) := by decide +kernel
theorem dL_polys_391 : decode cL_polys 391 = .ok (.irem, 1) := by decide +kernel
theorem dL_polys_392 : decode cL_polys 392 = .ok (.iadd, 1) := by decide +kernel
theorem dL_polys_393 : decode cL_polys 393 = .ok (.istore 14, 2) := by decide +kernel
theorem dL_polys_395 : decode cL_polys 395 = .ok (.aload_n 3, 1) := by decide +kernel
theorem dL_polys_396 : decode cL_polys 396 = .ok (.iload 14, 2) := by decide +kernel
theorem dL_polys_398 : decode cL_polys 398 = .ok (.aload_n 3, 1) := by decide +kernel
theorem dL_polys_399 : decode cL_polys 399 = .ok (.iload 14, 2) := by decide +kernel
theorem dL_polys_401 : decode cL_polys 401 = .ok (.iaload, 1) := by decide +kernel
theorem dL_polys_402 : decode cL_polys 402 = .ok (.aload_n 3, 1) := by decide +kernel
theorem dL_polys_403 : decode cL_polys 403 = .ok (.bipush 9, 2) := by decide +kernel
theorem dL_polys_405 : decode cL_polys 405 = .ok (.iload 5, 2) := by decide +kernel
theorem dL_polys_407 : decode cL_polys 407 = .ok (.imul, 1) := by decide +kernel
theorem dL_polys_408 : decode cL_polys 408 = .ok (.iload 13, 2) := by decide +kernel
theorem dL_polys_410 : decode cL_polys 410 = .ok (.bipush 9, 2) := by decide +kernel
theorem dL_polys_412 : decode cL_polys 412 = .ok (.idiv, 1) := by decide +kernel
theorem dL_polys_413 : decode cL_polys 413 = .ok (.iadd, 1) := by decide +kernel
theorem dL_polys_414 : decode cL_polys 414 = .ok (.iaload, 1) := by decide +kernel
theorem dL_polys_415 : decode cL_polys 415 = .ok (.aload_n 3, 1) := by decide +kernel
theorem dL_polys_416 : decode cL_polys 416 = .ok (.bipush 9, 2) := by decide +kernel
theorem dL_polys_418 : decode cL_polys 418 = .ok (.iload 6, 2) := by decide +kernel
theorem dL_polys_420 : decode cL_polys 420 = .ok (.imul, 1) := by decide +kernel
theorem dL_polys_421 : decode cL_polys 421 = .ok (.iload 13, 2) := by decide +kernel
theorem dL_polys_423 : decode cL_polys 423 = .ok (.bipush 9, 2) := by decide +kernel
theorem dL_polys_425 : decode cL_polys 425 = .ok (.irem, 1) := by decide +kernel
theorem dL_polys_426 : decode cL_polys 426 = .ok (.iadd, 1) := by decide +kernel
theorem dL_polys_427 : decode cL_polys 427 = .ok (.iaload, 1) := by decide +kernel
theorem dL_polys_428 : decode cL_polys 428 = .ok (.invokestatic 83, 3) := by decide +kernel
theorem dL_polys_431 : decode cL_polys 431 = .ok (.invokestatic 68, 3) := by decide +kernel
theorem dL_polys_434 : decode cL_polys 434 = .ok (.iastore, 1) := by decide +kernel
theorem dL_polys_435 : decode cL_polys 435 = .ok (.iinc 13 1, 3) := by decide +kernel
theorem dL_polys_438 : decode cL_polys 438 = .ok (.goto (-66), 3) := by decide +kernel
theorem dL_polys_441 : decode cL_polys 441 = .ok (.bipush 36, 2) := by decide +kernel
theorem dL_polys_443 : decode cL_polys 443 = .ok (.istore 13, 2) := by decide +kernel
theorem dL_polys_445 : decode cL_polys 445 = .ok (.iload 13, 2) := by decide +kernel
theorem dL_polys_447 : decode cL_polys 447 = .ok (.bipush 53, 2) := by decide +kernel
theorem dL_polys_449 : decode cL_polys 449 = .ok (.if_icmp .ge 88, 3) := by decide +kernel
theorem dL_polys_452 : decode cL_polys 452 = .ok (.iload 12, 2) := by decide +kernel
theorem dL_polys_454 : decode cL_polys 454 = .ok (.ifCond .eq 55, 3) := by decide +kernel
theorem dL_polys_457 : decode cL_polys 457 = .ok (.iload 13, 2) := by decide +kernel
theorem dL_polys_459 : decode cL_polys 459 = .ok (.bipush 45, 2) := by decide +kernel
theorem dL_polys_461 : decode cL_polys 461 = .ok (.if_icmp .ge 35, 3) := by decide +kernel
theorem dL_polys_464 : decode cL_polys 464 = .ok (.aload_n 3, 1) := by decide +kernel
theorem dL_polys_465 : decode cL_polys 465 = .ok (.iload 13, 2) := by decide +kernel
theorem dL_polys_467 : decode cL_polys 467 = .ok (.iaload, 1) := by decide +kernel
theorem dL_polys_468 : decode cL_polys 468 = .ok (.ldc 55, 2) := by decide +kernel
theorem dL_polys_470 : decode cL_polys 470 = .ok (.if_icmp .eq 35, 3) := by decide +kernel
theorem dL_polys_473 : decode cL_polys 473 = .ok (.aload_n 3, 1) := by decide +kernel
theorem dL_polys_474 : decode cL_polys 474 = .ok (.iload 13, 2) := by decide +kernel
theorem dL_polys_476 : decode cL_polys 476 = .ok (.iaload, 1) := by decide +kernel
theorem dL_polys_477 : decode cL_polys 477 = .ok (.sipush (-9999), 3) := by decide +kernel
theorem dL_polys_480 : decode cL_polys 480 = .ok (.if_icmp .lt 29, 3) := by decide +kernel
theorem dL_polys_483 : decode cL_polys 483 = .ok (.aload_n 3, 1) := by decide +kernel
theorem dL_polys_484 : decode cL_polys 484 = .ok (.iload 13, 2) := by decide +kernel
theorem dL_polys_486 : decode cL_polys 486 = .ok (.iaload, 1) := by decide +kernel
theorem dL_polys_487 : decode cL_polys 487 = .ok (.sipush 9999, 3) := by decide +kernel
theorem dL_polys_490 : decode cL_polys 490 = .ok (.if_icmp .gt 19, 3) := by decide +kernel
theorem dL_polys_493 : decode cL_polys 493 = .ok (.goto 12, 3) := by decide +kernel
theorem dL_polys_496 : decode cL_polys 496 = .ok (.aload_n 3, 1) := by decide +kernel
theorem dL_polys_497 : decode cL_polys 497 = .ok (.iload 13, 2) := by decide +kernel
theorem dL_polys_499 : decode cL_polys 499 = .ok (.iaload, 1) := by decide +kernel
theorem dL_polys_500 : decode cL_polys 500 = .ok (.ldc 55, 2) := by decide +kernel
theorem dL_polys_502 : decode cL_polys 502 = .ok (.if_icmp .ne 7, 3) := by decide +kernel
theorem dL_polys_505 : decode cL_polys 505 = .ok (.iconst 1, 1) := by decide +kernel
theorem dL_polys_506 : decode cL_polys 506 = .ok (.goto 4, 3) := by decide +kernel
theorem dL_polys_509 : decode cL_polys 509 = .ok (.iconst 0, 1) := by decide +kernel
theorem dL_polys_510 : decode cL_polys 510 = .ok (.istore 12, 2) := by decide +kernel
theorem dL_polys_512 : decode cL_polys 512 = .ok (.iload 9, 2) := by decide +kernel
theorem dL_polys_514 : decode cL_polys 514 = .ok (.aload_n 3, 1) := by decide +kernel
theorem dL_polys_515 : decode cL_polys 515 = .ok (.iload 13, 2) := by decide +kernel
theorem dL_polys_517 : decode cL_polys 517 = .ok (.iaload, 1) := by decide +kernel
theorem dL_polys_518 : decode cL_polys 518 = .ok (.ldc 55, 2) := by decide +kernel
theorem dL_polys_520 : decode cL_polys 520 = .ok (.if_icmp .ne 7, 3) := by decide +kernel
theorem dL_polys_523 : decode cL_polys 523 = .ok (.iconst 0, 1) := by decide +kernel
theorem dL_polys_524 : decode cL_polys 524 = .ok (.goto 4, 3) := by decide +kernel
theorem dL_polys_527 : decode cL_polys 527 = .ok (.iconst 1, 1) := by decide +kernel
theorem dL_polys_528 : decode cL_polys 528 = .ok (.iadd, 1) := by decide +kernel
theorem dL_polys_529 : decode cL_polys 529 = .ok (.istore 9, 2) := by decide +kernel
theorem dL_polys_531 : decode cL_polys 531 = .ok (.iinc 13 1, 3) := by decide +kernel
theorem dL_polys_534 : decode cL_polys 534 = .ok (.goto (-89), 3) := by decide +kernel
theorem dL_polys_537 : decode cL_polys 537 = .ok (.iconst 0, 1) := by decide +kernel
theorem dL_polys_538 : decode cL_polys 538 = .ok (.istore 13, 2) := by decide +kernel
theorem dL_polys_540 : decode cL_polys 540 = .ok (.iload 13, 2) := by decide +kernel
theorem dL_polys_542 : decode cL_polys 542 = .ok (.bipush 9, 2) := by decide +kernel
theorem dL_polys_544 : decode cL_polys 544 = .ok (.if_icmp .ge 31, 3) := by decide +kernel
theorem dL_polys_547 : decode cL_polys 547 = .ok (.iload 12, 2) := by decide +kernel
theorem dL_polys_549 : decode cL_polys 549 = .ok (.ifCond .eq 26, 3) := by decide +kernel
theorem dL_polys_552 : decode cL_polys 552 = .ok (.aload_n 3, 1) := by decide +kernel
theorem dL_polys_553 : decode cL_polys 553 = .ok (.bipush 9, 2) := by decide +kernel
theorem dL_polys_555 : decode cL_polys 555 = .ok (.iload 7, 2) := by decide +kernel
theorem dL_polys_557 : decode cL_polys 557 = .ok (.imul, 1) := by decide +kernel
theorem dL_polys_558 : decode cL_polys 558 = .ok (.iload 13, 2) := by decide +kernel
theorem dL_polys_560 : decode cL_polys 560 = .ok (.iadd, 1) := by decide +kernel
theorem dL_polys_561 : decode cL_polys 561 = .ok (.aload_n 3, 1) := by decide +kernel
theorem dL_polys_562 : decode cL_polys 562 = .ok (.bipush 36, 2) := by decide +kernel
theorem dL_polys_564 : decode cL_polys 564 = .ok (.iload 13, 2) := by decide +kernel
theorem dL_polys_566 : decode cL_polys 566 = .ok (.iadd, 1) := by decide +kernel
theorem dL_polys_567 : decode cL_polys 567 = .ok (.iaload, 1) := by decide +kernel
theorem dL_polys_568 : decode cL_polys 568 = .ok (.iastore, 1) := by decide +kernel
theorem dL_polys_569 : decode cL_polys 569 = .ok (.iinc 13 1, 3) := by decide +kernel
theorem dL_polys_572 : decode cL_polys 572 = .ok (.goto (-32), 3) := by decide +kernel
theorem dL_polys_575 : decode cL_polys 575 = .ok (.aload_n 0, 1) := by decide +kernel
theorem dL_polys_576 : decode cL_polys 576 = .ok (.iconst 0, 1) := by decide +kernel
theorem dL_polys_577 : decode cL_polys 577 = .ok (.iload 5, 2) := by decide +kernel
theorem dL_polys_579 : decode cL_polys 579 = .ok (.iload 6, 2) := by decide +kernel
theorem dL_polys_581 : decode cL_polys 581 = .ok (.iload 7, 2) := by decide +kernel
theorem dL_polys_583 : decode cL_polys 583 = .ok (.invokestatic 59, 3) := by decide +kernel
theorem dL_polys_586 : decode cL_polys 586 = .ok (.iload 12, 2) := by decide +kernel
theorem dL_polys_588 : decode cL_polys 588 = .ok (.ifCond .eq 8, 3) := by decide +kernel
theorem dL_polys_591 : decode cL_polys 591 = .ok (.iload 9, 2) := by decide +kernel
theorem dL_polys_593 : decode cL_polys 593 = .ok (.goto 5, 3) := by decide +kernel
theorem dL_polys_596 : decode cL_polys 596 = .ok (.ldc 52, 2) := by decide +kernel
theorem dL_polys_598 : decode cL_polys 598 = .ok (.if_icmp .ne 30, 3) := by decide +kernel
theorem dL_polys_601 : decode cL_polys 601 = .ok (.iload 12, 2) := by decide +kernel
theorem dL_polys_603 : decode cL_polys 603 = .ok (.ifCond .eq 21, 3) := by decide +kernel
theorem dL_polys_606 : decode cL_polys 606 = .ok (.aload_n 0, 1) := by decide +kernel
theorem dL_polys_607 : decode cL_polys 607 = .ok (.iload 7, 2) := by decide +kernel
theorem dL_polys_609 : decode cL_polys 609 = .ok (.iload 8, 2) := by decide +kernel
theorem dL_polys_611 : decode cL_polys 611 = .ok (.invokevirtual 77, 3) := by decide +kernel
theorem dL_polys_614 : decode cL_polys 614 = .ok (.iload 10, 2) := by decide +kernel
theorem dL_polys_616 : decode cL_polys 616 = .ok (.iload 11, 2) := by decide +kernel
theorem dL_polys_618 : decode cL_polys 618 = .ok (.invokestatic 83, 3) := by decide +kernel
theorem dL_polys_621 : decode cL_polys 621 = .ok (.if_icmp .ne 7, 3) := by decide +kernel
theorem dL_polys_624 : decode cL_polys 624 = .ok (.iconst 1, 1) := by decide +kernel
theorem dL_polys_625 : decode cL_polys 625 = .ok (.goto 4, 3) := by decide +kernel
theorem dL_polys_628 : decode cL_polys 628 = .ok (.iconst 0, 1) := by decide +kernel
theorem dL_polys_629 : decode cL_polys 629 = .ok (.ireturn, 1) := by decide +kernel
theorem dL_polys_630 : decode cL_polys 630 = .ok (.aload_n 0, 1) := by decide +kernel
theorem dL_polys_631 : decode cL_polys 631 = .ok (.iload 5, 2) := by decide +kernel
theorem dL_polys_633 : decode cL_polys 633 = .ok (.iload 6, 2) := by decide +kernel
theorem dL_polys_635 : decode cL_polys 635 = .ok (.invokevirtual 71, 3) := by decide +kernel
theorem dL_polys_638 : decode cL_polys 638 = .ok (.istore 9, 2) := by decide +kernel
theorem dL_polys_640 : decode cL_polys 640 = .ok (.aload_n 0, 1) := by decide +kernel
theorem dL_polys_641 : decode cL_polys 641 = .ok (.iload 5, 2) := by decide +kernel
theorem dL_polys_643 : decode cL_polys 643 = .ok (.iload 8, 2) := by decide +kernel
theorem dL_polys_645 : decode cL_polys 645 = .ok (.invokevirtual 77, 3) := by decide +kernel
theorem dL_polys_648 : decode cL_polys 648 = .ok (.aload_n 0, 1) := by decide +kernel
theorem dL_polys_649 : decode cL_polys 649 = .ok (.iload 6, 2) := by decide +kernel
theorem dL_polys_651 : decode cL_polys 651 = .ok (.iload 8, 2) := by decide +kernel
theorem dL_polys_653 : decode cL_polys 653 = .ok (.invokevirtual 77, 3) := by decide +kernel
theorem dL_polys_656 : decode cL_polys 656 = .ok (.if_icmp .ne 43, 3) := by decide +kernel
theorem dL_polys_659 : decode cL_polys 659 = .ok (.aload_n 0, 1) := by decide +kernel
theorem dL_polys_660 : decode cL_polys 660 = .ok (.iload 5, 2) := by decide +kernel
theorem dL_polys_662 : decode cL_polys 662 = .ok (.iconst 0, 1) := by decide +kernel
theorem dL_polys_663 : decode cL_polys 663 = .ok (.invokevirtual 77, 3) := by decide +kernel
theorem dL_polys_666 : decode cL_polys 666 = .ok (.aload_n 0, 1) := by decide +kernel
theorem dL_polys_667 : decode cL_polys 667 = .ok (.iload 6, 2) := by decide +kernel
theorem dL_polys_669 : decode cL_polys 669 = .ok (.iconst 0, 1) := by decide +kernel
theorem dL_polys_670 : decode cL_polys 670 = .ok (.invokevirtual 77, 3) := by decide +kernel
theorem dL_polys_673 : decode cL_polys 673 = .ok (.if_icmp .ne 26, 3) := by decide +kernel
theorem dL_polys_676 : decode cL_polys 676 = .ok (.aload_n 0, 1) := by decide +kernel
theorem dL_polys_677 : decode cL_polys 677 = .ok (.iload 5, 2) := by decide +kernel
theorem dL_polys_679 : decode cL_polys 679 = .ok (.bipush 7, 2) := by decide +kernel
theorem dL_polys_681 : decode cL_polys 681 = .ok (.invokevirtual 77, 3) := by decide +kernel
theorem dL_polys_684 : decode cL_polys 684 = .ok (.aload_n 0, 1) := by decide +kernel
theorem dL_polys_685 : decode cL_polys 685 = .ok (.iload 6, 2) := by decide +kernel
theorem dL_polys_687 : decode cL_polys 687 = .ok (.bipush 7, 2) := by decide +kernel
theorem dL_polys_689 : decode cL_polys 689 = .ok (.invokevirtual 77, 3) := by decide +kernel
theorem dL_polys_692 : decode cL_polys 692 = .ok (.if_icmp .ne 7, 3) := by decide +kernel
theorem dL_polys_695 : decode cL_polys 695 = .ok (.iconst 1, 1) := by decide +kernel
theorem dL_polys_696 : decode cL_polys 696 = .ok (.goto 4, 3) := by decide +kernel
theorem dL_polys_699 : decode cL_polys 699 = .ok (.iconst 0, 1) := by decide +kernel
theorem dL_polys_700 : decode cL_polys 700 = .ok (.istore 10, 2) := by decide +kernel
theorem dL_polys_702 : decode cL_polys 702 = .ok (.iload_n 2, 1) := by decide +kernel
theorem dL_polys_703 : decode cL_polys 703 = .ok (.sipush 2000, 3) := by decide +kernel
theorem dL_polys_706 : decode cL_polys 706 = .ok (.idiv, 1) := by decide +kernel
theorem dL_polys_707 : decode cL_polys 707 = .ok (.bipush 9, 2) := by decide +kernel
theorem dL_polys_709 : decode cL_polys 709 = .ok (.irem, 1) := by decide +kernel
theorem dL_polys_710 : decode cL_polys 710 = .ok (.istore 11, 2) := by decide +kernel
theorem dL_polys_712 : decode cL_polys 712 = .ok (.aload_n 0, 1) := by decide +kernel
theorem dL_polys_713 : decode cL_polys 713 = .ok (.iload 5, 2) := by decide +kernel
theorem dL_polys_715 : decode cL_polys 715 = .ok (.iload 11, 2) := by decide +kernel
theorem dL_polys_717 : decode cL_polys 717 = .ok (.invokevirtual 63, 3) := by decide +kernel
theorem dL_polys_720 : decode cL_polys 720 = .ok (.istore 12, 2) := by decide +kernel
theorem dL_polys_722 : decode cL_polys 722 = .ok (.aload_n 0, 1) := by decide +kernel
theorem dL_polys_723 : decode cL_polys 723 = .ok (.iload 5, 2) := by decide +kernel
theorem dL_polys_725 : decode cL_polys 725 = .ok (.iload 8, 2) := by decide +kernel
theorem dL_polys_727 : decode cL_polys 727 = .ok (.invokevirtual 77, 3) := by decide +kernel
theorem dL_polys_730 : decode cL_polys 730 = .ok (.istore 13, 2) := by decide +kernel
theorem dL_polys_732 : decode cL_polys 732 = .ok (.iload 12, 2) := by decide +kernel
theorem dL_polys_734 : decode cL_polys 734 = .ok (.ifCond .eq 146, 3) := by decide +kernel
theorem dL_polys_737 : decode cL_polys 737 = .ok (.iload 5, 2) := by decide +kernel
theorem dL_polys_739 : decode cL_polys 739 = .ok (.iload 6, 2) := by decide +kernel
theorem dL_polys_741 : decode cL_polys 741 = .ok (.if_icmp .eq 139, 3) := by decide +kernel
theorem dL_polys_744 : decode cL_polys 744 = .ok (.aload_n 0, 1) := by decide +kernel
theorem dL_polys_745 : decode cL_polys 745 = .ok (.iload 5, 2) := by decide +kernel
theorem dL_polys_747 : decode cL_polys 747 = .ok (.iload 5, 2) := by decide +kernel
theorem dL_polys_749 : decode cL_polys 749 = .ok (.iload 6, 2) := by decide +kernel
theorem dL_polys_751 : decode cL_polys 751 = .ok (.invokevirtual 80, 3) := by decide +kernel
theorem dL_polys_754 : decode cL_polys 754 = .ok (.pop, 1) := by decide +kernel
theorem dL_polys_755 : decode cL_polys 755 = .ok (.aload_n 0, 1) := by decide +kernel
theorem dL_polys_756 : decode cL_polys 756 = .ok (.iload 6, 2) := by decide +kernel
theorem dL_polys_758 : decode cL_polys 758 = .ok (.iload 11, 2) := by decide +kernel
theorem dL_polys_760 : decode cL_polys 760 = .ok (.ldc 55, 2) := by decide +kernel
theorem dL_polys_762 : decode cL_polys 762 = .ok (.invokevirtual 74, 3) := by decide +kernel
theorem dL_polys_765 : decode cL_polys 765 = .ok (.pop, 1) := by decide +kernel
theorem dL_polys_766 : decode cL_polys 766 = .ok (.iconst 0, 1) := by decide +kernel
theorem dL_polys_767 : decode cL_polys 767 = .ok (.istore 14, 2) := by decide +kernel
theorem dL_polys_769 : decode cL_polys 769 = .ok (.iload 14, 2) := by decide +kernel
theorem dL_polys_771 : decode cL_polys 771 = .ok (.bipush 9, 2) := by decide +kernel
theorem dL_polys_773 : decode cL_polys 773 = .ok (.if_icmp .ge 41, 3) := by decide +kernel
theorem dL_polys_776 : decode cL_polys 776 = .ok (.aload_n 3, 1) := by decide +kernel
theorem dL_polys_777 : decode cL_polys 777 = .ok (.bipush 9, 2) := by decide +kernel
theorem dL_polys_779 : decode cL_polys 779 = .ok (.iload 6, 2) := by decide +kernel
theorem dL_polys_781 : decode cL_polys 781 = .ok (.imul, 1) := by decide +kernel
theorem dL_polys_782 : decode cL_polys 782 = .ok (.iload 14, 2) := by decide +kernel
theorem dL_polys_784 : decode cL_polys 784 = .ok (.iadd, 1) := by decide +kernel
theorem dL_polys_785 : decode cL_polys 785 = .ok (.iload 14, 2) := by decide +kernel
theorem dL_polys_787 : decode cL_polys 787 = .ok (.iload 11, 2) := by decide +kernel
theorem dL_polys_789 : decode cL_polys 789 = .ok (.if_icmp .ne 8, 3) := by decide +kernel
theorem dL_polys_792 : decode cL_polys 792 = .ok (.ldc 55, 2) := by decide +kernel
theorem dL_polys_794 : decode cL_polys 794 = .ok (.goto 13, 3) := by decide +kernel
theorem dL_polys_797 : decode cL_polys 797 = .ok (.aload_n 3, 1) := by decide +kernel
theorem dL_polys_798 : decode cL_polys 798 = .ok (.bipush 9, 2) := by decide +kernel
theorem dL_polys_800 : decode cL_polys 800 = .ok (.iload 5, 2) := by decide +kernel
theorem dL_polys_802 : decode cL_polys 802 = .ok (.imul, 1) := by decide +kernel
theorem dL_polys_803 : decode cL_polys 803 = .ok (.iload 14, 2) := by decide +kernel
theorem dL_polys_805 : decode cL_polys 805 = .ok (.iadd, 1) := by decide +kernel
theorem dL_polys_806 : decode cL_polys 806 = .ok (.iaload, 1) := by decide +kernel
theorem dL_polys_807 : decode cL_polys 807 = .ok (.iastore, 1) := by decide +kernel
theorem dL_polys_808 : decode cL_polys 808 = .ok (.iinc 14 1, 3) := by decide +kernel
theorem dL_polys_811 : decode cL_polys 811 = .ok (.goto (-42), 3) := by decide +kernel
theorem dL_polys_814 : decode cL_polys 814 = .ok (.iload 9, 2) := by decide +kernel
theorem dL_polys_816 : decode cL_polys 816 = .ok (.ifCond .eq 8, 3) := by decide +kernel
theorem dL_polys_819 : decode cL_polys 819 = .ok (.iload 10, 2) := by decide +kernel
theorem dL_polys_821 : decode cL_polys 821 = .ok (.ifCond .eq 57, 3) := by decide +kernel
theorem dL_polys_824 : decode cL_polys 824 = .ok (.aload_n 0, 1) := by decide +kernel
theorem dL_polys_825 : decode cL_polys 825 = .ok (.iload 5, 2) := by decide +kernel
theorem dL_polys_827 : decode cL_polys 827 = .ok (.iload 6, 2) := by decide +kernel
theorem dL_polys_829 : decode cL_polys 829 = .ok (.invokevirtual 71, 3) := by decide +kernel
theorem dL_polys_832 : decode cL_polys 832 = .ok (.ifCond .eq 46, 3) := by decide +kernel
theorem dL_polys_835 : decode cL_polys 835 = .ok (.aload_n 0, 1) := by decide +kernel
theorem dL_polys_836 : decode cL_polys 836 = .ok (.iload 6, 2) := by decide +kernel
theorem dL_polys_838 : decode cL_polys 838 = .ok (.iload 5, 2) := by decide +kernel
theorem dL_polys_840 : decode cL_polys 840 = .ok (.invokevirtual 71, 3) := by decide +kernel
theorem dL_polys_843 : decode cL_polys 843 = .ok (.ifCond .eq 35, 3) := by decide +kernel
theorem dL_polys_846 : decode cL_polys 846 = .ok (.aload_n 0, 1) := by decide +kernel
theorem dL_polys_847 : decode cL_polys 847 = .ok (.iload 6, 2) := by decide +kernel
theorem dL_polys_849 : decode cL_polys 849 = .ok (.iload 8, 2) := by decide +kernel
theorem dL_polys_851 : decode cL_polys 851 = .ok (.invokevirtual 77, 3) := by decide +kernel
theorem dL_polys_854 : decode cL_polys 854 = .ok (.iload 13, 2) := by decide +kernel
theorem dL_polys_856 : decode cL_polys 856 = .ok (.if_icmp .ne 22, 3) := by decide +kernel
theorem dL_polys_859 : decode cL_polys 859 = .ok (.aload_n 0, 1) := by decide +kernel
theorem dL_polys_860 : decode cL_polys 860 = .ok (.iload 5, 2) := by decide +kernel
theorem dL_polys_862 : decode cL_polys 862 = .ok (.invokevirtual 56, 3) := by decide +kernel
theorem dL_polys_865 : decode cL_polys 865 = .ok (.aload_n 0, 1) := by decide +kernel
theorem dL_polys_866 : decode cL_polys 866 = .ok (.iload 6, 2) := by decide +kernel
theorem dL_polys_868 : decode cL_polys 868 = .ok (.invokevirtual 56, 3) := by decide +kernel
theorem dL_polys_871 : decode cL_polys 871 = .ok (.if_icmp .ne 7, 3) := by decide +kernel
theorem dL_polys_874 : decode cL_polys 874 = .ok (.iconst 1, 1) := by decide +kernel
theorem dL_polys_875 : decode cL_polys 875 = .ok (.goto 4, 3) := by decide +kernel
theorem dL_polys_878 : decode cL_polys 878 = .ok (.iconst 0, 1) := by decide +kernel
theorem dL_polys_879 : decode cL_polys 879 = .ok (.ireturn, 1) := by decide +kernel
theorem dL_polys_880 : decode cL_polys 880 = .ok (.iload 9, 2) := by decide +kernel
theorem dL_polys_882 : decode cL_polys 882 = .ok (.ifCond .eq 8, 3) := by decide +kernel
theorem dL_polys_885 : decode cL_polys 885 = .ok (.iload 10, 2) := by decide +kernel
theorem dL_polys_887 : decode cL_polys 887 = .ok (.ifCond .eq 20, 3) := by decide +kernel
theorem dL_polys_890 : decode cL_polys 890 = .ok (.iload 13, 2) := by decide +kernel
theorem dL_polys_892 : decode cL_polys 892 = .ok (.aload_n 3, 1) := by decide +kernel
theorem dL_polys_893 : decode cL_polys 893 = .ok (.iload 5, 2) := by decide +kernel
theorem dL_polys_895 : decode cL_polys 895 = .ok (.iload 8, 2) := by decide +kernel
theorem dL_polys_897 : decode cL_polys 897 = .ok (.invokestatic 86, 3) := by decide +kernel
theorem dL_polys_900 : decode cL_polys 900 = .ok (.if_icmp .ne 7, 3) := by decide +kernel
theorem dL_polys_903 : decode cL_polys 903 = .ok (.iconst 1, 1) := by decide +kernel
theorem dL_polys_904 : decode cL_polys 904 = .ok (.goto 4, 3) := by decide +kernel
theorem dL_polys_907 : decode cL_polys 907 = .ok (.iconst 0, 1) := by decide +kernel
theorem dL_polys_908 : decode cL_polys 908 = .ok (.ireturn, 1) := by decide +kernel
set_option maxRecDepth 20000 in
theorem ggL_fills_X5_matrix : GoodIn wsL_fills wsX5_matrix := goodIn_ca (goodIn_ca (goodIn_r _ [7, 8, 9, 10, 6, 11, 12, 13, 14, 15, 16, 17, 18, 19, 20, 21, 22, 23, 24, 25, 26, 27, 28, 29, 30, 31, 32, 33, 53, 54, 55, 56, 57, 58, 59, 60, 61, 62, 63, 64] (by decide +kernel) (by decide +kernel)) (goodIn_sub (fun _ h => List.mem_cons_of_mem _ (List.mem_append_left _ (List.mem_append_right _ h))) (by decide +kernel))) (goodIn_sub (fun _ h => List.mem_cons_of_mem _ (List.mem_append_right _ h)) (by decide +kernel))
set_option maxRecDepth 20000 in
theorem gL_fills_X5_matrix : GoodIn wsL_fills (wsV RL 90 RX5 yX5_matrix wsX5_matrix) := goodIn_app (goodIn_of _ (by decide +kernel)) ggL_fills_X5_matrix
set_option maxRecDepth 20000 in
theorem ggL_fills_L_draw : GoodIn wsL_fills wsL_draw := goodIn_r _ [37, 38, 39, 40] (by decide +kernel) (by decide +kernel)
set_option maxRecDepth 20000 in
theorem gL_fills_L_draw : GoodIn wsL_fills (va_wsS RL 94 yL_draw wsL_draw) := goodIn_app (goodIn_of _ (by decide +kernel)) ggL_fills_L_draw
set_option maxRecDepth 20000 in
theorem ggL_fills_X5_entry : GoodIn wsL_fills wsX5_entry := goodIn_ca (goodIn_ca (goodIn_r _ [44, 8, 45, 46, 47, 6, 48, 9, 10, 11, 12, 13, 14, 15, 16, 49, 50, 51, 52, 17, 18, 19, 20, 21, 53, 54, 55, 56, 57, 58, 59, 60, 61, 62, 63, 64] (by decide +kernel) (by decide +kernel)) (goodIn_sub (fun _ h => List.mem_cons_of_mem _ (List.mem_append_left _ (List.mem_append_right _ h))) (by decide +kernel))) (goodIn_sub (fun _ h => List.mem_cons_of_mem _ (List.mem_append_right _ h)) (by decide +kernel))
set_option maxRecDepth 20000 in
theorem gL_fills_X5_entry : GoodIn wsL_fills (wsV RL 97 RX5 yX5_entry wsX5_entry) := goodIn_app (goodIn_of _ (by decide +kernel)) ggL_fills_X5_entry
theorem dL_fills_0 : decode cL_fills 0 = .ok (.aload_n 0, 1) := by decide +kernel
theorem dL_fills_1 : decode cL_fills 1 = .ok (.iload_n 1, 1) := by decide +kernel
theorem dL_fills_2 : decode cL_fills 2 = .ok (.iload_n 2, 1) := by decide +kernel
theorem dL_fills_3 : decode cL_fills 3 = .ok (.invokevirtual 90, 3) := by decide +kernel
theorem dL_fills_6 : decode cL_fills 6 = .ok (.pop, 1) := by decide +kernel
theorem dL_fills_7 : decode cL_fills 7 = .ok (.iconst 0, 1) := by decide +kernel
theorem dL_fills_8 : decode cL_fills 8 = .ok (.istore 7, 2) := by decide +kernel
theorem dL_fills_10 : decode cL_fills 10 = .ok (.iload 7, 2) := by decide +kernel
theorem dL_fills_12 : decode cL_fills 12 = .ok (.iload_n 2, 1) := by decide +kernel
theorem dL_fills_13 : decode cL_fills 13 = .ok (.iload_n 2, 1) := by decide +kernel
theorem dL_fills_14 : decode cL_fills 14 = .ok (.imul, 1) := by decide +kernel
theorem dL_fills_15 : decode cL_fills 15 = .ok (.if_icmp .ge 58, 3) := by decide +kernel
theorem dL_fills_18 : decode cL_fills 18 = .ok (.aload_n 3, 1) := by decide +kernel
theorem dL_fills_19 : decode cL_fills 19 = .ok (.iload 4, 2) := by decide +kernel
theorem dL_fills_21 : decode cL_fills 21 = .ok (.iload 7, 2) := by decide +kernel
theorem dL_fills_23 : decode cL_fills 23 = .ok (.iadd, 1) := by decide +kernel
theorem dL_fills_24 : decode cL_fills 24 = .ok (.ldc 93, 2) := by decide +kernel
theorem dL_fills_26 : decode cL_fills 26 = .ok (.invokestatic 94, 3) := by decide +kernel
theorem dL_fills_29 : decode cL_fills 29 = .ok (.istore 8, 2) := by decide +kernel
theorem dL_fills_31 : decode cL_fills 31 = .ok (.aload_n 0, 1) := by decide +kernel
theorem dL_fills_32 : decode cL_fills 32 = .ok (.iload_n 1, 1) := by decide +kernel
theorem dL_fills_33 : decode cL_fills 33 = .ok (.iload 7, 2) := by decide +kernel
theorem dL_fills_35 : decode cL_fills 35 = .ok (.iload_n 2, 1) := by decide +kernel
theorem dL_fills_36 : decode cL_fills 36 = .ok (.idiv, 1) := by decide +kernel
theorem dL_fills_37 : decode cL_fills 37 = .ok (.iload 7, 2) := by decide +kernel
theorem dL_fills_39 : decode cL_fills 39 = .ok (.iload_n 2, 1) := by decide +kernel
theorem dL_fills_40 : decode cL_fills 40 = .ok (.irem, 1) := by decide +kernel
theorem dL_fills_41 : decode cL_fills 41 = .ok (.iload 8, 2) := by decide +kernel
theorem dL_fills_43 : decode cL_fills 43 = .ok (.iconst 4, 1) := by decide +kernel
theorem dL_fills_44 : decode cL_fills 44 = .ok (.irem, 1) := by decide +kernel
theorem dL_fills_45 : decode cL_fills 45 = .ok (.ifCond .ne 8, 3) := by decide +kernel
theorem dL_fills_48 : decode cL_fills 48 = .ok (.ldc 55, 2) := by decide +kernel
theorem dL_fills_50 : decode cL_fills 50 = .ok (.goto 13, 3) := by decide +kernel
theorem dL_fills_53 : decode cL_fills 53 = .ok (.iload 5, 2) := by decide +kernel
theorem dL_fills_55 : decode cL_fills 55 = .ok (.iload 8, 2) := by decide +kernel
theorem dL_fills_57 : decode cL_fills 57 = .ok (.iconst 4, 1) := by decide +kernel
theorem dL_fills_58 : decode cL_fills 58 = .ok (.idiv, 1) := by decide +kernel
theorem dL_fills_59 : decode cL_fills 59 = .ok (.iload 6, 2) := by decide +kernel
theorem dL_fills_61 : decode cL_fills 61 = .ok (.irem, 1) := by decide +kernel
theorem dL_fills_62 : decode cL_fills 62 = .ok (.iadd, 1) := by decide +kernel
theorem dL_fills_63 : decode cL_fills 63 = .ok (.invokevirtual 97, 3) := by decide +kernel
theorem dL_fills_66 : decode cL_fills 66 = .ok (.pop, 1) := by decide +kernel
theorem dL_fills_67 : decode cL_fills 67 = .ok (.iinc 7 1, 3) := by decide +kernel
theorem dL_fills_70 : decode cL_fills 70 = .ok (.goto (-60), 3) := by decide +kernel
theorem dL_fills_73 : decode cL_fills 73 = .ok (.return_, 1) := by decide +kernel
set_option maxRecDepth 20000 in
theorem ggL_isLike_X5_at : GoodIn wsL_isLike wsX5_at := goodIn_ca (goodIn_r _ [5, 6, 7, 8, 9, 4, 10, 11, 12, 13, 14, 15, 16, 17, 18, 19, 20, 21, 22, 23, 24, 25, 26, 27, 28, 29, 30] (by decide +kernel) (by decide +kernel)) (goodIn_sub (fun _ h => List.mem_cons_of_mem _ (List.mem_append_right _ h)) (by decide +kernel))
set_option maxRecDepth 20000 in
theorem gL_isLike_X5_at : GoodIn wsL_isLike (wsV RL 101 RX5 yX5_at wsX5_at) := goodIn_app (goodIn_of _ (by decide +kernel)) ggL_isLike_X5_at
theorem dL_isLike_0 : decode cL_isLike 0 = .ok (.iconst 1, 1) := by decide +kernel
theorem dL_isLike_1 : decode cL_isLike 1 = .ok (.istore 4, 2) := by decide +kernel
theorem dL_isLike_3 : decode cL_isLike 3 = .ok (.iconst 0, 1) := by decide +kernel
theorem dL_isLike_4 : decode cL_isLike 4 = .ok (.istore 5, 2) := by decide +kernel
theorem dL_isLike_6 : decode cL_isLike 6 = .ok (.iload 5, 2) := by decide +kernel
theorem dL_isLike_8 : decode cL_isLike 8 = .ok (.iload_n 3, 1) := by decide +kernel
theorem dL_isLike_9 : decode cL_isLike 9 = .ok (.iload_n 3, 1) := by decide +kernel
theorem dL_isLike_10 : decode cL_isLike 10 = .ok (.imul, 1) := by decide +kernel
theorem dL_isLike_11 : decode cL_isLike 11 = .ok (.if_icmp .ge 50, 3) := by decide +kernel
theorem dL_isLike_14 : decode cL_isLike 14 = .ok (.iload 4, 2) := by decide +kernel
theorem dL_isLike_16 : decode cL_isLike 16 = .ok (.ifCond .eq 36, 3) := by decide +kernel
theorem dL_isLike_19 : decode cL_isLike 19 = .ok (.aload_n 0, 1) := by decide +kernel
theorem dL_isLike_20 : decode cL_isLike 20 = .ok (.iload_n 1, 1) := by decide +kernel
theorem dL_isLike_21 : decode cL_isLike 21 = .ok (.iload 5, 2) := by decide +kernel
theorem dL_isLike_23 : decode cL_isLike 23 = .ok (.iload_n 3, 1) := by decide +kernel
theorem dL_isLike_24 : decode cL_isLike 24 = .ok (.idiv, 1) := by decide +kernel
theorem dL_isLike_25 : decode cL_isLike 25 = .ok (.iload 5, 2) := by decide +kernel
theorem dL_isLike_27 : decode cL_isLike 27 = .ok (.iload_n 3, 1) := by decide +kernel
theorem dL_isLike_28 : decode cL_isLike 28 = .ok (.irem, 1) := by decide +kernel
theorem dL_isLike_29 : decode cL_isLike 29 = .ok (.invokevirtual 101, 3) := by decide +kernel
theorem dL_isLike_32 : decode cL_isLike 32 = .ok (.aload_n 0, 1) := by decide +kernel
theorem dL_isLike_33 : decode cL_isLike 33 = .ok (.iload_n 2, 1) := by decide +kernel
theorem dL_isLike_34 : decode cL_isLike 34 = .ok (.iload 5, 2) := by decide +kernel
theorem dL_isLike_36 : decode cL_isLike 36 = .ok (.iload_n 3, 1) := by decide +kernel
theorem dL_isLike_37 : decode cL_isLike 37 = .ok (.idiv, 1) := by decide +kernel
theorem dL_isLike_38 : decode cL_isLike 38 = .ok (.iload 5, 2) := by decide +kernel
theorem dL_isLike_40 : decode cL_isLike 40 = .ok (.iload_n 3, 1) := by decide +kernel
theorem dL_isLike_41 : decode cL_isLike 41 = .ok (.irem, 1) := by decide +kernel
theorem dL_isLike_42 : decode cL_isLike 42 = .ok (.invokevirtual 101, 3) := by decide +kernel
theorem dL_isLike_45 : decode cL_isLike 45 = .ok (.if_icmp .ne 7, 3) := by decide +kernel
theorem dL_isLike_48 : decode cL_isLike 48 = .ok (.iconst 1, 1) := by decide +kernel
theorem dL_isLike_49 : decode cL_isLike 49 = .ok (.goto 4, 3) := by decide +kernel
theorem dL_isLike_52 : decode cL_isLike 52 = .ok (.iconst 0, 1) := by decide +kernel
