/-! THE LAW'S CALLS: their words lie in the law's (printed by the names' program) -/
set_option maxRecDepth 20000 in
theorem ggL_law_X5_init : GoodIn wsL_law wsX5_init := goodIn_r _ [9, 10, 11, 12, 13, 14, 15, 16, 17, 18, 19, 20, 21, 22, 23, 24, 25, 26, 27, 28, 29, 30, 31, 32, 33, 34, 35, 36, 37, 38, 39, 40, 41, 42, 43, 44, 45, 46, 47, 48, 49, 50, 51, 52, 53, 54, 55, 56, 57, 58, 59, 60, 61, 62, 63, 64, 65, 66, 67, 68, 69, 70, 71, 72, 73, 74, 75, 76, 77, 78, 79, 1006, 1007, 1008, 1009, 1010, 1011, 1012, 1013, 1014, 1015, 1035, 1036, 1037, 1038, 1039, 1040, 1041, 1042, 1043, 1044, 1045, 1046] (by decide +kernel) (by decide +kernel)
set_option maxRecDepth 20000 in
theorem gL_law_X5_init : GoodIn wsL_law (wsX5_init) := ggL_law_X5_init
set_option maxRecDepth 20000 in
theorem ggL_law_X6_init : GoodIn wsL_law wsX6_init := goodIn_r _ [82, 83, 11, 12, 18, 84, 85, 86, 87, 88, 89, 90, 91, 92, 93, 94, 95, 96, 97, 98, 99, 6, 100, 101, 1016, 1017, 1018, 1019, 1020, 1021, 1022, 1023, 1024, 1025, 1026, 1027, 1028, 1029, 1030, 1031, 1032, 1033, 1034] (by decide +kernel) (by decide +kernel)
set_option maxRecDepth 20000 in
theorem gL_law_X6_init : GoodIn wsL_law (wsX6_init) := ggL_law_X6_init
set_option maxRecDepth 20000 in
theorem ggL_law_L_coefficient : GoodIn wsL_law wsL_coefficient := goodIn_ca (goodIn_ca (goodIn_r _ [105, 106, 107, 108, 109, 110, 2, 111, 14, 112, 113, 114, 115, 116, 117, 118, 119, 120, 121, 122, 123, 124, 125, 126, 127, 128, 1006, 1007, 1008, 1009, 1010, 1011, 1012, 1013, 1014, 1015, 1040] (by decide +kernel) (by decide +kernel)) (goodIn_sub (fun _ h => List.mem_append_left _ (List.mem_append_left _ (List.mem_append_right _ h))) (by decide +kernel))) (goodIn_sub (fun _ h => List.mem_append_left _ (List.mem_append_right _ h)) (by decide +kernel))
set_option maxRecDepth 20000 in
theorem gL_law_L_coefficient : GoodIn wsL_law (va_wsS RL 113 yL_coefficient wsL_coefficient) := goodIn_app (goodIn_of _ (by decide +kernel)) ggL_law_L_coefficient
set_option maxRecDepth 20000 in
theorem ggL_law_X6_coefficient : GoodIn wsL_law wsX6_coefficient := goodIn_r _ [132, 84, 133, 134, 5, 135, 136, 137, 138, 139, 140, 141, 101, 142, 143, 144, 145, 146, 147, 148, 149, 150, 1016, 1017, 1018, 1019, 1020, 1021, 1022, 1023, 1024, 1025, 1026, 1027, 1028, 1029, 1030, 1031, 1032, 1033, 1034] (by decide +kernel) (by decide +kernel)
set_option maxRecDepth 20000 in
theorem gL_law_X6_coefficient : GoodIn wsL_law (wsV RL 118 RX6 yX6_coefficient wsX6_coefficient) := goodIn_app (goodIn_of _ (by decide +kernel)) ggL_law_X6_coefficient
set_option maxRecDepth 20000 in
theorem ggL_law_X6_thrown : GoodIn wsL_law wsX6_thrown := goodIn_r _ [154, 146, 1016, 1017, 1018, 1019, 1020, 1021, 1022, 1023, 1024, 1025, 1026, 1027, 1028, 1029, 1030, 1031, 1032, 1033, 1034] (by decide +kernel) (by decide +kernel)
set_option maxRecDepth 20000 in
theorem gL_law_X6_thrown : GoodIn wsL_law (wsV RL 119 RX6 yX6_thrown wsX6_thrown) := goodIn_app (goodIn_of _ (by decide +kernel)) ggL_law_X6_thrown
set_option maxRecDepth 20000 in
theorem ggL_law_L_value : GoodIn wsL_law wsL_value := goodIn_ca (goodIn_ca (goodIn_r _ [157, 106, 107, 158, 159, 160, 2, 161, 14, 112, 113, 114, 115, 116, 117, 118, 119, 124, 125, 126, 127, 128, 162, 163, 164, 25, 165, 54, 53, 166, 167, 168, 169, 170, 171, 172, 173, 1006, 1007, 1008, 1009, 1010, 1011, 1012, 1013, 1014, 1015, 1040] (by decide +kernel) (by decide +kernel)) (goodIn_sub (fun _ h => List.mem_append_left _ (List.mem_append_left _ (List.mem_append_right _ h))) (by decide +kernel))) (goodIn_sub (fun _ h => List.mem_append_left _ (List.mem_append_right _ h)) (by decide +kernel))
set_option maxRecDepth 20000 in
theorem gL_law_L_value : GoodIn wsL_law (va_wsS RL 122 yL_value wsL_value) := goodIn_app (goodIn_of _ (by decide +kernel)) ggL_law_L_value
set_option maxRecDepth 20000 in
theorem ggL_law_X6_value : GoodIn wsL_law wsX6_value := goodIn_r _ [177, 133, 134, 5, 135, 136, 137, 138, 142, 143, 144, 145, 146, 178, 179, 180, 181, 101, 182, 183, 184, 185, 147, 148, 149, 150, 84, 186, 187, 188, 1016, 1017, 1018, 1019, 1020, 1021, 1022, 1023, 1024, 1025, 1026, 1027, 1028, 1029, 1030, 1031, 1032, 1033, 1034] (by decide +kernel) (by decide +kernel)
set_option maxRecDepth 20000 in
theorem gL_law_X6_value : GoodIn wsL_law (wsV RL 125 RX6 yX6_value wsX6_value) := goodIn_app (goodIn_of _ (by decide +kernel)) ggL_law_X6_value
set_option maxRecDepth 20000 in
theorem ggL_law_L_roots : GoodIn wsL_law wsL_roots := goodIn_ca (goodIn_r _ [191, 106, 192, 193, 194, 2, 195, 14, 112, 113, 114, 115, 116, 117, 118, 119, 196, 197, 198, 25, 199, 200, 201, 168, 202, 203, 204, 205, 206, 170, 171, 172, 173, 53, 54, 207, 208, 209, 210, 211, 212, 213, 214, 1006, 1007, 1008, 1009, 1010, 1011, 1012, 1013, 1014, 1015, 1040] (by decide +kernel) (by decide +kernel)) (goodIn_sub (fun _ h => List.mem_append_left _ (List.mem_append_left _ (List.mem_append_right _ h))) (by decide +kernel))
set_option maxRecDepth 20000 in
theorem gL_law_L_roots : GoodIn wsL_law (va_wsS RL 126 yL_roots wsL_roots) := goodIn_app (goodIn_of _ (by decide +kernel)) ggL_law_L_roots
set_option maxRecDepth 20000 in
theorem ggL_law_X6_roots : GoodIn wsL_law wsX6_roots := goodIn_r _ [218, 133, 134, 5, 135, 136, 137, 138, 142, 143, 144, 145, 146, 219, 220, 221, 222, 223, 224, 225, 226, 227, 85, 182, 183, 184, 185, 101, 147, 148, 149, 150, 84, 228, 229, 230, 231, 1016, 1017, 1018, 1019, 1020, 1021, 1022, 1023, 1024, 1025, 1026, 1027, 1028, 1029, 1030, 1031, 1032, 1033, 1034] (by decide +kernel) (by decide +kernel)
set_option maxRecDepth 20000 in
theorem gL_law_X6_roots : GoodIn wsL_law (wsV RL 129 RX6 yX6_roots wsX6_roots) := goodIn_app (goodIn_of _ (by decide +kernel)) ggL_law_X6_roots
set_option maxRecDepth 20000 in
theorem ggL_law_L_root : GoodIn wsL_law wsL_root := goodIn_ca (goodIn_ca (goodIn_r _ [234, 106, 107, 235, 236, 237, 2, 238, 14, 35, 112, 113, 114, 115, 116, 117, 118, 119, 196, 197, 198, 25, 199, 200, 201, 168, 202, 203, 204, 205, 206, 170, 171, 172, 173, 53, 54, 207, 208, 209, 210, 211, 212, 213, 214, 124, 125, 126, 127, 128, 239, 240, 241, 242, 166, 167, 169, 243, 244, 245, 34, 246, 247, 248, 1006, 1007, 1008, 1009, 1010, 1011, 1012, 1013, 1014, 1015, 1040, 1043, 1044] (by decide +kernel) (by decide +kernel)) (goodIn_sub (fun _ h => List.mem_append_left _ (List.mem_append_left _ (List.mem_append_right _ h))) (by decide +kernel))) (goodIn_sub (fun _ h => List.mem_append_left _ (List.mem_append_right _ h)) (by decide +kernel))
set_option maxRecDepth 20000 in
theorem gL_law_L_root : GoodIn wsL_law (va_wsS RL 130 yL_root wsL_root) := goodIn_app (goodIn_of _ (by decide +kernel)) ggL_law_L_root
set_option maxRecDepth 20000 in
theorem ggL_law_X6_root : GoodIn wsL_law wsX6_root := goodIn_r _ [252, 85, 223, 133, 134, 5, 135, 136, 137, 138, 219, 220, 221, 222, 224, 225, 226, 227, 182, 183, 184, 185, 101, 147, 148, 149, 150, 84, 228, 229, 230, 231, 142, 143, 144, 145, 146, 253, 254, 255, 1016, 1017, 1018, 1019, 1020, 1021, 1022, 1023, 1024, 1025, 1026, 1027, 1028, 1029, 1030, 1031, 1032, 1033, 1034] (by decide +kernel) (by decide +kernel)
set_option maxRecDepth 20000 in
theorem gL_law_X6_root : GoodIn wsL_law (wsV RL 132 RX6 yX6_root wsX6_root) := goodIn_app (goodIn_of _ (by decide +kernel)) ggL_law_X6_root
set_option maxRecDepth 20000 in
theorem ggL_law_L_isSpare : GoodIn wsL_law wsL_isSpare := goodIn_ca (goodIn_r _ [258, 106, 259, 260, 261, 2, 262, 14, 112, 113, 114, 115, 116, 117, 118, 119, 263, 208, 209, 25, 210, 170, 171, 172, 173, 53, 54, 211, 212, 213, 214, 1006, 1007, 1008, 1009, 1010, 1011, 1012, 1013, 1014, 1015, 1040] (by decide +kernel) (by decide +kernel)) (goodIn_sub (fun _ h => List.mem_append_left _ (List.mem_append_left _ (List.mem_append_right _ h))) (by decide +kernel))
set_option maxRecDepth 20000 in
theorem gL_law_L_isSpare : GoodIn wsL_law (va_wsS RL 133 yL_isSpare wsL_isSpare) := goodIn_app (goodIn_of _ (by decide +kernel)) ggL_law_L_isSpare
set_option maxRecDepth 20000 in
theorem ggL_law_X6_isSpare : GoodIn wsL_law wsX6_isSpare := goodIn_r _ [267, 133, 134, 5, 135, 136, 137, 138, 142, 143, 144, 145, 146, 182, 183, 184, 185, 101, 147, 148, 149, 150, 84, 228, 229, 230, 231, 1016, 1017, 1018, 1019, 1020, 1021, 1022, 1023, 1024, 1025, 1026, 1027, 1028, 1029, 1030, 1031, 1032, 1033, 1034] (by decide +kernel) (by decide +kernel)
set_option maxRecDepth 20000 in
theorem gL_law_X6_isSpare : GoodIn wsL_law (wsV RL 135 RX6 yX6_isSpare wsX6_isSpare) := goodIn_app (goodIn_of _ (by decide +kernel)) ggL_law_X6_isSpare
set_option maxRecDepth 20000 in
theorem ggL_law_L_areSame : GoodIn wsL_law wsL_areSame := goodIn_ca (goodIn_r _ [270, 106, 271, 272, 273, 2, 274, 14, 112, 113, 114, 115, 116, 117, 118, 119, 275, 276, 277, 25, 278, 53, 203, 204, 205, 206, 170, 171, 172, 173, 54, 207, 208, 209, 210, 211, 212, 213, 214, 1006, 1007, 1008, 1009, 1010, 1011, 1012, 1013, 1014, 1015, 1040] (by decide +kernel) (by decide +kernel)) (goodIn_sub (fun _ h => List.mem_append_left _ (List.mem_append_left _ (List.mem_append_right _ h))) (by decide +kernel))
set_option maxRecDepth 20000 in
theorem gL_law_L_areSame : GoodIn wsL_law (va_wsS RL 136 yL_areSame wsL_areSame) := goodIn_app (goodIn_of _ (by decide +kernel)) ggL_law_L_areSame
set_option maxRecDepth 20000 in
theorem ggL_law_X6_areSame : GoodIn wsL_law wsX6_areSame := goodIn_r _ [282, 133, 134, 5, 135, 136, 137, 138, 142, 143, 144, 145, 146, 283, 284, 285, 286, 287, 288, 289, 290, 182, 183, 184, 185, 101, 147, 148, 149, 150, 84, 228, 229, 230, 231, 1016, 1017, 1018, 1019, 1020, 1021, 1022, 1023, 1024, 1025, 1026, 1027, 1028, 1029, 1030, 1031, 1032, 1033, 1034] (by decide +kernel) (by decide +kernel)
set_option maxRecDepth 20000 in
theorem gL_law_X6_areSame : GoodIn wsL_law (wsV RL 138 RX6 yX6_areSame wsX6_areSame) := goodIn_app (goodIn_of _ (by decide +kernel)) ggL_law_X6_areSame
set_option maxRecDepth 20000 in
theorem ggL_law_L_sum : GoodIn wsL_law wsL_sum := goodIn_ca (goodIn_r _ [293, 106, 294, 295, 296, 2, 297, 26, 14, 112, 113, 114, 115, 116, 117, 118, 119, 298, 299, 300, 25, 301, 53, 166, 167, 168, 169, 302, 303, 304, 305, 306, 307, 308, 309, 310, 311, 312, 313, 170, 171, 172, 173, 54, 1006, 1007, 1008, 1009, 1010, 1011, 1012, 1013, 1014, 1015, 1040] (by decide +kernel) (by decide +kernel)) (goodIn_sub (fun _ h => List.mem_append_left _ (List.mem_append_left _ (List.mem_append_right _ h))) (by decide +kernel))
set_option maxRecDepth 20000 in
theorem gL_law_L_sum : GoodIn wsL_law (va_wsS RL 139 yL_sum wsL_sum) := goodIn_app (goodIn_of _ (by decide +kernel)) ggL_law_L_sum
set_option maxRecDepth 20000 in
theorem ggL_law_X6_sum : GoodIn wsL_law wsX6_sum := goodIn_r _ [317, 86, 133, 134, 5, 135, 136, 137, 138, 142, 143, 144, 145, 146, 147, 148, 149, 150, 84, 186, 187, 188, 318, 319, 320, 321, 101, 1016, 1017, 1018, 1019, 1020, 1021, 1022, 1023, 1024, 1025, 1026, 1027, 1028, 1029, 1030, 1031, 1032, 1033, 1034] (by decide +kernel) (by decide +kernel)
set_option maxRecDepth 20000 in
theorem gL_law_X6_sum : GoodIn wsL_law (wsV RL 141 RX6 yX6_sum wsX6_sum) := goodIn_app (goodIn_of _ (by decide +kernel)) ggL_law_X6_sum
set_option maxRecDepth 20000 in
theorem ggL_law_L_product : GoodIn wsL_law wsL_product := goodIn_ca (goodIn_ca (goodIn_r _ [324, 106, 325, 326, 327, 328, 2, 329, 330, 331, 14, 26, 112, 113, 114, 115, 116, 117, 118, 119, 332, 333, 334, 25, 335, 170, 171, 172, 173, 53, 54, 336, 337, 338, 339, 166, 167, 168, 169, 340, 341, 123, 342, 343, 344, 345, 346, 347, 302, 303, 304, 305, 306, 307, 308, 309, 310, 311, 312, 313, 1006, 1007, 1008, 1009, 1010, 1011, 1012, 1013, 1014, 1015, 1040] (by decide +kernel) (by decide +kernel)) (goodIn_sub (fun _ h => List.mem_append_right _ h) (by decide +kernel))) (goodIn_sub (fun _ h => List.mem_append_left _ (List.mem_append_left _ (List.mem_append_right _ h))) (by decide +kernel))
set_option maxRecDepth 20000 in
theorem gL_law_L_product : GoodIn wsL_law (va_wsS RL 142 yL_product wsL_product) := goodIn_app (goodIn_of _ (by decide +kernel)) ggL_law_L_product
set_option maxRecDepth 20000 in
theorem ggL_law_X6_product : GoodIn wsL_law wsX6_product := goodIn_r _ [351, 133, 134, 5, 135, 136, 137, 138, 352, 353, 354, 355, 86, 101, 147, 148, 149, 150, 84, 356, 357, 358, 186, 187, 188, 359, 360, 361, 142, 143, 144, 145, 146, 318, 319, 320, 321, 1016, 1017, 1018, 1019, 1020, 1021, 1022, 1023, 1024, 1025, 1026, 1027, 1028, 1029, 1030, 1031, 1032, 1033, 1034] (by decide +kernel) (by decide +kernel)
set_option maxRecDepth 20000 in
theorem gL_law_X6_product : GoodIn wsL_law (wsV RL 144 RX6 yX6_product wsX6_product) := goodIn_app (goodIn_of _ (by decide +kernel)) ggL_law_X6_product
set_option maxRecDepth 20000 in
theorem ggL_law_L_matrix : GoodIn wsL_law wsL_matrix := goodIn_ca (goodIn_ca (goodIn_r _ [364, 106, 107, 365, 366, 367, 2, 368, 16, 112, 113, 114, 115, 116, 117, 118, 119, 124, 125, 126, 127, 128, 369, 66, 67, 28, 68, 69, 64, 70, 71, 56, 57, 58, 1006, 1007, 1008, 1009, 1010, 1011, 1012, 1013, 1014, 1015, 1041, 1042] (by decide +kernel) (by decide +kernel)) (goodIn_sub (fun _ h => List.mem_append_left _ (List.mem_append_left _ (List.mem_append_right _ h))) (by decide +kernel))) (goodIn_sub (fun _ h => List.mem_append_left _ (List.mem_append_right _ h)) (by decide +kernel))
set_option maxRecDepth 20000 in
theorem gL_law_L_matrix : GoodIn wsL_law (va_wsS RL 145 yL_matrix wsL_matrix) := goodIn_app (goodIn_of _ (by decide +kernel)) ggL_law_L_matrix
set_option maxRecDepth 20000 in
theorem ggL_law_X6_matrix : GoodIn wsL_law wsX6_matrix := goodIn_r _ [373, 87, 88, 101, 133, 134, 5, 135, 136, 137, 138, 142, 143, 144, 145, 146, 1016, 1017, 1018, 1019, 1020, 1021, 1022, 1023, 1024, 1025, 1026, 1027, 1028, 1029, 1030, 1031, 1032, 1033, 1034] (by decide +kernel) (by decide +kernel)
set_option maxRecDepth 20000 in
theorem gL_law_X6_matrix : GoodIn wsL_law (wsV RL 147 RX6 yX6_matrix wsX6_matrix) := goodIn_app (goodIn_of _ (by decide +kernel)) ggL_law_X6_matrix
set_option maxRecDepth 20000 in
theorem ggL_law_L_entry : GoodIn wsL_law wsL_entry := goodIn_ca (goodIn_ca (goodIn_r _ [376, 106, 107, 377, 378, 379, 2, 380, 16, 381, 382, 383, 384, 112, 113, 114, 115, 116, 117, 118, 119, 120, 121, 122, 123, 124, 125, 126, 127, 128, 1006, 1007, 1008, 1009, 1010, 1011, 1012, 1013, 1014, 1015, 1041, 1042] (by decide +kernel) (by decide +kernel)) (goodIn_sub (fun _ h => List.mem_append_left _ (List.mem_append_left _ (List.mem_append_right _ h))) (by decide +kernel))) (goodIn_sub (fun _ h => List.mem_append_left _ (List.mem_append_right _ h)) (by decide +kernel))
set_option maxRecDepth 20000 in
theorem gL_law_L_entry : GoodIn wsL_law (va_wsS RL 148 yL_entry wsL_entry) := goodIn_app (goodIn_of _ (by decide +kernel)) ggL_law_L_entry
set_option maxRecDepth 20000 in
theorem ggL_law_X6_entry : GoodIn wsL_law wsX6_entry := goodIn_r _ [388, 88, 389, 390, 391, 5, 392, 87, 133, 134, 135, 136, 137, 138, 139, 140, 141, 101, 142, 143, 144, 145, 146, 393, 394, 395, 396, 1016, 1017, 1018, 1019, 1020, 1021, 1022, 1023, 1024, 1025, 1026, 1027, 1028, 1029, 1030, 1031, 1032, 1033, 1034] (by decide +kernel) (by decide +kernel)
set_option maxRecDepth 20000 in
theorem gL_law_X6_entry : GoodIn wsL_law (wsV RL 151 RX6 yX6_entry wsX6_entry) := goodIn_app (goodIn_of _ (by decide +kernel)) ggL_law_X6_entry
set_option maxRecDepth 20000 in
theorem ggL_law_L_at : GoodIn wsL_law wsL_at := goodIn_ca (goodIn_r _ [399, 106, 400, 401, 402, 2, 403, 16, 381, 382, 383, 384, 112, 113, 114, 115, 116, 117, 118, 119, 1006, 1007, 1008, 1009, 1010, 1011, 1012, 1013, 1014, 1015, 1041, 1042] (by decide +kernel) (by decide +kernel)) (goodIn_sub (fun _ h => List.mem_append_left _ (List.mem_append_left _ (List.mem_append_right _ h))) (by decide +kernel))
set_option maxRecDepth 20000 in
theorem gL_law_L_at : GoodIn wsL_law (va_wsS RL 152 yL_at wsL_at) := goodIn_app (goodIn_of _ (by decide +kernel)) ggL_law_L_at
set_option maxRecDepth 20000 in
theorem ggL_law_X6_at : GoodIn wsL_law wsX6_at := goodIn_r _ [407, 389, 390, 391, 5, 392, 87, 133, 134, 135, 136, 137, 138, 142, 143, 144, 145, 146, 393, 394, 395, 396, 88, 1016, 1017, 1018, 1019, 1020, 1021, 1022, 1023, 1024, 1025, 1026, 1027, 1028, 1029, 1030, 1031, 1032, 1033, 1034] (by decide +kernel) (by decide +kernel)
set_option maxRecDepth 20000 in
theorem gL_law_X6_at : GoodIn wsL_law (wsV RL 154 RX6 yX6_at wsX6_at) := goodIn_app (goodIn_of _ (by decide +kernel)) ggL_law_X6_at
set_option maxRecDepth 20000 in
theorem ggL_law_L_part : GoodIn wsL_law wsL_part := goodIn_ca (goodIn_ca (goodIn_r _ [410, 106, 107, 411, 412, 413, 2, 414, 19, 112, 113, 114, 115, 116, 117, 118, 119, 120, 121, 122, 123, 124, 125, 126, 127, 128, 1006, 1007, 1008, 1009, 1010, 1011, 1012, 1013, 1014, 1015] (by decide +kernel) (by decide +kernel)) (goodIn_sub (fun _ h => List.mem_append_left _ (List.mem_append_left _ (List.mem_append_right _ h))) (by decide +kernel))) (goodIn_sub (fun _ h => List.mem_append_left _ (List.mem_append_right _ h)) (by decide +kernel))
set_option maxRecDepth 20000 in
theorem gL_law_L_part : GoodIn wsL_law (va_wsS RL 155 yL_part wsL_part) := goodIn_app (goodIn_of _ (by decide +kernel)) ggL_law_L_part
set_option maxRecDepth 20000 in
theorem ggL_law_X6_part : GoodIn wsL_law wsX6_part := goodIn_r _ [418, 92, 419, 420, 5, 421, 133, 134, 135, 136, 137, 138, 139, 140, 141, 101, 142, 143, 144, 145, 146, 1016, 1017, 1018, 1019, 1020, 1021, 1022, 1023, 1024, 1025, 1026, 1027, 1028, 1029, 1030, 1031, 1032, 1033, 1034] (by decide +kernel) (by decide +kernel)
set_option maxRecDepth 20000 in
theorem gL_law_X6_part : GoodIn wsL_law (wsV RL 157 RX6 yX6_part wsX6_part) := goodIn_app (goodIn_of _ (by decide +kernel)) ggL_law_X6_part
set_option maxRecDepth 20000 in
theorem ggL_law_L_partAt : GoodIn wsL_law wsL_partAt := goodIn_ca (goodIn_r _ [424, 106, 425, 426, 427, 2, 428, 19, 112, 113, 114, 115, 116, 117, 118, 119, 1006, 1007, 1008, 1009, 1010, 1011, 1012, 1013, 1014, 1015] (by decide +kernel) (by decide +kernel)) (goodIn_sub (fun _ h => List.mem_append_left _ (List.mem_append_left _ (List.mem_append_right _ h))) (by decide +kernel))
set_option maxRecDepth 20000 in
theorem gL_law_L_partAt : GoodIn wsL_law (va_wsS RL 158 yL_partAt wsL_partAt) := goodIn_app (goodIn_of _ (by decide +kernel)) ggL_law_L_partAt
set_option maxRecDepth 20000 in
theorem ggL_law_X6_partAt : GoodIn wsL_law wsX6_partAt := goodIn_r _ [432, 92, 419, 420, 5, 421, 133, 134, 135, 136, 137, 138, 142, 143, 144, 145, 146, 1016, 1017, 1018, 1019, 1020, 1021, 1022, 1023, 1024, 1025, 1026, 1027, 1028, 1029, 1030, 1031, 1032, 1033, 1034] (by decide +kernel) (by decide +kernel)
set_option maxRecDepth 20000 in
theorem gL_law_X6_partAt : GoodIn wsL_law (wsV RL 160 RX6 yX6_partAt wsX6_partAt) := goodIn_app (goodIn_of _ (by decide +kernel)) ggL_law_X6_partAt
set_option maxRecDepth 20000 in
theorem ggL_law_L_multiply : GoodIn wsL_law wsL_multiply := goodIn_ca (goodIn_ca (goodIn_r _ [435, 106, 325, 436, 437, 438, 2, 439, 330, 331, 16, 29, 112, 113, 114, 115, 116, 117, 118, 119, 440, 441, 442, 28, 443, 69, 70, 64, 444, 167, 168, 169, 340, 341, 123, 445, 446, 447, 448, 449, 450, 451, 452, 453, 346, 347, 454, 455, 456, 457, 458, 307, 308, 309, 459, 460, 461, 462, 1006, 1007, 1008, 1009, 1010, 1011, 1012, 1013, 1014, 1015, 1041, 1042] (by decide +kernel) (by decide +kernel)) (goodIn_sub (fun _ h => List.mem_append_right _ h) (by decide +kernel))) (goodIn_sub (fun _ h => List.mem_append_left _ (List.mem_append_left _ (List.mem_append_right _ h))) (by decide +kernel))
set_option maxRecDepth 20000 in
theorem gL_law_L_multiply : GoodIn wsL_law (va_wsS RL 161 yL_multiply wsL_multiply) := goodIn_app (goodIn_of _ (by decide +kernel)) ggL_law_L_multiply
