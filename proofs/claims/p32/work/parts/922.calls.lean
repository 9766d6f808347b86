/-! WHAT THE LAW CALLS: printed by the names' program -/
theorem goodIn_hd {big ws : List Cond} {w : Cond} (i : Nat) (h : big[i]? = some w) (hc : k2_isCode w = true) (g : GoodIn big ws) : GoodIn big (w :: ws) := fun v hv => (List.mem_cons.mp hv).elim (fun q => by
  rw [q]
  refine ⟨List.mem_of_getElem? h, ?_⟩
  cases w <;> first | (simp [k2_isCode] at hc; done) | exact Or.inl rfl) (g v)
theorem inlX0 : ∀ w ∈ wsX00, w ∈ wsL_law := fun _ h => List.mem_append_left _ (List.mem_append_left _ (List.mem_append_left _ (List.mem_append_left _ (List.mem_append_right _ h))))
theorem inlX1 : ∀ w ∈ wsX10, w ∈ wsL_law := fun _ h => List.mem_append_left _ (List.mem_append_left _ (List.mem_append_left _ (List.mem_append_left _ (List.mem_append_left _ (List.mem_append_right _ h)))))
theorem inlX2 : ∀ w ∈ wsX20, w ∈ wsL_law := fun _ h => List.mem_append_left _ (List.mem_append_left _ (List.mem_append_left _ (List.mem_append_left _ (List.mem_append_left _ (List.mem_append_left _ (List.mem_append_right _ h))))))
theorem inlX3 : ∀ w ∈ wsX30, w ∈ wsL_law := fun _ h => List.mem_append_left _ (List.mem_append_left _ (List.mem_append_left _ (List.mem_append_left _ (List.mem_append_left _ (List.mem_append_left _ (List.mem_append_left _ (List.mem_append_left _ (List.mem_append_right _ h))))))))
theorem inlX4 : ∀ w ∈ wsX40, w ∈ wsL_law := fun _ h => List.mem_append_left _ (List.mem_append_left _ (List.mem_append_left _ (List.mem_append_left _ (List.mem_append_left _ (List.mem_append_left _ (List.mem_append_left _ (List.mem_append_right _ h)))))))
theorem inlX5 : ∀ w ∈ wsX50, w ∈ wsL_law := fun _ h => List.mem_append_left _ (List.mem_append_left _ (List.mem_append_left _ (List.mem_append_left _ (List.mem_append_left _ (List.mem_append_left _ (List.mem_append_left _ (List.mem_append_left _ (List.mem_append_left _ (List.mem_append_right _ h)))))))))
set_option maxRecDepth 20000 in
theorem ggL_law_X5_init : GoodIn wsL_law wsX5_init := goodIn_r _ [8, 9, 10, 11, 12, 13, 14, 15, 16, 3, 17, 18, 19, 20, 21, 22, 23, 24, 25, 26, 27, 28, 29, 30, 31, 32, 33, 34, 35, 36, 37, 38, 39, 40, 41, 42, 43, 44, 45, 46, 47, 48, 49, 50, 51, 52, 53, 54, 55, 56, 57, 58, 59, 60, 61, 62, 63, 64, 65, 66, 67, 68, 69, 70, 71, 72, 73, 74, 75, 76, 77, 563, 564, 565, 566, 567, 568, 569, 570, 571, 572, 573, 574, 575, 576, 577, 578, 579, 580, 581, 582, 583, 584] (by decide +kernel) (by decide +kernel)
set_option maxRecDepth 20000 in
theorem gL_law_X5_init : GoodIn wsL_law (wsX5_init) := ggL_law_X5_init
set_option maxRecDepth 20000 in
theorem ggL_law_L_draw : GoodIn wsL_law wsL_draw := goodIn_r _ [81, 82, 83, 84] (by decide +kernel) (by decide +kernel)
set_option maxRecDepth 20000 in
theorem gL_law_L_draw : GoodIn wsL_law (va_wsS RL 94 yL_draw wsL_draw) := goodIn_app (goodIn_of _ (by decide +kernel)) ggL_law_L_draw
set_option maxRecDepth 20000 in
theorem ggP_polys_wsL_polys_r1 : GoodIn wsL_law wsL_polys_r1 := goodIn_r _ [4, 88, 89, 90, 91, 2, 92, 13, 93, 94, 95, 96, 97, 98, 99, 100, 101, 102, 103, 104, 105, 106, 107, 108] (by decide +kernel) (by decide +kernel)
set_option maxRecDepth 20000 in
theorem ggP_polys_wsL_polys_r2 : GoodIn wsL_law wsL_polys_r2 := goodIn_r _ [109, 110, 111, 112, 113, 114, 115, 116, 23, 117, 52, 51, 118, 119, 120, 121, 122, 123, 124, 125, 126, 127, 80, 128] (by decide +kernel) (by decide +kernel)
set_option maxRecDepth 20000 in
theorem ggP_polys_wsL_polys_r3 : GoodIn wsL_law wsL_polys_r3 := goodIn_r _ [129, 130, 131, 132, 24, 133, 134, 135, 136, 137, 138, 139, 140, 141, 142, 143, 144, 145, 146, 147, 148, 149, 150, 151] (by decide +kernel) (by decide +kernel)
set_option maxRecDepth 20000 in
theorem ggP_polys_wsL_polys_r4 : GoodIn wsL_law wsL_polys_r4 := goodIn_r _ [152, 153, 154, 155, 156, 157, 158, 159, 160, 161, 162, 163, 164, 165, 166, 167, 168, 169, 170, 171, 172, 173, 174, 175] (by decide +kernel) (by decide +kernel)
set_option maxRecDepth 20000 in
theorem ggP_polys_wsL_polys_r5 : GoodIn wsL_law wsL_polys_r5 := goodIn_r _ [176, 177, 178, 179, 180, 181, 182, 183, 15, 27, 184, 185, 186, 26, 187, 67, 68, 62, 188, 189, 190, 191, 192, 193] (by decide +kernel) (by decide +kernel)
set_option maxRecDepth 20000 in
theorem ggP_polys_wsL_polys_r6 : GoodIn wsL_law wsL_polys_r6 := goodIn_r _ [194, 195, 196, 197, 198, 199, 200, 201, 202, 203, 204, 205, 206, 207, 208, 209, 210, 211, 212, 213, 214, 215, 216, 217] (by decide +kernel) (by decide +kernel)
set_option maxRecDepth 20000 in
theorem ggP_polys_wsL_polys_r7 : GoodIn wsL_law wsL_polys_r7 := goodIn_r _ [218, 219, 220, 221, 222, 17, 29, 223, 224, 225, 226, 227, 228, 229, 230, 231, 232, 233, 234, 235, 236, 237, 238, 239] (by decide +kernel) (by decide +kernel)
set_option maxRecDepth 20000 in
theorem ggP_polys_wsL_polys_r8 : GoodIn wsL_law wsL_polys_r8 := goodIn_r _ [240, 241, 242, 243, 244, 245, 246, 247, 248, 249, 250, 251, 252, 253, 254, 255, 256, 257, 258, 259, 260, 261, 262, 263] (by decide +kernel) (by decide +kernel)
set_option maxRecDepth 20000 in
theorem ggP_polys_wsL_polys_r9 : GoodIn wsL_law wsL_polys_r9 := goodIn_r _ [264, 265, 266, 21, 267, 268, 269, 270, 271, 272, 273, 20, 274, 44, 275, 276, 277, 278, 279, 280, 281, 282, 42, 283] (by decide +kernel) (by decide +kernel)
set_option maxRecDepth 20000 in
theorem ggP_polys_wsL_polys_r10 : GoodIn wsL_law wsL_polys_r10 := goodIn_r _ [284, 285, 286, 287, 288, 289, 290, 291, 292, 293, 294, 295, 296, 297, 298, 43, 45, 299, 300, 301, 302, 303, 304, 305] (by decide +kernel) (by decide +kernel)
set_option maxRecDepth 20000 in
theorem ggP_polys_wsL_polys_r11 : GoodIn wsL_law wsL_polys_r11 := goodIn_r _ [306, 307, 308, 309, 310, 311, 312, 313, 314, 315, 316, 317, 318, 319, 320, 321, 322, 323, 324, 325, 326, 327, 328, 329] (by decide +kernel) (by decide +kernel)
set_option maxRecDepth 20000 in
theorem ggP_polys_wsL_polys_r12 : GoodIn wsL_law wsL_polys_r12 := goodIn_r _ [330, 331, 332, 333, 334, 335, 336, 337, 338, 339, 340, 341, 342, 343, 344, 345, 346, 347, 348, 349, 350, 351, 352, 353] (by decide +kernel) (by decide +kernel)
set_option maxRecDepth 20000 in
theorem ggP_polys_wsL_polys_r13 : GoodIn wsL_law wsL_polys_r13 := goodIn_r _ [354, 355, 356, 357, 358, 359, 360, 361, 362, 363, 364, 365, 366, 367, 368, 369, 370, 371, 372, 373, 374, 375, 376, 377] (by decide +kernel) (by decide +kernel)
set_option maxRecDepth 20000 in
theorem ggP_polys_wsL_polys_r14 : GoodIn wsL_law wsL_polys_r14 := goodIn_r _ [378, 379, 380, 381, 382, 383, 384, 385, 386, 33, 387, 388, 389, 390, 391, 392, 393, 394, 395, 396, 397, 398, 399, 400] (by decide +kernel) (by decide +kernel)
set_option maxRecDepth 20000 in
theorem ggP_polys_wsL_polys_r15 : GoodIn wsL_law wsL_polys_r15 := goodIn_r _ [401, 402, 403, 404, 405, 406, 407, 408, 409, 410, 32, 411, 412, 413, 414, 415, 416, 417, 418, 419, 420, 421, 422, 423] (by decide +kernel) (by decide +kernel)
set_option maxRecDepth 20000 in
theorem ggP_polys_wsL_polys_r16 : GoodIn wsL_law wsL_polys_r16 := goodIn_r _ [424, 425, 426, 427, 428, 429, 430, 431, 432, 433] (by decide +kernel) (by decide +kernel)
set_option maxRecDepth 20000 in
theorem ggL_law_L_polys : GoodIn wsL_law wsL_polys := goodIn_ca (goodIn_ca (goodIn_ca (goodIn_hd 87 rfl rfl (goodIn_app (goodIn_app (goodIn_app (goodIn_app (goodIn_app (goodIn_app ggP_polys_wsL_polys_r1 (goodIn_app ggP_polys_wsL_polys_r2 (goodIn_app ggP_polys_wsL_polys_r3 (goodIn_app ggP_polys_wsL_polys_r4 (goodIn_app ggP_polys_wsL_polys_r5 (goodIn_app ggP_polys_wsL_polys_r6 (goodIn_app ggP_polys_wsL_polys_r7 (goodIn_app ggP_polys_wsL_polys_r8 (goodIn_app ggP_polys_wsL_polys_r9 (goodIn_app ggP_polys_wsL_polys_r10 (goodIn_app ggP_polys_wsL_polys_r11 (goodIn_app ggP_polys_wsL_polys_r12 (goodIn_app ggP_polys_wsL_polys_r13 (goodIn_app ggP_polys_wsL_polys_r14 (goodIn_app ggP_polys_wsL_polys_r15 (ggP_polys_wsL_polys_r16)))))))))))))))) (goodIn_sub inlX5 (by decide +kernel))) (goodIn_sub inlX4 (by decide +kernel))) (goodIn_sub inlX2 (by decide +kernel))) (goodIn_sub inlX3 (by decide +kernel))) (goodIn_sub inlX1 (by decide +kernel)))) (goodIn_sub (fun _ h => List.mem_append_left _ (List.mem_append_left _ (List.mem_append_right _ h))) (by decide +kernel))) (goodIn_sub (fun _ h => List.mem_append_left _ (List.mem_append_right _ h)) (by decide +kernel))) (goodIn_sub (fun _ h => List.mem_append_right _ h) (by decide +kernel))
set_option maxRecDepth 20000 in
theorem gL_law_L_polys : GoodIn wsL_law (va_wsS RL 145 yL_polys wsL_polys) := goodIn_app (goodIn_of _ (by decide +kernel)) ggL_law_L_polys
set_option maxRecDepth 20000 in
theorem ggP_isPoly_wsL_isPoly_r1 : GoodIn wsL_law wsL_isPoly_r1 := goodIn_r _ [157, 4, 437, 427, 428, 429, 2, 430, 13, 93, 94, 95, 96, 97, 98, 99, 100, 387, 388, 389, 23, 390, 391, 232] (by decide +kernel) (by decide +kernel)
set_option maxRecDepth 20000 in
theorem ggP_isPoly_wsL_isPoly_r2 : GoodIn wsL_law wsL_isPoly_r2 := goodIn_r _ [120, 233, 392, 393, 394, 395, 122, 123, 124, 125, 51, 52, 396, 397, 398, 399, 400, 401, 402, 403, 152, 153, 80, 154] (by decide +kernel) (by decide +kernel)
set_option maxRecDepth 20000 in
theorem ggP_isPoly_wsL_isPoly_r3 : GoodIn wsL_law wsL_isPoly_r3 := goodIn_r _ [155, 156, 88, 158, 159, 160, 161, 162, 163, 24, 164, 165, 166, 167, 168, 169, 170, 171, 118, 119, 121, 172, 173, 104] (by decide +kernel) (by decide +kernel)
set_option maxRecDepth 20000 in
theorem ggP_isPoly_wsL_isPoly_r4 : GoodIn wsL_law wsL_isPoly_r4 := goodIn_r _ [174, 175, 176, 177, 178, 179, 137, 138, 139, 140, 141, 142, 143, 144, 145, 146, 147, 148, 180, 181, 182, 183, 15, 27] (by decide +kernel) (by decide +kernel)
set_option maxRecDepth 20000 in
theorem ggP_isPoly_wsL_isPoly_r5 : GoodIn wsL_law wsL_isPoly_r5 := goodIn_r _ [184, 185, 186, 26, 187, 67, 68, 62, 188, 189, 190, 191, 192, 193, 194, 195, 196, 197, 198, 199, 200, 201, 202, 203] (by decide +kernel) (by decide +kernel)
set_option maxRecDepth 20000 in
theorem ggP_isPoly_wsL_isPoly_r6 : GoodIn wsL_law wsL_isPoly_r6 := goodIn_r _ [204, 205, 206, 207, 208, 209, 210, 211, 212, 213, 214, 215, 216, 217, 218, 219, 220, 221, 222, 17, 29, 223, 224, 225] (by decide +kernel) (by decide +kernel)
set_option maxRecDepth 20000 in
theorem ggP_isPoly_wsL_isPoly_r7 : GoodIn wsL_law wsL_isPoly_r7 := goodIn_r _ [226, 227, 228, 229, 230, 231, 234, 235, 236, 237, 238, 239, 240, 241, 242, 243, 244, 245, 246, 247, 248, 249, 250, 251] (by decide +kernel) (by decide +kernel)
set_option maxRecDepth 20000 in
theorem ggP_isPoly_wsL_isPoly_r8 : GoodIn wsL_law wsL_isPoly_r8 := goodIn_r _ [252, 253, 254, 255, 256, 257, 258, 259, 260, 261, 262, 263, 264, 265, 266, 21, 267, 268, 269, 270, 271, 272, 273, 20] (by decide +kernel) (by decide +kernel)
set_option maxRecDepth 20000 in
theorem ggP_isPoly_wsL_isPoly_r9 : GoodIn wsL_law wsL_isPoly_r9 := goodIn_r _ [274, 44, 275, 276, 277, 278, 279, 280, 281, 282, 42, 283, 284, 285, 286, 287, 288, 289, 290, 291, 292, 293, 294, 295] (by decide +kernel) (by decide +kernel)
set_option maxRecDepth 20000 in
theorem ggP_isPoly_wsL_isPoly_r10 : GoodIn wsL_law wsL_isPoly_r10 := goodIn_r _ [296, 297, 298, 43, 45, 299, 300, 301, 302, 303, 304, 305, 306, 307, 308, 309, 310, 311, 312, 313, 314, 315, 316, 317] (by decide +kernel) (by decide +kernel)
set_option maxRecDepth 20000 in
theorem ggP_isPoly_wsL_isPoly_r11 : GoodIn wsL_law wsL_isPoly_r11 := goodIn_r _ [318, 319, 320, 321, 322, 323, 324, 325, 326, 327, 328, 329, 330, 331, 332, 333, 334, 335, 336, 337, 338, 339, 340, 341] (by decide +kernel) (by decide +kernel)
set_option maxRecDepth 20000 in
theorem ggP_isPoly_wsL_isPoly_r12 : GoodIn wsL_law wsL_isPoly_r12 := goodIn_r _ [342, 343, 344, 345, 346, 347, 348, 349, 350, 351, 352, 353, 354, 355, 356, 357, 358, 359, 360, 361, 362, 363, 364, 365] (by decide +kernel) (by decide +kernel)
set_option maxRecDepth 20000 in
theorem ggP_isPoly_wsL_isPoly_r13 : GoodIn wsL_law wsL_isPoly_r13 := goodIn_r _ [366, 367, 368, 369, 370, 371, 372, 373, 374, 375, 376, 377, 378, 379, 380, 381, 382, 383, 384, 385, 386, 33, 105, 106] (by decide +kernel) (by decide +kernel)
set_option maxRecDepth 20000 in
theorem ggP_isPoly_wsL_isPoly_r14 : GoodIn wsL_law wsL_isPoly_r14 := goodIn_r _ [107, 108, 109, 404, 405, 406, 407, 408, 409, 410, 32, 411, 412, 413, 422, 423, 424, 425, 426, 126, 127, 128, 414, 415] (by decide +kernel) (by decide +kernel)
set_option maxRecDepth 20000 in
theorem ggP_isPoly_wsL_isPoly_r15 : GoodIn wsL_law wsL_isPoly_r15 := goodIn_r _ [416, 417, 418, 419, 420, 421] (by decide +kernel) (by decide +kernel)
set_option maxRecDepth 20000 in
theorem ggL_law_L_isPoly : GoodIn wsL_law wsL_isPoly := goodIn_ca (goodIn_ca (goodIn_ca (goodIn_hd 436 rfl rfl (goodIn_app (goodIn_app (goodIn_app (goodIn_app (goodIn_app (goodIn_app ggP_isPoly_wsL_isPoly_r1 (goodIn_app ggP_isPoly_wsL_isPoly_r2 (goodIn_app ggP_isPoly_wsL_isPoly_r3 (goodIn_app ggP_isPoly_wsL_isPoly_r4 (goodIn_app ggP_isPoly_wsL_isPoly_r5 (goodIn_app ggP_isPoly_wsL_isPoly_r6 (goodIn_app ggP_isPoly_wsL_isPoly_r7 (goodIn_app ggP_isPoly_wsL_isPoly_r8 (goodIn_app ggP_isPoly_wsL_isPoly_r9 (goodIn_app ggP_isPoly_wsL_isPoly_r10 (goodIn_app ggP_isPoly_wsL_isPoly_r11 (goodIn_app ggP_isPoly_wsL_isPoly_r12 (goodIn_app ggP_isPoly_wsL_isPoly_r13 (goodIn_app ggP_isPoly_wsL_isPoly_r14 (ggP_isPoly_wsL_isPoly_r15))))))))))))))) (goodIn_sub inlX5 (by decide +kernel))) (goodIn_sub inlX4 (by decide +kernel))) (goodIn_sub inlX2 (by decide +kernel))) (goodIn_sub inlX3 (by decide +kernel))) (goodIn_sub inlX1 (by decide +kernel)))) (goodIn_sub (fun _ h => List.mem_append_left _ (List.mem_append_left _ (List.mem_append_right _ h))) (by decide +kernel))) (goodIn_sub (fun _ h => List.mem_append_right _ h) (by decide +kernel))) (goodIn_sub (fun _ h => List.mem_append_left _ (List.mem_append_right _ h)) (by decide +kernel))
set_option maxRecDepth 20000 in
theorem gL_law_L_isPoly : GoodIn wsL_law (va_wsS RL 149 yL_isPoly wsL_isPoly) := goodIn_app (goodIn_of _ (by decide +kernel)) ggL_law_L_isPoly
set_option maxRecDepth 20000 in
theorem ggP_matrices_wsL_matrices_r1 : GoodIn wsL_law wsL_matrices_r1 := goodIn_r _ [4, 78, 79, 80, 81, 82, 83, 84, 441, 442, 443, 444, 445, 446, 447, 2, 448, 15, 93, 94, 95, 96, 97, 98] (by decide +kernel) (by decide +kernel)
set_option maxRecDepth 20000 in
theorem ggP_matrices_wsL_matrices_r2 : GoodIn wsL_law wsL_matrices_r2 := goodIn_r _ [99, 100, 105, 106, 107, 108, 109, 449, 64, 65, 26, 66, 67, 62, 68, 69, 54, 55, 56, 450, 451, 452, 453, 454] (by decide +kernel) (by decide +kernel)
set_option maxRecDepth 20000 in
theorem ggP_matrices_wsL_matrices_r3 : GoodIn wsL_law wsL_matrices_r3 := goodIn_r _ [455, 456, 457, 101, 102, 103, 104, 458, 459, 460, 461, 37, 462, 463, 464, 36, 465, 76, 466, 467, 468, 469, 77, 470] (by decide +kernel) (by decide +kernel)
set_option maxRecDepth 20000 in
theorem ggP_matrices_wsL_matrices_r4 : GoodIn wsL_law wsL_matrices_r4 := goodIn_r _ [471, 472, 473, 474, 475, 476, 477, 478, 479, 480, 481, 172, 173, 152, 153, 154, 155, 156, 157, 88, 158, 159, 160, 161] (by decide +kernel) (by decide +kernel)
set_option maxRecDepth 20000 in
theorem ggP_matrices_wsL_matrices_r5 : GoodIn wsL_law wsL_matrices_r5 := goodIn_r _ [162, 163, 13, 24, 164, 165, 166, 23, 167, 122, 123, 124, 125, 51, 52, 168, 169, 170, 171, 118, 119, 120, 121, 174] (by decide +kernel) (by decide +kernel)
set_option maxRecDepth 20000 in
theorem ggP_matrices_wsL_matrices_r6 : GoodIn wsL_law wsL_matrices_r6 := goodIn_r _ [175, 176, 177, 178, 179, 137, 138, 139, 140, 141, 142, 143, 144, 145, 146, 147, 148, 180, 181, 182, 183, 27, 184, 185] (by decide +kernel) (by decide +kernel)
set_option maxRecDepth 20000 in
theorem ggP_matrices_wsL_matrices_r7 : GoodIn wsL_law wsL_matrices_r7 := goodIn_r _ [186, 187, 188, 189, 190, 191, 192, 193, 194, 195, 196, 197, 198, 199, 200, 201, 202, 203, 204, 205, 206, 207, 208, 209] (by decide +kernel) (by decide +kernel)
set_option maxRecDepth 20000 in
theorem ggP_matrices_wsL_matrices_r8 : GoodIn wsL_law wsL_matrices_r8 := goodIn_r _ [210, 211, 212, 213, 214, 215, 216, 217, 218, 219, 220, 221, 222, 17, 29, 223, 224, 225, 226, 227, 228, 229, 230, 231] (by decide +kernel) (by decide +kernel)
set_option maxRecDepth 20000 in
theorem ggP_matrices_wsL_matrices_r9 : GoodIn wsL_law wsL_matrices_r9 := goodIn_r _ [232, 233, 234, 235, 236, 237, 238, 239, 240, 241, 242, 243, 244, 245, 246, 247, 248, 249, 250, 251, 252, 253, 254, 255] (by decide +kernel) (by decide +kernel)
set_option maxRecDepth 20000 in
theorem ggP_matrices_wsL_matrices_r10 : GoodIn wsL_law wsL_matrices_r10 := goodIn_r _ [256, 257, 258, 259, 260, 261, 262, 263, 264, 265, 266, 21, 267, 268, 269, 270, 271, 272, 273, 20, 274, 44, 275, 276] (by decide +kernel) (by decide +kernel)
set_option maxRecDepth 20000 in
theorem ggP_matrices_wsL_matrices_r11 : GoodIn wsL_law wsL_matrices_r11 := goodIn_r _ [277, 278, 279, 280, 281, 282, 42, 283, 284, 285, 286, 287, 288, 289, 290, 291, 292, 293, 294, 295, 296, 297, 298, 43] (by decide +kernel) (by decide +kernel)
set_option maxRecDepth 20000 in
theorem ggP_matrices_wsL_matrices_r12 : GoodIn wsL_law wsL_matrices_r12 := goodIn_r _ [45, 299, 300, 301, 302, 303, 304, 305, 306, 307, 308, 309, 310, 311, 312, 313, 314, 315, 316, 317, 318, 319, 320, 321] (by decide +kernel) (by decide +kernel)
set_option maxRecDepth 20000 in
theorem ggP_matrices_wsL_matrices_r13 : GoodIn wsL_law wsL_matrices_r13 := goodIn_r _ [322, 323, 324, 325, 326, 327, 328, 329, 330, 331, 332, 333, 334, 335, 336, 337, 338, 339, 340, 341, 342, 343, 344, 345] (by decide +kernel) (by decide +kernel)
set_option maxRecDepth 20000 in
theorem ggP_matrices_wsL_matrices_r14 : GoodIn wsL_law wsL_matrices_r14 := goodIn_r _ [346, 347, 348, 349, 350, 351, 352, 353, 354, 355, 356, 357, 358, 359, 360, 361, 362, 363, 364, 365, 366, 367, 368, 369] (by decide +kernel) (by decide +kernel)
set_option maxRecDepth 20000 in
theorem ggP_matrices_wsL_matrices_r15 : GoodIn wsL_law wsL_matrices_r15 := goodIn_r _ [370, 371, 372, 373, 374, 375, 376, 377, 378, 379, 380, 381, 382, 383, 384, 385, 386, 33, 387, 388, 389, 390, 391, 392] (by decide +kernel) (by decide +kernel)
set_option maxRecDepth 20000 in
theorem ggP_matrices_wsL_matrices_r16 : GoodIn wsL_law wsL_matrices_r16 := goodIn_r _ [393, 394, 395, 396, 397, 398, 399, 400, 401, 402, 403, 404, 405, 406, 407, 408, 409, 410, 32, 411, 412, 413, 149, 150] (by decide +kernel) (by decide +kernel)
set_option maxRecDepth 20000 in
theorem ggP_matrices_wsL_matrices_r17 : GoodIn wsL_law wsL_matrices_r17 := goodIn_r _ [151, 482, 483, 484, 485, 486, 487, 488, 489, 490, 491, 492, 493, 494, 495, 496, 497, 498, 499, 500, 501, 502, 503, 504] (by decide +kernel) (by decide +kernel)
set_option maxRecDepth 20000 in
theorem ggP_matrices_wsL_matrices_r18 : GoodIn wsL_law wsL_matrices_r18 := goodIn_r _ [28, 505, 506, 507, 508, 509, 510, 511, 512, 513] (by decide +kernel) (by decide +kernel)
set_option maxRecDepth 20000 in
theorem ggL_law_L_matrices : GoodIn wsL_law wsL_matrices := goodIn_ca (goodIn_ca (goodIn_ca (goodIn_hd 440 rfl rfl (goodIn_app (goodIn_app (goodIn_app (goodIn_app (goodIn_app (goodIn_app (goodIn_app ggP_matrices_wsL_matrices_r1 (goodIn_app ggP_matrices_wsL_matrices_r2 (goodIn_app ggP_matrices_wsL_matrices_r3 (goodIn_app ggP_matrices_wsL_matrices_r4 (goodIn_app ggP_matrices_wsL_matrices_r5 (goodIn_app ggP_matrices_wsL_matrices_r6 (goodIn_app ggP_matrices_wsL_matrices_r7 (goodIn_app ggP_matrices_wsL_matrices_r8 (goodIn_app ggP_matrices_wsL_matrices_r9 (goodIn_app ggP_matrices_wsL_matrices_r10 (goodIn_app ggP_matrices_wsL_matrices_r11 (goodIn_app ggP_matrices_wsL_matrices_r12 (goodIn_app ggP_matrices_wsL_matrices_r13 (goodIn_app ggP_matrices_wsL_matrices_r14 (goodIn_app ggP_matrices_wsL_matrices_r15 (goodIn_app ggP_matrices_wsL_matrices_r16 (goodIn_app ggP_matrices_wsL_matrices_r17 (ggP_matrices_wsL_matrices_r18)))))))))))))))))) (goodIn_sub inlX5 (by decide +kernel))) (goodIn_sub inlX2 (by decide +kernel))) (goodIn_sub inlX0 (by decide +kernel))) (goodIn_sub inlX4 (by decide +kernel))) (goodIn_sub inlX3 (by decide +kernel))) (goodIn_sub inlX1 (by decide +kernel)))) (goodIn_sub (fun _ h => List.mem_append_left _ (List.mem_append_left _ (List.mem_append_right _ h))) (by decide +kernel))) (goodIn_sub (fun _ h => List.mem_append_left _ (List.mem_append_right _ h)) (by decide +kernel))) (goodIn_sub (fun _ h => List.mem_append_right _ h) (by decide +kernel))
set_option maxRecDepth 20000 in
theorem gL_law_L_matrices : GoodIn wsL_law (va_wsS RL 153 yL_matrices wsL_matrices) := goodIn_app (goodIn_of _ (by decide +kernel)) ggL_law_L_matrices
set_option maxRecDepth 20000 in
theorem ggP_vectors_wsL_vectors_r1 : GoodIn wsL_law wsL_vectors_r1 := goodIn_r _ [444, 4, 78, 79, 80, 81, 82, 83, 84, 441, 442, 443, 445, 446, 447, 2, 448, 15, 93, 94, 95, 96, 97, 98] (by decide +kernel) (by decide +kernel)
set_option maxRecDepth 20000 in
theorem ggP_vectors_wsL_vectors_r2 : GoodIn wsL_law wsL_vectors_r2 := goodIn_r _ [99, 100, 105, 106, 107, 108, 109, 449, 64, 65, 26, 66, 67, 62, 68, 69, 54, 55, 56, 450, 451, 452, 453, 454] (by decide +kernel) (by decide +kernel)
set_option maxRecDepth 20000 in
theorem ggP_vectors_wsL_vectors_r3 : GoodIn wsL_law wsL_vectors_r3 := goodIn_r _ [455, 456, 457, 101, 102, 103, 104, 517, 518, 519, 520, 17, 152, 153, 154, 155, 156, 157, 88, 158, 159, 160, 161, 162] (by decide +kernel) (by decide +kernel)
set_option maxRecDepth 20000 in
theorem ggP_vectors_wsL_vectors_r4 : GoodIn wsL_law wsL_vectors_r4 := goodIn_r _ [163, 13, 24, 164, 165, 166, 23, 167, 122, 123, 124, 125, 51, 52, 168, 169, 170, 171, 118, 119, 120, 121, 172, 173] (by decide +kernel) (by decide +kernel)
set_option maxRecDepth 20000 in
theorem ggP_vectors_wsL_vectors_r5 : GoodIn wsL_law wsL_vectors_r5 := goodIn_r _ [174, 175, 176, 177, 178, 179, 137, 138, 139, 140, 141, 142, 143, 144, 145, 146, 147, 148, 180, 181, 182, 183, 27, 184] (by decide +kernel) (by decide +kernel)
set_option maxRecDepth 20000 in
theorem ggP_vectors_wsL_vectors_r6 : GoodIn wsL_law wsL_vectors_r6 := goodIn_r _ [185, 186, 187, 188, 189, 190, 191, 192, 193, 194, 195, 196, 197, 198, 199, 200, 201, 202, 203, 204, 205, 206, 207, 208] (by decide +kernel) (by decide +kernel)
set_option maxRecDepth 20000 in
theorem ggP_vectors_wsL_vectors_r7 : GoodIn wsL_law wsL_vectors_r7 := goodIn_r _ [209, 210, 211, 212, 213, 214, 215, 216, 217, 218, 219, 220, 221, 222, 29, 223, 224, 225, 226, 227, 228, 229, 230, 231] (by decide +kernel) (by decide +kernel)
set_option maxRecDepth 20000 in
theorem ggP_vectors_wsL_vectors_r8 : GoodIn wsL_law wsL_vectors_r8 := goodIn_r _ [232, 233, 234, 235, 236, 237, 238, 239, 240, 241, 242, 243, 244, 245, 246, 247, 248, 249, 250, 251, 252, 253, 254, 255] (by decide +kernel) (by decide +kernel)
set_option maxRecDepth 20000 in
theorem ggP_vectors_wsL_vectors_r9 : GoodIn wsL_law wsL_vectors_r9 := goodIn_r _ [256, 257, 258, 259, 260, 261, 262, 263, 264, 265, 266, 21, 267, 268, 269, 270, 271, 272, 273, 20, 274, 44, 275, 276] (by decide +kernel) (by decide +kernel)
set_option maxRecDepth 20000 in
theorem ggP_vectors_wsL_vectors_r10 : GoodIn wsL_law wsL_vectors_r10 := goodIn_r _ [277, 278, 279, 280, 281, 282, 42, 283, 284, 285, 286, 287, 288, 289, 290, 291, 292, 293, 294, 295, 296, 297, 298, 43] (by decide +kernel) (by decide +kernel)
set_option maxRecDepth 20000 in
theorem ggP_vectors_wsL_vectors_r11 : GoodIn wsL_law wsL_vectors_r11 := goodIn_r _ [45, 299, 300, 301, 302, 303, 304, 305, 306, 307, 308, 309, 310, 311, 312, 313, 314, 315, 316, 317, 318, 319, 320, 321] (by decide +kernel) (by decide +kernel)
set_option maxRecDepth 20000 in
theorem ggP_vectors_wsL_vectors_r12 : GoodIn wsL_law wsL_vectors_r12 := goodIn_r _ [322, 323, 324, 325, 326, 327, 328, 329, 330, 331, 332, 333, 334, 335, 336, 337, 338, 339, 340, 341, 342, 343, 344, 345] (by decide +kernel) (by decide +kernel)
set_option maxRecDepth 20000 in
theorem ggP_vectors_wsL_vectors_r13 : GoodIn wsL_law wsL_vectors_r13 := goodIn_r _ [346, 347, 348, 349, 350, 351, 352, 353, 354, 355, 356, 357, 358, 359, 360, 361, 362, 363, 364, 365, 366, 367, 368, 369] (by decide +kernel) (by decide +kernel)
set_option maxRecDepth 20000 in
theorem ggP_vectors_wsL_vectors_r14 : GoodIn wsL_law wsL_vectors_r14 := goodIn_r _ [370, 371, 372, 373, 374, 375, 376, 377, 378, 379, 380, 381, 382, 383, 384, 385, 386, 33, 387, 388, 389, 390, 391, 392] (by decide +kernel) (by decide +kernel)
set_option maxRecDepth 20000 in
theorem ggP_vectors_wsL_vectors_r15 : GoodIn wsL_law wsL_vectors_r15 := goodIn_r _ [393, 394, 395, 396, 397, 398, 399, 400, 401, 402, 403, 404, 405, 406, 407, 408, 409, 410, 32, 411, 412, 413, 485, 486] (by decide +kernel) (by decide +kernel)
set_option maxRecDepth 20000 in
theorem ggP_vectors_wsL_vectors_r16 : GoodIn wsL_law wsL_vectors_r16 := goodIn_r _ [487, 488, 521, 522, 523, 524, 149, 150, 151, 126, 127, 128] (by decide +kernel) (by decide +kernel)
set_option maxRecDepth 20000 in
theorem ggL_law_L_vectors : GoodIn wsL_law wsL_vectors := goodIn_ca (goodIn_ca (goodIn_ca (goodIn_hd 516 rfl rfl (goodIn_app (goodIn_app (goodIn_app (goodIn_app (goodIn_app (goodIn_app ggP_vectors_wsL_vectors_r1 (goodIn_app ggP_vectors_wsL_vectors_r2 (goodIn_app ggP_vectors_wsL_vectors_r3 (goodIn_app ggP_vectors_wsL_vectors_r4 (goodIn_app ggP_vectors_wsL_vectors_r5 (goodIn_app ggP_vectors_wsL_vectors_r6 (goodIn_app ggP_vectors_wsL_vectors_r7 (goodIn_app ggP_vectors_wsL_vectors_r8 (goodIn_app ggP_vectors_wsL_vectors_r9 (goodIn_app ggP_vectors_wsL_vectors_r10 (goodIn_app ggP_vectors_wsL_vectors_r11 (goodIn_app ggP_vectors_wsL_vectors_r12 (goodIn_app ggP_vectors_wsL_vectors_r13 (goodIn_app ggP_vectors_wsL_vectors_r14 (goodIn_app ggP_vectors_wsL_vectors_r15 (ggP_vectors_wsL_vectors_r16)))))))))))))))) (goodIn_sub inlX5 (by decide +kernel))) (goodIn_sub inlX2 (by decide +kernel))) (goodIn_sub inlX4 (by decide +kernel))) (goodIn_sub inlX3 (by decide +kernel))) (goodIn_sub inlX1 (by decide +kernel)))) (goodIn_sub (fun _ h => List.mem_append_left _ (List.mem_append_left _ (List.mem_append_right _ h))) (by decide +kernel))) (goodIn_sub (fun _ h => List.mem_append_left _ (List.mem_append_right _ h)) (by decide +kernel))) (goodIn_sub (fun _ h => List.mem_append_right _ h) (by decide +kernel))
set_option maxRecDepth 20000 in
theorem gL_law_L_vectors : GoodIn wsL_law (va_wsS RL 156 yL_vectors wsL_vectors) := goodIn_app (goodIn_of _ (by decide +kernel)) ggL_law_L_vectors
set_option maxRecDepth 20000 in
theorem ggP_chips_wsL_chips_r1 : GoodIn wsL_law wsL_chips_r1 := goodIn_r _ [5, 88, 78, 79, 80, 81, 82, 83, 84, 528, 529, 530, 2, 531, 108, 109, 21, 96, 97, 98, 99, 100, 105, 106] (by decide +kernel) (by decide +kernel)
set_option maxRecDepth 20000 in
theorem ggP_chips_wsL_chips_r2 : GoodIn wsL_law wsL_chips_r2 := goodIn_r _ [107, 532, 533, 534, 535, 536, 537, 538, 539, 540, 353, 354, 20, 355, 283, 284, 285, 286, 287, 288, 289, 290, 279, 280] (by decide +kernel) (by decide +kernel)
set_option maxRecDepth 20000 in
theorem ggP_chips_wsL_chips_r3 : GoodIn wsL_law wsL_chips_r3 := goodIn_r _ [281, 282, 42, 541, 349, 350, 351, 542, 345, 346, 347, 348, 352, 271, 272, 273, 274, 44, 275, 276, 277, 278, 291, 292] (by decide +kernel) (by decide +kernel)
set_option maxRecDepth 20000 in
theorem ggP_chips_wsL_chips_r4 : GoodIn wsL_law wsL_chips_r4 := goodIn_r _ [293, 294, 295, 296, 297, 298, 43, 45, 299, 142, 143, 144, 304, 305, 306, 307, 308, 309, 310, 311, 543, 544, 545, 546] (by decide +kernel) (by decide +kernel)
set_option maxRecDepth 20000 in
theorem ggP_chips_wsL_chips_r5 : GoodIn wsL_law wsL_chips_r5 := goodIn_r _ [46, 547, 548, 549, 550, 551, 316, 232, 120, 233, 552, 553, 554, 555, 152, 153, 154, 155, 156, 157, 158, 159, 160, 161] (by decide +kernel) (by decide +kernel)
set_option maxRecDepth 20000 in
theorem ggP_chips_wsL_chips_r6 : GoodIn wsL_law wsL_chips_r6 := goodIn_r _ [162, 163, 13, 24, 93, 94, 95, 164, 165, 166, 23, 167, 122, 123, 124, 125, 51, 52, 168, 169, 170, 171, 118, 119] (by decide +kernel) (by decide +kernel)
set_option maxRecDepth 20000 in
theorem ggP_chips_wsL_chips_r7 : GoodIn wsL_law wsL_chips_r7 := goodIn_r _ [121, 172, 173, 104, 174, 175, 176, 177, 178, 179, 137, 138, 139, 140, 141, 145, 146, 147, 148, 180, 181, 182, 183, 15] (by decide +kernel) (by decide +kernel)
set_option maxRecDepth 20000 in
theorem ggP_chips_wsL_chips_r8 : GoodIn wsL_law wsL_chips_r8 := goodIn_r _ [27, 184, 185, 186, 26, 187, 67, 68, 62, 188, 189, 190, 191, 192, 193, 194, 195, 196, 197, 198, 199, 200, 201, 202] (by decide +kernel) (by decide +kernel)
set_option maxRecDepth 20000 in
theorem ggP_chips_wsL_chips_r9 : GoodIn wsL_law wsL_chips_r9 := goodIn_r _ [203, 204, 205, 206, 207, 208, 209, 210, 211, 212, 213, 214, 215, 216, 217, 218, 219, 220, 221, 222, 17, 29, 223, 224] (by decide +kernel) (by decide +kernel)
set_option maxRecDepth 20000 in
theorem ggP_chips_wsL_chips_r10 : GoodIn wsL_law wsL_chips_r10 := goodIn_r _ [225, 226, 227, 228, 229, 230, 231, 234, 235, 236, 237, 238, 239, 240, 241, 242, 243, 244, 245, 246, 247, 248, 249, 250] (by decide +kernel) (by decide +kernel)
set_option maxRecDepth 20000 in
theorem ggP_chips_wsL_chips_r11 : GoodIn wsL_law wsL_chips_r11 := goodIn_r _ [251, 252, 253, 254, 255, 256, 257, 258, 259, 260, 261, 262, 263, 264, 265, 266, 267, 268, 269, 270, 300, 301, 302, 303] (by decide +kernel) (by decide +kernel)
set_option maxRecDepth 20000 in
theorem ggP_chips_wsL_chips_r12 : GoodIn wsL_law wsL_chips_r12 := goodIn_r _ [312, 313, 314, 315, 317, 318, 319, 320, 321, 322, 323, 324, 325, 326, 327, 328, 329, 330, 331, 332, 333, 334, 335, 336] (by decide +kernel) (by decide +kernel)
set_option maxRecDepth 20000 in
theorem ggP_chips_wsL_chips_r13 : GoodIn wsL_law wsL_chips_r13 := goodIn_r _ [337, 338, 339, 340, 341, 342, 343, 344, 356, 357, 358, 359, 360, 361, 362, 363, 364, 365, 366, 367, 368, 369, 370, 371] (by decide +kernel) (by decide +kernel)
set_option maxRecDepth 20000 in
theorem ggP_chips_wsL_chips_r14 : GoodIn wsL_law wsL_chips_r14 := goodIn_r _ [372, 373, 374, 375, 376, 377, 378, 379, 380, 381, 382, 383, 384, 385, 386, 33, 387, 388, 389, 390, 391, 392, 393, 394] (by decide +kernel) (by decide +kernel)
set_option maxRecDepth 20000 in
theorem ggP_chips_wsL_chips_r15 : GoodIn wsL_law wsL_chips_r15 := goodIn_r _ [395, 396, 397, 398, 399, 400, 401, 402, 403, 404, 405, 406, 407, 408, 409, 410, 32, 411, 412, 413, 556, 557, 558, 3] (by decide +kernel) (by decide +kernel)
set_option maxRecDepth 20000 in
theorem ggP_chips_wsL_chips_r16 : GoodIn wsL_law wsL_chips_r16 := goodIn_r _ [559, 560, 561, 562] (by decide +kernel) (by decide +kernel)
set_option maxRecDepth 20000 in
theorem ggL_law_L_chips : GoodIn wsL_law wsL_chips := goodIn_ca (goodIn_ca (goodIn_ca (goodIn_hd 527 rfl rfl (goodIn_app (goodIn_app (goodIn_app (goodIn_app (goodIn_app (goodIn_app ggP_chips_wsL_chips_r1 (goodIn_app ggP_chips_wsL_chips_r2 (goodIn_app ggP_chips_wsL_chips_r3 (goodIn_app ggP_chips_wsL_chips_r4 (goodIn_app ggP_chips_wsL_chips_r5 (goodIn_app ggP_chips_wsL_chips_r6 (goodIn_app ggP_chips_wsL_chips_r7 (goodIn_app ggP_chips_wsL_chips_r8 (goodIn_app ggP_chips_wsL_chips_r9 (goodIn_app ggP_chips_wsL_chips_r10 (goodIn_app ggP_chips_wsL_chips_r11 (goodIn_app ggP_chips_wsL_chips_r12 (goodIn_app ggP_chips_wsL_chips_r13 (goodIn_app ggP_chips_wsL_chips_r14 (goodIn_app ggP_chips_wsL_chips_r15 (ggP_chips_wsL_chips_r16)))))))))))))))) (goodIn_sub inlX5 (by decide +kernel))) (goodIn_sub inlX3 (by decide +kernel))) (goodIn_sub inlX4 (by decide +kernel))) (goodIn_sub inlX2 (by decide +kernel))) (goodIn_sub inlX1 (by decide +kernel)))) (goodIn_sub (fun _ h => List.mem_append_left _ (List.mem_append_right _ h)) (by decide +kernel))) (goodIn_sub (fun _ h => List.mem_append_left _ (List.mem_append_left _ (List.mem_append_right _ h))) (by decide +kernel))) (goodIn_sub (fun _ h => List.mem_append_right _ h) (by decide +kernel))
set_option maxRecDepth 20000 in
theorem gL_law_L_chips : GoodIn wsL_law (va_wsS RL 159 yL_chips wsL_chips) := goodIn_app (goodIn_of _ (by decide +kernel)) ggL_law_L_chips
theorem gLT {ws : List Cond} (h : GoodIn wsL_law ws) : GoodIn lw_tbl ws := fun w hw => ⟨wsL_law_in w (h w hw).1, (h w hw).2⟩
