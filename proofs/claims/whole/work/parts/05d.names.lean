theorem dX6_init_115 : decode cX6_init 115 = .ok (.newarray .int, 2) := by decide +kernel
theorem dX6_init_117 : decode cX6_init 117 = .ok (.putfield 52, 3) := by decide +kernel
theorem dX6_init_120 : decode cX6_init 120 = .ok (.aload_n 0, 1) := by decide +kernel
theorem dX6_init_121 : decode cX6_init 121 = .ok (.iconst 5, 1) := by decide +kernel
theorem dX6_init_122 : decode cX6_init 122 = .ok (.newarray .int, 2) := by decide +kernel
theorem dX6_init_124 : decode cX6_init 124 = .ok (.putfield 55, 3) := by decide +kernel
theorem dX6_init_127 : decode cX6_init 127 = .ok (.aload_n 0, 1) := by decide +kernel
theorem dX6_init_128 : decode cX6_init 128 = .ok (.bipush 32, 2) := by decide +kernel
theorem dX6_init_130 : decode cX6_init 130 = .ok (.newarray .long, 2) := by decide +kernel
theorem dX6_init_132 : decode cX6_init 132 = .ok (.putfield 58, 3) := by decide +kernel
theorem dX6_init_135 : decode cX6_init 135 = .ok (.iconst 0, 1) := by decide +kernel
theorem dX6_init_136 : decode cX6_init 136 = .ok (.istore_n 1, 1) := by decide +kernel
theorem dX6_init_137 : decode cX6_init 137 = .ok (.iload_n 1, 1) := by decide +kernel
theorem dX6_init_138 : decode cX6_init 138 = .ok (.bipush 36, 2) := by decide +kernel
theorem dX6_init_140 : decode cX6_init 140 = .ok (.if_icmp .ge 17, 3) := by decide +kernel
theorem dX6_init_143 : decode cX6_init 143 = .ok (.aload_n 0, 1) := by decide +kernel
theorem dX6_init_144 : decode cX6_init 144 = .ok (.getfield 7, 3) := by decide +kernel
theorem dX6_init_147 : decode cX6_init 147 = .ok (.iload_n 1, 1) := by decide +kernel
theorem dX6_init_148 : decode cX6_init 148 = .ok (.ldc 62, 2) := by decide +kernel
theorem dX6_init_150 : decode cX6_init 150 = .ok (.iastore, 1) := by decide +kernel
theorem dX6_init_151 : decode cX6_init 151 = .ok (.iinc 1 1, 3) := by decide +kernel
theorem dX6_init_154 : decode cX6_init 154 = .ok (.goto (-17), 3) := by decide +kernel
theorem dX6_init_157 : decode cX6_init 157 = .ok (.iconst 0, 1) := by decide +kernel
theorem dX6_init_158 : decode cX6_init 158 = .ok (.istore_n 1, 1) := by decide +kernel
theorem dX6_init_159 : decode cX6_init 159 = .ok (.iload_n 1, 1) := by decide +kernel
theorem dX6_init_160 : decode cX6_init 160 = .ok (.bipush 100, 2) := by decide +kernel
theorem dX6_init_162 : decode cX6_init 162 = .ok (.if_icmp .ge 17, 3) := by decide +kernel
theorem dX6_init_165 : decode cX6_init 165 = .ok (.aload_n 0, 1) := by decide +kernel
theorem dX6_init_166 : decode cX6_init 166 = .ok (.getfield 22, 3) := by decide +kernel
theorem dX6_init_169 : decode cX6_init 169 = .ok (.iload_n 1, 1) := by decide +kernel
theorem dX6_init_170 : decode cX6_init 170 = .ok (.ldc 62, 2) := by decide +kernel
theorem dX6_init_172 : decode cX6_init 172 = .ok (.iastore, 1) := by decide +kernel
theorem dX6_init_173 : decode cX6_init 173 = .ok (.iinc 1 1, 3) := by decide +kernel
theorem dX6_init_176 : decode cX6_init 176 = .ok (.goto (-17), 3) := by decide +kernel
theorem dX6_init_179 : decode cX6_init 179 = .ok (.iconst 0, 1) := by decide +kernel
theorem dX6_init_180 : decode cX6_init 180 = .ok (.istore_n 1, 1) := by decide +kernel
theorem dX6_init_181 : decode cX6_init 181 = .ok (.iload_n 1, 1) := by decide +kernel
theorem dX6_init_182 : decode cX6_init 182 = .ok (.iconst 4, 1) := by decide +kernel
theorem dX6_init_183 : decode cX6_init 183 = .ok (.if_icmp .ge 16, 3) := by decide +kernel
theorem dX6_init_186 : decode cX6_init 186 = .ok (.aload_n 0, 1) := by decide +kernel
theorem dX6_init_187 : decode cX6_init 187 = .ok (.getfield 19, 3) := by decide +kernel
theorem dX6_init_190 : decode cX6_init 190 = .ok (.iload_n 1, 1) := by decide +kernel
theorem dX6_init_191 : decode cX6_init 191 = .ok (.iconst 1, 1) := by decide +kernel
theorem dX6_init_192 : decode cX6_init 192 = .ok (.iastore, 1) := by decide +kernel
theorem dX6_init_193 : decode cX6_init 193 = .ok (.iinc 1 1, 3) := by decide +kernel
theorem dX6_init_196 : decode cX6_init 196 = .ok (.goto (-15), 3) := by decide +kernel
theorem dX6_init_199 : decode cX6_init 199 = .ok (.return_, 1) := by decide +kernel
theorem dX6_thrown_0 : decode cX6_thrown 0 = .ok (.aload_n 0, 1) := by decide +kernel
theorem dX6_thrown_1 : decode cX6_thrown 1 = .ok (.getfield 63, 3) := by decide +kernel
theorem dX6_thrown_4 : decode cX6_thrown 4 = .ok (.ireturn, 1) := by decide +kernel
theorem dX6_can_0 : decode cX6_can 0 = .ok (.aload_n 0, 1) := by decide +kernel
theorem dX6_can_1 : decode cX6_can 1 = .ok (.iload_n 1, 1) := by decide +kernel
theorem dX6_can_2 : decode cX6_can 2 = .ok (.putfield 63, 3) := by decide +kernel
theorem dX6_can_5 : decode cX6_can 5 = .ok (.iload_n 1, 1) := by decide +kernel
theorem dX6_can_6 : decode cX6_can 6 = .ok (.ifCond .ne 7, 3) := by decide +kernel
theorem dX6_can_9 : decode cX6_can 9 = .ok (.iconst 1, 1) := by decide +kernel
theorem dX6_can_10 : decode cX6_can 10 = .ok (.goto 4, 3) := by decide +kernel
theorem dX6_can_13 : decode cX6_can 13 = .ok (.iconst 0, 1) := by decide +kernel
theorem dX6_can_14 : decode cX6_can 14 = .ok (.ireturn, 1) := by decide +kernel
theorem dX6_isIn_0 : decode cX6_isIn 0 = .ok (.iload_n 0, 1) := by decide +kernel
theorem dX6_isIn_1 : decode cX6_isIn 1 = .ok (.iload_n 1, 1) := by decide +kernel
theorem dX6_isIn_2 : decode cX6_isIn 2 = .ok (.if_icmp .lt 12, 3) := by decide +kernel
theorem dX6_isIn_5 : decode cX6_isIn 5 = .ok (.iload_n 0, 1) := by decide +kernel
theorem dX6_isIn_6 : decode cX6_isIn 6 = .ok (.iload_n 2, 1) := by decide +kernel
theorem dX6_isIn_7 : decode cX6_isIn 7 = .ok (.if_icmp .gt 7, 3) := by decide +kernel
theorem dX6_isIn_10 : decode cX6_isIn 10 = .ok (.iconst 1, 1) := by decide +kernel
theorem dX6_isIn_11 : decode cX6_isIn 11 = .ok (.goto 4, 3) := by decide +kernel
theorem dX6_isIn_14 : decode cX6_isIn 14 = .ok (.iconst 0, 1) := by decide +kernel
theorem dX6_isIn_15 : decode cX6_isIn 15 = .ok (.ireturn, 1) := by decide +kernel
set_option maxRecDepth 20000 in
theorem ggX6_isOne_X6_isIn : GoodIn wsX6_isOne wsX6_isIn := goodIn_r _ [4] (by decide +kernel) (by decide +kernel)
set_option maxRecDepth 20000 in
theorem gX6_isOne_X6_isIn : GoodIn wsX6_isOne (va_wsS RX6 67 yX6_isIn wsX6_isIn) := goodIn_app (goodIn_of _ (by decide +kernel)) ggX6_isOne_X6_isIn
theorem dX6_isOne_0 : decode cX6_isOne 0 = .ok (.iload_n 0, 1) := by decide +kernel
theorem dX6_isOne_1 : decode cX6_isOne 1 = .ok (.iconst 0, 1) := by decide +kernel
theorem dX6_isOne_2 : decode cX6_isOne 2 = .ok (.iconst 3, 1) := by decide +kernel
theorem dX6_isOne_3 : decode cX6_isOne 3 = .ok (.invokestatic 67, 3) := by decide +kernel
theorem dX6_isOne_6 : decode cX6_isOne 6 = .ok (.ireturn, 1) := by decide +kernel
set_option maxRecDepth 20000 in
theorem ggX6_isNumber_X6_isIn : GoodIn wsX6_isNumber wsX6_isIn := goodIn_r _ [5] (by decide +kernel) (by decide +kernel)
set_option maxRecDepth 20000 in
theorem gX6_isNumber_X6_isIn : GoodIn wsX6_isNumber (va_wsS RX6 67 yX6_isIn wsX6_isIn) := goodIn_app (goodIn_of _ (by decide +kernel)) ggX6_isNumber_X6_isIn
theorem dX6_isNumber_0 : decode cX6_isNumber 0 = .ok (.iload_n 0, 1) := by decide +kernel
theorem dX6_isNumber_1 : decode cX6_isNumber 1 = .ok (.sipush (-999), 3) := by decide +kernel
theorem dX6_isNumber_4 : decode cX6_isNumber 4 = .ok (.sipush 999, 3) := by decide +kernel
theorem dX6_isNumber_7 : decode cX6_isNumber 7 = .ok (.invokestatic 67, 3) := by decide +kernel
theorem dX6_isNumber_10 : decode cX6_isNumber 10 = .ok (.ifCond .ne 9, 3) := by decide +kernel
theorem dX6_isNumber_13 : decode cX6_isNumber 13 = .ok (.iload_n 0, 1) := by decide +kernel
theorem dX6_isNumber_14 : decode cX6_isNumber 14 = .ok (.ldc 62, 2) := by decide +kernel
theorem dX6_isNumber_16 : decode cX6_isNumber 16 = .ok (.if_icmp .ne 7, 3) := by decide +kernel
theorem dX6_isNumber_19 : decode cX6_isNumber 19 = .ok (.iconst 1, 1) := by decide +kernel
theorem dX6_isNumber_20 : decode cX6_isNumber 20 = .ok (.goto 4, 3) := by decide +kernel
theorem dX6_isNumber_23 : decode cX6_isNumber 23 = .ok (.iconst 0, 1) := by decide +kernel
theorem dX6_isNumber_24 : decode cX6_isNumber 24 = .ok (.ireturn, 1) := by decide +kernel
set_option maxRecDepth 20000 in
theorem ggX6_isFar_X6_isIn : GoodIn wsX6_isFar wsX6_isIn := goodIn_r _ [5] (by decide +kernel) (by decide +kernel)
set_option maxRecDepth 20000 in
theorem gX6_isFar_X6_isIn : GoodIn wsX6_isFar (va_wsS RX6 67 yX6_isIn wsX6_isIn) := goodIn_app (goodIn_of _ (by decide +kernel)) ggX6_isFar_X6_isIn
theorem dX6_isFar_0 : decode cX6_isFar 0 = .ok (.iload_n 0, 1) := by decide +kernel
theorem dX6_isFar_1 : decode cX6_isFar 1 = .ok (.ldc 62, 2) := by decide +kernel
theorem dX6_isFar_3 : decode cX6_isFar 3 = .ok (.if_icmp .eq 17, 3) := by decide +kernel
theorem dX6_isFar_6 : decode cX6_isFar 6 = .ok (.iload_n 0, 1) := by decide +kernel
theorem dX6_isFar_7 : decode cX6_isFar 7 = .ok (.iload_n 1, 1) := by decide +kernel
theorem dX6_isFar_8 : decode cX6_isFar 8 = .ok (.ineg, 1) := by decide +kernel
theorem dX6_isFar_9 : decode cX6_isFar 9 = .ok (.iload_n 1, 1) := by decide +kernel
theorem dX6_isFar_10 : decode cX6_isFar 10 = .ok (.invokestatic 67, 3) := by decide +kernel
theorem dX6_isFar_13 : decode cX6_isFar 13 = .ok (.ifCond .ne 7, 3) := by decide +kernel
theorem dX6_isFar_16 : decode cX6_isFar 16 = .ok (.iconst 1, 1) := by decide +kernel
theorem dX6_isFar_17 : decode cX6_isFar 17 = .ok (.goto 4, 3) := by decide +kernel
theorem dX6_isFar_20 : decode cX6_isFar 20 = .ok (.iconst 0, 1) := by decide +kernel
theorem dX6_isFar_21 : decode cX6_isFar 21 = .ok (.ireturn, 1) := by decide +kernel
theorem dX6_plus_0 : decode cX6_plus 0 = .ok (.iload_n 0, 1) := by decide +kernel
theorem dX6_plus_1 : decode cX6_plus 1 = .ok (.ldc 62, 2) := by decide +kernel
theorem dX6_plus_3 : decode cX6_plus 3 = .ok (.if_icmp .eq 9, 3) := by decide +kernel
theorem dX6_plus_6 : decode cX6_plus 6 = .ok (.iload_n 1, 1) := by decide +kernel
theorem dX6_plus_7 : decode cX6_plus 7 = .ok (.ldc 62, 2) := by decide +kernel
theorem dX6_plus_9 : decode cX6_plus 9 = .ok (.if_icmp .ne 8, 3) := by decide +kernel
theorem dX6_plus_12 : decode cX6_plus 12 = .ok (.ldc 62, 2) := by decide +kernel
theorem dX6_plus_14 : decode cX6_plus 14 = .ok (.goto 6, 3) := by decide +kernel
theorem dX6_plus_17 : decode cX6_plus 17 = .ok (.iload_n 0, 1) := by decide +kernel
theorem dX6_plus_18 : decode cX6_plus 18 = .ok (.iload_n 1, 1) := by decide +kernel
theorem dX6_plus_19 : decode cX6_plus 19 = .ok (.iadd, 1) := by decide +kernel
theorem dX6_plus_20 : decode cX6_plus 20 = .ok (.ireturn, 1) := by decide +kernel
theorem dX6_lesser_0 : decode cX6_lesser 0 = .ok (.iload_n 0, 1) := by decide +kernel
theorem dX6_lesser_1 : decode cX6_lesser 1 = .ok (.iload_n 1, 1) := by decide +kernel
theorem dX6_lesser_2 : decode cX6_lesser 2 = .ok (.if_icmp .ge 7, 3) := by decide +kernel
theorem dX6_lesser_5 : decode cX6_lesser 5 = .ok (.iload_n 0, 1) := by decide +kernel
theorem dX6_lesser_6 : decode cX6_lesser 6 = .ok (.goto 4, 3) := by decide +kernel
theorem dX6_lesser_9 : decode cX6_lesser 9 = .ok (.iload_n 1, 1) := by decide +kernel
theorem dX6_lesser_10 : decode cX6_lesser 10 = .ok (.ireturn, 1) := by decide +kernel
theorem dX6_common_0 : decode cX6_common 0 = .ok (.iload_n 0, 1) := by decide +kernel
theorem dX6_common_1 : decode cX6_common 1 = .ok (.ifCond .ge 8, 3) := by decide +kernel
theorem dX6_common_4 : decode cX6_common 4 = .ok (.iload_n 0, 1) := by decide +kernel
theorem dX6_common_5 : decode cX6_common 5 = .ok (.ineg, 1) := by decide +kernel
theorem dX6_common_6 : decode cX6_common 6 = .ok (.goto 4, 3) := by decide +kernel
theorem dX6_common_9 : decode cX6_common 9 = .ok (.iload_n 0, 1) := by decide +kernel
theorem dX6_common_10 : decode cX6_common 10 = .ok (.istore_n 2, 1) := by decide +kernel
theorem dX6_common_11 : decode cX6_common 11 = .ok (.iload_n 1, 1) := by decide +kernel
theorem dX6_common_12 : decode cX6_common 12 = .ok (.istore_n 3, 1) := by decide +kernel
theorem dX6_common_13 : decode cX6_common 13 = .ok (.iload_n 3, 1) := by decide +kernel
theorem dX6_common_14 : decode cX6_common 14 = .ok (.ifCond .le 16, 3) := by decide +kernel
theorem dX6_common_17 : decode cX6_common 17 = .ok (.iload_n 2, 1) := by decide +kernel
theorem dX6_common_18 : decode cX6_common 18 = .ok (.iload_n 3, 1) := by decide +kernel
theorem dX6_common_19 : decode cX6_common 19 = .ok (.irem, 1) := by decide +kernel
theorem dX6_common_20 : decode cX6_common 20 = .ok (.istore 4, 2) := by decide +kernel
theorem dX6_common_22 : decode cX6_common 22 = .ok (.iload_n 3, 1) := by decide +kernel
theorem dX6_common_23 : decode cX6_common 23 = .ok (.istore_n 2, 1) := by decide +kernel
theorem dX6_common_24 : decode cX6_common 24 = .ok (.iload 4, 2) := by decide +kernel
theorem dX6_common_26 : decode cX6_common 26 = .ok (.istore_n 3, 1) := by decide +kernel
theorem dX6_common_27 : decode cX6_common 27 = .ok (.goto (-14), 3) := by decide +kernel
theorem dX6_common_30 : decode cX6_common 30 = .ok (.iload_n 2, 1) := by decide +kernel
theorem dX6_common_31 : decode cX6_common 31 = .ok (.ireturn, 1) := by decide +kernel
theorem dX6_of_0 : decode cX6_of 0 = .ok (.aload_n 0, 1) := by decide +kernel
theorem dX6_of_1 : decode cX6_of 1 = .ok (.getfield 7, 3) := by decide +kernel
theorem dX6_of_4 : decode cX6_of 4 = .ok (.bipush 9, 2) := by decide +kernel
theorem dX6_of_6 : decode cX6_of 6 = .ok (.iload_n 1, 1) := by decide +kernel
theorem dX6_of_7 : decode cX6_of 7 = .ok (.imul, 1) := by decide +kernel
theorem dX6_of_8 : decode cX6_of 8 = .ok (.iload_n 2, 1) := by decide +kernel
theorem dX6_of_9 : decode cX6_of 9 = .ok (.iadd, 1) := by decide +kernel
theorem dX6_of_10 : decode cX6_of 10 = .ok (.iaload, 1) := by decide +kernel
theorem dX6_of_11 : decode cX6_of 11 = .ok (.ireturn, 1) := by decide +kernel
set_option maxRecDepth 20000 in
theorem ggX6_isTerm_X6_of : GoodIn wsX6_isTerm wsX6_of := goodIn_r _ [6, 7, 8, 9, 10, 11, 12, 13, 14, 15, 16, 17, 18, 19, 20, 21, 22, 23, 24, 25, 26] (by decide +kernel) (by decide +kernel)
set_option maxRecDepth 20000 in
theorem gX6_isTerm_X6_of : GoodIn wsX6_isTerm (wsV RX6 71 RX6 yX6_of wsX6_of) := goodIn_app (goodIn_of _ (by decide +kernel)) ggX6_isTerm_X6_of
theorem dX6_isTerm_0 : decode cX6_isTerm 0 = .ok (.aload_n 0, 1) := by decide +kernel
theorem dX6_isTerm_1 : decode cX6_isTerm 1 = .ok (.iload_n 1, 1) := by decide +kernel
theorem dX6_isTerm_2 : decode cX6_isTerm 2 = .ok (.iload_n 2, 1) := by decide +kernel
theorem dX6_isTerm_3 : decode cX6_isTerm 3 = .ok (.invokevirtual 71, 3) := by decide +kernel
theorem dX6_isTerm_6 : decode cX6_isTerm 6 = .ok (.ldc 62, 2) := by decide +kernel
theorem dX6_isTerm_8 : decode cX6_isTerm 8 = .ok (.if_icmp .eq 7, 3) := by decide +kernel
theorem dX6_isTerm_11 : decode cX6_isTerm 11 = .ok (.iconst 1, 1) := by decide +kernel
theorem dX6_isTerm_12 : decode cX6_isTerm 12 = .ok (.goto 4, 3) := by decide +kernel
theorem dX6_isTerm_15 : decode cX6_isTerm 15 = .ok (.iconst 0, 1) := by decide +kernel
theorem dX6_isTerm_16 : decode cX6_isTerm 16 = .ok (.ireturn, 1) := by decide +kernel
set_option maxRecDepth 20000 in
theorem ggX6_coefficient_X6_isOne : GoodIn wsX6_coefficient wsX6_isOne := goodIn_r _ [5, 6, 7, 4, 8] (by decide +kernel) (by decide +kernel)
set_option maxRecDepth 20000 in
theorem gX6_coefficient_X6_isOne : GoodIn wsX6_coefficient (va_wsS RX6 75 yX6_isOne wsX6_isOne) := goodIn_app (goodIn_of _ (by decide +kernel)) ggX6_coefficient_X6_isOne
set_option maxRecDepth 20000 in
theorem ggX6_coefficient_X6_isIn : GoodIn wsX6_coefficient wsX6_isIn := goodIn_r _ [8] (by decide +kernel) (by decide +kernel)
set_option maxRecDepth 20000 in
theorem gX6_coefficient_X6_isIn : GoodIn wsX6_coefficient (va_wsS RX6 67 yX6_isIn wsX6_isIn) := goodIn_app (goodIn_of _ (by decide +kernel)) ggX6_coefficient_X6_isIn
set_option maxRecDepth 20000 in
theorem ggX6_coefficient_X6_isNumber : GoodIn wsX6_coefficient wsX6_isNumber := goodIn_r _ [11, 12, 6, 7, 4, 8] (by decide +kernel) (by decide +kernel)
set_option maxRecDepth 20000 in
theorem gX6_coefficient_X6_isNumber : GoodIn wsX6_coefficient (va_wsS RX6 79 yX6_isNumber wsX6_isNumber) := goodIn_app (goodIn_of _ (by decide +kernel)) ggX6_coefficient_X6_isNumber
set_option maxRecDepth 20000 in
theorem ggX6_coefficient_X6_can : GoodIn wsX6_coefficient wsX6_can := goodIn_r _ [16, 17, 22, 23, 24, 25, 26, 27, 28, 29, 30, 31, 32, 33, 34, 35, 36, 37, 38, 39, 40] (by decide +kernel) (by decide +kernel)
set_option maxRecDepth 20000 in
theorem gX6_coefficient_X6_can : GoodIn wsX6_coefficient (wsV RX6 82 RX6 yX6_can wsX6_can) := goodIn_app (goodIn_of _ (by decide +kernel)) ggX6_coefficient_X6_can
set_option maxRecDepth 20000 in
theorem ggX6_coefficient_X6_of : GoodIn wsX6_coefficient wsX6_of := goodIn_r _ [21, 1, 22, 23, 24, 25, 26, 27, 28, 29, 30, 31, 32, 33, 34, 35, 36, 37, 38, 39, 40] (by decide +kernel) (by decide +kernel)
set_option maxRecDepth 20000 in
theorem gX6_coefficient_X6_of : GoodIn wsX6_coefficient (wsV RX6 71 RX6 yX6_of wsX6_of) := goodIn_app (goodIn_of _ (by decide +kernel)) ggX6_coefficient_X6_of
theorem dX6_coefficient_0 : decode cX6_coefficient 0 = .ok (.iload_n 1, 1) := by decide +kernel
theorem dX6_coefficient_1 : decode cX6_coefficient 1 = .ok (.invokestatic 75, 3) := by decide +kernel
theorem dX6_coefficient_4 : decode cX6_coefficient 4 = .ok (.ifCond .eq 17, 3) := by decide +kernel
theorem dX6_coefficient_7 : decode cX6_coefficient 7 = .ok (.iload_n 2, 1) := by decide +kernel
theorem dX6_coefficient_8 : decode cX6_coefficient 8 = .ok (.iconst 0, 1) := by decide +kernel
theorem dX6_coefficient_9 : decode cX6_coefficient 9 = .ok (.bipush 8, 2) := by decide +kernel
theorem dX6_coefficient_11 : decode cX6_coefficient 11 = .ok (.invokestatic 67, 3) := by decide +kernel
theorem dX6_coefficient_14 : decode cX6_coefficient 14 = .ok (.ifCond .eq 7, 3) := by decide +kernel
theorem dX6_coefficient_17 : decode cX6_coefficient 17 = .ok (.iconst 1, 1) := by decide +kernel
theorem dX6_coefficient_18 : decode cX6_coefficient 18 = .ok (.goto 4, 3) := by decide +kernel
theorem dX6_coefficient_21 : decode cX6_coefficient 21 = .ok (.iconst 0, 1) := by decide +kernel
theorem dX6_coefficient_22 : decode cX6_coefficient 22 = .ok (.istore 4, 2) := by decide +kernel
theorem dX6_coefficient_24 : decode cX6_coefficient 24 = .ok (.aload_n 0, 1) := by decide +kernel
theorem dX6_coefficient_25 : decode cX6_coefficient 25 = .ok (.iload 4, 2) := by decide +kernel
theorem dX6_coefficient_27 : decode cX6_coefficient 27 = .ok (.ifCond .ne 7, 3) := by decide +kernel
theorem dX6_coefficient_30 : decode cX6_coefficient 30 = .ok (.iconst 1, 1) := by decide +kernel
theorem dX6_coefficient_31 : decode cX6_coefficient 31 = .ok (.goto 15, 3) := by decide +kernel
theorem dX6_coefficient_34 : decode cX6_coefficient 34 = .ok (.iload_n 3, 1) := by decide +kernel
theorem dX6_coefficient_35 : decode cX6_coefficient 35 = .ok (.invokestatic 79, 3) := by decide +kernel
theorem dX6_coefficient_38 : decode cX6_coefficient 38 = .ok (.ifCond .eq 7, 3) := by decide +kernel
theorem dX6_coefficient_41 : decode cX6_coefficient 41 = .ok (.iconst 0, 1) := by decide +kernel
theorem dX6_coefficient_42 : decode cX6_coefficient 42 = .ok (.goto 4, 3) := by decide +kernel
theorem dX6_coefficient_45 : decode cX6_coefficient 45 = .ok (.iconst 2, 1) := by decide +kernel
theorem dX6_coefficient_46 : decode cX6_coefficient 46 = .ok (.invokevirtual 82, 3) := by decide +kernel
theorem dX6_coefficient_49 : decode cX6_coefficient 49 = .ok (.ifCond .ne 5, 3) := by decide +kernel
theorem dX6_coefficient_52 : decode cX6_coefficient 52 = .ok (.iconst 0, 1) := by decide +kernel
theorem dX6_coefficient_53 : decode cX6_coefficient 53 = .ok (.ireturn, 1) := by decide +kernel
theorem dX6_coefficient_54 : decode cX6_coefficient 54 = .ok (.aload_n 0, 1) := by decide +kernel
theorem dX6_coefficient_55 : decode cX6_coefficient 55 = .ok (.iload_n 1, 1) := by decide +kernel
theorem dX6_coefficient_56 : decode cX6_coefficient 56 = .ok (.iload_n 2, 1) := by decide +kernel
theorem dX6_coefficient_57 : decode cX6_coefficient 57 = .ok (.invokevirtual 71, 3) := by decide +kernel
theorem dX6_coefficient_60 : decode cX6_coefficient 60 = .ok (.istore 5, 2) := by decide +kernel
theorem dX6_coefficient_62 : decode cX6_coefficient 62 = .ok (.aload_n 0, 1) := by decide +kernel
theorem dX6_coefficient_63 : decode cX6_coefficient 63 = .ok (.getfield 7, 3) := by decide +kernel
theorem dX6_coefficient_66 : decode cX6_coefficient 66 = .ok (.bipush 9, 2) := by decide +kernel
theorem dX6_coefficient_68 : decode cX6_coefficient 68 = .ok (.iload_n 1, 1) := by decide +kernel
theorem dX6_coefficient_69 : decode cX6_coefficient 69 = .ok (.imul, 1) := by decide +kernel
theorem dX6_coefficient_70 : decode cX6_coefficient 70 = .ok (.iload_n 2, 1) := by decide +kernel
theorem dX6_coefficient_71 : decode cX6_coefficient 71 = .ok (.iadd, 1) := by decide +kernel
theorem dX6_coefficient_72 : decode cX6_coefficient 72 = .ok (.iload_n 3, 1) := by decide +kernel
theorem dX6_coefficient_73 : decode cX6_coefficient 73 = .ok (.iastore, 1) := by decide +kernel
theorem dX6_coefficient_74 : decode cX6_coefficient 74 = .ok (.iload 5, 2) := by decide +kernel
theorem dX6_coefficient_76 : decode cX6_coefficient 76 = .ok (.ireturn, 1) := by decide +kernel
set_option maxRecDepth 20000 in
theorem ggX6_valueOf_X6_isTerm : GoodIn wsX6_valueOf wsX6_isTerm := goodIn_r _ [6, 1, 7, 8, 9, 5, 10, 11, 15, 16, 17, 18, 19, 20, 21, 22, 23, 24, 25, 26, 27, 28, 29, 30, 31, 32, 33] (by decide +kernel) (by decide +kernel)
set_option maxRecDepth 20000 in
theorem gX6_valueOf_X6_isTerm : GoodIn wsX6_valueOf (wsV RX6 85 RX6 yX6_isTerm wsX6_isTerm) := goodIn_app (goodIn_of _ (by decide +kernel)) ggX6_valueOf_X6_isTerm
set_option maxRecDepth 20000 in
theorem ggX6_valueOf_X6_of : GoodIn wsX6_valueOf wsX6_of := goodIn_r _ [10, 11, 15, 16, 17, 18, 19, 20, 21, 22, 23, 24, 25, 26, 27, 28, 29, 30, 31, 32, 33] (by decide +kernel) (by decide +kernel)
set_option maxRecDepth 20000 in
theorem gX6_valueOf_X6_of : GoodIn wsX6_valueOf (wsV RX6 71 RX6 yX6_of wsX6_of) := goodIn_app (goodIn_of _ (by decide +kernel)) ggX6_valueOf_X6_of
set_option maxRecDepth 20000 in
theorem ggX6_valueOf_X6_lesser : GoodIn wsX6_valueOf wsX6_lesser := goodIn_r _ [14] (by decide +kernel) (by decide +kernel)
set_option maxRecDepth 20000 in
theorem gX6_valueOf_X6_lesser : GoodIn wsX6_valueOf (va_wsS RX6 89 yX6_lesser wsX6_lesser) := goodIn_app (goodIn_of _ (by decide +kernel)) ggX6_valueOf_X6_lesser
theorem dX6_valueOf_0 : decode cX6_valueOf 0 = .ok (.ldc 62, 2) := by decide +kernel
theorem dX6_valueOf_2 : decode cX6_valueOf 2 = .ok (.istore_n 3, 1) := by decide +kernel
theorem dX6_valueOf_3 : decode cX6_valueOf 3 = .ok (.iconst 0, 1) := by decide +kernel
theorem dX6_valueOf_4 : decode cX6_valueOf 4 = .ok (.istore 4, 2) := by decide +kernel
theorem dX6_valueOf_6 : decode cX6_valueOf 6 = .ok (.iload 4, 2) := by decide +kernel
theorem dX6_valueOf_8 : decode cX6_valueOf 8 = .ok (.bipush 9, 2) := by decide +kernel
theorem dX6_valueOf_10 : decode cX6_valueOf 10 = .ok (.if_icmp .ge 40, 3) := by decide +kernel
theorem dX6_valueOf_13 : decode cX6_valueOf 13 = .ok (.aload_n 0, 1) := by decide +kernel
theorem dX6_valueOf_14 : decode cX6_valueOf 14 = .ok (.iload_n 1, 1) := by decide +kernel
theorem dX6_valueOf_15 : decode cX6_valueOf 15 = .ok (.iload 4, 2) := by decide +kernel
theorem dX6_valueOf_17 : decode cX6_valueOf 17 = .ok (.invokevirtual 85, 3) := by decide +kernel
theorem dX6_valueOf_20 : decode cX6_valueOf 20 = .ok (.ifCond .eq 22, 3) := by decide +kernel
theorem dX6_valueOf_23 : decode cX6_valueOf 23 = .ok (.iload_n 3, 1) := by decide +kernel
theorem dX6_valueOf_24 : decode cX6_valueOf 24 = .ok (.aload_n 0, 1) := by decide +kernel
theorem dX6_valueOf_25 : decode cX6_valueOf 25 = .ok (.iload_n 1, 1) := by decide +kernel
theorem dX6_valueOf_26 : decode cX6_valueOf 26 = .ok (.iload 4, 2) := by decide +kernel
theorem dX6_valueOf_28 : decode cX6_valueOf 28 = .ok (.invokevirtual 71, 3) := by decide +kernel
theorem dX6_valueOf_31 : decode cX6_valueOf 31 = .ok (.iload 4, 2) := by decide +kernel
theorem dX6_valueOf_33 : decode cX6_valueOf 33 = .ok (.iload_n 2, 1) := by decide +kernel
theorem dX6_valueOf_34 : decode cX6_valueOf 34 = .ok (.imul, 1) := by decide +kernel
theorem dX6_valueOf_35 : decode cX6_valueOf 35 = .ok (.iadd, 1) := by decide +kernel
theorem dX6_valueOf_36 : decode cX6_valueOf 36 = .ok (.invokestatic 89, 3) := by decide +kernel
theorem dX6_valueOf_39 : decode cX6_valueOf 39 = .ok (.goto 4, 3) := by decide +kernel
theorem dX6_valueOf_42 : decode cX6_valueOf 42 = .ok (.iload_n 3, 1) := by decide +kernel
theorem dX6_valueOf_43 : decode cX6_valueOf 43 = .ok (.istore_n 3, 1) := by decide +kernel
theorem dX6_valueOf_44 : decode cX6_valueOf 44 = .ok (.iinc 4 1, 3) := by decide +kernel
theorem dX6_valueOf_47 : decode cX6_valueOf 47 = .ok (.goto (-41), 3) := by decide +kernel
theorem dX6_valueOf_50 : decode cX6_valueOf 50 = .ok (.iload_n 3, 1) := by decide +kernel
theorem dX6_valueOf_51 : decode cX6_valueOf 51 = .ok (.ireturn, 1) := by decide +kernel
set_option maxRecDepth 20000 in
theorem ggX6_value_X6_isOne : GoodIn wsX6_value wsX6_isOne := goodIn_r _ [4, 5, 6, 3, 7] (by decide +kernel) (by decide +kernel)
set_option maxRecDepth 20000 in
theorem gX6_value_X6_isOne : GoodIn wsX6_value (va_wsS RX6 75 yX6_isOne wsX6_isOne) := goodIn_app (goodIn_of _ (by decide +kernel)) ggX6_value_X6_isOne
set_option maxRecDepth 20000 in
theorem ggX6_value_X6_isIn : GoodIn wsX6_value wsX6_isIn := goodIn_r _ [7] (by decide +kernel) (by decide +kernel)
set_option maxRecDepth 20000 in
theorem gX6_value_X6_isIn : GoodIn wsX6_value (va_wsS RX6 67 yX6_isIn wsX6_isIn) := goodIn_app (goodIn_of _ (by decide +kernel)) ggX6_value_X6_isIn
set_option maxRecDepth 20000 in
theorem ggX6_value_X6_can : GoodIn wsX6_value wsX6_can := goodIn_r _ [11, 12, 30, 31, 32, 33, 34, 35, 36, 37, 38, 39, 40, 41, 42, 43, 44, 45, 46, 47, 48] (by decide +kernel) (by decide +kernel)
set_option maxRecDepth 20000 in
theorem gX6_value_X6_can : GoodIn wsX6_value (wsV RX6 82 RX6 yX6_can wsX6_can) := goodIn_app (goodIn_of _ (by decide +kernel)) ggX6_value_X6_can
set_option maxRecDepth 20000 in
theorem ggX6_value_X6_valueOf : GoodIn wsX6_value wsX6_valueOf := goodIn_r _ [16, 17, 18, 19, 20, 3, 21, 22, 23, 24, 25, 26, 27, 28, 29, 30, 31, 32, 33, 34, 35, 36, 37, 38, 39, 40, 41, 42, 43, 44, 45, 46, 47, 48] (by decide +kernel) (by decide +kernel)
set_option maxRecDepth 20000 in
theorem gX6_value_X6_valueOf : GoodIn wsX6_value (wsV RX6 92 RX6 yX6_valueOf wsX6_valueOf) := goodIn_app (goodIn_of _ (by decide +kernel)) ggX6_value_X6_valueOf
theorem dX6_value_0 : decode cX6_value 0 = .ok (.aload_n 0, 1) := by decide +kernel
theorem dX6_value_1 : decode cX6_value 1 = .ok (.iload_n 1, 1) := by decide +kernel
theorem dX6_value_2 : decode cX6_value 2 = .ok (.invokestatic 75, 3) := by decide +kernel
theorem dX6_value_5 : decode cX6_value 5 = .ok (.ifCond .ne 7, 3) := by decide +kernel
theorem dX6_value_8 : decode cX6_value 8 = .ok (.iconst 1, 1) := by decide +kernel
theorem dX6_value_9 : decode cX6_value 9 = .ok (.goto 21, 3) := by decide +kernel
theorem dX6_value_12 : decode cX6_value 12 = .ok (.iload_n 2, 1) := by decide +kernel
theorem dX6_value_13 : decode cX6_value 13 = .ok (.sipush (-999), 3) := by decide +kernel
theorem dX6_value_16 : decode cX6_value 16 = .ok (.sipush 999, 3) := by decide +kernel
theorem dX6_value_19 : decode cX6_value 19 = .ok (.invokestatic 67, 3) := by decide +kernel
theorem dX6_value_22 : decode cX6_value 22 = .ok (.ifCond .eq 7, 3) := by decide +kernel
theorem dX6_value_25 : decode cX6_value 25 = .ok (.iconst 0, 1) := by decide +kernel
theorem dX6_value_26 : decode cX6_value 26 = .ok (.goto 4, 3) := by decide +kernel
theorem dX6_value_29 : decode cX6_value 29 = .ok (.iconst 2, 1) := by decide +kernel
theorem dX6_value_30 : decode cX6_value 30 = .ok (.invokevirtual 82, 3) := by decide +kernel
theorem dX6_value_33 : decode cX6_value 33 = .ok (.ifCond .eq 12, 3) := by decide +kernel
theorem dX6_value_36 : decode cX6_value 36 = .ok (.aload_n 0, 1) := by decide +kernel
theorem dX6_value_37 : decode cX6_value 37 = .ok (.iload_n 1, 1) := by decide +kernel
theorem dX6_value_38 : decode cX6_value 38 = .ok (.iload_n 2, 1) := by decide +kernel
theorem dX6_value_39 : decode cX6_value 39 = .ok (.invokevirtual 92, 3) := by decide +kernel
theorem dX6_value_42 : decode cX6_value 42 = .ok (.goto 4, 3) := by decide +kernel
theorem dX6_value_45 : decode cX6_value 45 = .ok (.iconst 0, 1) := by decide +kernel
theorem dX6_value_46 : decode cX6_value 46 = .ok (.ireturn, 1) := by decide +kernel
set_option maxRecDepth 20000 in
theorem ggX6_isOver_X6_of : GoodIn wsX6_isOver wsX6_of := goodIn_r _ [5, 6, 12, 13, 14, 15, 16, 17, 18, 19, 20, 21, 22, 23, 24, 25, 26, 27, 28, 29, 30] (by decide +kernel) (by decide +kernel)
set_option maxRecDepth 20000 in
theorem gX6_isOver_X6_of : GoodIn wsX6_isOver (wsV RX6 71 RX6 yX6_of wsX6_of) := goodIn_app (goodIn_of _ (by decide +kernel)) ggX6_isOver_X6_of
set_option maxRecDepth 20000 in
theorem ggX6_isOver_X6_isTerm : GoodIn wsX6_isOver wsX6_isTerm := goodIn_r _ [10, 11, 1, 2, 3, 4, 5, 6, 12, 13, 14, 15, 16, 17, 18, 19, 20, 21, 22, 23, 24, 25, 26, 27, 28, 29, 30] (by decide +kernel) (by decide +kernel)
set_option maxRecDepth 20000 in
theorem gX6_isOver_X6_isTerm : GoodIn wsX6_isOver (wsV RX6 85 RX6 yX6_isTerm wsX6_isTerm) := goodIn_app (goodIn_of _ (by decide +kernel)) ggX6_isOver_X6_isTerm
theorem dX6_isOver_0 : decode cX6_isOver 0 = .ok (.iconst 0, 1) := by decide +kernel
theorem dX6_isOver_1 : decode cX6_isOver 1 = .ok (.istore_n 3, 1) := by decide +kernel
theorem dX6_isOver_2 : decode cX6_isOver 2 = .ok (.iconst 0, 1) := by decide +kernel
theorem dX6_isOver_3 : decode cX6_isOver 3 = .ok (.istore 4, 2) := by decide +kernel
theorem dX6_isOver_5 : decode cX6_isOver 5 = .ok (.iload 4, 2) := by decide +kernel
theorem dX6_isOver_7 : decode cX6_isOver 7 = .ok (.iload_n 2, 1) := by decide +kernel
theorem dX6_isOver_8 : decode cX6_isOver 8 = .ok (.if_icmp .ge 101, 3) := by decide +kernel
theorem dX6_isOver_11 : decode cX6_isOver 11 = .ok (.iload_n 2, 1) := by decide +kernel
theorem dX6_isOver_12 : decode cX6_isOver 12 = .ok (.iconst 1, 1) := by decide +kernel
theorem dX6_isOver_13 : decode cX6_isOver 13 = .ok (.iadd, 1) := by decide +kernel
theorem dX6_isOver_14 : decode cX6_isOver 14 = .ok (.istore 5, 2) := by decide +kernel
theorem dX6_isOver_16 : decode cX6_isOver 16 = .ok (.iload 5, 2) := by decide +kernel
theorem dX6_isOver_18 : decode cX6_isOver 18 = .ok (.bipush 9, 2) := by decide +kernel
theorem dX6_isOver_20 : decode cX6_isOver 20 = .ok (.if_icmp .ge 83, 3) := by decide +kernel
theorem dX6_isOver_23 : decode cX6_isOver 23 = .ok (.aload_n 0, 1) := by decide +kernel
theorem dX6_isOver_24 : decode cX6_isOver 24 = .ok (.iload_n 1, 1) := by decide +kernel
theorem dX6_isOver_25 : decode cX6_isOver 25 = .ok (.iload 4, 2) := by decide +kernel
theorem dX6_isOver_27 : decode cX6_isOver 27 = .ok (.invokevirtual 71, 3) := by decide +kernel
theorem dX6_isOver_30 : decode cX6_isOver 30 = .ok (.iload 5, 2) := by decide +kernel
theorem dX6_isOver_32 : decode cX6_isOver 32 = .ok (.iload_n 2, 1) := by decide +kernel
theorem dX6_isOver_33 : decode cX6_isOver 33 = .ok (.isub, 1) := by decide +kernel
theorem dX6_isOver_34 : decode cX6_isOver 34 = .ok (.imul, 1) := by decide +kernel
theorem dX6_isOver_35 : decode cX6_isOver 35 = .ok (.aload_n 0, 1) := by decide +kernel
theorem dX6_isOver_36 : decode cX6_isOver 36 = .ok (.iload_n 1, 1) := by decide +kernel
theorem dX6_isOver_37 : decode cX6_isOver 37 = .ok (.iload 5, 2) := by decide +kernel
theorem dX6_isOver_39 : decode cX6_isOver 39 = .ok (.invokevirtual 71, 3) := by decide +kernel
theorem dX6_isOver_42 : decode cX6_isOver 42 = .ok (.iload_n 2, 1) := by decide +kernel
theorem dX6_isOver_43 : decode cX6_isOver 43 = .ok (.iload 4, 2) := by decide +kernel
theorem dX6_isOver_45 : decode cX6_isOver 45 = .ok (.isub, 1) := by decide +kernel
theorem dX6_isOver_46 : decode cX6_isOver 46 = .ok (.imul, 1) := by decide +kernel
theorem dX6_isOver_47 : decode cX6_isOver 47 = .ok (.iadd, 1) := by decide +kernel
theorem dX6_isOver_48 : decode cX6_isOver 48 = .ok (.istore 6, 2) := by decide +kernel
theorem dX6_isOver_50 : decode cX6_isOver 50 = .ok (.iload_n 3, 1) := by decide +kernel
theorem dX6_isOver_51 : decode cX6_isOver 51 = .ok (.ifCond .ne 40, 3) := by decide +kernel
theorem dX6_isOver_54 : decode cX6_isOver 54 = .ok (.aload_n 0, 1) := by decide +kernel
theorem dX6_isOver_55 : decode cX6_isOver 55 = .ok (.iload_n 1, 1) := by decide +kernel
theorem dX6_isOver_56 : decode cX6_isOver 56 = .ok (.iload 4, 2) := by decide +kernel
theorem dX6_isOver_58 : decode cX6_isOver 58 = .ok (.invokevirtual 85, 3) := by decide +kernel
theorem dX6_isOver_61 : decode cX6_isOver 61 = .ok (.ifCond .eq 34, 3) := by decide +kernel
theorem dX6_isOver_64 : decode cX6_isOver 64 = .ok (.aload_n 0, 1) := by decide +kernel
theorem dX6_isOver_65 : decode cX6_isOver 65 = .ok (.iload_n 1, 1) := by decide +kernel
theorem dX6_isOver_66 : decode cX6_isOver 66 = .ok (.iload 5, 2) := by decide +kernel
theorem dX6_isOver_68 : decode cX6_isOver 68 = .ok (.invokevirtual 85, 3) := by decide +kernel
theorem dX6_isOver_71 : decode cX6_isOver 71 = .ok (.ifCond .eq 24, 3) := by decide +kernel
theorem dX6_isOver_74 : decode cX6_isOver 74 = .ok (.aload_n 0, 1) := by decide +kernel
theorem dX6_isOver_75 : decode cX6_isOver 75 = .ok (.iload_n 1, 1) := by decide +kernel
theorem dX6_isOver_76 : decode cX6_isOver 76 = .ok (.iload_n 2, 1) := by decide +kernel
theorem dX6_isOver_77 : decode cX6_isOver 77 = .ok (.invokevirtual 71, 3) := by decide +kernel
theorem dX6_isOver_80 : decode cX6_isOver 80 = .ok (.iload 5, 2) := by decide +kernel
theorem dX6_isOver_82 : decode cX6_isOver 82 = .ok (.iload 4, 2) := by decide +kernel
theorem dX6_isOver_84 : decode cX6_isOver 84 = .ok (.isub, 1) := by decide +kernel
theorem dX6_isOver_85 : decode cX6_isOver 85 = .ok (.imul, 1) := by decide +kernel
theorem dX6_isOver_86 : decode cX6_isOver 86 = .ok (.iload 6, 2) := by decide +kernel
theorem dX6_isOver_88 : decode cX6_isOver 88 = .ok (.if_icmp .lt 7, 3) := by decide +kernel
theorem dX6_isOver_91 : decode cX6_isOver 91 = .ok (.iconst 1, 1) := by decide +kernel
theorem dX6_isOver_92 : decode cX6_isOver 92 = .ok (.goto 4, 3) := by decide +kernel
theorem dX6_isOver_95 : decode cX6_isOver 95 = .ok (.iconst 0, 1) := by decide +kernel
theorem dX6_isOver_96 : decode cX6_isOver 96 = .ok (.istore_n 3, 1) := by decide +kernel
theorem dX6_isOver_97 : decode cX6_isOver 97 = .ok (.iinc 5 1, 3) := by decide +kernel
theorem dX6_isOver_100 : decode cX6_isOver 100 = .ok (.goto (-84), 3) := by decide +kernel
theorem dX6_isOver_103 : decode cX6_isOver 103 = .ok (.iinc 4 1, 3) := by decide +kernel
theorem dX6_isOver_106 : decode cX6_isOver 106 = .ok (.goto (-101), 3) := by decide +kernel
theorem dX6_isOver_109 : decode cX6_isOver 109 = .ok (.iload_n 3, 1) := by decide +kernel
theorem dX6_isOver_110 : decode cX6_isOver 110 = .ok (.ireturn, 1) := by decide +kernel
set_option maxRecDepth 20000 in
theorem ggX6_findsCorners_X6_isTerm : GoodIn wsX6_findsCorners wsX6_isTerm := goodIn_r _ [7, 8, 9, 10, 11, 6, 12, 13, 18, 19, 20, 21, 22, 23, 24, 25, 26, 27, 28, 29, 30, 31, 32, 33, 34, 35, 36] (by decide +kernel) (by decide +kernel)
set_option maxRecDepth 20000 in
theorem gX6_findsCorners_X6_isTerm : GoodIn wsX6_findsCorners (wsV RX6 85 RX6 yX6_isTerm wsX6_isTerm) := goodIn_app (goodIn_of _ (by decide +kernel)) ggX6_findsCorners_X6_isTerm
set_option maxRecDepth 20000 in
theorem ggX6_findsCorners_X6_isOver : GoodIn wsX6_findsCorners wsX6_isOver := goodIn_r _ [17, 9, 10, 11, 6, 12, 13, 3, 4, 5, 7, 8, 18, 19, 20, 21, 22, 23, 24, 25, 26, 27, 28, 29, 30, 31, 32, 33, 34, 35, 36] (by decide +kernel) (by decide +kernel)
set_option maxRecDepth 20000 in
theorem gX6_findsCorners_X6_isOver : GoodIn wsX6_findsCorners (wsV RX6 98 RX6 yX6_isOver wsX6_isOver) := goodIn_app (goodIn_of _ (by decide +kernel)) ggX6_findsCorners_X6_isOver
theorem dX6_findsCorners_0 : decode cX6_findsCorners 0 = .ok (.aload_n 0, 1) := by decide +kernel
theorem dX6_findsCorners_1 : decode cX6_findsCorners 1 = .ok (.iconst 0, 1) := by decide +kernel
theorem dX6_findsCorners_2 : decode cX6_findsCorners 2 = .ok (.putfield 95, 3) := by decide +kernel
theorem dX6_findsCorners_5 : decode cX6_findsCorners 5 = .ok (.iconst 0, 1) := by decide +kernel
theorem dX6_findsCorners_6 : decode cX6_findsCorners 6 = .ok (.istore_n 2, 1) := by decide +kernel
theorem dX6_findsCorners_7 : decode cX6_findsCorners 7 = .ok (.iload_n 2, 1) := by decide +kernel
theorem dX6_findsCorners_8 : decode cX6_findsCorners 8 = .ok (.bipush 9, 2) := by decide +kernel
theorem dX6_findsCorners_10 : decode cX6_findsCorners 10 = .ok (.if_icmp .ge 47, 3) := by decide +kernel
theorem dX6_findsCorners_13 : decode cX6_findsCorners 13 = .ok (.aload_n 0, 1) := by decide +kernel
theorem dX6_findsCorners_14 : decode cX6_findsCorners 14 = .ok (.iload_n 1, 1) := by decide +kernel
theorem dX6_findsCorners_15 : decode cX6_findsCorners 15 = .ok (.iload_n 2, 1) := by decide +kernel
theorem dX6_findsCorners_16 : decode cX6_findsCorners 16 = .ok (.invokevirtual 85, 3) := by decide +kernel
theorem dX6_findsCorners_19 : decode cX6_findsCorners 19 = .ok (.ifCond .eq 32, 3) := by decide +kernel
theorem dX6_findsCorners_22 : decode cX6_findsCorners 22 = .ok (.aload_n 0, 1) := by decide +kernel
theorem dX6_findsCorners_23 : decode cX6_findsCorners 23 = .ok (.iload_n 1, 1) := by decide +kernel
theorem dX6_findsCorners_24 : decode cX6_findsCorners 24 = .ok (.iload_n 2, 1) := by decide +kernel
theorem dX6_findsCorners_25 : decode cX6_findsCorners 25 = .ok (.invokevirtual 98, 3) := by decide +kernel
theorem dX6_findsCorners_28 : decode cX6_findsCorners 28 = .ok (.ifCond .ne 23, 3) := by decide +kernel
theorem dX6_findsCorners_31 : decode cX6_findsCorners 31 = .ok (.aload_n 0, 1) := by decide +kernel
theorem dX6_findsCorners_32 : decode cX6_findsCorners 32 = .ok (.getfield 13, 3) := by decide +kernel
theorem dX6_findsCorners_35 : decode cX6_findsCorners 35 = .ok (.aload_n 0, 1) := by decide +kernel
theorem dX6_findsCorners_36 : decode cX6_findsCorners 36 = .ok (.getfield 95, 3) := by decide +kernel
theorem dX6_findsCorners_39 : decode cX6_findsCorners 39 = .ok (.iload_n 2, 1) := by decide +kernel
theorem dX6_findsCorners_40 : decode cX6_findsCorners 40 = .ok (.iastore, 1) := by decide +kernel
theorem dX6_findsCorners_41 : decode cX6_findsCorners 41 = .ok (.aload_n 0, 1) := by decide +kernel
theorem dX6_findsCorners_42 : decode cX6_findsCorners 42 = .ok (.dup, 1) := by decide +kernel
theorem dX6_findsCorners_43 : decode cX6_findsCorners 43 = .ok (.getfield 95, 3) := by decide +kernel
theorem dX6_findsCorners_46 : decode cX6_findsCorners 46 = .ok (.iconst 1, 1) := by decide +kernel
theorem dX6_findsCorners_47 : decode cX6_findsCorners 47 = .ok (.iadd, 1) := by decide +kernel
theorem dX6_findsCorners_48 : decode cX6_findsCorners 48 = .ok (.putfield 95, 3) := by decide +kernel
theorem dX6_findsCorners_51 : decode cX6_findsCorners 51 = .ok (.iinc 2 1, 3) := by decide +kernel
theorem dX6_findsCorners_54 : decode cX6_findsCorners 54 = .ok (.goto (-47), 3) := by decide +kernel
theorem dX6_findsCorners_57 : decode cX6_findsCorners 57 = .ok (.return_, 1) := by decide +kernel
set_option maxRecDepth 20000 in
theorem ggX6_rootsOf_X6_findsCorners : GoodIn wsX6_rootsOf wsX6_findsCorners := goodIn_r _ [6, 1, 7, 8, 9, 10, 5, 11, 12, 13, 14, 15, 16, 17, 18, 19, 20, 21, 22, 23, 24, 25, 26, 27, 28, 29, 30, 31, 32, 33, 34, 35, 36, 37, 38, 39, 40] (by decide +kernel) (by decide +kernel)
set_option maxRecDepth 20000 in
theorem gX6_rootsOf_X6_findsCorners : GoodIn wsX6_rootsOf (wsV RX6 101 RX6 yX6_findsCorners wsX6_findsCorners) := goodIn_app (goodIn_of _ (by decide +kernel)) ggX6_rootsOf_X6_findsCorners
theorem dX6_rootsOf_0 : decode cX6_rootsOf 0 = .ok (.aload_n 0, 1) := by decide +kernel
theorem dX6_rootsOf_1 : decode cX6_rootsOf 1 = .ok (.iload_n 1, 1) := by decide +kernel
theorem dX6_rootsOf_2 : decode cX6_rootsOf 2 = .ok (.invokevirtual 101, 3) := by decide +kernel
theorem dX6_rootsOf_5 : decode cX6_rootsOf 5 = .ok (.aload_n 0, 1) := by decide +kernel
theorem dX6_rootsOf_6 : decode cX6_rootsOf 6 = .ok (.getfield 95, 3) := by decide +kernel
theorem dX6_rootsOf_9 : decode cX6_rootsOf 9 = .ok (.iconst 2, 1) := by decide +kernel
theorem dX6_rootsOf_10 : decode cX6_rootsOf 10 = .ok (.if_icmp .ge 7, 3) := by decide +kernel
theorem dX6_rootsOf_13 : decode cX6_rootsOf 13 = .ok (.iconst 0, 1) := by decide +kernel
theorem dX6_rootsOf_14 : decode cX6_rootsOf 14 = .ok (.goto 9, 3) := by decide +kernel
theorem dX6_rootsOf_17 : decode cX6_rootsOf 17 = .ok (.aload_n 0, 1) := by decide +kernel
theorem dX6_rootsOf_18 : decode cX6_rootsOf 18 = .ok (.getfield 95, 3) := by decide +kernel
theorem dX6_rootsOf_21 : decode cX6_rootsOf 21 = .ok (.iconst 1, 1) := by decide +kernel
theorem dX6_rootsOf_22 : decode cX6_rootsOf 22 = .ok (.isub, 1) := by decide +kernel
theorem dX6_rootsOf_23 : decode cX6_rootsOf 23 = .ok (.ireturn, 1) := by decide +kernel
set_option maxRecDepth 20000 in
theorem ggX6_roots_X6_isOne : GoodIn wsX6_roots wsX6_isOne := goodIn_r _ [4, 5, 6, 3, 7] (by decide +kernel) (by decide +kernel)
set_option maxRecDepth 20000 in
theorem gX6_roots_X6_isOne : GoodIn wsX6_roots (va_wsS RX6 75 yX6_isOne wsX6_isOne) := goodIn_app (goodIn_of _ (by decide +kernel)) ggX6_roots_X6_isOne
set_option maxRecDepth 20000 in
theorem ggX6_roots_X6_can : GoodIn wsX6_roots wsX6_can := goodIn_r _ [11, 12, 37, 38, 39, 40, 41, 42, 43, 44, 45, 46, 47, 48, 49, 50, 51, 52, 53, 54, 55] (by decide +kernel) (by decide +kernel)
set_option maxRecDepth 20000 in
theorem gX6_roots_X6_can : GoodIn wsX6_roots (wsV RX6 82 RX6 yX6_can wsX6_can) := goodIn_app (goodIn_of _ (by decide +kernel)) ggX6_roots_X6_can
set_option maxRecDepth 20000 in
theorem ggX6_roots_X6_rootsOf : GoodIn wsX6_roots wsX6_rootsOf := goodIn_r _ [16, 17, 18, 19, 20, 3, 21, 22, 23, 24, 25, 26, 27, 28, 29, 30, 31, 32, 33, 34, 35, 36, 37, 38, 39, 40, 41, 42, 43, 44, 45, 46, 47, 48, 49, 50, 51, 52, 53, 54, 55] (by decide +kernel) (by decide +kernel)
set_option maxRecDepth 20000 in
theorem gX6_roots_X6_rootsOf : GoodIn wsX6_roots (wsV RX6 105 RX6 yX6_rootsOf wsX6_rootsOf) := goodIn_app (goodIn_of _ (by decide +kernel)) ggX6_roots_X6_rootsOf
theorem dX6_roots_0 : decode cX6_roots 0 = .ok (.aload_n 0, 1) := by decide +kernel
theorem dX6_roots_1 : decode cX6_roots 1 = .ok (.iload_n 1, 1) := by decide +kernel
theorem dX6_roots_2 : decode cX6_roots 2 = .ok (.invokestatic 75, 3) := by decide +kernel
theorem dX6_roots_5 : decode cX6_roots 5 = .ok (.ifCond .eq 7, 3) := by decide +kernel
theorem dX6_roots_8 : decode cX6_roots 8 = .ok (.iconst 0, 1) := by decide +kernel
theorem dX6_roots_9 : decode cX6_roots 9 = .ok (.goto 4, 3) := by decide +kernel
theorem dX6_roots_12 : decode cX6_roots 12 = .ok (.iconst 1, 1) := by decide +kernel
theorem dX6_roots_13 : decode cX6_roots 13 = .ok (.invokevirtual 82, 3) := by decide +kernel
theorem dX6_roots_16 : decode cX6_roots 16 = .ok (.ifCond .eq 11, 3) := by decide +kernel
theorem dX6_roots_19 : decode cX6_roots 19 = .ok (.aload_n 0, 1) := by decide +kernel
theorem dX6_roots_20 : decode cX6_roots 20 = .ok (.iload_n 1, 1) := by decide +kernel
theorem dX6_roots_21 : decode cX6_roots 21 = .ok (.invokevirtual 105, 3) := by decide +kernel
theorem dX6_roots_24 : decode cX6_roots 24 = .ok (.goto 4, 3) := by decide +kernel
theorem dX6_roots_27 : decode cX6_roots 27 = .ok (.iconst 0, 1) := by decide +kernel
theorem dX6_roots_28 : decode cX6_roots 28 = .ok (.ireturn, 1) := by decide +kernel
set_option maxRecDepth 20000 in
theorem ggX6_root_X6_isOne : GoodIn wsX6_root wsX6_isOne := goodIn_r _ [6, 7, 8, 5, 9] (by decide +kernel) (by decide +kernel)
set_option maxRecDepth 20000 in
theorem gX6_root_X6_isOne : GoodIn wsX6_root (va_wsS RX6 75 yX6_isOne wsX6_isOne) := goodIn_app (goodIn_of _ (by decide +kernel)) ggX6_root_X6_isOne
set_option maxRecDepth 20000 in
theorem ggX6_root_X6_rootsOf : GoodIn wsX6_root wsX6_rootsOf := goodIn_r _ [13, 2, 14, 15, 16, 5, 17, 1, 18, 19, 20, 21, 22, 23, 24, 25, 26, 27, 28, 29, 30, 31, 40, 41, 42, 43, 44, 45, 46, 47, 48, 49, 50, 51, 52, 53, 54, 55, 56, 57, 58] (by decide +kernel) (by decide +kernel)
set_option maxRecDepth 20000 in
theorem gX6_root_X6_rootsOf : GoodIn wsX6_root (wsV RX6 105 RX6 yX6_rootsOf wsX6_rootsOf) := goodIn_app (goodIn_of _ (by decide +kernel)) ggX6_root_X6_rootsOf
set_option maxRecDepth 20000 in
theorem ggX6_root_X6_isIn : GoodIn wsX6_root wsX6_isIn := goodIn_r _ [9] (by decide +kernel) (by decide +kernel)
set_option maxRecDepth 20000 in
theorem gX6_root_X6_isIn : GoodIn wsX6_root (va_wsS RX6 67 yX6_isIn wsX6_isIn) := goodIn_app (goodIn_of _ (by decide +kernel)) ggX6_root_X6_isIn
set_option maxRecDepth 20000 in
theorem ggX6_root_X6_can : GoodIn wsX6_root wsX6_can := goodIn_r _ [35, 36, 40, 41, 42, 43, 44, 45, 46, 47, 48, 49, 50, 51, 52, 53, 54, 55, 56, 57, 58] (by decide +kernel) (by decide +kernel)
set_option maxRecDepth 20000 in
theorem gX6_root_X6_can : GoodIn wsX6_root (wsV RX6 82 RX6 yX6_can wsX6_can) := goodIn_app (goodIn_of _ (by decide +kernel)) ggX6_root_X6_can
set_option maxRecDepth 20000 in
theorem ggX6_root_X6_of : GoodIn wsX6_root wsX6_of := goodIn_r _ [26, 27, 40, 41, 42, 43, 44, 45, 46, 47, 48, 49, 50, 51, 52, 53, 54, 55, 56, 57, 58] (by decide +kernel) (by decide +kernel)
set_option maxRecDepth 20000 in
theorem gX6_root_X6_of : GoodIn wsX6_root (wsV RX6 71 RX6 yX6_of wsX6_of) := goodIn_app (goodIn_of _ (by decide +kernel)) ggX6_root_X6_of
set_option maxRecDepth 20000 in
theorem ggX6_root_X6_common : GoodIn wsX6_root wsX6_common := goodIn_r _ [39] (by decide +kernel) (by decide +kernel)
set_option maxRecDepth 20000 in
theorem gX6_root_X6_common : GoodIn wsX6_root (va_wsS RX6 109 yX6_common wsX6_common) := goodIn_app (goodIn_of _ (by decide +kernel)) ggX6_root_X6_common
theorem dX6_root_0 : decode cX6_root 0 = .ok (.iload_n 1, 1) := by decide +kernel
theorem dX6_root_1 : decode cX6_root 1 = .ok (.invokestatic 75, 3) := by decide +kernel
theorem dX6_root_4 : decode cX6_root 4 = .ok (.ifCond .eq 22, 3) := by decide +kernel
theorem dX6_root_7 : decode cX6_root 7 = .ok (.iload_n 2, 1) := by decide +kernel
theorem dX6_root_8 : decode cX6_root 8 = .ok (.iconst 0, 1) := by decide +kernel
theorem dX6_root_9 : decode cX6_root 9 = .ok (.aload_n 0, 1) := by decide +kernel
theorem dX6_root_10 : decode cX6_root 10 = .ok (.iload_n 1, 1) := by decide +kernel
theorem dX6_root_11 : decode cX6_root 11 = .ok (.invokevirtual 105, 3) := by decide +kernel
theorem dX6_root_14 : decode cX6_root 14 = .ok (.iconst 1, 1) := by decide +kernel
theorem dX6_root_15 : decode cX6_root 15 = .ok (.isub, 1) := by decide +kernel
theorem dX6_root_16 : decode cX6_root 16 = .ok (.invokestatic 67, 3) := by decide +kernel
theorem dX6_root_19 : decode cX6_root 19 = .ok (.ifCond .eq 7, 3) := by decide +kernel
theorem dX6_root_22 : decode cX6_root 22 = .ok (.iconst 1, 1) := by decide +kernel
theorem dX6_root_23 : decode cX6_root 23 = .ok (.goto 4, 3) := by decide +kernel
theorem dX6_root_26 : decode cX6_root 26 = .ok (.iconst 0, 1) := by decide +kernel
theorem dX6_root_27 : decode cX6_root 27 = .ok (.istore 4, 2) := by decide +kernel
theorem dX6_root_29 : decode cX6_root 29 = .ok (.aload_n 0, 1) := by decide +kernel
theorem dX6_root_30 : decode cX6_root 30 = .ok (.iload 4, 2) := by decide +kernel
theorem dX6_root_32 : decode cX6_root 32 = .ok (.ifCond .ne 7, 3) := by decide +kernel
theorem dX6_root_35 : decode cX6_root 35 = .ok (.iconst 1, 1) := by decide +kernel
theorem dX6_root_36 : decode cX6_root 36 = .ok (.goto 17, 3) := by decide +kernel
theorem dX6_root_39 : decode cX6_root 39 = .ok (.iload_n 3, 1) := by decide +kernel
theorem dX6_root_40 : decode cX6_root 40 = .ok (.iconst 0, 1) := by decide +kernel
theorem dX6_root_41 : decode cX6_root 41 = .ok (.iconst 2, 1) := by decide +kernel
theorem dX6_root_42 : decode cX6_root 42 = .ok (.invokestatic 67, 3) := by decide +kernel
theorem dX6_root_45 : decode cX6_root 45 = .ok (.ifCond .eq 7, 3) := by decide +kernel
theorem dX6_root_48 : decode cX6_root 48 = .ok (.iconst 0, 1) := by decide +kernel
theorem dX6_root_49 : decode cX6_root 49 = .ok (.goto 4, 3) := by decide +kernel
theorem dX6_root_52 : decode cX6_root 52 = .ok (.iconst 2, 1) := by decide +kernel
theorem dX6_root_53 : decode cX6_root 53 = .ok (.invokevirtual 82, 3) := by decide +kernel
theorem dX6_root_56 : decode cX6_root 56 = .ok (.ifCond .ne 5, 3) := by decide +kernel
theorem dX6_root_59 : decode cX6_root 59 = .ok (.iconst 0, 1) := by decide +kernel
theorem dX6_root_60 : decode cX6_root 60 = .ok (.ireturn, 1) := by decide +kernel
theorem dX6_root_61 : decode cX6_root 61 = .ok (.aload_n 0, 1) := by decide +kernel
theorem dX6_root_62 : decode cX6_root 62 = .ok (.getfield 13, 3) := by decide +kernel
theorem dX6_root_65 : decode cX6_root 65 = .ok (.aload_n 0, 1) := by decide +kernel
theorem dX6_root_66 : decode cX6_root 66 = .ok (.getfield 95, 3) := by decide +kernel
theorem dX6_root_69 : decode cX6_root 69 = .ok (.iconst 2, 1) := by decide +kernel
theorem dX6_root_70 : decode cX6_root 70 = .ok (.isub, 1) := by decide +kernel
theorem dX6_root_71 : decode cX6_root 71 = .ok (.iload_n 2, 1) := by decide +kernel
theorem dX6_root_72 : decode cX6_root 72 = .ok (.isub, 1) := by decide +kernel
theorem dX6_root_73 : decode cX6_root 73 = .ok (.iaload, 1) := by decide +kernel
theorem dX6_root_74 : decode cX6_root 74 = .ok (.istore 5, 2) := by decide +kernel
theorem dX6_root_76 : decode cX6_root 76 = .ok (.aload_n 0, 1) := by decide +kernel
theorem dX6_root_77 : decode cX6_root 77 = .ok (.getfield 13, 3) := by decide +kernel
theorem dX6_root_80 : decode cX6_root 80 = .ok (.aload_n 0, 1) := by decide +kernel
theorem dX6_root_81 : decode cX6_root 81 = .ok (.getfield 95, 3) := by decide +kernel
theorem dX6_root_84 : decode cX6_root 84 = .ok (.iconst 1, 1) := by decide +kernel
theorem dX6_root_85 : decode cX6_root 85 = .ok (.isub, 1) := by decide +kernel
theorem dX6_root_86 : decode cX6_root 86 = .ok (.iload_n 2, 1) := by decide +kernel
theorem dX6_root_87 : decode cX6_root 87 = .ok (.isub, 1) := by decide +kernel
theorem dX6_root_88 : decode cX6_root 88 = .ok (.iaload, 1) := by decide +kernel
theorem dX6_root_89 : decode cX6_root 89 = .ok (.istore 6, 2) := by decide +kernel
theorem dX6_root_91 : decode cX6_root 91 = .ok (.aload_n 0, 1) := by decide +kernel
theorem dX6_root_92 : decode cX6_root 92 = .ok (.iload_n 1, 1) := by decide +kernel
theorem dX6_root_93 : decode cX6_root 93 = .ok (.iload 5, 2) := by decide +kernel
theorem dX6_root_95 : decode cX6_root 95 = .ok (.invokevirtual 71, 3) := by decide +kernel
theorem dX6_root_98 : decode cX6_root 98 = .ok (.aload_n 0, 1) := by decide +kernel
theorem dX6_root_99 : decode cX6_root 99 = .ok (.iload_n 1, 1) := by decide +kernel
theorem dX6_root_100 : decode cX6_root 100 = .ok (.iload 6, 2) := by decide +kernel
theorem dX6_root_102 : decode cX6_root 102 = .ok (.invokevirtual 71, 3) := by decide +kernel
theorem dX6_root_105 : decode cX6_root 105 = .ok (.isub, 1) := by decide +kernel
theorem dX6_root_106 : decode cX6_root 106 = .ok (.istore 7, 2) := by decide +kernel
theorem dX6_root_108 : decode cX6_root 108 = .ok (.iload 7, 2) := by decide +kernel
theorem dX6_root_110 : decode cX6_root 110 = .ok (.iload 6, 2) := by decide +kernel
theorem dX6_root_112 : decode cX6_root 112 = .ok (.iload 5, 2) := by decide +kernel
theorem dX6_root_114 : decode cX6_root 114 = .ok (.isub, 1) := by decide +kernel
theorem dX6_root_115 : decode cX6_root 115 = .ok (.invokestatic 109, 3) := by decide +kernel
theorem dX6_root_118 : decode cX6_root 118 = .ok (.istore 8, 2) := by decide +kernel
theorem dX6_root_120 : decode cX6_root 120 = .ok (.iload_n 3, 1) := by decide +kernel
theorem dX6_root_121 : decode cX6_root 121 = .ok (.ifCond .ne 11, 3) := by decide +kernel
theorem dX6_root_124 : decode cX6_root 124 = .ok (.iload 7, 2) := by decide +kernel
theorem dX6_root_126 : decode cX6_root 126 = .ok (.iload 8, 2) := by decide +kernel
theorem dX6_root_128 : decode cX6_root 128 = .ok (.idiv, 1) := by decide +kernel
theorem dX6_root_129 : decode cX6_root 129 = .ok (.goto 24, 3) := by decide +kernel
theorem dX6_root_132 : decode cX6_root 132 = .ok (.iload_n 3, 1) := by decide +kernel
theorem dX6_root_133 : decode cX6_root 133 = .ok (.iconst 1, 1) := by decide +kernel
theorem dX6_root_134 : decode cX6_root 134 = .ok (.if_icmp .ne 14, 3) := by decide +kernel
theorem dX6_root_137 : decode cX6_root 137 = .ok (.iload 6, 2) := by decide +kernel
theorem dX6_root_139 : decode cX6_root 139 = .ok (.iload 5, 2) := by decide +kernel
theorem dX6_root_141 : decode cX6_root 141 = .ok (.isub, 1) := by decide +kernel
theorem dX6_root_142 : decode cX6_root 142 = .ok (.iload 8, 2) := by decide +kernel
theorem dX6_root_144 : decode cX6_root 144 = .ok (.idiv, 1) := by decide +kernel
theorem dX6_root_145 : decode cX6_root 145 = .ok (.goto 8, 3) := by decide +kernel
theorem dX6_root_148 : decode cX6_root 148 = .ok (.iload 6, 2) := by decide +kernel
theorem dX6_root_150 : decode cX6_root 150 = .ok (.iload 5, 2) := by decide +kernel
theorem dX6_root_152 : decode cX6_root 152 = .ok (.isub, 1) := by decide +kernel
theorem dX6_root_153 : decode cX6_root 153 = .ok (.ireturn, 1) := by decide +kernel
set_option maxRecDepth 20000 in
theorem ggX6_isSpare_X6_isOne : GoodIn wsX6_isSpare wsX6_isOne := goodIn_r _ [4, 5, 6, 3, 7] (by decide +kernel) (by decide +kernel)
set_option maxRecDepth 20000 in
theorem gX6_isSpare_X6_isOne : GoodIn wsX6_isSpare (va_wsS RX6 75 yX6_isOne wsX6_isOne) := goodIn_app (goodIn_of _ (by decide +kernel)) ggX6_isSpare_X6_isOne
set_option maxRecDepth 20000 in
theorem ggX6_isSpare_X6_isIn : GoodIn wsX6_isSpare wsX6_isIn := goodIn_r _ [7] (by decide +kernel) (by decide +kernel)
set_option maxRecDepth 20000 in
theorem gX6_isSpare_X6_isIn : GoodIn wsX6_isSpare (va_wsS RX6 67 yX6_isIn wsX6_isIn) := goodIn_app (goodIn_of _ (by decide +kernel)) ggX6_isSpare_X6_isIn
set_option maxRecDepth 20000 in
theorem ggX6_isSpare_X6_can : GoodIn wsX6_isSpare wsX6_can := goodIn_r _ [11, 12, 27, 28, 29, 30, 31, 32, 33, 34, 35, 36, 37, 38, 39, 40, 41, 42, 43, 44, 45] (by decide +kernel) (by decide +kernel)
set_option maxRecDepth 20000 in
theorem gX6_isSpare_X6_can : GoodIn wsX6_isSpare (wsV RX6 82 RX6 yX6_can wsX6_can) := goodIn_app (goodIn_of _ (by decide +kernel)) ggX6_isSpare_X6_can
set_option maxRecDepth 20000 in
theorem ggX6_isSpare_X6_isTerm : GoodIn wsX6_isSpare wsX6_isTerm := goodIn_r _ [16, 17, 18, 19, 20, 3, 21, 22, 27, 28, 29, 30, 31, 32, 33, 34, 35, 36, 37, 38, 39, 40, 41, 42, 43, 44, 45] (by decide +kernel) (by decide +kernel)
set_option maxRecDepth 20000 in
theorem gX6_isSpare_X6_isTerm : GoodIn wsX6_isSpare (wsV RX6 85 RX6 yX6_isTerm wsX6_isTerm) := goodIn_app (goodIn_of _ (by decide +kernel)) ggX6_isSpare_X6_isTerm
set_option maxRecDepth 20000 in
theorem ggX6_isSpare_X6_isOver : GoodIn wsX6_isSpare wsX6_isOver := goodIn_r _ [26, 18, 19, 20, 3, 21, 22, 13, 14, 15, 16, 17, 27, 28, 29, 30, 31, 32, 33, 34, 35, 36, 37, 38, 39, 40, 41, 42, 43, 44, 45] (by decide +kernel) (by decide +kernel)
set_option maxRecDepth 20000 in
theorem gX6_isSpare_X6_isOver : GoodIn wsX6_isSpare (wsV RX6 98 RX6 yX6_isOver wsX6_isOver) := goodIn_app (goodIn_of _ (by decide +kernel)) ggX6_isSpare_X6_isOver
theorem dX6_isSpare_0 : decode cX6_isSpare 0 = .ok (.iload_n 1, 1) := by decide +kernel
theorem dX6_isSpare_1 : decode cX6_isSpare 1 = .ok (.invokestatic 75, 3) := by decide +kernel
theorem dX6_isSpare_4 : decode cX6_isSpare 4 = .ok (.ifCond .eq 17, 3) := by decide +kernel
theorem dX6_isSpare_7 : decode cX6_isSpare 7 = .ok (.iload_n 2, 1) := by decide +kernel
theorem dX6_isSpare_8 : decode cX6_isSpare 8 = .ok (.iconst 0, 1) := by decide +kernel
theorem dX6_isSpare_9 : decode cX6_isSpare 9 = .ok (.bipush 8, 2) := by decide +kernel
theorem dX6_isSpare_11 : decode cX6_isSpare 11 = .ok (.invokestatic 67, 3) := by decide +kernel
theorem dX6_isSpare_14 : decode cX6_isSpare 14 = .ok (.ifCond .eq 7, 3) := by decide +kernel
theorem dX6_isSpare_17 : decode cX6_isSpare 17 = .ok (.iconst 1, 1) := by decide +kernel
theorem dX6_isSpare_18 : decode cX6_isSpare 18 = .ok (.goto 4, 3) := by decide +kernel
theorem dX6_isSpare_21 : decode cX6_isSpare 21 = .ok (.iconst 0, 1) := by decide +kernel
theorem dX6_isSpare_22 : decode cX6_isSpare 22 = .ok (.istore_n 3, 1) := by decide +kernel
theorem dX6_isSpare_23 : decode cX6_isSpare 23 = .ok (.aload_n 0, 1) := by decide +kernel
theorem dX6_isSpare_24 : decode cX6_isSpare 24 = .ok (.iload_n 3, 1) := by decide +kernel
theorem dX6_isSpare_25 : decode cX6_isSpare 25 = .ok (.ifCond .eq 7, 3) := by decide +kernel
theorem dX6_isSpare_28 : decode cX6_isSpare 28 = .ok (.iconst 0, 1) := by decide +kernel
theorem dX6_isSpare_29 : decode cX6_isSpare 29 = .ok (.goto 4, 3) := by decide +kernel
theorem dX6_isSpare_32 : decode cX6_isSpare 32 = .ok (.iconst 1, 1) := by decide +kernel
theorem dX6_isSpare_33 : decode cX6_isSpare 33 = .ok (.invokevirtual 82, 3) := by decide +kernel
theorem dX6_isSpare_36 : decode cX6_isSpare 36 = .ok (.ifCond .eq 25, 3) := by decide +kernel
theorem dX6_isSpare_39 : decode cX6_isSpare 39 = .ok (.aload_n 0, 1) := by decide +kernel
theorem dX6_isSpare_40 : decode cX6_isSpare 40 = .ok (.iload_n 1, 1) := by decide +kernel
theorem dX6_isSpare_41 : decode cX6_isSpare 41 = .ok (.iload_n 2, 1) := by decide +kernel
theorem dX6_isSpare_42 : decode cX6_isSpare 42 = .ok (.invokevirtual 85, 3) := by decide +kernel
theorem dX6_isSpare_45 : decode cX6_isSpare 45 = .ok (.ifCond .eq 16, 3) := by decide +kernel
theorem dX6_isSpare_48 : decode cX6_isSpare 48 = .ok (.aload_n 0, 1) := by decide +kernel
theorem dX6_isSpare_49 : decode cX6_isSpare 49 = .ok (.iload_n 1, 1) := by decide +kernel
theorem dX6_isSpare_50 : decode cX6_isSpare 50 = .ok (.iload_n 2, 1) := by decide +kernel
theorem dX6_isSpare_51 : decode cX6_isSpare 51 = .ok (.invokevirtual 98, 3) := by decide +kernel
theorem dX6_isSpare_54 : decode cX6_isSpare 54 = .ok (.ifCond .eq 7, 3) := by decide +kernel
theorem dX6_isSpare_57 : decode cX6_isSpare 57 = .ok (.iconst 1, 1) := by decide +kernel
theorem dX6_isSpare_58 : decode cX6_isSpare 58 = .ok (.goto 4, 3) := by decide +kernel
theorem dX6_isSpare_61 : decode cX6_isSpare 61 = .ok (.iconst 0, 1) := by decide +kernel
theorem dX6_isSpare_62 : decode cX6_isSpare 62 = .ok (.ireturn, 1) := by decide +kernel
set_option maxRecDepth 20000 in
theorem ggX6_isCorner_X6_isTerm : GoodIn wsX6_isCorner wsX6_isTerm := goodIn_r _ [5, 6, 7, 8, 9, 4, 10, 11, 16, 17, 18, 19, 20, 21, 22, 23, 24, 25, 26, 27, 28, 29, 30, 31, 32, 33, 34] (by decide +kernel) (by decide +kernel)
set_option maxRecDepth 20000 in
theorem gX6_isCorner_X6_isTerm : GoodIn wsX6_isCorner (wsV RX6 85 RX6 yX6_isTerm wsX6_isTerm) := goodIn_app (goodIn_of _ (by decide +kernel)) ggX6_isCorner_X6_isTerm
set_option maxRecDepth 20000 in
theorem ggX6_isCorner_X6_isOver : GoodIn wsX6_isCorner wsX6_isOver := goodIn_r _ [15, 7, 8, 9, 4, 10, 11, 1, 2, 3, 5, 6, 16, 17, 18, 19, 20, 21, 22, 23, 24, 25, 26, 27, 28, 29, 30, 31, 32, 33, 34] (by decide +kernel) (by decide +kernel)
set_option maxRecDepth 20000 in
theorem gX6_isCorner_X6_isOver : GoodIn wsX6_isCorner (wsV RX6 98 RX6 yX6_isOver wsX6_isOver) := goodIn_app (goodIn_of _ (by decide +kernel)) ggX6_isCorner_X6_isOver
theorem dX6_isCorner_0 : decode cX6_isCorner 0 = .ok (.aload_n 0, 1) := by decide +kernel
theorem dX6_isCorner_1 : decode cX6_isCorner 1 = .ok (.iload_n 1, 1) := by decide +kernel
theorem dX6_isCorner_2 : decode cX6_isCorner 2 = .ok (.iload_n 2, 1) := by decide +kernel
theorem dX6_isCorner_3 : decode cX6_isCorner 3 = .ok (.invokevirtual 85, 3) := by decide +kernel
theorem dX6_isCorner_6 : decode cX6_isCorner 6 = .ok (.ifCond .eq 16, 3) := by decide +kernel
theorem dX6_isCorner_9 : decode cX6_isCorner 9 = .ok (.aload_n 0, 1) := by decide +kernel
theorem dX6_isCorner_10 : decode cX6_isCorner 10 = .ok (.iload_n 1, 1) := by decide +kernel
theorem dX6_isCorner_11 : decode cX6_isCorner 11 = .ok (.iload_n 2, 1) := by decide +kernel
theorem dX6_isCorner_12 : decode cX6_isCorner 12 = .ok (.invokevirtual 98, 3) := by decide +kernel
theorem dX6_isCorner_15 : decode cX6_isCorner 15 = .ok (.ifCond .ne 7, 3) := by decide +kernel
theorem dX6_isCorner_18 : decode cX6_isCorner 18 = .ok (.iconst 1, 1) := by decide +kernel
theorem dX6_isCorner_19 : decode cX6_isCorner 19 = .ok (.goto 4, 3) := by decide +kernel
theorem dX6_isCorner_22 : decode cX6_isCorner 22 = .ok (.iconst 0, 1) := by decide +kernel
theorem dX6_isCorner_23 : decode cX6_isCorner 23 = .ok (.ireturn, 1) := by decide +kernel
set_option maxRecDepth 20000 in
theorem ggX6_isSame_X6_isCorner : GoodIn wsX6_isSame wsX6_isCorner := goodIn_r _ [5, 6, 7, 8, 4, 9, 10, 11, 12, 13, 14, 15, 16, 17, 18, 19, 20, 21, 22, 23, 24, 25, 26, 27, 28, 29, 30, 31, 32, 33, 34, 35, 36, 37, 38] (by decide +kernel) (by decide +kernel)
set_option maxRecDepth 20000 in
theorem gX6_isSame_X6_isCorner : GoodIn wsX6_isSame (wsV RX6 112 RX6 yX6_isCorner wsX6_isCorner) := goodIn_app (goodIn_of _ (by decide +kernel)) ggX6_isSame_X6_isCorner
set_option maxRecDepth 20000 in
theorem ggX6_isSame_X6_of : GoodIn wsX6_isSame wsX6_of := goodIn_r _ [14, 15, 20, 21, 22, 23, 24, 25, 26, 27, 28, 29, 30, 31, 32, 33, 34, 35, 36, 37, 38] (by decide +kernel) (by decide +kernel)
set_option maxRecDepth 20000 in
theorem gX6_isSame_X6_of : GoodIn wsX6_isSame (wsV RX6 71 RX6 yX6_of wsX6_of) := goodIn_app (goodIn_of _ (by decide +kernel)) ggX6_isSame_X6_of
theorem dX6_isSame_0 : decode cX6_isSame 0 = .ok (.iconst 1, 1) := by decide +kernel
theorem dX6_isSame_1 : decode cX6_isSame 1 = .ok (.istore_n 3, 1) := by decide +kernel
theorem dX6_isSame_2 : decode cX6_isSame 2 = .ok (.iconst 0, 1) := by decide +kernel
theorem dX6_isSame_3 : decode cX6_isSame 3 = .ok (.istore 4, 2) := by decide +kernel
theorem dX6_isSame_5 : decode cX6_isSame 5 = .ok (.iload 4, 2) := by decide +kernel
theorem dX6_isSame_7 : decode cX6_isSame 7 = .ok (.bipush 9, 2) := by decide +kernel
theorem dX6_isSame_9 : decode cX6_isSame 9 = .ok (.if_icmp .ge 62, 3) := by decide +kernel
theorem dX6_isSame_12 : decode cX6_isSame 12 = .ok (.aload_n 0, 1) := by decide +kernel
theorem dX6_isSame_13 : decode cX6_isSame 13 = .ok (.iload_n 1, 1) := by decide +kernel
theorem dX6_isSame_14 : decode cX6_isSame 14 = .ok (.iload 4, 2) := by decide +kernel
theorem dX6_isSame_16 : decode cX6_isSame 16 = .ok (.invokevirtual 112, 3) := by decide +kernel
theorem dX6_isSame_19 : decode cX6_isSame 19 = .ok (.istore 5, 2) := by decide +kernel
theorem dX6_isSame_21 : decode cX6_isSame 21 = .ok (.iload_n 3, 1) := by decide +kernel
theorem dX6_isSame_22 : decode cX6_isSame 22 = .ok (.ifCond .eq 41, 3) := by decide +kernel
theorem dX6_isSame_25 : decode cX6_isSame 25 = .ok (.iload 5, 2) := by decide +kernel
theorem dX6_isSame_27 : decode cX6_isSame 27 = .ok (.aload_n 0, 1) := by decide +kernel
theorem dX6_isSame_28 : decode cX6_isSame 28 = .ok (.iload_n 2, 1) := by decide +kernel
theorem dX6_isSame_29 : decode cX6_isSame 29 = .ok (.iload 4, 2) := by decide +kernel
theorem dX6_isSame_31 : decode cX6_isSame 31 = .ok (.invokevirtual 112, 3) := by decide +kernel
theorem dX6_isSame_34 : decode cX6_isSame 34 = .ok (.if_icmp .ne 29, 3) := by decide +kernel
theorem dX6_isSame_37 : decode cX6_isSame 37 = .ok (.iload 5, 2) := by decide +kernel
theorem dX6_isSame_39 : decode cX6_isSame 39 = .ok (.ifCond .eq 20, 3) := by decide +kernel
theorem dX6_isSame_42 : decode cX6_isSame 42 = .ok (.aload_n 0, 1) := by decide +kernel
theorem dX6_isSame_43 : decode cX6_isSame 43 = .ok (.iload_n 1, 1) := by decide +kernel
theorem dX6_isSame_44 : decode cX6_isSame 44 = .ok (.iload 4, 2) := by decide +kernel
theorem dX6_isSame_46 : decode cX6_isSame 46 = .ok (.invokevirtual 71, 3) := by decide +kernel
theorem dX6_isSame_49 : decode cX6_isSame 49 = .ok (.aload_n 0, 1) := by decide +kernel
theorem dX6_isSame_50 : decode cX6_isSame 50 = .ok (.iload_n 2, 1) := by decide +kernel
theorem dX6_isSame_51 : decode cX6_isSame 51 = .ok (.iload 4, 2) := by decide +kernel
theorem dX6_isSame_53 : decode cX6_isSame 53 = .ok (.invokevirtual 71, 3) := by decide +kernel
theorem dX6_isSame_56 : decode cX6_isSame 56 = .ok (.if_icmp .ne 7, 3) := by decide +kernel
theorem dX6_isSame_59 : decode cX6_isSame 59 = .ok (.iconst 1, 1) := by decide +kernel
theorem dX6_isSame_60 : decode cX6_isSame 60 = .ok (.goto 4, 3) := by decide +kernel
theorem dX6_isSame_63 : decode cX6_isSame 63 = .ok (.iconst 0, 1) := by decide +kernel
theorem dX6_isSame_64 : decode cX6_isSame 64 = .ok (.istore_n 3, 1) := by decide +kernel
theorem dX6_isSame_65 : decode cX6_isSame 65 = .ok (.iinc 4 1, 3) := by decide +kernel
theorem dX6_isSame_68 : decode cX6_isSame 68 = .ok (.goto (-63), 3) := by decide +kernel
theorem dX6_isSame_71 : decode cX6_isSame 71 = .ok (.iload_n 3, 1) := by decide +kernel
theorem dX6_isSame_72 : decode cX6_isSame 72 = .ok (.ireturn, 1) := by decide +kernel
set_option maxRecDepth 20000 in
theorem ggX6_areSame_X6_isOne : GoodIn wsX6_areSame wsX6_isOne := goodIn_r _ [4, 5, 6, 3, 7] (by decide +kernel) (by decide +kernel)
set_option maxRecDepth 20000 in
theorem gX6_areSame_X6_isOne : GoodIn wsX6_areSame (va_wsS RX6 75 yX6_isOne wsX6_isOne) := goodIn_app (goodIn_of _ (by decide +kernel)) ggX6_areSame_X6_isOne
set_option maxRecDepth 20000 in
theorem ggX6_areSame_X6_can : GoodIn wsX6_areSame wsX6_can := goodIn_r _ [11, 12, 35, 36, 37, 38, 39, 40, 41, 42, 43, 44, 45, 46, 47, 48, 49, 50, 51, 52, 53] (by decide +kernel) (by decide +kernel)
set_option maxRecDepth 20000 in
theorem gX6_areSame_X6_can : GoodIn wsX6_areSame (wsV RX6 82 RX6 yX6_can wsX6_can) := goodIn_app (goodIn_of _ (by decide +kernel)) ggX6_areSame_X6_can
set_option maxRecDepth 20000 in
theorem ggX6_areSame_X6_isSame : GoodIn wsX6_areSame wsX6_isSame := goodIn_r _ [16, 17, 18, 19, 3, 20, 21, 22, 23, 24, 25, 26, 27, 28, 29, 30, 31, 32, 33, 34, 35, 36, 37, 38, 39, 40, 41, 42, 43, 44, 45, 46, 47, 48, 49, 50, 51, 52, 53] (by decide +kernel) (by decide +kernel)
set_option maxRecDepth 20000 in
theorem gX6_areSame_X6_isSame : GoodIn wsX6_areSame (wsV RX6 115 RX6 yX6_isSame wsX6_isSame) := goodIn_app (goodIn_of _ (by decide +kernel)) ggX6_areSame_X6_isSame
theorem dX6_areSame_0 : decode cX6_areSame 0 = .ok (.aload_n 0, 1) := by decide +kernel
theorem dX6_areSame_1 : decode cX6_areSame 1 = .ok (.iload_n 1, 1) := by decide +kernel
theorem dX6_areSame_2 : decode cX6_areSame 2 = .ok (.invokestatic 75, 3) := by decide +kernel
theorem dX6_areSame_5 : decode cX6_areSame 5 = .ok (.ifCond .eq 14, 3) := by decide +kernel
theorem dX6_areSame_8 : decode cX6_areSame 8 = .ok (.iload_n 2, 1) := by decide +kernel
theorem dX6_areSame_9 : decode cX6_areSame 9 = .ok (.invokestatic 75, 3) := by decide +kernel
theorem dX6_areSame_12 : decode cX6_areSame 12 = .ok (.ifCond .eq 7, 3) := by decide +kernel
theorem dX6_areSame_15 : decode cX6_areSame 15 = .ok (.iconst 0, 1) := by decide +kernel
theorem dX6_areSame_16 : decode cX6_areSame 16 = .ok (.goto 4, 3) := by decide +kernel
theorem dX6_areSame_19 : decode cX6_areSame 19 = .ok (.iconst 1, 1) := by decide +kernel
theorem dX6_areSame_20 : decode cX6_areSame 20 = .ok (.invokevirtual 82, 3) := by decide +kernel
theorem dX6_areSame_23 : decode cX6_areSame 23 = .ok (.ifCond .eq 16, 3) := by decide +kernel
theorem dX6_areSame_26 : decode cX6_areSame 26 = .ok (.aload_n 0, 1) := by decide +kernel
theorem dX6_areSame_27 : decode cX6_areSame 27 = .ok (.iload_n 1, 1) := by decide +kernel
theorem dX6_areSame_28 : decode cX6_areSame 28 = .ok (.iload_n 2, 1) := by decide +kernel
theorem dX6_areSame_29 : decode cX6_areSame 29 = .ok (.invokevirtual 115, 3) := by decide +kernel
theorem dX6_areSame_32 : decode cX6_areSame 32 = .ok (.ifCond .eq 7, 3) := by decide +kernel
theorem dX6_areSame_35 : decode cX6_areSame 35 = .ok (.iconst 1, 1) := by decide +kernel
theorem dX6_areSame_36 : decode cX6_areSame 36 = .ok (.goto 4, 3) := by decide +kernel
theorem dX6_areSame_39 : decode cX6_areSame 39 = .ok (.iconst 0, 1) := by decide +kernel
theorem dX6_areSame_40 : decode cX6_areSame 40 = .ok (.ireturn, 1) := by decide +kernel
theorem dX6_laysPoly_0 : decode cX6_laysPoly 0 = .ok (.iconst 0, 1) := by decide +kernel
theorem dX6_laysPoly_1 : decode cX6_laysPoly 1 = .ok (.istore_n 2, 1) := by decide +kernel
theorem dX6_laysPoly_2 : decode cX6_laysPoly 2 = .ok (.iconst 0, 1) := by decide +kernel
theorem dX6_laysPoly_3 : decode cX6_laysPoly 3 = .ok (.istore_n 3, 1) := by decide +kernel
theorem dX6_laysPoly_4 : decode cX6_laysPoly 4 = .ok (.iload_n 3, 1) := by decide +kernel
theorem dX6_laysPoly_5 : decode cX6_laysPoly 5 = .ok (.bipush 9, 2) := by decide +kernel
theorem dX6_laysPoly_7 : decode cX6_laysPoly 7 = .ok (.if_icmp .ge 45, 3) := by decide +kernel
theorem dX6_laysPoly_10 : decode cX6_laysPoly 10 = .ok (.aload_n 0, 1) := by decide +kernel
theorem dX6_laysPoly_11 : decode cX6_laysPoly 11 = .ok (.getfield 7, 3) := by decide +kernel
theorem dX6_laysPoly_14 : decode cX6_laysPoly 14 = .ok (.bipush 9, 2) := by decide +kernel
theorem dX6_laysPoly_16 : decode cX6_laysPoly 16 = .ok (.iload_n 1, 1) := by decide +kernel
theorem dX6_laysPoly_17 : decode cX6_laysPoly 17 = .ok (.imul, 1) := by decide +kernel
theorem dX6_laysPoly_18 : decode cX6_laysPoly 18 = .ok (.iload_n 3, 1) := by decide +kernel
theorem dX6_laysPoly_19 : decode cX6_laysPoly 19 = .ok (.iadd, 1) := by decide +kernel
theorem dX6_laysPoly_20 : decode cX6_laysPoly 20 = .ok (.aload_n 0, 1) := by decide +kernel
theorem dX6_laysPoly_21 : decode cX6_laysPoly 21 = .ok (.getfield 16, 3) := by decide +kernel
theorem dX6_laysPoly_24 : decode cX6_laysPoly 24 = .ok (.iload_n 3, 1) := by decide +kernel
theorem dX6_laysPoly_25 : decode cX6_laysPoly 25 = .ok (.iaload, 1) := by decide +kernel
theorem dX6_laysPoly_26 : decode cX6_laysPoly 26 = .ok (.iastore, 1) := by decide +kernel
theorem dX6_laysPoly_27 : decode cX6_laysPoly 27 = .ok (.iload_n 2, 1) := by decide +kernel
theorem dX6_laysPoly_28 : decode cX6_laysPoly 28 = .ok (.aload_n 0, 1) := by decide +kernel
theorem dX6_laysPoly_29 : decode cX6_laysPoly 29 = .ok (.getfield 16, 3) := by decide +kernel
theorem dX6_laysPoly_32 : decode cX6_laysPoly 32 = .ok (.iload_n 3, 1) := by decide +kernel
theorem dX6_laysPoly_33 : decode cX6_laysPoly 33 = .ok (.iaload, 1) := by decide +kernel
theorem dX6_laysPoly_34 : decode cX6_laysPoly 34 = .ok (.ldc 62, 2) := by decide +kernel
theorem dX6_laysPoly_36 : decode cX6_laysPoly 36 = .ok (.if_icmp .ne 7, 3) := by decide +kernel
theorem dX6_laysPoly_39 : decode cX6_laysPoly 39 = .ok (.iconst 0, 1) := by decide +kernel
theorem dX6_laysPoly_40 : decode cX6_laysPoly 40 = .ok (.goto 4, 3) := by decide +kernel
theorem dX6_laysPoly_43 : decode cX6_laysPoly 43 = .ok (.iconst 1, 1) := by decide +kernel
theorem dX6_laysPoly_44 : decode cX6_laysPoly 44 = .ok (.iadd, 1) := by decide +kernel
theorem dX6_laysPoly_45 : decode cX6_laysPoly 45 = .ok (.istore_n 2, 1) := by decide +kernel
theorem dX6_laysPoly_46 : decode cX6_laysPoly 46 = .ok (.iinc 3 1, 3) := by decide +kernel
theorem dX6_laysPoly_49 : decode cX6_laysPoly 49 = .ok (.goto (-45), 3) := by decide +kernel
theorem dX6_laysPoly_52 : decode cX6_laysPoly 52 = .ok (.iload_n 2, 1) := by decide +kernel
theorem dX6_laysPoly_53 : decode cX6_laysPoly 53 = .ok (.ireturn, 1) := by decide +kernel
set_option maxRecDepth 20000 in
theorem ggX6_sum_X6_isOne : GoodIn wsX6_sum wsX6_isOne := goodIn_r _ [5, 6, 7, 4, 8] (by decide +kernel) (by decide +kernel)
set_option maxRecDepth 20000 in
theorem gX6_sum_X6_isOne : GoodIn wsX6_sum (va_wsS RX6 75 yX6_isOne wsX6_isOne) := goodIn_app (goodIn_of _ (by decide +kernel)) ggX6_sum_X6_isOne
set_option maxRecDepth 20000 in
theorem ggX6_sum_X6_can : GoodIn wsX6_sum wsX6_can := goodIn_r _ [12, 13, 27, 28, 29, 30, 31, 32, 33, 34, 35, 36, 37, 38, 39, 40, 41, 42, 43, 44, 45] (by decide +kernel) (by decide +kernel)
set_option maxRecDepth 20000 in
theorem gX6_sum_X6_can : GoodIn wsX6_sum (wsV RX6 82 RX6 yX6_can wsX6_can) := goodIn_app (goodIn_of _ (by decide +kernel)) ggX6_sum_X6_can
set_option maxRecDepth 20000 in
theorem ggX6_sum_X6_of : GoodIn wsX6_sum wsX6_of := goodIn_r _ [17, 18, 27, 28, 29, 30, 31, 32, 33, 34, 35, 36, 37, 38, 39, 40, 41, 42, 43, 44, 45] (by decide +kernel) (by decide +kernel)
set_option maxRecDepth 20000 in
theorem gX6_sum_X6_of : GoodIn wsX6_sum (wsV RX6 71 RX6 yX6_of wsX6_of) := goodIn_app (goodIn_of _ (by decide +kernel)) ggX6_sum_X6_of
set_option maxRecDepth 20000 in
theorem ggX6_sum_X6_lesser : GoodIn wsX6_sum wsX6_lesser := goodIn_r _ [21] (by decide +kernel) (by decide +kernel)
set_option maxRecDepth 20000 in
theorem gX6_sum_X6_lesser : GoodIn wsX6_sum (va_wsS RX6 89 yX6_lesser wsX6_lesser) := goodIn_app (goodIn_of _ (by decide +kernel)) ggX6_sum_X6_lesser
set_option maxRecDepth 20000 in
theorem ggX6_sum_X6_laysPoly : GoodIn wsX6_sum wsX6_laysPoly := goodIn_r _ [25, 18, 1, 26, 27, 28, 29, 30, 31, 32, 33, 34, 35, 36, 37, 38, 39, 40, 41, 42, 43, 44, 45] (by decide +kernel) (by decide +kernel)
set_option maxRecDepth 20000 in
theorem gX6_sum_X6_laysPoly : GoodIn wsX6_sum (wsV RX6 118 RX6 yX6_laysPoly wsX6_laysPoly) := goodIn_app (goodIn_of _ (by decide +kernel)) ggX6_sum_X6_laysPoly
theorem dX6_sum_0 : decode cX6_sum 0 = .ok (.aload_n 0, 1) := by decide +kernel
theorem dX6_sum_1 : decode cX6_sum 1 = .ok (.iload_n 1, 1) := by decide +kernel
theorem dX6_sum_2 : decode cX6_sum 2 = .ok (.invokestatic 75, 3) := by decide +kernel
theorem dX6_sum_5 : decode cX6_sum 5 = .ok (.ifCond .eq 21, 3) := by decide +kernel
theorem dX6_sum_8 : decode cX6_sum 8 = .ok (.iload_n 2, 1) := by decide +kernel
theorem dX6_sum_9 : decode cX6_sum 9 = .ok (.invokestatic 75, 3) := by decide +kernel
theorem dX6_sum_12 : decode cX6_sum 12 = .ok (.ifCond .eq 14, 3) := by decide +kernel
theorem dX6_sum_15 : decode cX6_sum 15 = .ok (.iload_n 3, 1) := by decide +kernel
theorem dX6_sum_16 : decode cX6_sum 16 = .ok (.invokestatic 75, 3) := by decide +kernel
theorem dX6_sum_19 : decode cX6_sum 19 = .ok (.ifCond .eq 7, 3) := by decide +kernel
theorem dX6_sum_22 : decode cX6_sum 22 = .ok (.iconst 0, 1) := by decide +kernel
theorem dX6_sum_23 : decode cX6_sum 23 = .ok (.goto 4, 3) := by decide +kernel
theorem dX6_sum_26 : decode cX6_sum 26 = .ok (.iconst 1, 1) := by decide +kernel
theorem dX6_sum_27 : decode cX6_sum 27 = .ok (.invokevirtual 82, 3) := by decide +kernel
theorem dX6_sum_30 : decode cX6_sum 30 = .ok (.ifCond .ne 5, 3) := by decide +kernel
theorem dX6_sum_33 : decode cX6_sum 33 = .ok (.iconst 0, 1) := by decide +kernel
theorem dX6_sum_34 : decode cX6_sum 34 = .ok (.ireturn, 1) := by decide +kernel
theorem dX6_sum_35 : decode cX6_sum 35 = .ok (.iconst 0, 1) := by decide +kernel
theorem dX6_sum_36 : decode cX6_sum 36 = .ok (.istore 4, 2) := by decide +kernel
theorem dX6_sum_38 : decode cX6_sum 38 = .ok (.iload 4, 2) := by decide +kernel
theorem dX6_sum_40 : decode cX6_sum 40 = .ok (.bipush 9, 2) := by decide +kernel
theorem dX6_sum_42 : decode cX6_sum 42 = .ok (.if_icmp .ge 33, 3) := by decide +kernel
theorem dX6_sum_45 : decode cX6_sum 45 = .ok (.aload_n 0, 1) := by decide +kernel
theorem dX6_sum_46 : decode cX6_sum 46 = .ok (.getfield 16, 3) := by decide +kernel
theorem dX6_sum_49 : decode cX6_sum 49 = .ok (.iload 4, 2) := by decide +kernel
theorem dX6_sum_51 : decode cX6_sum 51 = .ok (.aload_n 0, 1) := by decide +kernel
theorem dX6_sum_52 : decode cX6_sum 52 = .ok (.iload_n 1, 1) := by decide +kernel
theorem dX6_sum_53 : decode cX6_sum 53 = .ok (.iload 4, 2) := by decide +kernel
theorem dX6_sum_55 : decode cX6_sum 55 = .ok (.invokevirtual 71, 3) := by decide +kernel
theorem dX6_sum_58 : decode cX6_sum 58 = .ok (.aload_n 0, 1) := by decide +kernel
theorem dX6_sum_59 : decode cX6_sum 59 = .ok (.iload_n 2, 1) := by decide +kernel
theorem dX6_sum_60 : decode cX6_sum 60 = .ok (.iload 4, 2) := by decide +kernel
theorem dX6_sum_62 : decode cX6_sum 62 = .ok (.invokevirtual 71, 3) := by decide +kernel
theorem dX6_sum_65 : decode cX6_sum 65 = .ok (.invokestatic 89, 3) := by decide +kernel
theorem dX6_sum_68 : decode cX6_sum 68 = .ok (.iastore, 1) := by decide +kernel
theorem dX6_sum_69 : decode cX6_sum 69 = .ok (.iinc 4 1, 3) := by decide +kernel
theorem dX6_sum_72 : decode cX6_sum 72 = .ok (.goto (-34), 3) := by decide +kernel
theorem dX6_sum_75 : decode cX6_sum 75 = .ok (.aload_n 0, 1) := by decide +kernel
theorem dX6_sum_76 : decode cX6_sum 76 = .ok (.iload_n 3, 1) := by decide +kernel
theorem dX6_sum_77 : decode cX6_sum 77 = .ok (.invokevirtual 118, 3) := by decide +kernel
theorem dX6_sum_80 : decode cX6_sum 80 = .ok (.ireturn, 1) := by decide +kernel
set_option maxRecDepth 20000 in
theorem ggX6_multiplies_X6_of : GoodIn wsX6_multiplies wsX6_of := goodIn_r _ [7, 8, 21, 22, 23, 24, 25, 26, 27, 28, 29, 30, 31, 32, 33, 34, 35, 36, 37, 38, 39] (by decide +kernel) (by decide +kernel)
set_option maxRecDepth 20000 in
theorem gX6_multiplies_X6_of : GoodIn wsX6_multiplies (wsV RX6 71 RX6 yX6_of wsX6_of) := goodIn_app (goodIn_of _ (by decide +kernel)) ggX6_multiplies_X6_of
set_option maxRecDepth 20000 in
theorem ggX6_multiplies_X6_plus : GoodIn wsX6_multiplies wsX6_plus := goodIn_r _ [11, 2] (by decide +kernel) (by decide +kernel)
set_option maxRecDepth 20000 in
theorem gX6_multiplies_X6_plus : GoodIn wsX6_multiplies (va_wsS RX6 121 yX6_plus wsX6_plus) := goodIn_app (goodIn_of _ (by decide +kernel)) ggX6_multiplies_X6_plus
set_option maxRecDepth 20000 in
theorem ggX6_multiplies_X6_lesser : GoodIn wsX6_multiplies wsX6_lesser := goodIn_r _ [14] (by decide +kernel) (by decide +kernel)
set_option maxRecDepth 20000 in
theorem gX6_multiplies_X6_lesser : GoodIn wsX6_multiplies (va_wsS RX6 89 yX6_lesser wsX6_lesser) := goodIn_app (goodIn_of _ (by decide +kernel)) ggX6_multiplies_X6_lesser
set_option maxRecDepth 20000 in
theorem ggX6_multiplies_X6_isFar : GoodIn wsX6_multiplies wsX6_isFar := goodIn_r _ [17, 2, 18, 19, 6, 20] (by decide +kernel) (by decide +kernel)
set_option maxRecDepth 20000 in
theorem gX6_multiplies_X6_isFar : GoodIn wsX6_multiplies (va_wsS RX6 124 yX6_isFar wsX6_isFar) := goodIn_app (goodIn_of _ (by decide +kernel)) ggX6_multiplies_X6_isFar
theorem dX6_multiplies_0 : decode cX6_multiplies 0 = .ok (.iconst 0, 1) := by decide +kernel
theorem dX6_multiplies_1 : decode cX6_multiplies 1 = .ok (.istore_n 3, 1) := by decide +kernel
theorem dX6_multiplies_2 : decode cX6_multiplies 2 = .ok (.iload_n 3, 1) := by decide +kernel
theorem dX6_multiplies_3 : decode cX6_multiplies 3 = .ok (.bipush 17, 2) := by decide +kernel
theorem dX6_multiplies_5 : decode cX6_multiplies 5 = .ok (.if_icmp .ge 17, 3) := by decide +kernel
theorem dX6_multiplies_8 : decode cX6_multiplies 8 = .ok (.aload_n 0, 1) := by decide +kernel
theorem dX6_multiplies_9 : decode cX6_multiplies 9 = .ok (.getfield 16, 3) := by decide +kernel
theorem dX6_multiplies_12 : decode cX6_multiplies 12 = .ok (.iload_n 3, 1) := by decide +kernel
theorem dX6_multiplies_13 : decode cX6_multiplies 13 = .ok (.ldc 62, 2) := by decide +kernel
theorem dX6_multiplies_15 : decode cX6_multiplies 15 = .ok (.iastore, 1) := by decide +kernel
theorem dX6_multiplies_16 : decode cX6_multiplies 16 = .ok (.iinc 3 1, 3) := by decide +kernel
theorem dX6_multiplies_19 : decode cX6_multiplies 19 = .ok (.goto (-17), 3) := by decide +kernel
theorem dX6_multiplies_22 : decode cX6_multiplies 22 = .ok (.iconst 0, 1) := by decide +kernel
theorem dX6_multiplies_23 : decode cX6_multiplies 23 = .ok (.istore_n 3, 1) := by decide +kernel
theorem dX6_multiplies_24 : decode cX6_multiplies 24 = .ok (.iload_n 3, 1) := by decide +kernel
theorem dX6_multiplies_25 : decode cX6_multiplies 25 = .ok (.bipush 81, 2) := by decide +kernel
theorem dX6_multiplies_27 : decode cX6_multiplies 27 = .ok (.if_icmp .ge 58, 3) := by decide +kernel
theorem dX6_multiplies_30 : decode cX6_multiplies 30 = .ok (.iload_n 3, 1) := by decide +kernel
theorem dX6_multiplies_31 : decode cX6_multiplies 31 = .ok (.bipush 9, 2) := by decide +kernel
theorem dX6_multiplies_33 : decode cX6_multiplies 33 = .ok (.idiv, 1) := by decide +kernel
theorem dX6_multiplies_34 : decode cX6_multiplies 34 = .ok (.iload_n 3, 1) := by decide +kernel
theorem dX6_multiplies_35 : decode cX6_multiplies 35 = .ok (.bipush 9, 2) := by decide +kernel
theorem dX6_multiplies_37 : decode cX6_multiplies 37 = .ok (.irem, 1) := by decide +kernel
theorem dX6_multiplies_38 : decode cX6_multiplies 38 = .ok (.iadd, 1) := by decide +kernel
theorem dX6_multiplies_39 : decode cX6_multiplies 39 = .ok (.istore 4, 2) := by decide +kernel
theorem dX6_multiplies_41 : decode cX6_multiplies 41 = .ok (.aload_n 0, 1) := by decide +kernel
theorem dX6_multiplies_42 : decode cX6_multiplies 42 = .ok (.getfield 16, 3) := by decide +kernel
theorem dX6_multiplies_45 : decode cX6_multiplies 45 = .ok (.iload 4, 2) := by decide +kernel
theorem dX6_multiplies_47 : decode cX6_multiplies 47 = .ok (.aload_n 0, 1) := by decide +kernel
theorem dX6_multiplies_48 : decode cX6_multiplies 48 = .ok (.getfield 16, 3) := by decide +kernel
theorem dX6_multiplies_51 : decode cX6_multiplies 51 = .ok (.iload 4, 2) := by decide +kernel
theorem dX6_multiplies_53 : decode cX6_multiplies 53 = .ok (.iaload, 1) := by decide +kernel
theorem dX6_multiplies_54 : decode cX6_multiplies 54 = .ok (.aload_n 0, 1) := by decide +kernel
theorem dX6_multiplies_55 : decode cX6_multiplies 55 = .ok (.iload_n 1, 1) := by decide +kernel
theorem dX6_multiplies_56 : decode cX6_multiplies 56 = .ok (.iload_n 3, 1) := by decide +kernel
theorem dX6_multiplies_57 : decode cX6_multiplies 57 = .ok (.bipush 9, 2) := by decide +kernel
theorem dX6_multiplies_59 : decode cX6_multiplies 59 = .ok (.idiv, 1) := by decide +kernel
theorem dX6_multiplies_60 : decode cX6_multiplies 60 = .ok (.invokevirtual 71, 3) := by decide +kernel
theorem dX6_multiplies_63 : decode cX6_multiplies 63 = .ok (.aload_n 0, 1) := by decide +kernel
theorem dX6_multiplies_64 : decode cX6_multiplies 64 = .ok (.iload_n 2, 1) := by decide +kernel
theorem dX6_multiplies_65 : decode cX6_multiplies 65 = .ok (.iload_n 3, 1) := by decide +kernel
theorem dX6_multiplies_66 : decode cX6_multiplies 66 = .ok (.bipush 9, 2) := by decide +kernel
theorem dX6_multiplies_68 : decode cX6_multiplies 68 = .ok (.irem, 1) := by decide +kernel
theorem dX6_multiplies_69 : decode cX6_multiplies 69 = .ok (.invokevirtual 71, 3) := by decide +kernel
theorem dX6_multiplies_72 : decode cX6_multiplies 72 = .ok (.invokestatic 121, 3) := by decide +kernel
theorem dX6_multiplies_75 : decode cX6_multiplies 75 = .ok (.invokestatic 89, 3) := by decide +kernel
theorem dX6_multiplies_78 : decode cX6_multiplies 78 = .ok (.iastore, 1) := by decide +kernel
theorem dX6_multiplies_79 : decode cX6_multiplies 79 = .ok (.iinc 3 1, 3) := by decide +kernel
theorem dX6_multiplies_82 : decode cX6_multiplies 82 = .ok (.goto (-58), 3) := by decide +kernel
theorem dX6_multiplies_85 : decode cX6_multiplies 85 = .ok (.iconst 1, 1) := by decide +kernel
theorem dX6_multiplies_86 : decode cX6_multiplies 86 = .ok (.istore_n 3, 1) := by decide +kernel
theorem dX6_multiplies_87 : decode cX6_multiplies 87 = .ok (.iconst 0, 1) := by decide +kernel
theorem dX6_multiplies_88 : decode cX6_multiplies 88 = .ok (.istore 4, 2) := by decide +kernel
theorem dX6_multiplies_90 : decode cX6_multiplies 90 = .ok (.iload 4, 2) := by decide +kernel
theorem dX6_multiplies_92 : decode cX6_multiplies 92 = .ok (.bipush 17, 2) := by decide +kernel
theorem dX6_multiplies_94 : decode cX6_multiplies 94 = .ok (.if_icmp .ge 57, 3) := by decide +kernel
theorem dX6_multiplies_97 : decode cX6_multiplies 97 = .ok (.iload_n 3, 1) := by decide +kernel
theorem dX6_multiplies_98 : decode cX6_multiplies 98 = .ok (.ifCond .eq 45, 3) := by decide +kernel
theorem dX6_multiplies_101 : decode cX6_multiplies 101 = .ok (.iload 4, 2) := by decide +kernel
theorem dX6_multiplies_103 : decode cX6_multiplies 103 = .ok (.bipush 9, 2) := by decide +kernel
theorem dX6_multiplies_105 : decode cX6_multiplies 105 = .ok (.if_icmp .ge 22, 3) := by decide +kernel
theorem dX6_multiplies_108 : decode cX6_multiplies 108 = .ok (.aload_n 0, 1) := by decide +kernel
theorem dX6_multiplies_109 : decode cX6_multiplies 109 = .ok (.getfield 16, 3) := by decide +kernel
theorem dX6_multiplies_112 : decode cX6_multiplies 112 = .ok (.iload 4, 2) := by decide +kernel
theorem dX6_multiplies_114 : decode cX6_multiplies 114 = .ok (.iaload, 1) := by decide +kernel
theorem dX6_multiplies_115 : decode cX6_multiplies 115 = .ok (.sipush 9999, 3) := by decide +kernel
theorem dX6_multiplies_118 : decode cX6_multiplies 118 = .ok (.invokestatic 124, 3) := by decide +kernel
theorem dX6_multiplies_121 : decode cX6_multiplies 121 = .ok (.ifCond .ne 22, 3) := by decide +kernel
theorem dX6_multiplies_124 : decode cX6_multiplies 124 = .ok (.goto 15, 3) := by decide +kernel
theorem dX6_multiplies_127 : decode cX6_multiplies 127 = .ok (.aload_n 0, 1) := by decide +kernel
theorem dX6_multiplies_128 : decode cX6_multiplies 128 = .ok (.getfield 16, 3) := by decide +kernel
theorem dX6_multiplies_131 : decode cX6_multiplies 131 = .ok (.iload 4, 2) := by decide +kernel
theorem dX6_multiplies_133 : decode cX6_multiplies 133 = .ok (.iaload, 1) := by decide +kernel
theorem dX6_multiplies_134 : decode cX6_multiplies 134 = .ok (.ldc 62, 2) := by decide +kernel
theorem dX6_multiplies_136 : decode cX6_multiplies 136 = .ok (.if_icmp .ne 7, 3) := by decide +kernel
theorem dX6_multiplies_139 : decode cX6_multiplies 139 = .ok (.iconst 1, 1) := by decide +kernel
theorem dX6_multiplies_140 : decode cX6_multiplies 140 = .ok (.goto 4, 3) := by decide +kernel
theorem dX6_multiplies_143 : decode cX6_multiplies 143 = .ok (.iconst 0, 1) := by decide +kernel
theorem dX6_multiplies_144 : decode cX6_multiplies 144 = .ok (.istore_n 3, 1) := by decide +kernel
theorem dX6_multiplies_145 : decode cX6_multiplies 145 = .ok (.iinc 4 1, 3) := by decide +kernel
theorem dX6_multiplies_148 : decode cX6_multiplies 148 = .ok (.goto (-58), 3) := by decide +kernel
theorem dX6_multiplies_151 : decode cX6_multiplies 151 = .ok (.iload_n 3, 1) := by decide +kernel
theorem dX6_multiplies_152 : decode cX6_multiplies 152 = .ok (.ireturn, 1) := by decide +kernel
set_option maxRecDepth 20000 in
theorem ggX6_product_X6_isOne : GoodIn wsX6_product wsX6_isOne := goodIn_r _ [4, 5, 6, 3, 7] (by decide +kernel) (by decide +kernel)
set_option maxRecDepth 20000 in
theorem gX6_product_X6_isOne : GoodIn wsX6_product (va_wsS RX6 75 yX6_isOne wsX6_isOne) := goodIn_app (goodIn_of _ (by decide +kernel)) ggX6_product_X6_isOne
set_option maxRecDepth 20000 in
theorem ggX6_product_X6_multiplies : GoodIn wsX6_product wsX6_multiplies := goodIn_r _ [11, 12, 13, 14, 15, 16, 3, 17, 18, 19, 20, 21, 22, 23, 24, 25, 26, 27, 5, 6, 7, 37, 38, 39, 40, 41, 42, 43, 44, 45, 46, 47, 48, 49, 50, 51, 52, 53, 54, 55] (by decide +kernel) (by decide +kernel)
set_option maxRecDepth 20000 in
theorem gX6_product_X6_multiplies : GoodIn wsX6_product (wsV RX6 127 RX6 yX6_multiplies wsX6_multiplies) := goodIn_app (goodIn_of _ (by decide +kernel)) ggX6_product_X6_multiplies
set_option maxRecDepth 20000 in
theorem ggX6_product_X6_can : GoodIn wsX6_product wsX6_can := goodIn_r _ [31, 32, 37, 38, 39, 40, 41, 42, 43, 44, 45, 46, 47, 48, 49, 50, 51, 52, 53, 54, 55] (by decide +kernel) (by decide +kernel)
set_option maxRecDepth 20000 in
theorem gX6_product_X6_can : GoodIn wsX6_product (wsV RX6 82 RX6 yX6_can wsX6_can) := goodIn_app (goodIn_of _ (by decide +kernel)) ggX6_product_X6_can
set_option maxRecDepth 20000 in
theorem ggX6_product_X6_laysPoly : GoodIn wsX6_product wsX6_laysPoly := goodIn_r _ [36, 18, 12, 13, 37, 38, 39, 40, 41, 42, 43, 44, 45, 46, 47, 48, 49, 50, 51, 52, 53, 54, 55] (by decide +kernel) (by decide +kernel)
set_option maxRecDepth 20000 in
theorem gX6_product_X6_laysPoly : GoodIn wsX6_product (wsV RX6 118 RX6 yX6_laysPoly wsX6_laysPoly) := goodIn_app (goodIn_of _ (by decide +kernel)) ggX6_product_X6_laysPoly
theorem dX6_product_0 : decode cX6_product 0 = .ok (.iload_n 1, 1) := by decide +kernel
theorem dX6_product_1 : decode cX6_product 1 = .ok (.invokestatic 75, 3) := by decide +kernel
theorem dX6_product_4 : decode cX6_product 4 = .ok (.ifCond .eq 21, 3) := by decide +kernel
theorem dX6_product_7 : decode cX6_product 7 = .ok (.iload_n 2, 1) := by decide +kernel
theorem dX6_product_8 : decode cX6_product 8 = .ok (.invokestatic 75, 3) := by decide +kernel
theorem dX6_product_11 : decode cX6_product 11 = .ok (.ifCond .eq 14, 3) := by decide +kernel
theorem dX6_product_14 : decode cX6_product 14 = .ok (.iload_n 3, 1) := by decide +kernel
theorem dX6_product_15 : decode cX6_product 15 = .ok (.invokestatic 75, 3) := by decide +kernel
theorem dX6_product_18 : decode cX6_product 18 = .ok (.ifCond .eq 7, 3) := by decide +kernel
theorem dX6_product_21 : decode cX6_product 21 = .ok (.iconst 1, 1) := by decide +kernel
theorem dX6_product_22 : decode cX6_product 22 = .ok (.goto 4, 3) := by decide +kernel
theorem dX6_product_25 : decode cX6_product 25 = .ok (.iconst 0, 1) := by decide +kernel
theorem dX6_product_26 : decode cX6_product 26 = .ok (.istore 4, 2) := by decide +kernel
theorem dX6_product_28 : decode cX6_product 28 = .ok (.aload_n 0, 1) := by decide +kernel
theorem dX6_product_29 : decode cX6_product 29 = .ok (.iload 4, 2) := by decide +kernel
theorem dX6_product_31 : decode cX6_product 31 = .ok (.ifCond .ne 7, 3) := by decide +kernel
theorem dX6_product_34 : decode cX6_product 34 = .ok (.iconst 1, 1) := by decide +kernel
theorem dX6_product_35 : decode cX6_product 35 = .ok (.goto 17, 3) := by decide +kernel
theorem dX6_product_38 : decode cX6_product 38 = .ok (.aload_n 0, 1) := by decide +kernel
theorem dX6_product_39 : decode cX6_product 39 = .ok (.iload_n 1, 1) := by decide +kernel
theorem dX6_product_40 : decode cX6_product 40 = .ok (.iload_n 2, 1) := by decide +kernel
theorem dX6_product_41 : decode cX6_product 41 = .ok (.invokevirtual 127, 3) := by decide +kernel
theorem dX6_product_44 : decode cX6_product 44 = .ok (.ifCond .eq 7, 3) := by decide +kernel
theorem dX6_product_47 : decode cX6_product 47 = .ok (.iconst 0, 1) := by decide +kernel
theorem dX6_product_48 : decode cX6_product 48 = .ok (.goto 4, 3) := by decide +kernel
theorem dX6_product_51 : decode cX6_product 51 = .ok (.iconst 2, 1) := by decide +kernel
theorem dX6_product_52 : decode cX6_product 52 = .ok (.invokevirtual 82, 3) := by decide +kernel
theorem dX6_product_55 : decode cX6_product 55 = .ok (.ifCond .eq 11, 3) := by decide +kernel
theorem dX6_product_58 : decode cX6_product 58 = .ok (.aload_n 0, 1) := by decide +kernel
theorem dX6_product_59 : decode cX6_product 59 = .ok (.iload_n 3, 1) := by decide +kernel
theorem dX6_product_60 : decode cX6_product 60 = .ok (.invokevirtual 118, 3) := by decide +kernel
theorem dX6_product_63 : decode cX6_product 63 = .ok (.goto 4, 3) := by decide +kernel
theorem dX6_product_66 : decode cX6_product 66 = .ok (.iconst 0, 1) := by decide +kernel
theorem dX6_product_67 : decode cX6_product 67 = .ok (.ireturn, 1) := by decide +kernel
theorem dX6_in_0 : decode cX6_in 0 = .ok (.aload_n 0, 1) := by decide +kernel
theorem dX6_in_1 : decode cX6_in 1 = .ok (.getfield 22, 3) := by decide +kernel
theorem dX6_in_4 : decode cX6_in 4 = .ok (.bipush 25, 2) := by decide +kernel
theorem dX6_in_6 : decode cX6_in 6 = .ok (.iload_n 1, 1) := by decide +kernel
theorem dX6_in_7 : decode cX6_in 7 = .ok (.imul, 1) := by decide +kernel
theorem dX6_in_8 : decode cX6_in 8 = .ok (.iconst 5, 1) := by decide +kernel
theorem dX6_in_9 : decode cX6_in 9 = .ok (.iload_n 2, 1) := by decide +kernel
theorem dX6_in_10 : decode cX6_in 10 = .ok (.imul, 1) := by decide +kernel
theorem dX6_in_11 : decode cX6_in 11 = .ok (.iadd, 1) := by decide +kernel
theorem dX6_in_12 : decode cX6_in 12 = .ok (.iload_n 3, 1) := by decide +kernel
theorem dX6_in_13 : decode cX6_in 13 = .ok (.iadd, 1) := by decide +kernel
theorem dX6_in_14 : decode cX6_in 14 = .ok (.iaload, 1) := by decide +kernel
theorem dX6_in_15 : decode cX6_in 15 = .ok (.ireturn, 1) := by decide +kernel
set_option maxRecDepth 20000 in
theorem ggX6_isPlace_X6_isOne : GoodIn wsX6_isPlace wsX6_isOne := goodIn_r _ [5, 6, 7, 4, 8] (by decide +kernel) (by decide +kernel)
set_option maxRecDepth 20000 in
theorem gX6_isPlace_X6_isOne : GoodIn wsX6_isPlace (va_wsS RX6 75 yX6_isOne wsX6_isOne) := goodIn_app (goodIn_of _ (by decide +kernel)) ggX6_isPlace_X6_isOne
set_option maxRecDepth 20000 in
theorem ggX6_isPlace_X6_isIn : GoodIn wsX6_isPlace wsX6_isIn := goodIn_r _ [8] (by decide +kernel) (by decide +kernel)
set_option maxRecDepth 20000 in
theorem gX6_isPlace_X6_isIn : GoodIn wsX6_isPlace (va_wsS RX6 67 yX6_isIn wsX6_isIn) := goodIn_app (goodIn_of _ (by decide +kernel)) ggX6_isPlace_X6_isIn
theorem dX6_isPlace_0 : decode cX6_isPlace 0 = .ok (.iload_n 1, 1) := by decide +kernel
theorem dX6_isPlace_1 : decode cX6_isPlace 1 = .ok (.invokestatic 75, 3) := by decide +kernel
theorem dX6_isPlace_4 : decode cX6_isPlace 4 = .ok (.ifCond .eq 39, 3) := by decide +kernel
theorem dX6_isPlace_7 : decode cX6_isPlace 7 = .ok (.iload_n 2, 1) := by decide +kernel
theorem dX6_isPlace_8 : decode cX6_isPlace 8 = .ok (.iconst 0, 1) := by decide +kernel
theorem dX6_isPlace_9 : decode cX6_isPlace 9 = .ok (.aload_n 0, 1) := by decide +kernel
theorem dX6_isPlace_10 : decode cX6_isPlace 10 = .ok (.getfield 19, 3) := by decide +kernel
theorem dX6_isPlace_13 : decode cX6_isPlace 13 = .ok (.iload_n 1, 1) := by decide +kernel
theorem dX6_isPlace_14 : decode cX6_isPlace 14 = .ok (.iaload, 1) := by decide +kernel
theorem dX6_isPlace_15 : decode cX6_isPlace 15 = .ok (.iconst 1, 1) := by decide +kernel
theorem dX6_isPlace_16 : decode cX6_isPlace 16 = .ok (.isub, 1) := by decide +kernel
theorem dX6_isPlace_17 : decode cX6_isPlace 17 = .ok (.invokestatic 67, 3) := by decide +kernel
theorem dX6_isPlace_20 : decode cX6_isPlace 20 = .ok (.ifCond .eq 23, 3) := by decide +kernel
theorem dX6_isPlace_23 : decode cX6_isPlace 23 = .ok (.iload_n 3, 1) := by decide +kernel
theorem dX6_isPlace_24 : decode cX6_isPlace 24 = .ok (.iconst 0, 1) := by decide +kernel
theorem dX6_isPlace_25 : decode cX6_isPlace 25 = .ok (.aload_n 0, 1) := by decide +kernel
theorem dX6_isPlace_26 : decode cX6_isPlace 26 = .ok (.getfield 19, 3) := by decide +kernel
theorem dX6_isPlace_29 : decode cX6_isPlace 29 = .ok (.iload_n 1, 1) := by decide +kernel
theorem dX6_isPlace_30 : decode cX6_isPlace 30 = .ok (.iaload, 1) := by decide +kernel
theorem dX6_isPlace_31 : decode cX6_isPlace 31 = .ok (.iconst 1, 1) := by decide +kernel
theorem dX6_isPlace_32 : decode cX6_isPlace 32 = .ok (.isub, 1) := by decide +kernel
theorem dX6_isPlace_33 : decode cX6_isPlace 33 = .ok (.invokestatic 67, 3) := by decide +kernel
theorem dX6_isPlace_36 : decode cX6_isPlace 36 = .ok (.ifCond .eq 7, 3) := by decide +kernel
theorem dX6_isPlace_39 : decode cX6_isPlace 39 = .ok (.iconst 1, 1) := by decide +kernel
theorem dX6_isPlace_40 : decode cX6_isPlace 40 = .ok (.goto 4, 3) := by decide +kernel
theorem dX6_isPlace_43 : decode cX6_isPlace 43 = .ok (.iconst 0, 1) := by decide +kernel
theorem dX6_isPlace_44 : decode cX6_isPlace 44 = .ok (.ireturn, 1) := by decide +kernel
set_option maxRecDepth 20000 in
theorem ggX6_matrix_X6_isOne : GoodIn wsX6_matrix wsX6_isOne := goodIn_r _ [7, 8, 9, 6, 10] (by decide +kernel) (by decide +kernel)
set_option maxRecDepth 20000 in
theorem gX6_matrix_X6_isOne : GoodIn wsX6_matrix (va_wsS RX6 75 yX6_isOne wsX6_isOne) := goodIn_app (goodIn_of _ (by decide +kernel)) ggX6_matrix_X6_isOne
set_option maxRecDepth 20000 in
theorem ggX6_matrix_X6_isIn : GoodIn wsX6_matrix wsX6_isIn := goodIn_r _ [10] (by decide +kernel) (by decide +kernel)
set_option maxRecDepth 20000 in
theorem gX6_matrix_X6_isIn : GoodIn wsX6_matrix (va_wsS RX6 67 yX6_isIn wsX6_isIn) := goodIn_app (goodIn_of _ (by decide +kernel)) ggX6_matrix_X6_isIn
set_option maxRecDepth 20000 in
theorem ggX6_matrix_X6_can : GoodIn wsX6_matrix wsX6_can := goodIn_r _ [14, 15, 16, 17, 18, 19, 20, 21, 22, 23, 24, 25, 26, 27, 28, 29, 30, 31, 32, 33, 34] (by decide +kernel) (by decide +kernel)
set_option maxRecDepth 20000 in
theorem gX6_matrix_X6_can : GoodIn wsX6_matrix (wsV RX6 82 RX6 yX6_can wsX6_can) := goodIn_app (goodIn_of _ (by decide +kernel)) ggX6_matrix_X6_can
theorem dX6_matrix_0 : decode cX6_matrix 0 = .ok (.aload_n 0, 1) := by decide +kernel
theorem dX6_matrix_1 : decode cX6_matrix 1 = .ok (.iload_n 1, 1) := by decide +kernel
theorem dX6_matrix_2 : decode cX6_matrix 2 = .ok (.invokestatic 75, 3) := by decide +kernel
theorem dX6_matrix_5 : decode cX6_matrix 5 = .ok (.ifCond .ne 7, 3) := by decide +kernel
theorem dX6_matrix_8 : decode cX6_matrix 8 = .ok (.iconst 1, 1) := by decide +kernel
theorem dX6_matrix_9 : decode cX6_matrix 9 = .ok (.goto 17, 3) := by decide +kernel
theorem dX6_matrix_12 : decode cX6_matrix 12 = .ok (.iload_n 2, 1) := by decide +kernel
theorem dX6_matrix_13 : decode cX6_matrix 13 = .ok (.iconst 1, 1) := by decide +kernel
theorem dX6_matrix_14 : decode cX6_matrix 14 = .ok (.iconst 5, 1) := by decide +kernel
theorem dX6_matrix_15 : decode cX6_matrix 15 = .ok (.invokestatic 67, 3) := by decide +kernel
theorem dX6_matrix_18 : decode cX6_matrix 18 = .ok (.ifCond .eq 7, 3) := by decide +kernel
theorem dX6_matrix_21 : decode cX6_matrix 21 = .ok (.iconst 0, 1) := by decide +kernel
theorem dX6_matrix_22 : decode cX6_matrix 22 = .ok (.goto 4, 3) := by decide +kernel
theorem dX6_matrix_25 : decode cX6_matrix 25 = .ok (.iconst 2, 1) := by decide +kernel
theorem dX6_matrix_26 : decode cX6_matrix 26 = .ok (.invokevirtual 82, 3) := by decide +kernel
theorem dX6_matrix_29 : decode cX6_matrix 29 = .ok (.ifCond .ne 5, 3) := by decide +kernel
theorem dX6_matrix_32 : decode cX6_matrix 32 = .ok (.iconst 0, 1) := by decide +kernel
theorem dX6_matrix_33 : decode cX6_matrix 33 = .ok (.ireturn, 1) := by decide +kernel
theorem dX6_matrix_34 : decode cX6_matrix 34 = .ok (.aload_n 0, 1) := by decide +kernel
theorem dX6_matrix_35 : decode cX6_matrix 35 = .ok (.getfield 19, 3) := by decide +kernel
theorem dX6_matrix_38 : decode cX6_matrix 38 = .ok (.iload_n 1, 1) := by decide +kernel
theorem dX6_matrix_39 : decode cX6_matrix 39 = .ok (.iaload, 1) := by decide +kernel
theorem dX6_matrix_40 : decode cX6_matrix 40 = .ok (.istore_n 3, 1) := by decide +kernel
theorem dX6_matrix_41 : decode cX6_matrix 41 = .ok (.aload_n 0, 1) := by decide +kernel
theorem dX6_matrix_42 : decode cX6_matrix 42 = .ok (.getfield 19, 3) := by decide +kernel
theorem dX6_matrix_45 : decode cX6_matrix 45 = .ok (.iload_n 1, 1) := by decide +kernel
theorem dX6_matrix_46 : decode cX6_matrix 46 = .ok (.iload_n 2, 1) := by decide +kernel
theorem dX6_matrix_47 : decode cX6_matrix 47 = .ok (.iastore, 1) := by decide +kernel
theorem dX6_matrix_48 : decode cX6_matrix 48 = .ok (.iconst 0, 1) := by decide +kernel
theorem dX6_matrix_49 : decode cX6_matrix 49 = .ok (.istore 4, 2) := by decide +kernel
theorem dX6_matrix_51 : decode cX6_matrix 51 = .ok (.iload 4, 2) := by decide +kernel
theorem dX6_matrix_53 : decode cX6_matrix 53 = .ok (.bipush 25, 2) := by decide +kernel
theorem dX6_matrix_55 : decode cX6_matrix 55 = .ok (.if_icmp .ge 23, 3) := by decide +kernel
theorem dX6_matrix_58 : decode cX6_matrix 58 = .ok (.aload_n 0, 1) := by decide +kernel
theorem dX6_matrix_59 : decode cX6_matrix 59 = .ok (.getfield 22, 3) := by decide +kernel
theorem dX6_matrix_62 : decode cX6_matrix 62 = .ok (.bipush 25, 2) := by decide +kernel
theorem dX6_matrix_64 : decode cX6_matrix 64 = .ok (.iload_n 1, 1) := by decide +kernel
theorem dX6_matrix_65 : decode cX6_matrix 65 = .ok (.imul, 1) := by decide +kernel
theorem dX6_matrix_66 : decode cX6_matrix 66 = .ok (.iload 4, 2) := by decide +kernel
theorem dX6_matrix_68 : decode cX6_matrix 68 = .ok (.iadd, 1) := by decide +kernel
theorem dX6_matrix_69 : decode cX6_matrix 69 = .ok (.ldc 62, 2) := by decide +kernel
theorem dX6_matrix_71 : decode cX6_matrix 71 = .ok (.iastore, 1) := by decide +kernel
theorem dX6_matrix_72 : decode cX6_matrix 72 = .ok (.iinc 4 1, 3) := by decide +kernel
theorem dX6_matrix_75 : decode cX6_matrix 75 = .ok (.goto (-24), 3) := by decide +kernel
theorem dX6_matrix_78 : decode cX6_matrix 78 = .ok (.iload_n 3, 1) := by decide +kernel
theorem dX6_matrix_79 : decode cX6_matrix 79 = .ok (.ireturn, 1) := by decide +kernel
set_option maxRecDepth 20000 in
theorem ggX6_entry_X6_isPlace : GoodIn wsX6_entry wsX6_isPlace := goodIn_r _ [6, 7, 8, 9, 5, 10, 11, 12, 13, 27, 28, 29, 30, 31, 32, 33, 34, 35, 36, 37, 38, 39, 40, 41, 42, 43, 44, 45] (by decide +kernel) (by decide +kernel)
set_option maxRecDepth 20000 in
theorem gX6_entry_X6_isPlace : GoodIn wsX6_entry (wsV RX6 130 RX6 yX6_isPlace wsX6_isPlace) := goodIn_app (goodIn_of _ (by decide +kernel)) ggX6_entry_X6_isPlace
set_option maxRecDepth 20000 in
theorem ggX6_entry_X6_isNumber : GoodIn wsX6_entry wsX6_isNumber := goodIn_r _ [16, 17, 11, 12, 5, 13] (by decide +kernel) (by decide +kernel)
set_option maxRecDepth 20000 in
theorem gX6_entry_X6_isNumber : GoodIn wsX6_entry (va_wsS RX6 79 yX6_isNumber wsX6_isNumber) := goodIn_app (goodIn_of _ (by decide +kernel)) ggX6_entry_X6_isNumber
set_option maxRecDepth 20000 in
theorem ggX6_entry_X6_can : GoodIn wsX6_entry wsX6_can := goodIn_r _ [21, 22, 27, 28, 29, 30, 31, 32, 33, 34, 35, 36, 37, 38, 39, 40, 41, 42, 43, 44, 45] (by decide +kernel) (by decide +kernel)
set_option maxRecDepth 20000 in
theorem gX6_entry_X6_can : GoodIn wsX6_entry (wsV RX6 82 RX6 yX6_can wsX6_can) := goodIn_app (goodIn_of _ (by decide +kernel)) ggX6_entry_X6_can
set_option maxRecDepth 20000 in
theorem ggX6_entry_X6_in : GoodIn wsX6_entry wsX6_in := goodIn_r _ [26, 1, 27, 28, 29, 30, 31, 32, 33, 34, 35, 36, 37, 38, 39, 40, 41, 42, 43, 44, 45] (by decide +kernel) (by decide +kernel)
set_option maxRecDepth 20000 in
theorem gX6_entry_X6_in : GoodIn wsX6_entry (wsV RX6 133 RX6 yX6_in wsX6_in) := goodIn_app (goodIn_of _ (by decide +kernel)) ggX6_entry_X6_in
theorem dX6_entry_0 : decode cX6_entry 0 = .ok (.aload_n 0, 1) := by decide +kernel
theorem dX6_entry_1 : decode cX6_entry 1 = .ok (.aload_n 0, 1) := by decide +kernel
theorem dX6_entry_2 : decode cX6_entry 2 = .ok (.iload_n 1, 1) := by decide +kernel
theorem dX6_entry_3 : decode cX6_entry 3 = .ok (.iload_n 2, 1) := by decide +kernel
theorem dX6_entry_4 : decode cX6_entry 4 = .ok (.iload_n 3, 1) := by decide +kernel
theorem dX6_entry_5 : decode cX6_entry 5 = .ok (.invokevirtual 130, 3) := by decide +kernel
theorem dX6_entry_8 : decode cX6_entry 8 = .ok (.ifCond .ne 7, 3) := by decide +kernel
theorem dX6_entry_11 : decode cX6_entry 11 = .ok (.iconst 1, 1) := by decide +kernel
theorem dX6_entry_12 : decode cX6_entry 12 = .ok (.goto 16, 3) := by decide +kernel
theorem dX6_entry_15 : decode cX6_entry 15 = .ok (.iload 4, 2) := by decide +kernel
theorem dX6_entry_17 : decode cX6_entry 17 = .ok (.invokestatic 79, 3) := by decide +kernel
theorem dX6_entry_20 : decode cX6_entry 20 = .ok (.ifCond .eq 7, 3) := by decide +kernel
theorem dX6_entry_23 : decode cX6_entry 23 = .ok (.iconst 0, 1) := by decide +kernel
theorem dX6_entry_24 : decode cX6_entry 24 = .ok (.goto 4, 3) := by decide +kernel
theorem dX6_entry_27 : decode cX6_entry 27 = .ok (.iconst 2, 1) := by decide +kernel
theorem dX6_entry_28 : decode cX6_entry 28 = .ok (.invokevirtual 82, 3) := by decide +kernel
theorem dX6_entry_31 : decode cX6_entry 31 = .ok (.ifCond .ne 5, 3) := by decide +kernel
theorem dX6_entry_34 : decode cX6_entry 34 = .ok (.iconst 0, 1) := by decide +kernel
theorem dX6_entry_35 : decode cX6_entry 35 = .ok (.ireturn, 1) := by decide +kernel
theorem dX6_entry_36 : decode cX6_entry 36 = .ok (.aload_n 0, 1) := by decide +kernel
theorem dX6_entry_37 : decode cX6_entry 37 = .ok (.iload_n 1, 1) := by decide +kernel
theorem dX6_entry_38 : decode cX6_entry 38 = .ok (.iload_n 2, 1) := by decide +kernel
theorem dX6_entry_39 : decode cX6_entry 39 = .ok (.iload_n 3, 1) := by decide +kernel
theorem dX6_entry_40 : decode cX6_entry 40 = .ok (.invokevirtual 133, 3) := by decide +kernel
theorem dX6_entry_43 : decode cX6_entry 43 = .ok (.istore 5, 2) := by decide +kernel
theorem dX6_entry_45 : decode cX6_entry 45 = .ok (.aload_n 0, 1) := by decide +kernel
theorem dX6_entry_46 : decode cX6_entry 46 = .ok (.getfield 22, 3) := by decide +kernel
theorem dX6_entry_49 : decode cX6_entry 49 = .ok (.bipush 25, 2) := by decide +kernel
theorem dX6_entry_51 : decode cX6_entry 51 = .ok (.iload_n 1, 1) := by decide +kernel
theorem dX6_entry_52 : decode cX6_entry 52 = .ok (.imul, 1) := by decide +kernel
theorem dX6_entry_53 : decode cX6_entry 53 = .ok (.iconst 5, 1) := by decide +kernel
theorem dX6_entry_54 : decode cX6_entry 54 = .ok (.iload_n 2, 1) := by decide +kernel
theorem dX6_entry_55 : decode cX6_entry 55 = .ok (.imul, 1) := by decide +kernel
theorem dX6_entry_56 : decode cX6_entry 56 = .ok (.iadd, 1) := by decide +kernel
theorem dX6_entry_57 : decode cX6_entry 57 = .ok (.iload_n 3, 1) := by decide +kernel
theorem dX6_entry_58 : decode cX6_entry 58 = .ok (.iadd, 1) := by decide +kernel
theorem dX6_entry_59 : decode cX6_entry 59 = .ok (.iload 4, 2) := by decide +kernel
theorem dX6_entry_61 : decode cX6_entry 61 = .ok (.iastore, 1) := by decide +kernel
theorem dX6_entry_62 : decode cX6_entry 62 = .ok (.iload 5, 2) := by decide +kernel
theorem dX6_entry_64 : decode cX6_entry 64 = .ok (.ireturn, 1) := by decide +kernel
set_option maxRecDepth 20000 in
theorem ggX6_at_X6_isPlace : GoodIn wsX6_at wsX6_isPlace := goodIn_r _ [5, 6, 7, 8, 4, 9, 10, 11, 12, 23, 24, 25, 26, 27, 28, 29, 30, 31, 32, 33, 34, 35, 36, 37, 38, 39, 40, 41] (by decide +kernel) (by decide +kernel)
set_option maxRecDepth 20000 in
theorem gX6_at_X6_isPlace : GoodIn wsX6_at (wsV RX6 130 RX6 yX6_isPlace wsX6_isPlace) := goodIn_app (goodIn_of _ (by decide +kernel)) ggX6_at_X6_isPlace
set_option maxRecDepth 20000 in
theorem ggX6_at_X6_can : GoodIn wsX6_at wsX6_can := goodIn_r _ [16, 17, 23, 24, 25, 26, 27, 28, 29, 30, 31, 32, 33, 34, 35, 36, 37, 38, 39, 40, 41] (by decide +kernel) (by decide +kernel)
set_option maxRecDepth 20000 in
theorem gX6_at_X6_can : GoodIn wsX6_at (wsV RX6 82 RX6 yX6_can wsX6_can) := goodIn_app (goodIn_of _ (by decide +kernel)) ggX6_at_X6_can
set_option maxRecDepth 20000 in
theorem ggX6_at_X6_in : GoodIn wsX6_at wsX6_in := goodIn_r _ [21, 22, 23, 24, 25, 26, 27, 28, 29, 30, 31, 32, 33, 34, 35, 36, 37, 38, 39, 40, 41] (by decide +kernel) (by decide +kernel)
set_option maxRecDepth 20000 in
theorem gX6_at_X6_in : GoodIn wsX6_at (wsV RX6 133 RX6 yX6_in wsX6_in) := goodIn_app (goodIn_of _ (by decide +kernel)) ggX6_at_X6_in
theorem dX6_at_0 : decode cX6_at 0 = .ok (.aload_n 0, 1) := by decide +kernel
theorem dX6_at_1 : decode cX6_at 1 = .ok (.aload_n 0, 1) := by decide +kernel
theorem dX6_at_2 : decode cX6_at 2 = .ok (.iload_n 1, 1) := by decide +kernel
theorem dX6_at_3 : decode cX6_at 3 = .ok (.iload_n 2, 1) := by decide +kernel
theorem dX6_at_4 : decode cX6_at 4 = .ok (.iload_n 3, 1) := by decide +kernel
theorem dX6_at_5 : decode cX6_at 5 = .ok (.invokevirtual 130, 3) := by decide +kernel
theorem dX6_at_8 : decode cX6_at 8 = .ok (.ifCond .eq 7, 3) := by decide +kernel
theorem dX6_at_11 : decode cX6_at 11 = .ok (.iconst 0, 1) := by decide +kernel
theorem dX6_at_12 : decode cX6_at 12 = .ok (.goto 4, 3) := by decide +kernel
theorem dX6_at_15 : decode cX6_at 15 = .ok (.iconst 1, 1) := by decide +kernel
theorem dX6_at_16 : decode cX6_at 16 = .ok (.invokevirtual 82, 3) := by decide +kernel
theorem dX6_at_19 : decode cX6_at 19 = .ok (.ifCond .eq 13, 3) := by decide +kernel
theorem dX6_at_22 : decode cX6_at 22 = .ok (.aload_n 0, 1) := by decide +kernel
theorem dX6_at_23 : decode cX6_at 23 = .ok (.iload_n 1, 1) := by decide +kernel
theorem dX6_at_24 : decode cX6_at 24 = .ok (.iload_n 2, 1) := by decide +kernel
theorem dX6_at_25 : decode cX6_at 25 = .ok (.iload_n 3, 1) := by decide +kernel
theorem dX6_at_26 : decode cX6_at 26 = .ok (.invokevirtual 133, 3) := by decide +kernel
theorem dX6_at_29 : decode cX6_at 29 = .ok (.goto 4, 3) := by decide +kernel
theorem dX6_at_32 : decode cX6_at 32 = .ok (.iconst 0, 1) := by decide +kernel
theorem dX6_at_33 : decode cX6_at 33 = .ok (.ireturn, 1) := by decide +kernel
set_option maxRecDepth 20000 in
theorem ggX6_isPart_X6_isOne : GoodIn wsX6_isPart wsX6_isOne := goodIn_r _ [4, 5, 6, 3, 7] (by decide +kernel) (by decide +kernel)
set_option maxRecDepth 20000 in
theorem gX6_isPart_X6_isOne : GoodIn wsX6_isPart (va_wsS RX6 75 yX6_isOne wsX6_isOne) := goodIn_app (goodIn_of _ (by decide +kernel)) ggX6_isPart_X6_isOne
set_option maxRecDepth 20000 in
theorem ggX6_isPart_X6_isIn : GoodIn wsX6_isPart wsX6_isIn := goodIn_r _ [7] (by decide +kernel) (by decide +kernel)
set_option maxRecDepth 20000 in
theorem gX6_isPart_X6_isIn : GoodIn wsX6_isPart (va_wsS RX6 67 yX6_isIn wsX6_isIn) := goodIn_app (goodIn_of _ (by decide +kernel)) ggX6_isPart_X6_isIn
theorem dX6_isPart_0 : decode cX6_isPart 0 = .ok (.iload_n 0, 1) := by decide +kernel
theorem dX6_isPart_1 : decode cX6_isPart 1 = .ok (.invokestatic 75, 3) := by decide +kernel
theorem dX6_isPart_4 : decode cX6_isPart 4 = .ok (.ifCond .eq 16, 3) := by decide +kernel
theorem dX6_isPart_7 : decode cX6_isPart 7 = .ok (.iload_n 1, 1) := by decide +kernel
theorem dX6_isPart_8 : decode cX6_isPart 8 = .ok (.iconst 0, 1) := by decide +kernel
theorem dX6_isPart_9 : decode cX6_isPart 9 = .ok (.iconst 4, 1) := by decide +kernel
theorem dX6_isPart_10 : decode cX6_isPart 10 = .ok (.invokestatic 67, 3) := by decide +kernel
theorem dX6_isPart_13 : decode cX6_isPart 13 = .ok (.ifCond .eq 7, 3) := by decide +kernel
theorem dX6_isPart_16 : decode cX6_isPart 16 = .ok (.iconst 1, 1) := by decide +kernel
theorem dX6_isPart_17 : decode cX6_isPart 17 = .ok (.goto 4, 3) := by decide +kernel
theorem dX6_isPart_20 : decode cX6_isPart 20 = .ok (.iconst 0, 1) := by decide +kernel
theorem dX6_isPart_21 : decode cX6_isPart 21 = .ok (.ireturn, 1) := by decide +kernel
set_option maxRecDepth 20000 in
theorem ggX6_part_X6_isPart : GoodIn wsX6_part wsX6_isPart := goodIn_r _ [5, 6, 7, 4, 8, 9, 10, 11] (by decide +kernel) (by decide +kernel)
set_option maxRecDepth 20000 in
theorem gX6_part_X6_isPart : GoodIn wsX6_part (va_wsS RX6 137 yX6_isPart wsX6_isPart) := goodIn_app (goodIn_of _ (by decide +kernel)) ggX6_part_X6_isPart
set_option maxRecDepth 20000 in
theorem ggX6_part_X6_isNumber : GoodIn wsX6_part wsX6_isNumber := goodIn_r _ [14, 15, 9, 10, 4, 11] (by decide +kernel) (by decide +kernel)
set_option maxRecDepth 20000 in
theorem gX6_part_X6_isNumber : GoodIn wsX6_part (va_wsS RX6 79 yX6_isNumber wsX6_isNumber) := goodIn_app (goodIn_of _ (by decide +kernel)) ggX6_part_X6_isNumber
set_option maxRecDepth 20000 in
theorem ggX6_part_X6_can : GoodIn wsX6_part wsX6_can := goodIn_r _ [19, 20, 21, 22, 23, 24, 25, 26, 27, 28, 29, 30, 31, 32, 33, 34, 35, 36, 37, 38, 39] (by decide +kernel) (by decide +kernel)
set_option maxRecDepth 20000 in
theorem gX6_part_X6_can : GoodIn wsX6_part (wsV RX6 82 RX6 yX6_can wsX6_can) := goodIn_app (goodIn_of _ (by decide +kernel)) ggX6_part_X6_can
theorem dX6_part_0 : decode cX6_part 0 = .ok (.aload_n 0, 1) := by decide +kernel
theorem dX6_part_1 : decode cX6_part 1 = .ok (.iload_n 1, 1) := by decide +kernel
theorem dX6_part_2 : decode cX6_part 2 = .ok (.iload_n 2, 1) := by decide +kernel
theorem dX6_part_3 : decode cX6_part 3 = .ok (.invokestatic 137, 3) := by decide +kernel
theorem dX6_part_6 : decode cX6_part 6 = .ok (.ifCond .ne 7, 3) := by decide +kernel
theorem dX6_part_9 : decode cX6_part 9 = .ok (.iconst 1, 1) := by decide +kernel
theorem dX6_part_10 : decode cX6_part 10 = .ok (.goto 15, 3) := by decide +kernel
theorem dX6_part_13 : decode cX6_part 13 = .ok (.iload_n 3, 1) := by decide +kernel
theorem dX6_part_14 : decode cX6_part 14 = .ok (.invokestatic 79, 3) := by decide +kernel
theorem dX6_part_17 : decode cX6_part 17 = .ok (.ifCond .eq 7, 3) := by decide +kernel
theorem dX6_part_20 : decode cX6_part 20 = .ok (.iconst 0, 1) := by decide +kernel
theorem dX6_part_21 : decode cX6_part 21 = .ok (.goto 4, 3) := by decide +kernel
theorem dX6_part_24 : decode cX6_part 24 = .ok (.iconst 2, 1) := by decide +kernel
theorem dX6_part_25 : decode cX6_part 25 = .ok (.invokevirtual 82, 3) := by decide +kernel
theorem dX6_part_28 : decode cX6_part 28 = .ok (.ifCond .ne 5, 3) := by decide +kernel
theorem dX6_part_31 : decode cX6_part 31 = .ok (.iconst 0, 1) := by decide +kernel
theorem dX6_part_32 : decode cX6_part 32 = .ok (.ireturn, 1) := by decide +kernel
theorem dX6_part_33 : decode cX6_part 33 = .ok (.aload_n 0, 1) := by decide +kernel
theorem dX6_part_34 : decode cX6_part 34 = .ok (.getfield 34, 3) := by decide +kernel
theorem dX6_part_37 : decode cX6_part 37 = .ok (.iconst 5, 1) := by decide +kernel
theorem dX6_part_38 : decode cX6_part 38 = .ok (.iload_n 1, 1) := by decide +kernel
theorem dX6_part_39 : decode cX6_part 39 = .ok (.imul, 1) := by decide +kernel
theorem dX6_part_40 : decode cX6_part 40 = .ok (.iload_n 2, 1) := by decide +kernel
theorem dX6_part_41 : decode cX6_part 41 = .ok (.iadd, 1) := by decide +kernel
theorem dX6_part_42 : decode cX6_part 42 = .ok (.iaload, 1) := by decide +kernel
theorem dX6_part_43 : decode cX6_part 43 = .ok (.istore 4, 2) := by decide +kernel
theorem dX6_part_45 : decode cX6_part 45 = .ok (.aload_n 0, 1) := by decide +kernel
theorem dX6_part_46 : decode cX6_part 46 = .ok (.getfield 34, 3) := by decide +kernel
theorem dX6_part_49 : decode cX6_part 49 = .ok (.iconst 5, 1) := by decide +kernel
theorem dX6_part_50 : decode cX6_part 50 = .ok (.iload_n 1, 1) := by decide +kernel
theorem dX6_part_51 : decode cX6_part 51 = .ok (.imul, 1) := by decide +kernel
theorem dX6_part_52 : decode cX6_part 52 = .ok (.iload_n 2, 1) := by decide +kernel
theorem dX6_part_53 : decode cX6_part 53 = .ok (.iadd, 1) := by decide +kernel
theorem dX6_part_54 : decode cX6_part 54 = .ok (.iload_n 3, 1) := by decide +kernel
theorem dX6_part_55 : decode cX6_part 55 = .ok (.iastore, 1) := by decide +kernel
theorem dX6_part_56 : decode cX6_part 56 = .ok (.iload 4, 2) := by decide +kernel
theorem dX6_part_58 : decode cX6_part 58 = .ok (.ireturn, 1) := by decide +kernel
set_option maxRecDepth 20000 in
theorem ggX6_partAt_X6_isPart : GoodIn wsX6_partAt wsX6_isPart := goodIn_r _ [5, 6, 7, 4, 8, 9, 10, 11] (by decide +kernel) (by decide +kernel)
set_option maxRecDepth 20000 in
theorem gX6_partAt_X6_isPart : GoodIn wsX6_partAt (va_wsS RX6 137 yX6_isPart wsX6_isPart) := goodIn_app (goodIn_of _ (by decide +kernel)) ggX6_partAt_X6_isPart
set_option maxRecDepth 20000 in
theorem ggX6_partAt_X6_can : GoodIn wsX6_partAt wsX6_can := goodIn_r _ [15, 16, 17, 18, 19, 20, 21, 22, 23, 24, 25, 26, 27, 28, 29, 30, 31, 32, 33, 34, 35] (by decide +kernel) (by decide +kernel)
set_option maxRecDepth 20000 in
theorem gX6_partAt_X6_can : GoodIn wsX6_partAt (wsV RX6 82 RX6 yX6_can wsX6_can) := goodIn_app (goodIn_of _ (by decide +kernel)) ggX6_partAt_X6_can
theorem dX6_partAt_0 : decode cX6_partAt 0 = .ok (.aload_n 0, 1) := by decide +kernel
theorem dX6_partAt_1 : decode cX6_partAt 1 = .ok (.iload_n 1, 1) := by decide +kernel
theorem dX6_partAt_2 : decode cX6_partAt 2 = .ok (.iload_n 2, 1) := by decide +kernel
theorem dX6_partAt_3 : decode cX6_partAt 3 = .ok (.invokestatic 137, 3) := by decide +kernel
theorem dX6_partAt_6 : decode cX6_partAt 6 = .ok (.ifCond .eq 7, 3) := by decide +kernel
theorem dX6_partAt_9 : decode cX6_partAt 9 = .ok (.iconst 0, 1) := by decide +kernel
theorem dX6_partAt_10 : decode cX6_partAt 10 = .ok (.goto 4, 3) := by decide +kernel
theorem dX6_partAt_13 : decode cX6_partAt 13 = .ok (.iconst 1, 1) := by decide +kernel
theorem dX6_partAt_14 : decode cX6_partAt 14 = .ok (.invokevirtual 82, 3) := by decide +kernel
theorem dX6_partAt_17 : decode cX6_partAt 17 = .ok (.ifCond .eq 16, 3) := by decide +kernel
theorem dX6_partAt_20 : decode cX6_partAt 20 = .ok (.aload_n 0, 1) := by decide +kernel
theorem dX6_partAt_21 : decode cX6_partAt 21 = .ok (.getfield 34, 3) := by decide +kernel
theorem dX6_partAt_24 : decode cX6_partAt 24 = .ok (.iconst 5, 1) := by decide +kernel
theorem dX6_partAt_25 : decode cX6_partAt 25 = .ok (.iload_n 1, 1) := by decide +kernel
theorem dX6_partAt_26 : decode cX6_partAt 26 = .ok (.imul, 1) := by decide +kernel
theorem dX6_partAt_27 : decode cX6_partAt 27 = .ok (.iload_n 2, 1) := by decide +kernel
theorem dX6_partAt_28 : decode cX6_partAt 28 = .ok (.iadd, 1) := by decide +kernel
theorem dX6_partAt_29 : decode cX6_partAt 29 = .ok (.iaload, 1) := by decide +kernel
theorem dX6_partAt_30 : decode cX6_partAt 30 = .ok (.goto 4, 3) := by decide +kernel
theorem dX6_partAt_33 : decode cX6_partAt 33 = .ok (.iconst 0, 1) := by decide +kernel
theorem dX6_partAt_34 : decode cX6_partAt 34 = .ok (.ireturn, 1) := by decide +kernel
set_option maxRecDepth 20000 in
theorem ggX6_composes_X6_plus : GoodIn wsX6_composes wsX6_plus := goodIn_r _ [8, 1] (by decide +kernel) (by decide +kernel)
