set_option maxRecDepth 20000 in
theorem gX6_composes_X6_plus : GoodIn wsX6_composes (va_wsS RX6 121 yX6_plus wsX6_plus) := goodIn_app (goodIn_of _ (by decide +kernel)) ggX6_composes_X6_plus
set_option maxRecDepth 20000 in
theorem ggX6_composes_X6_lesser : GoodIn wsX6_composes wsX6_lesser := goodIn_r _ [11] (by decide +kernel) (by decide +kernel)
set_option maxRecDepth 20000 in
theorem gX6_composes_X6_lesser : GoodIn wsX6_composes (va_wsS RX6 89 yX6_lesser wsX6_lesser) := goodIn_app (goodIn_of _ (by decide +kernel)) ggX6_composes_X6_lesser
theorem dX6_composes_0 : decode cX6_composes 0 = .ok (.iconst 0, 1) := by decide +kernel
theorem dX6_composes_1 : decode cX6_composes 1 = .ok (.istore_n 2, 1) := by decide +kernel
theorem dX6_composes_2 : decode cX6_composes 2 = .ok (.iload_n 2, 1) := by decide +kernel
theorem dX6_composes_3 : decode cX6_composes 3 = .ok (.bipush 25, 2) := by decide +kernel
theorem dX6_composes_5 : decode cX6_composes 5 = .ok (.if_icmp .ge 87, 3) := by decide +kernel
theorem dX6_composes_8 : decode cX6_composes 8 = .ok (.ldc 62, 2) := by decide +kernel
theorem dX6_composes_10 : decode cX6_composes 10 = .ok (.istore_n 3, 1) := by decide +kernel
theorem dX6_composes_11 : decode cX6_composes 11 = .ok (.iconst 0, 1) := by decide +kernel
theorem dX6_composes_12 : decode cX6_composes 12 = .ok (.istore 4, 2) := by decide +kernel
theorem dX6_composes_14 : decode cX6_composes 14 = .ok (.iload 4, 2) := by decide +kernel
theorem dX6_composes_16 : decode cX6_composes 16 = .ok (.iload_n 1, 1) := by decide +kernel
theorem dX6_composes_17 : decode cX6_composes 17 = .ok (.if_icmp .ge 43, 3) := by decide +kernel
theorem dX6_composes_20 : decode cX6_composes 20 = .ok (.iload_n 3, 1) := by decide +kernel
theorem dX6_composes_21 : decode cX6_composes 21 = .ok (.aload_n 0, 1) := by decide +kernel
theorem dX6_composes_22 : decode cX6_composes 22 = .ok (.getfield 25, 3) := by decide +kernel
theorem dX6_composes_25 : decode cX6_composes 25 = .ok (.iload_n 2, 1) := by decide +kernel
theorem dX6_composes_26 : decode cX6_composes 26 = .ok (.iconst 5, 1) := by decide +kernel
theorem dX6_composes_27 : decode cX6_composes 27 = .ok (.idiv, 1) := by decide +kernel
theorem dX6_composes_28 : decode cX6_composes 28 = .ok (.iconst 5, 1) := by decide +kernel
theorem dX6_composes_29 : decode cX6_composes 29 = .ok (.imul, 1) := by decide +kernel
theorem dX6_composes_30 : decode cX6_composes 30 = .ok (.iload 4, 2) := by decide +kernel
theorem dX6_composes_32 : decode cX6_composes 32 = .ok (.iadd, 1) := by decide +kernel
theorem dX6_composes_33 : decode cX6_composes 33 = .ok (.iaload, 1) := by decide +kernel
theorem dX6_composes_34 : decode cX6_composes 34 = .ok (.aload_n 0, 1) := by decide +kernel
theorem dX6_composes_35 : decode cX6_composes 35 = .ok (.getfield 28, 3) := by decide +kernel
theorem dX6_composes_38 : decode cX6_composes 38 = .ok (.iconst 5, 1) := by decide +kernel
theorem dX6_composes_39 : decode cX6_composes 39 = .ok (.iload 4, 2) := by decide +kernel
theorem dX6_composes_41 : decode cX6_composes 41 = .ok (.imul, 1) := by decide +kernel
theorem dX6_composes_42 : decode cX6_composes 42 = .ok (.iload_n 2, 1) := by decide +kernel
theorem dX6_composes_43 : decode cX6_composes 43 = .ok (.iconst 5, 1) := by decide +kernel
theorem dX6_composes_44 : decode cX6_composes 44 = .ok (.irem, 1) := by decide +kernel
theorem dX6_composes_45 : decode cX6_composes 45 = .ok (.iadd, 1) := by decide +kernel
theorem dX6_composes_46 : decode cX6_composes 46 = .ok (.iaload, 1) := by decide +kernel
theorem dX6_composes_47 : decode cX6_composes 47 = .ok (.invokestatic 121, 3) := by decide +kernel
theorem dX6_composes_50 : decode cX6_composes 50 = .ok (.invokestatic 89, 3) := by decide +kernel
theorem dX6_composes_53 : decode cX6_composes 53 = .ok (.istore_n 3, 1) := by decide +kernel
theorem dX6_composes_54 : decode cX6_composes 54 = .ok (.iinc 4 1, 3) := by decide +kernel
theorem dX6_composes_57 : decode cX6_composes 57 = .ok (.goto (-43), 3) := by decide +kernel
theorem dX6_composes_60 : decode cX6_composes 60 = .ok (.aload_n 0, 1) := by decide +kernel
theorem dX6_composes_61 : decode cX6_composes 61 = .ok (.getfield 31, 3) := by decide +kernel
theorem dX6_composes_64 : decode cX6_composes 64 = .ok (.iload_n 2, 1) := by decide +kernel
theorem dX6_composes_65 : decode cX6_composes 65 = .ok (.iload_n 2, 1) := by decide +kernel
theorem dX6_composes_66 : decode cX6_composes 66 = .ok (.iconst 5, 1) := by decide +kernel
theorem dX6_composes_67 : decode cX6_composes 67 = .ok (.idiv, 1) := by decide +kernel
theorem dX6_composes_68 : decode cX6_composes 68 = .ok (.iload_n 1, 1) := by decide +kernel
theorem dX6_composes_69 : decode cX6_composes 69 = .ok (.if_icmp .ge 14, 3) := by decide +kernel
theorem dX6_composes_72 : decode cX6_composes 72 = .ok (.iload_n 2, 1) := by decide +kernel
theorem dX6_composes_73 : decode cX6_composes 73 = .ok (.iconst 5, 1) := by decide +kernel
theorem dX6_composes_74 : decode cX6_composes 74 = .ok (.irem, 1) := by decide +kernel
theorem dX6_composes_75 : decode cX6_composes 75 = .ok (.iload_n 1, 1) := by decide +kernel
theorem dX6_composes_76 : decode cX6_composes 76 = .ok (.if_icmp .ge 7, 3) := by decide +kernel
theorem dX6_composes_79 : decode cX6_composes 79 = .ok (.iload_n 3, 1) := by decide +kernel
theorem dX6_composes_80 : decode cX6_composes 80 = .ok (.goto 5, 3) := by decide +kernel
theorem dX6_composes_83 : decode cX6_composes 83 = .ok (.ldc 62, 2) := by decide +kernel
theorem dX6_composes_85 : decode cX6_composes 85 = .ok (.iastore, 1) := by decide +kernel
theorem dX6_composes_86 : decode cX6_composes 86 = .ok (.iinc 2 1, 3) := by decide +kernel
theorem dX6_composes_89 : decode cX6_composes 89 = .ok (.goto (-87), 3) := by decide +kernel
theorem dX6_composes_92 : decode cX6_composes 92 = .ok (.return_, 1) := by decide +kernel
theorem dX6_loads_0 : decode cX6_loads 0 = .ok (.iconst 0, 1) := by decide +kernel
theorem dX6_loads_1 : decode cX6_loads 1 = .ok (.istore_n 3, 1) := by decide +kernel
theorem dX6_loads_2 : decode cX6_loads 2 = .ok (.iload_n 3, 1) := by decide +kernel
theorem dX6_loads_3 : decode cX6_loads 3 = .ok (.bipush 25, 2) := by decide +kernel
theorem dX6_loads_5 : decode cX6_loads 5 = .ok (.if_icmp .ge 43, 3) := by decide +kernel
theorem dX6_loads_8 : decode cX6_loads 8 = .ok (.aload_n 0, 1) := by decide +kernel
theorem dX6_loads_9 : decode cX6_loads 9 = .ok (.getfield 25, 3) := by decide +kernel
theorem dX6_loads_12 : decode cX6_loads 12 = .ok (.iload_n 3, 1) := by decide +kernel
theorem dX6_loads_13 : decode cX6_loads 13 = .ok (.aload_n 0, 1) := by decide +kernel
theorem dX6_loads_14 : decode cX6_loads 14 = .ok (.getfield 22, 3) := by decide +kernel
theorem dX6_loads_17 : decode cX6_loads 17 = .ok (.bipush 25, 2) := by decide +kernel
theorem dX6_loads_19 : decode cX6_loads 19 = .ok (.iload_n 1, 1) := by decide +kernel
theorem dX6_loads_20 : decode cX6_loads 20 = .ok (.imul, 1) := by decide +kernel
theorem dX6_loads_21 : decode cX6_loads 21 = .ok (.iload_n 3, 1) := by decide +kernel
theorem dX6_loads_22 : decode cX6_loads 22 = .ok (.iadd, 1) := by decide +kernel
theorem dX6_loads_23 : decode cX6_loads 23 = .ok (.iaload, 1) := by decide +kernel
theorem dX6_loads_24 : decode cX6_loads 24 = .ok (.iastore, 1) := by decide +kernel
theorem dX6_loads_25 : decode cX6_loads 25 = .ok (.aload_n 0, 1) := by decide +kernel
theorem dX6_loads_26 : decode cX6_loads 26 = .ok (.getfield 28, 3) := by decide +kernel
theorem dX6_loads_29 : decode cX6_loads 29 = .ok (.iload_n 3, 1) := by decide +kernel
theorem dX6_loads_30 : decode cX6_loads 30 = .ok (.aload_n 0, 1) := by decide +kernel
theorem dX6_loads_31 : decode cX6_loads 31 = .ok (.getfield 22, 3) := by decide +kernel
theorem dX6_loads_34 : decode cX6_loads 34 = .ok (.bipush 25, 2) := by decide +kernel
theorem dX6_loads_36 : decode cX6_loads 36 = .ok (.iload_n 2, 1) := by decide +kernel
theorem dX6_loads_37 : decode cX6_loads 37 = .ok (.imul, 1) := by decide +kernel
theorem dX6_loads_38 : decode cX6_loads 38 = .ok (.iload_n 3, 1) := by decide +kernel
theorem dX6_loads_39 : decode cX6_loads 39 = .ok (.iadd, 1) := by decide +kernel
theorem dX6_loads_40 : decode cX6_loads 40 = .ok (.iaload, 1) := by decide +kernel
theorem dX6_loads_41 : decode cX6_loads 41 = .ok (.iastore, 1) := by decide +kernel
theorem dX6_loads_42 : decode cX6_loads 42 = .ok (.iinc 3 1, 3) := by decide +kernel
theorem dX6_loads_45 : decode cX6_loads 45 = .ok (.goto (-43), 3) := by decide +kernel
theorem dX6_loads_48 : decode cX6_loads 48 = .ok (.return_, 1) := by decide +kernel
set_option maxRecDepth 20000 in
theorem ggX6_isOutNear_X6_isFar : GoodIn wsX6_isOutNear wsX6_isFar := goodIn_r _ [6, 7, 8, 9, 5, 10] (by decide +kernel) (by decide +kernel)
set_option maxRecDepth 20000 in
theorem gX6_isOutNear_X6_isFar : GoodIn wsX6_isOutNear (va_wsS RX6 124 yX6_isFar wsX6_isFar) := goodIn_app (goodIn_of _ (by decide +kernel)) ggX6_isOutNear_X6_isFar
theorem dX6_isOutNear_0 : decode cX6_isOutNear 0 = .ok (.iconst 1, 1) := by decide +kernel
theorem dX6_isOutNear_1 : decode cX6_isOutNear 1 = .ok (.istore_n 1, 1) := by decide +kernel
theorem dX6_isOutNear_2 : decode cX6_isOutNear 2 = .ok (.iconst 0, 1) := by decide +kernel
theorem dX6_isOutNear_3 : decode cX6_isOutNear 3 = .ok (.istore_n 2, 1) := by decide +kernel
theorem dX6_isOutNear_4 : decode cX6_isOutNear 4 = .ok (.iload_n 2, 1) := by decide +kernel
theorem dX6_isOutNear_5 : decode cX6_isOutNear 5 = .ok (.bipush 25, 2) := by decide +kernel
theorem dX6_isOutNear_7 : decode cX6_isOutNear 7 = .ok (.if_icmp .ge 33, 3) := by decide +kernel
theorem dX6_isOutNear_10 : decode cX6_isOutNear 10 = .ok (.iload_n 1, 1) := by decide +kernel
theorem dX6_isOutNear_11 : decode cX6_isOutNear 11 = .ok (.ifCond .eq 21, 3) := by decide +kernel
theorem dX6_isOutNear_14 : decode cX6_isOutNear 14 = .ok (.aload_n 0, 1) := by decide +kernel
theorem dX6_isOutNear_15 : decode cX6_isOutNear 15 = .ok (.getfield 31, 3) := by decide +kernel
theorem dX6_isOutNear_18 : decode cX6_isOutNear 18 = .ok (.iload_n 2, 1) := by decide +kernel
theorem dX6_isOutNear_19 : decode cX6_isOutNear 19 = .ok (.iaload, 1) := by decide +kernel
theorem dX6_isOutNear_20 : decode cX6_isOutNear 20 = .ok (.ldc 140, 2) := by decide +kernel
theorem dX6_isOutNear_22 : decode cX6_isOutNear 22 = .ok (.invokestatic 124, 3) := by decide +kernel
theorem dX6_isOutNear_25 : decode cX6_isOutNear 25 = .ok (.ifCond .ne 7, 3) := by decide +kernel
theorem dX6_isOutNear_28 : decode cX6_isOutNear 28 = .ok (.iconst 1, 1) := by decide +kernel
theorem dX6_isOutNear_29 : decode cX6_isOutNear 29 = .ok (.goto 4, 3) := by decide +kernel
theorem dX6_isOutNear_32 : decode cX6_isOutNear 32 = .ok (.iconst 0, 1) := by decide +kernel
theorem dX6_isOutNear_33 : decode cX6_isOutNear 33 = .ok (.istore_n 1, 1) := by decide +kernel
theorem dX6_isOutNear_34 : decode cX6_isOutNear 34 = .ok (.iinc 2 1, 3) := by decide +kernel
theorem dX6_isOutNear_37 : decode cX6_isOutNear 37 = .ok (.goto (-33), 3) := by decide +kernel
theorem dX6_isOutNear_40 : decode cX6_isOutNear 40 = .ok (.iload_n 1, 1) := by decide +kernel
theorem dX6_isOutNear_41 : decode cX6_isOutNear 41 = .ok (.ireturn, 1) := by decide +kernel
theorem dX6_laysOut_0 : decode cX6_laysOut 0 = .ok (.iconst 0, 1) := by decide +kernel
theorem dX6_laysOut_1 : decode cX6_laysOut 1 = .ok (.istore_n 3, 1) := by decide +kernel
theorem dX6_laysOut_2 : decode cX6_laysOut 2 = .ok (.aload_n 0, 1) := by decide +kernel
theorem dX6_laysOut_3 : decode cX6_laysOut 3 = .ok (.getfield 19, 3) := by decide +kernel
theorem dX6_laysOut_6 : decode cX6_laysOut 6 = .ok (.iload_n 1, 1) := by decide +kernel
theorem dX6_laysOut_7 : decode cX6_laysOut 7 = .ok (.iload_n 2, 1) := by decide +kernel
theorem dX6_laysOut_8 : decode cX6_laysOut 8 = .ok (.iastore, 1) := by decide +kernel
theorem dX6_laysOut_9 : decode cX6_laysOut 9 = .ok (.iconst 0, 1) := by decide +kernel
theorem dX6_laysOut_10 : decode cX6_laysOut 10 = .ok (.istore 4, 2) := by decide +kernel
theorem dX6_laysOut_12 : decode cX6_laysOut 12 = .ok (.iload 4, 2) := by decide +kernel
theorem dX6_laysOut_14 : decode cX6_laysOut 14 = .ok (.bipush 25, 2) := by decide +kernel
theorem dX6_laysOut_16 : decode cX6_laysOut 16 = .ok (.if_icmp .ge 48, 3) := by decide +kernel
theorem dX6_laysOut_19 : decode cX6_laysOut 19 = .ok (.aload_n 0, 1) := by decide +kernel
theorem dX6_laysOut_20 : decode cX6_laysOut 20 = .ok (.getfield 22, 3) := by decide +kernel
theorem dX6_laysOut_23 : decode cX6_laysOut 23 = .ok (.bipush 25, 2) := by decide +kernel
theorem dX6_laysOut_25 : decode cX6_laysOut 25 = .ok (.iload_n 1, 1) := by decide +kernel
theorem dX6_laysOut_26 : decode cX6_laysOut 26 = .ok (.imul, 1) := by decide +kernel
theorem dX6_laysOut_27 : decode cX6_laysOut 27 = .ok (.iload 4, 2) := by decide +kernel
theorem dX6_laysOut_29 : decode cX6_laysOut 29 = .ok (.iadd, 1) := by decide +kernel
theorem dX6_laysOut_30 : decode cX6_laysOut 30 = .ok (.aload_n 0, 1) := by decide +kernel
theorem dX6_laysOut_31 : decode cX6_laysOut 31 = .ok (.getfield 31, 3) := by decide +kernel
theorem dX6_laysOut_34 : decode cX6_laysOut 34 = .ok (.iload 4, 2) := by decide +kernel
theorem dX6_laysOut_36 : decode cX6_laysOut 36 = .ok (.iaload, 1) := by decide +kernel
theorem dX6_laysOut_37 : decode cX6_laysOut 37 = .ok (.iastore, 1) := by decide +kernel
theorem dX6_laysOut_38 : decode cX6_laysOut 38 = .ok (.iload_n 3, 1) := by decide +kernel
theorem dX6_laysOut_39 : decode cX6_laysOut 39 = .ok (.aload_n 0, 1) := by decide +kernel
theorem dX6_laysOut_40 : decode cX6_laysOut 40 = .ok (.getfield 31, 3) := by decide +kernel
theorem dX6_laysOut_43 : decode cX6_laysOut 43 = .ok (.iload 4, 2) := by decide +kernel
theorem dX6_laysOut_45 : decode cX6_laysOut 45 = .ok (.iaload, 1) := by decide +kernel
theorem dX6_laysOut_46 : decode cX6_laysOut 46 = .ok (.ldc 62, 2) := by decide +kernel
theorem dX6_laysOut_48 : decode cX6_laysOut 48 = .ok (.if_icmp .ne 7, 3) := by decide +kernel
theorem dX6_laysOut_51 : decode cX6_laysOut 51 = .ok (.iconst 0, 1) := by decide +kernel
theorem dX6_laysOut_52 : decode cX6_laysOut 52 = .ok (.goto 4, 3) := by decide +kernel
theorem dX6_laysOut_55 : decode cX6_laysOut 55 = .ok (.iconst 1, 1) := by decide +kernel
theorem dX6_laysOut_56 : decode cX6_laysOut 56 = .ok (.iadd, 1) := by decide +kernel
theorem dX6_laysOut_57 : decode cX6_laysOut 57 = .ok (.istore_n 3, 1) := by decide +kernel
theorem dX6_laysOut_58 : decode cX6_laysOut 58 = .ok (.iinc 4 1, 3) := by decide +kernel
theorem dX6_laysOut_61 : decode cX6_laysOut 61 = .ok (.goto (-49), 3) := by decide +kernel
theorem dX6_laysOut_64 : decode cX6_laysOut 64 = .ok (.iload_n 3, 1) := by decide +kernel
theorem dX6_laysOut_65 : decode cX6_laysOut 65 = .ok (.ireturn, 1) := by decide +kernel
set_option maxRecDepth 20000 in
theorem ggX6_canMultiply_X6_loads : GoodIn wsX6_canMultiply wsX6_loads := goodIn_r _ [6, 7, 8, 9, 33, 34, 35, 36, 37, 38, 39, 40, 41, 42, 43, 44, 45, 46, 47, 48, 49, 50, 51] (by decide +kernel) (by decide +kernel)
set_option maxRecDepth 20000 in
theorem gX6_canMultiply_X6_loads : GoodIn wsX6_canMultiply (wsV RX6 141 RX6 yX6_loads wsX6_loads) := goodIn_app (goodIn_of _ (by decide +kernel)) ggX6_canMultiply_X6_loads
set_option maxRecDepth 20000 in
theorem ggX6_canMultiply_X6_composes : GoodIn wsX6_canMultiply wsX6_composes := goodIn_r _ [13, 14, 7, 9, 15, 16, 17, 5, 18, 19, 20, 21, 33, 34, 35, 36, 37, 38, 39, 40, 41, 42, 43, 44, 45, 46, 47, 48, 49, 50, 51] (by decide +kernel) (by decide +kernel)
set_option maxRecDepth 20000 in
theorem gX6_canMultiply_X6_composes : GoodIn wsX6_canMultiply (wsV RX6 145 RX6 yX6_composes wsX6_composes) := goodIn_app (goodIn_of _ (by decide +kernel)) ggX6_canMultiply_X6_composes
set_option maxRecDepth 20000 in
theorem ggX6_canMultiply_X6_isOutNear : GoodIn wsX6_canMultiply wsX6_isOutNear := goodIn_r _ [25, 15, 26, 27, 28, 5, 29, 14, 30, 31, 32, 33, 34, 35, 36, 37, 38, 39, 40, 41, 42, 43, 44, 45, 46, 47, 48, 49, 50, 51] (by decide +kernel) (by decide +kernel)
set_option maxRecDepth 20000 in
theorem gX6_canMultiply_X6_isOutNear : GoodIn wsX6_canMultiply (wsV RX6 148 RX6 yX6_isOutNear wsX6_isOutNear) := goodIn_app (goodIn_of _ (by decide +kernel)) ggX6_canMultiply_X6_isOutNear
theorem dX6_canMultiply_0 : decode cX6_canMultiply 0 = .ok (.aload_n 0, 1) := by decide +kernel
theorem dX6_canMultiply_1 : decode cX6_canMultiply 1 = .ok (.getfield 19, 3) := by decide +kernel
theorem dX6_canMultiply_4 : decode cX6_canMultiply 4 = .ok (.iload_n 1, 1) := by decide +kernel
theorem dX6_canMultiply_5 : decode cX6_canMultiply 5 = .ok (.iaload, 1) := by decide +kernel
theorem dX6_canMultiply_6 : decode cX6_canMultiply 6 = .ok (.aload_n 0, 1) := by decide +kernel
theorem dX6_canMultiply_7 : decode cX6_canMultiply 7 = .ok (.getfield 19, 3) := by decide +kernel
theorem dX6_canMultiply_10 : decode cX6_canMultiply 10 = .ok (.iload_n 2, 1) := by decide +kernel
theorem dX6_canMultiply_11 : decode cX6_canMultiply 11 = .ok (.iaload, 1) := by decide +kernel
theorem dX6_canMultiply_12 : decode cX6_canMultiply 12 = .ok (.if_icmp .eq 5, 3) := by decide +kernel
theorem dX6_canMultiply_15 : decode cX6_canMultiply 15 = .ok (.iconst 0, 1) := by decide +kernel
theorem dX6_canMultiply_16 : decode cX6_canMultiply 16 = .ok (.ireturn, 1) := by decide +kernel
theorem dX6_canMultiply_17 : decode cX6_canMultiply 17 = .ok (.aload_n 0, 1) := by decide +kernel
theorem dX6_canMultiply_18 : decode cX6_canMultiply 18 = .ok (.iload_n 1, 1) := by decide +kernel
theorem dX6_canMultiply_19 : decode cX6_canMultiply 19 = .ok (.iload_n 2, 1) := by decide +kernel
theorem dX6_canMultiply_20 : decode cX6_canMultiply 20 = .ok (.invokevirtual 141, 3) := by decide +kernel
theorem dX6_canMultiply_23 : decode cX6_canMultiply 23 = .ok (.aload_n 0, 1) := by decide +kernel
theorem dX6_canMultiply_24 : decode cX6_canMultiply 24 = .ok (.aload_n 0, 1) := by decide +kernel
theorem dX6_canMultiply_25 : decode cX6_canMultiply 25 = .ok (.getfield 19, 3) := by decide +kernel
theorem dX6_canMultiply_28 : decode cX6_canMultiply 28 = .ok (.iload_n 1, 1) := by decide +kernel
theorem dX6_canMultiply_29 : decode cX6_canMultiply 29 = .ok (.iaload, 1) := by decide +kernel
theorem dX6_canMultiply_30 : decode cX6_canMultiply 30 = .ok (.invokevirtual 145, 3) := by decide +kernel
theorem dX6_canMultiply_33 : decode cX6_canMultiply 33 = .ok (.aload_n 0, 1) := by decide +kernel
theorem dX6_canMultiply_34 : decode cX6_canMultiply 34 = .ok (.invokevirtual 148, 3) := by decide +kernel
theorem dX6_canMultiply_37 : decode cX6_canMultiply 37 = .ok (.ireturn, 1) := by decide +kernel
set_option maxRecDepth 20000 in
theorem ggX6_multiply_X6_isOne : GoodIn wsX6_multiply wsX6_isOne := goodIn_r _ [5, 6, 7, 4, 8] (by decide +kernel) (by decide +kernel)
set_option maxRecDepth 20000 in
theorem gX6_multiply_X6_isOne : GoodIn wsX6_multiply (va_wsS RX6 75 yX6_isOne wsX6_isOne) := goodIn_app (goodIn_of _ (by decide +kernel)) ggX6_multiply_X6_isOne
set_option maxRecDepth 20000 in
theorem ggX6_multiply_X6_canMultiply : GoodIn wsX6_multiply wsX6_canMultiply := goodIn_r _ [12, 1, 13, 14, 15, 4, 16, 17, 18, 19, 20, 21, 22, 23, 24, 25, 26, 27, 28, 29, 30, 31, 32, 33, 34, 35, 36, 37, 38, 39, 6, 7, 8, 49, 50, 51, 52, 53, 54, 55, 56, 57, 58, 59, 60, 61, 62, 63, 64, 65, 66, 67] (by decide +kernel) (by decide +kernel)
set_option maxRecDepth 20000 in
theorem gX6_multiply_X6_canMultiply : GoodIn wsX6_multiply (wsV RX6 152 RX6 yX6_canMultiply wsX6_canMultiply) := goodIn_app (goodIn_of _ (by decide +kernel)) ggX6_multiply_X6_canMultiply
set_option maxRecDepth 20000 in
theorem ggX6_multiply_X6_can : GoodIn wsX6_multiply wsX6_can := goodIn_r _ [43, 44, 49, 50, 51, 52, 53, 54, 55, 56, 57, 58, 59, 60, 61, 62, 63, 64, 65, 66, 67] (by decide +kernel) (by decide +kernel)
set_option maxRecDepth 20000 in
theorem gX6_multiply_X6_can : GoodIn wsX6_multiply (wsV RX6 82 RX6 yX6_can wsX6_can) := goodIn_app (goodIn_of _ (by decide +kernel)) ggX6_multiply_X6_can
set_option maxRecDepth 20000 in
theorem ggX6_multiply_X6_laysOut : GoodIn wsX6_multiply wsX6_laysOut := goodIn_r _ [48, 1, 18, 25, 24, 49, 50, 51, 52, 53, 54, 55, 56, 57, 58, 59, 60, 61, 62, 63, 64, 65, 66, 67] (by decide +kernel) (by decide +kernel)
set_option maxRecDepth 20000 in
theorem gX6_multiply_X6_laysOut : GoodIn wsX6_multiply (wsV RX6 155 RX6 yX6_laysOut wsX6_laysOut) := goodIn_app (goodIn_of _ (by decide +kernel)) ggX6_multiply_X6_laysOut
theorem dX6_multiply_0 : decode cX6_multiply 0 = .ok (.iload_n 1, 1) := by decide +kernel
theorem dX6_multiply_1 : decode cX6_multiply 1 = .ok (.invokestatic 75, 3) := by decide +kernel
theorem dX6_multiply_4 : decode cX6_multiply 4 = .ok (.ifCond .eq 21, 3) := by decide +kernel
theorem dX6_multiply_7 : decode cX6_multiply 7 = .ok (.iload_n 2, 1) := by decide +kernel
theorem dX6_multiply_8 : decode cX6_multiply 8 = .ok (.invokestatic 75, 3) := by decide +kernel
theorem dX6_multiply_11 : decode cX6_multiply 11 = .ok (.ifCond .eq 14, 3) := by decide +kernel
theorem dX6_multiply_14 : decode cX6_multiply 14 = .ok (.iload_n 3, 1) := by decide +kernel
theorem dX6_multiply_15 : decode cX6_multiply 15 = .ok (.invokestatic 75, 3) := by decide +kernel
theorem dX6_multiply_18 : decode cX6_multiply 18 = .ok (.ifCond .eq 7, 3) := by decide +kernel
theorem dX6_multiply_21 : decode cX6_multiply 21 = .ok (.iconst 1, 1) := by decide +kernel
theorem dX6_multiply_22 : decode cX6_multiply 22 = .ok (.goto 4, 3) := by decide +kernel
theorem dX6_multiply_25 : decode cX6_multiply 25 = .ok (.iconst 0, 1) := by decide +kernel
theorem dX6_multiply_26 : decode cX6_multiply 26 = .ok (.istore 4, 2) := by decide +kernel
theorem dX6_multiply_28 : decode cX6_multiply 28 = .ok (.aload_n 0, 1) := by decide +kernel
theorem dX6_multiply_29 : decode cX6_multiply 29 = .ok (.iload 4, 2) := by decide +kernel
theorem dX6_multiply_31 : decode cX6_multiply 31 = .ok (.ifCond .ne 7, 3) := by decide +kernel
theorem dX6_multiply_34 : decode cX6_multiply 34 = .ok (.iconst 1, 1) := by decide +kernel
theorem dX6_multiply_35 : decode cX6_multiply 35 = .ok (.goto 17, 3) := by decide +kernel
theorem dX6_multiply_38 : decode cX6_multiply 38 = .ok (.aload_n 0, 1) := by decide +kernel
theorem dX6_multiply_39 : decode cX6_multiply 39 = .ok (.iload_n 1, 1) := by decide +kernel
theorem dX6_multiply_40 : decode cX6_multiply 40 = .ok (.iload_n 2, 1) := by decide +kernel
theorem dX6_multiply_41 : decode cX6_multiply 41 = .ok (.invokevirtual 152, 3) := by decide +kernel
theorem dX6_multiply_44 : decode cX6_multiply 44 = .ok (.ifCond .eq 7, 3) := by decide +kernel
theorem dX6_multiply_47 : decode cX6_multiply 47 = .ok (.iconst 0, 1) := by decide +kernel
theorem dX6_multiply_48 : decode cX6_multiply 48 = .ok (.goto 4, 3) := by decide +kernel
theorem dX6_multiply_51 : decode cX6_multiply 51 = .ok (.iconst 2, 1) := by decide +kernel
theorem dX6_multiply_52 : decode cX6_multiply 52 = .ok (.invokevirtual 82, 3) := by decide +kernel
theorem dX6_multiply_55 : decode cX6_multiply 55 = .ok (.ifCond .eq 17, 3) := by decide +kernel
theorem dX6_multiply_58 : decode cX6_multiply 58 = .ok (.aload_n 0, 1) := by decide +kernel
theorem dX6_multiply_59 : decode cX6_multiply 59 = .ok (.iload_n 3, 1) := by decide +kernel
theorem dX6_multiply_60 : decode cX6_multiply 60 = .ok (.aload_n 0, 1) := by decide +kernel
theorem dX6_multiply_61 : decode cX6_multiply 61 = .ok (.getfield 19, 3) := by decide +kernel
theorem dX6_multiply_64 : decode cX6_multiply 64 = .ok (.iload_n 1, 1) := by decide +kernel
theorem dX6_multiply_65 : decode cX6_multiply 65 = .ok (.iaload, 1) := by decide +kernel
theorem dX6_multiply_66 : decode cX6_multiply 66 = .ok (.invokevirtual 155, 3) := by decide +kernel
theorem dX6_multiply_69 : decode cX6_multiply 69 = .ok (.goto 4, 3) := by decide +kernel
theorem dX6_multiply_72 : decode cX6_multiply 72 = .ok (.iconst 0, 1) := by decide +kernel
theorem dX6_multiply_73 : decode cX6_multiply 73 = .ok (.ireturn, 1) := by decide +kernel
set_option maxRecDepth 20000 in
theorem ggX6_roundBy_X6_lesser : GoodIn wsX6_roundBy wsX6_lesser := goodIn_r _ [6] (by decide +kernel) (by decide +kernel)
set_option maxRecDepth 20000 in
theorem gX6_roundBy_X6_lesser : GoodIn wsX6_roundBy (va_wsS RX6 89 yX6_lesser wsX6_lesser) := goodIn_app (goodIn_of _ (by decide +kernel)) ggX6_roundBy_X6_lesser
theorem dX6_roundBy_0 : decode cX6_roundBy 0 = .ok (.ldc 62, 2) := by decide +kernel
theorem dX6_roundBy_2 : decode cX6_roundBy 2 = .ok (.istore_n 2, 1) := by decide +kernel
theorem dX6_roundBy_3 : decode cX6_roundBy 3 = .ok (.iconst 0, 1) := by decide +kernel
theorem dX6_roundBy_4 : decode cX6_roundBy 4 = .ok (.istore_n 3, 1) := by decide +kernel
theorem dX6_roundBy_5 : decode cX6_roundBy 5 = .ok (.iload_n 3, 1) := by decide +kernel
theorem dX6_roundBy_6 : decode cX6_roundBy 6 = .ok (.iload_n 1, 1) := by decide +kernel
theorem dX6_roundBy_7 : decode cX6_roundBy 7 = .ok (.if_icmp .ge 24, 3) := by decide +kernel
theorem dX6_roundBy_10 : decode cX6_roundBy 10 = .ok (.iload_n 2, 1) := by decide +kernel
theorem dX6_roundBy_11 : decode cX6_roundBy 11 = .ok (.aload_n 0, 1) := by decide +kernel
theorem dX6_roundBy_12 : decode cX6_roundBy 12 = .ok (.getfield 25, 3) := by decide +kernel
theorem dX6_roundBy_15 : decode cX6_roundBy 15 = .ok (.iconst 5, 1) := by decide +kernel
theorem dX6_roundBy_16 : decode cX6_roundBy 16 = .ok (.iload_n 3, 1) := by decide +kernel
theorem dX6_roundBy_17 : decode cX6_roundBy 17 = .ok (.imul, 1) := by decide +kernel
theorem dX6_roundBy_18 : decode cX6_roundBy 18 = .ok (.iload_n 3, 1) := by decide +kernel
theorem dX6_roundBy_19 : decode cX6_roundBy 19 = .ok (.iadd, 1) := by decide +kernel
theorem dX6_roundBy_20 : decode cX6_roundBy 20 = .ok (.iaload, 1) := by decide +kernel
theorem dX6_roundBy_21 : decode cX6_roundBy 21 = .ok (.invokestatic 89, 3) := by decide +kernel
theorem dX6_roundBy_24 : decode cX6_roundBy 24 = .ok (.istore_n 2, 1) := by decide +kernel
theorem dX6_roundBy_25 : decode cX6_roundBy 25 = .ok (.iinc 3 1, 3) := by decide +kernel
theorem dX6_roundBy_28 : decode cX6_roundBy 28 = .ok (.goto (-23), 3) := by decide +kernel
theorem dX6_roundBy_31 : decode cX6_roundBy 31 = .ok (.iload_n 2, 1) := by decide +kernel
theorem dX6_roundBy_32 : decode cX6_roundBy 32 = .ok (.ireturn, 1) := by decide +kernel
set_option maxRecDepth 20000 in
theorem ggX6_steps_X6_composes : GoodIn wsX6_steps wsX6_composes := goodIn_r _ [7, 8, 1, 9, 2, 10, 11, 6, 12, 13, 14, 15, 16, 17, 18, 19, 20, 21, 22, 23, 24, 25, 26, 27, 28, 29, 30, 31, 32, 33, 34] (by decide +kernel) (by decide +kernel)
set_option maxRecDepth 20000 in
theorem gX6_steps_X6_composes : GoodIn wsX6_steps (wsV RX6 145 RX6 yX6_composes wsX6_composes) := goodIn_app (goodIn_of _ (by decide +kernel)) ggX6_steps_X6_composes
theorem dX6_steps_0 : decode cX6_steps 0 = .ok (.aload_n 0, 1) := by decide +kernel
theorem dX6_steps_1 : decode cX6_steps 1 = .ok (.iload_n 1, 1) := by decide +kernel
theorem dX6_steps_2 : decode cX6_steps 2 = .ok (.invokevirtual 145, 3) := by decide +kernel
theorem dX6_steps_5 : decode cX6_steps 5 = .ok (.iconst 0, 1) := by decide +kernel
theorem dX6_steps_6 : decode cX6_steps 6 = .ok (.istore_n 2, 1) := by decide +kernel
theorem dX6_steps_7 : decode cX6_steps 7 = .ok (.iload_n 2, 1) := by decide +kernel
theorem dX6_steps_8 : decode cX6_steps 8 = .ok (.bipush 25, 2) := by decide +kernel
theorem dX6_steps_10 : decode cX6_steps 10 = .ok (.if_icmp .ge 21, 3) := by decide +kernel
theorem dX6_steps_13 : decode cX6_steps 13 = .ok (.aload_n 0, 1) := by decide +kernel
theorem dX6_steps_14 : decode cX6_steps 14 = .ok (.getfield 25, 3) := by decide +kernel
theorem dX6_steps_17 : decode cX6_steps 17 = .ok (.iload_n 2, 1) := by decide +kernel
theorem dX6_steps_18 : decode cX6_steps 18 = .ok (.aload_n 0, 1) := by decide +kernel
theorem dX6_steps_19 : decode cX6_steps 19 = .ok (.getfield 31, 3) := by decide +kernel
theorem dX6_steps_22 : decode cX6_steps 22 = .ok (.iload_n 2, 1) := by decide +kernel
theorem dX6_steps_23 : decode cX6_steps 23 = .ok (.iaload, 1) := by decide +kernel
theorem dX6_steps_24 : decode cX6_steps 24 = .ok (.iastore, 1) := by decide +kernel
theorem dX6_steps_25 : decode cX6_steps 25 = .ok (.iinc 2 1, 3) := by decide +kernel
theorem dX6_steps_28 : decode cX6_steps 28 = .ok (.goto (-21), 3) := by decide +kernel
theorem dX6_steps_31 : decode cX6_steps 31 = .ok (.return_, 1) := by decide +kernel
set_option maxRecDepth 20000 in
theorem ggX6_canStar_X6_loads : GoodIn wsX6_canStar wsX6_loads := goodIn_r _ [8, 2, 9, 3, 41, 42, 43, 44, 45, 46, 47, 48, 49, 50, 51, 52, 53, 54, 55, 56, 57, 58, 59] (by decide +kernel) (by decide +kernel)
set_option maxRecDepth 20000 in
theorem gX6_canStar_X6_loads : GoodIn wsX6_canStar (wsV RX6 141 RX6 yX6_loads wsX6_loads) := goodIn_app (goodIn_of _ (by decide +kernel)) ggX6_canStar_X6_loads
set_option maxRecDepth 20000 in
theorem ggX6_canStar_X6_lesser : GoodIn wsX6_canStar wsX6_lesser := goodIn_r _ [12] (by decide +kernel) (by decide +kernel)
set_option maxRecDepth 20000 in
theorem gX6_canStar_X6_lesser : GoodIn wsX6_canStar (va_wsS RX6 89 yX6_lesser wsX6_lesser) := goodIn_app (goodIn_of _ (by decide +kernel)) ggX6_canStar_X6_lesser
set_option maxRecDepth 20000 in
theorem ggX6_canStar_X6_steps : GoodIn wsX6_canStar wsX6_steps := goodIn_r _ [16, 2, 17, 18, 19, 20, 7, 21, 22, 3, 23, 24, 25, 10, 11, 12, 41, 42, 43, 44, 45, 46, 47, 48, 49, 50, 51, 52, 53, 54, 55, 56, 57, 58, 59] (by decide +kernel) (by decide +kernel)
set_option maxRecDepth 20000 in
theorem gX6_canStar_X6_steps : GoodIn wsX6_canStar (wsV RX6 158 RX6 yX6_steps wsX6_steps) := goodIn_app (goodIn_of _ (by decide +kernel)) ggX6_canStar_X6_steps
set_option maxRecDepth 20000 in
theorem ggX6_canStar_X6_roundBy : GoodIn wsX6_canStar wsX6_roundBy := goodIn_r _ [29, 22, 2, 10, 11, 7, 12, 41, 42, 43, 44, 45, 46, 47, 48, 49, 50, 51, 52, 53, 54, 55, 56, 57, 58, 59] (by decide +kernel) (by decide +kernel)
set_option maxRecDepth 20000 in
theorem gX6_canStar_X6_roundBy : GoodIn wsX6_canStar (wsV RX6 161 RX6 yX6_roundBy wsX6_roundBy) := goodIn_app (goodIn_of _ (by decide +kernel)) ggX6_canStar_X6_roundBy
set_option maxRecDepth 20000 in
theorem ggX6_canStar_X6_isOutNear : GoodIn wsX6_canStar wsX6_isOutNear := goodIn_r _ [33, 17, 34, 35, 36, 7, 37, 22, 38, 39, 40, 41, 42, 43, 44, 45, 46, 47, 48, 49, 50, 51, 52, 53, 54, 55, 56, 57, 58, 59] (by decide +kernel) (by decide +kernel)
set_option maxRecDepth 20000 in
theorem gX6_canStar_X6_isOutNear : GoodIn wsX6_canStar (wsV RX6 148 RX6 yX6_isOutNear wsX6_isOutNear) := goodIn_app (goodIn_of _ (by decide +kernel)) ggX6_canStar_X6_isOutNear
theorem dX6_canStar_0 : decode cX6_canStar 0 = .ok (.aload_n 0, 1) := by decide +kernel
theorem dX6_canStar_1 : decode cX6_canStar 1 = .ok (.getfield 19, 3) := by decide +kernel
theorem dX6_canStar_4 : decode cX6_canStar 4 = .ok (.iload_n 1, 1) := by decide +kernel
theorem dX6_canStar_5 : decode cX6_canStar 5 = .ok (.iaload, 1) := by decide +kernel
theorem dX6_canStar_6 : decode cX6_canStar 6 = .ok (.istore_n 2, 1) := by decide +kernel
theorem dX6_canStar_7 : decode cX6_canStar 7 = .ok (.aload_n 0, 1) := by decide +kernel
theorem dX6_canStar_8 : decode cX6_canStar 8 = .ok (.iload_n 1, 1) := by decide +kernel
theorem dX6_canStar_9 : decode cX6_canStar 9 = .ok (.iload_n 1, 1) := by decide +kernel
theorem dX6_canStar_10 : decode cX6_canStar 10 = .ok (.invokevirtual 141, 3) := by decide +kernel
theorem dX6_canStar_13 : decode cX6_canStar 13 = .ok (.iconst 0, 1) := by decide +kernel
theorem dX6_canStar_14 : decode cX6_canStar 14 = .ok (.istore_n 3, 1) := by decide +kernel
theorem dX6_canStar_15 : decode cX6_canStar 15 = .ok (.iload_n 3, 1) := by decide +kernel
theorem dX6_canStar_16 : decode cX6_canStar 16 = .ok (.iload_n 2, 1) := by decide +kernel
theorem dX6_canStar_17 : decode cX6_canStar 17 = .ok (.if_icmp .ge 57, 3) := by decide +kernel
theorem dX6_canStar_20 : decode cX6_canStar 20 = .ok (.aload_n 0, 1) := by decide +kernel
theorem dX6_canStar_21 : decode cX6_canStar 21 = .ok (.getfield 25, 3) := by decide +kernel
theorem dX6_canStar_24 : decode cX6_canStar 24 = .ok (.iconst 5, 1) := by decide +kernel
theorem dX6_canStar_25 : decode cX6_canStar 25 = .ok (.iload_n 3, 1) := by decide +kernel
theorem dX6_canStar_26 : decode cX6_canStar 26 = .ok (.imul, 1) := by decide +kernel
theorem dX6_canStar_27 : decode cX6_canStar 27 = .ok (.iload_n 3, 1) := by decide +kernel
theorem dX6_canStar_28 : decode cX6_canStar 28 = .ok (.iadd, 1) := by decide +kernel
theorem dX6_canStar_29 : decode cX6_canStar 29 = .ok (.aload_n 0, 1) := by decide +kernel
theorem dX6_canStar_30 : decode cX6_canStar 30 = .ok (.getfield 25, 3) := by decide +kernel
theorem dX6_canStar_33 : decode cX6_canStar 33 = .ok (.iconst 5, 1) := by decide +kernel
theorem dX6_canStar_34 : decode cX6_canStar 34 = .ok (.iload_n 3, 1) := by decide +kernel
theorem dX6_canStar_35 : decode cX6_canStar 35 = .ok (.imul, 1) := by decide +kernel
theorem dX6_canStar_36 : decode cX6_canStar 36 = .ok (.iload_n 3, 1) := by decide +kernel
theorem dX6_canStar_37 : decode cX6_canStar 37 = .ok (.iadd, 1) := by decide +kernel
theorem dX6_canStar_38 : decode cX6_canStar 38 = .ok (.iaload, 1) := by decide +kernel
theorem dX6_canStar_39 : decode cX6_canStar 39 = .ok (.iconst 0, 1) := by decide +kernel
theorem dX6_canStar_40 : decode cX6_canStar 40 = .ok (.invokestatic 89, 3) := by decide +kernel
theorem dX6_canStar_43 : decode cX6_canStar 43 = .ok (.iastore, 1) := by decide +kernel
theorem dX6_canStar_44 : decode cX6_canStar 44 = .ok (.aload_n 0, 1) := by decide +kernel
theorem dX6_canStar_45 : decode cX6_canStar 45 = .ok (.getfield 28, 3) := by decide +kernel
theorem dX6_canStar_48 : decode cX6_canStar 48 = .ok (.iconst 5, 1) := by decide +kernel
theorem dX6_canStar_49 : decode cX6_canStar 49 = .ok (.iload_n 3, 1) := by decide +kernel
theorem dX6_canStar_50 : decode cX6_canStar 50 = .ok (.imul, 1) := by decide +kernel
theorem dX6_canStar_51 : decode cX6_canStar 51 = .ok (.iload_n 3, 1) := by decide +kernel
theorem dX6_canStar_52 : decode cX6_canStar 52 = .ok (.iadd, 1) := by decide +kernel
theorem dX6_canStar_53 : decode cX6_canStar 53 = .ok (.aload_n 0, 1) := by decide +kernel
theorem dX6_canStar_54 : decode cX6_canStar 54 = .ok (.getfield 28, 3) := by decide +kernel
theorem dX6_canStar_57 : decode cX6_canStar 57 = .ok (.iconst 5, 1) := by decide +kernel
theorem dX6_canStar_58 : decode cX6_canStar 58 = .ok (.iload_n 3, 1) := by decide +kernel
theorem dX6_canStar_59 : decode cX6_canStar 59 = .ok (.imul, 1) := by decide +kernel
theorem dX6_canStar_60 : decode cX6_canStar 60 = .ok (.iload_n 3, 1) := by decide +kernel
theorem dX6_canStar_61 : decode cX6_canStar 61 = .ok (.iadd, 1) := by decide +kernel
theorem dX6_canStar_62 : decode cX6_canStar 62 = .ok (.iaload, 1) := by decide +kernel
theorem dX6_canStar_63 : decode cX6_canStar 63 = .ok (.iconst 0, 1) := by decide +kernel
theorem dX6_canStar_64 : decode cX6_canStar 64 = .ok (.invokestatic 89, 3) := by decide +kernel
theorem dX6_canStar_67 : decode cX6_canStar 67 = .ok (.iastore, 1) := by decide +kernel
theorem dX6_canStar_68 : decode cX6_canStar 68 = .ok (.iinc 3 1, 3) := by decide +kernel
theorem dX6_canStar_71 : decode cX6_canStar 71 = .ok (.goto (-56), 3) := by decide +kernel
theorem dX6_canStar_74 : decode cX6_canStar 74 = .ok (.iconst 0, 1) := by decide +kernel
theorem dX6_canStar_75 : decode cX6_canStar 75 = .ok (.istore_n 3, 1) := by decide +kernel
theorem dX6_canStar_76 : decode cX6_canStar 76 = .ok (.iload_n 3, 1) := by decide +kernel
theorem dX6_canStar_77 : decode cX6_canStar 77 = .ok (.iload_n 2, 1) := by decide +kernel
theorem dX6_canStar_78 : decode cX6_canStar 78 = .ok (.if_icmp .ge 14, 3) := by decide +kernel
theorem dX6_canStar_81 : decode cX6_canStar 81 = .ok (.aload_n 0, 1) := by decide +kernel
theorem dX6_canStar_82 : decode cX6_canStar 82 = .ok (.iload_n 2, 1) := by decide +kernel
theorem dX6_canStar_83 : decode cX6_canStar 83 = .ok (.invokevirtual 158, 3) := by decide +kernel
theorem dX6_canStar_86 : decode cX6_canStar 86 = .ok (.iinc 3 1, 3) := by decide +kernel
theorem dX6_canStar_89 : decode cX6_canStar 89 = .ok (.goto (-13), 3) := by decide +kernel
theorem dX6_canStar_92 : decode cX6_canStar 92 = .ok (.aload_n 0, 1) := by decide +kernel
theorem dX6_canStar_93 : decode cX6_canStar 93 = .ok (.iload_n 2, 1) := by decide +kernel
theorem dX6_canStar_94 : decode cX6_canStar 94 = .ok (.invokevirtual 161, 3) := by decide +kernel
theorem dX6_canStar_97 : decode cX6_canStar 97 = .ok (.ifCond .ne 14, 3) := by decide +kernel
theorem dX6_canStar_100 : decode cX6_canStar 100 = .ok (.aload_n 0, 1) := by decide +kernel
theorem dX6_canStar_101 : decode cX6_canStar 101 = .ok (.invokevirtual 148, 3) := by decide +kernel
theorem dX6_canStar_104 : decode cX6_canStar 104 = .ok (.ifCond .eq 7, 3) := by decide +kernel
theorem dX6_canStar_107 : decode cX6_canStar 107 = .ok (.iconst 1, 1) := by decide +kernel
theorem dX6_canStar_108 : decode cX6_canStar 108 = .ok (.goto 4, 3) := by decide +kernel
theorem dX6_canStar_111 : decode cX6_canStar 111 = .ok (.iconst 0, 1) := by decide +kernel
theorem dX6_canStar_112 : decode cX6_canStar 112 = .ok (.ireturn, 1) := by decide +kernel
set_option maxRecDepth 20000 in
theorem ggX6_star_X6_isOne : GoodIn wsX6_star wsX6_isOne := goodIn_r _ [5, 6, 7, 4, 8] (by decide +kernel) (by decide +kernel)
set_option maxRecDepth 20000 in
theorem gX6_star_X6_isOne : GoodIn wsX6_star (va_wsS RX6 75 yX6_isOne wsX6_isOne) := goodIn_app (goodIn_of _ (by decide +kernel)) ggX6_star_X6_isOne
set_option maxRecDepth 20000 in
theorem ggX6_star_X6_canStar : GoodIn wsX6_star wsX6_canStar := goodIn_r _ [12, 1, 13, 14, 15, 16, 17, 4, 18, 19, 20, 21, 22, 23, 24, 25, 26, 27, 28, 29, 30, 31, 32, 33, 34, 35, 36, 37, 38, 39, 40, 41, 42, 43, 44, 45, 46, 47, 6, 7, 8, 57, 58, 59, 60, 61, 62, 63, 64, 65, 66, 67, 68, 69, 70, 71, 72, 73, 74, 75] (by decide +kernel) (by decide +kernel)
set_option maxRecDepth 20000 in
theorem gX6_star_X6_canStar : GoodIn wsX6_star (wsV RX6 164 RX6 yX6_canStar wsX6_canStar) := goodIn_app (goodIn_of _ (by decide +kernel)) ggX6_star_X6_canStar
set_option maxRecDepth 20000 in
theorem ggX6_star_X6_can : GoodIn wsX6_star wsX6_can := goodIn_r _ [51, 52, 57, 58, 59, 60, 61, 62, 63, 64, 65, 66, 67, 68, 69, 70, 71, 72, 73, 74, 75] (by decide +kernel) (by decide +kernel)
set_option maxRecDepth 20000 in
theorem gX6_star_X6_can : GoodIn wsX6_star (wsV RX6 82 RX6 yX6_can wsX6_can) := goodIn_app (goodIn_of _ (by decide +kernel)) ggX6_star_X6_can
set_option maxRecDepth 20000 in
theorem ggX6_star_X6_laysOut : GoodIn wsX6_star wsX6_laysOut := goodIn_r _ [56, 1, 19, 27, 32, 57, 58, 59, 60, 61, 62, 63, 64, 65, 66, 67, 68, 69, 70, 71, 72, 73, 74, 75] (by decide +kernel) (by decide +kernel)
set_option maxRecDepth 20000 in
theorem gX6_star_X6_laysOut : GoodIn wsX6_star (wsV RX6 155 RX6 yX6_laysOut wsX6_laysOut) := goodIn_app (goodIn_of _ (by decide +kernel)) ggX6_star_X6_laysOut
theorem dX6_star_0 : decode cX6_star 0 = .ok (.iload_n 1, 1) := by decide +kernel
theorem dX6_star_1 : decode cX6_star 1 = .ok (.invokestatic 75, 3) := by decide +kernel
theorem dX6_star_4 : decode cX6_star 4 = .ok (.ifCond .eq 14, 3) := by decide +kernel
theorem dX6_star_7 : decode cX6_star 7 = .ok (.iload_n 2, 1) := by decide +kernel
theorem dX6_star_8 : decode cX6_star 8 = .ok (.invokestatic 75, 3) := by decide +kernel
theorem dX6_star_11 : decode cX6_star 11 = .ok (.ifCond .eq 7, 3) := by decide +kernel
theorem dX6_star_14 : decode cX6_star 14 = .ok (.iconst 1, 1) := by decide +kernel
theorem dX6_star_15 : decode cX6_star 15 = .ok (.goto 4, 3) := by decide +kernel
theorem dX6_star_18 : decode cX6_star 18 = .ok (.iconst 0, 1) := by decide +kernel
theorem dX6_star_19 : decode cX6_star 19 = .ok (.istore_n 3, 1) := by decide +kernel
theorem dX6_star_20 : decode cX6_star 20 = .ok (.aload_n 0, 1) := by decide +kernel
theorem dX6_star_21 : decode cX6_star 21 = .ok (.iload_n 3, 1) := by decide +kernel
theorem dX6_star_22 : decode cX6_star 22 = .ok (.ifCond .ne 7, 3) := by decide +kernel
theorem dX6_star_25 : decode cX6_star 25 = .ok (.iconst 1, 1) := by decide +kernel
theorem dX6_star_26 : decode cX6_star 26 = .ok (.goto 16, 3) := by decide +kernel
theorem dX6_star_29 : decode cX6_star 29 = .ok (.aload_n 0, 1) := by decide +kernel
theorem dX6_star_30 : decode cX6_star 30 = .ok (.iload_n 1, 1) := by decide +kernel
theorem dX6_star_31 : decode cX6_star 31 = .ok (.invokevirtual 164, 3) := by decide +kernel
theorem dX6_star_34 : decode cX6_star 34 = .ok (.ifCond .eq 7, 3) := by decide +kernel
theorem dX6_star_37 : decode cX6_star 37 = .ok (.iconst 0, 1) := by decide +kernel
theorem dX6_star_38 : decode cX6_star 38 = .ok (.goto 4, 3) := by decide +kernel
theorem dX6_star_41 : decode cX6_star 41 = .ok (.iconst 2, 1) := by decide +kernel
theorem dX6_star_42 : decode cX6_star 42 = .ok (.invokevirtual 82, 3) := by decide +kernel
theorem dX6_star_45 : decode cX6_star 45 = .ok (.ifCond .eq 17, 3) := by decide +kernel
theorem dX6_star_48 : decode cX6_star 48 = .ok (.aload_n 0, 1) := by decide +kernel
theorem dX6_star_49 : decode cX6_star 49 = .ok (.iload_n 2, 1) := by decide +kernel
theorem dX6_star_50 : decode cX6_star 50 = .ok (.aload_n 0, 1) := by decide +kernel
theorem dX6_star_51 : decode cX6_star 51 = .ok (.getfield 19, 3) := by decide +kernel
theorem dX6_star_54 : decode cX6_star 54 = .ok (.iload_n 1, 1) := by decide +kernel
theorem dX6_star_55 : decode cX6_star 55 = .ok (.iaload, 1) := by decide +kernel
theorem dX6_star_56 : decode cX6_star 56 = .ok (.invokevirtual 155, 3) := by decide +kernel
theorem dX6_star_59 : decode cX6_star 59 = .ok (.goto 4, 3) := by decide +kernel
theorem dX6_star_62 : decode cX6_star 62 = .ok (.iconst 0, 1) := by decide +kernel
theorem dX6_star_63 : decode cX6_star 63 = .ok (.ireturn, 1) := by decide +kernel
set_option maxRecDepth 20000 in
theorem ggX6_meanOf_X6_loads : GoodIn wsX6_meanOf wsX6_loads := goodIn_r _ [7, 8, 9, 10, 33, 34, 35, 36, 37, 38, 39, 40, 41, 42, 43, 44, 45, 46, 47, 48, 49, 50, 51] (by decide +kernel) (by decide +kernel)
set_option maxRecDepth 20000 in
theorem gX6_meanOf_X6_loads : GoodIn wsX6_meanOf (wsV RX6 141 RX6 yX6_loads wsX6_loads) := goodIn_app (goodIn_of _ (by decide +kernel)) ggX6_meanOf_X6_loads
set_option maxRecDepth 20000 in
theorem ggX6_meanOf_X6_roundBy : GoodIn wsX6_meanOf wsX6_roundBy := goodIn_r _ [14, 2, 8, 15, 16, 6, 17, 33, 34, 35, 36, 37, 38, 39, 40, 41, 42, 43, 44, 45, 46, 47, 48, 49, 50, 51] (by decide +kernel) (by decide +kernel)
set_option maxRecDepth 20000 in
theorem gX6_meanOf_X6_roundBy : GoodIn wsX6_meanOf (wsV RX6 161 RX6 yX6_roundBy wsX6_roundBy) := goodIn_app (goodIn_of _ (by decide +kernel)) ggX6_meanOf_X6_roundBy
set_option maxRecDepth 20000 in
theorem ggX6_meanOf_X6_steps : GoodIn wsX6_meanOf wsX6_steps := goodIn_r _ [21, 8, 22, 23, 24, 25, 6, 26, 2, 10, 27, 28, 29, 15, 16, 17, 33, 34, 35, 36, 37, 38, 39, 40, 41, 42, 43, 44, 45, 46, 47, 48, 49, 50, 51] (by decide +kernel) (by decide +kernel)
set_option maxRecDepth 20000 in
theorem gX6_meanOf_X6_steps : GoodIn wsX6_meanOf (wsV RX6 158 RX6 yX6_steps wsX6_steps) := goodIn_app (goodIn_of _ (by decide +kernel)) ggX6_meanOf_X6_steps
set_option maxRecDepth 20000 in
theorem ggX6_meanOf_X6_common : GoodIn wsX6_meanOf wsX6_common := goodIn_r _ [32] (by decide +kernel) (by decide +kernel)
set_option maxRecDepth 20000 in
theorem gX6_meanOf_X6_common : GoodIn wsX6_meanOf (va_wsS RX6 109 yX6_common wsX6_common) := goodIn_app (goodIn_of _ (by decide +kernel)) ggX6_meanOf_X6_common
theorem dX6_meanOf_0 : decode cX6_meanOf 0 = .ok (.aload_n 0, 1) := by decide +kernel
theorem dX6_meanOf_1 : decode cX6_meanOf 1 = .ok (.getfield 19, 3) := by decide +kernel
theorem dX6_meanOf_4 : decode cX6_meanOf 4 = .ok (.iload_n 1, 1) := by decide +kernel
theorem dX6_meanOf_5 : decode cX6_meanOf 5 = .ok (.iaload, 1) := by decide +kernel
theorem dX6_meanOf_6 : decode cX6_meanOf 6 = .ok (.istore_n 3, 1) := by decide +kernel
theorem dX6_meanOf_7 : decode cX6_meanOf 7 = .ok (.ldc 62, 2) := by decide +kernel
theorem dX6_meanOf_9 : decode cX6_meanOf 9 = .ok (.istore 4, 2) := by decide +kernel
theorem dX6_meanOf_11 : decode cX6_meanOf 11 = .ok (.iconst 1, 1) := by decide +kernel
theorem dX6_meanOf_12 : decode cX6_meanOf 12 = .ok (.istore 5, 2) := by decide +kernel
theorem dX6_meanOf_14 : decode cX6_meanOf 14 = .ok (.aload_n 0, 1) := by decide +kernel
theorem dX6_meanOf_15 : decode cX6_meanOf 15 = .ok (.iload_n 1, 1) := by decide +kernel
theorem dX6_meanOf_16 : decode cX6_meanOf 16 = .ok (.iload_n 1, 1) := by decide +kernel
theorem dX6_meanOf_17 : decode cX6_meanOf 17 = .ok (.invokevirtual 141, 3) := by decide +kernel
theorem dX6_meanOf_20 : decode cX6_meanOf 20 = .ok (.iconst 1, 1) := by decide +kernel
theorem dX6_meanOf_21 : decode cX6_meanOf 21 = .ok (.istore 6, 2) := by decide +kernel
theorem dX6_meanOf_23 : decode cX6_meanOf 23 = .ok (.iload 6, 2) := by decide +kernel
theorem dX6_meanOf_25 : decode cX6_meanOf 25 = .ok (.iload_n 3, 1) := by decide +kernel
theorem dX6_meanOf_26 : decode cX6_meanOf 26 = .ok (.if_icmp .gt 88, 3) := by decide +kernel
theorem dX6_meanOf_29 : decode cX6_meanOf 29 = .ok (.aload_n 0, 1) := by decide +kernel
theorem dX6_meanOf_30 : decode cX6_meanOf 30 = .ok (.iload_n 3, 1) := by decide +kernel
theorem dX6_meanOf_31 : decode cX6_meanOf 31 = .ok (.invokevirtual 161, 3) := by decide +kernel
theorem dX6_meanOf_34 : decode cX6_meanOf 34 = .ok (.istore 7, 2) := by decide +kernel
theorem dX6_meanOf_36 : decode cX6_meanOf 36 = .ok (.iload 7, 2) := by decide +kernel
theorem dX6_meanOf_38 : decode cX6_meanOf 38 = .ok (.ldc 62, 2) := by decide +kernel
theorem dX6_meanOf_40 : decode cX6_meanOf 40 = .ok (.if_icmp .eq 32, 3) := by decide +kernel
theorem dX6_meanOf_43 : decode cX6_meanOf 43 = .ok (.iload 4, 2) := by decide +kernel
theorem dX6_meanOf_45 : decode cX6_meanOf 45 = .ok (.ldc 62, 2) := by decide +kernel
theorem dX6_meanOf_47 : decode cX6_meanOf 47 = .ok (.if_icmp .eq 21, 3) := by decide +kernel
theorem dX6_meanOf_50 : decode cX6_meanOf 50 = .ok (.iload 7, 2) := by decide +kernel
theorem dX6_meanOf_52 : decode cX6_meanOf 52 = .ok (.i2l, 1) := by decide +kernel
theorem dX6_meanOf_53 : decode cX6_meanOf 53 = .ok (.iload 5, 2) := by decide +kernel
theorem dX6_meanOf_55 : decode cX6_meanOf 55 = .ok (.i2l, 1) := by decide +kernel
theorem dX6_meanOf_56 : decode cX6_meanOf 56 = .ok (.lmul, 1) := by decide +kernel
theorem dX6_meanOf_57 : decode cX6_meanOf 57 = .ok (.iload 4, 2) := by decide +kernel
theorem dX6_meanOf_59 : decode cX6_meanOf 59 = .ok (.i2l, 1) := by decide +kernel
theorem dX6_meanOf_60 : decode cX6_meanOf 60 = .ok (.iload 6, 2) := by decide +kernel
theorem dX6_meanOf_62 : decode cX6_meanOf 62 = .ok (.i2l, 1) := by decide +kernel
theorem dX6_meanOf_63 : decode cX6_meanOf 63 = .ok (.lmul, 1) := by decide +kernel
theorem dX6_meanOf_64 : decode cX6_meanOf 64 = .ok (.lcmp, 1) := by decide +kernel
theorem dX6_meanOf_65 : decode cX6_meanOf 65 = .ok (.ifCond .ge 7, 3) := by decide +kernel
theorem dX6_meanOf_68 : decode cX6_meanOf 68 = .ok (.iconst 1, 1) := by decide +kernel
theorem dX6_meanOf_69 : decode cX6_meanOf 69 = .ok (.goto 4, 3) := by decide +kernel
theorem dX6_meanOf_72 : decode cX6_meanOf 72 = .ok (.iconst 0, 1) := by decide +kernel
theorem dX6_meanOf_73 : decode cX6_meanOf 73 = .ok (.istore 8, 2) := by decide +kernel
theorem dX6_meanOf_75 : decode cX6_meanOf 75 = .ok (.iload 8, 2) := by decide +kernel
theorem dX6_meanOf_77 : decode cX6_meanOf 77 = .ok (.ifCond .eq 8, 3) := by decide +kernel
theorem dX6_meanOf_80 : decode cX6_meanOf 80 = .ok (.iload 7, 2) := by decide +kernel
theorem dX6_meanOf_82 : decode cX6_meanOf 82 = .ok (.goto 5, 3) := by decide +kernel
theorem dX6_meanOf_85 : decode cX6_meanOf 85 = .ok (.iload 4, 2) := by decide +kernel
theorem dX6_meanOf_87 : decode cX6_meanOf 87 = .ok (.istore 4, 2) := by decide +kernel
theorem dX6_meanOf_89 : decode cX6_meanOf 89 = .ok (.iload 8, 2) := by decide +kernel
theorem dX6_meanOf_91 : decode cX6_meanOf 91 = .ok (.ifCond .eq 8, 3) := by decide +kernel
theorem dX6_meanOf_94 : decode cX6_meanOf 94 = .ok (.iload 6, 2) := by decide +kernel
theorem dX6_meanOf_96 : decode cX6_meanOf 96 = .ok (.goto 5, 3) := by decide +kernel
theorem dX6_meanOf_99 : decode cX6_meanOf 99 = .ok (.iload 5, 2) := by decide +kernel
theorem dX6_meanOf_101 : decode cX6_meanOf 101 = .ok (.istore 5, 2) := by decide +kernel
theorem dX6_meanOf_103 : decode cX6_meanOf 103 = .ok (.aload_n 0, 1) := by decide +kernel
theorem dX6_meanOf_104 : decode cX6_meanOf 104 = .ok (.iload_n 3, 1) := by decide +kernel
theorem dX6_meanOf_105 : decode cX6_meanOf 105 = .ok (.invokevirtual 158, 3) := by decide +kernel
theorem dX6_meanOf_108 : decode cX6_meanOf 108 = .ok (.iinc 6 1, 3) := by decide +kernel
theorem dX6_meanOf_111 : decode cX6_meanOf 111 = .ok (.goto (-88), 3) := by decide +kernel
theorem dX6_meanOf_114 : decode cX6_meanOf 114 = .ok (.iload 4, 2) := by decide +kernel
theorem dX6_meanOf_116 : decode cX6_meanOf 116 = .ok (.ldc 62, 2) := by decide +kernel
theorem dX6_meanOf_118 : decode cX6_meanOf 118 = .ok (.if_icmp .ne 7, 3) := by decide +kernel
theorem dX6_meanOf_121 : decode cX6_meanOf 121 = .ok (.iconst 1, 1) := by decide +kernel
theorem dX6_meanOf_122 : decode cX6_meanOf 122 = .ok (.goto 10, 3) := by decide +kernel
theorem dX6_meanOf_125 : decode cX6_meanOf 125 = .ok (.iload 4, 2) := by decide +kernel
theorem dX6_meanOf_127 : decode cX6_meanOf 127 = .ok (.iload 5, 2) := by decide +kernel
theorem dX6_meanOf_129 : decode cX6_meanOf 129 = .ok (.invokestatic 109, 3) := by decide +kernel
theorem dX6_meanOf_132 : decode cX6_meanOf 132 = .ok (.istore 6, 2) := by decide +kernel
theorem dX6_meanOf_134 : decode cX6_meanOf 134 = .ok (.iload 4, 2) := by decide +kernel
theorem dX6_meanOf_136 : decode cX6_meanOf 136 = .ok (.ldc 62, 2) := by decide +kernel
theorem dX6_meanOf_138 : decode cX6_meanOf 138 = .ok (.if_icmp .ne 15, 3) := by decide +kernel
theorem dX6_meanOf_141 : decode cX6_meanOf 141 = .ok (.iload_n 2, 1) := by decide +kernel
theorem dX6_meanOf_142 : decode cX6_meanOf 142 = .ok (.ifCond .ne 7, 3) := by decide +kernel
theorem dX6_meanOf_145 : decode cX6_meanOf 145 = .ok (.iconst 0, 1) := by decide +kernel
theorem dX6_meanOf_146 : decode cX6_meanOf 146 = .ok (.goto 24, 3) := by decide +kernel
theorem dX6_meanOf_149 : decode cX6_meanOf 149 = .ok (.iconst (-1), 1) := by decide +kernel
theorem dX6_meanOf_150 : decode cX6_meanOf 150 = .ok (.goto 20, 3) := by decide +kernel
theorem dX6_meanOf_153 : decode cX6_meanOf 153 = .ok (.iload_n 2, 1) := by decide +kernel
theorem dX6_meanOf_154 : decode cX6_meanOf 154 = .ok (.ifCond .ne 11, 3) := by decide +kernel
theorem dX6_meanOf_157 : decode cX6_meanOf 157 = .ok (.iload 4, 2) := by decide +kernel
theorem dX6_meanOf_159 : decode cX6_meanOf 159 = .ok (.iload 6, 2) := by decide +kernel
theorem dX6_meanOf_161 : decode cX6_meanOf 161 = .ok (.idiv, 1) := by decide +kernel
theorem dX6_meanOf_162 : decode cX6_meanOf 162 = .ok (.goto 8, 3) := by decide +kernel
theorem dX6_meanOf_165 : decode cX6_meanOf 165 = .ok (.iload 5, 2) := by decide +kernel
theorem dX6_meanOf_167 : decode cX6_meanOf 167 = .ok (.iload 6, 2) := by decide +kernel
theorem dX6_meanOf_169 : decode cX6_meanOf 169 = .ok (.idiv, 1) := by decide +kernel
theorem dX6_meanOf_170 : decode cX6_meanOf 170 = .ok (.ireturn, 1) := by decide +kernel
set_option maxRecDepth 20000 in
theorem ggX6_mean_X6_isOne : GoodIn wsX6_mean wsX6_isOne := goodIn_r _ [4, 5, 6, 3, 7] (by decide +kernel) (by decide +kernel)
set_option maxRecDepth 20000 in
theorem gX6_mean_X6_isOne : GoodIn wsX6_mean (va_wsS RX6 75 yX6_isOne wsX6_isOne) := goodIn_app (goodIn_of _ (by decide +kernel)) ggX6_mean_X6_isOne
set_option maxRecDepth 20000 in
theorem ggX6_mean_X6_isIn : GoodIn wsX6_mean wsX6_isIn := goodIn_r _ [7] (by decide +kernel) (by decide +kernel)
set_option maxRecDepth 20000 in
theorem gX6_mean_X6_isIn : GoodIn wsX6_mean (va_wsS RX6 67 yX6_isIn wsX6_isIn) := goodIn_app (goodIn_of _ (by decide +kernel)) ggX6_mean_X6_isIn
set_option maxRecDepth 20000 in
theorem ggX6_mean_X6_can : GoodIn wsX6_mean wsX6_can := goodIn_r _ [11, 12, 48, 49, 50, 51, 52, 53, 54, 55, 56, 57, 58, 59, 60, 61, 62, 63, 64, 65, 66] (by decide +kernel) (by decide +kernel)
set_option maxRecDepth 20000 in
theorem gX6_mean_X6_can : GoodIn wsX6_mean (wsV RX6 82 RX6 yX6_can wsX6_can) := goodIn_app (goodIn_of _ (by decide +kernel)) ggX6_mean_X6_can
set_option maxRecDepth 20000 in
theorem ggX6_mean_X6_meanOf : GoodIn wsX6_mean wsX6_meanOf := goodIn_r _ [16, 17, 18, 19, 20, 21, 3, 22, 23, 24, 25, 26, 27, 28, 29, 30, 31, 32, 33, 34, 35, 36, 37, 38, 39, 40, 41, 42, 43, 44, 45, 46, 47, 48, 49, 50, 51, 52, 53, 54, 55, 56, 57, 58, 59, 60, 61, 62, 63, 64, 65, 66] (by decide +kernel) (by decide +kernel)
set_option maxRecDepth 20000 in
theorem gX6_mean_X6_meanOf : GoodIn wsX6_mean (wsV RX6 167 RX6 yX6_meanOf wsX6_meanOf) := goodIn_app (goodIn_of _ (by decide +kernel)) ggX6_mean_X6_meanOf
theorem dX6_mean_0 : decode cX6_mean 0 = .ok (.aload_n 0, 1) := by decide +kernel
theorem dX6_mean_1 : decode cX6_mean 1 = .ok (.iload_n 1, 1) := by decide +kernel
theorem dX6_mean_2 : decode cX6_mean 2 = .ok (.invokestatic 75, 3) := by decide +kernel
theorem dX6_mean_5 : decode cX6_mean 5 = .ok (.ifCond .ne 7, 3) := by decide +kernel
theorem dX6_mean_8 : decode cX6_mean 8 = .ok (.iconst 1, 1) := by decide +kernel
theorem dX6_mean_9 : decode cX6_mean 9 = .ok (.goto 17, 3) := by decide +kernel
theorem dX6_mean_12 : decode cX6_mean 12 = .ok (.iload_n 2, 1) := by decide +kernel
theorem dX6_mean_13 : decode cX6_mean 13 = .ok (.iconst 0, 1) := by decide +kernel
theorem dX6_mean_14 : decode cX6_mean 14 = .ok (.iconst 1, 1) := by decide +kernel
theorem dX6_mean_15 : decode cX6_mean 15 = .ok (.invokestatic 67, 3) := by decide +kernel
theorem dX6_mean_18 : decode cX6_mean 18 = .ok (.ifCond .eq 7, 3) := by decide +kernel
theorem dX6_mean_21 : decode cX6_mean 21 = .ok (.iconst 0, 1) := by decide +kernel
theorem dX6_mean_22 : decode cX6_mean 22 = .ok (.goto 4, 3) := by decide +kernel
theorem dX6_mean_25 : decode cX6_mean 25 = .ok (.iconst 2, 1) := by decide +kernel
theorem dX6_mean_26 : decode cX6_mean 26 = .ok (.invokevirtual 82, 3) := by decide +kernel
theorem dX6_mean_29 : decode cX6_mean 29 = .ok (.ifCond .eq 12, 3) := by decide +kernel
theorem dX6_mean_32 : decode cX6_mean 32 = .ok (.aload_n 0, 1) := by decide +kernel
theorem dX6_mean_33 : decode cX6_mean 33 = .ok (.iload_n 1, 1) := by decide +kernel
theorem dX6_mean_34 : decode cX6_mean 34 = .ok (.iload_n 2, 1) := by decide +kernel
theorem dX6_mean_35 : decode cX6_mean 35 = .ok (.invokevirtual 167, 3) := by decide +kernel
theorem dX6_mean_38 : decode cX6_mean 38 = .ok (.goto 4, 3) := by decide +kernel
theorem dX6_mean_41 : decode cX6_mean 41 = .ok (.iconst 0, 1) := by decide +kernel
theorem dX6_mean_42 : decode cX6_mean 42 = .ok (.ireturn, 1) := by decide +kernel
theorem dX6_bits_0 : decode cX6_bits 0 = .ok (.iconst 0, 1) := by decide +kernel
theorem dX6_bits_1 : decode cX6_bits 1 = .ok (.istore_n 1, 1) := by decide +kernel
theorem dX6_bits_2 : decode cX6_bits 2 = .ok (.iconst 0, 1) := by decide +kernel
theorem dX6_bits_3 : decode cX6_bits 3 = .ok (.istore_n 2, 1) := by decide +kernel
theorem dX6_bits_4 : decode cX6_bits 4 = .ok (.iload_n 2, 1) := by decide +kernel
theorem dX6_bits_5 : decode cX6_bits 5 = .ok (.iconst 5, 1) := by decide +kernel
theorem dX6_bits_6 : decode cX6_bits 6 = .ok (.if_icmp .ge 17, 3) := by decide +kernel
theorem dX6_bits_9 : decode cX6_bits 9 = .ok (.iload_n 1, 1) := by decide +kernel
theorem dX6_bits_10 : decode cX6_bits 10 = .ok (.iload_n 0, 1) := by decide +kernel
theorem dX6_bits_11 : decode cX6_bits 11 = .ok (.iload_n 2, 1) := by decide +kernel
theorem dX6_bits_12 : decode cX6_bits 12 = .ok (.ishr, 1) := by decide +kernel
theorem dX6_bits_13 : decode cX6_bits 13 = .ok (.iconst 1, 1) := by decide +kernel
theorem dX6_bits_14 : decode cX6_bits 14 = .ok (.iand, 1) := by decide +kernel
theorem dX6_bits_15 : decode cX6_bits 15 = .ok (.iadd, 1) := by decide +kernel
theorem dX6_bits_16 : decode cX6_bits 16 = .ok (.istore_n 1, 1) := by decide +kernel
theorem dX6_bits_17 : decode cX6_bits 17 = .ok (.iinc 2 1, 3) := by decide +kernel
theorem dX6_bits_20 : decode cX6_bits 20 = .ok (.goto (-16), 3) := by decide +kernel
theorem dX6_bits_23 : decode cX6_bits 23 = .ok (.iload_n 1, 1) := by decide +kernel
theorem dX6_bits_24 : decode cX6_bits 24 = .ok (.ireturn, 1) := by decide +kernel
set_option maxRecDepth 20000 in
theorem ggX6_chooses_X6_bits : GoodIn wsX6_chooses wsX6_bits := goodIn_r _ [8] (by decide +kernel) (by decide +kernel)
set_option maxRecDepth 20000 in
theorem gX6_chooses_X6_bits : GoodIn wsX6_chooses (va_wsS RX6 170 yX6_bits wsX6_bits) := goodIn_app (goodIn_of _ (by decide +kernel)) ggX6_chooses_X6_bits
set_option maxRecDepth 20000 in
theorem ggX6_chooses_X6_in : GoodIn wsX6_chooses wsX6_in := goodIn_r _ [12, 13, 20, 21, 22, 23, 24, 25, 26, 27, 28, 29, 30, 31, 32, 33, 34, 35, 36, 37, 38] (by decide +kernel) (by decide +kernel)
set_option maxRecDepth 20000 in
theorem gX6_chooses_X6_in : GoodIn wsX6_chooses (wsV RX6 133 RX6 yX6_in wsX6_in) := goodIn_app (goodIn_of _ (by decide +kernel)) ggX6_chooses_X6_in
set_option maxRecDepth 20000 in
theorem ggX6_chooses_X6_plus : GoodIn wsX6_chooses wsX6_plus := goodIn_r _ [16, 4] (by decide +kernel) (by decide +kernel)
set_option maxRecDepth 20000 in
theorem gX6_chooses_X6_plus : GoodIn wsX6_chooses (va_wsS RX6 121 yX6_plus wsX6_plus) := goodIn_app (goodIn_of _ (by decide +kernel)) ggX6_chooses_X6_plus
set_option maxRecDepth 20000 in
theorem ggX6_chooses_X6_lesser : GoodIn wsX6_chooses wsX6_lesser := goodIn_r _ [19] (by decide +kernel) (by decide +kernel)
set_option maxRecDepth 20000 in
theorem gX6_chooses_X6_lesser : GoodIn wsX6_chooses (va_wsS RX6 89 yX6_lesser wsX6_lesser) := goodIn_app (goodIn_of _ (by decide +kernel)) ggX6_chooses_X6_lesser
theorem dX6_chooses_0 : decode cX6_chooses 0 = .ok (.aload_n 0, 1) := by decide +kernel
theorem dX6_chooses_1 : decode cX6_chooses 1 = .ok (.getfield 19, 3) := by decide +kernel
theorem dX6_chooses_4 : decode cX6_chooses 4 = .ok (.iload_n 1, 1) := by decide +kernel
theorem dX6_chooses_5 : decode cX6_chooses 5 = .ok (.iaload, 1) := by decide +kernel
theorem dX6_chooses_6 : decode cX6_chooses 6 = .ok (.istore_n 2, 1) := by decide +kernel
theorem dX6_chooses_7 : decode cX6_chooses 7 = .ok (.aload_n 0, 1) := by decide +kernel
theorem dX6_chooses_8 : decode cX6_chooses 8 = .ok (.getfield 40, 3) := by decide +kernel
theorem dX6_chooses_11 : decode cX6_chooses 11 = .ok (.iconst 0, 1) := by decide +kernel
theorem dX6_chooses_12 : decode cX6_chooses 12 = .ok (.iconst 0, 1) := by decide +kernel
theorem dX6_chooses_13 : decode cX6_chooses 13 = .ok (.iastore, 1) := by decide +kernel
theorem dX6_chooses_14 : decode cX6_chooses 14 = .ok (.aload_n 0, 1) := by decide +kernel
theorem dX6_chooses_15 : decode cX6_chooses 15 = .ok (.getfield 43, 3) := by decide +kernel
theorem dX6_chooses_18 : decode cX6_chooses 18 = .ok (.iconst 0, 1) := by decide +kernel
theorem dX6_chooses_19 : decode cX6_chooses 19 = .ok (.iconst 1, 1) := by decide +kernel
theorem dX6_chooses_20 : decode cX6_chooses 20 = .ok (.iastore, 1) := by decide +kernel
theorem dX6_chooses_21 : decode cX6_chooses 21 = .ok (.iconst 1, 1) := by decide +kernel
theorem dX6_chooses_22 : decode cX6_chooses 22 = .ok (.istore_n 3, 1) := by decide +kernel
theorem dX6_chooses_23 : decode cX6_chooses 23 = .ok (.iload_n 3, 1) := by decide +kernel
theorem dX6_chooses_24 : decode cX6_chooses 24 = .ok (.iconst 1, 1) := by decide +kernel
theorem dX6_chooses_25 : decode cX6_chooses 25 = .ok (.iload_n 2, 1) := by decide +kernel
theorem dX6_chooses_26 : decode cX6_chooses 26 = .ok (.ishl, 1) := by decide +kernel
theorem dX6_chooses_27 : decode cX6_chooses 27 = .ok (.if_icmp .ge 174, 3) := by decide +kernel
theorem dX6_chooses_30 : decode cX6_chooses 30 = .ok (.iload_n 3, 1) := by decide +kernel
theorem dX6_chooses_31 : decode cX6_chooses 31 = .ok (.invokestatic 170, 3) := by decide +kernel
theorem dX6_chooses_34 : decode cX6_chooses 34 = .ok (.iconst 1, 1) := by decide +kernel
theorem dX6_chooses_35 : decode cX6_chooses 35 = .ok (.isub, 1) := by decide +kernel
theorem dX6_chooses_36 : decode cX6_chooses 36 = .ok (.istore 4, 2) := by decide +kernel
theorem dX6_chooses_38 : decode cX6_chooses 38 = .ok (.aload_n 0, 1) := by decide +kernel
theorem dX6_chooses_39 : decode cX6_chooses 39 = .ok (.getfield 40, 3) := by decide +kernel
theorem dX6_chooses_42 : decode cX6_chooses 42 = .ok (.iload_n 3, 1) := by decide +kernel
theorem dX6_chooses_43 : decode cX6_chooses 43 = .ok (.ldc 62, 2) := by decide +kernel
theorem dX6_chooses_45 : decode cX6_chooses 45 = .ok (.iastore, 1) := by decide +kernel
theorem dX6_chooses_46 : decode cX6_chooses 46 = .ok (.aload_n 0, 1) := by decide +kernel
theorem dX6_chooses_47 : decode cX6_chooses 47 = .ok (.getfield 43, 3) := by decide +kernel
theorem dX6_chooses_50 : decode cX6_chooses 50 = .ok (.iload_n 3, 1) := by decide +kernel
theorem dX6_chooses_51 : decode cX6_chooses 51 = .ok (.iconst 0, 1) := by decide +kernel
theorem dX6_chooses_52 : decode cX6_chooses 52 = .ok (.iastore, 1) := by decide +kernel
theorem dX6_chooses_53 : decode cX6_chooses 53 = .ok (.iconst 0, 1) := by decide +kernel
theorem dX6_chooses_54 : decode cX6_chooses 54 = .ok (.istore 5, 2) := by decide +kernel
theorem dX6_chooses_56 : decode cX6_chooses 56 = .ok (.iload 5, 2) := by decide +kernel
theorem dX6_chooses_58 : decode cX6_chooses 58 = .ok (.iload_n 2, 1) := by decide +kernel
theorem dX6_chooses_59 : decode cX6_chooses 59 = .ok (.if_icmp .ge 136, 3) := by decide +kernel
theorem dX6_chooses_62 : decode cX6_chooses 62 = .ok (.iload_n 3, 1) := by decide +kernel
theorem dX6_chooses_63 : decode cX6_chooses 63 = .ok (.iconst 1, 1) := by decide +kernel
theorem dX6_chooses_64 : decode cX6_chooses 64 = .ok (.iload 5, 2) := by decide +kernel
theorem dX6_chooses_66 : decode cX6_chooses 66 = .ok (.ishl, 1) := by decide +kernel
theorem dX6_chooses_67 : decode cX6_chooses 67 = .ok (.iconst (-1), 1) := by decide +kernel
theorem dX6_chooses_68 : decode cX6_chooses 68 = .ok (.ixor, 1) := by decide +kernel
theorem dX6_chooses_69 : decode cX6_chooses 69 = .ok (.iand, 1) := by decide +kernel
theorem dX6_chooses_70 : decode cX6_chooses 70 = .ok (.istore 6, 2) := by decide +kernel
theorem dX6_chooses_72 : decode cX6_chooses 72 = .ok (.iload 6, 2) := by decide +kernel
theorem dX6_chooses_74 : decode cX6_chooses 74 = .ok (.iload_n 3, 1) := by decide +kernel
theorem dX6_chooses_75 : decode cX6_chooses 75 = .ok (.if_icmp .ne 8, 3) := by decide +kernel
theorem dX6_chooses_78 : decode cX6_chooses 78 = .ok (.ldc 62, 2) := by decide +kernel
theorem dX6_chooses_80 : decode cX6_chooses 80 = .ok (.goto 22, 3) := by decide +kernel
theorem dX6_chooses_83 : decode cX6_chooses 83 = .ok (.aload_n 0, 1) := by decide +kernel
theorem dX6_chooses_84 : decode cX6_chooses 84 = .ok (.getfield 40, 3) := by decide +kernel
theorem dX6_chooses_87 : decode cX6_chooses 87 = .ok (.iload 6, 2) := by decide +kernel
theorem dX6_chooses_89 : decode cX6_chooses 89 = .ok (.iaload, 1) := by decide +kernel
theorem dX6_chooses_90 : decode cX6_chooses 90 = .ok (.aload_n 0, 1) := by decide +kernel
theorem dX6_chooses_91 : decode cX6_chooses 91 = .ok (.iload_n 1, 1) := by decide +kernel
theorem dX6_chooses_92 : decode cX6_chooses 92 = .ok (.iload 4, 2) := by decide +kernel
theorem dX6_chooses_94 : decode cX6_chooses 94 = .ok (.iload 5, 2) := by decide +kernel
theorem dX6_chooses_96 : decode cX6_chooses 96 = .ok (.invokevirtual 133, 3) := by decide +kernel
theorem dX6_chooses_99 : decode cX6_chooses 99 = .ok (.invokestatic 121, 3) := by decide +kernel
theorem dX6_chooses_102 : decode cX6_chooses 102 = .ok (.istore 7, 2) := by decide +kernel
theorem dX6_chooses_104 : decode cX6_chooses 104 = .ok (.aload_n 0, 1) := by decide +kernel
theorem dX6_chooses_105 : decode cX6_chooses 105 = .ok (.getfield 43, 3) := by decide +kernel
theorem dX6_chooses_108 : decode cX6_chooses 108 = .ok (.iload_n 3, 1) := by decide +kernel
theorem dX6_chooses_109 : decode cX6_chooses 109 = .ok (.iload 7, 2) := by decide +kernel
theorem dX6_chooses_111 : decode cX6_chooses 111 = .ok (.aload_n 0, 1) := by decide +kernel
theorem dX6_chooses_112 : decode cX6_chooses 112 = .ok (.getfield 40, 3) := by decide +kernel
theorem dX6_chooses_115 : decode cX6_chooses 115 = .ok (.iload_n 3, 1) := by decide +kernel
theorem dX6_chooses_116 : decode cX6_chooses 116 = .ok (.iaload, 1) := by decide +kernel
theorem dX6_chooses_117 : decode cX6_chooses 117 = .ok (.if_icmp .ge 13, 3) := by decide +kernel
theorem dX6_chooses_120 : decode cX6_chooses 120 = .ok (.aload_n 0, 1) := by decide +kernel
theorem dX6_chooses_121 : decode cX6_chooses 121 = .ok (.getfield 43, 3) := by decide +kernel
theorem dX6_chooses_124 : decode cX6_chooses 124 = .ok (.iload 6, 2) := by decide +kernel
theorem dX6_chooses_126 : decode cX6_chooses 126 = .ok (.iaload, 1) := by decide +kernel
theorem dX6_chooses_127 : decode cX6_chooses 127 = .ok (.goto 44, 3) := by decide +kernel
theorem dX6_chooses_130 : decode cX6_chooses 130 = .ok (.iload 7, 2) := by decide +kernel
theorem dX6_chooses_132 : decode cX6_chooses 132 = .ok (.aload_n 0, 1) := by decide +kernel
theorem dX6_chooses_133 : decode cX6_chooses 133 = .ok (.getfield 40, 3) := by decide +kernel
theorem dX6_chooses_136 : decode cX6_chooses 136 = .ok (.iload_n 3, 1) := by decide +kernel
theorem dX6_chooses_137 : decode cX6_chooses 137 = .ok (.iaload, 1) := by decide +kernel
theorem dX6_chooses_138 : decode cX6_chooses 138 = .ok (.if_icmp .ne 27, 3) := by decide +kernel
theorem dX6_chooses_141 : decode cX6_chooses 141 = .ok (.iload 7, 2) := by decide +kernel
theorem dX6_chooses_143 : decode cX6_chooses 143 = .ok (.ldc 62, 2) := by decide +kernel
theorem dX6_chooses_145 : decode cX6_chooses 145 = .ok (.if_icmp .eq 20, 3) := by decide +kernel
theorem dX6_chooses_148 : decode cX6_chooses 148 = .ok (.aload_n 0, 1) := by decide +kernel
theorem dX6_chooses_149 : decode cX6_chooses 149 = .ok (.getfield 43, 3) := by decide +kernel
theorem dX6_chooses_152 : decode cX6_chooses 152 = .ok (.iload_n 3, 1) := by decide +kernel
theorem dX6_chooses_153 : decode cX6_chooses 153 = .ok (.iaload, 1) := by decide +kernel
theorem dX6_chooses_154 : decode cX6_chooses 154 = .ok (.aload_n 0, 1) := by decide +kernel
theorem dX6_chooses_155 : decode cX6_chooses 155 = .ok (.getfield 43, 3) := by decide +kernel
theorem dX6_chooses_158 : decode cX6_chooses 158 = .ok (.iload 6, 2) := by decide +kernel
theorem dX6_chooses_160 : decode cX6_chooses 160 = .ok (.iaload, 1) := by decide +kernel
theorem dX6_chooses_161 : decode cX6_chooses 161 = .ok (.iadd, 1) := by decide +kernel
theorem dX6_chooses_162 : decode cX6_chooses 162 = .ok (.goto 9, 3) := by decide +kernel
theorem dX6_chooses_165 : decode cX6_chooses 165 = .ok (.aload_n 0, 1) := by decide +kernel
theorem dX6_chooses_166 : decode cX6_chooses 166 = .ok (.getfield 43, 3) := by decide +kernel
theorem dX6_chooses_169 : decode cX6_chooses 169 = .ok (.iload_n 3, 1) := by decide +kernel
theorem dX6_chooses_170 : decode cX6_chooses 170 = .ok (.iaload, 1) := by decide +kernel
theorem dX6_chooses_171 : decode cX6_chooses 171 = .ok (.iastore, 1) := by decide +kernel
theorem dX6_chooses_172 : decode cX6_chooses 172 = .ok (.aload_n 0, 1) := by decide +kernel
theorem dX6_chooses_173 : decode cX6_chooses 173 = .ok (.getfield 40, 3) := by decide +kernel
theorem dX6_chooses_176 : decode cX6_chooses 176 = .ok (.iload_n 3, 1) := by decide +kernel
theorem dX6_chooses_177 : decode cX6_chooses 177 = .ok (.aload_n 0, 1) := by decide +kernel
theorem dX6_chooses_178 : decode cX6_chooses 178 = .ok (.getfield 40, 3) := by decide +kernel
theorem dX6_chooses_181 : decode cX6_chooses 181 = .ok (.iload_n 3, 1) := by decide +kernel
theorem dX6_chooses_182 : decode cX6_chooses 182 = .ok (.iaload, 1) := by decide +kernel
theorem dX6_chooses_183 : decode cX6_chooses 183 = .ok (.iload 7, 2) := by decide +kernel
theorem dX6_chooses_185 : decode cX6_chooses 185 = .ok (.invokestatic 89, 3) := by decide +kernel
theorem dX6_chooses_188 : decode cX6_chooses 188 = .ok (.iastore, 1) := by decide +kernel
theorem dX6_chooses_189 : decode cX6_chooses 189 = .ok (.iinc 5 1, 3) := by decide +kernel
theorem dX6_chooses_192 : decode cX6_chooses 192 = .ok (.goto (-136), 3) := by decide +kernel
theorem dX6_chooses_195 : decode cX6_chooses 195 = .ok (.iinc 3 1, 3) := by decide +kernel
theorem dX6_chooses_198 : decode cX6_chooses 198 = .ok (.goto (-175), 3) := by decide +kernel
theorem dX6_chooses_201 : decode cX6_chooses 201 = .ok (.return_, 1) := by decide +kernel
set_option maxRecDepth 20000 in
theorem ggX6_determinantOf_X6_chooses : GoodIn wsX6_determinantOf wsX6_chooses := goodIn_r _ [7, 2, 1, 8, 9, 10, 11, 6, 12, 13, 14, 15, 16, 17, 18, 19, 20, 21, 22, 23, 24, 25, 26, 27, 28, 29, 30, 31, 32, 33, 34, 35, 36, 37, 38, 39, 40, 41, 42] (by decide +kernel) (by decide +kernel)
set_option maxRecDepth 20000 in
theorem gX6_determinantOf_X6_chooses : GoodIn wsX6_determinantOf (wsV RX6 173 RX6 yX6_chooses wsX6_chooses) := goodIn_app (goodIn_of _ (by decide +kernel)) ggX6_determinantOf_X6_chooses
theorem dX6_determinantOf_0 : decode cX6_determinantOf 0 = .ok (.aload_n 0, 1) := by decide +kernel
theorem dX6_determinantOf_1 : decode cX6_determinantOf 1 = .ok (.iload_n 1, 1) := by decide +kernel
theorem dX6_determinantOf_2 : decode cX6_determinantOf 2 = .ok (.invokevirtual 173, 3) := by decide +kernel
theorem dX6_determinantOf_5 : decode cX6_determinantOf 5 = .ok (.aload_n 0, 1) := by decide +kernel
theorem dX6_determinantOf_6 : decode cX6_determinantOf 6 = .ok (.getfield 40, 3) := by decide +kernel
theorem dX6_determinantOf_9 : decode cX6_determinantOf 9 = .ok (.iconst 1, 1) := by decide +kernel
theorem dX6_determinantOf_10 : decode cX6_determinantOf 10 = .ok (.aload_n 0, 1) := by decide +kernel
theorem dX6_determinantOf_11 : decode cX6_determinantOf 11 = .ok (.getfield 19, 3) := by decide +kernel
theorem dX6_determinantOf_14 : decode cX6_determinantOf 14 = .ok (.iload_n 1, 1) := by decide +kernel
theorem dX6_determinantOf_15 : decode cX6_determinantOf 15 = .ok (.iaload, 1) := by decide +kernel
theorem dX6_determinantOf_16 : decode cX6_determinantOf 16 = .ok (.ishl, 1) := by decide +kernel
theorem dX6_determinantOf_17 : decode cX6_determinantOf 17 = .ok (.iconst 1, 1) := by decide +kernel
theorem dX6_determinantOf_18 : decode cX6_determinantOf 18 = .ok (.isub, 1) := by decide +kernel
theorem dX6_determinantOf_19 : decode cX6_determinantOf 19 = .ok (.iaload, 1) := by decide +kernel
theorem dX6_determinantOf_20 : decode cX6_determinantOf 20 = .ok (.ireturn, 1) := by decide +kernel
set_option maxRecDepth 20000 in
theorem ggX6_determinant_X6_isOne : GoodIn wsX6_determinant wsX6_isOne := goodIn_r _ [4, 5, 6, 3, 7] (by decide +kernel) (by decide +kernel)
set_option maxRecDepth 20000 in
theorem gX6_determinant_X6_isOne : GoodIn wsX6_determinant (va_wsS RX6 75 yX6_isOne wsX6_isOne) := goodIn_app (goodIn_of _ (by decide +kernel)) ggX6_determinant_X6_isOne
set_option maxRecDepth 20000 in
theorem ggX6_determinant_X6_can : GoodIn wsX6_determinant wsX6_can := goodIn_r _ [11, 12, 39, 40, 41, 42, 43, 44, 45, 46, 47, 48, 49, 50, 51, 52, 53, 54, 55, 56, 57] (by decide +kernel) (by decide +kernel)
set_option maxRecDepth 20000 in
theorem gX6_determinant_X6_can : GoodIn wsX6_determinant (wsV RX6 82 RX6 yX6_can wsX6_can) := goodIn_app (goodIn_of _ (by decide +kernel)) ggX6_determinant_X6_can
set_option maxRecDepth 20000 in
theorem ggX6_determinant_X6_determinantOf : GoodIn wsX6_determinant wsX6_determinantOf := goodIn_r _ [16, 17, 18, 19, 20, 21, 3, 22, 23, 24, 25, 26, 27, 28, 29, 30, 31, 32, 33, 34, 35, 36, 37, 38, 39, 40, 41, 42, 43, 44, 45, 46, 47, 48, 49, 50, 51, 52, 53, 54, 55, 56, 57] (by decide +kernel) (by decide +kernel)
set_option maxRecDepth 20000 in
theorem gX6_determinant_X6_determinantOf : GoodIn wsX6_determinant (wsV RX6 176 RX6 yX6_determinantOf wsX6_determinantOf) := goodIn_app (goodIn_of _ (by decide +kernel)) ggX6_determinant_X6_determinantOf
theorem dX6_determinant_0 : decode cX6_determinant 0 = .ok (.aload_n 0, 1) := by decide +kernel
theorem dX6_determinant_1 : decode cX6_determinant 1 = .ok (.iload_n 1, 1) := by decide +kernel
theorem dX6_determinant_2 : decode cX6_determinant 2 = .ok (.invokestatic 75, 3) := by decide +kernel
theorem dX6_determinant_5 : decode cX6_determinant 5 = .ok (.ifCond .eq 7, 3) := by decide +kernel
theorem dX6_determinant_8 : decode cX6_determinant 8 = .ok (.iconst 0, 1) := by decide +kernel
theorem dX6_determinant_9 : decode cX6_determinant 9 = .ok (.goto 4, 3) := by decide +kernel
theorem dX6_determinant_12 : decode cX6_determinant 12 = .ok (.iconst 1, 1) := by decide +kernel
theorem dX6_determinant_13 : decode cX6_determinant 13 = .ok (.invokevirtual 82, 3) := by decide +kernel
theorem dX6_determinant_16 : decode cX6_determinant 16 = .ok (.ifCond .eq 11, 3) := by decide +kernel
theorem dX6_determinant_19 : decode cX6_determinant 19 = .ok (.aload_n 0, 1) := by decide +kernel
theorem dX6_determinant_20 : decode cX6_determinant 20 = .ok (.iload_n 1, 1) := by decide +kernel
theorem dX6_determinant_21 : decode cX6_determinant 21 = .ok (.invokevirtual 176, 3) := by decide +kernel
theorem dX6_determinant_24 : decode cX6_determinant 24 = .ok (.goto 4, 3) := by decide +kernel
theorem dX6_determinant_27 : decode cX6_determinant 27 = .ok (.iconst 0, 1) := by decide +kernel
theorem dX6_determinant_28 : decode cX6_determinant 28 = .ok (.ireturn, 1) := by decide +kernel
set_option maxRecDepth 20000 in
theorem ggX6_waysOf_X6_chooses : GoodIn wsX6_waysOf wsX6_chooses := goodIn_r _ [7, 2, 8, 1, 9, 10, 11, 6, 12, 13, 14, 15, 16, 17, 18, 19, 20, 21, 22, 23, 24, 25, 26, 27, 28, 29, 30, 31, 32, 33, 34, 35, 36, 37, 38, 39, 40, 41, 42] (by decide +kernel) (by decide +kernel)
set_option maxRecDepth 20000 in
theorem gX6_waysOf_X6_chooses : GoodIn wsX6_waysOf (wsV RX6 173 RX6 yX6_chooses wsX6_chooses) := goodIn_app (goodIn_of _ (by decide +kernel)) ggX6_waysOf_X6_chooses
theorem dX6_waysOf_0 : decode cX6_waysOf 0 = .ok (.aload_n 0, 1) := by decide +kernel
theorem dX6_waysOf_1 : decode cX6_waysOf 1 = .ok (.iload_n 1, 1) := by decide +kernel
theorem dX6_waysOf_2 : decode cX6_waysOf 2 = .ok (.invokevirtual 173, 3) := by decide +kernel
theorem dX6_waysOf_5 : decode cX6_waysOf 5 = .ok (.aload_n 0, 1) := by decide +kernel
theorem dX6_waysOf_6 : decode cX6_waysOf 6 = .ok (.getfield 43, 3) := by decide +kernel
theorem dX6_waysOf_9 : decode cX6_waysOf 9 = .ok (.iconst 1, 1) := by decide +kernel
theorem dX6_waysOf_10 : decode cX6_waysOf 10 = .ok (.aload_n 0, 1) := by decide +kernel
theorem dX6_waysOf_11 : decode cX6_waysOf 11 = .ok (.getfield 19, 3) := by decide +kernel
theorem dX6_waysOf_14 : decode cX6_waysOf 14 = .ok (.iload_n 1, 1) := by decide +kernel
theorem dX6_waysOf_15 : decode cX6_waysOf 15 = .ok (.iaload, 1) := by decide +kernel
theorem dX6_waysOf_16 : decode cX6_waysOf 16 = .ok (.ishl, 1) := by decide +kernel
theorem dX6_waysOf_17 : decode cX6_waysOf 17 = .ok (.iconst 1, 1) := by decide +kernel
theorem dX6_waysOf_18 : decode cX6_waysOf 18 = .ok (.isub, 1) := by decide +kernel
theorem dX6_waysOf_19 : decode cX6_waysOf 19 = .ok (.iaload, 1) := by decide +kernel
theorem dX6_waysOf_20 : decode cX6_waysOf 20 = .ok (.ireturn, 1) := by decide +kernel
set_option maxRecDepth 20000 in
theorem ggX6_ways_X6_isOne : GoodIn wsX6_ways wsX6_isOne := goodIn_r _ [4, 5, 6, 3, 7] (by decide +kernel) (by decide +kernel)
set_option maxRecDepth 20000 in
theorem gX6_ways_X6_isOne : GoodIn wsX6_ways (va_wsS RX6 75 yX6_isOne wsX6_isOne) := goodIn_app (goodIn_of _ (by decide +kernel)) ggX6_ways_X6_isOne
set_option maxRecDepth 20000 in
theorem ggX6_ways_X6_can : GoodIn wsX6_ways wsX6_can := goodIn_r _ [11, 12, 39, 40, 41, 42, 43, 44, 45, 46, 47, 48, 49, 50, 51, 52, 53, 54, 55, 56, 57] (by decide +kernel) (by decide +kernel)
set_option maxRecDepth 20000 in
theorem gX6_ways_X6_can : GoodIn wsX6_ways (wsV RX6 82 RX6 yX6_can wsX6_can) := goodIn_app (goodIn_of _ (by decide +kernel)) ggX6_ways_X6_can
set_option maxRecDepth 20000 in
theorem ggX6_ways_X6_waysOf : GoodIn wsX6_ways wsX6_waysOf := goodIn_r _ [16, 17, 18, 19, 20, 21, 3, 22, 23, 24, 25, 26, 27, 28, 29, 30, 31, 32, 33, 34, 35, 36, 37, 38, 39, 40, 41, 42, 43, 44, 45, 46, 47, 48, 49, 50, 51, 52, 53, 54, 55, 56, 57] (by decide +kernel) (by decide +kernel)
set_option maxRecDepth 20000 in
theorem gX6_ways_X6_waysOf : GoodIn wsX6_ways (wsV RX6 179 RX6 yX6_waysOf wsX6_waysOf) := goodIn_app (goodIn_of _ (by decide +kernel)) ggX6_ways_X6_waysOf
theorem dX6_ways_0 : decode cX6_ways 0 = .ok (.aload_n 0, 1) := by decide +kernel
theorem dX6_ways_1 : decode cX6_ways 1 = .ok (.iload_n 1, 1) := by decide +kernel
theorem dX6_ways_2 : decode cX6_ways 2 = .ok (.invokestatic 75, 3) := by decide +kernel
theorem dX6_ways_5 : decode cX6_ways 5 = .ok (.ifCond .eq 7, 3) := by decide +kernel
theorem dX6_ways_8 : decode cX6_ways 8 = .ok (.iconst 0, 1) := by decide +kernel
theorem dX6_ways_9 : decode cX6_ways 9 = .ok (.goto 4, 3) := by decide +kernel
theorem dX6_ways_12 : decode cX6_ways 12 = .ok (.iconst 1, 1) := by decide +kernel
theorem dX6_ways_13 : decode cX6_ways 13 = .ok (.invokevirtual 82, 3) := by decide +kernel
theorem dX6_ways_16 : decode cX6_ways 16 = .ok (.ifCond .eq 11, 3) := by decide +kernel
theorem dX6_ways_19 : decode cX6_ways 19 = .ok (.aload_n 0, 1) := by decide +kernel
theorem dX6_ways_20 : decode cX6_ways 20 = .ok (.iload_n 1, 1) := by decide +kernel
theorem dX6_ways_21 : decode cX6_ways 21 = .ok (.invokevirtual 179, 3) := by decide +kernel
theorem dX6_ways_24 : decode cX6_ways 24 = .ok (.goto 4, 3) := by decide +kernel
theorem dX6_ways_27 : decode cX6_ways 27 = .ok (.iconst 0, 1) := by decide +kernel
theorem dX6_ways_28 : decode cX6_ways 28 = .ok (.ireturn, 1) := by decide +kernel
theorem dX6_partOf_0 : decode cX6_partOf 0 = .ok (.aload_n 0, 1) := by decide +kernel
theorem dX6_partOf_1 : decode cX6_partOf 1 = .ok (.getfield 34, 3) := by decide +kernel
theorem dX6_partOf_4 : decode cX6_partOf 4 = .ok (.iconst 5, 1) := by decide +kernel
theorem dX6_partOf_5 : decode cX6_partOf 5 = .ok (.iload_n 1, 1) := by decide +kernel
theorem dX6_partOf_6 : decode cX6_partOf 6 = .ok (.imul, 1) := by decide +kernel
theorem dX6_partOf_7 : decode cX6_partOf 7 = .ok (.iload_n 2, 1) := by decide +kernel
theorem dX6_partOf_8 : decode cX6_partOf 8 = .ok (.iadd, 1) := by decide +kernel
theorem dX6_partOf_9 : decode cX6_partOf 9 = .ok (.iaload, 1) := by decide +kernel
theorem dX6_partOf_10 : decode cX6_partOf 10 = .ok (.ireturn, 1) := by decide +kernel
set_option maxRecDepth 20000 in
theorem ggX6_areNumbers_X6_partOf : GoodIn wsX6_areNumbers wsX6_partOf := goodIn_r _ [6, 7, 8, 9, 10, 11, 12, 13, 14, 15, 16, 17, 18, 19, 20, 21, 22, 23, 24, 25, 26] (by decide +kernel) (by decide +kernel)
set_option maxRecDepth 20000 in
theorem gX6_areNumbers_X6_partOf : GoodIn wsX6_areNumbers (wsV RX6 182 RX6 yX6_partOf wsX6_partOf) := goodIn_app (goodIn_of _ (by decide +kernel)) ggX6_areNumbers_X6_partOf
theorem dX6_areNumbers_0 : decode cX6_areNumbers 0 = .ok (.iconst 1, 1) := by decide +kernel
theorem dX6_areNumbers_1 : decode cX6_areNumbers 1 = .ok (.istore_n 3, 1) := by decide +kernel
theorem dX6_areNumbers_2 : decode cX6_areNumbers 2 = .ok (.iconst 0, 1) := by decide +kernel
theorem dX6_areNumbers_3 : decode cX6_areNumbers 3 = .ok (.istore 4, 2) := by decide +kernel
theorem dX6_areNumbers_5 : decode cX6_areNumbers 5 = .ok (.iload 4, 2) := by decide +kernel
theorem dX6_areNumbers_7 : decode cX6_areNumbers 7 = .ok (.iload_n 2, 1) := by decide +kernel
theorem dX6_areNumbers_8 : decode cX6_areNumbers 8 = .ok (.if_icmp .ge 31, 3) := by decide +kernel
theorem dX6_areNumbers_11 : decode cX6_areNumbers 11 = .ok (.iload_n 3, 1) := by decide +kernel
theorem dX6_areNumbers_12 : decode cX6_areNumbers 12 = .ok (.ifCond .eq 19, 3) := by decide +kernel
theorem dX6_areNumbers_15 : decode cX6_areNumbers 15 = .ok (.aload_n 0, 1) := by decide +kernel
theorem dX6_areNumbers_16 : decode cX6_areNumbers 16 = .ok (.iload_n 1, 1) := by decide +kernel
theorem dX6_areNumbers_17 : decode cX6_areNumbers 17 = .ok (.iload 4, 2) := by decide +kernel
theorem dX6_areNumbers_19 : decode cX6_areNumbers 19 = .ok (.invokevirtual 182, 3) := by decide +kernel
theorem dX6_areNumbers_22 : decode cX6_areNumbers 22 = .ok (.ldc 62, 2) := by decide +kernel
theorem dX6_areNumbers_24 : decode cX6_areNumbers 24 = .ok (.if_icmp .eq 7, 3) := by decide +kernel
theorem dX6_areNumbers_27 : decode cX6_areNumbers 27 = .ok (.iconst 1, 1) := by decide +kernel
theorem dX6_areNumbers_28 : decode cX6_areNumbers 28 = .ok (.goto 4, 3) := by decide +kernel
theorem dX6_areNumbers_31 : decode cX6_areNumbers 31 = .ok (.iconst 0, 1) := by decide +kernel
theorem dX6_areNumbers_32 : decode cX6_areNumbers 32 = .ok (.istore_n 3, 1) := by decide +kernel
theorem dX6_areNumbers_33 : decode cX6_areNumbers 33 = .ok (.iinc 4 1, 3) := by decide +kernel
theorem dX6_areNumbers_36 : decode cX6_areNumbers 36 = .ok (.goto (-31), 3) := by decide +kernel
theorem dX6_areNumbers_39 : decode cX6_areNumbers 39 = .ok (.iload_n 3, 1) := by decide +kernel
theorem dX6_areNumbers_40 : decode cX6_areNumbers 40 = .ok (.ireturn, 1) := by decide +kernel
set_option maxRecDepth 20000 in
theorem ggX6_isFoundNear_X6_isFar : GoodIn wsX6_isFoundNear wsX6_isFar := goodIn_r _ [6, 7, 8, 9, 5, 10] (by decide +kernel) (by decide +kernel)
set_option maxRecDepth 20000 in
theorem gX6_isFoundNear_X6_isFar : GoodIn wsX6_isFoundNear (va_wsS RX6 124 yX6_isFar wsX6_isFar) := goodIn_app (goodIn_of _ (by decide +kernel)) ggX6_isFoundNear_X6_isFar
theorem dX6_isFoundNear_0 : decode cX6_isFoundNear 0 = .ok (.iconst 1, 1) := by decide +kernel
theorem dX6_isFoundNear_1 : decode cX6_isFoundNear 1 = .ok (.istore_n 2, 1) := by decide +kernel
theorem dX6_isFoundNear_2 : decode cX6_isFoundNear 2 = .ok (.iconst 0, 1) := by decide +kernel
theorem dX6_isFoundNear_3 : decode cX6_isFoundNear 3 = .ok (.istore_n 3, 1) := by decide +kernel
theorem dX6_isFoundNear_4 : decode cX6_isFoundNear 4 = .ok (.iload_n 3, 1) := by decide +kernel
theorem dX6_isFoundNear_5 : decode cX6_isFoundNear 5 = .ok (.iload_n 1, 1) := by decide +kernel
theorem dX6_isFoundNear_6 : decode cX6_isFoundNear 6 = .ok (.if_icmp .ge 33, 3) := by decide +kernel
theorem dX6_isFoundNear_9 : decode cX6_isFoundNear 9 = .ok (.iload_n 2, 1) := by decide +kernel
theorem dX6_isFoundNear_10 : decode cX6_isFoundNear 10 = .ok (.ifCond .eq 21, 3) := by decide +kernel
theorem dX6_isFoundNear_13 : decode cX6_isFoundNear 13 = .ok (.aload_n 0, 1) := by decide +kernel
theorem dX6_isFoundNear_14 : decode cX6_isFoundNear 14 = .ok (.getfield 37, 3) := by decide +kernel
theorem dX6_isFoundNear_17 : decode cX6_isFoundNear 17 = .ok (.iload_n 3, 1) := by decide +kernel
theorem dX6_isFoundNear_18 : decode cX6_isFoundNear 18 = .ok (.iaload, 1) := by decide +kernel
theorem dX6_isFoundNear_19 : decode cX6_isFoundNear 19 = .ok (.ldc 140, 2) := by decide +kernel
theorem dX6_isFoundNear_21 : decode cX6_isFoundNear 21 = .ok (.invokestatic 124, 3) := by decide +kernel
theorem dX6_isFoundNear_24 : decode cX6_isFoundNear 24 = .ok (.ifCond .ne 7, 3) := by decide +kernel
theorem dX6_isFoundNear_27 : decode cX6_isFoundNear 27 = .ok (.iconst 1, 1) := by decide +kernel
theorem dX6_isFoundNear_28 : decode cX6_isFoundNear 28 = .ok (.goto 4, 3) := by decide +kernel
theorem dX6_isFoundNear_31 : decode cX6_isFoundNear 31 = .ok (.iconst 0, 1) := by decide +kernel
theorem dX6_isFoundNear_32 : decode cX6_isFoundNear 32 = .ok (.istore_n 2, 1) := by decide +kernel
theorem dX6_isFoundNear_33 : decode cX6_isFoundNear 33 = .ok (.iinc 3 1, 3) := by decide +kernel
theorem dX6_isFoundNear_36 : decode cX6_isFoundNear 36 = .ok (.goto (-32), 3) := by decide +kernel
theorem dX6_isFoundNear_39 : decode cX6_isFoundNear 39 = .ok (.iload_n 2, 1) := by decide +kernel
theorem dX6_isFoundNear_40 : decode cX6_isFoundNear 40 = .ok (.ireturn, 1) := by decide +kernel
set_option maxRecDepth 20000 in
theorem ggX6_canSolve_X6_areNumbers : GoodIn wsX6_canSolve wsX6_areNumbers := goodIn_r _ [8, 3, 9, 10, 11, 7, 12, 13, 30, 31, 32, 33, 34, 35, 36, 37, 38, 39, 40, 41, 42, 43, 44, 45, 46, 47, 48] (by decide +kernel) (by decide +kernel)
set_option maxRecDepth 20000 in
theorem gX6_canSolve_X6_areNumbers : GoodIn wsX6_canSolve (wsV RX6 185 RX6 yX6_areNumbers wsX6_areNumbers) := goodIn_app (goodIn_of _ (by decide +kernel)) ggX6_canSolve_X6_areNumbers
set_option maxRecDepth 20000 in
theorem ggX6_canSolve_X6_in : GoodIn wsX6_canSolve wsX6_in := goodIn_r _ [17, 18, 30, 31, 32, 33, 34, 35, 36, 37, 38, 39, 40, 41, 42, 43, 44, 45, 46, 47, 48] (by decide +kernel) (by decide +kernel)
set_option maxRecDepth 20000 in
theorem gX6_canSolve_X6_in : GoodIn wsX6_canSolve (wsV RX6 133 RX6 yX6_in wsX6_in) := goodIn_app (goodIn_of _ (by decide +kernel)) ggX6_canSolve_X6_in
set_option maxRecDepth 20000 in
theorem ggX6_canSolve_X6_partOf : GoodIn wsX6_canSolve wsX6_partOf := goodIn_r _ [12, 13, 30, 31, 32, 33, 34, 35, 36, 37, 38, 39, 40, 41, 42, 43, 44, 45, 46, 47, 48] (by decide +kernel) (by decide +kernel)
set_option maxRecDepth 20000 in
theorem gX6_canSolve_X6_partOf : GoodIn wsX6_canSolve (wsV RX6 182 RX6 yX6_partOf wsX6_partOf) := goodIn_app (goodIn_of _ (by decide +kernel)) ggX6_canSolve_X6_partOf
set_option maxRecDepth 20000 in
theorem ggX6_canSolve_X6_isFoundNear : GoodIn wsX6_canSolve wsX6_isFoundNear := goodIn_r _ [22, 2, 23, 24, 25, 7, 26, 3, 27, 28, 29, 30, 31, 32, 33, 34, 35, 36, 37, 38, 39, 40, 41, 42, 43, 44, 45, 46, 47, 48] (by decide +kernel) (by decide +kernel)
set_option maxRecDepth 20000 in
theorem gX6_canSolve_X6_isFoundNear : GoodIn wsX6_canSolve (wsV RX6 188 RX6 yX6_isFoundNear wsX6_isFoundNear) := goodIn_app (goodIn_of _ (by decide +kernel)) ggX6_canSolve_X6_isFoundNear
theorem dX6_canSolve_0 : decode cX6_canSolve 0 = .ok (.aload_n 0, 1) := by decide +kernel
theorem dX6_canSolve_1 : decode cX6_canSolve 1 = .ok (.getfield 19, 3) := by decide +kernel
theorem dX6_canSolve_4 : decode cX6_canSolve 4 = .ok (.iload_n 1, 1) := by decide +kernel
theorem dX6_canSolve_5 : decode cX6_canSolve 5 = .ok (.iaload, 1) := by decide +kernel
theorem dX6_canSolve_6 : decode cX6_canSolve 6 = .ok (.istore_n 3, 1) := by decide +kernel
theorem dX6_canSolve_7 : decode cX6_canSolve 7 = .ok (.aload_n 0, 1) := by decide +kernel
theorem dX6_canSolve_8 : decode cX6_canSolve 8 = .ok (.iload_n 2, 1) := by decide +kernel
theorem dX6_canSolve_9 : decode cX6_canSolve 9 = .ok (.iload_n 3, 1) := by decide +kernel
theorem dX6_canSolve_10 : decode cX6_canSolve 10 = .ok (.invokevirtual 185, 3) := by decide +kernel
theorem dX6_canSolve_13 : decode cX6_canSolve 13 = .ok (.ifCond .ne 5, 3) := by decide +kernel
theorem dX6_canSolve_16 : decode cX6_canSolve 16 = .ok (.iconst 0, 1) := by decide +kernel
theorem dX6_canSolve_17 : decode cX6_canSolve 17 = .ok (.ireturn, 1) := by decide +kernel
theorem dX6_canSolve_18 : decode cX6_canSolve 18 = .ok (.iconst 0, 1) := by decide +kernel
theorem dX6_canSolve_19 : decode cX6_canSolve 19 = .ok (.istore 4, 2) := by decide +kernel
theorem dX6_canSolve_21 : decode cX6_canSolve 21 = .ok (.iload 4, 2) := by decide +kernel
theorem dX6_canSolve_23 : decode cX6_canSolve 23 = .ok (.iload_n 3, 1) := by decide +kernel
theorem dX6_canSolve_24 : decode cX6_canSolve 24 = .ok (.if_icmp .ge 106, 3) := by decide +kernel
theorem dX6_canSolve_27 : decode cX6_canSolve 27 = .ok (.aload_n 0, 1) := by decide +kernel
theorem dX6_canSolve_28 : decode cX6_canSolve 28 = .ok (.getfield 37, 3) := by decide +kernel
theorem dX6_canSolve_31 : decode cX6_canSolve 31 = .ok (.iload 4, 2) := by decide +kernel
theorem dX6_canSolve_33 : decode cX6_canSolve 33 = .ok (.ldc 62, 2) := by decide +kernel
theorem dX6_canSolve_35 : decode cX6_canSolve 35 = .ok (.iastore, 1) := by decide +kernel
theorem dX6_canSolve_36 : decode cX6_canSolve 36 = .ok (.iconst 0, 1) := by decide +kernel
theorem dX6_canSolve_37 : decode cX6_canSolve 37 = .ok (.istore 5, 2) := by decide +kernel
theorem dX6_canSolve_39 : decode cX6_canSolve 39 = .ok (.iload 5, 2) := by decide +kernel
theorem dX6_canSolve_41 : decode cX6_canSolve 41 = .ok (.iload_n 3, 1) := by decide +kernel
theorem dX6_canSolve_42 : decode cX6_canSolve 42 = .ok (.if_icmp .ge 82, 3) := by decide +kernel
theorem dX6_canSolve_45 : decode cX6_canSolve 45 = .ok (.aload_n 0, 1) := by decide +kernel
theorem dX6_canSolve_46 : decode cX6_canSolve 46 = .ok (.iload_n 1, 1) := by decide +kernel
theorem dX6_canSolve_47 : decode cX6_canSolve 47 = .ok (.iload 5, 2) := by decide +kernel
theorem dX6_canSolve_49 : decode cX6_canSolve 49 = .ok (.iload 4, 2) := by decide +kernel
theorem dX6_canSolve_51 : decode cX6_canSolve 51 = .ok (.invokevirtual 133, 3) := by decide +kernel
theorem dX6_canSolve_54 : decode cX6_canSolve 54 = .ok (.istore 6, 2) := by decide +kernel
theorem dX6_canSolve_56 : decode cX6_canSolve 56 = .ok (.aload_n 0, 1) := by decide +kernel
theorem dX6_canSolve_57 : decode cX6_canSolve 57 = .ok (.iload_n 2, 1) := by decide +kernel
theorem dX6_canSolve_58 : decode cX6_canSolve 58 = .ok (.iload 5, 2) := by decide +kernel
theorem dX6_canSolve_60 : decode cX6_canSolve 60 = .ok (.invokevirtual 182, 3) := by decide +kernel
theorem dX6_canSolve_63 : decode cX6_canSolve 63 = .ok (.iload 6, 2) := by decide +kernel
theorem dX6_canSolve_65 : decode cX6_canSolve 65 = .ok (.isub, 1) := by decide +kernel
theorem dX6_canSolve_66 : decode cX6_canSolve 66 = .ok (.istore 7, 2) := by decide +kernel
theorem dX6_canSolve_68 : decode cX6_canSolve 68 = .ok (.aload_n 0, 1) := by decide +kernel
theorem dX6_canSolve_69 : decode cX6_canSolve 69 = .ok (.getfield 37, 3) := by decide +kernel
theorem dX6_canSolve_72 : decode cX6_canSolve 72 = .ok (.iload 4, 2) := by decide +kernel
theorem dX6_canSolve_74 : decode cX6_canSolve 74 = .ok (.iload 6, 2) := by decide +kernel
theorem dX6_canSolve_76 : decode cX6_canSolve 76 = .ok (.ldc 62, 2) := by decide +kernel
theorem dX6_canSolve_78 : decode cX6_canSolve 78 = .ok (.if_icmp .eq 32, 3) := by decide +kernel
theorem dX6_canSolve_81 : decode cX6_canSolve 81 = .ok (.aload_n 0, 1) := by decide +kernel
theorem dX6_canSolve_82 : decode cX6_canSolve 82 = .ok (.getfield 37, 3) := by decide +kernel
theorem dX6_canSolve_85 : decode cX6_canSolve 85 = .ok (.iload 4, 2) := by decide +kernel
theorem dX6_canSolve_87 : decode cX6_canSolve 87 = .ok (.iaload, 1) := by decide +kernel
theorem dX6_canSolve_88 : decode cX6_canSolve 88 = .ok (.ldc 62, 2) := by decide +kernel
theorem dX6_canSolve_90 : decode cX6_canSolve 90 = .ok (.if_icmp .eq 15, 3) := by decide +kernel
theorem dX6_canSolve_93 : decode cX6_canSolve 93 = .ok (.iload 7, 2) := by decide +kernel
theorem dX6_canSolve_95 : decode cX6_canSolve 95 = .ok (.aload_n 0, 1) := by decide +kernel
theorem dX6_canSolve_96 : decode cX6_canSolve 96 = .ok (.getfield 37, 3) := by decide +kernel
theorem dX6_canSolve_99 : decode cX6_canSolve 99 = .ok (.iload 4, 2) := by decide +kernel
theorem dX6_canSolve_101 : decode cX6_canSolve 101 = .ok (.iaload, 1) := by decide +kernel
theorem dX6_canSolve_102 : decode cX6_canSolve 102 = .ok (.if_icmp .le 8, 3) := by decide +kernel
theorem dX6_canSolve_105 : decode cX6_canSolve 105 = .ok (.iload 7, 2) := by decide +kernel
theorem dX6_canSolve_107 : decode cX6_canSolve 107 = .ok (.goto 10, 3) := by decide +kernel
theorem dX6_canSolve_110 : decode cX6_canSolve 110 = .ok (.aload_n 0, 1) := by decide +kernel
theorem dX6_canSolve_111 : decode cX6_canSolve 111 = .ok (.getfield 37, 3) := by decide +kernel
theorem dX6_canSolve_114 : decode cX6_canSolve 114 = .ok (.iload 4, 2) := by decide +kernel
theorem dX6_canSolve_116 : decode cX6_canSolve 116 = .ok (.iaload, 1) := by decide +kernel
theorem dX6_canSolve_117 : decode cX6_canSolve 117 = .ok (.iastore, 1) := by decide +kernel
theorem dX6_canSolve_118 : decode cX6_canSolve 118 = .ok (.iinc 5 1, 3) := by decide +kernel
theorem dX6_canSolve_121 : decode cX6_canSolve 121 = .ok (.goto (-82), 3) := by decide +kernel
theorem dX6_canSolve_124 : decode cX6_canSolve 124 = .ok (.iinc 4 1, 3) := by decide +kernel
theorem dX6_canSolve_127 : decode cX6_canSolve 127 = .ok (.goto (-106), 3) := by decide +kernel
theorem dX6_canSolve_130 : decode cX6_canSolve 130 = .ok (.aload_n 0, 1) := by decide +kernel
theorem dX6_canSolve_131 : decode cX6_canSolve 131 = .ok (.iload_n 3, 1) := by decide +kernel
theorem dX6_canSolve_132 : decode cX6_canSolve 132 = .ok (.invokevirtual 188, 3) := by decide +kernel
theorem dX6_canSolve_135 : decode cX6_canSolve 135 = .ok (.ireturn, 1) := by decide +kernel
set_option maxRecDepth 20000 in
theorem ggX6_solves_X6_in : GoodIn wsX6_solves wsX6_in := goodIn_r _ [8, 9, 21, 22, 23, 24, 25, 26, 27, 28, 29, 30, 31, 32, 33, 34, 35, 36, 37, 38, 39] (by decide +kernel) (by decide +kernel)
set_option maxRecDepth 20000 in
theorem gX6_solves_X6_in : GoodIn wsX6_solves (wsV RX6 133 RX6 yX6_in wsX6_in) := goodIn_app (goodIn_of _ (by decide +kernel)) ggX6_solves_X6_in
set_option maxRecDepth 20000 in
theorem ggX6_solves_X6_plus : GoodIn wsX6_solves wsX6_plus := goodIn_r _ [12, 2] (by decide +kernel) (by decide +kernel)
set_option maxRecDepth 20000 in
theorem gX6_solves_X6_plus : GoodIn wsX6_solves (va_wsS RX6 121 yX6_plus wsX6_plus) := goodIn_app (goodIn_of _ (by decide +kernel)) ggX6_solves_X6_plus
set_option maxRecDepth 20000 in
theorem ggX6_solves_X6_lesser : GoodIn wsX6_solves wsX6_lesser := goodIn_r _ [15] (by decide +kernel) (by decide +kernel)
set_option maxRecDepth 20000 in
theorem gX6_solves_X6_lesser : GoodIn wsX6_solves (va_wsS RX6 89 yX6_lesser wsX6_lesser) := goodIn_app (goodIn_of _ (by decide +kernel)) ggX6_solves_X6_lesser
set_option maxRecDepth 20000 in
theorem ggX6_solves_X6_partOf : GoodIn wsX6_solves wsX6_partOf := goodIn_r _ [19, 20, 21, 22, 23, 24, 25, 26, 27, 28, 29, 30, 31, 32, 33, 34, 35, 36, 37, 38, 39] (by decide +kernel) (by decide +kernel)
set_option maxRecDepth 20000 in
theorem gX6_solves_X6_partOf : GoodIn wsX6_solves (wsV RX6 182 RX6 yX6_partOf wsX6_partOf) := goodIn_app (goodIn_of _ (by decide +kernel)) ggX6_solves_X6_partOf
theorem dX6_solves_0 : decode cX6_solves 0 = .ok (.iconst 1, 1) := by decide +kernel
theorem dX6_solves_1 : decode cX6_solves 1 = .ok (.istore_n 3, 1) := by decide +kernel
theorem dX6_solves_2 : decode cX6_solves 2 = .ok (.iconst 0, 1) := by decide +kernel
theorem dX6_solves_3 : decode cX6_solves 3 = .ok (.istore 4, 2) := by decide +kernel
theorem dX6_solves_5 : decode cX6_solves 5 = .ok (.iload 4, 2) := by decide +kernel
theorem dX6_solves_7 : decode cX6_solves 7 = .ok (.aload_n 0, 1) := by decide +kernel
theorem dX6_solves_8 : decode cX6_solves 8 = .ok (.getfield 19, 3) := by decide +kernel
theorem dX6_solves_11 : decode cX6_solves 11 = .ok (.iload_n 1, 1) := by decide +kernel
theorem dX6_solves_12 : decode cX6_solves 12 = .ok (.iaload, 1) := by decide +kernel
theorem dX6_solves_13 : decode cX6_solves 13 = .ok (.if_icmp .ge 81, 3) := by decide +kernel
theorem dX6_solves_16 : decode cX6_solves 16 = .ok (.ldc 62, 2) := by decide +kernel
theorem dX6_solves_18 : decode cX6_solves 18 = .ok (.istore 5, 2) := by decide +kernel
theorem dX6_solves_20 : decode cX6_solves 20 = .ok (.iconst 0, 1) := by decide +kernel
theorem dX6_solves_21 : decode cX6_solves 21 = .ok (.istore 6, 2) := by decide +kernel
theorem dX6_solves_23 : decode cX6_solves 23 = .ok (.iload 6, 2) := by decide +kernel
theorem dX6_solves_25 : decode cX6_solves 25 = .ok (.aload_n 0, 1) := by decide +kernel
theorem dX6_solves_26 : decode cX6_solves 26 = .ok (.getfield 19, 3) := by decide +kernel
theorem dX6_solves_29 : decode cX6_solves 29 = .ok (.iload_n 1, 1) := by decide +kernel
theorem dX6_solves_30 : decode cX6_solves 30 = .ok (.iaload, 1) := by decide +kernel
theorem dX6_solves_31 : decode cX6_solves 31 = .ok (.if_icmp .ge 35, 3) := by decide +kernel
theorem dX6_solves_34 : decode cX6_solves 34 = .ok (.iload 5, 2) := by decide +kernel
theorem dX6_solves_36 : decode cX6_solves 36 = .ok (.aload_n 0, 1) := by decide +kernel
theorem dX6_solves_37 : decode cX6_solves 37 = .ok (.iload_n 1, 1) := by decide +kernel
theorem dX6_solves_38 : decode cX6_solves 38 = .ok (.iload 4, 2) := by decide +kernel
theorem dX6_solves_40 : decode cX6_solves 40 = .ok (.iload 6, 2) := by decide +kernel
theorem dX6_solves_42 : decode cX6_solves 42 = .ok (.invokevirtual 133, 3) := by decide +kernel
theorem dX6_solves_45 : decode cX6_solves 45 = .ok (.aload_n 0, 1) := by decide +kernel
theorem dX6_solves_46 : decode cX6_solves 46 = .ok (.getfield 37, 3) := by decide +kernel
theorem dX6_solves_49 : decode cX6_solves 49 = .ok (.iload 6, 2) := by decide +kernel
theorem dX6_solves_51 : decode cX6_solves 51 = .ok (.iaload, 1) := by decide +kernel
theorem dX6_solves_52 : decode cX6_solves 52 = .ok (.invokestatic 121, 3) := by decide +kernel
theorem dX6_solves_55 : decode cX6_solves 55 = .ok (.invokestatic 89, 3) := by decide +kernel
theorem dX6_solves_58 : decode cX6_solves 58 = .ok (.istore 5, 2) := by decide +kernel
theorem dX6_solves_60 : decode cX6_solves 60 = .ok (.iinc 6 1, 3) := by decide +kernel
theorem dX6_solves_63 : decode cX6_solves 63 = .ok (.goto (-40), 3) := by decide +kernel
theorem dX6_solves_66 : decode cX6_solves 66 = .ok (.iload_n 3, 1) := by decide +kernel
theorem dX6_solves_67 : decode cX6_solves 67 = .ok (.ifCond .eq 19, 3) := by decide +kernel
theorem dX6_solves_70 : decode cX6_solves 70 = .ok (.iload 5, 2) := by decide +kernel
theorem dX6_solves_72 : decode cX6_solves 72 = .ok (.aload_n 0, 1) := by decide +kernel
theorem dX6_solves_73 : decode cX6_solves 73 = .ok (.iload_n 2, 1) := by decide +kernel
theorem dX6_solves_74 : decode cX6_solves 74 = .ok (.iload 4, 2) := by decide +kernel
theorem dX6_solves_76 : decode cX6_solves 76 = .ok (.invokevirtual 182, 3) := by decide +kernel
theorem dX6_solves_79 : decode cX6_solves 79 = .ok (.if_icmp .ne 7, 3) := by decide +kernel
theorem dX6_solves_82 : decode cX6_solves 82 = .ok (.iconst 1, 1) := by decide +kernel
theorem dX6_solves_83 : decode cX6_solves 83 = .ok (.goto 4, 3) := by decide +kernel
theorem dX6_solves_86 : decode cX6_solves 86 = .ok (.iconst 0, 1) := by decide +kernel
theorem dX6_solves_87 : decode cX6_solves 87 = .ok (.istore_n 3, 1) := by decide +kernel
theorem dX6_solves_88 : decode cX6_solves 88 = .ok (.iinc 4 1, 3) := by decide +kernel
theorem dX6_solves_91 : decode cX6_solves 91 = .ok (.goto (-86), 3) := by decide +kernel
theorem dX6_solves_94 : decode cX6_solves 94 = .ok (.iload_n 3, 1) := by decide +kernel
theorem dX6_solves_95 : decode cX6_solves 95 = .ok (.ireturn, 1) := by decide +kernel
theorem dX6_laysFound_0 : decode cX6_laysFound 0 = .ok (.iconst 0, 1) := by decide +kernel
theorem dX6_laysFound_1 : decode cX6_laysFound 1 = .ok (.istore_n 3, 1) := by decide +kernel
theorem dX6_laysFound_2 : decode cX6_laysFound 2 = .ok (.iload_n 3, 1) := by decide +kernel
theorem dX6_laysFound_3 : decode cX6_laysFound 3 = .ok (.iload_n 2, 1) := by decide +kernel
theorem dX6_laysFound_4 : decode cX6_laysFound 4 = .ok (.if_icmp .ge 25, 3) := by decide +kernel
theorem dX6_laysFound_7 : decode cX6_laysFound 7 = .ok (.aload_n 0, 1) := by decide +kernel
theorem dX6_laysFound_8 : decode cX6_laysFound 8 = .ok (.getfield 34, 3) := by decide +kernel
theorem dX6_laysFound_11 : decode cX6_laysFound 11 = .ok (.iconst 5, 1) := by decide +kernel
theorem dX6_laysFound_12 : decode cX6_laysFound 12 = .ok (.iload_n 1, 1) := by decide +kernel
theorem dX6_laysFound_13 : decode cX6_laysFound 13 = .ok (.imul, 1) := by decide +kernel
theorem dX6_laysFound_14 : decode cX6_laysFound 14 = .ok (.iload_n 3, 1) := by decide +kernel
theorem dX6_laysFound_15 : decode cX6_laysFound 15 = .ok (.iadd, 1) := by decide +kernel
theorem dX6_laysFound_16 : decode cX6_laysFound 16 = .ok (.aload_n 0, 1) := by decide +kernel
theorem dX6_laysFound_17 : decode cX6_laysFound 17 = .ok (.getfield 37, 3) := by decide +kernel
theorem dX6_laysFound_20 : decode cX6_laysFound 20 = .ok (.iload_n 3, 1) := by decide +kernel
theorem dX6_laysFound_21 : decode cX6_laysFound 21 = .ok (.iaload, 1) := by decide +kernel
theorem dX6_laysFound_22 : decode cX6_laysFound 22 = .ok (.iastore, 1) := by decide +kernel
theorem dX6_laysFound_23 : decode cX6_laysFound 23 = .ok (.iinc 3 1, 3) := by decide +kernel
theorem dX6_laysFound_26 : decode cX6_laysFound 26 = .ok (.goto (-24), 3) := by decide +kernel
theorem dX6_laysFound_29 : decode cX6_laysFound 29 = .ok (.return_, 1) := by decide +kernel
set_option maxRecDepth 20000 in
theorem ggX6_solve_X6_isOne : GoodIn wsX6_solve wsX6_isOne := goodIn_r _ [5, 6, 7, 4, 8] (by decide +kernel) (by decide +kernel)
set_option maxRecDepth 20000 in
theorem gX6_solve_X6_isOne : GoodIn wsX6_solve (va_wsS RX6 75 yX6_isOne wsX6_isOne) := goodIn_app (goodIn_of _ (by decide +kernel)) ggX6_solve_X6_isOne
set_option maxRecDepth 20000 in
theorem ggX6_solve_X6_canSolve : GoodIn wsX6_solve wsX6_canSolve := goodIn_r _ [12, 1, 13, 14, 15, 16, 17, 4, 18, 19, 20, 21, 22, 23, 24, 25, 26, 27, 28, 29, 30, 31, 32, 33, 34, 35, 36, 6, 7, 8, 56, 57, 58, 59, 60, 61, 62, 63, 64, 65, 66, 67, 68, 69, 70, 71, 72, 73, 74] (by decide +kernel) (by decide +kernel)
set_option maxRecDepth 20000 in
theorem gX6_solve_X6_canSolve : GoodIn wsX6_solve (wsV RX6 191 RX6 yX6_canSolve wsX6_canSolve) := goodIn_app (goodIn_of _ (by decide +kernel)) ggX6_solve_X6_canSolve
set_option maxRecDepth 20000 in
theorem ggX6_solve_X6_can : GoodIn wsX6_solve wsX6_can := goodIn_r _ [40, 41, 56, 57, 58, 59, 60, 61, 62, 63, 64, 65, 66, 67, 68, 69, 70, 71, 72, 73, 74] (by decide +kernel) (by decide +kernel)
set_option maxRecDepth 20000 in
theorem gX6_solve_X6_can : GoodIn wsX6_solve (wsV RX6 82 RX6 yX6_can wsX6_can) := goodIn_app (goodIn_of _ (by decide +kernel)) ggX6_solve_X6_can
set_option maxRecDepth 20000 in
theorem ggX6_solve_X6_solves : GoodIn wsX6_solve wsX6_solves := goodIn_r _ [45, 1, 14, 13, 24, 25, 26, 4, 27, 28, 46, 47, 48, 49, 50, 51, 19, 20, 21, 22, 23, 56, 57, 58, 59, 60, 61, 62, 63, 64, 65, 66, 67, 68, 69, 70, 71, 72, 73, 74] (by decide +kernel) (by decide +kernel)
set_option maxRecDepth 20000 in
theorem gX6_solve_X6_solves : GoodIn wsX6_solve (wsV RX6 194 RX6 yX6_solves wsX6_solves) := goodIn_app (goodIn_of _ (by decide +kernel)) ggX6_solve_X6_solves
set_option maxRecDepth 20000 in
theorem ggX6_solve_X6_laysFound : GoodIn wsX6_solve wsX6_laysFound := goodIn_r _ [55, 23, 13, 56, 57, 58, 59, 60, 61, 62, 63, 64, 65, 66, 67, 68, 69, 70, 71, 72, 73, 74] (by decide +kernel) (by decide +kernel)
set_option maxRecDepth 20000 in
theorem gX6_solve_X6_laysFound : GoodIn wsX6_solve (wsV RX6 197 RX6 yX6_laysFound wsX6_laysFound) := goodIn_app (goodIn_of _ (by decide +kernel)) ggX6_solve_X6_laysFound
theorem dX6_solve_0 : decode cX6_solve 0 = .ok (.iload_n 1, 1) := by decide +kernel
theorem dX6_solve_1 : decode cX6_solve 1 = .ok (.invokestatic 75, 3) := by decide +kernel
theorem dX6_solve_4 : decode cX6_solve 4 = .ok (.ifCond .eq 21, 3) := by decide +kernel
theorem dX6_solve_7 : decode cX6_solve 7 = .ok (.iload_n 2, 1) := by decide +kernel
theorem dX6_solve_8 : decode cX6_solve 8 = .ok (.invokestatic 75, 3) := by decide +kernel
theorem dX6_solve_11 : decode cX6_solve 11 = .ok (.ifCond .eq 14, 3) := by decide +kernel
theorem dX6_solve_14 : decode cX6_solve 14 = .ok (.iload_n 3, 1) := by decide +kernel
theorem dX6_solve_15 : decode cX6_solve 15 = .ok (.invokestatic 75, 3) := by decide +kernel
theorem dX6_solve_18 : decode cX6_solve 18 = .ok (.ifCond .eq 7, 3) := by decide +kernel
theorem dX6_solve_21 : decode cX6_solve 21 = .ok (.iconst 1, 1) := by decide +kernel
theorem dX6_solve_22 : decode cX6_solve 22 = .ok (.goto 4, 3) := by decide +kernel
theorem dX6_solve_25 : decode cX6_solve 25 = .ok (.iconst 0, 1) := by decide +kernel
theorem dX6_solve_26 : decode cX6_solve 26 = .ok (.istore 4, 2) := by decide +kernel
theorem dX6_solve_28 : decode cX6_solve 28 = .ok (.aload_n 0, 1) := by decide +kernel
theorem dX6_solve_29 : decode cX6_solve 29 = .ok (.iload 4, 2) := by decide +kernel
theorem dX6_solve_31 : decode cX6_solve 31 = .ok (.ifCond .ne 7, 3) := by decide +kernel
theorem dX6_solve_34 : decode cX6_solve 34 = .ok (.iconst 1, 1) := by decide +kernel
theorem dX6_solve_35 : decode cX6_solve 35 = .ok (.goto 17, 3) := by decide +kernel
theorem dX6_solve_38 : decode cX6_solve 38 = .ok (.aload_n 0, 1) := by decide +kernel
theorem dX6_solve_39 : decode cX6_solve 39 = .ok (.iload_n 1, 1) := by decide +kernel
theorem dX6_solve_40 : decode cX6_solve 40 = .ok (.iload_n 2, 1) := by decide +kernel
theorem dX6_solve_41 : decode cX6_solve 41 = .ok (.invokevirtual 191, 3) := by decide +kernel
theorem dX6_solve_44 : decode cX6_solve 44 = .ok (.ifCond .eq 7, 3) := by decide +kernel
theorem dX6_solve_47 : decode cX6_solve 47 = .ok (.iconst 0, 1) := by decide +kernel
theorem dX6_solve_48 : decode cX6_solve 48 = .ok (.goto 4, 3) := by decide +kernel
theorem dX6_solve_51 : decode cX6_solve 51 = .ok (.iconst 2, 1) := by decide +kernel
theorem dX6_solve_52 : decode cX6_solve 52 = .ok (.invokevirtual 82, 3) := by decide +kernel
theorem dX6_solve_55 : decode cX6_solve 55 = .ok (.ifCond .ne 5, 3) := by decide +kernel
theorem dX6_solve_58 : decode cX6_solve 58 = .ok (.iconst 0, 1) := by decide +kernel
theorem dX6_solve_59 : decode cX6_solve 59 = .ok (.ireturn, 1) := by decide +kernel
theorem dX6_solve_60 : decode cX6_solve 60 = .ok (.aload_n 0, 1) := by decide +kernel
theorem dX6_solve_61 : decode cX6_solve 61 = .ok (.iload_n 1, 1) := by decide +kernel
theorem dX6_solve_62 : decode cX6_solve 62 = .ok (.iload_n 2, 1) := by decide +kernel
theorem dX6_solve_63 : decode cX6_solve 63 = .ok (.invokevirtual 194, 3) := by decide +kernel
theorem dX6_solve_66 : decode cX6_solve 66 = .ok (.istore 5, 2) := by decide +kernel
theorem dX6_solve_68 : decode cX6_solve 68 = .ok (.aload_n 0, 1) := by decide +kernel
theorem dX6_solve_69 : decode cX6_solve 69 = .ok (.iload_n 3, 1) := by decide +kernel
theorem dX6_solve_70 : decode cX6_solve 70 = .ok (.aload_n 0, 1) := by decide +kernel
theorem dX6_solve_71 : decode cX6_solve 71 = .ok (.getfield 19, 3) := by decide +kernel
theorem dX6_solve_74 : decode cX6_solve 74 = .ok (.iload_n 1, 1) := by decide +kernel
theorem dX6_solve_75 : decode cX6_solve 75 = .ok (.iaload, 1) := by decide +kernel
theorem dX6_solve_76 : decode cX6_solve 76 = .ok (.invokevirtual 197, 3) := by decide +kernel
theorem dX6_solve_79 : decode cX6_solve 79 = .ok (.iload 5, 2) := by decide +kernel
theorem dX6_solve_81 : decode cX6_solve 81 = .ok (.ireturn, 1) := by decide +kernel
set_option maxRecDepth 20000 in
theorem ggX6_canProject_X6_areNumbers : GoodIn wsX6_canProject wsX6_areNumbers := goodIn_r _ [8, 2, 9, 10, 11, 7, 12, 13, 33, 34, 35, 36, 37, 38, 39, 40, 41, 42, 43, 44, 45, 46, 47, 48, 49, 50, 51] (by decide +kernel) (by decide +kernel)
set_option maxRecDepth 20000 in
theorem gX6_canProject_X6_areNumbers : GoodIn wsX6_canProject (wsV RX6 185 RX6 yX6_areNumbers wsX6_areNumbers) := goodIn_app (goodIn_of _ (by decide +kernel)) ggX6_canProject_X6_areNumbers
set_option maxRecDepth 20000 in
theorem ggX6_canProject_X6_in : GoodIn wsX6_canProject wsX6_in := goodIn_r _ [17, 18, 33, 34, 35, 36, 37, 38, 39, 40, 41, 42, 43, 44, 45, 46, 47, 48, 49, 50, 51] (by decide +kernel) (by decide +kernel)
set_option maxRecDepth 20000 in
theorem gX6_canProject_X6_in : GoodIn wsX6_canProject (wsV RX6 133 RX6 yX6_in wsX6_in) := goodIn_app (goodIn_of _ (by decide +kernel)) ggX6_canProject_X6_in
set_option maxRecDepth 20000 in
theorem ggX6_canProject_X6_partOf : GoodIn wsX6_canProject wsX6_partOf := goodIn_r _ [12, 13, 33, 34, 35, 36, 37, 38, 39, 40, 41, 42, 43, 44, 45, 46, 47, 48, 49, 50, 51] (by decide +kernel) (by decide +kernel)
set_option maxRecDepth 20000 in
theorem gX6_canProject_X6_partOf : GoodIn wsX6_canProject (wsV RX6 182 RX6 yX6_partOf wsX6_partOf) := goodIn_app (goodIn_of _ (by decide +kernel)) ggX6_canProject_X6_partOf
set_option maxRecDepth 20000 in
theorem ggX6_canProject_X6_lesser : GoodIn wsX6_canProject wsX6_lesser := goodIn_r _ [21] (by decide +kernel) (by decide +kernel)
set_option maxRecDepth 20000 in
theorem gX6_canProject_X6_lesser : GoodIn wsX6_canProject (va_wsS RX6 89 yX6_lesser wsX6_lesser) := goodIn_app (goodIn_of _ (by decide +kernel)) ggX6_canProject_X6_lesser
set_option maxRecDepth 20000 in
theorem ggX6_canProject_X6_isFoundNear : GoodIn wsX6_canProject wsX6_isFoundNear := goodIn_r _ [25, 3, 26, 27, 28, 7, 29, 2, 30, 31, 32, 33, 34, 35, 36, 37, 38, 39, 40, 41, 42, 43, 44, 45, 46, 47, 48, 49, 50, 51] (by decide +kernel) (by decide +kernel)
set_option maxRecDepth 20000 in
theorem gX6_canProject_X6_isFoundNear : GoodIn wsX6_canProject (wsV RX6 188 RX6 yX6_isFoundNear wsX6_isFoundNear) := goodIn_app (goodIn_of _ (by decide +kernel)) ggX6_canProject_X6_isFoundNear
theorem dX6_canProject_0 : decode cX6_canProject 0 = .ok (.aload_n 0, 1) := by decide +kernel
theorem dX6_canProject_1 : decode cX6_canProject 1 = .ok (.getfield 19, 3) := by decide +kernel
theorem dX6_canProject_4 : decode cX6_canProject 4 = .ok (.iload_n 1, 1) := by decide +kernel
theorem dX6_canProject_5 : decode cX6_canProject 5 = .ok (.iaload, 1) := by decide +kernel
theorem dX6_canProject_6 : decode cX6_canProject 6 = .ok (.istore_n 3, 1) := by decide +kernel
theorem dX6_canProject_7 : decode cX6_canProject 7 = .ok (.aload_n 0, 1) := by decide +kernel
theorem dX6_canProject_8 : decode cX6_canProject 8 = .ok (.iload_n 2, 1) := by decide +kernel
theorem dX6_canProject_9 : decode cX6_canProject 9 = .ok (.iload_n 3, 1) := by decide +kernel
theorem dX6_canProject_10 : decode cX6_canProject 10 = .ok (.invokevirtual 185, 3) := by decide +kernel
theorem dX6_canProject_13 : decode cX6_canProject 13 = .ok (.istore 4, 2) := by decide +kernel
theorem dX6_canProject_15 : decode cX6_canProject 15 = .ok (.iconst 0, 1) := by decide +kernel
theorem dX6_canProject_16 : decode cX6_canProject 16 = .ok (.istore 5, 2) := by decide +kernel
theorem dX6_canProject_18 : decode cX6_canProject 18 = .ok (.iload 5, 2) := by decide +kernel
theorem dX6_canProject_20 : decode cX6_canProject 20 = .ok (.iload_n 3, 1) := by decide +kernel
theorem dX6_canProject_21 : decode cX6_canProject 21 = .ok (.iload_n 3, 1) := by decide +kernel
theorem dX6_canProject_22 : decode cX6_canProject 22 = .ok (.imul, 1) := by decide +kernel
theorem dX6_canProject_23 : decode cX6_canProject 23 = .ok (.if_icmp .ge 39, 3) := by decide +kernel
theorem dX6_canProject_26 : decode cX6_canProject 26 = .ok (.iload 4, 2) := by decide +kernel
theorem dX6_canProject_28 : decode cX6_canProject 28 = .ok (.ifCond .eq 25, 3) := by decide +kernel
theorem dX6_canProject_31 : decode cX6_canProject 31 = .ok (.aload_n 0, 1) := by decide +kernel
theorem dX6_canProject_32 : decode cX6_canProject 32 = .ok (.iload_n 1, 1) := by decide +kernel
theorem dX6_canProject_33 : decode cX6_canProject 33 = .ok (.iload 5, 2) := by decide +kernel
theorem dX6_canProject_35 : decode cX6_canProject 35 = .ok (.iload_n 3, 1) := by decide +kernel
theorem dX6_canProject_36 : decode cX6_canProject 36 = .ok (.idiv, 1) := by decide +kernel
theorem dX6_canProject_37 : decode cX6_canProject 37 = .ok (.iload 5, 2) := by decide +kernel
theorem dX6_canProject_39 : decode cX6_canProject 39 = .ok (.iload_n 3, 1) := by decide +kernel
theorem dX6_canProject_40 : decode cX6_canProject 40 = .ok (.irem, 1) := by decide +kernel
theorem dX6_canProject_41 : decode cX6_canProject 41 = .ok (.invokevirtual 133, 3) := by decide +kernel
theorem dX6_canProject_44 : decode cX6_canProject 44 = .ok (.ldc 62, 2) := by decide +kernel
theorem dX6_canProject_46 : decode cX6_canProject 46 = .ok (.if_icmp .eq 7, 3) := by decide +kernel
theorem dX6_canProject_49 : decode cX6_canProject 49 = .ok (.iconst 1, 1) := by decide +kernel
theorem dX6_canProject_50 : decode cX6_canProject 50 = .ok (.goto 4, 3) := by decide +kernel
theorem dX6_canProject_53 : decode cX6_canProject 53 = .ok (.iconst 0, 1) := by decide +kernel
theorem dX6_canProject_54 : decode cX6_canProject 54 = .ok (.istore 4, 2) := by decide +kernel
theorem dX6_canProject_56 : decode cX6_canProject 56 = .ok (.iinc 5 1, 3) := by decide +kernel
theorem dX6_canProject_59 : decode cX6_canProject 59 = .ok (.goto (-41), 3) := by decide +kernel
theorem dX6_canProject_62 : decode cX6_canProject 62 = .ok (.iconst 0, 1) := by decide +kernel
theorem dX6_canProject_63 : decode cX6_canProject 63 = .ok (.istore 5, 2) := by decide +kernel
theorem dX6_canProject_65 : decode cX6_canProject 65 = .ok (.iload 5, 2) := by decide +kernel
theorem dX6_canProject_67 : decode cX6_canProject 67 = .ok (.iload_n 3, 1) := by decide +kernel
theorem dX6_canProject_68 : decode cX6_canProject 68 = .ok (.if_icmp .ge 18, 3) := by decide +kernel
theorem dX6_canProject_71 : decode cX6_canProject 71 = .ok (.aload_n 0, 1) := by decide +kernel
theorem dX6_canProject_72 : decode cX6_canProject 72 = .ok (.getfield 37, 3) := by decide +kernel
theorem dX6_canProject_75 : decode cX6_canProject 75 = .ok (.iload 5, 2) := by decide +kernel
theorem dX6_canProject_77 : decode cX6_canProject 77 = .ok (.ldc 62, 2) := by decide +kernel
theorem dX6_canProject_79 : decode cX6_canProject 79 = .ok (.iastore, 1) := by decide +kernel
theorem dX6_canProject_80 : decode cX6_canProject 80 = .ok (.iinc 5 1, 3) := by decide +kernel
theorem dX6_canProject_83 : decode cX6_canProject 83 = .ok (.goto (-18), 3) := by decide +kernel
theorem dX6_canProject_86 : decode cX6_canProject 86 = .ok (.iconst 0, 1) := by decide +kernel
theorem dX6_canProject_87 : decode cX6_canProject 87 = .ok (.istore 5, 2) := by decide +kernel
theorem dX6_canProject_89 : decode cX6_canProject 89 = .ok (.iload 5, 2) := by decide +kernel
theorem dX6_canProject_91 : decode cX6_canProject 91 = .ok (.iload_n 3, 1) := by decide +kernel
theorem dX6_canProject_92 : decode cX6_canProject 92 = .ok (.if_icmp .ge 125, 3) := by decide +kernel
theorem dX6_canProject_95 : decode cX6_canProject 95 = .ok (.iload 4, 2) := by decide +kernel
theorem dX6_canProject_97 : decode cX6_canProject 97 = .ok (.ifCond .eq 120, 3) := by decide +kernel
theorem dX6_canProject_100 : decode cX6_canProject 100 = .ok (.aload_n 0, 1) := by decide +kernel
theorem dX6_canProject_101 : decode cX6_canProject 101 = .ok (.iload_n 2, 1) := by decide +kernel
theorem dX6_canProject_102 : decode cX6_canProject 102 = .ok (.iconst 0, 1) := by decide +kernel
theorem dX6_canProject_103 : decode cX6_canProject 103 = .ok (.invokevirtual 182, 3) := by decide +kernel
theorem dX6_canProject_106 : decode cX6_canProject 106 = .ok (.aload_n 0, 1) := by decide +kernel
theorem dX6_canProject_107 : decode cX6_canProject 107 = .ok (.iload_n 1, 1) := by decide +kernel
theorem dX6_canProject_108 : decode cX6_canProject 108 = .ok (.iload 5, 2) := by decide +kernel
theorem dX6_canProject_110 : decode cX6_canProject 110 = .ok (.iconst 0, 1) := by decide +kernel
theorem dX6_canProject_111 : decode cX6_canProject 111 = .ok (.invokevirtual 133, 3) := by decide +kernel
theorem dX6_canProject_114 : decode cX6_canProject 114 = .ok (.isub, 1) := by decide +kernel
theorem dX6_canProject_115 : decode cX6_canProject 115 = .ok (.istore 6, 2) := by decide +kernel
theorem dX6_canProject_117 : decode cX6_canProject 117 = .ok (.iconst 1, 1) := by decide +kernel
theorem dX6_canProject_118 : decode cX6_canProject 118 = .ok (.istore 7, 2) := by decide +kernel
theorem dX6_canProject_120 : decode cX6_canProject 120 = .ok (.iload 7, 2) := by decide +kernel
theorem dX6_canProject_122 : decode cX6_canProject 122 = .ok (.iload_n 3, 1) := by decide +kernel
theorem dX6_canProject_123 : decode cX6_canProject 123 = .ok (.if_icmp .ge 44, 3) := by decide +kernel
theorem dX6_canProject_126 : decode cX6_canProject 126 = .ok (.aload_n 0, 1) := by decide +kernel
theorem dX6_canProject_127 : decode cX6_canProject 127 = .ok (.iload_n 2, 1) := by decide +kernel
theorem dX6_canProject_128 : decode cX6_canProject 128 = .ok (.iload 7, 2) := by decide +kernel
theorem dX6_canProject_130 : decode cX6_canProject 130 = .ok (.invokevirtual 182, 3) := by decide +kernel
theorem dX6_canProject_133 : decode cX6_canProject 133 = .ok (.aload_n 0, 1) := by decide +kernel
theorem dX6_canProject_134 : decode cX6_canProject 134 = .ok (.iload_n 1, 1) := by decide +kernel
theorem dX6_canProject_135 : decode cX6_canProject 135 = .ok (.iload 5, 2) := by decide +kernel
theorem dX6_canProject_137 : decode cX6_canProject 137 = .ok (.iload 7, 2) := by decide +kernel
theorem dX6_canProject_139 : decode cX6_canProject 139 = .ok (.invokevirtual 133, 3) := by decide +kernel
theorem dX6_canProject_142 : decode cX6_canProject 142 = .ok (.isub, 1) := by decide +kernel
theorem dX6_canProject_143 : decode cX6_canProject 143 = .ok (.istore 8, 2) := by decide +kernel
theorem dX6_canProject_145 : decode cX6_canProject 145 = .ok (.iload 8, 2) := by decide +kernel
theorem dX6_canProject_147 : decode cX6_canProject 147 = .ok (.iload 6, 2) := by decide +kernel
theorem dX6_canProject_149 : decode cX6_canProject 149 = .ok (.if_icmp .le 8, 3) := by decide +kernel
theorem dX6_canProject_152 : decode cX6_canProject 152 = .ok (.iload 8, 2) := by decide +kernel
theorem dX6_canProject_154 : decode cX6_canProject 154 = .ok (.goto 5, 3) := by decide +kernel
theorem dX6_canProject_157 : decode cX6_canProject 157 = .ok (.iload 6, 2) := by decide +kernel
theorem dX6_canProject_159 : decode cX6_canProject 159 = .ok (.istore 6, 2) := by decide +kernel
theorem dX6_canProject_161 : decode cX6_canProject 161 = .ok (.iinc 7 1, 3) := by decide +kernel
theorem dX6_canProject_164 : decode cX6_canProject 164 = .ok (.goto (-44), 3) := by decide +kernel
theorem dX6_canProject_167 : decode cX6_canProject 167 = .ok (.iconst 0, 1) := by decide +kernel
theorem dX6_canProject_168 : decode cX6_canProject 168 = .ok (.istore 7, 2) := by decide +kernel
theorem dX6_canProject_170 : decode cX6_canProject 170 = .ok (.iload 7, 2) := by decide +kernel
theorem dX6_canProject_172 : decode cX6_canProject 172 = .ok (.iload_n 3, 1) := by decide +kernel
theorem dX6_canProject_173 : decode cX6_canProject 173 = .ok (.if_icmp .ge 38, 3) := by decide +kernel
theorem dX6_canProject_176 : decode cX6_canProject 176 = .ok (.aload_n 0, 1) := by decide +kernel
theorem dX6_canProject_177 : decode cX6_canProject 177 = .ok (.getfield 37, 3) := by decide +kernel
theorem dX6_canProject_180 : decode cX6_canProject 180 = .ok (.iload 7, 2) := by decide +kernel
theorem dX6_canProject_182 : decode cX6_canProject 182 = .ok (.aload_n 0, 1) := by decide +kernel
theorem dX6_canProject_183 : decode cX6_canProject 183 = .ok (.getfield 37, 3) := by decide +kernel
theorem dX6_canProject_186 : decode cX6_canProject 186 = .ok (.iload 7, 2) := by decide +kernel
theorem dX6_canProject_188 : decode cX6_canProject 188 = .ok (.iaload, 1) := by decide +kernel
theorem dX6_canProject_189 : decode cX6_canProject 189 = .ok (.iload 6, 2) := by decide +kernel
theorem dX6_canProject_191 : decode cX6_canProject 191 = .ok (.aload_n 0, 1) := by decide +kernel
theorem dX6_canProject_192 : decode cX6_canProject 192 = .ok (.iload_n 1, 1) := by decide +kernel
theorem dX6_canProject_193 : decode cX6_canProject 193 = .ok (.iload 5, 2) := by decide +kernel
theorem dX6_canProject_195 : decode cX6_canProject 195 = .ok (.iload 7, 2) := by decide +kernel
theorem dX6_canProject_197 : decode cX6_canProject 197 = .ok (.invokevirtual 133, 3) := by decide +kernel
theorem dX6_canProject_200 : decode cX6_canProject 200 = .ok (.iadd, 1) := by decide +kernel
theorem dX6_canProject_201 : decode cX6_canProject 201 = .ok (.invokestatic 89, 3) := by decide +kernel
theorem dX6_canProject_204 : decode cX6_canProject 204 = .ok (.iastore, 1) := by decide +kernel
theorem dX6_canProject_205 : decode cX6_canProject 205 = .ok (.iinc 7 1, 3) := by decide +kernel
theorem dX6_canProject_208 : decode cX6_canProject 208 = .ok (.goto (-38), 3) := by decide +kernel
theorem dX6_canProject_211 : decode cX6_canProject 211 = .ok (.iinc 5 1, 3) := by decide +kernel
theorem dX6_canProject_214 : decode cX6_canProject 214 = .ok (.goto (-125), 3) := by decide +kernel
theorem dX6_canProject_217 : decode cX6_canProject 217 = .ok (.iload 4, 2) := by decide +kernel
theorem dX6_canProject_219 : decode cX6_canProject 219 = .ok (.ifCond .eq 15, 3) := by decide +kernel
theorem dX6_canProject_222 : decode cX6_canProject 222 = .ok (.aload_n 0, 1) := by decide +kernel
theorem dX6_canProject_223 : decode cX6_canProject 223 = .ok (.iload_n 3, 1) := by decide +kernel
theorem dX6_canProject_224 : decode cX6_canProject 224 = .ok (.invokevirtual 188, 3) := by decide +kernel
