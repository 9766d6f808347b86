theorem dX3_payDebts_89 : decode cX3_payDebts 89 = .ok (.aload_n 0, 1) := by decide +kernel
theorem dX3_payDebts_90 : decode cX3_payDebts 90 = .ok (.aload_n 1, 1) := by decide +kernel
theorem dX3_payDebts_91 : decode cX3_payDebts 91 = .ok (.aload_n 0, 1) := by decide +kernel
theorem dX3_payDebts_92 : decode cX3_payDebts 92 = .ok (.getfield 20, 3) := by decide +kernel
theorem dX3_payDebts_95 : decode cX3_payDebts 95 = .ok (.iload_n 2, 1) := by decide +kernel
theorem dX3_payDebts_96 : decode cX3_payDebts 96 = .ok (.iconst 1, 1) := by decide +kernel
theorem dX3_payDebts_97 : decode cX3_payDebts 97 = .ok (.isub, 1) := by decide +kernel
theorem dX3_payDebts_98 : decode cX3_payDebts 98 = .ok (.iaload, 1) := by decide +kernel
theorem dX3_payDebts_99 : decode cX3_payDebts 99 = .ok (.iload_n 3, 1) := by decide +kernel
theorem dX3_payDebts_100 : decode cX3_payDebts 100 = .ok (.invokevirtual 77, 3) := by decide +kernel
theorem dX3_payDebts_103 : decode cX3_payDebts 103 = .ok (.iinc 2 (-1), 3) := by decide +kernel
theorem dX3_payDebts_106 : decode cX3_payDebts 106 = .ok (.goto (-104), 3) := by decide +kernel
theorem dX3_payDebts_109 : decode cX3_payDebts 109 = .ok (.return_, 1) := by decide +kernel
set_option maxRecDepth 20000 in
theorem ggX3_findUnburnt_X3_has : GoodIn wsX3_findUnburnt wsX3_has := goodIn_r _ [6] (by decide +kernel) (by decide +kernel)
set_option maxRecDepth 20000 in
theorem gX3_findUnburnt_X3_has : GoodIn wsX3_findUnburnt (wsV RX3 61 RX3 yX3_has wsX3_has) := goodIn_app (goodIn_of _ (by decide +kernel)) ggX3_findUnburnt_X3_has
set_option maxRecDepth 20000 in
theorem ggX3_findUnburnt_X3_countEdgesInto : GoodIn wsX3_findUnburnt wsX3_countEdgesInto := goodIn_r _ [10, 11, 12, 13, 14, 15, 16] (by decide +kernel) (by decide +kernel)
set_option maxRecDepth 20000 in
theorem gX3_findUnburnt_X3_countEdgesInto : GoodIn wsX3_findUnburnt (wsV RX3 39 RX3 yX3_countEdgesInto wsX3_countEdgesInto) := goodIn_app (goodIn_of _ (by decide +kernel)) ggX3_findUnburnt_X3_countEdgesInto
theorem dX3_findUnburnt_0 : decode cX3_findUnburnt 0 = .ok (.aload_n 0, 1) := by decide +kernel
theorem dX3_findUnburnt_1 : decode cX3_findUnburnt 1 = .ok (.getfield 20, 3) := by decide +kernel
theorem dX3_findUnburnt_4 : decode cX3_findUnburnt 4 = .ok (.iconst 4, 1) := by decide +kernel
theorem dX3_findUnburnt_5 : decode cX3_findUnburnt 5 = .ok (.iaload, 1) := by decide +kernel
theorem dX3_findUnburnt_6 : decode cX3_findUnburnt 6 = .ok (.aload_n 0, 1) := by decide +kernel
theorem dX3_findUnburnt_7 : decode cX3_findUnburnt 7 = .ok (.getfield 20, 3) := by decide +kernel
theorem dX3_findUnburnt_10 : decode cX3_findUnburnt 10 = .ok (.iconst 0, 1) := by decide +kernel
theorem dX3_findUnburnt_11 : decode cX3_findUnburnt 11 = .ok (.iaload, 1) := by decide +kernel
theorem dX3_findUnburnt_12 : decode cX3_findUnburnt 12 = .ok (.iconst (-1), 1) := by decide +kernel
theorem dX3_findUnburnt_13 : decode cX3_findUnburnt 13 = .ok (.ixor, 1) := by decide +kernel
theorem dX3_findUnburnt_14 : decode cX3_findUnburnt 14 = .ok (.iand, 1) := by decide +kernel
theorem dX3_findUnburnt_15 : decode cX3_findUnburnt 15 = .ok (.istore_n 2, 1) := by decide +kernel
theorem dX3_findUnburnt_16 : decode cX3_findUnburnt 16 = .ok (.iconst 1, 1) := by decide +kernel
theorem dX3_findUnburnt_17 : decode cX3_findUnburnt 17 = .ok (.istore_n 3, 1) := by decide +kernel
theorem dX3_findUnburnt_18 : decode cX3_findUnburnt 18 = .ok (.iload_n 3, 1) := by decide +kernel
theorem dX3_findUnburnt_19 : decode cX3_findUnburnt 19 = .ok (.iconst 5, 1) := by decide +kernel
theorem dX3_findUnburnt_20 : decode cX3_findUnburnt 20 = .ok (.if_icmp .ge 69, 3) := by decide +kernel
theorem dX3_findUnburnt_23 : decode cX3_findUnburnt 23 = .ok (.iload_n 2, 1) := by decide +kernel
theorem dX3_findUnburnt_24 : decode cX3_findUnburnt 24 = .ok (.istore 4, 2) := by decide +kernel
theorem dX3_findUnburnt_26 : decode cX3_findUnburnt 26 = .ok (.iconst 0, 1) := by decide +kernel
theorem dX3_findUnburnt_27 : decode cX3_findUnburnt 27 = .ok (.istore 5, 2) := by decide +kernel
theorem dX3_findUnburnt_29 : decode cX3_findUnburnt 29 = .ok (.iload 5, 2) := by decide +kernel
theorem dX3_findUnburnt_31 : decode cX3_findUnburnt 31 = .ok (.iconst 5, 1) := by decide +kernel
theorem dX3_findUnburnt_32 : decode cX3_findUnburnt 32 = .ok (.if_icmp .ge 42, 3) := by decide +kernel
theorem dX3_findUnburnt_35 : decode cX3_findUnburnt 35 = .ok (.aload_n 0, 1) := by decide +kernel
theorem dX3_findUnburnt_36 : decode cX3_findUnburnt 36 = .ok (.iload_n 2, 1) := by decide +kernel
theorem dX3_findUnburnt_37 : decode cX3_findUnburnt 37 = .ok (.iload 5, 2) := by decide +kernel
theorem dX3_findUnburnt_39 : decode cX3_findUnburnt 39 = .ok (.invokevirtual 61, 3) := by decide +kernel
theorem dX3_findUnburnt_42 : decode cX3_findUnburnt 42 = .ok (.ifCond .eq 26, 3) := by decide +kernel
theorem dX3_findUnburnt_45 : decode cX3_findUnburnt 45 = .ok (.aload_n 0, 1) := by decide +kernel
theorem dX3_findUnburnt_46 : decode cX3_findUnburnt 46 = .ok (.iload 5, 2) := by decide +kernel
theorem dX3_findUnburnt_48 : decode cX3_findUnburnt 48 = .ok (.iload_n 2, 1) := by decide +kernel
theorem dX3_findUnburnt_49 : decode cX3_findUnburnt 49 = .ok (.iconst (-1), 1) := by decide +kernel
theorem dX3_findUnburnt_50 : decode cX3_findUnburnt 50 = .ok (.ixor, 1) := by decide +kernel
theorem dX3_findUnburnt_51 : decode cX3_findUnburnt 51 = .ok (.invokevirtual 39, 3) := by decide +kernel
theorem dX3_findUnburnt_54 : decode cX3_findUnburnt 54 = .ok (.aload_n 1, 1) := by decide +kernel
theorem dX3_findUnburnt_55 : decode cX3_findUnburnt 55 = .ok (.iload 5, 2) := by decide +kernel
theorem dX3_findUnburnt_57 : decode cX3_findUnburnt 57 = .ok (.iaload, 1) := by decide +kernel
theorem dX3_findUnburnt_58 : decode cX3_findUnburnt 58 = .ok (.if_icmp .le 10, 3) := by decide +kernel
theorem dX3_findUnburnt_61 : decode cX3_findUnburnt 61 = .ok (.iload_n 2, 1) := by decide +kernel
theorem dX3_findUnburnt_62 : decode cX3_findUnburnt 62 = .ok (.iconst 1, 1) := by decide +kernel
theorem dX3_findUnburnt_63 : decode cX3_findUnburnt 63 = .ok (.iload 5, 2) := by decide +kernel
theorem dX3_findUnburnt_65 : decode cX3_findUnburnt 65 = .ok (.ishl, 1) := by decide +kernel
theorem dX3_findUnburnt_66 : decode cX3_findUnburnt 66 = .ok (.isub, 1) := by decide +kernel
theorem dX3_findUnburnt_67 : decode cX3_findUnburnt 67 = .ok (.istore_n 2, 1) := by decide +kernel
theorem dX3_findUnburnt_68 : decode cX3_findUnburnt 68 = .ok (.iinc 5 1, 3) := by decide +kernel
theorem dX3_findUnburnt_71 : decode cX3_findUnburnt 71 = .ok (.goto (-42), 3) := by decide +kernel
theorem dX3_findUnburnt_74 : decode cX3_findUnburnt 74 = .ok (.iload_n 2, 1) := by decide +kernel
theorem dX3_findUnburnt_75 : decode cX3_findUnburnt 75 = .ok (.iload 4, 2) := by decide +kernel
theorem dX3_findUnburnt_77 : decode cX3_findUnburnt 77 = .ok (.if_icmp .ne 6, 3) := by decide +kernel
theorem dX3_findUnburnt_80 : decode cX3_findUnburnt 80 = .ok (.goto 9, 3) := by decide +kernel
theorem dX3_findUnburnt_83 : decode cX3_findUnburnt 83 = .ok (.iinc 3 1, 3) := by decide +kernel
theorem dX3_findUnburnt_86 : decode cX3_findUnburnt 86 = .ok (.goto (-68), 3) := by decide +kernel
theorem dX3_findUnburnt_89 : decode cX3_findUnburnt 89 = .ok (.iload_n 2, 1) := by decide +kernel
theorem dX3_findUnburnt_90 : decode cX3_findUnburnt 90 = .ok (.ireturn, 1) := by decide +kernel
set_option maxRecDepth 20000 in
theorem ggX3_timesThatCanFire_X3_countEdgesInto : GoodIn wsX3_timesThatCanFire wsX3_countEdgesInto := goodIn_r _ [10, 11, 16, 17, 18, 19, 20] (by decide +kernel) (by decide +kernel)
set_option maxRecDepth 20000 in
theorem gX3_timesThatCanFire_X3_countEdgesInto : GoodIn wsX3_timesThatCanFire (wsV RX3 39 RX3 yX3_countEdgesInto wsX3_countEdgesInto) := goodIn_app (goodIn_of _ (by decide +kernel)) ggX3_timesThatCanFire_X3_countEdgesInto
set_option maxRecDepth 20000 in
theorem ggX3_timesThatCanFire_X3_has : GoodIn wsX3_timesThatCanFire wsX3_has := goodIn_r _ [15] (by decide +kernel) (by decide +kernel)
set_option maxRecDepth 20000 in
theorem gX3_timesThatCanFire_X3_has : GoodIn wsX3_timesThatCanFire (wsV RX3 61 RX3 yX3_has wsX3_has) := goodIn_app (goodIn_of _ (by decide +kernel)) ggX3_timesThatCanFire_X3_has
theorem dX3_timesThatCanFire_0 : decode cX3_timesThatCanFire 0 = .ok (.ldc 68, 2) := by decide +kernel
theorem dX3_timesThatCanFire_2 : decode cX3_timesThatCanFire 2 = .ok (.istore_n 3, 1) := by decide +kernel
theorem dX3_timesThatCanFire_3 : decode cX3_timesThatCanFire 3 = .ok (.iconst 0, 1) := by decide +kernel
theorem dX3_timesThatCanFire_4 : decode cX3_timesThatCanFire 4 = .ok (.istore 4, 2) := by decide +kernel
theorem dX3_timesThatCanFire_6 : decode cX3_timesThatCanFire 6 = .ok (.iload 4, 2) := by decide +kernel
theorem dX3_timesThatCanFire_8 : decode cX3_timesThatCanFire 8 = .ok (.iconst 5, 1) := by decide +kernel
theorem dX3_timesThatCanFire_9 : decode cX3_timesThatCanFire 9 = .ok (.if_icmp .ge 47, 3) := by decide +kernel
theorem dX3_timesThatCanFire_12 : decode cX3_timesThatCanFire 12 = .ok (.aload_n 0, 1) := by decide +kernel
theorem dX3_timesThatCanFire_13 : decode cX3_timesThatCanFire 13 = .ok (.iload 4, 2) := by decide +kernel
theorem dX3_timesThatCanFire_15 : decode cX3_timesThatCanFire 15 = .ok (.iload_n 2, 1) := by decide +kernel
theorem dX3_timesThatCanFire_16 : decode cX3_timesThatCanFire 16 = .ok (.iconst (-1), 1) := by decide +kernel
theorem dX3_timesThatCanFire_17 : decode cX3_timesThatCanFire 17 = .ok (.ixor, 1) := by decide +kernel
theorem dX3_timesThatCanFire_18 : decode cX3_timesThatCanFire 18 = .ok (.invokevirtual 39, 3) := by decide +kernel
theorem dX3_timesThatCanFire_21 : decode cX3_timesThatCanFire 21 = .ok (.istore 5, 2) := by decide +kernel
theorem dX3_timesThatCanFire_23 : decode cX3_timesThatCanFire 23 = .ok (.aload_n 0, 1) := by decide +kernel
theorem dX3_timesThatCanFire_24 : decode cX3_timesThatCanFire 24 = .ok (.iload_n 2, 1) := by decide +kernel
theorem dX3_timesThatCanFire_25 : decode cX3_timesThatCanFire 25 = .ok (.iload 4, 2) := by decide +kernel
theorem dX3_timesThatCanFire_27 : decode cX3_timesThatCanFire 27 = .ok (.invokevirtual 61, 3) := by decide +kernel
theorem dX3_timesThatCanFire_30 : decode cX3_timesThatCanFire 30 = .ok (.ifCond .eq 20, 3) := by decide +kernel
theorem dX3_timesThatCanFire_33 : decode cX3_timesThatCanFire 33 = .ok (.iload 5, 2) := by decide +kernel
theorem dX3_timesThatCanFire_35 : decode cX3_timesThatCanFire 35 = .ok (.ifCond .le 15, 3) := by decide +kernel
theorem dX3_timesThatCanFire_38 : decode cX3_timesThatCanFire 38 = .ok (.iload_n 3, 1) := by decide +kernel
theorem dX3_timesThatCanFire_39 : decode cX3_timesThatCanFire 39 = .ok (.aload_n 1, 1) := by decide +kernel
theorem dX3_timesThatCanFire_40 : decode cX3_timesThatCanFire 40 = .ok (.iload 4, 2) := by decide +kernel
theorem dX3_timesThatCanFire_42 : decode cX3_timesThatCanFire 42 = .ok (.iaload, 1) := by decide +kernel
theorem dX3_timesThatCanFire_43 : decode cX3_timesThatCanFire 43 = .ok (.iload 5, 2) := by decide +kernel
theorem dX3_timesThatCanFire_45 : decode cX3_timesThatCanFire 45 = .ok (.idiv, 1) := by decide +kernel
theorem dX3_timesThatCanFire_46 : decode cX3_timesThatCanFire 46 = .ok (.invokestatic 89, 3) := by decide +kernel
theorem dX3_timesThatCanFire_49 : decode cX3_timesThatCanFire 49 = .ok (.istore_n 3, 1) := by decide +kernel
theorem dX3_timesThatCanFire_50 : decode cX3_timesThatCanFire 50 = .ok (.iinc 4 1, 3) := by decide +kernel
theorem dX3_timesThatCanFire_53 : decode cX3_timesThatCanFire 53 = .ok (.goto (-47), 3) := by decide +kernel
theorem dX3_timesThatCanFire_56 : decode cX3_timesThatCanFire 56 = .ok (.iload_n 3, 1) := by decide +kernel
theorem dX3_timesThatCanFire_57 : decode cX3_timesThatCanFire 57 = .ok (.ireturn, 1) := by decide +kernel
set_option maxRecDepth 20000 in
theorem ggX3_rankOfStart_X3_spreadFrom : GoodIn wsX3_rankOfStart wsX3_spreadFrom := goodIn_r _ [10, 11, 12, 13, 14, 9, 15, 16, 80, 81, 82, 83, 84] (by decide +kernel) (by decide +kernel)
set_option maxRecDepth 20000 in
theorem gX3_rankOfStart_X3_spreadFrom : GoodIn wsX3_rankOfStart (wsV RX3 57 RX3 yX3_spreadFrom wsX3_spreadFrom) := goodIn_app (goodIn_of _ (by decide +kernel)) ggX3_rankOfStart_X3_spreadFrom
set_option maxRecDepth 20000 in
theorem ggX3_rankOfStart_X3_reduce : GoodIn wsX3_rankOfStart wsX3_reduce := goodIn_r _ [20, 21, 22, 23, 24, 9, 25, 11, 2, 3, 4, 5, 12, 13, 14, 15, 16, 26, 27, 28, 29, 30, 31, 32, 33, 34, 35, 36, 37, 38, 39, 40, 41, 42, 43, 44, 45, 46, 47, 48, 80, 81, 82, 83, 84] (by decide +kernel) (by decide +kernel)
set_option maxRecDepth 20000 in
theorem gX3_rankOfStart_X3_reduce : GoodIn wsX3_rankOfStart (wsV RX3 92 RX3 yX3_reduce wsX3_reduce) := goodIn_app (goodIn_of _ (by decide +kernel)) ggX3_rankOfStart_X3_reduce
set_option maxRecDepth 20000 in
theorem ggX3_rankOfStart_X3_degree : GoodIn wsX3_rankOfStart wsX3_degree := goodIn_r _ [52, 53, 54, 55, 9, 56, 57, 58, 59, 60, 12, 13, 14, 15, 16, 80, 81, 82, 83, 84] (by decide +kernel) (by decide +kernel)
set_option maxRecDepth 20000 in
theorem gX3_rankOfStart_X3_degree : GoodIn wsX3_rankOfStart (wsV RX3 95 RX3 yX3_degree wsX3_degree) := goodIn_app (goodIn_of _ (by decide +kernel)) ggX3_rankOfStart_X3_degree
set_option maxRecDepth 20000 in
theorem ggX3_rankOfStart_X3_genus : GoodIn wsX3_rankOfStart wsX3_genus := goodIn_r _ [64, 65, 66, 67, 9, 68, 57, 58, 59, 60, 12, 13, 14, 15, 16, 69, 70, 71, 72, 53, 54, 55, 56, 80, 81, 82, 83, 84] (by decide +kernel) (by decide +kernel)
set_option maxRecDepth 20000 in
theorem gX3_rankOfStart_X3_genus : GoodIn wsX3_rankOfStart (wsV RX3 98 RX3 yX3_genus wsX3_genus) := goodIn_app (goodIn_of _ (by decide +kernel)) ggX3_rankOfStart_X3_genus
set_option maxRecDepth 20000 in
theorem ggX3_rankOfStart_X3_leastWithTaken : GoodIn wsX3_rankOfStart wsX3_leastWithTaken := goodIn_r _ [75, 1, 46, 47, 4, 48, 76, 77, 78, 79, 73, 74, 9, 53, 54, 55, 56, 57, 58, 59, 60, 12, 13, 14, 15, 16, 17, 18, 19, 20, 21, 22, 23, 24, 25, 11, 2, 3, 5, 26, 27, 28, 29, 30, 31, 32, 33, 34, 35, 36, 37, 38, 39, 40, 41, 42, 43, 44, 45, 80, 81, 82, 83, 84] (by decide +kernel) (by decide +kernel)
set_option maxRecDepth 20000 in
theorem gX3_rankOfStart_X3_leastWithTaken : GoodIn wsX3_rankOfStart (va_wsS RX3 101 yX3_leastWithTaken wsX3_leastWithTaken) := goodIn_app (goodIn_of _ (by decide +kernel)) ggX3_rankOfStart_X3_leastWithTaken
theorem dX3_rankOfStart_0 : decode cX3_rankOfStart 0 = .ok (.aload_n 0, 1) := by decide +kernel
theorem dX3_rankOfStart_1 : decode cX3_rankOfStart 1 = .ok (.iconst 0, 1) := by decide +kernel
theorem dX3_rankOfStart_2 : decode cX3_rankOfStart 2 = .ok (.invokevirtual 57, 3) := by decide +kernel
theorem dX3_rankOfStart_5 : decode cX3_rankOfStart 5 = .ok (.aload_n 0, 1) := by decide +kernel
theorem dX3_rankOfStart_6 : decode cX3_rankOfStart 6 = .ok (.aload_n 0, 1) := by decide +kernel
theorem dX3_rankOfStart_7 : decode cX3_rankOfStart 7 = .ok (.getfield 23, 3) := by decide +kernel
theorem dX3_rankOfStart_10 : decode cX3_rankOfStart 10 = .ok (.iconst 0, 1) := by decide +kernel
theorem dX3_rankOfStart_11 : decode cX3_rankOfStart 11 = .ok (.aaload, 1) := by decide +kernel
theorem dX3_rankOfStart_12 : decode cX3_rankOfStart 12 = .ok (.invokevirtual 92, 3) := by decide +kernel
theorem dX3_rankOfStart_15 : decode cX3_rankOfStart 15 = .ok (.aload_n 0, 1) := by decide +kernel
theorem dX3_rankOfStart_16 : decode cX3_rankOfStart 16 = .ok (.getfield 23, 3) := by decide +kernel
theorem dX3_rankOfStart_19 : decode cX3_rankOfStart 19 = .ok (.iconst 0, 1) := by decide +kernel
theorem dX3_rankOfStart_20 : decode cX3_rankOfStart 20 = .ok (.aaload, 1) := by decide +kernel
theorem dX3_rankOfStart_21 : decode cX3_rankOfStart 21 = .ok (.iconst 0, 1) := by decide +kernel
theorem dX3_rankOfStart_22 : decode cX3_rankOfStart 22 = .ok (.iaload, 1) := by decide +kernel
theorem dX3_rankOfStart_23 : decode cX3_rankOfStart 23 = .ok (.ifCond .ge 5, 3) := by decide +kernel
theorem dX3_rankOfStart_26 : decode cX3_rankOfStart 26 = .ok (.iconst (-1), 1) := by decide +kernel
theorem dX3_rankOfStart_27 : decode cX3_rankOfStart 27 = .ok (.ireturn, 1) := by decide +kernel
theorem dX3_rankOfStart_28 : decode cX3_rankOfStart 28 = .ok (.iconst 0, 1) := by decide +kernel
theorem dX3_rankOfStart_29 : decode cX3_rankOfStart 29 = .ok (.aload_n 0, 1) := by decide +kernel
theorem dX3_rankOfStart_30 : decode cX3_rankOfStart 30 = .ok (.aload_n 0, 1) := by decide +kernel
theorem dX3_rankOfStart_31 : decode cX3_rankOfStart 31 = .ok (.getfield 23, 3) := by decide +kernel
theorem dX3_rankOfStart_34 : decode cX3_rankOfStart 34 = .ok (.iconst 0, 1) := by decide +kernel
theorem dX3_rankOfStart_35 : decode cX3_rankOfStart 35 = .ok (.aaload, 1) := by decide +kernel
theorem dX3_rankOfStart_36 : decode cX3_rankOfStart 36 = .ok (.invokevirtual 95, 3) := by decide +kernel
theorem dX3_rankOfStart_39 : decode cX3_rankOfStart 39 = .ok (.aload_n 0, 1) := by decide +kernel
theorem dX3_rankOfStart_40 : decode cX3_rankOfStart 40 = .ok (.invokevirtual 98, 3) := by decide +kernel
theorem dX3_rankOfStart_43 : decode cX3_rankOfStart 43 = .ok (.isub, 1) := by decide +kernel
theorem dX3_rankOfStart_44 : decode cX3_rankOfStart 44 = .ok (.invokestatic 86, 3) := by decide +kernel
theorem dX3_rankOfStart_47 : decode cX3_rankOfStart 47 = .ok (.istore_n 1, 1) := by decide +kernel
theorem dX3_rankOfStart_48 : decode cX3_rankOfStart 48 = .ok (.aload_n 0, 1) := by decide +kernel
theorem dX3_rankOfStart_49 : decode cX3_rankOfStart 49 = .ok (.iconst 1, 1) := by decide +kernel
theorem dX3_rankOfStart_50 : decode cX3_rankOfStart 50 = .ok (.iconst 0, 1) := by decide +kernel
theorem dX3_rankOfStart_51 : decode cX3_rankOfStart 51 = .ok (.aload_n 0, 1) := by decide +kernel
theorem dX3_rankOfStart_52 : decode cX3_rankOfStart 52 = .ok (.getfield 23, 3) := by decide +kernel
theorem dX3_rankOfStart_55 : decode cX3_rankOfStart 55 = .ok (.iconst 0, 1) := by decide +kernel
theorem dX3_rankOfStart_56 : decode cX3_rankOfStart 56 = .ok (.aaload, 1) := by decide +kernel
theorem dX3_rankOfStart_57 : decode cX3_rankOfStart 57 = .ok (.iconst 0, 1) := by decide +kernel
theorem dX3_rankOfStart_58 : decode cX3_rankOfStart 58 = .ok (.iaload, 1) := by decide +kernel
theorem dX3_rankOfStart_59 : decode cX3_rankOfStart 59 = .ok (.iload_n 1, 1) := by decide +kernel
theorem dX3_rankOfStart_60 : decode cX3_rankOfStart 60 = .ok (.invokestatic 101, 3) := by decide +kernel
theorem dX3_rankOfStart_63 : decode cX3_rankOfStart 63 = .ok (.ireturn, 1) := by decide +kernel
set_option maxRecDepth 20000 in
theorem ggX3_leastWithTaken_X3_leastWithTaken : GoodIn wsX3_leastWithTaken wsX3_leastWithTaken := goodIn_r _ [0, 1, 2, 3, 4, 5, 6, 7, 8, 9, 10, 11, 12, 13, 14, 15, 16, 17, 18, 19, 20, 21, 22, 23, 24, 25, 26, 27, 28, 29, 30, 31, 32, 33, 34, 35, 36, 37, 38, 39, 40, 41, 42, 43, 44, 45, 46, 47, 48, 49, 50, 51, 52, 53, 54, 55, 56, 57, 58, 59, 60, 61, 62, 63] (by decide +kernel) (by decide +kernel)
set_option maxRecDepth 20000 in
theorem gX3_leastWithTaken_X3_leastWithTaken : GoodIn wsX3_leastWithTaken (va_wsS RX3 101 yX3_leastWithTaken wsX3_leastWithTaken) := goodIn_app (goodIn_of _ (by decide +kernel)) ggX3_leastWithTaken_X3_leastWithTaken
set_option maxRecDepth 20000 in
theorem ggX3_leastWithTaken_X3_hasVertex : GoodIn wsX3_leastWithTaken wsX3_hasVertex := goodIn_r _ [16, 17, 18, 19, 12, 20, 21, 22, 23, 24, 25, 59, 60, 61, 62, 63] (by decide +kernel) (by decide +kernel)
set_option maxRecDepth 20000 in
theorem gX3_leastWithTaken_X3_hasVertex : GoodIn wsX3_leastWithTaken (wsV RX3 43 RX3 yX3_hasVertex wsX3_hasVertex) := goodIn_app (goodIn_of _ (by decide +kernel)) ggX3_leastWithTaken_X3_hasVertex
set_option maxRecDepth 20000 in
theorem ggX3_leastWithTaken_X3_reduce : GoodIn wsX3_leastWithTaken wsX3_reduce := goodIn_r _ [29, 30, 31, 32, 33, 12, 34, 35, 36, 37, 4, 38, 21, 22, 23, 24, 25, 39, 40, 41, 42, 43, 44, 45, 46, 47, 48, 49, 50, 51, 52, 53, 54, 55, 56, 57, 58, 2, 3, 5, 59, 60, 61, 62, 63] (by decide +kernel) (by decide +kernel)
set_option maxRecDepth 20000 in
theorem gX3_leastWithTaken_X3_reduce : GoodIn wsX3_leastWithTaken (wsV RX3 92 RX3 yX3_reduce wsX3_reduce) := goodIn_app (goodIn_of _ (by decide +kernel)) ggX3_leastWithTaken_X3_reduce
theorem dX3_leastWithTaken_0 : decode cX3_leastWithTaken 0 = .ok (.iload_n 1, 1) := by decide +kernel
theorem dX3_leastWithTaken_1 : decode cX3_leastWithTaken 1 = .ok (.iconst 1, 1) := by decide +kernel
theorem dX3_leastWithTaken_2 : decode cX3_leastWithTaken 2 = .ok (.if_icmp .lt 8, 3) := by decide +kernel
theorem dX3_leastWithTaken_5 : decode cX3_leastWithTaken 5 = .ok (.iload_n 1, 1) := by decide +kernel
theorem dX3_leastWithTaken_6 : decode cX3_leastWithTaken 6 = .ok (.iconst 5, 1) := by decide +kernel
theorem dX3_leastWithTaken_7 : decode cX3_leastWithTaken 7 = .ok (.if_icmp .lt 33, 3) := by decide +kernel
theorem dX3_leastWithTaken_10 : decode cX3_leastWithTaken 10 = .ok (.aload_n 0, 1) := by decide +kernel
theorem dX3_leastWithTaken_11 : decode cX3_leastWithTaken 11 = .ok (.getfield 23, 3) := by decide +kernel
theorem dX3_leastWithTaken_14 : decode cX3_leastWithTaken 14 = .ok (.iconst 4, 1) := by decide +kernel
theorem dX3_leastWithTaken_15 : decode cX3_leastWithTaken 15 = .ok (.aaload, 1) := by decide +kernel
theorem dX3_leastWithTaken_16 : decode cX3_leastWithTaken 16 = .ok (.iconst 0, 1) := by decide +kernel
theorem dX3_leastWithTaken_17 : decode cX3_leastWithTaken 17 = .ok (.iaload, 1) := by decide +kernel
theorem dX3_leastWithTaken_18 : decode cX3_leastWithTaken 18 = .ok (.istore 5, 2) := by decide +kernel
theorem dX3_leastWithTaken_20 : decode cX3_leastWithTaken 20 = .ok (.iload_n 3, 1) := by decide +kernel
theorem dX3_leastWithTaken_21 : decode cX3_leastWithTaken 21 = .ok (.iload 5, 2) := by decide +kernel
theorem dX3_leastWithTaken_23 : decode cX3_leastWithTaken 23 = .ok (.ifCond .ge 9, 3) := by decide +kernel
theorem dX3_leastWithTaken_26 : decode cX3_leastWithTaken 26 = .ok (.iload_n 2, 1) := by decide +kernel
theorem dX3_leastWithTaken_27 : decode cX3_leastWithTaken 27 = .ok (.iconst 1, 1) := by decide +kernel
theorem dX3_leastWithTaken_28 : decode cX3_leastWithTaken 28 = .ok (.isub, 1) := by decide +kernel
theorem dX3_leastWithTaken_29 : decode cX3_leastWithTaken 29 = .ok (.goto 7, 3) := by decide +kernel
theorem dX3_leastWithTaken_32 : decode cX3_leastWithTaken 32 = .ok (.iload_n 2, 1) := by decide +kernel
theorem dX3_leastWithTaken_33 : decode cX3_leastWithTaken 33 = .ok (.iload 5, 2) := by decide +kernel
theorem dX3_leastWithTaken_35 : decode cX3_leastWithTaken 35 = .ok (.iadd, 1) := by decide +kernel
theorem dX3_leastWithTaken_36 : decode cX3_leastWithTaken 36 = .ok (.invokestatic 89, 3) := by decide +kernel
theorem dX3_leastWithTaken_39 : decode cX3_leastWithTaken 39 = .ok (.ireturn, 1) := by decide +kernel
theorem dX3_leastWithTaken_40 : decode cX3_leastWithTaken 40 = .ok (.aload_n 0, 1) := by decide +kernel
theorem dX3_leastWithTaken_41 : decode cX3_leastWithTaken 41 = .ok (.getfield 23, 3) := by decide +kernel
theorem dX3_leastWithTaken_44 : decode cX3_leastWithTaken 44 = .ok (.iload_n 1, 1) := by decide +kernel
theorem dX3_leastWithTaken_45 : decode cX3_leastWithTaken 45 = .ok (.aaload, 1) := by decide +kernel
theorem dX3_leastWithTaken_46 : decode cX3_leastWithTaken 46 = .ok (.astore 5, 2) := by decide +kernel
theorem dX3_leastWithTaken_48 : decode cX3_leastWithTaken 48 = .ok (.aload_n 0, 1) := by decide +kernel
theorem dX3_leastWithTaken_49 : decode cX3_leastWithTaken 49 = .ok (.getfield 23, 3) := by decide +kernel
theorem dX3_leastWithTaken_52 : decode cX3_leastWithTaken 52 = .ok (.iload_n 1, 1) := by decide +kernel
theorem dX3_leastWithTaken_53 : decode cX3_leastWithTaken 53 = .ok (.iconst 1, 1) := by decide +kernel
theorem dX3_leastWithTaken_54 : decode cX3_leastWithTaken 54 = .ok (.isub, 1) := by decide +kernel
theorem dX3_leastWithTaken_55 : decode cX3_leastWithTaken 55 = .ok (.aaload, 1) := by decide +kernel
theorem dX3_leastWithTaken_56 : decode cX3_leastWithTaken 56 = .ok (.iconst 0, 1) := by decide +kernel
theorem dX3_leastWithTaken_57 : decode cX3_leastWithTaken 57 = .ok (.aload 5, 2) := by decide +kernel
theorem dX3_leastWithTaken_59 : decode cX3_leastWithTaken 59 = .ok (.iconst 0, 1) := by decide +kernel
theorem dX3_leastWithTaken_60 : decode cX3_leastWithTaken 60 = .ok (.iconst 5, 1) := by decide +kernel
theorem dX3_leastWithTaken_61 : decode cX3_leastWithTaken 61 = .ok (.invokestatic 29, 3) := by decide +kernel
theorem dX3_leastWithTaken_64 : decode cX3_leastWithTaken 64 = .ok (.aload_n 0, 1) := by decide +kernel
theorem dX3_leastWithTaken_65 : decode cX3_leastWithTaken 65 = .ok (.iload_n 1, 1) := by decide +kernel
theorem dX3_leastWithTaken_66 : decode cX3_leastWithTaken 66 = .ok (.iconst 1, 1) := by decide +kernel
theorem dX3_leastWithTaken_67 : decode cX3_leastWithTaken 67 = .ok (.iadd, 1) := by decide +kernel
theorem dX3_leastWithTaken_68 : decode cX3_leastWithTaken 68 = .ok (.iload_n 2, 1) := by decide +kernel
theorem dX3_leastWithTaken_69 : decode cX3_leastWithTaken 69 = .ok (.iload_n 3, 1) := by decide +kernel
theorem dX3_leastWithTaken_70 : decode cX3_leastWithTaken 70 = .ok (.iload 4, 2) := by decide +kernel
theorem dX3_leastWithTaken_72 : decode cX3_leastWithTaken 72 = .ok (.invokestatic 101, 3) := by decide +kernel
theorem dX3_leastWithTaken_75 : decode cX3_leastWithTaken 75 = .ok (.istore 6, 2) := by decide +kernel
theorem dX3_leastWithTaken_77 : decode cX3_leastWithTaken 77 = .ok (.aload_n 0, 1) := by decide +kernel
theorem dX3_leastWithTaken_78 : decode cX3_leastWithTaken 78 = .ok (.iload_n 1, 1) := by decide +kernel
theorem dX3_leastWithTaken_79 : decode cX3_leastWithTaken 79 = .ok (.invokevirtual 43, 3) := by decide +kernel
theorem dX3_leastWithTaken_82 : decode cX3_leastWithTaken 82 = .ok (.ifCond .ne 6, 3) := by decide +kernel
theorem dX3_leastWithTaken_85 : decode cX3_leastWithTaken 85 = .ok (.iload 6, 2) := by decide +kernel
theorem dX3_leastWithTaken_87 : decode cX3_leastWithTaken 87 = .ok (.ireturn, 1) := by decide +kernel
theorem dX3_leastWithTaken_88 : decode cX3_leastWithTaken 88 = .ok (.iload_n 2, 1) := by decide +kernel
theorem dX3_leastWithTaken_89 : decode cX3_leastWithTaken 89 = .ok (.iconst 1, 1) := by decide +kernel
theorem dX3_leastWithTaken_90 : decode cX3_leastWithTaken 90 = .ok (.iadd, 1) := by decide +kernel
theorem dX3_leastWithTaken_91 : decode cX3_leastWithTaken 91 = .ok (.istore 7, 2) := by decide +kernel
theorem dX3_leastWithTaken_93 : decode cX3_leastWithTaken 93 = .ok (.iload 7, 2) := by decide +kernel
theorem dX3_leastWithTaken_95 : decode cX3_leastWithTaken 95 = .ok (.iload 6, 2) := by decide +kernel
theorem dX3_leastWithTaken_97 : decode cX3_leastWithTaken 97 = .ok (.if_icmp .gt 45, 3) := by decide +kernel
theorem dX3_leastWithTaken_100 : decode cX3_leastWithTaken 100 = .ok (.iload 6, 2) := by decide +kernel
theorem dX3_leastWithTaken_102 : decode cX3_leastWithTaken 102 = .ok (.iload 4, 2) := by decide +kernel
theorem dX3_leastWithTaken_104 : decode cX3_leastWithTaken 104 = .ok (.if_icmp .le 38, 3) := by decide +kernel
theorem dX3_leastWithTaken_107 : decode cX3_leastWithTaken 107 = .ok (.aload 5, 2) := by decide +kernel
theorem dX3_leastWithTaken_109 : decode cX3_leastWithTaken 109 = .ok (.iload_n 1, 1) := by decide +kernel
theorem dX3_leastWithTaken_110 : decode cX3_leastWithTaken 110 = .ok (.dup2, 1) := by decide +kernel
theorem dX3_leastWithTaken_111 : decode cX3_leastWithTaken 111 = .ok (.iaload, 1) := by decide +kernel
theorem dX3_leastWithTaken_112 : decode cX3_leastWithTaken 112 = .ok (.iconst 1, 1) := by decide +kernel
theorem dX3_leastWithTaken_113 : decode cX3_leastWithTaken 113 = .ok (.isub, 1) := by decide +kernel
theorem dX3_leastWithTaken_114 : decode cX3_leastWithTaken 114 = .ok (.iastore, 1) := by decide +kernel
theorem dX3_leastWithTaken_115 : decode cX3_leastWithTaken 115 = .ok (.aload_n 0, 1) := by decide +kernel
theorem dX3_leastWithTaken_116 : decode cX3_leastWithTaken 116 = .ok (.aload 5, 2) := by decide +kernel
theorem dX3_leastWithTaken_118 : decode cX3_leastWithTaken 118 = .ok (.invokevirtual 92, 3) := by decide +kernel
theorem dX3_leastWithTaken_121 : decode cX3_leastWithTaken 121 = .ok (.aload_n 0, 1) := by decide +kernel
theorem dX3_leastWithTaken_122 : decode cX3_leastWithTaken 122 = .ok (.iload_n 1, 1) := by decide +kernel
theorem dX3_leastWithTaken_123 : decode cX3_leastWithTaken 123 = .ok (.iconst 1, 1) := by decide +kernel
theorem dX3_leastWithTaken_124 : decode cX3_leastWithTaken 124 = .ok (.iadd, 1) := by decide +kernel
theorem dX3_leastWithTaken_125 : decode cX3_leastWithTaken 125 = .ok (.iload 7, 2) := by decide +kernel
theorem dX3_leastWithTaken_127 : decode cX3_leastWithTaken 127 = .ok (.iload 6, 2) := by decide +kernel
theorem dX3_leastWithTaken_129 : decode cX3_leastWithTaken 129 = .ok (.iload 4, 2) := by decide +kernel
theorem dX3_leastWithTaken_131 : decode cX3_leastWithTaken 131 = .ok (.invokestatic 101, 3) := by decide +kernel
theorem dX3_leastWithTaken_134 : decode cX3_leastWithTaken 134 = .ok (.istore 6, 2) := by decide +kernel
theorem dX3_leastWithTaken_136 : decode cX3_leastWithTaken 136 = .ok (.iinc 7 1, 3) := by decide +kernel
theorem dX3_leastWithTaken_139 : decode cX3_leastWithTaken 139 = .ok (.goto (-46), 3) := by decide +kernel
theorem dX3_leastWithTaken_142 : decode cX3_leastWithTaken 142 = .ok (.iload 6, 2) := by decide +kernel
theorem dX3_leastWithTaken_144 : decode cX3_leastWithTaken 144 = .ok (.ireturn, 1) := by decide +kernel
set_option maxRecDepth 20000 in
theorem ggX3_countSpanningTrees_X3_isConnected : GoodIn wsX3_countSpanningTrees wsX3_isConnected := goodIn_r _ [6, 7, 8, 9, 10, 5, 11, 12, 13, 14, 15, 16, 17, 18, 19, 20, 21, 22, 23, 24, 25, 26, 27, 28, 41, 42, 43, 44, 45] (by decide +kernel) (by decide +kernel)
set_option maxRecDepth 20000 in
theorem gX3_countSpanningTrees_X3_isConnected : GoodIn wsX3_countSpanningTrees (wsV RX3 105 RX3 yX3_isConnected wsX3_isConnected) := goodIn_app (goodIn_of _ (by decide +kernel)) ggX3_countSpanningTrees_X3_isConnected
set_option maxRecDepth 20000 in
theorem ggX3_countSpanningTrees_X3_putLaplacian : GoodIn wsX3_countSpanningTrees wsX3_putLaplacian := goodIn_r _ [32, 1, 16, 33, 34, 35, 36, 21, 22, 23, 5, 24, 12, 13, 14, 15, 41, 42, 43, 44, 45] (by decide +kernel) (by decide +kernel)
set_option maxRecDepth 20000 in
theorem gX3_countSpanningTrees_X3_putLaplacian : GoodIn wsX3_countSpanningTrees (wsV RX3 109 RX3 yX3_putLaplacian wsX3_putLaplacian) := goodIn_app (goodIn_of _ (by decide +kernel)) ggX3_countSpanningTrees_X3_putLaplacian
set_option maxRecDepth 20000 in
theorem ggX3_countSpanningTrees_X3_eliminate : GoodIn wsX3_countSpanningTrees wsX3_eliminate := goodIn_r _ [40, 1, 41, 42, 43, 44, 45] (by decide +kernel) (by decide +kernel)
set_option maxRecDepth 20000 in
theorem gX3_countSpanningTrees_X3_eliminate : GoodIn wsX3_countSpanningTrees (wsV RX3 112 RX3 yX3_eliminate wsX3_eliminate) := goodIn_app (goodIn_of _ (by decide +kernel)) ggX3_countSpanningTrees_X3_eliminate
theorem dX3_countSpanningTrees_0 : decode cX3_countSpanningTrees 0 = .ok (.aload_n 0, 1) := by decide +kernel
theorem dX3_countSpanningTrees_1 : decode cX3_countSpanningTrees 1 = .ok (.invokevirtual 105, 3) := by decide +kernel
theorem dX3_countSpanningTrees_4 : decode cX3_countSpanningTrees 4 = .ok (.ifCond .ne 5, 3) := by decide +kernel
theorem dX3_countSpanningTrees_7 : decode cX3_countSpanningTrees 7 = .ok (.iconst 0, 1) := by decide +kernel
theorem dX3_countSpanningTrees_8 : decode cX3_countSpanningTrees 8 = .ok (.ireturn, 1) := by decide +kernel
theorem dX3_countSpanningTrees_9 : decode cX3_countSpanningTrees 9 = .ok (.aload_n 0, 1) := by decide +kernel
theorem dX3_countSpanningTrees_10 : decode cX3_countSpanningTrees 10 = .ok (.invokevirtual 109, 3) := by decide +kernel
theorem dX3_countSpanningTrees_13 : decode cX3_countSpanningTrees 13 = .ok (.iconst 1, 1) := by decide +kernel
theorem dX3_countSpanningTrees_14 : decode cX3_countSpanningTrees 14 = .ok (.istore_n 1, 1) := by decide +kernel
theorem dX3_countSpanningTrees_15 : decode cX3_countSpanningTrees 15 = .ok (.iconst 0, 1) := by decide +kernel
theorem dX3_countSpanningTrees_16 : decode cX3_countSpanningTrees 16 = .ok (.istore_n 2, 1) := by decide +kernel
theorem dX3_countSpanningTrees_17 : decode cX3_countSpanningTrees 17 = .ok (.iload_n 2, 1) := by decide +kernel
theorem dX3_countSpanningTrees_18 : decode cX3_countSpanningTrees 18 = .ok (.iconst 3, 1) := by decide +kernel
theorem dX3_countSpanningTrees_19 : decode cX3_countSpanningTrees 19 = .ok (.if_icmp .ge 28, 3) := by decide +kernel
theorem dX3_countSpanningTrees_22 : decode cX3_countSpanningTrees 22 = .ok (.iload_n 1, 1) := by decide +kernel
theorem dX3_countSpanningTrees_23 : decode cX3_countSpanningTrees 23 = .ok (.ifCond .eq 24, 3) := by decide +kernel
theorem dX3_countSpanningTrees_26 : decode cX3_countSpanningTrees 26 = .ok (.aload_n 0, 1) := by decide +kernel
theorem dX3_countSpanningTrees_27 : decode cX3_countSpanningTrees 27 = .ok (.iload_n 2, 1) := by decide +kernel
theorem dX3_countSpanningTrees_28 : decode cX3_countSpanningTrees 28 = .ok (.iload_n 1, 1) := by decide +kernel
theorem dX3_countSpanningTrees_29 : decode cX3_countSpanningTrees 29 = .ok (.invokevirtual 112, 3) := by decide +kernel
theorem dX3_countSpanningTrees_32 : decode cX3_countSpanningTrees 32 = .ok (.aload_n 0, 1) := by decide +kernel
theorem dX3_countSpanningTrees_33 : decode cX3_countSpanningTrees 33 = .ok (.getfield 26, 3) := by decide +kernel
theorem dX3_countSpanningTrees_36 : decode cX3_countSpanningTrees 36 = .ok (.iload_n 2, 1) := by decide +kernel
theorem dX3_countSpanningTrees_37 : decode cX3_countSpanningTrees 37 = .ok (.aaload, 1) := by decide +kernel
theorem dX3_countSpanningTrees_38 : decode cX3_countSpanningTrees 38 = .ok (.iload_n 2, 1) := by decide +kernel
theorem dX3_countSpanningTrees_39 : decode cX3_countSpanningTrees 39 = .ok (.iaload, 1) := by decide +kernel
theorem dX3_countSpanningTrees_40 : decode cX3_countSpanningTrees 40 = .ok (.istore_n 1, 1) := by decide +kernel
theorem dX3_countSpanningTrees_41 : decode cX3_countSpanningTrees 41 = .ok (.iinc 2 1, 3) := by decide +kernel
theorem dX3_countSpanningTrees_44 : decode cX3_countSpanningTrees 44 = .ok (.goto (-27), 3) := by decide +kernel
theorem dX3_countSpanningTrees_47 : decode cX3_countSpanningTrees 47 = .ok (.iload_n 1, 1) := by decide +kernel
theorem dX3_countSpanningTrees_48 : decode cX3_countSpanningTrees 48 = .ok (.ifCond .ne 7, 3) := by decide +kernel
theorem dX3_countSpanningTrees_51 : decode cX3_countSpanningTrees 51 = .ok (.iconst 0, 1) := by decide +kernel
theorem dX3_countSpanningTrees_52 : decode cX3_countSpanningTrees 52 = .ok (.goto 11, 3) := by decide +kernel
theorem dX3_countSpanningTrees_55 : decode cX3_countSpanningTrees 55 = .ok (.aload_n 0, 1) := by decide +kernel
theorem dX3_countSpanningTrees_56 : decode cX3_countSpanningTrees 56 = .ok (.getfield 26, 3) := by decide +kernel
theorem dX3_countSpanningTrees_59 : decode cX3_countSpanningTrees 59 = .ok (.iconst 3, 1) := by decide +kernel
theorem dX3_countSpanningTrees_60 : decode cX3_countSpanningTrees 60 = .ok (.aaload, 1) := by decide +kernel
theorem dX3_countSpanningTrees_61 : decode cX3_countSpanningTrees 61 = .ok (.iconst 3, 1) := by decide +kernel
theorem dX3_countSpanningTrees_62 : decode cX3_countSpanningTrees 62 = .ok (.iaload, 1) := by decide +kernel
theorem dX3_countSpanningTrees_63 : decode cX3_countSpanningTrees 63 = .ok (.ireturn, 1) := by decide +kernel
set_option maxRecDepth 20000 in
theorem ggX3_putLaplacian_X3_allVertices : GoodIn wsX3_putLaplacian wsX3_allVertices := goodIn_r _ [11] (by decide +kernel) (by decide +kernel)
set_option maxRecDepth 20000 in
theorem gX3_putLaplacian_X3_allVertices : GoodIn wsX3_putLaplacian (wsV RX3 35 RX3 yX3_allVertices wsX3_allVertices) := goodIn_app (goodIn_of _ (by decide +kernel)) ggX3_putLaplacian_X3_allVertices
set_option maxRecDepth 20000 in
theorem ggX3_putLaplacian_X3_countEdgesInto : GoodIn wsX3_putLaplacian wsX3_countEdgesInto := goodIn_r _ [15, 2, 16, 17, 18, 19, 20] (by decide +kernel) (by decide +kernel)
set_option maxRecDepth 20000 in
theorem gX3_putLaplacian_X3_countEdgesInto : GoodIn wsX3_putLaplacian (wsV RX3 39 RX3 yX3_countEdgesInto wsX3_countEdgesInto) := goodIn_app (goodIn_of _ (by decide +kernel)) ggX3_putLaplacian_X3_countEdgesInto
theorem dX3_putLaplacian_0 : decode cX3_putLaplacian 0 = .ok (.iconst 1, 1) := by decide +kernel
theorem dX3_putLaplacian_1 : decode cX3_putLaplacian 1 = .ok (.istore_n 1, 1) := by decide +kernel
theorem dX3_putLaplacian_2 : decode cX3_putLaplacian 2 = .ok (.iload_n 1, 1) := by decide +kernel
theorem dX3_putLaplacian_3 : decode cX3_putLaplacian 3 = .ok (.iconst 5, 1) := by decide +kernel
theorem dX3_putLaplacian_4 : decode cX3_putLaplacian 4 = .ok (.if_icmp .ge 68, 3) := by decide +kernel
theorem dX3_putLaplacian_7 : decode cX3_putLaplacian 7 = .ok (.iconst 1, 1) := by decide +kernel
theorem dX3_putLaplacian_8 : decode cX3_putLaplacian 8 = .ok (.istore_n 2, 1) := by decide +kernel
theorem dX3_putLaplacian_9 : decode cX3_putLaplacian 9 = .ok (.iload_n 2, 1) := by decide +kernel
theorem dX3_putLaplacian_10 : decode cX3_putLaplacian 10 = .ok (.iconst 5, 1) := by decide +kernel
theorem dX3_putLaplacian_11 : decode cX3_putLaplacian 11 = .ok (.if_icmp .ge 30, 3) := by decide +kernel
theorem dX3_putLaplacian_14 : decode cX3_putLaplacian 14 = .ok (.aload_n 0, 1) := by decide +kernel
theorem dX3_putLaplacian_15 : decode cX3_putLaplacian 15 = .ok (.getfield 26, 3) := by decide +kernel
theorem dX3_putLaplacian_18 : decode cX3_putLaplacian 18 = .ok (.iload_n 1, 1) := by decide +kernel
theorem dX3_putLaplacian_19 : decode cX3_putLaplacian 19 = .ok (.iconst 1, 1) := by decide +kernel
theorem dX3_putLaplacian_20 : decode cX3_putLaplacian 20 = .ok (.isub, 1) := by decide +kernel
theorem dX3_putLaplacian_21 : decode cX3_putLaplacian 21 = .ok (.aaload, 1) := by decide +kernel
theorem dX3_putLaplacian_22 : decode cX3_putLaplacian 22 = .ok (.iload_n 2, 1) := by decide +kernel
theorem dX3_putLaplacian_23 : decode cX3_putLaplacian 23 = .ok (.iconst 1, 1) := by decide +kernel
theorem dX3_putLaplacian_24 : decode cX3_putLaplacian 24 = .ok (.isub, 1) := by decide +kernel
theorem dX3_putLaplacian_25 : decode cX3_putLaplacian 25 = .ok (.aload_n 0, 1) := by decide +kernel
theorem dX3_putLaplacian_26 : decode cX3_putLaplacian 26 = .ok (.getfield 11, 3) := by decide +kernel
theorem dX3_putLaplacian_29 : decode cX3_putLaplacian 29 = .ok (.iload_n 1, 1) := by decide +kernel
theorem dX3_putLaplacian_30 : decode cX3_putLaplacian 30 = .ok (.aaload, 1) := by decide +kernel
theorem dX3_putLaplacian_31 : decode cX3_putLaplacian 31 = .ok (.iload_n 2, 1) := by decide +kernel
theorem dX3_putLaplacian_32 : decode cX3_putLaplacian 32 = .ok (.iaload, 1) := by decide +kernel
theorem dX3_putLaplacian_33 : decode cX3_putLaplacian 33 = .ok (.ineg, 1) := by decide +kernel
theorem dX3_putLaplacian_34 : decode cX3_putLaplacian 34 = .ok (.iastore, 1) := by decide +kernel
theorem dX3_putLaplacian_35 : decode cX3_putLaplacian 35 = .ok (.iinc 2 1, 3) := by decide +kernel
theorem dX3_putLaplacian_38 : decode cX3_putLaplacian 38 = .ok (.goto (-29), 3) := by decide +kernel
theorem dX3_putLaplacian_41 : decode cX3_putLaplacian 41 = .ok (.aload_n 0, 1) := by decide +kernel
theorem dX3_putLaplacian_42 : decode cX3_putLaplacian 42 = .ok (.getfield 26, 3) := by decide +kernel
theorem dX3_putLaplacian_45 : decode cX3_putLaplacian 45 = .ok (.iload_n 1, 1) := by decide +kernel
theorem dX3_putLaplacian_46 : decode cX3_putLaplacian 46 = .ok (.iconst 1, 1) := by decide +kernel
theorem dX3_putLaplacian_47 : decode cX3_putLaplacian 47 = .ok (.isub, 1) := by decide +kernel
theorem dX3_putLaplacian_48 : decode cX3_putLaplacian 48 = .ok (.aaload, 1) := by decide +kernel
theorem dX3_putLaplacian_49 : decode cX3_putLaplacian 49 = .ok (.iload_n 1, 1) := by decide +kernel
theorem dX3_putLaplacian_50 : decode cX3_putLaplacian 50 = .ok (.iconst 1, 1) := by decide +kernel
theorem dX3_putLaplacian_51 : decode cX3_putLaplacian 51 = .ok (.isub, 1) := by decide +kernel
theorem dX3_putLaplacian_52 : decode cX3_putLaplacian 52 = .ok (.iconst 1, 1) := by decide +kernel
theorem dX3_putLaplacian_53 : decode cX3_putLaplacian 53 = .ok (.aload_n 0, 1) := by decide +kernel
theorem dX3_putLaplacian_54 : decode cX3_putLaplacian 54 = .ok (.iload_n 1, 1) := by decide +kernel
theorem dX3_putLaplacian_55 : decode cX3_putLaplacian 55 = .ok (.aload_n 0, 1) := by decide +kernel
theorem dX3_putLaplacian_56 : decode cX3_putLaplacian 56 = .ok (.invokevirtual 35, 3) := by decide +kernel
theorem dX3_putLaplacian_59 : decode cX3_putLaplacian 59 = .ok (.invokevirtual 39, 3) := by decide +kernel
theorem dX3_putLaplacian_62 : decode cX3_putLaplacian 62 = .ok (.invokestatic 86, 3) := by decide +kernel
theorem dX3_putLaplacian_65 : decode cX3_putLaplacian 65 = .ok (.iastore, 1) := by decide +kernel
theorem dX3_putLaplacian_66 : decode cX3_putLaplacian 66 = .ok (.iinc 1 1, 3) := by decide +kernel
theorem dX3_putLaplacian_69 : decode cX3_putLaplacian 69 = .ok (.goto (-67), 3) := by decide +kernel
theorem dX3_putLaplacian_72 : decode cX3_putLaplacian 72 = .ok (.return_, 1) := by decide +kernel
theorem dX3_eliminate_0 : decode cX3_eliminate 0 = .ok (.aload_n 0, 1) := by decide +kernel
theorem dX3_eliminate_1 : decode cX3_eliminate 1 = .ok (.getfield 26, 3) := by decide +kernel
theorem dX3_eliminate_4 : decode cX3_eliminate 4 = .ok (.iload_n 1, 1) := by decide +kernel
theorem dX3_eliminate_5 : decode cX3_eliminate 5 = .ok (.aaload, 1) := by decide +kernel
theorem dX3_eliminate_6 : decode cX3_eliminate 6 = .ok (.iload_n 1, 1) := by decide +kernel
theorem dX3_eliminate_7 : decode cX3_eliminate 7 = .ok (.iaload, 1) := by decide +kernel
theorem dX3_eliminate_8 : decode cX3_eliminate 8 = .ok (.istore_n 3, 1) := by decide +kernel
theorem dX3_eliminate_9 : decode cX3_eliminate 9 = .ok (.iload_n 1, 1) := by decide +kernel
theorem dX3_eliminate_10 : decode cX3_eliminate 10 = .ok (.iconst 1, 1) := by decide +kernel
theorem dX3_eliminate_11 : decode cX3_eliminate 11 = .ok (.iadd, 1) := by decide +kernel
theorem dX3_eliminate_12 : decode cX3_eliminate 12 = .ok (.istore 4, 2) := by decide +kernel
theorem dX3_eliminate_14 : decode cX3_eliminate 14 = .ok (.iload 4, 2) := by decide +kernel
theorem dX3_eliminate_16 : decode cX3_eliminate 16 = .ok (.iconst 4, 1) := by decide +kernel
theorem dX3_eliminate_17 : decode cX3_eliminate 17 = .ok (.if_icmp .ge 74, 3) := by decide +kernel
theorem dX3_eliminate_20 : decode cX3_eliminate 20 = .ok (.iload_n 1, 1) := by decide +kernel
theorem dX3_eliminate_21 : decode cX3_eliminate 21 = .ok (.iconst 1, 1) := by decide +kernel
theorem dX3_eliminate_22 : decode cX3_eliminate 22 = .ok (.iadd, 1) := by decide +kernel
theorem dX3_eliminate_23 : decode cX3_eliminate 23 = .ok (.istore 5, 2) := by decide +kernel
theorem dX3_eliminate_25 : decode cX3_eliminate 25 = .ok (.iload 5, 2) := by decide +kernel
theorem dX3_eliminate_27 : decode cX3_eliminate 27 = .ok (.iconst 4, 1) := by decide +kernel
theorem dX3_eliminate_28 : decode cX3_eliminate 28 = .ok (.if_icmp .ge 57, 3) := by decide +kernel
theorem dX3_eliminate_31 : decode cX3_eliminate 31 = .ok (.aload_n 0, 1) := by decide +kernel
theorem dX3_eliminate_32 : decode cX3_eliminate 32 = .ok (.getfield 26, 3) := by decide +kernel
theorem dX3_eliminate_35 : decode cX3_eliminate 35 = .ok (.iload 4, 2) := by decide +kernel
theorem dX3_eliminate_37 : decode cX3_eliminate 37 = .ok (.aaload, 1) := by decide +kernel
theorem dX3_eliminate_38 : decode cX3_eliminate 38 = .ok (.iload_n 1, 1) := by decide +kernel
theorem dX3_eliminate_39 : decode cX3_eliminate 39 = .ok (.iaload, 1) := by decide +kernel
theorem dX3_eliminate_40 : decode cX3_eliminate 40 = .ok (.aload_n 0, 1) := by decide +kernel
theorem dX3_eliminate_41 : decode cX3_eliminate 41 = .ok (.getfield 26, 3) := by decide +kernel
theorem dX3_eliminate_44 : decode cX3_eliminate 44 = .ok (.iload_n 1, 1) := by decide +kernel
theorem dX3_eliminate_45 : decode cX3_eliminate 45 = .ok (.aaload, 1) := by decide +kernel
theorem dX3_eliminate_46 : decode cX3_eliminate 46 = .ok (.iload 5, 2) := by decide +kernel
theorem dX3_eliminate_48 : decode cX3_eliminate 48 = .ok (.iaload, 1) := by decide +kernel
theorem dX3_eliminate_49 : decode cX3_eliminate 49 = .ok (.imul, 1) := by decide +kernel
theorem dX3_eliminate_50 : decode cX3_eliminate 50 = .ok (.istore 6, 2) := by decide +kernel
theorem dX3_eliminate_52 : decode cX3_eliminate 52 = .ok (.aload_n 0, 1) := by decide +kernel
theorem dX3_eliminate_53 : decode cX3_eliminate 53 = .ok (.getfield 26, 3) := by decide +kernel
theorem dX3_eliminate_56 : decode cX3_eliminate 56 = .ok (.iload 4, 2) := by decide +kernel
theorem dX3_eliminate_58 : decode cX3_eliminate 58 = .ok (.aaload, 1) := by decide +kernel
theorem dX3_eliminate_59 : decode cX3_eliminate 59 = .ok (.iload 5, 2) := by decide +kernel
theorem dX3_eliminate_61 : decode cX3_eliminate 61 = .ok (.iload_n 3, 1) := by decide +kernel
theorem dX3_eliminate_62 : decode cX3_eliminate 62 = .ok (.aload_n 0, 1) := by decide +kernel
theorem dX3_eliminate_63 : decode cX3_eliminate 63 = .ok (.getfield 26, 3) := by decide +kernel
theorem dX3_eliminate_66 : decode cX3_eliminate 66 = .ok (.iload 4, 2) := by decide +kernel
theorem dX3_eliminate_68 : decode cX3_eliminate 68 = .ok (.aaload, 1) := by decide +kernel
theorem dX3_eliminate_69 : decode cX3_eliminate 69 = .ok (.iload 5, 2) := by decide +kernel
theorem dX3_eliminate_71 : decode cX3_eliminate 71 = .ok (.iaload, 1) := by decide +kernel
theorem dX3_eliminate_72 : decode cX3_eliminate 72 = .ok (.imul, 1) := by decide +kernel
theorem dX3_eliminate_73 : decode cX3_eliminate 73 = .ok (.iload 6, 2) := by decide +kernel
theorem dX3_eliminate_75 : decode cX3_eliminate 75 = .ok (.isub, 1) := by decide +kernel
theorem dX3_eliminate_76 : decode cX3_eliminate 76 = .ok (.iload_n 2, 1) := by decide +kernel
theorem dX3_eliminate_77 : decode cX3_eliminate 77 = .ok (.idiv, 1) := by decide +kernel
theorem dX3_eliminate_78 : decode cX3_eliminate 78 = .ok (.iastore, 1) := by decide +kernel
theorem dX3_eliminate_79 : decode cX3_eliminate 79 = .ok (.iinc 5 1, 3) := by decide +kernel
theorem dX3_eliminate_82 : decode cX3_eliminate 82 = .ok (.goto (-57), 3) := by decide +kernel
theorem dX3_eliminate_85 : decode cX3_eliminate 85 = .ok (.iinc 4 1, 3) := by decide +kernel
theorem dX3_eliminate_88 : decode cX3_eliminate 88 = .ok (.goto (-74), 3) := by decide +kernel
theorem dX3_eliminate_91 : decode cX3_eliminate 91 = .ok (.return_, 1) := by decide +kernel
set_option maxRecDepth 20000 in
theorem ggX4_init_J7_fill_53178 : GoodIn wsX4_init wsJ7_fill_53178 := goodIn_r _ [10] (by decide +kernel) (by decide +kernel)
set_option maxRecDepth 20000 in
theorem gX4_init_J7_fill_53178 : GoodIn wsX4_init (va_wsS RX4 16 yJ7_fill_53178 wsJ7_fill_53178) := goodIn_app (goodIn_of _ (by decide +kernel)) ggX4_init_J7_fill_53178
theorem dX4_init_0 : decode cX4_init 0 = .ok (.aload_n 0, 1) := by decide +kernel
theorem dX4_init_1 : decode cX4_init 1 = .ok (.invokespecial 3, 3) := by decide +kernel
theorem dX4_init_4 : decode cX4_init 4 = .ok (.aload_n 0, 1) := by decide +kernel
theorem dX4_init_5 : decode cX4_init 5 = .ok (.bipush 9, 2) := by decide +kernel
theorem dX4_init_7 : decode cX4_init 7 = .ok (.newarray .int, 2) := by decide +kernel
theorem dX4_init_9 : decode cX4_init 9 = .ok (.putfield 9, 3) := by decide +kernel
theorem dX4_init_12 : decode cX4_init 12 = .ok (.aload_n 0, 1) := by decide +kernel
theorem dX4_init_13 : decode cX4_init 13 = .ok (.getfield 9, 3) := by decide +kernel
theorem dX4_init_16 : decode cX4_init 16 = .ok (.ldc 15, 2) := by decide +kernel
theorem dX4_init_18 : decode cX4_init 18 = .ok (.invokestatic 16, 3) := by decide +kernel
theorem dX4_init_21 : decode cX4_init 21 = .ok (.return_, 1) := by decide +kernel
theorem dX4_hasTerm_0 : decode cX4_hasTerm 0 = .ok (.aload_n 0, 1) := by decide +kernel
theorem dX4_hasTerm_1 : decode cX4_hasTerm 1 = .ok (.getfield 9, 3) := by decide +kernel
theorem dX4_hasTerm_4 : decode cX4_hasTerm 4 = .ok (.iload_n 1, 1) := by decide +kernel
theorem dX4_hasTerm_5 : decode cX4_hasTerm 5 = .ok (.iaload, 1) := by decide +kernel
theorem dX4_hasTerm_6 : decode cX4_hasTerm 6 = .ok (.ldc 15, 2) := by decide +kernel
theorem dX4_hasTerm_8 : decode cX4_hasTerm 8 = .ok (.if_icmp .eq 7, 3) := by decide +kernel
theorem dX4_hasTerm_11 : decode cX4_hasTerm 11 = .ok (.iconst 1, 1) := by decide +kernel
theorem dX4_hasTerm_12 : decode cX4_hasTerm 12 = .ok (.goto 4, 3) := by decide +kernel
theorem dX4_hasTerm_15 : decode cX4_hasTerm 15 = .ok (.iconst 0, 1) := by decide +kernel
theorem dX4_hasTerm_16 : decode cX4_hasTerm 16 = .ok (.ireturn, 1) := by decide +kernel
set_option maxRecDepth 20000 in
theorem ggX4_countTerms_X4_hasTerm : GoodIn wsX4_countTerms wsX4_hasTerm := goodIn_r _ [5, 6, 7, 8] (by decide +kernel) (by decide +kernel)
set_option maxRecDepth 20000 in
theorem gX4_countTerms_X4_hasTerm : GoodIn wsX4_countTerms (wsV RX4 22 RX4 yX4_hasTerm wsX4_hasTerm) := goodIn_app (goodIn_of _ (by decide +kernel)) ggX4_countTerms_X4_hasTerm
theorem dX4_countTerms_0 : decode cX4_countTerms 0 = .ok (.iconst 0, 1) := by decide +kernel
theorem dX4_countTerms_1 : decode cX4_countTerms 1 = .ok (.istore_n 1, 1) := by decide +kernel
theorem dX4_countTerms_2 : decode cX4_countTerms 2 = .ok (.iconst 0, 1) := by decide +kernel
theorem dX4_countTerms_3 : decode cX4_countTerms 3 = .ok (.istore_n 2, 1) := by decide +kernel
theorem dX4_countTerms_4 : decode cX4_countTerms 4 = .ok (.iload_n 2, 1) := by decide +kernel
theorem dX4_countTerms_5 : decode cX4_countTerms 5 = .ok (.bipush 9, 2) := by decide +kernel
theorem dX4_countTerms_7 : decode cX4_countTerms 7 = .ok (.if_icmp .ge 20, 3) := by decide +kernel
theorem dX4_countTerms_10 : decode cX4_countTerms 10 = .ok (.aload_n 0, 1) := by decide +kernel
theorem dX4_countTerms_11 : decode cX4_countTerms 11 = .ok (.iload_n 2, 1) := by decide +kernel
theorem dX4_countTerms_12 : decode cX4_countTerms 12 = .ok (.invokevirtual 22, 3) := by decide +kernel
theorem dX4_countTerms_15 : decode cX4_countTerms 15 = .ok (.ifCond .eq 6, 3) := by decide +kernel
theorem dX4_countTerms_18 : decode cX4_countTerms 18 = .ok (.iinc 1 1, 3) := by decide +kernel
theorem dX4_countTerms_21 : decode cX4_countTerms 21 = .ok (.iinc 2 1, 3) := by decide +kernel
theorem dX4_countTerms_24 : decode cX4_countTerms 24 = .ok (.goto (-20), 3) := by decide +kernel
theorem dX4_countTerms_27 : decode cX4_countTerms 27 = .ok (.iload_n 1, 1) := by decide +kernel
theorem dX4_countTerms_28 : decode cX4_countTerms 28 = .ok (.ireturn, 1) := by decide +kernel
set_option maxRecDepth 20000 in
theorem ggX4_leastAt_X4_hasTerm : GoodIn wsX4_leastAt wsX4_hasTerm := goodIn_r _ [11, 2, 1, 12] (by decide +kernel) (by decide +kernel)
set_option maxRecDepth 20000 in
theorem gX4_leastAt_X4_hasTerm : GoodIn wsX4_leastAt (wsV RX4 22 RX4 yX4_hasTerm wsX4_hasTerm) := goodIn_app (goodIn_of _ (by decide +kernel)) ggX4_leastAt_X4_hasTerm
theorem dX4_leastAt_0 : decode cX4_leastAt 0 = .ok (.ldc 15, 2) := by decide +kernel
theorem dX4_leastAt_2 : decode cX4_leastAt 2 = .ok (.istore_n 2, 1) := by decide +kernel
theorem dX4_leastAt_3 : decode cX4_leastAt 3 = .ok (.iconst 0, 1) := by decide +kernel
theorem dX4_leastAt_4 : decode cX4_leastAt 4 = .ok (.istore_n 3, 1) := by decide +kernel
theorem dX4_leastAt_5 : decode cX4_leastAt 5 = .ok (.iload_n 3, 1) := by decide +kernel
theorem dX4_leastAt_6 : decode cX4_leastAt 6 = .ok (.bipush 9, 2) := by decide +kernel
theorem dX4_leastAt_8 : decode cX4_leastAt 8 = .ok (.if_icmp .ge 32, 3) := by decide +kernel
theorem dX4_leastAt_11 : decode cX4_leastAt 11 = .ok (.aload_n 0, 1) := by decide +kernel
theorem dX4_leastAt_12 : decode cX4_leastAt 12 = .ok (.iload_n 3, 1) := by decide +kernel
theorem dX4_leastAt_13 : decode cX4_leastAt 13 = .ok (.invokevirtual 22, 3) := by decide +kernel
theorem dX4_leastAt_16 : decode cX4_leastAt 16 = .ok (.ifCond .eq 18, 3) := by decide +kernel
theorem dX4_leastAt_19 : decode cX4_leastAt 19 = .ok (.iload_n 2, 1) := by decide +kernel
theorem dX4_leastAt_20 : decode cX4_leastAt 20 = .ok (.aload_n 0, 1) := by decide +kernel
theorem dX4_leastAt_21 : decode cX4_leastAt 21 = .ok (.getfield 9, 3) := by decide +kernel
theorem dX4_leastAt_24 : decode cX4_leastAt 24 = .ok (.iload_n 3, 1) := by decide +kernel
theorem dX4_leastAt_25 : decode cX4_leastAt 25 = .ok (.iaload, 1) := by decide +kernel
theorem dX4_leastAt_26 : decode cX4_leastAt 26 = .ok (.iload_n 3, 1) := by decide +kernel
theorem dX4_leastAt_27 : decode cX4_leastAt 27 = .ok (.iload_n 1, 1) := by decide +kernel
theorem dX4_leastAt_28 : decode cX4_leastAt 28 = .ok (.imul, 1) := by decide +kernel
theorem dX4_leastAt_29 : decode cX4_leastAt 29 = .ok (.iadd, 1) := by decide +kernel
theorem dX4_leastAt_30 : decode cX4_leastAt 30 = .ok (.invokestatic 26, 3) := by decide +kernel
theorem dX4_leastAt_33 : decode cX4_leastAt 33 = .ok (.istore_n 2, 1) := by decide +kernel
theorem dX4_leastAt_34 : decode cX4_leastAt 34 = .ok (.iinc 3 1, 3) := by decide +kernel
theorem dX4_leastAt_37 : decode cX4_leastAt 37 = .ok (.goto (-32), 3) := by decide +kernel
theorem dX4_leastAt_40 : decode cX4_leastAt 40 = .ok (.iload_n 2, 1) := by decide +kernel
theorem dX4_leastAt_41 : decode cX4_leastAt 41 = .ok (.ireturn, 1) := by decide +kernel
set_option maxRecDepth 20000 in
theorem ggX4_hasSpare_X4_hasTerm : GoodIn wsX4_hasSpare wsX4_hasTerm := goodIn_r _ [5, 6, 7, 12] (by decide +kernel) (by decide +kernel)
set_option maxRecDepth 20000 in
theorem gX4_hasSpare_X4_hasTerm : GoodIn wsX4_hasSpare (wsV RX4 22 RX4 yX4_hasTerm wsX4_hasTerm) := goodIn_app (goodIn_of _ (by decide +kernel)) ggX4_hasSpare_X4_hasTerm
set_option maxRecDepth 20000 in
theorem ggX4_hasSpare_X4_isOnOrAbove : GoodIn wsX4_hasSpare wsX4_isOnOrAbove := goodIn_r _ [11, 6, 12] (by decide +kernel) (by decide +kernel)
set_option maxRecDepth 20000 in
theorem gX4_hasSpare_X4_isOnOrAbove : GoodIn wsX4_hasSpare (wsV RX4 32 RX4 yX4_isOnOrAbove wsX4_isOnOrAbove) := goodIn_app (goodIn_of _ (by decide +kernel)) ggX4_hasSpare_X4_isOnOrAbove
theorem dX4_hasSpare_0 : decode cX4_hasSpare 0 = .ok (.aload_n 0, 1) := by decide +kernel
theorem dX4_hasSpare_1 : decode cX4_hasSpare 1 = .ok (.iload_n 1, 1) := by decide +kernel
theorem dX4_hasSpare_2 : decode cX4_hasSpare 2 = .ok (.invokevirtual 22, 3) := by decide +kernel
theorem dX4_hasSpare_5 : decode cX4_hasSpare 5 = .ok (.ifCond .ne 5, 3) := by decide +kernel
theorem dX4_hasSpare_8 : decode cX4_hasSpare 8 = .ok (.iconst 0, 1) := by decide +kernel
theorem dX4_hasSpare_9 : decode cX4_hasSpare 9 = .ok (.ireturn, 1) := by decide +kernel
theorem dX4_hasSpare_10 : decode cX4_hasSpare 10 = .ok (.iconst 0, 1) := by decide +kernel
theorem dX4_hasSpare_11 : decode cX4_hasSpare 11 = .ok (.istore_n 2, 1) := by decide +kernel
theorem dX4_hasSpare_12 : decode cX4_hasSpare 12 = .ok (.iload_n 2, 1) := by decide +kernel
theorem dX4_hasSpare_13 : decode cX4_hasSpare 13 = .ok (.iload_n 1, 1) := by decide +kernel
theorem dX4_hasSpare_14 : decode cX4_hasSpare 14 = .ok (.if_icmp .ge 53, 3) := by decide +kernel
theorem dX4_hasSpare_17 : decode cX4_hasSpare 17 = .ok (.iload_n 1, 1) := by decide +kernel
theorem dX4_hasSpare_18 : decode cX4_hasSpare 18 = .ok (.iconst 1, 1) := by decide +kernel
theorem dX4_hasSpare_19 : decode cX4_hasSpare 19 = .ok (.iadd, 1) := by decide +kernel
theorem dX4_hasSpare_20 : decode cX4_hasSpare 20 = .ok (.istore_n 3, 1) := by decide +kernel
theorem dX4_hasSpare_21 : decode cX4_hasSpare 21 = .ok (.iload_n 3, 1) := by decide +kernel
theorem dX4_hasSpare_22 : decode cX4_hasSpare 22 = .ok (.bipush 9, 2) := by decide +kernel
theorem dX4_hasSpare_24 : decode cX4_hasSpare 24 = .ok (.if_icmp .ge 37, 3) := by decide +kernel
theorem dX4_hasSpare_27 : decode cX4_hasSpare 27 = .ok (.aload_n 0, 1) := by decide +kernel
theorem dX4_hasSpare_28 : decode cX4_hasSpare 28 = .ok (.iload_n 2, 1) := by decide +kernel
theorem dX4_hasSpare_29 : decode cX4_hasSpare 29 = .ok (.invokevirtual 22, 3) := by decide +kernel
theorem dX4_hasSpare_32 : decode cX4_hasSpare 32 = .ok (.ifCond .eq 23, 3) := by decide +kernel
theorem dX4_hasSpare_35 : decode cX4_hasSpare 35 = .ok (.aload_n 0, 1) := by decide +kernel
theorem dX4_hasSpare_36 : decode cX4_hasSpare 36 = .ok (.iload_n 3, 1) := by decide +kernel
theorem dX4_hasSpare_37 : decode cX4_hasSpare 37 = .ok (.invokevirtual 22, 3) := by decide +kernel
theorem dX4_hasSpare_40 : decode cX4_hasSpare 40 = .ok (.ifCond .eq 15, 3) := by decide +kernel
theorem dX4_hasSpare_43 : decode cX4_hasSpare 43 = .ok (.aload_n 0, 1) := by decide +kernel
theorem dX4_hasSpare_44 : decode cX4_hasSpare 44 = .ok (.iload_n 1, 1) := by decide +kernel
theorem dX4_hasSpare_45 : decode cX4_hasSpare 45 = .ok (.iload_n 2, 1) := by decide +kernel
theorem dX4_hasSpare_46 : decode cX4_hasSpare 46 = .ok (.iload_n 3, 1) := by decide +kernel
theorem dX4_hasSpare_47 : decode cX4_hasSpare 47 = .ok (.invokevirtual 32, 3) := by decide +kernel
theorem dX4_hasSpare_50 : decode cX4_hasSpare 50 = .ok (.ifCond .eq 5, 3) := by decide +kernel
theorem dX4_hasSpare_53 : decode cX4_hasSpare 53 = .ok (.iconst 1, 1) := by decide +kernel
theorem dX4_hasSpare_54 : decode cX4_hasSpare 54 = .ok (.ireturn, 1) := by decide +kernel
theorem dX4_hasSpare_55 : decode cX4_hasSpare 55 = .ok (.iinc 3 1, 3) := by decide +kernel
theorem dX4_hasSpare_58 : decode cX4_hasSpare 58 = .ok (.goto (-37), 3) := by decide +kernel
theorem dX4_hasSpare_61 : decode cX4_hasSpare 61 = .ok (.iinc 2 1, 3) := by decide +kernel
theorem dX4_hasSpare_64 : decode cX4_hasSpare 64 = .ok (.goto (-52), 3) := by decide +kernel
theorem dX4_hasSpare_67 : decode cX4_hasSpare 67 = .ok (.iconst 0, 1) := by decide +kernel
theorem dX4_hasSpare_68 : decode cX4_hasSpare 68 = .ok (.ireturn, 1) := by decide +kernel
theorem dX4_isOnOrAbove_0 : decode cX4_isOnOrAbove 0 = .ok (.aload_n 0, 1) := by decide +kernel
theorem dX4_isOnOrAbove_1 : decode cX4_isOnOrAbove 1 = .ok (.getfield 9, 3) := by decide +kernel
theorem dX4_isOnOrAbove_4 : decode cX4_isOnOrAbove 4 = .ok (.iload_n 2, 1) := by decide +kernel
theorem dX4_isOnOrAbove_5 : decode cX4_isOnOrAbove 5 = .ok (.iaload, 1) := by decide +kernel
theorem dX4_isOnOrAbove_6 : decode cX4_isOnOrAbove 6 = .ok (.iload_n 3, 1) := by decide +kernel
theorem dX4_isOnOrAbove_7 : decode cX4_isOnOrAbove 7 = .ok (.iload_n 1, 1) := by decide +kernel
theorem dX4_isOnOrAbove_8 : decode cX4_isOnOrAbove 8 = .ok (.isub, 1) := by decide +kernel
theorem dX4_isOnOrAbove_9 : decode cX4_isOnOrAbove 9 = .ok (.imul, 1) := by decide +kernel
theorem dX4_isOnOrAbove_10 : decode cX4_isOnOrAbove 10 = .ok (.aload_n 0, 1) := by decide +kernel
theorem dX4_isOnOrAbove_11 : decode cX4_isOnOrAbove 11 = .ok (.getfield 9, 3) := by decide +kernel
theorem dX4_isOnOrAbove_14 : decode cX4_isOnOrAbove 14 = .ok (.iload_n 3, 1) := by decide +kernel
theorem dX4_isOnOrAbove_15 : decode cX4_isOnOrAbove 15 = .ok (.iaload, 1) := by decide +kernel
theorem dX4_isOnOrAbove_16 : decode cX4_isOnOrAbove 16 = .ok (.iload_n 1, 1) := by decide +kernel
theorem dX4_isOnOrAbove_17 : decode cX4_isOnOrAbove 17 = .ok (.iload_n 2, 1) := by decide +kernel
theorem dX4_isOnOrAbove_18 : decode cX4_isOnOrAbove 18 = .ok (.isub, 1) := by decide +kernel
theorem dX4_isOnOrAbove_19 : decode cX4_isOnOrAbove 19 = .ok (.imul, 1) := by decide +kernel
theorem dX4_isOnOrAbove_20 : decode cX4_isOnOrAbove 20 = .ok (.iadd, 1) := by decide +kernel
theorem dX4_isOnOrAbove_21 : decode cX4_isOnOrAbove 21 = .ok (.istore 4, 2) := by decide +kernel
theorem dX4_isOnOrAbove_23 : decode cX4_isOnOrAbove 23 = .ok (.aload_n 0, 1) := by decide +kernel
theorem dX4_isOnOrAbove_24 : decode cX4_isOnOrAbove 24 = .ok (.getfield 9, 3) := by decide +kernel
theorem dX4_isOnOrAbove_27 : decode cX4_isOnOrAbove 27 = .ok (.iload_n 1, 1) := by decide +kernel
theorem dX4_isOnOrAbove_28 : decode cX4_isOnOrAbove 28 = .ok (.iaload, 1) := by decide +kernel
theorem dX4_isOnOrAbove_29 : decode cX4_isOnOrAbove 29 = .ok (.iload_n 3, 1) := by decide +kernel
theorem dX4_isOnOrAbove_30 : decode cX4_isOnOrAbove 30 = .ok (.iload_n 2, 1) := by decide +kernel
theorem dX4_isOnOrAbove_31 : decode cX4_isOnOrAbove 31 = .ok (.isub, 1) := by decide +kernel
theorem dX4_isOnOrAbove_32 : decode cX4_isOnOrAbove 32 = .ok (.imul, 1) := by decide +kernel
theorem dX4_isOnOrAbove_33 : decode cX4_isOnOrAbove 33 = .ok (.iload 4, 2) := by decide +kernel
theorem dX4_isOnOrAbove_35 : decode cX4_isOnOrAbove 35 = .ok (.if_icmp .lt 7, 3) := by decide +kernel
theorem dX4_isOnOrAbove_38 : decode cX4_isOnOrAbove 38 = .ok (.iconst 1, 1) := by decide +kernel
theorem dX4_isOnOrAbove_39 : decode cX4_isOnOrAbove 39 = .ok (.goto 4, 3) := by decide +kernel
theorem dX4_isOnOrAbove_42 : decode cX4_isOnOrAbove 42 = .ok (.iconst 0, 1) := by decide +kernel
theorem dX4_isOnOrAbove_43 : decode cX4_isOnOrAbove 43 = .ok (.ireturn, 1) := by decide +kernel
set_option maxRecDepth 20000 in
theorem ggX4_hasCorner_X4_hasTerm : GoodIn wsX4_hasCorner wsX4_hasTerm := goodIn_r _ [5, 6, 7, 16] (by decide +kernel) (by decide +kernel)
set_option maxRecDepth 20000 in
theorem gX4_hasCorner_X4_hasTerm : GoodIn wsX4_hasCorner (wsV RX4 22 RX4 yX4_hasTerm wsX4_hasTerm) := goodIn_app (goodIn_of _ (by decide +kernel)) ggX4_hasCorner_X4_hasTerm
set_option maxRecDepth 20000 in
theorem ggX4_hasCorner_X4_hasSpare : GoodIn wsX4_hasCorner wsX4_hasSpare := goodIn_r _ [11, 1, 2, 3, 4, 5, 6, 7, 12, 13, 14, 15, 16] (by decide +kernel) (by decide +kernel)
set_option maxRecDepth 20000 in
theorem gX4_hasCorner_X4_hasSpare : GoodIn wsX4_hasCorner (wsV RX4 36 RX4 yX4_hasSpare wsX4_hasSpare) := goodIn_app (goodIn_of _ (by decide +kernel)) ggX4_hasCorner_X4_hasSpare
theorem dX4_hasCorner_0 : decode cX4_hasCorner 0 = .ok (.aload_n 0, 1) := by decide +kernel
theorem dX4_hasCorner_1 : decode cX4_hasCorner 1 = .ok (.iload_n 1, 1) := by decide +kernel
theorem dX4_hasCorner_2 : decode cX4_hasCorner 2 = .ok (.invokevirtual 22, 3) := by decide +kernel
theorem dX4_hasCorner_5 : decode cX4_hasCorner 5 = .ok (.ifCond .eq 15, 3) := by decide +kernel
theorem dX4_hasCorner_8 : decode cX4_hasCorner 8 = .ok (.aload_n 0, 1) := by decide +kernel
theorem dX4_hasCorner_9 : decode cX4_hasCorner 9 = .ok (.iload_n 1, 1) := by decide +kernel
theorem dX4_hasCorner_10 : decode cX4_hasCorner 10 = .ok (.invokevirtual 36, 3) := by decide +kernel
theorem dX4_hasCorner_13 : decode cX4_hasCorner 13 = .ok (.ifCond .ne 7, 3) := by decide +kernel
theorem dX4_hasCorner_16 : decode cX4_hasCorner 16 = .ok (.iconst 1, 1) := by decide +kernel
theorem dX4_hasCorner_17 : decode cX4_hasCorner 17 = .ok (.goto 4, 3) := by decide +kernel
theorem dX4_hasCorner_20 : decode cX4_hasCorner 20 = .ok (.iconst 0, 1) := by decide +kernel
theorem dX4_hasCorner_21 : decode cX4_hasCorner 21 = .ok (.ireturn, 1) := by decide +kernel
set_option maxRecDepth 20000 in
theorem ggX4_countGaps_X4_hasCorner : GoodIn wsX4_countGaps wsX4_hasCorner := goodIn_r _ [9, 10, 11, 12, 8, 13, 14, 15, 16, 17, 18, 19, 20, 21, 22, 23, 24] (by decide +kernel) (by decide +kernel)
set_option maxRecDepth 20000 in
theorem gX4_countGaps_X4_hasCorner : GoodIn wsX4_countGaps (wsV RX4 39 RX4 yX4_hasCorner wsX4_hasCorner) := goodIn_app (goodIn_of _ (by decide +kernel)) ggX4_countGaps_X4_hasCorner
theorem dX4_countGaps_0 : decode cX4_countGaps 0 = .ok (.iconst 0, 1) := by decide +kernel
theorem dX4_countGaps_1 : decode cX4_countGaps 1 = .ok (.istore_n 1, 1) := by decide +kernel
theorem dX4_countGaps_2 : decode cX4_countGaps 2 = .ok (.iconst 0, 1) := by decide +kernel
theorem dX4_countGaps_3 : decode cX4_countGaps 3 = .ok (.istore_n 2, 1) := by decide +kernel
theorem dX4_countGaps_4 : decode cX4_countGaps 4 = .ok (.iload_n 2, 1) := by decide +kernel
theorem dX4_countGaps_5 : decode cX4_countGaps 5 = .ok (.bipush 9, 2) := by decide +kernel
theorem dX4_countGaps_7 : decode cX4_countGaps 7 = .ok (.if_icmp .ge 20, 3) := by decide +kernel
theorem dX4_countGaps_10 : decode cX4_countGaps 10 = .ok (.aload_n 0, 1) := by decide +kernel
theorem dX4_countGaps_11 : decode cX4_countGaps 11 = .ok (.iload_n 2, 1) := by decide +kernel
theorem dX4_countGaps_12 : decode cX4_countGaps 12 = .ok (.invokevirtual 39, 3) := by decide +kernel
theorem dX4_countGaps_15 : decode cX4_countGaps 15 = .ok (.ifCond .eq 6, 3) := by decide +kernel
theorem dX4_countGaps_18 : decode cX4_countGaps 18 = .ok (.iinc 1 1, 3) := by decide +kernel
theorem dX4_countGaps_21 : decode cX4_countGaps 21 = .ok (.iinc 2 1, 3) := by decide +kernel
theorem dX4_countGaps_24 : decode cX4_countGaps 24 = .ok (.goto (-20), 3) := by decide +kernel
theorem dX4_countGaps_27 : decode cX4_countGaps 27 = .ok (.iconst 0, 1) := by decide +kernel
theorem dX4_countGaps_28 : decode cX4_countGaps 28 = .ok (.iload_n 1, 1) := by decide +kernel
theorem dX4_countGaps_29 : decode cX4_countGaps 29 = .ok (.iconst 1, 1) := by decide +kernel
theorem dX4_countGaps_30 : decode cX4_countGaps 30 = .ok (.isub, 1) := by decide +kernel
theorem dX4_countGaps_31 : decode cX4_countGaps 31 = .ok (.invokestatic 42, 3) := by decide +kernel
theorem dX4_countGaps_34 : decode cX4_countGaps 34 = .ok (.ireturn, 1) := by decide +kernel
set_option maxRecDepth 20000 in
theorem ggX4_cornerBelow_X4_hasCorner : GoodIn wsX4_cornerBelow wsX4_hasCorner := goodIn_r _ [9, 10, 11, 12, 8, 13, 14, 15, 16, 17, 18, 19, 20, 21, 22, 23, 24] (by decide +kernel) (by decide +kernel)
set_option maxRecDepth 20000 in
theorem gX4_cornerBelow_X4_hasCorner : GoodIn wsX4_cornerBelow (wsV RX4 39 RX4 yX4_hasCorner wsX4_hasCorner) := goodIn_app (goodIn_of _ (by decide +kernel)) ggX4_cornerBelow_X4_hasCorner
theorem dX4_cornerBelow_0 : decode cX4_cornerBelow 0 = .ok (.iload_n 1, 1) := by decide +kernel
theorem dX4_cornerBelow_1 : decode cX4_cornerBelow 1 = .ok (.bipush 9, 2) := by decide +kernel
theorem dX4_cornerBelow_3 : decode cX4_cornerBelow 3 = .ok (.invokestatic 26, 3) := by decide +kernel
theorem dX4_cornerBelow_6 : decode cX4_cornerBelow 6 = .ok (.iconst 1, 1) := by decide +kernel
theorem dX4_cornerBelow_7 : decode cX4_cornerBelow 7 = .ok (.isub, 1) := by decide +kernel
theorem dX4_cornerBelow_8 : decode cX4_cornerBelow 8 = .ok (.istore_n 2, 1) := by decide +kernel
theorem dX4_cornerBelow_9 : decode cX4_cornerBelow 9 = .ok (.iload_n 2, 1) := by decide +kernel
theorem dX4_cornerBelow_10 : decode cX4_cornerBelow 10 = .ok (.ifCond .lt 19, 3) := by decide +kernel
theorem dX4_cornerBelow_13 : decode cX4_cornerBelow 13 = .ok (.aload_n 0, 1) := by decide +kernel
theorem dX4_cornerBelow_14 : decode cX4_cornerBelow 14 = .ok (.iload_n 2, 1) := by decide +kernel
theorem dX4_cornerBelow_15 : decode cX4_cornerBelow 15 = .ok (.invokevirtual 39, 3) := by decide +kernel
theorem dX4_cornerBelow_18 : decode cX4_cornerBelow 18 = .ok (.ifCond .eq 5, 3) := by decide +kernel
theorem dX4_cornerBelow_21 : decode cX4_cornerBelow 21 = .ok (.iload_n 2, 1) := by decide +kernel
theorem dX4_cornerBelow_22 : decode cX4_cornerBelow 22 = .ok (.ireturn, 1) := by decide +kernel
theorem dX4_cornerBelow_23 : decode cX4_cornerBelow 23 = .ok (.iinc 2 (-1), 3) := by decide +kernel
theorem dX4_cornerBelow_26 : decode cX4_cornerBelow 26 = .ok (.goto (-17), 3) := by decide +kernel
theorem dX4_cornerBelow_29 : decode cX4_cornerBelow 29 = .ok (.iconst (-1), 1) := by decide +kernel
theorem dX4_cornerBelow_30 : decode cX4_cornerBelow 30 = .ok (.ireturn, 1) := by decide +kernel
set_option maxRecDepth 20000 in
theorem ggX4_hasCornersOf_X4_hasCorner : GoodIn wsX4_hasCornersOf wsX4_hasCorner := goodIn_r _ [6, 7, 8, 9, 5, 10, 1, 11, 12, 13, 14, 15, 16, 17, 18, 19, 20] (by decide +kernel) (by decide +kernel)
set_option maxRecDepth 20000 in
theorem gX4_hasCornersOf_X4_hasCorner : GoodIn wsX4_hasCornersOf (wsV RX4 39 RX4 yX4_hasCorner wsX4_hasCorner) := goodIn_app (goodIn_of _ (by decide +kernel)) ggX4_hasCornersOf_X4_hasCorner
theorem dX4_hasCornersOf_0 : decode cX4_hasCornersOf 0 = .ok (.iconst 0, 1) := by decide +kernel
theorem dX4_hasCornersOf_1 : decode cX4_hasCornersOf 1 = .ok (.istore_n 2, 1) := by decide +kernel
theorem dX4_hasCornersOf_2 : decode cX4_hasCornersOf 2 = .ok (.iload_n 2, 1) := by decide +kernel
theorem dX4_hasCornersOf_3 : decode cX4_hasCornersOf 3 = .ok (.bipush 9, 2) := by decide +kernel
theorem dX4_hasCornersOf_5 : decode cX4_hasCornersOf 5 = .ok (.if_icmp .ge 49, 3) := by decide +kernel
theorem dX4_hasCornersOf_8 : decode cX4_hasCornersOf 8 = .ok (.aload_n 0, 1) := by decide +kernel
theorem dX4_hasCornersOf_9 : decode cX4_hasCornersOf 9 = .ok (.iload_n 2, 1) := by decide +kernel
theorem dX4_hasCornersOf_10 : decode cX4_hasCornersOf 10 = .ok (.invokevirtual 39, 3) := by decide +kernel
theorem dX4_hasCornersOf_13 : decode cX4_hasCornersOf 13 = .ok (.aload_n 1, 1) := by decide +kernel
theorem dX4_hasCornersOf_14 : decode cX4_hasCornersOf 14 = .ok (.iload_n 2, 1) := by decide +kernel
theorem dX4_hasCornersOf_15 : decode cX4_hasCornersOf 15 = .ok (.invokevirtual 39, 3) := by decide +kernel
theorem dX4_hasCornersOf_18 : decode cX4_hasCornersOf 18 = .ok (.if_icmp .eq 5, 3) := by decide +kernel
theorem dX4_hasCornersOf_21 : decode cX4_hasCornersOf 21 = .ok (.iconst 0, 1) := by decide +kernel
theorem dX4_hasCornersOf_22 : decode cX4_hasCornersOf 22 = .ok (.ireturn, 1) := by decide +kernel
theorem dX4_hasCornersOf_23 : decode cX4_hasCornersOf 23 = .ok (.aload_n 0, 1) := by decide +kernel
theorem dX4_hasCornersOf_24 : decode cX4_hasCornersOf 24 = .ok (.iload_n 2, 1) := by decide +kernel
theorem dX4_hasCornersOf_25 : decode cX4_hasCornersOf 25 = .ok (.invokevirtual 39, 3) := by decide +kernel
theorem dX4_hasCornersOf_28 : decode cX4_hasCornersOf 28 = .ok (.ifCond .eq 20, 3) := by decide +kernel
theorem dX4_hasCornersOf_31 : decode cX4_hasCornersOf 31 = .ok (.aload_n 0, 1) := by decide +kernel
theorem dX4_hasCornersOf_32 : decode cX4_hasCornersOf 32 = .ok (.getfield 9, 3) := by decide +kernel
theorem dX4_hasCornersOf_35 : decode cX4_hasCornersOf 35 = .ok (.iload_n 2, 1) := by decide +kernel
theorem dX4_hasCornersOf_36 : decode cX4_hasCornersOf 36 = .ok (.iaload, 1) := by decide +kernel
theorem dX4_hasCornersOf_37 : decode cX4_hasCornersOf 37 = .ok (.aload_n 1, 1) := by decide +kernel
theorem dX4_hasCornersOf_38 : decode cX4_hasCornersOf 38 = .ok (.getfield 9, 3) := by decide +kernel
theorem dX4_hasCornersOf_41 : decode cX4_hasCornersOf 41 = .ok (.iload_n 2, 1) := by decide +kernel
theorem dX4_hasCornersOf_42 : decode cX4_hasCornersOf 42 = .ok (.iaload, 1) := by decide +kernel
theorem dX4_hasCornersOf_43 : decode cX4_hasCornersOf 43 = .ok (.if_icmp .eq 5, 3) := by decide +kernel
theorem dX4_hasCornersOf_46 : decode cX4_hasCornersOf 46 = .ok (.iconst 0, 1) := by decide +kernel
theorem dX4_hasCornersOf_47 : decode cX4_hasCornersOf 47 = .ok (.ireturn, 1) := by decide +kernel
theorem dX4_hasCornersOf_48 : decode cX4_hasCornersOf 48 = .ok (.iinc 2 1, 3) := by decide +kernel
theorem dX4_hasCornersOf_51 : decode cX4_hasCornersOf 51 = .ok (.goto (-49), 3) := by decide +kernel
theorem dX4_hasCornersOf_54 : decode cX4_hasCornersOf 54 = .ok (.iconst 1, 1) := by decide +kernel
theorem dX4_hasCornersOf_55 : decode cX4_hasCornersOf 55 = .ok (.ireturn, 1) := by decide +kernel
theorem dX4_becomeCopy_0 : decode cX4_becomeCopy 0 = .ok (.aload_n 1, 1) := by decide +kernel
theorem dX4_becomeCopy_1 : decode cX4_becomeCopy 1 = .ok (.getfield 9, 3) := by decide +kernel
theorem dX4_becomeCopy_4 : decode cX4_becomeCopy 4 = .ok (.iconst 0, 1) := by decide +kernel
theorem dX4_becomeCopy_5 : decode cX4_becomeCopy 5 = .ok (.aload_n 0, 1) := by decide +kernel
theorem dX4_becomeCopy_6 : decode cX4_becomeCopy 6 = .ok (.getfield 9, 3) := by decide +kernel
theorem dX4_becomeCopy_9 : decode cX4_becomeCopy 9 = .ok (.iconst 0, 1) := by decide +kernel
theorem dX4_becomeCopy_10 : decode cX4_becomeCopy 10 = .ok (.bipush 9, 2) := by decide +kernel
theorem dX4_becomeCopy_12 : decode cX4_becomeCopy 12 = .ok (.invokestatic 45, 3) := by decide +kernel
theorem dX4_becomeCopy_15 : decode cX4_becomeCopy 15 = .ok (.return_, 1) := by decide +kernel
theorem dX4_becomeLesser_0 : decode cX4_becomeLesser 0 = .ok (.iconst 0, 1) := by decide +kernel
theorem dX4_becomeLesser_1 : decode cX4_becomeLesser 1 = .ok (.istore_n 3, 1) := by decide +kernel
theorem dX4_becomeLesser_2 : decode cX4_becomeLesser 2 = .ok (.iload_n 3, 1) := by decide +kernel
theorem dX4_becomeLesser_3 : decode cX4_becomeLesser 3 = .ok (.bipush 9, 2) := by decide +kernel
theorem dX4_becomeLesser_5 : decode cX4_becomeLesser 5 = .ok (.if_icmp .ge 30, 3) := by decide +kernel
theorem dX4_becomeLesser_8 : decode cX4_becomeLesser 8 = .ok (.aload_n 0, 1) := by decide +kernel
theorem dX4_becomeLesser_9 : decode cX4_becomeLesser 9 = .ok (.getfield 9, 3) := by decide +kernel
theorem dX4_becomeLesser_12 : decode cX4_becomeLesser 12 = .ok (.iload_n 3, 1) := by decide +kernel
theorem dX4_becomeLesser_13 : decode cX4_becomeLesser 13 = .ok (.aload_n 1, 1) := by decide +kernel
theorem dX4_becomeLesser_14 : decode cX4_becomeLesser 14 = .ok (.getfield 9, 3) := by decide +kernel
theorem dX4_becomeLesser_17 : decode cX4_becomeLesser 17 = .ok (.iload_n 3, 1) := by decide +kernel
theorem dX4_becomeLesser_18 : decode cX4_becomeLesser 18 = .ok (.iaload, 1) := by decide +kernel
theorem dX4_becomeLesser_19 : decode cX4_becomeLesser 19 = .ok (.aload_n 2, 1) := by decide +kernel
theorem dX4_becomeLesser_20 : decode cX4_becomeLesser 20 = .ok (.getfield 9, 3) := by decide +kernel
theorem dX4_becomeLesser_23 : decode cX4_becomeLesser 23 = .ok (.iload_n 3, 1) := by decide +kernel
theorem dX4_becomeLesser_24 : decode cX4_becomeLesser 24 = .ok (.iaload, 1) := by decide +kernel
theorem dX4_becomeLesser_25 : decode cX4_becomeLesser 25 = .ok (.invokestatic 26, 3) := by decide +kernel
theorem dX4_becomeLesser_28 : decode cX4_becomeLesser 28 = .ok (.iastore, 1) := by decide +kernel
theorem dX4_becomeLesser_29 : decode cX4_becomeLesser 29 = .ok (.iinc 3 1, 3) := by decide +kernel
theorem dX4_becomeLesser_32 : decode cX4_becomeLesser 32 = .ok (.goto (-30), 3) := by decide +kernel
theorem dX4_becomeLesser_35 : decode cX4_becomeLesser 35 = .ok (.return_, 1) := by decide +kernel
set_option maxRecDepth 20000 in
theorem ggX4_fitsWith_X4_hasTerm : GoodIn wsX4_fitsWith wsX4_hasTerm := goodIn_r _ [5, 6, 7, 8] (by decide +kernel) (by decide +kernel)
set_option maxRecDepth 20000 in
theorem gX4_fitsWith_X4_hasTerm : GoodIn wsX4_fitsWith (wsV RX4 22 RX4 yX4_hasTerm wsX4_hasTerm) := goodIn_app (goodIn_of _ (by decide +kernel)) ggX4_fitsWith_X4_hasTerm
theorem dX4_fitsWith_0 : decode cX4_fitsWith 0 = .ok (.iconst 0, 1) := by decide +kernel
theorem dX4_fitsWith_1 : decode cX4_fitsWith 1 = .ok (.istore_n 2, 1) := by decide +kernel
theorem dX4_fitsWith_2 : decode cX4_fitsWith 2 = .ok (.iload_n 2, 1) := by decide +kernel
theorem dX4_fitsWith_3 : decode cX4_fitsWith 3 = .ok (.bipush 9, 2) := by decide +kernel
theorem dX4_fitsWith_5 : decode cX4_fitsWith 5 = .ok (.if_icmp .ge 44, 3) := by decide +kernel
theorem dX4_fitsWith_8 : decode cX4_fitsWith 8 = .ok (.bipush 9, 2) := by decide +kernel
theorem dX4_fitsWith_10 : decode cX4_fitsWith 10 = .ok (.iload_n 2, 1) := by decide +kernel
theorem dX4_fitsWith_11 : decode cX4_fitsWith 11 = .ok (.isub, 1) := by decide +kernel
theorem dX4_fitsWith_12 : decode cX4_fitsWith 12 = .ok (.istore_n 3, 1) := by decide +kernel
theorem dX4_fitsWith_13 : decode cX4_fitsWith 13 = .ok (.iload_n 3, 1) := by decide +kernel
theorem dX4_fitsWith_14 : decode cX4_fitsWith 14 = .ok (.bipush 9, 2) := by decide +kernel
theorem dX4_fitsWith_16 : decode cX4_fitsWith 16 = .ok (.if_icmp .ge 27, 3) := by decide +kernel
theorem dX4_fitsWith_19 : decode cX4_fitsWith 19 = .ok (.aload_n 0, 1) := by decide +kernel
theorem dX4_fitsWith_20 : decode cX4_fitsWith 20 = .ok (.iload_n 2, 1) := by decide +kernel
theorem dX4_fitsWith_21 : decode cX4_fitsWith 21 = .ok (.invokevirtual 22, 3) := by decide +kernel
theorem dX4_fitsWith_24 : decode cX4_fitsWith 24 = .ok (.ifCond .eq 13, 3) := by decide +kernel
theorem dX4_fitsWith_27 : decode cX4_fitsWith 27 = .ok (.aload_n 1, 1) := by decide +kernel
theorem dX4_fitsWith_28 : decode cX4_fitsWith 28 = .ok (.iload_n 3, 1) := by decide +kernel
theorem dX4_fitsWith_29 : decode cX4_fitsWith 29 = .ok (.invokevirtual 22, 3) := by decide +kernel
theorem dX4_fitsWith_32 : decode cX4_fitsWith 32 = .ok (.ifCond .eq 5, 3) := by decide +kernel
theorem dX4_fitsWith_35 : decode cX4_fitsWith 35 = .ok (.iconst 0, 1) := by decide +kernel
theorem dX4_fitsWith_36 : decode cX4_fitsWith 36 = .ok (.ireturn, 1) := by decide +kernel
theorem dX4_fitsWith_37 : decode cX4_fitsWith 37 = .ok (.iinc 3 1, 3) := by decide +kernel
theorem dX4_fitsWith_40 : decode cX4_fitsWith 40 = .ok (.goto (-27), 3) := by decide +kernel
theorem dX4_fitsWith_43 : decode cX4_fitsWith 43 = .ok (.iinc 2 1, 3) := by decide +kernel
theorem dX4_fitsWith_46 : decode cX4_fitsWith 46 = .ok (.goto (-44), 3) := by decide +kernel
theorem dX4_fitsWith_49 : decode cX4_fitsWith 49 = .ok (.iconst 1, 1) := by decide +kernel
theorem dX4_fitsWith_50 : decode cX4_fitsWith 50 = .ok (.ireturn, 1) := by decide +kernel
set_option maxRecDepth 20000 in
theorem ggX4_becomeProduct_X5_together : GoodIn wsX4_becomeProduct wsX5_together := goodIn_r _ [9, 10] (by decide +kernel) (by decide +kernel)
set_option maxRecDepth 20000 in
theorem gX4_becomeProduct_X5_together_n51 : GoodIn wsX4_becomeProduct (wsX5_together) := ggX4_becomeProduct_X5_together
theorem dX4_becomeProduct_0 : decode cX4_becomeProduct 0 = .ok (.iconst 0, 1) := by decide +kernel
theorem dX4_becomeProduct_1 : decode cX4_becomeProduct 1 = .ok (.istore_n 3, 1) := by decide +kernel
theorem dX4_becomeProduct_2 : decode cX4_becomeProduct 2 = .ok (.iload_n 3, 1) := by decide +kernel
theorem dX4_becomeProduct_3 : decode cX4_becomeProduct 3 = .ok (.bipush 9, 2) := by decide +kernel
theorem dX4_becomeProduct_5 : decode cX4_becomeProduct 5 = .ok (.if_icmp .ge 62, 3) := by decide +kernel
theorem dX4_becomeProduct_8 : decode cX4_becomeProduct 8 = .ok (.ldc 15, 2) := by decide +kernel
theorem dX4_becomeProduct_10 : decode cX4_becomeProduct 10 = .ok (.istore 4, 2) := by decide +kernel
theorem dX4_becomeProduct_12 : decode cX4_becomeProduct 12 = .ok (.iconst 0, 1) := by decide +kernel
theorem dX4_becomeProduct_13 : decode cX4_becomeProduct 13 = .ok (.istore 5, 2) := by decide +kernel
theorem dX4_becomeProduct_15 : decode cX4_becomeProduct 15 = .ok (.iload 5, 2) := by decide +kernel
theorem dX4_becomeProduct_17 : decode cX4_becomeProduct 17 = .ok (.iload_n 3, 1) := by decide +kernel
theorem dX4_becomeProduct_18 : decode cX4_becomeProduct 18 = .ok (.if_icmp .gt 35, 3) := by decide +kernel
theorem dX4_becomeProduct_21 : decode cX4_becomeProduct 21 = .ok (.iload 4, 2) := by decide +kernel
theorem dX4_becomeProduct_23 : decode cX4_becomeProduct 23 = .ok (.aload_n 1, 1) := by decide +kernel
theorem dX4_becomeProduct_24 : decode cX4_becomeProduct 24 = .ok (.getfield 9, 3) := by decide +kernel
theorem dX4_becomeProduct_27 : decode cX4_becomeProduct 27 = .ok (.iload 5, 2) := by decide +kernel
theorem dX4_becomeProduct_29 : decode cX4_becomeProduct 29 = .ok (.iaload, 1) := by decide +kernel
theorem dX4_becomeProduct_30 : decode cX4_becomeProduct 30 = .ok (.aload_n 2, 1) := by decide +kernel
theorem dX4_becomeProduct_31 : decode cX4_becomeProduct 31 = .ok (.getfield 9, 3) := by decide +kernel
theorem dX4_becomeProduct_34 : decode cX4_becomeProduct 34 = .ok (.iload_n 3, 1) := by decide +kernel
theorem dX4_becomeProduct_35 : decode cX4_becomeProduct 35 = .ok (.iload 5, 2) := by decide +kernel
theorem dX4_becomeProduct_37 : decode cX4_becomeProduct 37 = .ok (.isub, 1) := by decide +kernel
theorem dX4_becomeProduct_38 : decode cX4_becomeProduct 38 = .ok (.iaload, 1) := by decide +kernel
theorem dX4_becomeProduct_39 : decode cX4_becomeProduct 39 = .ok (.invokestatic 51, 3) := by decide +kernel
theorem dX4_becomeProduct_42 : decode cX4_becomeProduct 42 = .ok (.invokestatic 26, 3) := by decide +kernel
theorem dX4_becomeProduct_45 : decode cX4_becomeProduct 45 = .ok (.istore 4, 2) := by decide +kernel
theorem dX4_becomeProduct_47 : decode cX4_becomeProduct 47 = .ok (.iinc 5 1, 3) := by decide +kernel
theorem dX4_becomeProduct_50 : decode cX4_becomeProduct 50 = .ok (.goto (-35), 3) := by decide +kernel
theorem dX4_becomeProduct_53 : decode cX4_becomeProduct 53 = .ok (.aload_n 0, 1) := by decide +kernel
theorem dX4_becomeProduct_54 : decode cX4_becomeProduct 54 = .ok (.getfield 9, 3) := by decide +kernel
theorem dX4_becomeProduct_57 : decode cX4_becomeProduct 57 = .ok (.iload_n 3, 1) := by decide +kernel
theorem dX4_becomeProduct_58 : decode cX4_becomeProduct 58 = .ok (.iload 4, 2) := by decide +kernel
theorem dX4_becomeProduct_60 : decode cX4_becomeProduct 60 = .ok (.iastore, 1) := by decide +kernel
theorem dX4_becomeProduct_61 : decode cX4_becomeProduct 61 = .ok (.iinc 3 1, 3) := by decide +kernel
theorem dX4_becomeProduct_64 : decode cX4_becomeProduct 64 = .ok (.goto (-62), 3) := by decide +kernel
theorem dX4_becomeProduct_67 : decode cX4_becomeProduct 67 = .ok (.return_, 1) := by decide +kernel
set_option maxRecDepth 20000 in
theorem ggX4_isWithinLimit_X5_isBeyond : GoodIn wsX4_isWithinLimit wsX5_isBeyond := goodIn_r _ [4, 5] (by decide +kernel) (by decide +kernel)
set_option maxRecDepth 20000 in
theorem gX4_isWithinLimit_X5_isBeyond_n54 : GoodIn wsX4_isWithinLimit (wsX5_isBeyond) := ggX4_isWithinLimit_X5_isBeyond
theorem dX4_isWithinLimit_0 : decode cX4_isWithinLimit 0 = .ok (.iconst 0, 1) := by decide +kernel
theorem dX4_isWithinLimit_1 : decode cX4_isWithinLimit 1 = .ok (.istore_n 1, 1) := by decide +kernel
theorem dX4_isWithinLimit_2 : decode cX4_isWithinLimit 2 = .ok (.iload_n 1, 1) := by decide +kernel
theorem dX4_isWithinLimit_3 : decode cX4_isWithinLimit 3 = .ok (.bipush 9, 2) := by decide +kernel
theorem dX4_isWithinLimit_5 : decode cX4_isWithinLimit 5 = .ok (.if_icmp .ge 26, 3) := by decide +kernel
theorem dX4_isWithinLimit_8 : decode cX4_isWithinLimit 8 = .ok (.aload_n 0, 1) := by decide +kernel
theorem dX4_isWithinLimit_9 : decode cX4_isWithinLimit 9 = .ok (.getfield 9, 3) := by decide +kernel
theorem dX4_isWithinLimit_12 : decode cX4_isWithinLimit 12 = .ok (.iload_n 1, 1) := by decide +kernel
theorem dX4_isWithinLimit_13 : decode cX4_isWithinLimit 13 = .ok (.iaload, 1) := by decide +kernel
theorem dX4_isWithinLimit_14 : decode cX4_isWithinLimit 14 = .ok (.sipush 9999, 3) := by decide +kernel
theorem dX4_isWithinLimit_17 : decode cX4_isWithinLimit 17 = .ok (.invokestatic 54, 3) := by decide +kernel
theorem dX4_isWithinLimit_20 : decode cX4_isWithinLimit 20 = .ok (.ifCond .eq 5, 3) := by decide +kernel
theorem dX4_isWithinLimit_23 : decode cX4_isWithinLimit 23 = .ok (.iconst 0, 1) := by decide +kernel
theorem dX4_isWithinLimit_24 : decode cX4_isWithinLimit 24 = .ok (.ireturn, 1) := by decide +kernel
theorem dX4_isWithinLimit_25 : decode cX4_isWithinLimit 25 = .ok (.iinc 1 1, 3) := by decide +kernel
theorem dX4_isWithinLimit_28 : decode cX4_isWithinLimit 28 = .ok (.goto (-26), 3) := by decide +kernel
theorem dX4_isWithinLimit_31 : decode cX4_isWithinLimit 31 = .ok (.iconst 1, 1) := by decide +kernel
theorem dX4_isWithinLimit_32 : decode cX4_isWithinLimit 32 = .ok (.ireturn, 1) := by decide +kernel
set_option maxRecDepth 20000 in
theorem ggX5_init_X3_init : GoodIn wsX5_init wsX3_init := goodIn_r _ [32, 33, 2, 3, 34, 9, 35, 36, 37, 38, 39, 81, 82, 83, 84, 85] (by decide +kernel) (by decide +kernel)
set_option maxRecDepth 20000 in
theorem gX5_init_X3_init_n28 : GoodIn wsX5_init (wsX3_init) := ggX5_init_X3_init
set_option maxRecDepth 20000 in
theorem ggX5_init_X4_init : GoodIn wsX5_init wsX4_init := goodIn_r _ [42, 43, 2, 3, 9, 44, 45, 46, 47, 48, 49, 86] (by decide +kernel) (by decide +kernel)
set_option maxRecDepth 20000 in
theorem gX5_init_X4_init : GoodIn wsX5_init (wsX4_init) := ggX5_init_X4_init
set_option maxRecDepth 20000 in
theorem ggX5_init_X2_init : GoodIn wsX5_init wsX2_init := goodIn_r _ [52, 53, 2, 3, 54, 9, 55, 56, 57, 58, 19, 59, 60, 61, 62, 47, 48, 49, 87, 88] (by decide +kernel) (by decide +kernel)
set_option maxRecDepth 20000 in
theorem gX5_init_X2_init : GoodIn wsX5_init (wsX2_init) := ggX5_init_X2_init
set_option maxRecDepth 20000 in
theorem ggX5_init_X1_init : GoodIn wsX5_init wsX1_init := goodIn_r _ [64, 65, 2, 3] (by decide +kernel) (by decide +kernel)
set_option maxRecDepth 20000 in
theorem gX5_init_X1_init_n52 : GoodIn wsX5_init (wsX1_init) := ggX5_init_X1_init
set_option maxRecDepth 20000 in
theorem ggX5_init_X0_init : GoodIn wsX5_init wsX0_init := goodIn_r _ [67, 68, 2, 3, 9, 69, 70, 91, 92] (by decide +kernel) (by decide +kernel)
set_option maxRecDepth 20000 in
theorem gX5_init_X0_init_n59 : GoodIn wsX5_init (wsX0_init) := ggX5_init_X0_init
theorem dX5_init_0 : decode cX5_init 0 = .ok (.aload_n 0, 1) := by decide +kernel
theorem dX5_init_1 : decode cX5_init 1 = .ok (.invokespecial 1, 3) := by decide +kernel
theorem dX5_init_4 : decode cX5_init 4 = .ok (.aload_n 0, 1) := by decide +kernel
theorem dX5_init_5 : decode cX5_init 5 = .ok (.iconst 4, 1) := by decide +kernel
theorem dX5_init_6 : decode cX5_init 6 = .ok (.anewarray 9, 3) := by decide +kernel
theorem dX5_init_9 : decode cX5_init 9 = .ok (.putfield 11, 3) := by decide +kernel
theorem dX5_init_12 : decode cX5_init 12 = .ok (.aload_n 0, 1) := by decide +kernel
theorem dX5_init_13 : decode cX5_init 13 = .ok (.iconst 4, 1) := by decide +kernel
theorem dX5_init_14 : decode cX5_init 14 = .ok (.anewarray 15, 3) := by decide +kernel
theorem dX5_init_17 : decode cX5_init 17 = .ok (.putfield 17, 3) := by decide +kernel
theorem dX5_init_20 : decode cX5_init 20 = .ok (.aload_n 0, 1) := by decide +kernel
theorem dX5_init_21 : decode cX5_init 21 = .ok (.iconst 4, 1) := by decide +kernel
theorem dX5_init_22 : decode cX5_init 22 = .ok (.iconst 5, 1) := by decide +kernel
theorem dX5_init_23 : decode cX5_init 23 = .ok (.multianewarray 21 2, 4) := by decide +kernel
theorem dX5_init_27 : decode cX5_init 27 = .ok (.putfield 23, 3) := by decide +kernel
theorem dX5_init_30 : decode cX5_init 30 = .ok (.aload_n 0, 1) := by decide +kernel
theorem dX5_init_31 : decode cX5_init 31 = .ok (.new 26, 3) := by decide +kernel
theorem dX5_init_34 : decode cX5_init 34 = .ok (.dup, 1) := by decide +kernel
theorem dX5_init_35 : decode cX5_init 35 = .ok (.invokespecial 28, 3) := by decide +kernel
theorem dX5_init_38 : decode cX5_init 38 = .ok (.putfield 29, 3) := by decide +kernel
theorem dX5_init_41 : decode cX5_init 41 = .ok (.aload_n 0, 1) := by decide +kernel
theorem dX5_init_42 : decode cX5_init 42 = .ok (.new 9, 3) := by decide +kernel
theorem dX5_init_45 : decode cX5_init 45 = .ok (.dup, 1) := by decide +kernel
theorem dX5_init_46 : decode cX5_init 46 = .ok (.invokespecial 33, 3) := by decide +kernel
theorem dX5_init_49 : decode cX5_init 49 = .ok (.putfield 34, 3) := by decide +kernel
theorem dX5_init_52 : decode cX5_init 52 = .ok (.aload_n 0, 1) := by decide +kernel
theorem dX5_init_53 : decode cX5_init 53 = .ok (.new 15, 3) := by decide +kernel
theorem dX5_init_56 : decode cX5_init 56 = .ok (.dup, 1) := by decide +kernel
theorem dX5_init_57 : decode cX5_init 57 = .ok (.invokespecial 38, 3) := by decide +kernel
theorem dX5_init_60 : decode cX5_init 60 = .ok (.putfield 39, 3) := by decide +kernel
theorem dX5_init_63 : decode cX5_init 63 = .ok (.aload_n 0, 1) := by decide +kernel
theorem dX5_init_64 : decode cX5_init 64 = .ok (.new 15, 3) := by decide +kernel
theorem dX5_init_67 : decode cX5_init 67 = .ok (.dup, 1) := by decide +kernel
theorem dX5_init_68 : decode cX5_init 68 = .ok (.invokespecial 38, 3) := by decide +kernel
theorem dX5_init_71 : decode cX5_init 71 = .ok (.putfield 43, 3) := by decide +kernel
theorem dX5_init_74 : decode cX5_init 74 = .ok (.aload_n 0, 1) := by decide +kernel
theorem dX5_init_75 : decode cX5_init 75 = .ok (.iconst 5, 1) := by decide +kernel
theorem dX5_init_76 : decode cX5_init 76 = .ok (.newarray .int, 2) := by decide +kernel
theorem dX5_init_78 : decode cX5_init 78 = .ok (.putfield 46, 3) := by decide +kernel
theorem dX5_init_81 : decode cX5_init 81 = .ok (.aload_n 0, 1) := by decide +kernel
theorem dX5_init_82 : decode cX5_init 82 = .ok (.new 50, 3) := by decide +kernel
theorem dX5_init_85 : decode cX5_init 85 = .ok (.dup, 1) := by decide +kernel
theorem dX5_init_86 : decode cX5_init 86 = .ok (.invokespecial 52, 3) := by decide +kernel
theorem dX5_init_89 : decode cX5_init 89 = .ok (.putfield 53, 3) := by decide +kernel
theorem dX5_init_92 : decode cX5_init 92 = .ok (.aload_n 0, 1) := by decide +kernel
theorem dX5_init_93 : decode cX5_init 93 = .ok (.new 57, 3) := by decide +kernel
theorem dX5_init_96 : decode cX5_init 96 = .ok (.dup, 1) := by decide +kernel
theorem dX5_init_97 : decode cX5_init 97 = .ok (.invokespecial 59, 3) := by decide +kernel
theorem dX5_init_100 : decode cX5_init 100 = .ok (.putfield 60, 3) := by decide +kernel
theorem dX5_init_103 : decode cX5_init 103 = .ok (.iconst 0, 1) := by decide +kernel
theorem dX5_init_104 : decode cX5_init 104 = .ok (.istore_n 1, 1) := by decide +kernel
theorem dX5_init_105 : decode cX5_init 105 = .ok (.iload_n 1, 1) := by decide +kernel
theorem dX5_init_106 : decode cX5_init 106 = .ok (.iconst 4, 1) := by decide +kernel
theorem dX5_init_107 : decode cX5_init 107 = .ok (.if_icmp .ge 35, 3) := by decide +kernel
theorem dX5_init_110 : decode cX5_init 110 = .ok (.aload_n 0, 1) := by decide +kernel
theorem dX5_init_111 : decode cX5_init 111 = .ok (.getfield 11, 3) := by decide +kernel
theorem dX5_init_114 : decode cX5_init 114 = .ok (.iload_n 1, 1) := by decide +kernel
theorem dX5_init_115 : decode cX5_init 115 = .ok (.new 9, 3) := by decide +kernel
theorem dX5_init_118 : decode cX5_init 118 = .ok (.dup, 1) := by decide +kernel
theorem dX5_init_119 : decode cX5_init 119 = .ok (.invokespecial 33, 3) := by decide +kernel
theorem dX5_init_122 : decode cX5_init 122 = .ok (.aastore, 1) := by decide +kernel
theorem dX5_init_123 : decode cX5_init 123 = .ok (.aload_n 0, 1) := by decide +kernel
theorem dX5_init_124 : decode cX5_init 124 = .ok (.getfield 17, 3) := by decide +kernel
theorem dX5_init_127 : decode cX5_init 127 = .ok (.iload_n 1, 1) := by decide +kernel
theorem dX5_init_128 : decode cX5_init 128 = .ok (.new 15, 3) := by decide +kernel
theorem dX5_init_131 : decode cX5_init 131 = .ok (.dup, 1) := by decide +kernel
theorem dX5_init_132 : decode cX5_init 132 = .ok (.invokespecial 38, 3) := by decide +kernel
theorem dX5_init_135 : decode cX5_init 135 = .ok (.aastore, 1) := by decide +kernel
theorem dX5_init_136 : decode cX5_init 136 = .ok (.iinc 1 1, 3) := by decide +kernel
theorem dX5_init_139 : decode cX5_init 139 = .ok (.goto (-34), 3) := by decide +kernel
theorem dX5_init_142 : decode cX5_init 142 = .ok (.return_, 1) := by decide +kernel
set_option maxRecDepth 20000 in
theorem ggX5_coefficient_X5_needHeld : GoodIn wsX5_coefficient wsX5_needHeld := goodIn_ca (goodIn_r _ [5, 6, 7, 4, 8, 9, 10] (by decide +kernel) (by decide +kernel)) (goodIn_sub (fun _ h => List.mem_cons_of_mem _ (List.mem_append_left _ (List.mem_append_right _ h))) (by decide +kernel))
set_option maxRecDepth 20000 in
theorem gX5_coefficient_X5_needHeld : GoodIn wsX5_coefficient (va_wsS RX5 64 yX5_needHeld wsX5_needHeld) := goodIn_app (goodIn_of _ (by decide +kernel)) ggX5_coefficient_X5_needHeld
set_option maxRecDepth 20000 in
theorem ggX5_coefficient_X5_needIndex : GoodIn wsX5_coefficient wsX5_needIndex := goodIn_ca (goodIn_r _ [8, 9, 10] (by decide +kernel) (by decide +kernel)) (goodIn_sub (fun _ h => List.mem_cons_of_mem _ (List.mem_append_left _ (List.mem_append_right _ h))) (by decide +kernel))
set_option maxRecDepth 20000 in
theorem gX5_coefficient_X5_needIndex : GoodIn wsX5_coefficient (va_wsS RX5 68 yX5_needIndex wsX5_needIndex) := goodIn_app (goodIn_of _ (by decide +kernel)) ggX5_coefficient_X5_needIndex
set_option maxRecDepth 20000 in
theorem ggX5_coefficient_X5_needGiven : GoodIn wsX5_coefficient wsX5_needGiven := goodIn_ca (goodIn_r _ [13, 14, 15, 16, 4, 17, 18, 19] (by decide +kernel) (by decide +kernel)) (goodIn_sub (fun _ h => List.mem_cons_of_mem _ (List.mem_append_right _ h)) (by decide +kernel))
set_option maxRecDepth 20000 in
theorem gX5_coefficient_X5_needGiven : GoodIn wsX5_coefficient (va_wsS RX5 72 yX5_needGiven wsX5_needGiven) := goodIn_app (goodIn_of _ (by decide +kernel)) ggX5_coefficient_X5_needGiven
theorem dX5_coefficient_0 : decode cX5_coefficient 0 = .ok (.iload_n 1, 1) := by decide +kernel
theorem dX5_coefficient_1 : decode cX5_coefficient 1 = .ok (.invokestatic 64, 3) := by decide +kernel
theorem dX5_coefficient_4 : decode cX5_coefficient 4 = .ok (.iload_n 2, 1) := by decide +kernel
theorem dX5_coefficient_5 : decode cX5_coefficient 5 = .ok (.bipush 9, 2) := by decide +kernel
theorem dX5_coefficient_7 : decode cX5_coefficient 7 = .ok (.invokestatic 68, 3) := by decide +kernel
theorem dX5_coefficient_10 : decode cX5_coefficient 10 = .ok (.iload_n 3, 1) := by decide +kernel
theorem dX5_coefficient_11 : decode cX5_coefficient 11 = .ok (.invokestatic 72, 3) := by decide +kernel
theorem dX5_coefficient_14 : decode cX5_coefficient 14 = .ok (.aload_n 0, 1) := by decide +kernel
theorem dX5_coefficient_15 : decode cX5_coefficient 15 = .ok (.getfield 11, 3) := by decide +kernel
theorem dX5_coefficient_18 : decode cX5_coefficient 18 = .ok (.iload_n 1, 1) := by decide +kernel
theorem dX5_coefficient_19 : decode cX5_coefficient 19 = .ok (.aaload, 1) := by decide +kernel
theorem dX5_coefficient_20 : decode cX5_coefficient 20 = .ok (.getfield 75, 3) := by decide +kernel
theorem dX5_coefficient_23 : decode cX5_coefficient 23 = .ok (.iload_n 2, 1) := by decide +kernel
theorem dX5_coefficient_24 : decode cX5_coefficient 24 = .ok (.iaload, 1) := by decide +kernel
theorem dX5_coefficient_25 : decode cX5_coefficient 25 = .ok (.istore 4, 2) := by decide +kernel
theorem dX5_coefficient_27 : decode cX5_coefficient 27 = .ok (.aload_n 0, 1) := by decide +kernel
theorem dX5_coefficient_28 : decode cX5_coefficient 28 = .ok (.getfield 11, 3) := by decide +kernel
theorem dX5_coefficient_31 : decode cX5_coefficient 31 = .ok (.iload_n 1, 1) := by decide +kernel
theorem dX5_coefficient_32 : decode cX5_coefficient 32 = .ok (.aaload, 1) := by decide +kernel
theorem dX5_coefficient_33 : decode cX5_coefficient 33 = .ok (.getfield 75, 3) := by decide +kernel
theorem dX5_coefficient_36 : decode cX5_coefficient 36 = .ok (.iload_n 2, 1) := by decide +kernel
theorem dX5_coefficient_37 : decode cX5_coefficient 37 = .ok (.iload_n 3, 1) := by decide +kernel
theorem dX5_coefficient_38 : decode cX5_coefficient 38 = .ok (.iastore, 1) := by decide +kernel
theorem dX5_coefficient_39 : decode cX5_coefficient 39 = .ok (.iload 4, 2) := by decide +kernel
theorem dX5_coefficient_41 : decode cX5_coefficient 41 = .ok (.ireturn, 1) := by decide +kernel
set_option maxRecDepth 20000 in
theorem ggX5_value_X5_needHeld : GoodIn wsX5_value wsX5_needHeld := goodIn_ca (goodIn_r _ [5, 6, 7, 4, 8, 9, 10] (by decide +kernel) (by decide +kernel)) (goodIn_sub (fun _ h => List.mem_cons_of_mem _ (List.mem_append_left _ (List.mem_append_right _ h))) (by decide +kernel))
set_option maxRecDepth 20000 in
theorem gX5_value_X5_needHeld : GoodIn wsX5_value (va_wsS RX5 64 yX5_needHeld wsX5_needHeld) := goodIn_app (goodIn_of _ (by decide +kernel)) ggX5_value_X5_needHeld
set_option maxRecDepth 20000 in
theorem ggX5_value_X5_needWithin : GoodIn wsX5_value wsX5_needWithin := goodIn_ca (goodIn_r _ [13, 14, 15] (by decide +kernel) (by decide +kernel)) (goodIn_sub (fun _ h => List.mem_cons_of_mem _ (List.mem_append_right _ h)) (by decide +kernel))
set_option maxRecDepth 20000 in
theorem gX5_value_X5_needWithin : GoodIn wsX5_value (va_wsS RX5 78 yX5_needWithin wsX5_needWithin) := goodIn_app (goodIn_of _ (by decide +kernel)) ggX5_value_X5_needWithin
set_option maxRecDepth 20000 in
theorem ggX5_value_X4_leastAt : GoodIn wsX5_value wsX4_leastAt := goodIn_r _ [20, 21, 22, 23, 24, 25, 26, 27, 28, 29, 19, 30, 41] (by decide +kernel) (by decide +kernel)
set_option maxRecDepth 20000 in
theorem gX5_value_X4_leastAt : GoodIn wsX5_value (wsV RX5 82 RX4 yX4_leastAt wsX4_leastAt) := goodIn_app (goodIn_of _ (by decide +kernel)) ggX5_value_X4_leastAt
theorem dX5_value_0 : decode cX5_value 0 = .ok (.iload_n 1, 1) := by decide +kernel
theorem dX5_value_1 : decode cX5_value 1 = .ok (.invokestatic 64, 3) := by decide +kernel
theorem dX5_value_4 : decode cX5_value 4 = .ok (.iload_n 2, 1) := by decide +kernel
theorem dX5_value_5 : decode cX5_value 5 = .ok (.sipush (-999), 3) := by decide +kernel
theorem dX5_value_8 : decode cX5_value 8 = .ok (.sipush 999, 3) := by decide +kernel
theorem dX5_value_11 : decode cX5_value 11 = .ok (.invokestatic 78, 3) := by decide +kernel
theorem dX5_value_14 : decode cX5_value 14 = .ok (.aload_n 0, 1) := by decide +kernel
theorem dX5_value_15 : decode cX5_value 15 = .ok (.getfield 11, 3) := by decide +kernel
theorem dX5_value_18 : decode cX5_value 18 = .ok (.iload_n 1, 1) := by decide +kernel
theorem dX5_value_19 : decode cX5_value 19 = .ok (.aaload, 1) := by decide +kernel
theorem dX5_value_20 : decode cX5_value 20 = .ok (.iload_n 2, 1) := by decide +kernel
theorem dX5_value_21 : decode cX5_value 21 = .ok (.invokevirtual 82, 3) := by decide +kernel
theorem dX5_value_24 : decode cX5_value 24 = .ok (.ireturn, 1) := by decide +kernel
set_option maxRecDepth 20000 in
theorem ggX5_roots_X5_needHeld : GoodIn wsX5_roots wsX5_needHeld := goodIn_ca (goodIn_r _ [5, 6, 7, 4, 8, 9, 10] (by decide +kernel) (by decide +kernel)) (goodIn_sub (fun _ h => List.mem_cons_of_mem _ (List.mem_append_right _ h)) (by decide +kernel))
set_option maxRecDepth 20000 in
theorem gX5_roots_X5_needHeld : GoodIn wsX5_roots (va_wsS RX5 64 yX5_needHeld wsX5_needHeld) := goodIn_app (goodIn_of _ (by decide +kernel)) ggX5_roots_X5_needHeld
set_option maxRecDepth 20000 in
theorem ggX5_roots_X4_countGaps : GoodIn wsX5_roots wsX4_countGaps := goodIn_r _ [15, 16, 17, 18, 19, 20, 21, 22, 14, 23, 24, 25, 26, 27, 28, 29, 30, 31, 32, 33, 34, 35, 36, 37, 48] (by decide +kernel) (by decide +kernel)
set_option maxRecDepth 20000 in
theorem gX5_roots_X4_countGaps : GoodIn wsX5_roots (wsV RX5 86 RX4 yX4_countGaps wsX4_countGaps) := goodIn_app (goodIn_of _ (by decide +kernel)) ggX5_roots_X4_countGaps
theorem dX5_roots_0 : decode cX5_roots 0 = .ok (.iload_n 1, 1) := by decide +kernel
theorem dX5_roots_1 : decode cX5_roots 1 = .ok (.invokestatic 64, 3) := by decide +kernel
theorem dX5_roots_4 : decode cX5_roots 4 = .ok (.aload_n 0, 1) := by decide +kernel
theorem dX5_roots_5 : decode cX5_roots 5 = .ok (.getfield 11, 3) := by decide +kernel
theorem dX5_roots_8 : decode cX5_roots 8 = .ok (.iload_n 1, 1) := by decide +kernel
theorem dX5_roots_9 : decode cX5_roots 9 = .ok (.aaload, 1) := by decide +kernel
theorem dX5_roots_10 : decode cX5_roots 10 = .ok (.invokevirtual 86, 3) := by decide +kernel
theorem dX5_roots_13 : decode cX5_roots 13 = .ok (.ireturn, 1) := by decide +kernel
set_option maxRecDepth 20000 in
theorem ggX5_root_X5_needHeld : GoodIn wsX5_root wsX5_needHeld := goodIn_ca (goodIn_r _ [6, 7, 8, 5, 9, 10, 11] (by decide +kernel) (by decide +kernel)) (goodIn_sub (fun _ h => List.mem_cons_of_mem _ (List.mem_append_left _ (List.mem_append_right _ h))) (by decide +kernel))
set_option maxRecDepth 20000 in
theorem gX5_root_X5_needHeld : GoodIn wsX5_root (va_wsS RX5 64 yX5_needHeld wsX5_needHeld) := goodIn_app (goodIn_of _ (by decide +kernel)) ggX5_root_X5_needHeld
set_option maxRecDepth 20000 in
theorem ggX5_root_X4_countGaps : GoodIn wsX5_root wsX4_countGaps := goodIn_r _ [16, 17, 18, 19, 20, 21, 22, 23, 15, 24, 25, 26, 27, 28, 29, 30, 31, 32, 33, 34, 35, 36, 37, 38, 68] (by decide +kernel) (by decide +kernel)
set_option maxRecDepth 20000 in
theorem gX5_root_X4_countGaps : GoodIn wsX5_root (wsV RX5 86 RX4 yX4_countGaps wsX4_countGaps) := goodIn_app (goodIn_of _ (by decide +kernel)) ggX5_root_X4_countGaps
set_option maxRecDepth 20000 in
theorem ggX5_root_X5_needIndex : GoodIn wsX5_root wsX5_needIndex := goodIn_ca (goodIn_r _ [9, 10, 11] (by decide +kernel) (by decide +kernel)) (goodIn_sub (fun _ h => List.mem_cons_of_mem _ (List.mem_append_left _ (List.mem_append_right _ h))) (by decide +kernel))
set_option maxRecDepth 20000 in
theorem gX5_root_X5_needIndex : GoodIn wsX5_root (va_wsS RX5 68 yX5_needIndex wsX5_needIndex) := goodIn_app (goodIn_of _ (by decide +kernel)) ggX5_root_X5_needIndex
set_option maxRecDepth 20000 in
theorem ggX5_root_X5_needWithin : GoodIn wsX5_root wsX5_needWithin := goodIn_ca (goodIn_r _ [41, 42, 43] (by decide +kernel) (by decide +kernel)) (goodIn_sub (fun _ h => List.mem_cons_of_mem _ (List.mem_append_right _ h)) (by decide +kernel))
set_option maxRecDepth 20000 in
theorem gX5_root_X5_needWithin : GoodIn wsX5_root (va_wsS RX5 78 yX5_needWithin wsX5_needWithin) := goodIn_app (goodIn_of _ (by decide +kernel)) ggX5_root_X5_needWithin
set_option maxRecDepth 20000 in
theorem ggX5_root_X4_cornerBelow : GoodIn wsX5_root wsX4_cornerBelow := goodIn_r _ [47, 48, 49, 19, 50, 21, 22, 23, 15, 24, 25, 26, 27, 28, 29, 30, 31, 32, 33, 34, 35, 36, 37, 38, 68] (by decide +kernel) (by decide +kernel)
set_option maxRecDepth 20000 in
theorem gX5_root_X4_cornerBelow : GoodIn wsX5_root (wsV RX5 90 RX4 yX4_cornerBelow wsX4_cornerBelow) := goodIn_app (goodIn_of _ (by decide +kernel)) ggX5_root_X4_cornerBelow
set_option maxRecDepth 20000 in
theorem ggX5_root_X1_become : GoodIn wsX5_root wsX1_become := goodIn_r _ [55, 56, 57, 69, 70] (by decide +kernel) (by decide +kernel)
set_option maxRecDepth 20000 in
theorem gX5_root_X1_become : GoodIn wsX5_root (wsV RX5 93 RX1 yX1_become wsX1_become) := goodIn_app (goodIn_of _ (by decide +kernel)) ggX5_root_X1_become
theorem dX5_root_0 : decode cX5_root 0 = .ok (.iload_n 1, 1) := by decide +kernel
theorem dX5_root_1 : decode cX5_root 1 = .ok (.invokestatic 64, 3) := by decide +kernel
theorem dX5_root_4 : decode cX5_root 4 = .ok (.aload_n 0, 1) := by decide +kernel
theorem dX5_root_5 : decode cX5_root 5 = .ok (.getfield 11, 3) := by decide +kernel
theorem dX5_root_8 : decode cX5_root 8 = .ok (.iload_n 1, 1) := by decide +kernel
theorem dX5_root_9 : decode cX5_root 9 = .ok (.aaload, 1) := by decide +kernel
theorem dX5_root_10 : decode cX5_root 10 = .ok (.astore 4, 2) := by decide +kernel
theorem dX5_root_12 : decode cX5_root 12 = .ok (.iload_n 2, 1) := by decide +kernel
theorem dX5_root_13 : decode cX5_root 13 = .ok (.aload 4, 2) := by decide +kernel
theorem dX5_root_15 : decode cX5_root 15 = .ok (.invokevirtual 86, 3) := by decide +kernel
theorem dX5_root_18 : decode cX5_root 18 = .ok (.invokestatic 68, 3) := by decide +kernel
theorem dX5_root_21 : decode cX5_root 21 = .ok (.iload_n 3, 1) := by decide +kernel
theorem dX5_root_22 : decode cX5_root 22 = .ok (.iconst 0, 1) := by decide +kernel
theorem dX5_root_23 : decode cX5_root 23 = .ok (.iconst 2, 1) := by decide +kernel
theorem dX5_root_24 : decode cX5_root 24 = .ok (.invokestatic 78, 3) := by decide +kernel
theorem dX5_root_27 : decode cX5_root 27 = .ok (.aload 4, 2) := by decide +kernel
theorem dX5_root_29 : decode cX5_root 29 = .ok (.bipush 9, 2) := by decide +kernel
theorem dX5_root_31 : decode cX5_root 31 = .ok (.invokevirtual 90, 3) := by decide +kernel
theorem dX5_root_34 : decode cX5_root 34 = .ok (.istore 5, 2) := by decide +kernel
theorem dX5_root_36 : decode cX5_root 36 = .ok (.iconst 0, 1) := by decide +kernel
theorem dX5_root_37 : decode cX5_root 37 = .ok (.istore 6, 2) := by decide +kernel
theorem dX5_root_39 : decode cX5_root 39 = .ok (.iload 6, 2) := by decide +kernel
theorem dX5_root_41 : decode cX5_root 41 = .ok (.iload_n 2, 1) := by decide +kernel
theorem dX5_root_42 : decode cX5_root 42 = .ok (.if_icmp .ge 18, 3) := by decide +kernel
theorem dX5_root_45 : decode cX5_root 45 = .ok (.aload 4, 2) := by decide +kernel
theorem dX5_root_47 : decode cX5_root 47 = .ok (.iload 5, 2) := by decide +kernel
theorem dX5_root_49 : decode cX5_root 49 = .ok (.invokevirtual 90, 3) := by decide +kernel
theorem dX5_root_52 : decode cX5_root 52 = .ok (.istore 5, 2) := by decide +kernel
theorem dX5_root_54 : decode cX5_root 54 = .ok (.iinc 6 1, 3) := by decide +kernel
theorem dX5_root_57 : decode cX5_root 57 = .ok (.goto (-18), 3) := by decide +kernel
theorem dX5_root_60 : decode cX5_root 60 = .ok (.aload 4, 2) := by decide +kernel
theorem dX5_root_62 : decode cX5_root 62 = .ok (.iload 5, 2) := by decide +kernel
theorem dX5_root_64 : decode cX5_root 64 = .ok (.invokevirtual 90, 3) := by decide +kernel
theorem dX5_root_67 : decode cX5_root 67 = .ok (.istore 6, 2) := by decide +kernel
theorem dX5_root_69 : decode cX5_root 69 = .ok (.iload 6, 2) := by decide +kernel
theorem dX5_root_71 : decode cX5_root 71 = .ok (.ifCond .lt 8, 3) := by decide +kernel
theorem dX5_root_74 : decode cX5_root 74 = .ok (.iload_n 3, 1) := by decide +kernel
theorem dX5_root_75 : decode cX5_root 75 = .ok (.iconst 2, 1) := by decide +kernel
theorem dX5_root_76 : decode cX5_root 76 = .ok (.if_icmp .ne 9, 3) := by decide +kernel
theorem dX5_root_79 : decode cX5_root 79 = .ok (.iload 5, 2) := by decide +kernel
theorem dX5_root_81 : decode cX5_root 81 = .ok (.iload 6, 2) := by decide +kernel
theorem dX5_root_83 : decode cX5_root 83 = .ok (.isub, 1) := by decide +kernel
theorem dX5_root_84 : decode cX5_root 84 = .ok (.ireturn, 1) := by decide +kernel
theorem dX5_root_85 : decode cX5_root 85 = .ok (.aload_n 0, 1) := by decide +kernel
theorem dX5_root_86 : decode cX5_root 86 = .ok (.getfield 53, 3) := by decide +kernel
theorem dX5_root_89 : decode cX5_root 89 = .ok (.aload 4, 2) := by decide +kernel
theorem dX5_root_91 : decode cX5_root 91 = .ok (.getfield 75, 3) := by decide +kernel
theorem dX5_root_94 : decode cX5_root 94 = .ok (.iload 6, 2) := by decide +kernel
theorem dX5_root_96 : decode cX5_root 96 = .ok (.iaload, 1) := by decide +kernel
theorem dX5_root_97 : decode cX5_root 97 = .ok (.aload 4, 2) := by decide +kernel
theorem dX5_root_99 : decode cX5_root 99 = .ok (.getfield 75, 3) := by decide +kernel
theorem dX5_root_102 : decode cX5_root 102 = .ok (.iload 5, 2) := by decide +kernel
theorem dX5_root_104 : decode cX5_root 104 = .ok (.iaload, 1) := by decide +kernel
theorem dX5_root_105 : decode cX5_root 105 = .ok (.isub, 1) := by decide +kernel
theorem dX5_root_106 : decode cX5_root 106 = .ok (.iload 5, 2) := by decide +kernel
theorem dX5_root_108 : decode cX5_root 108 = .ok (.iload 6, 2) := by decide +kernel
theorem dX5_root_110 : decode cX5_root 110 = .ok (.isub, 1) := by decide +kernel
theorem dX5_root_111 : decode cX5_root 111 = .ok (.invokevirtual 93, 3) := by decide +kernel
theorem dX5_root_114 : decode cX5_root 114 = .ok (.iload_n 3, 1) := by decide +kernel
theorem dX5_root_115 : decode cX5_root 115 = .ok (.ifCond .ne 13, 3) := by decide +kernel
theorem dX5_root_118 : decode cX5_root 118 = .ok (.aload_n 0, 1) := by decide +kernel
theorem dX5_root_119 : decode cX5_root 119 = .ok (.getfield 53, 3) := by decide +kernel
theorem dX5_root_122 : decode cX5_root 122 = .ok (.getfield 96, 3) := by decide +kernel
theorem dX5_root_125 : decode cX5_root 125 = .ok (.goto 10, 3) := by decide +kernel
theorem dX5_root_128 : decode cX5_root 128 = .ok (.aload_n 0, 1) := by decide +kernel
theorem dX5_root_129 : decode cX5_root 129 = .ok (.getfield 53, 3) := by decide +kernel
theorem dX5_root_132 : decode cX5_root 132 = .ok (.getfield 100, 3) := by decide +kernel
theorem dX5_root_135 : decode cX5_root 135 = .ok (.ireturn, 1) := by decide +kernel
set_option maxRecDepth 20000 in
theorem ggX5_isSpare_X5_needHeld : GoodIn wsX5_isSpare wsX5_needHeld := goodIn_ca (goodIn_r _ [5, 6, 7, 4, 8, 9, 10] (by decide +kernel) (by decide +kernel)) (goodIn_sub (fun _ h => List.mem_cons_of_mem _ (List.mem_append_right _ h)) (by decide +kernel))
set_option maxRecDepth 20000 in
theorem gX5_isSpare_X5_needHeld : GoodIn wsX5_isSpare (va_wsS RX5 64 yX5_needHeld wsX5_needHeld) := goodIn_app (goodIn_of _ (by decide +kernel)) ggX5_isSpare_X5_needHeld
set_option maxRecDepth 20000 in
theorem ggX5_isSpare_X5_needIndex : GoodIn wsX5_isSpare wsX5_needIndex := goodIn_ca (goodIn_r _ [8, 9, 10] (by decide +kernel) (by decide +kernel)) (goodIn_sub (fun _ h => List.mem_cons_of_mem _ (List.mem_append_right _ h)) (by decide +kernel))
set_option maxRecDepth 20000 in
theorem gX5_isSpare_X5_needIndex : GoodIn wsX5_isSpare (va_wsS RX5 68 yX5_needIndex wsX5_needIndex) := goodIn_app (goodIn_of _ (by decide +kernel)) ggX5_isSpare_X5_needIndex
set_option maxRecDepth 20000 in
theorem ggX5_isSpare_X4_hasSpare : GoodIn wsX5_isSpare wsX4_hasSpare := goodIn_r _ [15, 16, 17, 18, 14, 19, 20, 21, 22, 23, 24, 25, 36] (by decide +kernel) (by decide +kernel)
set_option maxRecDepth 20000 in
theorem gX5_isSpare_X4_hasSpare : GoodIn wsX5_isSpare (wsV RX5 103 RX4 yX4_hasSpare wsX4_hasSpare) := goodIn_app (goodIn_of _ (by decide +kernel)) ggX5_isSpare_X4_hasSpare
theorem dX5_isSpare_0 : decode cX5_isSpare 0 = .ok (.iload_n 1, 1) := by decide +kernel
theorem dX5_isSpare_1 : decode cX5_isSpare 1 = .ok (.invokestatic 64, 3) := by decide +kernel
theorem dX5_isSpare_4 : decode cX5_isSpare 4 = .ok (.iload_n 2, 1) := by decide +kernel
theorem dX5_isSpare_5 : decode cX5_isSpare 5 = .ok (.bipush 9, 2) := by decide +kernel
theorem dX5_isSpare_7 : decode cX5_isSpare 7 = .ok (.invokestatic 68, 3) := by decide +kernel
theorem dX5_isSpare_10 : decode cX5_isSpare 10 = .ok (.aload_n 0, 1) := by decide +kernel
theorem dX5_isSpare_11 : decode cX5_isSpare 11 = .ok (.getfield 11, 3) := by decide +kernel
theorem dX5_isSpare_14 : decode cX5_isSpare 14 = .ok (.iload_n 1, 1) := by decide +kernel
theorem dX5_isSpare_15 : decode cX5_isSpare 15 = .ok (.aaload, 1) := by decide +kernel
theorem dX5_isSpare_16 : decode cX5_isSpare 16 = .ok (.iload_n 2, 1) := by decide +kernel
theorem dX5_isSpare_17 : decode cX5_isSpare 17 = .ok (.invokevirtual 103, 3) := by decide +kernel
theorem dX5_isSpare_20 : decode cX5_isSpare 20 = .ok (.ireturn, 1) := by decide +kernel
set_option maxRecDepth 20000 in
theorem ggX5_areSame_X5_needHeld : GoodIn wsX5_areSame wsX5_needHeld := goodIn_ca (goodIn_r _ [5, 6, 7, 4, 8, 9, 10] (by decide +kernel) (by decide +kernel)) (goodIn_sub (fun _ h => List.mem_cons_of_mem _ (List.mem_append_right _ h)) (by decide +kernel))
set_option maxRecDepth 20000 in
theorem gX5_areSame_X5_needHeld : GoodIn wsX5_areSame (va_wsS RX5 64 yX5_needHeld wsX5_needHeld) := goodIn_app (goodIn_of _ (by decide +kernel)) ggX5_areSame_X5_needHeld
set_option maxRecDepth 20000 in
theorem ggX5_areSame_X4_hasCornersOf : GoodIn wsX5_areSame wsX4_hasCornersOf := goodIn_r _ [15, 16, 17, 18, 19, 14, 20, 21, 22, 23, 24, 25, 26, 27, 28, 29, 30, 31, 32, 33, 44] (by decide +kernel) (by decide +kernel)
set_option maxRecDepth 20000 in
theorem gX5_areSame_X4_hasCornersOf : GoodIn wsX5_areSame (wsV RX5 107 RX4 yX4_hasCornersOf wsX4_hasCornersOf) := goodIn_app (goodIn_of _ (by decide +kernel)) ggX5_areSame_X4_hasCornersOf
theorem dX5_areSame_0 : decode cX5_areSame 0 = .ok (.iload_n 1, 1) := by decide +kernel
theorem dX5_areSame_1 : decode cX5_areSame 1 = .ok (.invokestatic 64, 3) := by decide +kernel
theorem dX5_areSame_4 : decode cX5_areSame 4 = .ok (.iload_n 2, 1) := by decide +kernel
theorem dX5_areSame_5 : decode cX5_areSame 5 = .ok (.invokestatic 64, 3) := by decide +kernel
theorem dX5_areSame_8 : decode cX5_areSame 8 = .ok (.aload_n 0, 1) := by decide +kernel
theorem dX5_areSame_9 : decode cX5_areSame 9 = .ok (.getfield 11, 3) := by decide +kernel
theorem dX5_areSame_12 : decode cX5_areSame 12 = .ok (.iload_n 1, 1) := by decide +kernel
theorem dX5_areSame_13 : decode cX5_areSame 13 = .ok (.aaload, 1) := by decide +kernel
theorem dX5_areSame_14 : decode cX5_areSame 14 = .ok (.aload_n 0, 1) := by decide +kernel
theorem dX5_areSame_15 : decode cX5_areSame 15 = .ok (.getfield 11, 3) := by decide +kernel
theorem dX5_areSame_18 : decode cX5_areSame 18 = .ok (.iload_n 2, 1) := by decide +kernel
theorem dX5_areSame_19 : decode cX5_areSame 19 = .ok (.aaload, 1) := by decide +kernel
theorem dX5_areSame_20 : decode cX5_areSame 20 = .ok (.invokevirtual 107, 3) := by decide +kernel
theorem dX5_areSame_23 : decode cX5_areSame 23 = .ok (.ireturn, 1) := by decide +kernel
set_option maxRecDepth 20000 in
theorem ggX5_sum_X5_needHeld : GoodIn wsX5_sum wsX5_needHeld := goodIn_ca (goodIn_r _ [6, 7, 8, 5, 9, 10, 11] (by decide +kernel) (by decide +kernel)) (goodIn_sub (fun _ h => List.mem_cons_of_mem _ (List.mem_append_right _ h)) (by decide +kernel))
set_option maxRecDepth 20000 in
theorem gX5_sum_X5_needHeld : GoodIn wsX5_sum (va_wsS RX5 64 yX5_needHeld wsX5_needHeld) := goodIn_app (goodIn_of _ (by decide +kernel)) ggX5_sum_X5_needHeld
set_option maxRecDepth 20000 in
theorem ggX5_sum_X4_becomeLesser : GoodIn wsX5_sum wsX4_becomeLesser := goodIn_r _ [16, 17, 18, 19, 20, 21, 49] (by decide +kernel) (by decide +kernel)
set_option maxRecDepth 20000 in
theorem gX5_sum_X4_becomeLesser : GoodIn wsX5_sum (wsV RX5 111 RX4 yX4_becomeLesser wsX4_becomeLesser) := goodIn_app (goodIn_of _ (by decide +kernel)) ggX5_sum_X4_becomeLesser
set_option maxRecDepth 20000 in
theorem ggX5_sum_X4_becomeCopy : GoodIn wsX5_sum wsX4_becomeCopy := goodIn_r _ [25, 17, 26, 27, 28, 29, 49] (by decide +kernel) (by decide +kernel)
set_option maxRecDepth 20000 in
theorem gX5_sum_X4_becomeCopy : GoodIn wsX5_sum (wsV RX5 115 RX4 yX4_becomeCopy wsX4_becomeCopy) := goodIn_app (goodIn_of _ (by decide +kernel)) ggX5_sum_X4_becomeCopy
set_option maxRecDepth 20000 in
theorem ggX5_sum_X4_countTerms : GoodIn wsX5_sum wsX4_countTerms := goodIn_r _ [33, 34, 35, 36, 15, 37, 17, 38, 49] (by decide +kernel) (by decide +kernel)
set_option maxRecDepth 20000 in
theorem gX5_sum_X4_countTerms : GoodIn wsX5_sum (wsV RX5 119 RX4 yX4_countTerms wsX4_countTerms) := goodIn_app (goodIn_of _ (by decide +kernel)) ggX5_sum_X4_countTerms
theorem dX5_sum_0 : decode cX5_sum 0 = .ok (.iload_n 1, 1) := by decide +kernel
theorem dX5_sum_1 : decode cX5_sum 1 = .ok (.invokestatic 64, 3) := by decide +kernel
theorem dX5_sum_4 : decode cX5_sum 4 = .ok (.iload_n 2, 1) := by decide +kernel
theorem dX5_sum_5 : decode cX5_sum 5 = .ok (.invokestatic 64, 3) := by decide +kernel
theorem dX5_sum_8 : decode cX5_sum 8 = .ok (.iload_n 3, 1) := by decide +kernel
theorem dX5_sum_9 : decode cX5_sum 9 = .ok (.invokestatic 64, 3) := by decide +kernel
theorem dX5_sum_12 : decode cX5_sum 12 = .ok (.aload_n 0, 1) := by decide +kernel
theorem dX5_sum_13 : decode cX5_sum 13 = .ok (.getfield 34, 3) := by decide +kernel
theorem dX5_sum_16 : decode cX5_sum 16 = .ok (.aload_n 0, 1) := by decide +kernel
theorem dX5_sum_17 : decode cX5_sum 17 = .ok (.getfield 11, 3) := by decide +kernel
theorem dX5_sum_20 : decode cX5_sum 20 = .ok (.iload_n 1, 1) := by decide +kernel
theorem dX5_sum_21 : decode cX5_sum 21 = .ok (.aaload, 1) := by decide +kernel
theorem dX5_sum_22 : decode cX5_sum 22 = .ok (.aload_n 0, 1) := by decide +kernel
theorem dX5_sum_23 : decode cX5_sum 23 = .ok (.getfield 11, 3) := by decide +kernel
theorem dX5_sum_26 : decode cX5_sum 26 = .ok (.iload_n 2, 1) := by decide +kernel
theorem dX5_sum_27 : decode cX5_sum 27 = .ok (.aaload, 1) := by decide +kernel
theorem dX5_sum_28 : decode cX5_sum 28 = .ok (.invokevirtual 111, 3) := by decide +kernel
theorem dX5_sum_31 : decode cX5_sum 31 = .ok (.aload_n 0, 1) := by decide +kernel
theorem dX5_sum_32 : decode cX5_sum 32 = .ok (.getfield 11, 3) := by decide +kernel
theorem dX5_sum_35 : decode cX5_sum 35 = .ok (.iload_n 3, 1) := by decide +kernel
theorem dX5_sum_36 : decode cX5_sum 36 = .ok (.aaload, 1) := by decide +kernel
theorem dX5_sum_37 : decode cX5_sum 37 = .ok (.aload_n 0, 1) := by decide +kernel
theorem dX5_sum_38 : decode cX5_sum 38 = .ok (.getfield 34, 3) := by decide +kernel
theorem dX5_sum_41 : decode cX5_sum 41 = .ok (.invokevirtual 115, 3) := by decide +kernel
theorem dX5_sum_44 : decode cX5_sum 44 = .ok (.aload_n 0, 1) := by decide +kernel
theorem dX5_sum_45 : decode cX5_sum 45 = .ok (.getfield 11, 3) := by decide +kernel
theorem dX5_sum_48 : decode cX5_sum 48 = .ok (.iload_n 3, 1) := by decide +kernel
theorem dX5_sum_49 : decode cX5_sum 49 = .ok (.aaload, 1) := by decide +kernel
theorem dX5_sum_50 : decode cX5_sum 50 = .ok (.invokevirtual 119, 3) := by decide +kernel
theorem dX5_sum_53 : decode cX5_sum 53 = .ok (.ireturn, 1) := by decide +kernel
set_option maxRecDepth 20000 in
theorem ggX5_product_X5_needHeld : GoodIn wsX5_product wsX5_needHeld := goodIn_ca (goodIn_r _ [8, 9, 10, 7, 11, 12, 13] (by decide +kernel) (by decide +kernel)) (goodIn_sub (fun _ h => List.mem_cons_of_mem _ (List.mem_append_right _ h)) (by decide +kernel))
set_option maxRecDepth 20000 in
theorem gX5_product_X5_needHeld : GoodIn wsX5_product (va_wsS RX5 64 yX5_needHeld wsX5_needHeld) := goodIn_app (goodIn_of _ (by decide +kernel)) ggX5_product_X5_needHeld
set_option maxRecDepth 20000 in
theorem ggX5_product_X4_fitsWith : GoodIn wsX5_product wsX4_fitsWith := goodIn_r _ [18, 19, 20, 21, 17, 22, 23, 24, 64] (by decide +kernel) (by decide +kernel)
set_option maxRecDepth 20000 in
theorem gX5_product_X4_fitsWith : GoodIn wsX5_product (wsV RX5 122 RX4 yX4_fitsWith wsX4_fitsWith) := goodIn_app (goodIn_of _ (by decide +kernel)) ggX5_product_X4_fitsWith
set_option maxRecDepth 20000 in
theorem ggX5_product_X4_becomeProduct : GoodIn wsX5_product wsX4_becomeProduct := goodIn_r _ [28, 24, 23, 29, 30, 31, 32, 33, 7, 34, 35, 64] (by decide +kernel) (by decide +kernel)
set_option maxRecDepth 20000 in
theorem gX5_product_X4_becomeProduct : GoodIn wsX5_product (wsV RX5 132 RX4 yX4_becomeProduct wsX4_becomeProduct) := goodIn_app (goodIn_of _ (by decide +kernel)) ggX5_product_X4_becomeProduct
set_option maxRecDepth 20000 in
theorem ggX5_product_X4_isWithinLimit : GoodIn wsX5_product wsX4_isWithinLimit := goodIn_r _ [39, 23, 40, 7, 41, 35, 64] (by decide +kernel) (by decide +kernel)
set_option maxRecDepth 20000 in
theorem gX5_product_X4_isWithinLimit : GoodIn wsX5_product (wsV RX5 135 RX4 yX4_isWithinLimit wsX4_isWithinLimit) := goodIn_app (goodIn_of _ (by decide +kernel)) ggX5_product_X4_isWithinLimit
set_option maxRecDepth 20000 in
theorem ggX5_product_X4_becomeCopy : GoodIn wsX5_product wsX4_becomeCopy := goodIn_r _ [45, 23, 46, 47, 48, 49, 64] (by decide +kernel) (by decide +kernel)
