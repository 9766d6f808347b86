theorem dX6_canProject_227 : decode cX6_canProject 227 = .ok (.ifCond .eq 7, 3) := by decide +kernel
theorem dX6_canProject_230 : decode cX6_canProject 230 = .ok (.iconst 1, 1) := by decide +kernel
theorem dX6_canProject_231 : decode cX6_canProject 231 = .ok (.goto 4, 3) := by decide +kernel
theorem dX6_canProject_234 : decode cX6_canProject 234 = .ok (.iconst 0, 1) := by decide +kernel
theorem dX6_canProject_235 : decode cX6_canProject 235 = .ok (.ireturn, 1) := by decide +kernel
set_option maxRecDepth 20000 in
theorem ggX6_project_X6_isOne : GoodIn wsX6_project wsX6_isOne := goodIn_r _ [6, 7, 8, 5, 9] (by decide +kernel) (by decide +kernel)
set_option maxRecDepth 20000 in
theorem gX6_project_X6_isOne : GoodIn wsX6_project (va_wsS RX6 75 yX6_isOne wsX6_isOne) := goodIn_app (goodIn_of _ (by decide +kernel)) ggX6_project_X6_isOne
set_option maxRecDepth 20000 in
theorem ggX6_project_X6_canProject : GoodIn wsX6_project wsX6_canProject := goodIn_r _ [13, 1, 14, 2, 15, 16, 17, 5, 18, 19, 20, 21, 22, 23, 24, 25, 26, 27, 28, 29, 30, 31, 32, 33, 34, 35, 36, 37, 38, 39, 7, 8, 9, 49, 50, 51, 52, 53, 54, 55, 56, 57, 58, 59, 60, 61, 62, 63, 64, 65, 66, 67] (by decide +kernel) (by decide +kernel)
set_option maxRecDepth 20000 in
theorem gX6_project_X6_canProject : GoodIn wsX6_project (wsV RX6 200 RX6 yX6_canProject wsX6_canProject) := goodIn_app (goodIn_of _ (by decide +kernel)) ggX6_project_X6_canProject
set_option maxRecDepth 20000 in
theorem ggX6_project_X6_can : GoodIn wsX6_project wsX6_can := goodIn_r _ [43, 44, 49, 50, 51, 52, 53, 54, 55, 56, 57, 58, 59, 60, 61, 62, 63, 64, 65, 66, 67] (by decide +kernel) (by decide +kernel)
set_option maxRecDepth 20000 in
theorem gX6_project_X6_can : GoodIn wsX6_project (wsV RX6 82 RX6 yX6_can wsX6_can) := goodIn_app (goodIn_of _ (by decide +kernel)) ggX6_project_X6_can
set_option maxRecDepth 20000 in
theorem ggX6_project_X6_partOf : GoodIn wsX6_project wsX6_partOf := goodIn_r _ [22, 23, 49, 50, 51, 52, 53, 54, 55, 56, 57, 58, 59, 60, 61, 62, 63, 64, 65, 66, 67] (by decide +kernel) (by decide +kernel)
set_option maxRecDepth 20000 in
theorem gX6_project_X6_partOf : GoodIn wsX6_project (wsV RX6 182 RX6 yX6_partOf wsX6_partOf) := goodIn_app (goodIn_of _ (by decide +kernel)) ggX6_project_X6_partOf
set_option maxRecDepth 20000 in
theorem ggX6_project_X6_laysFound : GoodIn wsX6_project wsX6_laysFound := goodIn_r _ [48, 23, 2, 49, 50, 51, 52, 53, 54, 55, 56, 57, 58, 59, 60, 61, 62, 63, 64, 65, 66, 67] (by decide +kernel) (by decide +kernel)
set_option maxRecDepth 20000 in
theorem gX6_project_X6_laysFound : GoodIn wsX6_project (wsV RX6 197 RX6 yX6_laysFound wsX6_laysFound) := goodIn_app (goodIn_of _ (by decide +kernel)) ggX6_project_X6_laysFound
theorem dX6_project_0 : decode cX6_project 0 = .ok (.iload_n 1, 1) := by decide +kernel
theorem dX6_project_1 : decode cX6_project 1 = .ok (.invokestatic 75, 3) := by decide +kernel
theorem dX6_project_4 : decode cX6_project 4 = .ok (.ifCond .eq 21, 3) := by decide +kernel
theorem dX6_project_7 : decode cX6_project 7 = .ok (.iload_n 2, 1) := by decide +kernel
theorem dX6_project_8 : decode cX6_project 8 = .ok (.invokestatic 75, 3) := by decide +kernel
theorem dX6_project_11 : decode cX6_project 11 = .ok (.ifCond .eq 14, 3) := by decide +kernel
theorem dX6_project_14 : decode cX6_project 14 = .ok (.iload_n 3, 1) := by decide +kernel
theorem dX6_project_15 : decode cX6_project 15 = .ok (.invokestatic 75, 3) := by decide +kernel
theorem dX6_project_18 : decode cX6_project 18 = .ok (.ifCond .eq 7, 3) := by decide +kernel
theorem dX6_project_21 : decode cX6_project 21 = .ok (.iconst 1, 1) := by decide +kernel
theorem dX6_project_22 : decode cX6_project 22 = .ok (.goto 4, 3) := by decide +kernel
theorem dX6_project_25 : decode cX6_project 25 = .ok (.iconst 0, 1) := by decide +kernel
theorem dX6_project_26 : decode cX6_project 26 = .ok (.istore 4, 2) := by decide +kernel
theorem dX6_project_28 : decode cX6_project 28 = .ok (.aload_n 0, 1) := by decide +kernel
theorem dX6_project_29 : decode cX6_project 29 = .ok (.iload 4, 2) := by decide +kernel
theorem dX6_project_31 : decode cX6_project 31 = .ok (.ifCond .ne 7, 3) := by decide +kernel
theorem dX6_project_34 : decode cX6_project 34 = .ok (.iconst 1, 1) := by decide +kernel
theorem dX6_project_35 : decode cX6_project 35 = .ok (.goto 17, 3) := by decide +kernel
theorem dX6_project_38 : decode cX6_project 38 = .ok (.aload_n 0, 1) := by decide +kernel
theorem dX6_project_39 : decode cX6_project 39 = .ok (.iload_n 1, 1) := by decide +kernel
theorem dX6_project_40 : decode cX6_project 40 = .ok (.iload_n 2, 1) := by decide +kernel
theorem dX6_project_41 : decode cX6_project 41 = .ok (.invokevirtual 200, 3) := by decide +kernel
theorem dX6_project_44 : decode cX6_project 44 = .ok (.ifCond .eq 7, 3) := by decide +kernel
theorem dX6_project_47 : decode cX6_project 47 = .ok (.iconst 0, 1) := by decide +kernel
theorem dX6_project_48 : decode cX6_project 48 = .ok (.goto 4, 3) := by decide +kernel
theorem dX6_project_51 : decode cX6_project 51 = .ok (.iconst 2, 1) := by decide +kernel
theorem dX6_project_52 : decode cX6_project 52 = .ok (.invokevirtual 82, 3) := by decide +kernel
theorem dX6_project_55 : decode cX6_project 55 = .ok (.ifCond .ne 5, 3) := by decide +kernel
theorem dX6_project_58 : decode cX6_project 58 = .ok (.iconst 0, 1) := by decide +kernel
theorem dX6_project_59 : decode cX6_project 59 = .ok (.ireturn, 1) := by decide +kernel
theorem dX6_project_60 : decode cX6_project 60 = .ok (.iconst 1, 1) := by decide +kernel
theorem dX6_project_61 : decode cX6_project 61 = .ok (.istore 5, 2) := by decide +kernel
theorem dX6_project_63 : decode cX6_project 63 = .ok (.iconst 0, 1) := by decide +kernel
theorem dX6_project_64 : decode cX6_project 64 = .ok (.istore 6, 2) := by decide +kernel
theorem dX6_project_66 : decode cX6_project 66 = .ok (.iload 6, 2) := by decide +kernel
theorem dX6_project_68 : decode cX6_project 68 = .ok (.aload_n 0, 1) := by decide +kernel
theorem dX6_project_69 : decode cX6_project 69 = .ok (.getfield 19, 3) := by decide +kernel
theorem dX6_project_72 : decode cX6_project 72 = .ok (.iload_n 1, 1) := by decide +kernel
theorem dX6_project_73 : decode cX6_project 73 = .ok (.iaload, 1) := by decide +kernel
theorem dX6_project_74 : decode cX6_project 74 = .ok (.if_icmp .ge 38, 3) := by decide +kernel
theorem dX6_project_77 : decode cX6_project 77 = .ok (.iload 5, 2) := by decide +kernel
theorem dX6_project_79 : decode cX6_project 79 = .ok (.ifCond .eq 24, 3) := by decide +kernel
theorem dX6_project_82 : decode cX6_project 82 = .ok (.aload_n 0, 1) := by decide +kernel
theorem dX6_project_83 : decode cX6_project 83 = .ok (.getfield 37, 3) := by decide +kernel
theorem dX6_project_86 : decode cX6_project 86 = .ok (.iload 6, 2) := by decide +kernel
theorem dX6_project_88 : decode cX6_project 88 = .ok (.iaload, 1) := by decide +kernel
theorem dX6_project_89 : decode cX6_project 89 = .ok (.aload_n 0, 1) := by decide +kernel
theorem dX6_project_90 : decode cX6_project 90 = .ok (.iload_n 2, 1) := by decide +kernel
theorem dX6_project_91 : decode cX6_project 91 = .ok (.iload 6, 2) := by decide +kernel
theorem dX6_project_93 : decode cX6_project 93 = .ok (.invokevirtual 182, 3) := by decide +kernel
theorem dX6_project_96 : decode cX6_project 96 = .ok (.if_icmp .ne 7, 3) := by decide +kernel
theorem dX6_project_99 : decode cX6_project 99 = .ok (.iconst 1, 1) := by decide +kernel
theorem dX6_project_100 : decode cX6_project 100 = .ok (.goto 4, 3) := by decide +kernel
theorem dX6_project_103 : decode cX6_project 103 = .ok (.iconst 0, 1) := by decide +kernel
theorem dX6_project_104 : decode cX6_project 104 = .ok (.istore 5, 2) := by decide +kernel
theorem dX6_project_106 : decode cX6_project 106 = .ok (.iinc 6 1, 3) := by decide +kernel
theorem dX6_project_109 : decode cX6_project 109 = .ok (.goto (-43), 3) := by decide +kernel
theorem dX6_project_112 : decode cX6_project 112 = .ok (.aload_n 0, 1) := by decide +kernel
theorem dX6_project_113 : decode cX6_project 113 = .ok (.iload_n 3, 1) := by decide +kernel
theorem dX6_project_114 : decode cX6_project 114 = .ok (.aload_n 0, 1) := by decide +kernel
theorem dX6_project_115 : decode cX6_project 115 = .ok (.getfield 19, 3) := by decide +kernel
theorem dX6_project_118 : decode cX6_project 118 = .ok (.iload_n 1, 1) := by decide +kernel
theorem dX6_project_119 : decode cX6_project 119 = .ok (.iaload, 1) := by decide +kernel
theorem dX6_project_120 : decode cX6_project 120 = .ok (.invokevirtual 197, 3) := by decide +kernel
theorem dX6_project_123 : decode cX6_project 123 = .ok (.iload 5, 2) := by decide +kernel
theorem dX6_project_125 : decode cX6_project 125 = .ok (.ireturn, 1) := by decide +kernel
set_option maxRecDepth 20000 in
theorem ggX6_areDistances_X6_in : GoodIn wsX6_areDistances wsX6_in := goodIn_r _ [7, 8, 9, 10, 11, 12, 13, 14, 15, 16, 17, 18, 19, 20, 21, 22, 23, 24, 25, 26, 27] (by decide +kernel) (by decide +kernel)
set_option maxRecDepth 20000 in
theorem gX6_areDistances_X6_in : GoodIn wsX6_areDistances (wsV RX6 133 RX6 yX6_in wsX6_in) := goodIn_app (goodIn_of _ (by decide +kernel)) ggX6_areDistances_X6_in
theorem dX6_areDistances_0 : decode cX6_areDistances 0 = .ok (.aload_n 0, 1) := by decide +kernel
theorem dX6_areDistances_1 : decode cX6_areDistances 1 = .ok (.getfield 19, 3) := by decide +kernel
theorem dX6_areDistances_4 : decode cX6_areDistances 4 = .ok (.iload_n 1, 1) := by decide +kernel
theorem dX6_areDistances_5 : decode cX6_areDistances 5 = .ok (.iaload, 1) := by decide +kernel
theorem dX6_areDistances_6 : decode cX6_areDistances 6 = .ok (.istore_n 2, 1) := by decide +kernel
theorem dX6_areDistances_7 : decode cX6_areDistances 7 = .ok (.iconst 1, 1) := by decide +kernel
theorem dX6_areDistances_8 : decode cX6_areDistances 8 = .ok (.istore_n 3, 1) := by decide +kernel
theorem dX6_areDistances_9 : decode cX6_areDistances 9 = .ok (.iconst 0, 1) := by decide +kernel
theorem dX6_areDistances_10 : decode cX6_areDistances 10 = .ok (.istore 4, 2) := by decide +kernel
theorem dX6_areDistances_12 : decode cX6_areDistances 12 = .ok (.iload 4, 2) := by decide +kernel
theorem dX6_areDistances_14 : decode cX6_areDistances 14 = .ok (.iload_n 2, 1) := by decide +kernel
theorem dX6_areDistances_15 : decode cX6_areDistances 15 = .ok (.iload_n 2, 1) := by decide +kernel
theorem dX6_areDistances_16 : decode cX6_areDistances 16 = .ok (.imul, 1) := by decide +kernel
theorem dX6_areDistances_17 : decode cX6_areDistances 17 = .ok (.if_icmp .ge 75, 3) := by decide +kernel
theorem dX6_areDistances_20 : decode cX6_areDistances 20 = .ok (.aload_n 0, 1) := by decide +kernel
theorem dX6_areDistances_21 : decode cX6_areDistances 21 = .ok (.iload_n 1, 1) := by decide +kernel
theorem dX6_areDistances_22 : decode cX6_areDistances 22 = .ok (.iload 4, 2) := by decide +kernel
theorem dX6_areDistances_24 : decode cX6_areDistances 24 = .ok (.iload_n 2, 1) := by decide +kernel
theorem dX6_areDistances_25 : decode cX6_areDistances 25 = .ok (.idiv, 1) := by decide +kernel
theorem dX6_areDistances_26 : decode cX6_areDistances 26 = .ok (.iload 4, 2) := by decide +kernel
theorem dX6_areDistances_28 : decode cX6_areDistances 28 = .ok (.iload_n 2, 1) := by decide +kernel
theorem dX6_areDistances_29 : decode cX6_areDistances 29 = .ok (.irem, 1) := by decide +kernel
theorem dX6_areDistances_30 : decode cX6_areDistances 30 = .ok (.invokevirtual 133, 3) := by decide +kernel
theorem dX6_areDistances_33 : decode cX6_areDistances 33 = .ok (.istore 5, 2) := by decide +kernel
theorem dX6_areDistances_35 : decode cX6_areDistances 35 = .ok (.iload_n 3, 1) := by decide +kernel
theorem dX6_areDistances_36 : decode cX6_areDistances 36 = .ok (.ifCond .eq 48, 3) := by decide +kernel
theorem dX6_areDistances_39 : decode cX6_areDistances 39 = .ok (.iload 5, 2) := by decide +kernel
theorem dX6_areDistances_41 : decode cX6_areDistances 41 = .ok (.ldc 62, 2) := by decide +kernel
theorem dX6_areDistances_43 : decode cX6_areDistances 43 = .ok (.if_icmp .eq 41, 3) := by decide +kernel
theorem dX6_areDistances_46 : decode cX6_areDistances 46 = .ok (.iload 5, 2) := by decide +kernel
theorem dX6_areDistances_48 : decode cX6_areDistances 48 = .ok (.aload_n 0, 1) := by decide +kernel
theorem dX6_areDistances_49 : decode cX6_areDistances 49 = .ok (.iload_n 1, 1) := by decide +kernel
theorem dX6_areDistances_50 : decode cX6_areDistances 50 = .ok (.iload 4, 2) := by decide +kernel
theorem dX6_areDistances_52 : decode cX6_areDistances 52 = .ok (.iload_n 2, 1) := by decide +kernel
theorem dX6_areDistances_53 : decode cX6_areDistances 53 = .ok (.irem, 1) := by decide +kernel
theorem dX6_areDistances_54 : decode cX6_areDistances 54 = .ok (.iload 4, 2) := by decide +kernel
theorem dX6_areDistances_56 : decode cX6_areDistances 56 = .ok (.iload_n 2, 1) := by decide +kernel
theorem dX6_areDistances_57 : decode cX6_areDistances 57 = .ok (.idiv, 1) := by decide +kernel
theorem dX6_areDistances_58 : decode cX6_areDistances 58 = .ok (.invokevirtual 133, 3) := by decide +kernel
theorem dX6_areDistances_61 : decode cX6_areDistances 61 = .ok (.if_icmp .ne 23, 3) := by decide +kernel
theorem dX6_areDistances_64 : decode cX6_areDistances 64 = .ok (.iload 4, 2) := by decide +kernel
theorem dX6_areDistances_66 : decode cX6_areDistances 66 = .ok (.iload_n 2, 1) := by decide +kernel
theorem dX6_areDistances_67 : decode cX6_areDistances 67 = .ok (.idiv, 1) := by decide +kernel
theorem dX6_areDistances_68 : decode cX6_areDistances 68 = .ok (.iload 4, 2) := by decide +kernel
theorem dX6_areDistances_70 : decode cX6_areDistances 70 = .ok (.iload_n 2, 1) := by decide +kernel
theorem dX6_areDistances_71 : decode cX6_areDistances 71 = .ok (.irem, 1) := by decide +kernel
theorem dX6_areDistances_72 : decode cX6_areDistances 72 = .ok (.if_icmp .ne 8, 3) := by decide +kernel
theorem dX6_areDistances_75 : decode cX6_areDistances 75 = .ok (.iload 5, 2) := by decide +kernel
theorem dX6_areDistances_77 : decode cX6_areDistances 77 = .ok (.ifCond .ne 7, 3) := by decide +kernel
theorem dX6_areDistances_80 : decode cX6_areDistances 80 = .ok (.iconst 1, 1) := by decide +kernel
theorem dX6_areDistances_81 : decode cX6_areDistances 81 = .ok (.goto 4, 3) := by decide +kernel
theorem dX6_areDistances_84 : decode cX6_areDistances 84 = .ok (.iconst 0, 1) := by decide +kernel
theorem dX6_areDistances_85 : decode cX6_areDistances 85 = .ok (.istore_n 3, 1) := by decide +kernel
theorem dX6_areDistances_86 : decode cX6_areDistances 86 = .ok (.iinc 4 1, 3) := by decide +kernel
theorem dX6_areDistances_89 : decode cX6_areDistances 89 = .ok (.goto (-77), 3) := by decide +kernel
theorem dX6_areDistances_92 : decode cX6_areDistances 92 = .ok (.iload_n 3, 1) := by decide +kernel
theorem dX6_areDistances_93 : decode cX6_areDistances 93 = .ok (.ireturn, 1) := by decide +kernel
theorem dX6_isTwice_0 : decode cX6_isTwice 0 = .ok (.iload_n 0, 1) := by decide +kernel
theorem dX6_isTwice_1 : decode cX6_isTwice 1 = .ok (.iload_n 1, 1) := by decide +kernel
theorem dX6_isTwice_2 : decode cX6_isTwice 2 = .ok (.if_icmp .ne 8, 3) := by decide +kernel
theorem dX6_isTwice_5 : decode cX6_isTwice 5 = .ok (.iload_n 2, 1) := by decide +kernel
theorem dX6_isTwice_6 : decode cX6_isTwice 6 = .ok (.iload_n 0, 1) := by decide +kernel
theorem dX6_isTwice_7 : decode cX6_isTwice 7 = .ok (.if_icmp .le 23, 3) := by decide +kernel
theorem dX6_isTwice_10 : decode cX6_isTwice 10 = .ok (.iload_n 0, 1) := by decide +kernel
theorem dX6_isTwice_11 : decode cX6_isTwice 11 = .ok (.iload_n 2, 1) := by decide +kernel
theorem dX6_isTwice_12 : decode cX6_isTwice 12 = .ok (.if_icmp .ne 8, 3) := by decide +kernel
theorem dX6_isTwice_15 : decode cX6_isTwice 15 = .ok (.iload_n 1, 1) := by decide +kernel
theorem dX6_isTwice_16 : decode cX6_isTwice 16 = .ok (.iload_n 0, 1) := by decide +kernel
theorem dX6_isTwice_17 : decode cX6_isTwice 17 = .ok (.if_icmp .le 13, 3) := by decide +kernel
theorem dX6_isTwice_20 : decode cX6_isTwice 20 = .ok (.iload_n 1, 1) := by decide +kernel
theorem dX6_isTwice_21 : decode cX6_isTwice 21 = .ok (.iload_n 2, 1) := by decide +kernel
theorem dX6_isTwice_22 : decode cX6_isTwice 22 = .ok (.if_icmp .ne 12, 3) := by decide +kernel
theorem dX6_isTwice_25 : decode cX6_isTwice 25 = .ok (.iload_n 0, 1) := by decide +kernel
theorem dX6_isTwice_26 : decode cX6_isTwice 26 = .ok (.iload_n 1, 1) := by decide +kernel
theorem dX6_isTwice_27 : decode cX6_isTwice 27 = .ok (.if_icmp .gt 7, 3) := by decide +kernel
theorem dX6_isTwice_30 : decode cX6_isTwice 30 = .ok (.iconst 1, 1) := by decide +kernel
theorem dX6_isTwice_31 : decode cX6_isTwice 31 = .ok (.goto 4, 3) := by decide +kernel
theorem dX6_isTwice_34 : decode cX6_isTwice 34 = .ok (.iconst 0, 1) := by decide +kernel
theorem dX6_isTwice_35 : decode cX6_isTwice 35 = .ok (.ireturn, 1) := by decide +kernel
set_option maxRecDepth 20000 in
theorem ggX6_isTree_X6_in : GoodIn wsX6_isTree wsX6_in := goodIn_r _ [6, 7, 11, 12, 13, 14, 15, 16, 17, 18, 19, 20, 21, 22, 23, 24, 25, 26, 27, 28, 29] (by decide +kernel) (by decide +kernel)
set_option maxRecDepth 20000 in
theorem gX6_isTree_X6_in : GoodIn wsX6_isTree (wsV RX6 133 RX6 yX6_in wsX6_in) := goodIn_app (goodIn_of _ (by decide +kernel)) ggX6_isTree_X6_in
set_option maxRecDepth 20000 in
theorem ggX6_isTree_X6_isTwice : GoodIn wsX6_isTree wsX6_isTwice := goodIn_r _ [10] (by decide +kernel) (by decide +kernel)
set_option maxRecDepth 20000 in
theorem gX6_isTree_X6_isTwice : GoodIn wsX6_isTree (va_wsS RX6 203 yX6_isTwice wsX6_isTwice) := goodIn_app (goodIn_of _ (by decide +kernel)) ggX6_isTree_X6_isTwice
theorem dX6_isTree_0 : decode cX6_isTree 0 = .ok (.aload_n 0, 1) := by decide +kernel
theorem dX6_isTree_1 : decode cX6_isTree 1 = .ok (.getfield 19, 3) := by decide +kernel
theorem dX6_isTree_4 : decode cX6_isTree 4 = .ok (.iload_n 1, 1) := by decide +kernel
theorem dX6_isTree_5 : decode cX6_isTree 5 = .ok (.iaload, 1) := by decide +kernel
theorem dX6_isTree_6 : decode cX6_isTree 6 = .ok (.istore_n 2, 1) := by decide +kernel
theorem dX6_isTree_7 : decode cX6_isTree 7 = .ok (.iconst 1, 1) := by decide +kernel
theorem dX6_isTree_8 : decode cX6_isTree 8 = .ok (.istore_n 3, 1) := by decide +kernel
theorem dX6_isTree_9 : decode cX6_isTree 9 = .ok (.iconst 0, 1) := by decide +kernel
theorem dX6_isTree_10 : decode cX6_isTree 10 = .ok (.istore 4, 2) := by decide +kernel
theorem dX6_isTree_12 : decode cX6_isTree 12 = .ok (.iload 4, 2) := by decide +kernel
theorem dX6_isTree_14 : decode cX6_isTree 14 = .ok (.iload_n 2, 1) := by decide +kernel
theorem dX6_isTree_15 : decode cX6_isTree 15 = .ok (.iload_n 2, 1) := by decide +kernel
theorem dX6_isTree_16 : decode cX6_isTree 16 = .ok (.imul, 1) := by decide +kernel
theorem dX6_isTree_17 : decode cX6_isTree 17 = .ok (.iload_n 2, 1) := by decide +kernel
theorem dX6_isTree_18 : decode cX6_isTree 18 = .ok (.imul, 1) := by decide +kernel
theorem dX6_isTree_19 : decode cX6_isTree 19 = .ok (.iload_n 2, 1) := by decide +kernel
theorem dX6_isTree_20 : decode cX6_isTree 20 = .ok (.imul, 1) := by decide +kernel
theorem dX6_isTree_21 : decode cX6_isTree 21 = .ok (.if_icmp .ge 108, 3) := by decide +kernel
theorem dX6_isTree_24 : decode cX6_isTree 24 = .ok (.iload_n 3, 1) := by decide +kernel
theorem dX6_isTree_25 : decode cX6_isTree 25 = .ok (.ifCond .eq 104, 3) := by decide +kernel
theorem dX6_isTree_28 : decode cX6_isTree 28 = .ok (.iload 4, 2) := by decide +kernel
theorem dX6_isTree_30 : decode cX6_isTree 30 = .ok (.iload_n 2, 1) := by decide +kernel
theorem dX6_isTree_31 : decode cX6_isTree 31 = .ok (.irem, 1) := by decide +kernel
theorem dX6_isTree_32 : decode cX6_isTree 32 = .ok (.istore 5, 2) := by decide +kernel
theorem dX6_isTree_34 : decode cX6_isTree 34 = .ok (.iload 4, 2) := by decide +kernel
theorem dX6_isTree_36 : decode cX6_isTree 36 = .ok (.iload_n 2, 1) := by decide +kernel
theorem dX6_isTree_37 : decode cX6_isTree 37 = .ok (.idiv, 1) := by decide +kernel
theorem dX6_isTree_38 : decode cX6_isTree 38 = .ok (.iload_n 2, 1) := by decide +kernel
theorem dX6_isTree_39 : decode cX6_isTree 39 = .ok (.irem, 1) := by decide +kernel
theorem dX6_isTree_40 : decode cX6_isTree 40 = .ok (.istore 6, 2) := by decide +kernel
theorem dX6_isTree_42 : decode cX6_isTree 42 = .ok (.iload 4, 2) := by decide +kernel
theorem dX6_isTree_44 : decode cX6_isTree 44 = .ok (.iload_n 2, 1) := by decide +kernel
theorem dX6_isTree_45 : decode cX6_isTree 45 = .ok (.idiv, 1) := by decide +kernel
theorem dX6_isTree_46 : decode cX6_isTree 46 = .ok (.iload_n 2, 1) := by decide +kernel
theorem dX6_isTree_47 : decode cX6_isTree 47 = .ok (.idiv, 1) := by decide +kernel
theorem dX6_isTree_48 : decode cX6_isTree 48 = .ok (.iload_n 2, 1) := by decide +kernel
theorem dX6_isTree_49 : decode cX6_isTree 49 = .ok (.irem, 1) := by decide +kernel
theorem dX6_isTree_50 : decode cX6_isTree 50 = .ok (.istore 7, 2) := by decide +kernel
theorem dX6_isTree_52 : decode cX6_isTree 52 = .ok (.iload 4, 2) := by decide +kernel
theorem dX6_isTree_54 : decode cX6_isTree 54 = .ok (.iload_n 2, 1) := by decide +kernel
theorem dX6_isTree_55 : decode cX6_isTree 55 = .ok (.idiv, 1) := by decide +kernel
theorem dX6_isTree_56 : decode cX6_isTree 56 = .ok (.iload_n 2, 1) := by decide +kernel
theorem dX6_isTree_57 : decode cX6_isTree 57 = .ok (.idiv, 1) := by decide +kernel
theorem dX6_isTree_58 : decode cX6_isTree 58 = .ok (.iload_n 2, 1) := by decide +kernel
theorem dX6_isTree_59 : decode cX6_isTree 59 = .ok (.idiv, 1) := by decide +kernel
theorem dX6_isTree_60 : decode cX6_isTree 60 = .ok (.istore 8, 2) := by decide +kernel
theorem dX6_isTree_62 : decode cX6_isTree 62 = .ok (.aload_n 0, 1) := by decide +kernel
theorem dX6_isTree_63 : decode cX6_isTree 63 = .ok (.iload_n 1, 1) := by decide +kernel
theorem dX6_isTree_64 : decode cX6_isTree 64 = .ok (.iload 5, 2) := by decide +kernel
theorem dX6_isTree_66 : decode cX6_isTree 66 = .ok (.iload 6, 2) := by decide +kernel
theorem dX6_isTree_68 : decode cX6_isTree 68 = .ok (.invokevirtual 133, 3) := by decide +kernel
theorem dX6_isTree_71 : decode cX6_isTree 71 = .ok (.aload_n 0, 1) := by decide +kernel
theorem dX6_isTree_72 : decode cX6_isTree 72 = .ok (.iload_n 1, 1) := by decide +kernel
theorem dX6_isTree_73 : decode cX6_isTree 73 = .ok (.iload 7, 2) := by decide +kernel
theorem dX6_isTree_75 : decode cX6_isTree 75 = .ok (.iload 8, 2) := by decide +kernel
theorem dX6_isTree_77 : decode cX6_isTree 77 = .ok (.invokevirtual 133, 3) := by decide +kernel
theorem dX6_isTree_80 : decode cX6_isTree 80 = .ok (.iadd, 1) := by decide +kernel
theorem dX6_isTree_81 : decode cX6_isTree 81 = .ok (.aload_n 0, 1) := by decide +kernel
theorem dX6_isTree_82 : decode cX6_isTree 82 = .ok (.iload_n 1, 1) := by decide +kernel
theorem dX6_isTree_83 : decode cX6_isTree 83 = .ok (.iload 5, 2) := by decide +kernel
theorem dX6_isTree_85 : decode cX6_isTree 85 = .ok (.iload 7, 2) := by decide +kernel
theorem dX6_isTree_87 : decode cX6_isTree 87 = .ok (.invokevirtual 133, 3) := by decide +kernel
theorem dX6_isTree_90 : decode cX6_isTree 90 = .ok (.aload_n 0, 1) := by decide +kernel
theorem dX6_isTree_91 : decode cX6_isTree 91 = .ok (.iload_n 1, 1) := by decide +kernel
theorem dX6_isTree_92 : decode cX6_isTree 92 = .ok (.iload 6, 2) := by decide +kernel
theorem dX6_isTree_94 : decode cX6_isTree 94 = .ok (.iload 8, 2) := by decide +kernel
theorem dX6_isTree_96 : decode cX6_isTree 96 = .ok (.invokevirtual 133, 3) := by decide +kernel
theorem dX6_isTree_99 : decode cX6_isTree 99 = .ok (.iadd, 1) := by decide +kernel
theorem dX6_isTree_100 : decode cX6_isTree 100 = .ok (.aload_n 0, 1) := by decide +kernel
theorem dX6_isTree_101 : decode cX6_isTree 101 = .ok (.iload_n 1, 1) := by decide +kernel
theorem dX6_isTree_102 : decode cX6_isTree 102 = .ok (.iload 5, 2) := by decide +kernel
theorem dX6_isTree_104 : decode cX6_isTree 104 = .ok (.iload 8, 2) := by decide +kernel
theorem dX6_isTree_106 : decode cX6_isTree 106 = .ok (.invokevirtual 133, 3) := by decide +kernel
theorem dX6_isTree_109 : decode cX6_isTree 109 = .ok (.aload_n 0, 1) := by decide +kernel
theorem dX6_isTree_110 : decode cX6_isTree 110 = .ok (.iload_n 1, 1) := by decide +kernel
theorem dX6_isTree_111 : decode cX6_isTree 111 = .ok (.iload 6, 2) := by decide +kernel
theorem dX6_isTree_113 : decode cX6_isTree 113 = .ok (.iload 7, 2) := by decide +kernel
theorem dX6_isTree_115 : decode cX6_isTree 115 = .ok (.invokevirtual 133, 3) := by decide +kernel
theorem dX6_isTree_118 : decode cX6_isTree 118 = .ok (.iadd, 1) := by decide +kernel
theorem dX6_isTree_119 : decode cX6_isTree 119 = .ok (.invokestatic 203, 3) := by decide +kernel
theorem dX6_isTree_122 : decode cX6_isTree 122 = .ok (.istore_n 3, 1) := by decide +kernel
theorem dX6_isTree_123 : decode cX6_isTree 123 = .ok (.iinc 4 1, 3) := by decide +kernel
theorem dX6_isTree_126 : decode cX6_isTree 126 = .ok (.goto (-114), 3) := by decide +kernel
theorem dX6_isTree_129 : decode cX6_isTree 129 = .ok (.iload_n 3, 1) := by decide +kernel
theorem dX6_isTree_130 : decode cX6_isTree 130 = .ok (.ireturn, 1) := by decide +kernel
set_option maxRecDepth 20000 in
theorem ggX6_tree_X6_isOne : GoodIn wsX6_tree wsX6_isOne := goodIn_r _ [4, 5, 6, 3, 7] (by decide +kernel) (by decide +kernel)
set_option maxRecDepth 20000 in
theorem gX6_tree_X6_isOne : GoodIn wsX6_tree (va_wsS RX6 75 yX6_isOne wsX6_isOne) := goodIn_app (goodIn_of _ (by decide +kernel)) ggX6_tree_X6_isOne
set_option maxRecDepth 20000 in
theorem ggX6_tree_X6_can : GoodIn wsX6_tree wsX6_can := goodIn_r _ [11, 12, 31, 32, 33, 34, 35, 36, 37, 38, 39, 40, 41, 42, 43, 44, 45, 46, 47, 48, 49] (by decide +kernel) (by decide +kernel)
set_option maxRecDepth 20000 in
theorem gX6_tree_X6_can : GoodIn wsX6_tree (wsV RX6 82 RX6 yX6_can wsX6_can) := goodIn_app (goodIn_of _ (by decide +kernel)) ggX6_tree_X6_can
set_option maxRecDepth 20000 in
theorem ggX6_tree_X6_areDistances : GoodIn wsX6_tree wsX6_areDistances := goodIn_r _ [16, 17, 18, 19, 20, 21, 3, 22, 23, 31, 32, 33, 34, 35, 36, 37, 38, 39, 40, 41, 42, 43, 44, 45, 46, 47, 48, 49] (by decide +kernel) (by decide +kernel)
set_option maxRecDepth 20000 in
theorem gX6_tree_X6_areDistances : GoodIn wsX6_tree (wsV RX6 206 RX6 yX6_areDistances wsX6_areDistances) := goodIn_app (goodIn_of _ (by decide +kernel)) ggX6_tree_X6_areDistances
set_option maxRecDepth 20000 in
theorem ggX6_tree_X6_isTree : GoodIn wsX6_tree wsX6_isTree := goodIn_r _ [27, 17, 19, 20, 21, 3, 22, 23, 28, 29, 30, 31, 32, 33, 34, 35, 36, 37, 38, 39, 40, 41, 42, 43, 44, 45, 46, 47, 48, 49] (by decide +kernel) (by decide +kernel)
set_option maxRecDepth 20000 in
theorem gX6_tree_X6_isTree : GoodIn wsX6_tree (wsV RX6 209 RX6 yX6_isTree wsX6_isTree) := goodIn_app (goodIn_of _ (by decide +kernel)) ggX6_tree_X6_isTree
theorem dX6_tree_0 : decode cX6_tree 0 = .ok (.aload_n 0, 1) := by decide +kernel
theorem dX6_tree_1 : decode cX6_tree 1 = .ok (.iload_n 1, 1) := by decide +kernel
theorem dX6_tree_2 : decode cX6_tree 2 = .ok (.invokestatic 75, 3) := by decide +kernel
theorem dX6_tree_5 : decode cX6_tree 5 = .ok (.ifCond .eq 7, 3) := by decide +kernel
theorem dX6_tree_8 : decode cX6_tree 8 = .ok (.iconst 0, 1) := by decide +kernel
theorem dX6_tree_9 : decode cX6_tree 9 = .ok (.goto 4, 3) := by decide +kernel
theorem dX6_tree_12 : decode cX6_tree 12 = .ok (.iconst 1, 1) := by decide +kernel
theorem dX6_tree_13 : decode cX6_tree 13 = .ok (.invokevirtual 82, 3) := by decide +kernel
theorem dX6_tree_16 : decode cX6_tree 16 = .ok (.ifCond .ne 5, 3) := by decide +kernel
theorem dX6_tree_19 : decode cX6_tree 19 = .ok (.iconst 0, 1) := by decide +kernel
theorem dX6_tree_20 : decode cX6_tree 20 = .ok (.ireturn, 1) := by decide +kernel
theorem dX6_tree_21 : decode cX6_tree 21 = .ok (.aload_n 0, 1) := by decide +kernel
theorem dX6_tree_22 : decode cX6_tree 22 = .ok (.iload_n 1, 1) := by decide +kernel
theorem dX6_tree_23 : decode cX6_tree 23 = .ok (.invokevirtual 206, 3) := by decide +kernel
theorem dX6_tree_26 : decode cX6_tree 26 = .ok (.ifCond .ne 7, 3) := by decide +kernel
theorem dX6_tree_29 : decode cX6_tree 29 = .ok (.iconst 0, 1) := by decide +kernel
theorem dX6_tree_30 : decode cX6_tree 30 = .ok (.goto 16, 3) := by decide +kernel
theorem dX6_tree_33 : decode cX6_tree 33 = .ok (.aload_n 0, 1) := by decide +kernel
theorem dX6_tree_34 : decode cX6_tree 34 = .ok (.iload_n 1, 1) := by decide +kernel
theorem dX6_tree_35 : decode cX6_tree 35 = .ok (.invokevirtual 209, 3) := by decide +kernel
theorem dX6_tree_38 : decode cX6_tree 38 = .ok (.ifCond .eq 7, 3) := by decide +kernel
theorem dX6_tree_41 : decode cX6_tree 41 = .ok (.iconst 2, 1) := by decide +kernel
theorem dX6_tree_42 : decode cX6_tree 42 = .ok (.goto 4, 3) := by decide +kernel
theorem dX6_tree_45 : decode cX6_tree 45 = .ok (.iconst 1, 1) := by decide +kernel
theorem dX6_tree_46 : decode cX6_tree 46 = .ok (.ireturn, 1) := by decide +kernel
set_option maxRecDepth 20000 in
theorem ggX6_isVertex_X6_isIn : GoodIn wsX6_isVertex wsX6_isIn := goodIn_r _ [4] (by decide +kernel) (by decide +kernel)
set_option maxRecDepth 20000 in
theorem gX6_isVertex_X6_isIn : GoodIn wsX6_isVertex (va_wsS RX6 67 yX6_isIn wsX6_isIn) := goodIn_app (goodIn_of _ (by decide +kernel)) ggX6_isVertex_X6_isIn
theorem dX6_isVertex_0 : decode cX6_isVertex 0 = .ok (.iload_n 0, 1) := by decide +kernel
theorem dX6_isVertex_1 : decode cX6_isVertex 1 = .ok (.iconst 0, 1) := by decide +kernel
theorem dX6_isVertex_2 : decode cX6_isVertex 2 = .ok (.iconst 4, 1) := by decide +kernel
theorem dX6_isVertex_3 : decode cX6_isVertex 3 = .ok (.invokestatic 67, 3) := by decide +kernel
theorem dX6_isVertex_6 : decode cX6_isVertex 6 = .ok (.ireturn, 1) := by decide +kernel
theorem dX6_edgesOf_0 : decode cX6_edgesOf 0 = .ok (.iconst 0, 1) := by decide +kernel
theorem dX6_edgesOf_1 : decode cX6_edgesOf 1 = .ok (.istore_n 2, 1) := by decide +kernel
theorem dX6_edgesOf_2 : decode cX6_edgesOf 2 = .ok (.iconst 0, 1) := by decide +kernel
theorem dX6_edgesOf_3 : decode cX6_edgesOf 3 = .ok (.istore_n 3, 1) := by decide +kernel
theorem dX6_edgesOf_4 : decode cX6_edgesOf 4 = .ok (.iload_n 3, 1) := by decide +kernel
theorem dX6_edgesOf_5 : decode cX6_edgesOf 5 = .ok (.iconst 5, 1) := by decide +kernel
theorem dX6_edgesOf_6 : decode cX6_edgesOf 6 = .ok (.if_icmp .ge 22, 3) := by decide +kernel
theorem dX6_edgesOf_9 : decode cX6_edgesOf 9 = .ok (.iload_n 2, 1) := by decide +kernel
theorem dX6_edgesOf_10 : decode cX6_edgesOf 10 = .ok (.aload_n 0, 1) := by decide +kernel
theorem dX6_edgesOf_11 : decode cX6_edgesOf 11 = .ok (.getfield 46, 3) := by decide +kernel
theorem dX6_edgesOf_14 : decode cX6_edgesOf 14 = .ok (.iconst 5, 1) := by decide +kernel
theorem dX6_edgesOf_15 : decode cX6_edgesOf 15 = .ok (.iload_n 1, 1) := by decide +kernel
theorem dX6_edgesOf_16 : decode cX6_edgesOf 16 = .ok (.imul, 1) := by decide +kernel
theorem dX6_edgesOf_17 : decode cX6_edgesOf 17 = .ok (.iload_n 3, 1) := by decide +kernel
theorem dX6_edgesOf_18 : decode cX6_edgesOf 18 = .ok (.iadd, 1) := by decide +kernel
theorem dX6_edgesOf_19 : decode cX6_edgesOf 19 = .ok (.iaload, 1) := by decide +kernel
theorem dX6_edgesOf_20 : decode cX6_edgesOf 20 = .ok (.iadd, 1) := by decide +kernel
theorem dX6_edgesOf_21 : decode cX6_edgesOf 21 = .ok (.istore_n 2, 1) := by decide +kernel
theorem dX6_edgesOf_22 : decode cX6_edgesOf 22 = .ok (.iinc 3 1, 3) := by decide +kernel
theorem dX6_edgesOf_25 : decode cX6_edgesOf 25 = .ok (.goto (-21), 3) := by decide +kernel
theorem dX6_edgesOf_28 : decode cX6_edgesOf 28 = .ok (.iload_n 2, 1) := by decide +kernel
theorem dX6_edgesOf_29 : decode cX6_edgesOf 29 = .ok (.ireturn, 1) := by decide +kernel
set_option maxRecDepth 20000 in
theorem ggX6_isOf_X6_edgesOf : GoodIn wsX6_isOf wsX6_edgesOf := goodIn_r _ [5, 6, 7, 8, 9, 10, 11, 12, 13, 14, 15, 16, 17, 18, 19, 20, 21, 22, 23, 24, 25] (by decide +kernel) (by decide +kernel)
set_option maxRecDepth 20000 in
theorem gX6_isOf_X6_edgesOf : GoodIn wsX6_isOf (wsV RX6 212 RX6 yX6_edgesOf wsX6_edgesOf) := goodIn_app (goodIn_of _ (by decide +kernel)) ggX6_isOf_X6_edgesOf
theorem dX6_isOf_0 : decode cX6_isOf 0 = .ok (.iload_n 1, 1) := by decide +kernel
theorem dX6_isOf_1 : decode cX6_isOf 1 = .ok (.ifCond .eq 11, 3) := by decide +kernel
theorem dX6_isOf_4 : decode cX6_isOf 4 = .ok (.aload_n 0, 1) := by decide +kernel
theorem dX6_isOf_5 : decode cX6_isOf 5 = .ok (.iload_n 1, 1) := by decide +kernel
theorem dX6_isOf_6 : decode cX6_isOf 6 = .ok (.invokevirtual 212, 3) := by decide +kernel
theorem dX6_isOf_9 : decode cX6_isOf 9 = .ok (.ifCond .le 7, 3) := by decide +kernel
theorem dX6_isOf_12 : decode cX6_isOf 12 = .ok (.iconst 1, 1) := by decide +kernel
theorem dX6_isOf_13 : decode cX6_isOf 13 = .ok (.goto 4, 3) := by decide +kernel
theorem dX6_isOf_16 : decode cX6_isOf 16 = .ok (.iconst 0, 1) := by decide +kernel
theorem dX6_isOf_17 : decode cX6_isOf 17 = .ok (.ireturn, 1) := by decide +kernel
set_option maxRecDepth 20000 in
theorem ggX6_edges_X6_isVertex : GoodIn wsX6_edges wsX6_isVertex := goodIn_r _ [5, 6, 7, 4, 8] (by decide +kernel) (by decide +kernel)
set_option maxRecDepth 20000 in
theorem gX6_edges_X6_isVertex : GoodIn wsX6_edges (va_wsS RX6 215 yX6_isVertex wsX6_isVertex) := goodIn_app (goodIn_of _ (by decide +kernel)) ggX6_edges_X6_isVertex
set_option maxRecDepth 20000 in
theorem ggX6_edges_X6_isIn : GoodIn wsX6_edges wsX6_isIn := goodIn_r _ [8] (by decide +kernel) (by decide +kernel)
set_option maxRecDepth 20000 in
theorem gX6_edges_X6_isIn : GoodIn wsX6_edges (va_wsS RX6 67 yX6_isIn wsX6_isIn) := goodIn_app (goodIn_of _ (by decide +kernel)) ggX6_edges_X6_isIn
set_option maxRecDepth 20000 in
theorem ggX6_edges_X6_can : GoodIn wsX6_edges wsX6_can := goodIn_r _ [12, 13, 14, 15, 16, 17, 18, 19, 20, 21, 22, 23, 24, 25, 26, 27, 28, 29, 30, 31, 32] (by decide +kernel) (by decide +kernel)
set_option maxRecDepth 20000 in
theorem gX6_edges_X6_can : GoodIn wsX6_edges (wsV RX6 82 RX6 yX6_can wsX6_can) := goodIn_app (goodIn_of _ (by decide +kernel)) ggX6_edges_X6_can
theorem dX6_edges_0 : decode cX6_edges 0 = .ok (.iload_n 1, 1) := by decide +kernel
theorem dX6_edges_1 : decode cX6_edges 1 = .ok (.invokestatic 215, 3) := by decide +kernel
theorem dX6_edges_4 : decode cX6_edges 4 = .ok (.ifCond .eq 14, 3) := by decide +kernel
theorem dX6_edges_7 : decode cX6_edges 7 = .ok (.iload_n 2, 1) := by decide +kernel
theorem dX6_edges_8 : decode cX6_edges 8 = .ok (.invokestatic 215, 3) := by decide +kernel
theorem dX6_edges_11 : decode cX6_edges 11 = .ok (.ifCond .eq 7, 3) := by decide +kernel
theorem dX6_edges_14 : decode cX6_edges 14 = .ok (.iconst 1, 1) := by decide +kernel
theorem dX6_edges_15 : decode cX6_edges 15 = .ok (.goto 4, 3) := by decide +kernel
theorem dX6_edges_18 : decode cX6_edges 18 = .ok (.iconst 0, 1) := by decide +kernel
theorem dX6_edges_19 : decode cX6_edges 19 = .ok (.istore 4, 2) := by decide +kernel
theorem dX6_edges_21 : decode cX6_edges 21 = .ok (.aload_n 0, 1) := by decide +kernel
theorem dX6_edges_22 : decode cX6_edges 22 = .ok (.iload 4, 2) := by decide +kernel
theorem dX6_edges_24 : decode cX6_edges 24 = .ok (.ifCond .ne 7, 3) := by decide +kernel
theorem dX6_edges_27 : decode cX6_edges 27 = .ok (.iconst 1, 1) := by decide +kernel
theorem dX6_edges_28 : decode cX6_edges 28 = .ok (.goto 22, 3) := by decide +kernel
theorem dX6_edges_31 : decode cX6_edges 31 = .ok (.iload_n 1, 1) := by decide +kernel
theorem dX6_edges_32 : decode cX6_edges 32 = .ok (.iload_n 2, 1) := by decide +kernel
theorem dX6_edges_33 : decode cX6_edges 33 = .ok (.if_icmp .eq 16, 3) := by decide +kernel
theorem dX6_edges_36 : decode cX6_edges 36 = .ok (.iload_n 3, 1) := by decide +kernel
theorem dX6_edges_37 : decode cX6_edges 37 = .ok (.iconst 0, 1) := by decide +kernel
theorem dX6_edges_38 : decode cX6_edges 38 = .ok (.iconst 3, 1) := by decide +kernel
theorem dX6_edges_39 : decode cX6_edges 39 = .ok (.invokestatic 67, 3) := by decide +kernel
theorem dX6_edges_42 : decode cX6_edges 42 = .ok (.ifCond .eq 7, 3) := by decide +kernel
theorem dX6_edges_45 : decode cX6_edges 45 = .ok (.iconst 0, 1) := by decide +kernel
theorem dX6_edges_46 : decode cX6_edges 46 = .ok (.goto 4, 3) := by decide +kernel
theorem dX6_edges_49 : decode cX6_edges 49 = .ok (.iconst 2, 1) := by decide +kernel
theorem dX6_edges_50 : decode cX6_edges 50 = .ok (.invokevirtual 82, 3) := by decide +kernel
theorem dX6_edges_53 : decode cX6_edges 53 = .ok (.ifCond .ne 5, 3) := by decide +kernel
theorem dX6_edges_56 : decode cX6_edges 56 = .ok (.iconst 0, 1) := by decide +kernel
theorem dX6_edges_57 : decode cX6_edges 57 = .ok (.ireturn, 1) := by decide +kernel
theorem dX6_edges_58 : decode cX6_edges 58 = .ok (.aload_n 0, 1) := by decide +kernel
theorem dX6_edges_59 : decode cX6_edges 59 = .ok (.getfield 46, 3) := by decide +kernel
theorem dX6_edges_62 : decode cX6_edges 62 = .ok (.iconst 5, 1) := by decide +kernel
theorem dX6_edges_63 : decode cX6_edges 63 = .ok (.iload_n 1, 1) := by decide +kernel
theorem dX6_edges_64 : decode cX6_edges 64 = .ok (.imul, 1) := by decide +kernel
theorem dX6_edges_65 : decode cX6_edges 65 = .ok (.iload_n 2, 1) := by decide +kernel
theorem dX6_edges_66 : decode cX6_edges 66 = .ok (.iadd, 1) := by decide +kernel
theorem dX6_edges_67 : decode cX6_edges 67 = .ok (.iaload, 1) := by decide +kernel
theorem dX6_edges_68 : decode cX6_edges 68 = .ok (.istore 5, 2) := by decide +kernel
theorem dX6_edges_70 : decode cX6_edges 70 = .ok (.aload_n 0, 1) := by decide +kernel
theorem dX6_edges_71 : decode cX6_edges 71 = .ok (.getfield 46, 3) := by decide +kernel
theorem dX6_edges_74 : decode cX6_edges 74 = .ok (.iconst 5, 1) := by decide +kernel
theorem dX6_edges_75 : decode cX6_edges 75 = .ok (.iload_n 1, 1) := by decide +kernel
theorem dX6_edges_76 : decode cX6_edges 76 = .ok (.imul, 1) := by decide +kernel
theorem dX6_edges_77 : decode cX6_edges 77 = .ok (.iload_n 2, 1) := by decide +kernel
theorem dX6_edges_78 : decode cX6_edges 78 = .ok (.iadd, 1) := by decide +kernel
theorem dX6_edges_79 : decode cX6_edges 79 = .ok (.iload_n 3, 1) := by decide +kernel
theorem dX6_edges_80 : decode cX6_edges 80 = .ok (.iastore, 1) := by decide +kernel
theorem dX6_edges_81 : decode cX6_edges 81 = .ok (.aload_n 0, 1) := by decide +kernel
theorem dX6_edges_82 : decode cX6_edges 82 = .ok (.getfield 46, 3) := by decide +kernel
theorem dX6_edges_85 : decode cX6_edges 85 = .ok (.iconst 5, 1) := by decide +kernel
theorem dX6_edges_86 : decode cX6_edges 86 = .ok (.iload_n 2, 1) := by decide +kernel
theorem dX6_edges_87 : decode cX6_edges 87 = .ok (.imul, 1) := by decide +kernel
theorem dX6_edges_88 : decode cX6_edges 88 = .ok (.iload_n 1, 1) := by decide +kernel
theorem dX6_edges_89 : decode cX6_edges 89 = .ok (.iadd, 1) := by decide +kernel
theorem dX6_edges_90 : decode cX6_edges 90 = .ok (.iload_n 3, 1) := by decide +kernel
theorem dX6_edges_91 : decode cX6_edges 91 = .ok (.iastore, 1) := by decide +kernel
theorem dX6_edges_92 : decode cX6_edges 92 = .ok (.iload 5, 2) := by decide +kernel
theorem dX6_edges_94 : decode cX6_edges 94 = .ok (.ireturn, 1) := by decide +kernel
set_option maxRecDepth 20000 in
theorem ggX6_chips_X6_isVertex : GoodIn wsX6_chips wsX6_isVertex := goodIn_r _ [5, 6, 7, 4, 8] (by decide +kernel) (by decide +kernel)
set_option maxRecDepth 20000 in
theorem gX6_chips_X6_isVertex : GoodIn wsX6_chips (va_wsS RX6 215 yX6_isVertex wsX6_isVertex) := goodIn_app (goodIn_of _ (by decide +kernel)) ggX6_chips_X6_isVertex
set_option maxRecDepth 20000 in
theorem ggX6_chips_X6_isIn : GoodIn wsX6_chips wsX6_isIn := goodIn_r _ [8] (by decide +kernel) (by decide +kernel)
set_option maxRecDepth 20000 in
theorem gX6_chips_X6_isIn : GoodIn wsX6_chips (va_wsS RX6 67 yX6_isIn wsX6_isIn) := goodIn_app (goodIn_of _ (by decide +kernel)) ggX6_chips_X6_isIn
set_option maxRecDepth 20000 in
theorem ggX6_chips_X6_can : GoodIn wsX6_chips wsX6_can := goodIn_r _ [12, 13, 14, 15, 16, 17, 18, 19, 20, 21, 22, 23, 24, 25, 26, 27, 28, 29, 30, 31, 32] (by decide +kernel) (by decide +kernel)
set_option maxRecDepth 20000 in
theorem gX6_chips_X6_can : GoodIn wsX6_chips (wsV RX6 82 RX6 yX6_can wsX6_can) := goodIn_app (goodIn_of _ (by decide +kernel)) ggX6_chips_X6_can
theorem dX6_chips_0 : decode cX6_chips 0 = .ok (.aload_n 0, 1) := by decide +kernel
theorem dX6_chips_1 : decode cX6_chips 1 = .ok (.iload_n 1, 1) := by decide +kernel
theorem dX6_chips_2 : decode cX6_chips 2 = .ok (.invokestatic 215, 3) := by decide +kernel
theorem dX6_chips_5 : decode cX6_chips 5 = .ok (.ifCond .ne 7, 3) := by decide +kernel
theorem dX6_chips_8 : decode cX6_chips 8 = .ok (.iconst 1, 1) := by decide +kernel
theorem dX6_chips_9 : decode cX6_chips 9 = .ok (.goto 19, 3) := by decide +kernel
theorem dX6_chips_12 : decode cX6_chips 12 = .ok (.iload_n 2, 1) := by decide +kernel
theorem dX6_chips_13 : decode cX6_chips 13 = .ok (.bipush (-99), 2) := by decide +kernel
theorem dX6_chips_15 : decode cX6_chips 15 = .ok (.bipush 99, 2) := by decide +kernel
theorem dX6_chips_17 : decode cX6_chips 17 = .ok (.invokestatic 67, 3) := by decide +kernel
theorem dX6_chips_20 : decode cX6_chips 20 = .ok (.ifCond .eq 7, 3) := by decide +kernel
theorem dX6_chips_23 : decode cX6_chips 23 = .ok (.iconst 0, 1) := by decide +kernel
theorem dX6_chips_24 : decode cX6_chips 24 = .ok (.goto 4, 3) := by decide +kernel
theorem dX6_chips_27 : decode cX6_chips 27 = .ok (.iconst 2, 1) := by decide +kernel
theorem dX6_chips_28 : decode cX6_chips 28 = .ok (.invokevirtual 82, 3) := by decide +kernel
theorem dX6_chips_31 : decode cX6_chips 31 = .ok (.ifCond .ne 5, 3) := by decide +kernel
theorem dX6_chips_34 : decode cX6_chips 34 = .ok (.iconst 0, 1) := by decide +kernel
theorem dX6_chips_35 : decode cX6_chips 35 = .ok (.ireturn, 1) := by decide +kernel
theorem dX6_chips_36 : decode cX6_chips 36 = .ok (.aload_n 0, 1) := by decide +kernel
theorem dX6_chips_37 : decode cX6_chips 37 = .ok (.getfield 49, 3) := by decide +kernel
theorem dX6_chips_40 : decode cX6_chips 40 = .ok (.iload_n 1, 1) := by decide +kernel
theorem dX6_chips_41 : decode cX6_chips 41 = .ok (.iaload, 1) := by decide +kernel
theorem dX6_chips_42 : decode cX6_chips 42 = .ok (.istore_n 3, 1) := by decide +kernel
theorem dX6_chips_43 : decode cX6_chips 43 = .ok (.aload_n 0, 1) := by decide +kernel
theorem dX6_chips_44 : decode cX6_chips 44 = .ok (.getfield 49, 3) := by decide +kernel
theorem dX6_chips_47 : decode cX6_chips 47 = .ok (.iload_n 1, 1) := by decide +kernel
theorem dX6_chips_48 : decode cX6_chips 48 = .ok (.iload_n 2, 1) := by decide +kernel
theorem dX6_chips_49 : decode cX6_chips 49 = .ok (.iastore, 1) := by decide +kernel
theorem dX6_chips_50 : decode cX6_chips 50 = .ok (.iload_n 3, 1) := by decide +kernel
theorem dX6_chips_51 : decode cX6_chips 51 = .ok (.ireturn, 1) := by decide +kernel
set_option maxRecDepth 20000 in
theorem ggX6_chipsAt_X6_isVertex : GoodIn wsX6_chipsAt wsX6_isVertex := goodIn_r _ [5, 6, 7, 4, 8] (by decide +kernel) (by decide +kernel)
set_option maxRecDepth 20000 in
theorem gX6_chipsAt_X6_isVertex : GoodIn wsX6_chipsAt (va_wsS RX6 215 yX6_isVertex wsX6_isVertex) := goodIn_app (goodIn_of _ (by decide +kernel)) ggX6_chipsAt_X6_isVertex
set_option maxRecDepth 20000 in
theorem ggX6_chipsAt_X6_can : GoodIn wsX6_chipsAt wsX6_can := goodIn_r _ [12, 13, 14, 15, 16, 17, 18, 19, 20, 21, 22, 23, 24, 25, 26, 27, 28, 29, 30, 31, 32] (by decide +kernel) (by decide +kernel)
set_option maxRecDepth 20000 in
theorem gX6_chipsAt_X6_can : GoodIn wsX6_chipsAt (wsV RX6 82 RX6 yX6_can wsX6_can) := goodIn_app (goodIn_of _ (by decide +kernel)) ggX6_chipsAt_X6_can
theorem dX6_chipsAt_0 : decode cX6_chipsAt 0 = .ok (.aload_n 0, 1) := by decide +kernel
theorem dX6_chipsAt_1 : decode cX6_chipsAt 1 = .ok (.iload_n 1, 1) := by decide +kernel
theorem dX6_chipsAt_2 : decode cX6_chipsAt 2 = .ok (.invokestatic 215, 3) := by decide +kernel
theorem dX6_chipsAt_5 : decode cX6_chipsAt 5 = .ok (.ifCond .eq 7, 3) := by decide +kernel
theorem dX6_chipsAt_8 : decode cX6_chipsAt 8 = .ok (.iconst 0, 1) := by decide +kernel
theorem dX6_chipsAt_9 : decode cX6_chipsAt 9 = .ok (.goto 4, 3) := by decide +kernel
theorem dX6_chipsAt_12 : decode cX6_chipsAt 12 = .ok (.iconst 1, 1) := by decide +kernel
theorem dX6_chipsAt_13 : decode cX6_chipsAt 13 = .ok (.invokevirtual 82, 3) := by decide +kernel
theorem dX6_chipsAt_16 : decode cX6_chipsAt 16 = .ok (.ifCond .eq 12, 3) := by decide +kernel
theorem dX6_chipsAt_19 : decode cX6_chipsAt 19 = .ok (.aload_n 0, 1) := by decide +kernel
theorem dX6_chipsAt_20 : decode cX6_chipsAt 20 = .ok (.getfield 49, 3) := by decide +kernel
theorem dX6_chipsAt_23 : decode cX6_chipsAt 23 = .ok (.iload_n 1, 1) := by decide +kernel
theorem dX6_chipsAt_24 : decode cX6_chipsAt 24 = .ok (.iaload, 1) := by decide +kernel
theorem dX6_chipsAt_25 : decode cX6_chipsAt 25 = .ok (.goto 4, 3) := by decide +kernel
theorem dX6_chipsAt_28 : decode cX6_chipsAt 28 = .ok (.iconst 0, 1) := by decide +kernel
theorem dX6_chipsAt_29 : decode cX6_chipsAt 29 = .ok (.ireturn, 1) := by decide +kernel
set_option maxRecDepth 20000 in
theorem ggX6_canFire_X6_edgesOf : GoodIn wsX6_canFire wsX6_edgesOf := goodIn_r _ [7, 2, 8, 9, 10, 11, 12, 13, 14, 15, 16, 17, 18, 19, 20, 21, 22, 23, 24, 25, 26] (by decide +kernel) (by decide +kernel)
set_option maxRecDepth 20000 in
theorem gX6_canFire_X6_edgesOf : GoodIn wsX6_canFire (wsV RX6 212 RX6 yX6_edgesOf wsX6_edgesOf) := goodIn_app (goodIn_of _ (by decide +kernel)) ggX6_canFire_X6_edgesOf
theorem dX6_canFire_0 : decode cX6_canFire 0 = .ok (.aload_n 0, 1) := by decide +kernel
theorem dX6_canFire_1 : decode cX6_canFire 1 = .ok (.getfield 49, 3) := by decide +kernel
theorem dX6_canFire_4 : decode cX6_canFire 4 = .ok (.iload_n 1, 1) := by decide +kernel
theorem dX6_canFire_5 : decode cX6_canFire 5 = .ok (.iaload, 1) := by decide +kernel
theorem dX6_canFire_6 : decode cX6_canFire 6 = .ok (.aload_n 0, 1) := by decide +kernel
theorem dX6_canFire_7 : decode cX6_canFire 7 = .ok (.iload_n 1, 1) := by decide +kernel
theorem dX6_canFire_8 : decode cX6_canFire 8 = .ok (.invokevirtual 212, 3) := by decide +kernel
theorem dX6_canFire_11 : decode cX6_canFire 11 = .ok (.isub, 1) := by decide +kernel
theorem dX6_canFire_12 : decode cX6_canFire 12 = .ok (.bipush (-99), 2) := by decide +kernel
theorem dX6_canFire_14 : decode cX6_canFire 14 = .ok (.if_icmp .lt 7, 3) := by decide +kernel
theorem dX6_canFire_17 : decode cX6_canFire 17 = .ok (.iconst 1, 1) := by decide +kernel
theorem dX6_canFire_18 : decode cX6_canFire 18 = .ok (.goto 4, 3) := by decide +kernel
theorem dX6_canFire_21 : decode cX6_canFire 21 = .ok (.iconst 0, 1) := by decide +kernel
theorem dX6_canFire_22 : decode cX6_canFire 22 = .ok (.istore_n 2, 1) := by decide +kernel
theorem dX6_canFire_23 : decode cX6_canFire 23 = .ok (.iconst 0, 1) := by decide +kernel
theorem dX6_canFire_24 : decode cX6_canFire 24 = .ok (.istore_n 3, 1) := by decide +kernel
theorem dX6_canFire_25 : decode cX6_canFire 25 = .ok (.iload_n 3, 1) := by decide +kernel
theorem dX6_canFire_26 : decode cX6_canFire 26 = .ok (.iconst 5, 1) := by decide +kernel
theorem dX6_canFire_27 : decode cX6_canFire 27 = .ok (.if_icmp .ge 41, 3) := by decide +kernel
theorem dX6_canFire_30 : decode cX6_canFire 30 = .ok (.iload_n 2, 1) := by decide +kernel
theorem dX6_canFire_31 : decode cX6_canFire 31 = .ok (.ifCond .eq 29, 3) := by decide +kernel
theorem dX6_canFire_34 : decode cX6_canFire 34 = .ok (.aload_n 0, 1) := by decide +kernel
theorem dX6_canFire_35 : decode cX6_canFire 35 = .ok (.getfield 49, 3) := by decide +kernel
theorem dX6_canFire_38 : decode cX6_canFire 38 = .ok (.iload_n 3, 1) := by decide +kernel
theorem dX6_canFire_39 : decode cX6_canFire 39 = .ok (.iaload, 1) := by decide +kernel
theorem dX6_canFire_40 : decode cX6_canFire 40 = .ok (.aload_n 0, 1) := by decide +kernel
theorem dX6_canFire_41 : decode cX6_canFire 41 = .ok (.getfield 46, 3) := by decide +kernel
theorem dX6_canFire_44 : decode cX6_canFire 44 = .ok (.iconst 5, 1) := by decide +kernel
theorem dX6_canFire_45 : decode cX6_canFire 45 = .ok (.iload_n 1, 1) := by decide +kernel
theorem dX6_canFire_46 : decode cX6_canFire 46 = .ok (.imul, 1) := by decide +kernel
theorem dX6_canFire_47 : decode cX6_canFire 47 = .ok (.iload_n 3, 1) := by decide +kernel
theorem dX6_canFire_48 : decode cX6_canFire 48 = .ok (.iadd, 1) := by decide +kernel
theorem dX6_canFire_49 : decode cX6_canFire 49 = .ok (.iaload, 1) := by decide +kernel
theorem dX6_canFire_50 : decode cX6_canFire 50 = .ok (.iadd, 1) := by decide +kernel
theorem dX6_canFire_51 : decode cX6_canFire 51 = .ok (.bipush 99, 2) := by decide +kernel
theorem dX6_canFire_53 : decode cX6_canFire 53 = .ok (.if_icmp .gt 7, 3) := by decide +kernel
theorem dX6_canFire_56 : decode cX6_canFire 56 = .ok (.iconst 1, 1) := by decide +kernel
theorem dX6_canFire_57 : decode cX6_canFire 57 = .ok (.goto 4, 3) := by decide +kernel
theorem dX6_canFire_60 : decode cX6_canFire 60 = .ok (.iconst 0, 1) := by decide +kernel
theorem dX6_canFire_61 : decode cX6_canFire 61 = .ok (.istore_n 2, 1) := by decide +kernel
theorem dX6_canFire_62 : decode cX6_canFire 62 = .ok (.iinc 3 1, 3) := by decide +kernel
theorem dX6_canFire_65 : decode cX6_canFire 65 = .ok (.goto (-40), 3) := by decide +kernel
theorem dX6_canFire_68 : decode cX6_canFire 68 = .ok (.iload_n 2, 1) := by decide +kernel
theorem dX6_canFire_69 : decode cX6_canFire 69 = .ok (.ireturn, 1) := by decide +kernel
set_option maxRecDepth 20000 in
theorem ggX6_fire_X6_isVertex : GoodIn wsX6_fire wsX6_isVertex := goodIn_r _ [6, 7, 8, 5, 9] (by decide +kernel) (by decide +kernel)
set_option maxRecDepth 20000 in
theorem gX6_fire_X6_isVertex : GoodIn wsX6_fire (va_wsS RX6 215 yX6_isVertex wsX6_isVertex) := goodIn_app (goodIn_of _ (by decide +kernel)) ggX6_fire_X6_isVertex
set_option maxRecDepth 20000 in
theorem ggX6_fire_X6_canFire : GoodIn wsX6_fire wsX6_canFire := goodIn_r _ [13, 1, 2, 14, 15, 16, 5, 17, 23, 24, 25, 26, 27, 28, 29, 30, 31, 32, 33, 34, 35, 36, 37, 38, 39, 40, 41] (by decide +kernel) (by decide +kernel)
set_option maxRecDepth 20000 in
theorem gX6_fire_X6_canFire : GoodIn wsX6_fire (wsV RX6 218 RX6 yX6_canFire wsX6_canFire) := goodIn_app (goodIn_of _ (by decide +kernel)) ggX6_fire_X6_canFire
set_option maxRecDepth 20000 in
theorem ggX6_fire_X6_can : GoodIn wsX6_fire wsX6_can := goodIn_r _ [21, 22, 23, 24, 25, 26, 27, 28, 29, 30, 31, 32, 33, 34, 35, 36, 37, 38, 39, 40, 41] (by decide +kernel) (by decide +kernel)
set_option maxRecDepth 20000 in
theorem gX6_fire_X6_can : GoodIn wsX6_fire (wsV RX6 82 RX6 yX6_can wsX6_can) := goodIn_app (goodIn_of _ (by decide +kernel)) ggX6_fire_X6_can
set_option maxRecDepth 20000 in
theorem ggX6_fire_X6_edgesOf : GoodIn wsX6_fire wsX6_edgesOf := goodIn_r _ [17, 2, 23, 24, 25, 26, 27, 28, 29, 30, 31, 32, 33, 34, 35, 36, 37, 38, 39, 40, 41] (by decide +kernel) (by decide +kernel)
set_option maxRecDepth 20000 in
theorem gX6_fire_X6_edgesOf : GoodIn wsX6_fire (wsV RX6 212 RX6 yX6_edgesOf wsX6_edgesOf) := goodIn_app (goodIn_of _ (by decide +kernel)) ggX6_fire_X6_edgesOf
theorem dX6_fire_0 : decode cX6_fire 0 = .ok (.iload_n 1, 1) := by decide +kernel
theorem dX6_fire_1 : decode cX6_fire 1 = .ok (.invokestatic 215, 3) := by decide +kernel
theorem dX6_fire_4 : decode cX6_fire 4 = .ok (.istore_n 2, 1) := by decide +kernel
theorem dX6_fire_5 : decode cX6_fire 5 = .ok (.aload_n 0, 1) := by decide +kernel
theorem dX6_fire_6 : decode cX6_fire 6 = .ok (.iload_n 2, 1) := by decide +kernel
theorem dX6_fire_7 : decode cX6_fire 7 = .ok (.ifCond .ne 7, 3) := by decide +kernel
theorem dX6_fire_10 : decode cX6_fire 10 = .ok (.iconst 1, 1) := by decide +kernel
theorem dX6_fire_11 : decode cX6_fire 11 = .ok (.goto 16, 3) := by decide +kernel
theorem dX6_fire_14 : decode cX6_fire 14 = .ok (.aload_n 0, 1) := by decide +kernel
theorem dX6_fire_15 : decode cX6_fire 15 = .ok (.iload_n 1, 1) := by decide +kernel
theorem dX6_fire_16 : decode cX6_fire 16 = .ok (.invokevirtual 218, 3) := by decide +kernel
theorem dX6_fire_19 : decode cX6_fire 19 = .ok (.ifCond .eq 7, 3) := by decide +kernel
theorem dX6_fire_22 : decode cX6_fire 22 = .ok (.iconst 0, 1) := by decide +kernel
theorem dX6_fire_23 : decode cX6_fire 23 = .ok (.goto 4, 3) := by decide +kernel
theorem dX6_fire_26 : decode cX6_fire 26 = .ok (.iconst 2, 1) := by decide +kernel
theorem dX6_fire_27 : decode cX6_fire 27 = .ok (.invokevirtual 82, 3) := by decide +kernel
theorem dX6_fire_30 : decode cX6_fire 30 = .ok (.ifCond .ne 5, 3) := by decide +kernel
theorem dX6_fire_33 : decode cX6_fire 33 = .ok (.iconst 0, 1) := by decide +kernel
theorem dX6_fire_34 : decode cX6_fire 34 = .ok (.ireturn, 1) := by decide +kernel
theorem dX6_fire_35 : decode cX6_fire 35 = .ok (.aload_n 0, 1) := by decide +kernel
theorem dX6_fire_36 : decode cX6_fire 36 = .ok (.getfield 49, 3) := by decide +kernel
theorem dX6_fire_39 : decode cX6_fire 39 = .ok (.iload_n 1, 1) := by decide +kernel
theorem dX6_fire_40 : decode cX6_fire 40 = .ok (.dup2, 1) := by decide +kernel
theorem dX6_fire_41 : decode cX6_fire 41 = .ok (.iaload, 1) := by decide +kernel
theorem dX6_fire_42 : decode cX6_fire 42 = .ok (.aload_n 0, 1) := by decide +kernel
theorem dX6_fire_43 : decode cX6_fire 43 = .ok (.iload_n 1, 1) := by decide +kernel
theorem dX6_fire_44 : decode cX6_fire 44 = .ok (.invokevirtual 212, 3) := by decide +kernel
theorem dX6_fire_47 : decode cX6_fire 47 = .ok (.isub, 1) := by decide +kernel
theorem dX6_fire_48 : decode cX6_fire 48 = .ok (.iastore, 1) := by decide +kernel
theorem dX6_fire_49 : decode cX6_fire 49 = .ok (.iconst 0, 1) := by decide +kernel
theorem dX6_fire_50 : decode cX6_fire 50 = .ok (.istore_n 3, 1) := by decide +kernel
theorem dX6_fire_51 : decode cX6_fire 51 = .ok (.iload_n 3, 1) := by decide +kernel
theorem dX6_fire_52 : decode cX6_fire 52 = .ok (.iconst 5, 1) := by decide +kernel
theorem dX6_fire_53 : decode cX6_fire 53 = .ok (.if_icmp .ge 28, 3) := by decide +kernel
theorem dX6_fire_56 : decode cX6_fire 56 = .ok (.aload_n 0, 1) := by decide +kernel
theorem dX6_fire_57 : decode cX6_fire 57 = .ok (.getfield 49, 3) := by decide +kernel
theorem dX6_fire_60 : decode cX6_fire 60 = .ok (.iload_n 3, 1) := by decide +kernel
theorem dX6_fire_61 : decode cX6_fire 61 = .ok (.dup2, 1) := by decide +kernel
theorem dX6_fire_62 : decode cX6_fire 62 = .ok (.iaload, 1) := by decide +kernel
theorem dX6_fire_63 : decode cX6_fire 63 = .ok (.aload_n 0, 1) := by decide +kernel
theorem dX6_fire_64 : decode cX6_fire 64 = .ok (.getfield 46, 3) := by decide +kernel
theorem dX6_fire_67 : decode cX6_fire 67 = .ok (.iconst 5, 1) := by decide +kernel
theorem dX6_fire_68 : decode cX6_fire 68 = .ok (.iload_n 1, 1) := by decide +kernel
theorem dX6_fire_69 : decode cX6_fire 69 = .ok (.imul, 1) := by decide +kernel
theorem dX6_fire_70 : decode cX6_fire 70 = .ok (.iload_n 3, 1) := by decide +kernel
theorem dX6_fire_71 : decode cX6_fire 71 = .ok (.iadd, 1) := by decide +kernel
theorem dX6_fire_72 : decode cX6_fire 72 = .ok (.iaload, 1) := by decide +kernel
theorem dX6_fire_73 : decode cX6_fire 73 = .ok (.iadd, 1) := by decide +kernel
theorem dX6_fire_74 : decode cX6_fire 74 = .ok (.iastore, 1) := by decide +kernel
theorem dX6_fire_75 : decode cX6_fire 75 = .ok (.iinc 3 1, 3) := by decide +kernel
theorem dX6_fire_78 : decode cX6_fire 78 = .ok (.goto (-27), 3) := by decide +kernel
theorem dX6_fire_81 : decode cX6_fire 81 = .ok (.aload_n 0, 1) := by decide +kernel
theorem dX6_fire_82 : decode cX6_fire 82 = .ok (.getfield 49, 3) := by decide +kernel
theorem dX6_fire_85 : decode cX6_fire 85 = .ok (.iload_n 1, 1) := by decide +kernel
theorem dX6_fire_86 : decode cX6_fire 86 = .ok (.iaload, 1) := by decide +kernel
theorem dX6_fire_87 : decode cX6_fire 87 = .ok (.ireturn, 1) := by decide +kernel
set_option maxRecDepth 20000 in
theorem ggX6_isConnected_X6_isOf : GoodIn wsX6_isConnected wsX6_isOf := goodIn_r _ [6, 7, 8, 9, 5, 10, 1, 11, 12, 13, 14, 15, 16, 17, 18, 19, 20, 21, 22, 23, 24, 25, 26, 27, 28, 29] (by decide +kernel) (by decide +kernel)
set_option maxRecDepth 20000 in
theorem gX6_isConnected_X6_isOf : GoodIn wsX6_isConnected (wsV RX6 221 RX6 yX6_isOf wsX6_isOf) := goodIn_app (goodIn_of _ (by decide +kernel)) ggX6_isConnected_X6_isOf
theorem dX6_isConnected_0 : decode cX6_isConnected 0 = .ok (.iconst 1, 1) := by decide +kernel
theorem dX6_isConnected_1 : decode cX6_isConnected 1 = .ok (.istore_n 1, 1) := by decide +kernel
theorem dX6_isConnected_2 : decode cX6_isConnected 2 = .ok (.iconst 0, 1) := by decide +kernel
theorem dX6_isConnected_3 : decode cX6_isConnected 3 = .ok (.istore_n 2, 1) := by decide +kernel
theorem dX6_isConnected_4 : decode cX6_isConnected 4 = .ok (.iload_n 2, 1) := by decide +kernel
theorem dX6_isConnected_5 : decode cX6_isConnected 5 = .ok (.iconst 5, 1) := by decide +kernel
theorem dX6_isConnected_6 : decode cX6_isConnected 6 = .ok (.if_icmp .ge 55, 3) := by decide +kernel
theorem dX6_isConnected_9 : decode cX6_isConnected 9 = .ok (.iconst 0, 1) := by decide +kernel
theorem dX6_isConnected_10 : decode cX6_isConnected 10 = .ok (.istore_n 3, 1) := by decide +kernel
theorem dX6_isConnected_11 : decode cX6_isConnected 11 = .ok (.iload_n 3, 1) := by decide +kernel
theorem dX6_isConnected_12 : decode cX6_isConnected 12 = .ok (.bipush 25, 2) := by decide +kernel
theorem dX6_isConnected_14 : decode cX6_isConnected 14 = .ok (.if_icmp .ge 41, 3) := by decide +kernel
theorem dX6_isConnected_17 : decode cX6_isConnected 17 = .ok (.iload_n 1, 1) := by decide +kernel
theorem dX6_isConnected_18 : decode cX6_isConnected 18 = .ok (.iload_n 1, 1) := by decide +kernel
theorem dX6_isConnected_19 : decode cX6_isConnected 19 = .ok (.iload_n 3, 1) := by decide +kernel
theorem dX6_isConnected_20 : decode cX6_isConnected 20 = .ok (.iconst 5, 1) := by decide +kernel
theorem dX6_isConnected_21 : decode cX6_isConnected 21 = .ok (.idiv, 1) := by decide +kernel
theorem dX6_isConnected_22 : decode cX6_isConnected 22 = .ok (.ishr, 1) := by decide +kernel
theorem dX6_isConnected_23 : decode cX6_isConnected 23 = .ok (.iconst 1, 1) := by decide +kernel
theorem dX6_isConnected_24 : decode cX6_isConnected 24 = .ok (.iand, 1) := by decide +kernel
theorem dX6_isConnected_25 : decode cX6_isConnected 25 = .ok (.iconst 1, 1) := by decide +kernel
theorem dX6_isConnected_26 : decode cX6_isConnected 26 = .ok (.if_icmp .ne 20, 3) := by decide +kernel
theorem dX6_isConnected_29 : decode cX6_isConnected 29 = .ok (.aload_n 0, 1) := by decide +kernel
theorem dX6_isConnected_30 : decode cX6_isConnected 30 = .ok (.getfield 46, 3) := by decide +kernel
theorem dX6_isConnected_33 : decode cX6_isConnected 33 = .ok (.iload_n 3, 1) := by decide +kernel
theorem dX6_isConnected_34 : decode cX6_isConnected 34 = .ok (.iaload, 1) := by decide +kernel
theorem dX6_isConnected_35 : decode cX6_isConnected 35 = .ok (.ifCond .le 11, 3) := by decide +kernel
theorem dX6_isConnected_38 : decode cX6_isConnected 38 = .ok (.iconst 1, 1) := by decide +kernel
theorem dX6_isConnected_39 : decode cX6_isConnected 39 = .ok (.iload_n 3, 1) := by decide +kernel
theorem dX6_isConnected_40 : decode cX6_isConnected 40 = .ok (.iconst 5, 1) := by decide +kernel
theorem dX6_isConnected_41 : decode cX6_isConnected 41 = .ok (.irem, 1) := by decide +kernel
theorem dX6_isConnected_42 : decode cX6_isConnected 42 = .ok (.ishl, 1) := by decide +kernel
theorem dX6_isConnected_43 : decode cX6_isConnected 43 = .ok (.goto 4, 3) := by decide +kernel
theorem dX6_isConnected_46 : decode cX6_isConnected 46 = .ok (.iconst 0, 1) := by decide +kernel
theorem dX6_isConnected_47 : decode cX6_isConnected 47 = .ok (.ior, 1) := by decide +kernel
theorem dX6_isConnected_48 : decode cX6_isConnected 48 = .ok (.istore_n 1, 1) := by decide +kernel
theorem dX6_isConnected_49 : decode cX6_isConnected 49 = .ok (.iinc 3 1, 3) := by decide +kernel
theorem dX6_isConnected_52 : decode cX6_isConnected 52 = .ok (.goto (-41), 3) := by decide +kernel
theorem dX6_isConnected_55 : decode cX6_isConnected 55 = .ok (.iinc 2 1, 3) := by decide +kernel
theorem dX6_isConnected_58 : decode cX6_isConnected 58 = .ok (.goto (-54), 3) := by decide +kernel
theorem dX6_isConnected_61 : decode cX6_isConnected 61 = .ok (.iconst 1, 1) := by decide +kernel
theorem dX6_isConnected_62 : decode cX6_isConnected 62 = .ok (.istore_n 2, 1) := by decide +kernel
theorem dX6_isConnected_63 : decode cX6_isConnected 63 = .ok (.iconst 0, 1) := by decide +kernel
theorem dX6_isConnected_64 : decode cX6_isConnected 64 = .ok (.istore_n 3, 1) := by decide +kernel
theorem dX6_isConnected_65 : decode cX6_isConnected 65 = .ok (.iload_n 3, 1) := by decide +kernel
theorem dX6_isConnected_66 : decode cX6_isConnected 66 = .ok (.iconst 5, 1) := by decide +kernel
theorem dX6_isConnected_67 : decode cX6_isConnected 67 = .ok (.if_icmp .ge 41, 3) := by decide +kernel
theorem dX6_isConnected_70 : decode cX6_isConnected 70 = .ok (.iload_n 2, 1) := by decide +kernel
theorem dX6_isConnected_71 : decode cX6_isConnected 71 = .ok (.ifCond .eq 29, 3) := by decide +kernel
theorem dX6_isConnected_74 : decode cX6_isConnected 74 = .ok (.aload_n 0, 1) := by decide +kernel
theorem dX6_isConnected_75 : decode cX6_isConnected 75 = .ok (.iload_n 3, 1) := by decide +kernel
theorem dX6_isConnected_76 : decode cX6_isConnected 76 = .ok (.invokevirtual 221, 3) := by decide +kernel
theorem dX6_isConnected_79 : decode cX6_isConnected 79 = .ok (.iload_n 1, 1) := by decide +kernel
theorem dX6_isConnected_80 : decode cX6_isConnected 80 = .ok (.iload_n 3, 1) := by decide +kernel
theorem dX6_isConnected_81 : decode cX6_isConnected 81 = .ok (.ishr, 1) := by decide +kernel
theorem dX6_isConnected_82 : decode cX6_isConnected 82 = .ok (.iconst 1, 1) := by decide +kernel
theorem dX6_isConnected_83 : decode cX6_isConnected 83 = .ok (.iand, 1) := by decide +kernel
theorem dX6_isConnected_84 : decode cX6_isConnected 84 = .ok (.iconst 1, 1) := by decide +kernel
theorem dX6_isConnected_85 : decode cX6_isConnected 85 = .ok (.if_icmp .ne 7, 3) := by decide +kernel
theorem dX6_isConnected_88 : decode cX6_isConnected 88 = .ok (.iconst 1, 1) := by decide +kernel
theorem dX6_isConnected_89 : decode cX6_isConnected 89 = .ok (.goto 4, 3) := by decide +kernel
theorem dX6_isConnected_92 : decode cX6_isConnected 92 = .ok (.iconst 0, 1) := by decide +kernel
theorem dX6_isConnected_93 : decode cX6_isConnected 93 = .ok (.if_icmp .ne 7, 3) := by decide +kernel
theorem dX6_isConnected_96 : decode cX6_isConnected 96 = .ok (.iconst 1, 1) := by decide +kernel
theorem dX6_isConnected_97 : decode cX6_isConnected 97 = .ok (.goto 4, 3) := by decide +kernel
theorem dX6_isConnected_100 : decode cX6_isConnected 100 = .ok (.iconst 0, 1) := by decide +kernel
theorem dX6_isConnected_101 : decode cX6_isConnected 101 = .ok (.istore_n 2, 1) := by decide +kernel
theorem dX6_isConnected_102 : decode cX6_isConnected 102 = .ok (.iinc 3 1, 3) := by decide +kernel
theorem dX6_isConnected_105 : decode cX6_isConnected 105 = .ok (.goto (-40), 3) := by decide +kernel
theorem dX6_isConnected_108 : decode cX6_isConnected 108 = .ok (.iload_n 2, 1) := by decide +kernel
theorem dX6_isConnected_109 : decode cX6_isConnected 109 = .ok (.ireturn, 1) := by decide +kernel
theorem dX6_gives_0 : decode cX6_gives 0 = .ok (.iconst 0, 1) := by decide +kernel
theorem dX6_gives_1 : decode cX6_gives 1 = .ok (.istore_n 3, 1) := by decide +kernel
theorem dX6_gives_2 : decode cX6_gives 2 = .ok (.iload_n 3, 1) := by decide +kernel
theorem dX6_gives_3 : decode cX6_gives 3 = .ok (.iconst 5, 1) := by decide +kernel
theorem dX6_gives_4 : decode cX6_gives 4 = .ok (.if_icmp .ge 51, 3) := by decide +kernel
theorem dX6_gives_7 : decode cX6_gives 7 = .ok (.aload_n 0, 1) := by decide +kernel
theorem dX6_gives_8 : decode cX6_gives 8 = .ok (.getfield 52, 3) := by decide +kernel
theorem dX6_gives_11 : decode cX6_gives 11 = .ok (.iload_n 3, 1) := by decide +kernel
theorem dX6_gives_12 : decode cX6_gives 12 = .ok (.dup2, 1) := by decide +kernel
theorem dX6_gives_13 : decode cX6_gives 13 = .ok (.iaload, 1) := by decide +kernel
theorem dX6_gives_14 : decode cX6_gives 14 = .ok (.iload_n 2, 1) := by decide +kernel
theorem dX6_gives_15 : decode cX6_gives 15 = .ok (.aload_n 0, 1) := by decide +kernel
theorem dX6_gives_16 : decode cX6_gives 16 = .ok (.getfield 46, 3) := by decide +kernel
theorem dX6_gives_19 : decode cX6_gives 19 = .ok (.iconst 5, 1) := by decide +kernel
theorem dX6_gives_20 : decode cX6_gives 20 = .ok (.iload_n 1, 1) := by decide +kernel
theorem dX6_gives_21 : decode cX6_gives 21 = .ok (.imul, 1) := by decide +kernel
theorem dX6_gives_22 : decode cX6_gives 22 = .ok (.iload_n 3, 1) := by decide +kernel
theorem dX6_gives_23 : decode cX6_gives 23 = .ok (.iadd, 1) := by decide +kernel
theorem dX6_gives_24 : decode cX6_gives 24 = .ok (.iaload, 1) := by decide +kernel
theorem dX6_gives_25 : decode cX6_gives 25 = .ok (.imul, 1) := by decide +kernel
theorem dX6_gives_26 : decode cX6_gives 26 = .ok (.iadd, 1) := by decide +kernel
theorem dX6_gives_27 : decode cX6_gives 27 = .ok (.iastore, 1) := by decide +kernel
theorem dX6_gives_28 : decode cX6_gives 28 = .ok (.aload_n 0, 1) := by decide +kernel
theorem dX6_gives_29 : decode cX6_gives 29 = .ok (.getfield 52, 3) := by decide +kernel
theorem dX6_gives_32 : decode cX6_gives 32 = .ok (.iload_n 1, 1) := by decide +kernel
theorem dX6_gives_33 : decode cX6_gives 33 = .ok (.dup2, 1) := by decide +kernel
theorem dX6_gives_34 : decode cX6_gives 34 = .ok (.iaload, 1) := by decide +kernel
theorem dX6_gives_35 : decode cX6_gives 35 = .ok (.iload_n 2, 1) := by decide +kernel
theorem dX6_gives_36 : decode cX6_gives 36 = .ok (.aload_n 0, 1) := by decide +kernel
theorem dX6_gives_37 : decode cX6_gives 37 = .ok (.getfield 46, 3) := by decide +kernel
theorem dX6_gives_40 : decode cX6_gives 40 = .ok (.iconst 5, 1) := by decide +kernel
theorem dX6_gives_41 : decode cX6_gives 41 = .ok (.iload_n 1, 1) := by decide +kernel
theorem dX6_gives_42 : decode cX6_gives 42 = .ok (.imul, 1) := by decide +kernel
theorem dX6_gives_43 : decode cX6_gives 43 = .ok (.iload_n 3, 1) := by decide +kernel
theorem dX6_gives_44 : decode cX6_gives 44 = .ok (.iadd, 1) := by decide +kernel
theorem dX6_gives_45 : decode cX6_gives 45 = .ok (.iaload, 1) := by decide +kernel
theorem dX6_gives_46 : decode cX6_gives 46 = .ok (.imul, 1) := by decide +kernel
theorem dX6_gives_47 : decode cX6_gives 47 = .ok (.isub, 1) := by decide +kernel
theorem dX6_gives_48 : decode cX6_gives 48 = .ok (.iastore, 1) := by decide +kernel
theorem dX6_gives_49 : decode cX6_gives 49 = .ok (.iinc 3 1, 3) := by decide +kernel
theorem dX6_gives_52 : decode cX6_gives 52 = .ok (.goto (-50), 3) := by decide +kernel
theorem dX6_gives_55 : decode cX6_gives 55 = .ok (.return_, 1) := by decide +kernel
set_option maxRecDepth 20000 in
theorem ggX6_owing_X6_isOf : GoodIn wsX6_owing wsX6_isOf := goodIn_r _ [6, 7, 8, 9, 5, 10, 11, 12, 13, 14, 15, 16, 17, 18, 19, 20, 21, 22, 23, 24, 25, 26, 27, 28, 29, 30] (by decide +kernel) (by decide +kernel)
set_option maxRecDepth 20000 in
theorem gX6_owing_X6_isOf : GoodIn wsX6_owing (wsV RX6 221 RX6 yX6_isOf wsX6_isOf) := goodIn_app (goodIn_of _ (by decide +kernel)) ggX6_owing_X6_isOf
theorem dX6_owing_0 : decode cX6_owing 0 = .ok (.iconst (-1), 1) := by decide +kernel
theorem dX6_owing_1 : decode cX6_owing 1 = .ok (.istore_n 2, 1) := by decide +kernel
theorem dX6_owing_2 : decode cX6_owing 2 = .ok (.iconst 0, 1) := by decide +kernel
theorem dX6_owing_3 : decode cX6_owing 3 = .ok (.istore_n 3, 1) := by decide +kernel
theorem dX6_owing_4 : decode cX6_owing 4 = .ok (.iload_n 3, 1) := by decide +kernel
theorem dX6_owing_5 : decode cX6_owing 5 = .ok (.iconst 5, 1) := by decide +kernel
theorem dX6_owing_6 : decode cX6_owing 6 = .ok (.if_icmp .ge 37, 3) := by decide +kernel
theorem dX6_owing_9 : decode cX6_owing 9 = .ok (.iload_n 3, 1) := by decide +kernel
theorem dX6_owing_10 : decode cX6_owing 10 = .ok (.iload_n 1, 1) := by decide +kernel
theorem dX6_owing_11 : decode cX6_owing 11 = .ok (.if_icmp .eq 24, 3) := by decide +kernel
theorem dX6_owing_14 : decode cX6_owing 14 = .ok (.aload_n 0, 1) := by decide +kernel
theorem dX6_owing_15 : decode cX6_owing 15 = .ok (.iload_n 3, 1) := by decide +kernel
theorem dX6_owing_16 : decode cX6_owing 16 = .ok (.invokevirtual 221, 3) := by decide +kernel
theorem dX6_owing_19 : decode cX6_owing 19 = .ok (.ifCond .eq 16, 3) := by decide +kernel
theorem dX6_owing_22 : decode cX6_owing 22 = .ok (.aload_n 0, 1) := by decide +kernel
theorem dX6_owing_23 : decode cX6_owing 23 = .ok (.getfield 52, 3) := by decide +kernel
theorem dX6_owing_26 : decode cX6_owing 26 = .ok (.iload_n 3, 1) := by decide +kernel
theorem dX6_owing_27 : decode cX6_owing 27 = .ok (.iaload, 1) := by decide +kernel
theorem dX6_owing_28 : decode cX6_owing 28 = .ok (.ifCond .ge 7, 3) := by decide +kernel
theorem dX6_owing_31 : decode cX6_owing 31 = .ok (.iload_n 3, 1) := by decide +kernel
theorem dX6_owing_32 : decode cX6_owing 32 = .ok (.goto 4, 3) := by decide +kernel
theorem dX6_owing_35 : decode cX6_owing 35 = .ok (.iload_n 2, 1) := by decide +kernel
theorem dX6_owing_36 : decode cX6_owing 36 = .ok (.istore_n 2, 1) := by decide +kernel
theorem dX6_owing_37 : decode cX6_owing 37 = .ok (.iinc 3 1, 3) := by decide +kernel
theorem dX6_owing_40 : decode cX6_owing 40 = .ok (.goto (-36), 3) := by decide +kernel
theorem dX6_owing_43 : decode cX6_owing 43 = .ok (.iload_n 2, 1) := by decide +kernel
theorem dX6_owing_44 : decode cX6_owing 44 = .ok (.ireturn, 1) := by decide +kernel
set_option maxRecDepth 20000 in
theorem ggX6_unburnt_X6_isOf : GoodIn wsX6_unburnt wsX6_isOf := goodIn_r _ [7, 8, 9, 10, 6, 11, 1, 12, 13, 14, 15, 16, 17, 18, 19, 20, 21, 22, 23, 24, 25, 26, 27, 28, 29, 30] (by decide +kernel) (by decide +kernel)
set_option maxRecDepth 20000 in
theorem gX6_unburnt_X6_isOf : GoodIn wsX6_unburnt (wsV RX6 221 RX6 yX6_isOf wsX6_isOf) := goodIn_app (goodIn_of _ (by decide +kernel)) ggX6_unburnt_X6_isOf
theorem dX6_unburnt_0 : decode cX6_unburnt 0 = .ok (.iconst 1, 1) := by decide +kernel
theorem dX6_unburnt_1 : decode cX6_unburnt 1 = .ok (.iload_n 1, 1) := by decide +kernel
theorem dX6_unburnt_2 : decode cX6_unburnt 2 = .ok (.ishl, 1) := by decide +kernel
theorem dX6_unburnt_3 : decode cX6_unburnt 3 = .ok (.istore_n 2, 1) := by decide +kernel
theorem dX6_unburnt_4 : decode cX6_unburnt 4 = .ok (.iconst 0, 1) := by decide +kernel
theorem dX6_unburnt_5 : decode cX6_unburnt 5 = .ok (.istore_n 3, 1) := by decide +kernel
theorem dX6_unburnt_6 : decode cX6_unburnt 6 = .ok (.iload_n 3, 1) := by decide +kernel
theorem dX6_unburnt_7 : decode cX6_unburnt 7 = .ok (.iconst 5, 1) := by decide +kernel
theorem dX6_unburnt_8 : decode cX6_unburnt 8 = .ok (.if_icmp .ge 105, 3) := by decide +kernel
theorem dX6_unburnt_11 : decode cX6_unburnt 11 = .ok (.iconst 0, 1) := by decide +kernel
theorem dX6_unburnt_12 : decode cX6_unburnt 12 = .ok (.istore 4, 2) := by decide +kernel
theorem dX6_unburnt_14 : decode cX6_unburnt 14 = .ok (.iload 4, 2) := by decide +kernel
theorem dX6_unburnt_16 : decode cX6_unburnt 16 = .ok (.iconst 5, 1) := by decide +kernel
theorem dX6_unburnt_17 : decode cX6_unburnt 17 = .ok (.if_icmp .ge 90, 3) := by decide +kernel
theorem dX6_unburnt_20 : decode cX6_unburnt 20 = .ok (.iconst 0, 1) := by decide +kernel
theorem dX6_unburnt_21 : decode cX6_unburnt 21 = .ok (.istore 5, 2) := by decide +kernel
theorem dX6_unburnt_23 : decode cX6_unburnt 23 = .ok (.iconst 0, 1) := by decide +kernel
theorem dX6_unburnt_24 : decode cX6_unburnt 24 = .ok (.istore 6, 2) := by decide +kernel
theorem dX6_unburnt_26 : decode cX6_unburnt 26 = .ok (.iload 6, 2) := by decide +kernel
theorem dX6_unburnt_28 : decode cX6_unburnt 28 = .ok (.iconst 5, 1) := by decide +kernel
theorem dX6_unburnt_29 : decode cX6_unburnt 29 = .ok (.if_icmp .ge 40, 3) := by decide +kernel
theorem dX6_unburnt_32 : decode cX6_unburnt 32 = .ok (.iload 5, 2) := by decide +kernel
theorem dX6_unburnt_34 : decode cX6_unburnt 34 = .ok (.iload_n 2, 1) := by decide +kernel
theorem dX6_unburnt_35 : decode cX6_unburnt 35 = .ok (.iload 6, 2) := by decide +kernel
theorem dX6_unburnt_37 : decode cX6_unburnt 37 = .ok (.ishr, 1) := by decide +kernel
theorem dX6_unburnt_38 : decode cX6_unburnt 38 = .ok (.iconst 1, 1) := by decide +kernel
theorem dX6_unburnt_39 : decode cX6_unburnt 39 = .ok (.iand, 1) := by decide +kernel
theorem dX6_unburnt_40 : decode cX6_unburnt 40 = .ok (.iconst 1, 1) := by decide +kernel
theorem dX6_unburnt_41 : decode cX6_unburnt 41 = .ok (.if_icmp .ne 18, 3) := by decide +kernel
theorem dX6_unburnt_44 : decode cX6_unburnt 44 = .ok (.aload_n 0, 1) := by decide +kernel
theorem dX6_unburnt_45 : decode cX6_unburnt 45 = .ok (.getfield 46, 3) := by decide +kernel
theorem dX6_unburnt_48 : decode cX6_unburnt 48 = .ok (.iconst 5, 1) := by decide +kernel
theorem dX6_unburnt_49 : decode cX6_unburnt 49 = .ok (.iload 4, 2) := by decide +kernel
theorem dX6_unburnt_51 : decode cX6_unburnt 51 = .ok (.imul, 1) := by decide +kernel
theorem dX6_unburnt_52 : decode cX6_unburnt 52 = .ok (.iload 6, 2) := by decide +kernel
theorem dX6_unburnt_54 : decode cX6_unburnt 54 = .ok (.iadd, 1) := by decide +kernel
theorem dX6_unburnt_55 : decode cX6_unburnt 55 = .ok (.iaload, 1) := by decide +kernel
theorem dX6_unburnt_56 : decode cX6_unburnt 56 = .ok (.goto 4, 3) := by decide +kernel
theorem dX6_unburnt_59 : decode cX6_unburnt 59 = .ok (.iconst 0, 1) := by decide +kernel
theorem dX6_unburnt_60 : decode cX6_unburnt 60 = .ok (.iadd, 1) := by decide +kernel
theorem dX6_unburnt_61 : decode cX6_unburnt 61 = .ok (.istore 5, 2) := by decide +kernel
theorem dX6_unburnt_63 : decode cX6_unburnt 63 = .ok (.iinc 6 1, 3) := by decide +kernel
theorem dX6_unburnt_66 : decode cX6_unburnt 66 = .ok (.goto (-40), 3) := by decide +kernel
theorem dX6_unburnt_69 : decode cX6_unburnt 69 = .ok (.iload_n 2, 1) := by decide +kernel
theorem dX6_unburnt_70 : decode cX6_unburnt 70 = .ok (.aload_n 0, 1) := by decide +kernel
theorem dX6_unburnt_71 : decode cX6_unburnt 71 = .ok (.iload 4, 2) := by decide +kernel
theorem dX6_unburnt_73 : decode cX6_unburnt 73 = .ok (.invokevirtual 221, 3) := by decide +kernel
theorem dX6_unburnt_76 : decode cX6_unburnt 76 = .ok (.ifCond .eq 15, 3) := by decide +kernel
theorem dX6_unburnt_79 : decode cX6_unburnt 79 = .ok (.aload_n 0, 1) := by decide +kernel
theorem dX6_unburnt_80 : decode cX6_unburnt 80 = .ok (.getfield 52, 3) := by decide +kernel
theorem dX6_unburnt_83 : decode cX6_unburnt 83 = .ok (.iload 4, 2) := by decide +kernel
theorem dX6_unburnt_85 : decode cX6_unburnt 85 = .ok (.iaload, 1) := by decide +kernel
theorem dX6_unburnt_86 : decode cX6_unburnt 86 = .ok (.iload 5, 2) := by decide +kernel
theorem dX6_unburnt_88 : decode cX6_unburnt 88 = .ok (.if_icmp .ge 10, 3) := by decide +kernel
theorem dX6_unburnt_91 : decode cX6_unburnt 91 = .ok (.iconst 1, 1) := by decide +kernel
theorem dX6_unburnt_92 : decode cX6_unburnt 92 = .ok (.iload 4, 2) := by decide +kernel
theorem dX6_unburnt_94 : decode cX6_unburnt 94 = .ok (.ishl, 1) := by decide +kernel
theorem dX6_unburnt_95 : decode cX6_unburnt 95 = .ok (.goto 4, 3) := by decide +kernel
theorem dX6_unburnt_98 : decode cX6_unburnt 98 = .ok (.iconst 0, 1) := by decide +kernel
theorem dX6_unburnt_99 : decode cX6_unburnt 99 = .ok (.ior, 1) := by decide +kernel
theorem dX6_unburnt_100 : decode cX6_unburnt 100 = .ok (.istore_n 2, 1) := by decide +kernel
theorem dX6_unburnt_101 : decode cX6_unburnt 101 = .ok (.iinc 4 1, 3) := by decide +kernel
theorem dX6_unburnt_104 : decode cX6_unburnt 104 = .ok (.goto (-90), 3) := by decide +kernel
theorem dX6_unburnt_107 : decode cX6_unburnt 107 = .ok (.iinc 3 1, 3) := by decide +kernel
theorem dX6_unburnt_110 : decode cX6_unburnt 110 = .ok (.goto (-104), 3) := by decide +kernel
theorem dX6_unburnt_113 : decode cX6_unburnt 113 = .ok (.bipush 31, 2) := by decide +kernel
theorem dX6_unburnt_115 : decode cX6_unburnt 115 = .ok (.iload_n 2, 1) := by decide +kernel
theorem dX6_unburnt_116 : decode cX6_unburnt 116 = .ok (.iconst (-1), 1) := by decide +kernel
theorem dX6_unburnt_117 : decode cX6_unburnt 117 = .ok (.ixor, 1) := by decide +kernel
theorem dX6_unburnt_118 : decode cX6_unburnt 118 = .ok (.iand, 1) := by decide +kernel
theorem dX6_unburnt_119 : decode cX6_unburnt 119 = .ok (.ireturn, 1) := by decide +kernel
set_option maxRecDepth 20000 in
theorem ggX6_reduces_X6_owing : GoodIn wsX6_reduces wsX6_owing := goodIn_r _ [5, 6, 7, 8, 9, 4, 10, 11, 12, 13, 14, 15, 24, 25, 26, 27, 28, 29, 30, 31, 32, 33, 34, 35, 36, 37, 38, 39, 40, 41, 42] (by decide +kernel) (by decide +kernel)
set_option maxRecDepth 20000 in
theorem gX6_reduces_X6_owing : GoodIn wsX6_reduces (wsV RX6 224 RX6 yX6_owing wsX6_owing) := goodIn_app (goodIn_of _ (by decide +kernel)) ggX6_reduces_X6_owing
set_option maxRecDepth 20000 in
theorem ggX6_reduces_X6_gives : GoodIn wsX6_reduces wsX6_gives := goodIn_r _ [19, 6, 15, 24, 25, 26, 27, 28, 29, 30, 31, 32, 33, 34, 35, 36, 37, 38, 39, 40, 41, 42] (by decide +kernel) (by decide +kernel)
set_option maxRecDepth 20000 in
theorem gX6_reduces_X6_gives : GoodIn wsX6_reduces (wsV RX6 227 RX6 yX6_gives wsX6_gives) := goodIn_app (goodIn_of _ (by decide +kernel)) ggX6_reduces_X6_gives
set_option maxRecDepth 20000 in
theorem ggX6_reduces_X6_unburnt : GoodIn wsX6_reduces wsX6_unburnt := goodIn_r _ [23, 15, 6, 7, 8, 9, 4, 10, 11, 12, 13, 14, 24, 25, 26, 27, 28, 29, 30, 31, 32, 33, 34, 35, 36, 37, 38, 39, 40, 41, 42] (by decide +kernel) (by decide +kernel)
set_option maxRecDepth 20000 in
theorem gX6_reduces_X6_unburnt : GoodIn wsX6_reduces (wsV RX6 230 RX6 yX6_unburnt wsX6_unburnt) := goodIn_app (goodIn_of _ (by decide +kernel)) ggX6_reduces_X6_unburnt
theorem dX6_reduces_0 : decode cX6_reduces 0 = .ok (.aload_n 0, 1) := by decide +kernel
theorem dX6_reduces_1 : decode cX6_reduces 1 = .ok (.iload_n 1, 1) := by decide +kernel
theorem dX6_reduces_2 : decode cX6_reduces 2 = .ok (.invokevirtual 224, 3) := by decide +kernel
theorem dX6_reduces_5 : decode cX6_reduces 5 = .ok (.istore_n 2, 1) := by decide +kernel
theorem dX6_reduces_6 : decode cX6_reduces 6 = .ok (.iload_n 2, 1) := by decide +kernel
theorem dX6_reduces_7 : decode cX6_reduces 7 = .ok (.iconst (-1), 1) := by decide +kernel
theorem dX6_reduces_8 : decode cX6_reduces 8 = .ok (.if_icmp .eq 18, 3) := by decide +kernel
theorem dX6_reduces_11 : decode cX6_reduces 11 = .ok (.aload_n 0, 1) := by decide +kernel
theorem dX6_reduces_12 : decode cX6_reduces 12 = .ok (.iload_n 2, 1) := by decide +kernel
theorem dX6_reduces_13 : decode cX6_reduces 13 = .ok (.iconst (-1), 1) := by decide +kernel
theorem dX6_reduces_14 : decode cX6_reduces 14 = .ok (.invokevirtual 227, 3) := by decide +kernel
theorem dX6_reduces_17 : decode cX6_reduces 17 = .ok (.aload_n 0, 1) := by decide +kernel
theorem dX6_reduces_18 : decode cX6_reduces 18 = .ok (.iload_n 1, 1) := by decide +kernel
theorem dX6_reduces_19 : decode cX6_reduces 19 = .ok (.invokevirtual 224, 3) := by decide +kernel
theorem dX6_reduces_22 : decode cX6_reduces 22 = .ok (.istore_n 2, 1) := by decide +kernel
theorem dX6_reduces_23 : decode cX6_reduces 23 = .ok (.goto (-17), 3) := by decide +kernel
theorem dX6_reduces_26 : decode cX6_reduces 26 = .ok (.aload_n 0, 1) := by decide +kernel
theorem dX6_reduces_27 : decode cX6_reduces 27 = .ok (.iload_n 1, 1) := by decide +kernel
theorem dX6_reduces_28 : decode cX6_reduces 28 = .ok (.invokevirtual 230, 3) := by decide +kernel
theorem dX6_reduces_31 : decode cX6_reduces 31 = .ok (.istore_n 2, 1) := by decide +kernel
theorem dX6_reduces_32 : decode cX6_reduces 32 = .ok (.iload_n 2, 1) := by decide +kernel
theorem dX6_reduces_33 : decode cX6_reduces 33 = .ok (.ifCond .eq 35, 3) := by decide +kernel
theorem dX6_reduces_36 : decode cX6_reduces 36 = .ok (.iconst 0, 1) := by decide +kernel
theorem dX6_reduces_37 : decode cX6_reduces 37 = .ok (.istore_n 3, 1) := by decide +kernel
theorem dX6_reduces_38 : decode cX6_reduces 38 = .ok (.iload_n 3, 1) := by decide +kernel
theorem dX6_reduces_39 : decode cX6_reduces 39 = .ok (.iconst 5, 1) := by decide +kernel
theorem dX6_reduces_40 : decode cX6_reduces 40 = .ok (.if_icmp .ge 19, 3) := by decide +kernel
theorem dX6_reduces_43 : decode cX6_reduces 43 = .ok (.aload_n 0, 1) := by decide +kernel
theorem dX6_reduces_44 : decode cX6_reduces 44 = .ok (.iload_n 3, 1) := by decide +kernel
theorem dX6_reduces_45 : decode cX6_reduces 45 = .ok (.iload_n 2, 1) := by decide +kernel
theorem dX6_reduces_46 : decode cX6_reduces 46 = .ok (.iload_n 3, 1) := by decide +kernel
theorem dX6_reduces_47 : decode cX6_reduces 47 = .ok (.ishr, 1) := by decide +kernel
theorem dX6_reduces_48 : decode cX6_reduces 48 = .ok (.iconst 1, 1) := by decide +kernel
theorem dX6_reduces_49 : decode cX6_reduces 49 = .ok (.iand, 1) := by decide +kernel
theorem dX6_reduces_50 : decode cX6_reduces 50 = .ok (.invokevirtual 227, 3) := by decide +kernel
theorem dX6_reduces_53 : decode cX6_reduces 53 = .ok (.iinc 3 1, 3) := by decide +kernel
theorem dX6_reduces_56 : decode cX6_reduces 56 = .ok (.goto (-18), 3) := by decide +kernel
theorem dX6_reduces_59 : decode cX6_reduces 59 = .ok (.aload_n 0, 1) := by decide +kernel
theorem dX6_reduces_60 : decode cX6_reduces 60 = .ok (.iload_n 1, 1) := by decide +kernel
theorem dX6_reduces_61 : decode cX6_reduces 61 = .ok (.invokevirtual 230, 3) := by decide +kernel
theorem dX6_reduces_64 : decode cX6_reduces 64 = .ok (.istore_n 2, 1) := by decide +kernel
theorem dX6_reduces_65 : decode cX6_reduces 65 = .ok (.goto (-33), 3) := by decide +kernel
theorem dX6_reduces_68 : decode cX6_reduces 68 = .ok (.return_, 1) := by decide +kernel
set_option maxRecDepth 20000 in
theorem ggX6_reduced_X6_isVertex : GoodIn wsX6_reduced wsX6_isVertex := goodIn_r _ [6, 7, 8, 5, 9] (by decide +kernel) (by decide +kernel)
set_option maxRecDepth 20000 in
theorem gX6_reduced_X6_isVertex : GoodIn wsX6_reduced (va_wsS RX6 215 yX6_isVertex wsX6_isVertex) := goodIn_app (goodIn_of _ (by decide +kernel)) ggX6_reduced_X6_isVertex
set_option maxRecDepth 20000 in
theorem ggX6_reduced_X6_isOf : GoodIn wsX6_reduced wsX6_isOf := goodIn_r _ [13, 14, 15, 16, 5, 17, 18, 44, 45, 46, 47, 48, 49, 50, 51, 52, 53, 54, 55, 56, 57, 58, 59, 60, 61, 62] (by decide +kernel) (by decide +kernel)
set_option maxRecDepth 20000 in
theorem gX6_reduced_X6_isOf : GoodIn wsX6_reduced (wsV RX6 221 RX6 yX6_isOf wsX6_isOf) := goodIn_app (goodIn_of _ (by decide +kernel)) ggX6_reduced_X6_isOf
set_option maxRecDepth 20000 in
theorem ggX6_reduced_X6_isConnected : GoodIn wsX6_reduced wsX6_isConnected := goodIn_r _ [22, 18, 10, 11, 12, 5, 13, 14, 15, 16, 17, 44, 45, 46, 47, 48, 49, 50, 51, 52, 53, 54, 55, 56, 57, 58, 59, 60, 61, 62] (by decide +kernel) (by decide +kernel)
set_option maxRecDepth 20000 in
theorem gX6_reduced_X6_isConnected : GoodIn wsX6_reduced (wsV RX6 233 RX6 yX6_isConnected wsX6_isConnected) := goodIn_app (goodIn_of _ (by decide +kernel)) ggX6_reduced_X6_isConnected
set_option maxRecDepth 20000 in
theorem ggX6_reduced_X6_can : GoodIn wsX6_reduced wsX6_can := goodIn_r _ [26, 27, 44, 45, 46, 47, 48, 49, 50, 51, 52, 53, 54, 55, 56, 57, 58, 59, 60, 61, 62] (by decide +kernel) (by decide +kernel)
set_option maxRecDepth 20000 in
theorem gX6_reduced_X6_can : GoodIn wsX6_reduced (wsV RX6 82 RX6 yX6_can wsX6_can) := goodIn_app (goodIn_of _ (by decide +kernel)) ggX6_reduced_X6_can
set_option maxRecDepth 20000 in
theorem ggX6_reduced_X6_reduces : GoodIn wsX6_reduced wsX6_reduces := goodIn_r _ [31, 32, 33, 34, 5, 35, 1, 10, 11, 12, 13, 14, 15, 16, 17, 18, 36, 37, 38, 39, 40, 41, 42, 43, 44, 45, 46, 47, 48, 49, 50, 51, 52, 53, 54, 55, 56, 57, 58, 59, 60, 61, 62] (by decide +kernel) (by decide +kernel)
set_option maxRecDepth 20000 in
theorem gX6_reduced_X6_reduces : GoodIn wsX6_reduced (wsV RX6 236 RX6 yX6_reduces wsX6_reduces) := goodIn_app (goodIn_of _ (by decide +kernel)) ggX6_reduced_X6_reduces
theorem dX6_reduced_0 : decode cX6_reduced 0 = .ok (.iload_n 1, 1) := by decide +kernel
theorem dX6_reduced_1 : decode cX6_reduced 1 = .ok (.invokestatic 215, 3) := by decide +kernel
theorem dX6_reduced_4 : decode cX6_reduced 4 = .ok (.ifCond .eq 14, 3) := by decide +kernel
theorem dX6_reduced_7 : decode cX6_reduced 7 = .ok (.iload_n 2, 1) := by decide +kernel
theorem dX6_reduced_8 : decode cX6_reduced 8 = .ok (.invokestatic 215, 3) := by decide +kernel
theorem dX6_reduced_11 : decode cX6_reduced 11 = .ok (.ifCond .eq 7, 3) := by decide +kernel
theorem dX6_reduced_14 : decode cX6_reduced 14 = .ok (.iconst 1, 1) := by decide +kernel
theorem dX6_reduced_15 : decode cX6_reduced 15 = .ok (.goto 4, 3) := by decide +kernel
theorem dX6_reduced_18 : decode cX6_reduced 18 = .ok (.iconst 0, 1) := by decide +kernel
theorem dX6_reduced_19 : decode cX6_reduced 19 = .ok (.istore_n 3, 1) := by decide +kernel
theorem dX6_reduced_20 : decode cX6_reduced 20 = .ok (.aload_n 0, 1) := by decide +kernel
theorem dX6_reduced_21 : decode cX6_reduced 21 = .ok (.iload_n 3, 1) := by decide +kernel
theorem dX6_reduced_22 : decode cX6_reduced 22 = .ok (.ifCond .ne 7, 3) := by decide +kernel
theorem dX6_reduced_25 : decode cX6_reduced 25 = .ok (.iconst 1, 1) := by decide +kernel
theorem dX6_reduced_26 : decode cX6_reduced 26 = .ok (.goto 31, 3) := by decide +kernel
theorem dX6_reduced_29 : decode cX6_reduced 29 = .ok (.aload_n 0, 1) := by decide +kernel
theorem dX6_reduced_30 : decode cX6_reduced 30 = .ok (.iload_n 1, 1) := by decide +kernel
theorem dX6_reduced_31 : decode cX6_reduced 31 = .ok (.invokevirtual 221, 3) := by decide +kernel
theorem dX6_reduced_34 : decode cX6_reduced 34 = .ok (.ifCond .eq 22, 3) := by decide +kernel
theorem dX6_reduced_37 : decode cX6_reduced 37 = .ok (.aload_n 0, 1) := by decide +kernel
theorem dX6_reduced_38 : decode cX6_reduced 38 = .ok (.iload_n 2, 1) := by decide +kernel
theorem dX6_reduced_39 : decode cX6_reduced 39 = .ok (.invokevirtual 221, 3) := by decide +kernel
theorem dX6_reduced_42 : decode cX6_reduced 42 = .ok (.ifCond .eq 14, 3) := by decide +kernel
theorem dX6_reduced_45 : decode cX6_reduced 45 = .ok (.aload_n 0, 1) := by decide +kernel
theorem dX6_reduced_46 : decode cX6_reduced 46 = .ok (.invokevirtual 233, 3) := by decide +kernel
theorem dX6_reduced_49 : decode cX6_reduced 49 = .ok (.ifCond .eq 7, 3) := by decide +kernel
theorem dX6_reduced_52 : decode cX6_reduced 52 = .ok (.iconst 0, 1) := by decide +kernel
theorem dX6_reduced_53 : decode cX6_reduced 53 = .ok (.goto 4, 3) := by decide +kernel
theorem dX6_reduced_56 : decode cX6_reduced 56 = .ok (.iconst 2, 1) := by decide +kernel
theorem dX6_reduced_57 : decode cX6_reduced 57 = .ok (.invokevirtual 82, 3) := by decide +kernel
theorem dX6_reduced_60 : decode cX6_reduced 60 = .ok (.ifCond .ne 5, 3) := by decide +kernel
theorem dX6_reduced_63 : decode cX6_reduced 63 = .ok (.iconst 0, 1) := by decide +kernel
theorem dX6_reduced_64 : decode cX6_reduced 64 = .ok (.ireturn, 1) := by decide +kernel
theorem dX6_reduced_65 : decode cX6_reduced 65 = .ok (.iconst 0, 1) := by decide +kernel
theorem dX6_reduced_66 : decode cX6_reduced 66 = .ok (.istore 4, 2) := by decide +kernel
theorem dX6_reduced_68 : decode cX6_reduced 68 = .ok (.iload 4, 2) := by decide +kernel
theorem dX6_reduced_70 : decode cX6_reduced 70 = .ok (.iconst 5, 1) := by decide +kernel
theorem dX6_reduced_71 : decode cX6_reduced 71 = .ok (.if_icmp .ge 23, 3) := by decide +kernel
theorem dX6_reduced_74 : decode cX6_reduced 74 = .ok (.aload_n 0, 1) := by decide +kernel
theorem dX6_reduced_75 : decode cX6_reduced 75 = .ok (.getfield 52, 3) := by decide +kernel
theorem dX6_reduced_78 : decode cX6_reduced 78 = .ok (.iload 4, 2) := by decide +kernel
theorem dX6_reduced_80 : decode cX6_reduced 80 = .ok (.aload_n 0, 1) := by decide +kernel
theorem dX6_reduced_81 : decode cX6_reduced 81 = .ok (.getfield 49, 3) := by decide +kernel
theorem dX6_reduced_84 : decode cX6_reduced 84 = .ok (.iload 4, 2) := by decide +kernel
theorem dX6_reduced_86 : decode cX6_reduced 86 = .ok (.iaload, 1) := by decide +kernel
theorem dX6_reduced_87 : decode cX6_reduced 87 = .ok (.iastore, 1) := by decide +kernel
theorem dX6_reduced_88 : decode cX6_reduced 88 = .ok (.iinc 4 1, 3) := by decide +kernel
theorem dX6_reduced_91 : decode cX6_reduced 91 = .ok (.goto (-23), 3) := by decide +kernel
theorem dX6_reduced_94 : decode cX6_reduced 94 = .ok (.aload_n 0, 1) := by decide +kernel
theorem dX6_reduced_95 : decode cX6_reduced 95 = .ok (.iload_n 1, 1) := by decide +kernel
theorem dX6_reduced_96 : decode cX6_reduced 96 = .ok (.invokevirtual 236, 3) := by decide +kernel
theorem dX6_reduced_99 : decode cX6_reduced 99 = .ok (.aload_n 0, 1) := by decide +kernel
theorem dX6_reduced_100 : decode cX6_reduced 100 = .ok (.getfield 52, 3) := by decide +kernel
theorem dX6_reduced_103 : decode cX6_reduced 103 = .ok (.iload_n 2, 1) := by decide +kernel
theorem dX6_reduced_104 : decode cX6_reduced 104 = .ok (.iaload, 1) := by decide +kernel
theorem dX6_reduced_105 : decode cX6_reduced 105 = .ok (.ireturn, 1) := by decide +kernel
set_option maxRecDepth 20000 in
theorem ggX6_staysWithout_X6_reduces : GoodIn wsX6_staysWithout wsX6_reduces := goodIn_r _ [7, 8, 9, 10, 6, 11, 1, 12, 13, 14, 15, 16, 17, 18, 19, 20, 21, 22, 23, 24, 25, 26, 27, 28, 29, 30, 31, 32, 33, 34, 35, 36, 37, 38, 39, 40, 41, 42, 43, 44, 45, 46, 47] (by decide +kernel) (by decide +kernel)
set_option maxRecDepth 20000 in
theorem gX6_staysWithout_X6_reduces : GoodIn wsX6_staysWithout (wsV RX6 236 RX6 yX6_reduces wsX6_reduces) := goodIn_app (goodIn_of _ (by decide +kernel)) ggX6_staysWithout_X6_reduces
theorem dX6_staysWithout_0 : decode cX6_staysWithout 0 = .ok (.aload_n 0, 1) := by decide +kernel
theorem dX6_staysWithout_1 : decode cX6_staysWithout 1 = .ok (.getfield 52, 3) := by decide +kernel
theorem dX6_staysWithout_4 : decode cX6_staysWithout 4 = .ok (.iconst 0, 1) := by decide +kernel
theorem dX6_staysWithout_5 : decode cX6_staysWithout 5 = .ok (.aload_n 0, 1) := by decide +kernel
theorem dX6_staysWithout_6 : decode cX6_staysWithout 6 = .ok (.getfield 55, 3) := by decide +kernel
theorem dX6_staysWithout_9 : decode cX6_staysWithout 9 = .ok (.iconst 0, 1) := by decide +kernel
theorem dX6_staysWithout_10 : decode cX6_staysWithout 10 = .ok (.iaload, 1) := by decide +kernel
theorem dX6_staysWithout_11 : decode cX6_staysWithout 11 = .ok (.iload 5, 2) := by decide +kernel
theorem dX6_staysWithout_13 : decode cX6_staysWithout 13 = .ok (.iload_n 1, 1) := by decide +kernel
theorem dX6_staysWithout_14 : decode cX6_staysWithout 14 = .ok (.isub, 1) := by decide +kernel
theorem dX6_staysWithout_15 : decode cX6_staysWithout 15 = .ok (.iload_n 2, 1) := by decide +kernel
theorem dX6_staysWithout_16 : decode cX6_staysWithout 16 = .ok (.isub, 1) := by decide +kernel
theorem dX6_staysWithout_17 : decode cX6_staysWithout 17 = .ok (.iload_n 3, 1) := by decide +kernel
theorem dX6_staysWithout_18 : decode cX6_staysWithout 18 = .ok (.isub, 1) := by decide +kernel
theorem dX6_staysWithout_19 : decode cX6_staysWithout 19 = .ok (.iload 4, 2) := by decide +kernel
theorem dX6_staysWithout_21 : decode cX6_staysWithout 21 = .ok (.isub, 1) := by decide +kernel
theorem dX6_staysWithout_22 : decode cX6_staysWithout 22 = .ok (.isub, 1) := by decide +kernel
theorem dX6_staysWithout_23 : decode cX6_staysWithout 23 = .ok (.iastore, 1) := by decide +kernel
theorem dX6_staysWithout_24 : decode cX6_staysWithout 24 = .ok (.aload_n 0, 1) := by decide +kernel
theorem dX6_staysWithout_25 : decode cX6_staysWithout 25 = .ok (.getfield 52, 3) := by decide +kernel
theorem dX6_staysWithout_28 : decode cX6_staysWithout 28 = .ok (.iconst 1, 1) := by decide +kernel
theorem dX6_staysWithout_29 : decode cX6_staysWithout 29 = .ok (.aload_n 0, 1) := by decide +kernel
theorem dX6_staysWithout_30 : decode cX6_staysWithout 30 = .ok (.getfield 55, 3) := by decide +kernel
theorem dX6_staysWithout_33 : decode cX6_staysWithout 33 = .ok (.iconst 1, 1) := by decide +kernel
theorem dX6_staysWithout_34 : decode cX6_staysWithout 34 = .ok (.iaload, 1) := by decide +kernel
theorem dX6_staysWithout_35 : decode cX6_staysWithout 35 = .ok (.iload_n 1, 1) := by decide +kernel
theorem dX6_staysWithout_36 : decode cX6_staysWithout 36 = .ok (.isub, 1) := by decide +kernel
theorem dX6_staysWithout_37 : decode cX6_staysWithout 37 = .ok (.iastore, 1) := by decide +kernel
theorem dX6_staysWithout_38 : decode cX6_staysWithout 38 = .ok (.aload_n 0, 1) := by decide +kernel
theorem dX6_staysWithout_39 : decode cX6_staysWithout 39 = .ok (.getfield 52, 3) := by decide +kernel
theorem dX6_staysWithout_42 : decode cX6_staysWithout 42 = .ok (.iconst 2, 1) := by decide +kernel
theorem dX6_staysWithout_43 : decode cX6_staysWithout 43 = .ok (.aload_n 0, 1) := by decide +kernel
theorem dX6_staysWithout_44 : decode cX6_staysWithout 44 = .ok (.getfield 55, 3) := by decide +kernel
theorem dX6_staysWithout_47 : decode cX6_staysWithout 47 = .ok (.iconst 2, 1) := by decide +kernel
theorem dX6_staysWithout_48 : decode cX6_staysWithout 48 = .ok (.iaload, 1) := by decide +kernel
theorem dX6_staysWithout_49 : decode cX6_staysWithout 49 = .ok (.iload_n 2, 1) := by decide +kernel
theorem dX6_staysWithout_50 : decode cX6_staysWithout 50 = .ok (.isub, 1) := by decide +kernel
theorem dX6_staysWithout_51 : decode cX6_staysWithout 51 = .ok (.iastore, 1) := by decide +kernel
theorem dX6_staysWithout_52 : decode cX6_staysWithout 52 = .ok (.aload_n 0, 1) := by decide +kernel
theorem dX6_staysWithout_53 : decode cX6_staysWithout 53 = .ok (.getfield 52, 3) := by decide +kernel
theorem dX6_staysWithout_56 : decode cX6_staysWithout 56 = .ok (.iconst 3, 1) := by decide +kernel
theorem dX6_staysWithout_57 : decode cX6_staysWithout 57 = .ok (.aload_n 0, 1) := by decide +kernel
theorem dX6_staysWithout_58 : decode cX6_staysWithout 58 = .ok (.getfield 55, 3) := by decide +kernel
theorem dX6_staysWithout_61 : decode cX6_staysWithout 61 = .ok (.iconst 3, 1) := by decide +kernel
theorem dX6_staysWithout_62 : decode cX6_staysWithout 62 = .ok (.iaload, 1) := by decide +kernel
theorem dX6_staysWithout_63 : decode cX6_staysWithout 63 = .ok (.iload_n 3, 1) := by decide +kernel
theorem dX6_staysWithout_64 : decode cX6_staysWithout 64 = .ok (.isub, 1) := by decide +kernel
theorem dX6_staysWithout_65 : decode cX6_staysWithout 65 = .ok (.iastore, 1) := by decide +kernel
theorem dX6_staysWithout_66 : decode cX6_staysWithout 66 = .ok (.aload_n 0, 1) := by decide +kernel
theorem dX6_staysWithout_67 : decode cX6_staysWithout 67 = .ok (.getfield 52, 3) := by decide +kernel
theorem dX6_staysWithout_70 : decode cX6_staysWithout 70 = .ok (.iconst 4, 1) := by decide +kernel
theorem dX6_staysWithout_71 : decode cX6_staysWithout 71 = .ok (.aload_n 0, 1) := by decide +kernel
theorem dX6_staysWithout_72 : decode cX6_staysWithout 72 = .ok (.getfield 55, 3) := by decide +kernel
theorem dX6_staysWithout_75 : decode cX6_staysWithout 75 = .ok (.iconst 4, 1) := by decide +kernel
theorem dX6_staysWithout_76 : decode cX6_staysWithout 76 = .ok (.iaload, 1) := by decide +kernel
theorem dX6_staysWithout_77 : decode cX6_staysWithout 77 = .ok (.iload 4, 2) := by decide +kernel
theorem dX6_staysWithout_79 : decode cX6_staysWithout 79 = .ok (.isub, 1) := by decide +kernel
theorem dX6_staysWithout_80 : decode cX6_staysWithout 80 = .ok (.iastore, 1) := by decide +kernel
theorem dX6_staysWithout_81 : decode cX6_staysWithout 81 = .ok (.aload_n 0, 1) := by decide +kernel
theorem dX6_staysWithout_82 : decode cX6_staysWithout 82 = .ok (.iconst 0, 1) := by decide +kernel
theorem dX6_staysWithout_83 : decode cX6_staysWithout 83 = .ok (.invokevirtual 236, 3) := by decide +kernel
theorem dX6_staysWithout_86 : decode cX6_staysWithout 86 = .ok (.aload_n 0, 1) := by decide +kernel
theorem dX6_staysWithout_87 : decode cX6_staysWithout 87 = .ok (.getfield 52, 3) := by decide +kernel
theorem dX6_staysWithout_90 : decode cX6_staysWithout 90 = .ok (.iconst 0, 1) := by decide +kernel
theorem dX6_staysWithout_91 : decode cX6_staysWithout 91 = .ok (.iaload, 1) := by decide +kernel
theorem dX6_staysWithout_92 : decode cX6_staysWithout 92 = .ok (.ifCond .lt 7, 3) := by decide +kernel
theorem dX6_staysWithout_95 : decode cX6_staysWithout 95 = .ok (.iconst 1, 1) := by decide +kernel
theorem dX6_staysWithout_96 : decode cX6_staysWithout 96 = .ok (.goto 4, 3) := by decide +kernel
theorem dX6_staysWithout_99 : decode cX6_staysWithout 99 = .ok (.iconst 0, 1) := by decide +kernel
theorem dX6_staysWithout_100 : decode cX6_staysWithout 100 = .ok (.ireturn, 1) := by decide +kernel
set_option maxRecDepth 20000 in
theorem ggX6_hasRank_X6_isOf : GoodIn wsX6_hasRank wsX6_isOf := goodIn_r _ [5, 6, 7, 8, 4, 9, 10, 33, 34, 35, 36, 37, 38, 39, 40, 41, 42, 43, 44, 45, 46, 47, 48, 49, 50, 51] (by decide +kernel) (by decide +kernel)
set_option maxRecDepth 20000 in
theorem gX6_hasRank_X6_isOf : GoodIn wsX6_hasRank (wsV RX6 221 RX6 yX6_isOf wsX6_isOf) := goodIn_app (goodIn_of _ (by decide +kernel)) ggX6_hasRank_X6_isOf
set_option maxRecDepth 20000 in
theorem ggX6_hasRank_X6_staysWithout : GoodIn wsX6_hasRank wsX6_staysWithout := goodIn_r _ [14, 15, 16, 17, 18, 19, 4, 20, 21, 22, 23, 24, 1, 2, 3, 5, 6, 7, 8, 9, 10, 25, 26, 27, 28, 29, 30, 31, 32, 33, 34, 35, 36, 37, 38, 39, 40, 41, 42, 43, 44, 45, 46, 47, 48, 49, 50, 51] (by decide +kernel) (by decide +kernel)
set_option maxRecDepth 20000 in
theorem gX6_hasRank_X6_staysWithout : GoodIn wsX6_hasRank (wsV RX6 239 RX6 yX6_staysWithout wsX6_staysWithout) := goodIn_app (goodIn_of _ (by decide +kernel)) ggX6_hasRank_X6_staysWithout
theorem dX6_hasRank_0 : decode cX6_hasRank 0 = .ok (.iconst 1, 1) := by decide +kernel
theorem dX6_hasRank_1 : decode cX6_hasRank 1 = .ok (.istore_n 2, 1) := by decide +kernel
theorem dX6_hasRank_2 : decode cX6_hasRank 2 = .ok (.iconst 0, 1) := by decide +kernel
theorem dX6_hasRank_3 : decode cX6_hasRank 3 = .ok (.istore_n 3, 1) := by decide +kernel
theorem dX6_hasRank_4 : decode cX6_hasRank 4 = .ok (.iload_n 3, 1) := by decide +kernel
theorem dX6_hasRank_5 : decode cX6_hasRank 5 = .ok (.aload_n 0, 1) := by decide +kernel
theorem dX6_hasRank_6 : decode cX6_hasRank 6 = .ok (.iconst 1, 1) := by decide +kernel
theorem dX6_hasRank_7 : decode cX6_hasRank 7 = .ok (.invokevirtual 221, 3) := by decide +kernel
theorem dX6_hasRank_10 : decode cX6_hasRank 10 = .ok (.ifCond .eq 7, 3) := by decide +kernel
theorem dX6_hasRank_13 : decode cX6_hasRank 13 = .ok (.iload_n 1, 1) := by decide +kernel
theorem dX6_hasRank_14 : decode cX6_hasRank 14 = .ok (.goto 4, 3) := by decide +kernel
theorem dX6_hasRank_17 : decode cX6_hasRank 17 = .ok (.iconst 0, 1) := by decide +kernel
theorem dX6_hasRank_18 : decode cX6_hasRank 18 = .ok (.if_icmp .gt 122, 3) := by decide +kernel
theorem dX6_hasRank_21 : decode cX6_hasRank 21 = .ok (.iconst 0, 1) := by decide +kernel
theorem dX6_hasRank_22 : decode cX6_hasRank 22 = .ok (.istore 4, 2) := by decide +kernel
theorem dX6_hasRank_24 : decode cX6_hasRank 24 = .ok (.iload 4, 2) := by decide +kernel
theorem dX6_hasRank_26 : decode cX6_hasRank 26 = .ok (.aload_n 0, 1) := by decide +kernel
theorem dX6_hasRank_27 : decode cX6_hasRank 27 = .ok (.iconst 2, 1) := by decide +kernel
theorem dX6_hasRank_28 : decode cX6_hasRank 28 = .ok (.invokevirtual 221, 3) := by decide +kernel
theorem dX6_hasRank_31 : decode cX6_hasRank 31 = .ok (.ifCond .eq 9, 3) := by decide +kernel
theorem dX6_hasRank_34 : decode cX6_hasRank 34 = .ok (.iload_n 1, 1) := by decide +kernel
theorem dX6_hasRank_35 : decode cX6_hasRank 35 = .ok (.iload_n 3, 1) := by decide +kernel
theorem dX6_hasRank_36 : decode cX6_hasRank 36 = .ok (.isub, 1) := by decide +kernel
theorem dX6_hasRank_37 : decode cX6_hasRank 37 = .ok (.goto 4, 3) := by decide +kernel
theorem dX6_hasRank_40 : decode cX6_hasRank 40 = .ok (.iconst 0, 1) := by decide +kernel
theorem dX6_hasRank_41 : decode cX6_hasRank 41 = .ok (.if_icmp .gt 93, 3) := by decide +kernel
theorem dX6_hasRank_44 : decode cX6_hasRank 44 = .ok (.iconst 0, 1) := by decide +kernel
theorem dX6_hasRank_45 : decode cX6_hasRank 45 = .ok (.istore 5, 2) := by decide +kernel
theorem dX6_hasRank_47 : decode cX6_hasRank 47 = .ok (.iload 5, 2) := by decide +kernel
theorem dX6_hasRank_49 : decode cX6_hasRank 49 = .ok (.aload_n 0, 1) := by decide +kernel
theorem dX6_hasRank_50 : decode cX6_hasRank 50 = .ok (.iconst 3, 1) := by decide +kernel
theorem dX6_hasRank_51 : decode cX6_hasRank 51 = .ok (.invokevirtual 221, 3) := by decide +kernel
theorem dX6_hasRank_54 : decode cX6_hasRank 54 = .ok (.ifCond .eq 12, 3) := by decide +kernel
theorem dX6_hasRank_57 : decode cX6_hasRank 57 = .ok (.iload_n 1, 1) := by decide +kernel
theorem dX6_hasRank_58 : decode cX6_hasRank 58 = .ok (.iload_n 3, 1) := by decide +kernel
theorem dX6_hasRank_59 : decode cX6_hasRank 59 = .ok (.isub, 1) := by decide +kernel
theorem dX6_hasRank_60 : decode cX6_hasRank 60 = .ok (.iload 4, 2) := by decide +kernel
theorem dX6_hasRank_62 : decode cX6_hasRank 62 = .ok (.isub, 1) := by decide +kernel
theorem dX6_hasRank_63 : decode cX6_hasRank 63 = .ok (.goto 4, 3) := by decide +kernel
theorem dX6_hasRank_66 : decode cX6_hasRank 66 = .ok (.iconst 0, 1) := by decide +kernel
theorem dX6_hasRank_67 : decode cX6_hasRank 67 = .ok (.if_icmp .gt 61, 3) := by decide +kernel
theorem dX6_hasRank_70 : decode cX6_hasRank 70 = .ok (.iconst 0, 1) := by decide +kernel
theorem dX6_hasRank_71 : decode cX6_hasRank 71 = .ok (.istore 6, 2) := by decide +kernel
theorem dX6_hasRank_73 : decode cX6_hasRank 73 = .ok (.iload 6, 2) := by decide +kernel
theorem dX6_hasRank_75 : decode cX6_hasRank 75 = .ok (.aload_n 0, 1) := by decide +kernel
theorem dX6_hasRank_76 : decode cX6_hasRank 76 = .ok (.iconst 4, 1) := by decide +kernel
theorem dX6_hasRank_77 : decode cX6_hasRank 77 = .ok (.invokevirtual 221, 3) := by decide +kernel
theorem dX6_hasRank_80 : decode cX6_hasRank 80 = .ok (.ifCond .eq 15, 3) := by decide +kernel
theorem dX6_hasRank_83 : decode cX6_hasRank 83 = .ok (.iload_n 1, 1) := by decide +kernel
theorem dX6_hasRank_84 : decode cX6_hasRank 84 = .ok (.iload_n 3, 1) := by decide +kernel
theorem dX6_hasRank_85 : decode cX6_hasRank 85 = .ok (.isub, 1) := by decide +kernel
theorem dX6_hasRank_86 : decode cX6_hasRank 86 = .ok (.iload 4, 2) := by decide +kernel
theorem dX6_hasRank_88 : decode cX6_hasRank 88 = .ok (.isub, 1) := by decide +kernel
theorem dX6_hasRank_89 : decode cX6_hasRank 89 = .ok (.iload 5, 2) := by decide +kernel
theorem dX6_hasRank_91 : decode cX6_hasRank 91 = .ok (.isub, 1) := by decide +kernel
theorem dX6_hasRank_92 : decode cX6_hasRank 92 = .ok (.goto 4, 3) := by decide +kernel
theorem dX6_hasRank_95 : decode cX6_hasRank 95 = .ok (.iconst 0, 1) := by decide +kernel
theorem dX6_hasRank_96 : decode cX6_hasRank 96 = .ok (.if_icmp .gt 26, 3) := by decide +kernel
theorem dX6_hasRank_99 : decode cX6_hasRank 99 = .ok (.iload_n 2, 1) := by decide +kernel
theorem dX6_hasRank_100 : decode cX6_hasRank 100 = .ok (.ifCond .eq 22, 3) := by decide +kernel
theorem dX6_hasRank_103 : decode cX6_hasRank 103 = .ok (.aload_n 0, 1) := by decide +kernel
theorem dX6_hasRank_104 : decode cX6_hasRank 104 = .ok (.iload_n 3, 1) := by decide +kernel
theorem dX6_hasRank_105 : decode cX6_hasRank 105 = .ok (.iload 4, 2) := by decide +kernel
theorem dX6_hasRank_107 : decode cX6_hasRank 107 = .ok (.iload 5, 2) := by decide +kernel
theorem dX6_hasRank_109 : decode cX6_hasRank 109 = .ok (.iload 6, 2) := by decide +kernel
theorem dX6_hasRank_111 : decode cX6_hasRank 111 = .ok (.iload_n 1, 1) := by decide +kernel
theorem dX6_hasRank_112 : decode cX6_hasRank 112 = .ok (.invokevirtual 239, 3) := by decide +kernel
theorem dX6_hasRank_115 : decode cX6_hasRank 115 = .ok (.istore_n 2, 1) := by decide +kernel
theorem dX6_hasRank_116 : decode cX6_hasRank 116 = .ok (.iinc 6 1, 3) := by decide +kernel
theorem dX6_hasRank_119 : decode cX6_hasRank 119 = .ok (.goto (-46), 3) := by decide +kernel
theorem dX6_hasRank_122 : decode cX6_hasRank 122 = .ok (.iinc 5 1, 3) := by decide +kernel
theorem dX6_hasRank_125 : decode cX6_hasRank 125 = .ok (.goto (-78), 3) := by decide +kernel
theorem dX6_hasRank_128 : decode cX6_hasRank 128 = .ok (.iinc 4 1, 3) := by decide +kernel
theorem dX6_hasRank_131 : decode cX6_hasRank 131 = .ok (.goto (-107), 3) := by decide +kernel
theorem dX6_hasRank_134 : decode cX6_hasRank 134 = .ok (.iinc 3 1, 3) := by decide +kernel
theorem dX6_hasRank_137 : decode cX6_hasRank 137 = .ok (.goto (-133), 3) := by decide +kernel
theorem dX6_hasRank_140 : decode cX6_hasRank 140 = .ok (.iload_n 2, 1) := by decide +kernel
theorem dX6_hasRank_141 : decode cX6_hasRank 141 = .ok (.ireturn, 1) := by decide +kernel
set_option maxRecDepth 20000 in
theorem ggX6_degreeOfBase_X6_isOf : GoodIn wsX6_degreeOfBase wsX6_isOf := goodIn_r _ [6, 7, 8, 9, 5, 10, 11, 12, 13, 14, 15, 16, 17, 18, 19, 20, 21, 22, 23, 24, 25, 26, 27, 28, 29, 30] (by decide +kernel) (by decide +kernel)
set_option maxRecDepth 20000 in
theorem gX6_degreeOfBase_X6_isOf : GoodIn wsX6_degreeOfBase (wsV RX6 221 RX6 yX6_isOf wsX6_isOf) := goodIn_app (goodIn_of _ (by decide +kernel)) ggX6_degreeOfBase_X6_isOf
theorem dX6_degreeOfBase_0 : decode cX6_degreeOfBase 0 = .ok (.iconst 0, 1) := by decide +kernel
theorem dX6_degreeOfBase_1 : decode cX6_degreeOfBase 1 = .ok (.istore_n 1, 1) := by decide +kernel
theorem dX6_degreeOfBase_2 : decode cX6_degreeOfBase 2 = .ok (.iconst 0, 1) := by decide +kernel
theorem dX6_degreeOfBase_3 : decode cX6_degreeOfBase 3 = .ok (.istore_n 2, 1) := by decide +kernel
theorem dX6_degreeOfBase_4 : decode cX6_degreeOfBase 4 = .ok (.iload_n 2, 1) := by decide +kernel
theorem dX6_degreeOfBase_5 : decode cX6_degreeOfBase 5 = .ok (.iconst 5, 1) := by decide +kernel
theorem dX6_degreeOfBase_6 : decode cX6_degreeOfBase 6 = .ok (.if_icmp .ge 30, 3) := by decide +kernel
theorem dX6_degreeOfBase_9 : decode cX6_degreeOfBase 9 = .ok (.iload_n 1, 1) := by decide +kernel
theorem dX6_degreeOfBase_10 : decode cX6_degreeOfBase 10 = .ok (.aload_n 0, 1) := by decide +kernel
theorem dX6_degreeOfBase_11 : decode cX6_degreeOfBase 11 = .ok (.iload_n 2, 1) := by decide +kernel
theorem dX6_degreeOfBase_12 : decode cX6_degreeOfBase 12 = .ok (.invokevirtual 221, 3) := by decide +kernel
theorem dX6_degreeOfBase_15 : decode cX6_degreeOfBase 15 = .ok (.ifCond .eq 12, 3) := by decide +kernel
theorem dX6_degreeOfBase_18 : decode cX6_degreeOfBase 18 = .ok (.aload_n 0, 1) := by decide +kernel
theorem dX6_degreeOfBase_19 : decode cX6_degreeOfBase 19 = .ok (.getfield 55, 3) := by decide +kernel
theorem dX6_degreeOfBase_22 : decode cX6_degreeOfBase 22 = .ok (.iload_n 2, 1) := by decide +kernel
theorem dX6_degreeOfBase_23 : decode cX6_degreeOfBase 23 = .ok (.iaload, 1) := by decide +kernel
theorem dX6_degreeOfBase_24 : decode cX6_degreeOfBase 24 = .ok (.goto 4, 3) := by decide +kernel
theorem dX6_degreeOfBase_27 : decode cX6_degreeOfBase 27 = .ok (.iconst 0, 1) := by decide +kernel
theorem dX6_degreeOfBase_28 : decode cX6_degreeOfBase 28 = .ok (.iadd, 1) := by decide +kernel
theorem dX6_degreeOfBase_29 : decode cX6_degreeOfBase 29 = .ok (.istore_n 1, 1) := by decide +kernel
theorem dX6_degreeOfBase_30 : decode cX6_degreeOfBase 30 = .ok (.iinc 2 1, 3) := by decide +kernel
theorem dX6_degreeOfBase_33 : decode cX6_degreeOfBase 33 = .ok (.goto (-29), 3) := by decide +kernel
theorem dX6_degreeOfBase_36 : decode cX6_degreeOfBase 36 = .ok (.iload_n 1, 1) := by decide +kernel
theorem dX6_degreeOfBase_37 : decode cX6_degreeOfBase 37 = .ok (.ireturn, 1) := by decide +kernel
set_option maxRecDepth 20000 in
theorem ggX6_rankOfBase_X6_degreeOfBase : GoodIn wsX6_rankOfBase wsX6_degreeOfBase := goodIn_r _ [7, 2, 8, 9, 10, 6, 11, 12, 13, 14, 15, 16, 41, 42, 43, 44, 45, 46, 47, 48, 49, 50, 51, 52, 53, 54, 55, 56, 57, 58, 59] (by decide +kernel) (by decide +kernel)
set_option maxRecDepth 20000 in
theorem gX6_rankOfBase_X6_degreeOfBase : GoodIn wsX6_rankOfBase (wsV RX6 243 RX6 yX6_degreeOfBase wsX6_degreeOfBase) := goodIn_app (goodIn_of _ (by decide +kernel)) ggX6_rankOfBase_X6_degreeOfBase
set_option maxRecDepth 20000 in
theorem ggX6_rankOfBase_X6_reduces : GoodIn wsX6_rankOfBase wsX6_reduces := goodIn_r _ [20, 21, 22, 23, 6, 24, 1, 8, 9, 10, 11, 12, 13, 14, 15, 16, 25, 26, 27, 28, 29, 30, 31, 32, 41, 42, 43, 44, 45, 46, 47, 48, 49, 50, 51, 52, 53, 54, 55, 56, 57, 58, 59] (by decide +kernel) (by decide +kernel)
set_option maxRecDepth 20000 in
theorem gX6_rankOfBase_X6_reduces : GoodIn wsX6_rankOfBase (wsV RX6 236 RX6 yX6_reduces wsX6_reduces) := goodIn_app (goodIn_of _ (by decide +kernel)) ggX6_rankOfBase_X6_reduces
set_option maxRecDepth 20000 in
theorem ggX6_rankOfBase_X6_hasRank : GoodIn wsX6_rankOfBase wsX6_hasRank := goodIn_r _ [36, 8, 9, 10, 6, 11, 12, 13, 14, 15, 16, 37, 38, 39, 40, 1, 2, 17, 18, 19, 20, 21, 22, 23, 24, 25, 26, 27, 28, 29, 30, 31, 32, 41, 42, 43, 44, 45, 46, 47, 48, 49, 50, 51, 52, 53, 54, 55, 56, 57, 58, 59] (by decide +kernel) (by decide +kernel)
set_option maxRecDepth 20000 in
theorem gX6_rankOfBase_X6_hasRank : GoodIn wsX6_rankOfBase (wsV RX6 247 RX6 yX6_hasRank wsX6_hasRank) := goodIn_app (goodIn_of _ (by decide +kernel)) ggX6_rankOfBase_X6_hasRank
theorem dX6_rankOfBase_0 : decode cX6_rankOfBase 0 = .ok (.aload_n 0, 1) := by decide +kernel
theorem dX6_rankOfBase_1 : decode cX6_rankOfBase 1 = .ok (.invokevirtual 243, 3) := by decide +kernel
theorem dX6_rankOfBase_4 : decode cX6_rankOfBase 4 = .ok (.istore_n 1, 1) := by decide +kernel
theorem dX6_rankOfBase_5 : decode cX6_rankOfBase 5 = .ok (.iconst 0, 1) := by decide +kernel
theorem dX6_rankOfBase_6 : decode cX6_rankOfBase 6 = .ok (.istore_n 2, 1) := by decide +kernel
theorem dX6_rankOfBase_7 : decode cX6_rankOfBase 7 = .ok (.iload_n 2, 1) := by decide +kernel
theorem dX6_rankOfBase_8 : decode cX6_rankOfBase 8 = .ok (.iconst 5, 1) := by decide +kernel
theorem dX6_rankOfBase_9 : decode cX6_rankOfBase 9 = .ok (.if_icmp .ge 21, 3) := by decide +kernel
theorem dX6_rankOfBase_12 : decode cX6_rankOfBase 12 = .ok (.aload_n 0, 1) := by decide +kernel
theorem dX6_rankOfBase_13 : decode cX6_rankOfBase 13 = .ok (.getfield 52, 3) := by decide +kernel
theorem dX6_rankOfBase_16 : decode cX6_rankOfBase 16 = .ok (.iload_n 2, 1) := by decide +kernel
theorem dX6_rankOfBase_17 : decode cX6_rankOfBase 17 = .ok (.aload_n 0, 1) := by decide +kernel
theorem dX6_rankOfBase_18 : decode cX6_rankOfBase 18 = .ok (.getfield 55, 3) := by decide +kernel
theorem dX6_rankOfBase_21 : decode cX6_rankOfBase 21 = .ok (.iload_n 2, 1) := by decide +kernel
theorem dX6_rankOfBase_22 : decode cX6_rankOfBase 22 = .ok (.iaload, 1) := by decide +kernel
theorem dX6_rankOfBase_23 : decode cX6_rankOfBase 23 = .ok (.iastore, 1) := by decide +kernel
theorem dX6_rankOfBase_24 : decode cX6_rankOfBase 24 = .ok (.iinc 2 1, 3) := by decide +kernel
theorem dX6_rankOfBase_27 : decode cX6_rankOfBase 27 = .ok (.goto (-20), 3) := by decide +kernel
theorem dX6_rankOfBase_30 : decode cX6_rankOfBase 30 = .ok (.aload_n 0, 1) := by decide +kernel
theorem dX6_rankOfBase_31 : decode cX6_rankOfBase 31 = .ok (.iconst 0, 1) := by decide +kernel
theorem dX6_rankOfBase_32 : decode cX6_rankOfBase 32 = .ok (.invokevirtual 236, 3) := by decide +kernel
theorem dX6_rankOfBase_35 : decode cX6_rankOfBase 35 = .ok (.iconst 0, 1) := by decide +kernel
theorem dX6_rankOfBase_36 : decode cX6_rankOfBase 36 = .ok (.istore_n 2, 1) := by decide +kernel
theorem dX6_rankOfBase_37 : decode cX6_rankOfBase 37 = .ok (.iload_n 2, 1) := by decide +kernel
theorem dX6_rankOfBase_38 : decode cX6_rankOfBase 38 = .ok (.iconst 5, 1) := by decide +kernel
theorem dX6_rankOfBase_39 : decode cX6_rankOfBase 39 = .ok (.if_icmp .ge 21, 3) := by decide +kernel
theorem dX6_rankOfBase_42 : decode cX6_rankOfBase 42 = .ok (.aload_n 0, 1) := by decide +kernel
theorem dX6_rankOfBase_43 : decode cX6_rankOfBase 43 = .ok (.getfield 55, 3) := by decide +kernel
theorem dX6_rankOfBase_46 : decode cX6_rankOfBase 46 = .ok (.iload_n 2, 1) := by decide +kernel
theorem dX6_rankOfBase_47 : decode cX6_rankOfBase 47 = .ok (.aload_n 0, 1) := by decide +kernel
theorem dX6_rankOfBase_48 : decode cX6_rankOfBase 48 = .ok (.getfield 52, 3) := by decide +kernel
theorem dX6_rankOfBase_51 : decode cX6_rankOfBase 51 = .ok (.iload_n 2, 1) := by decide +kernel
theorem dX6_rankOfBase_52 : decode cX6_rankOfBase 52 = .ok (.iaload, 1) := by decide +kernel
theorem dX6_rankOfBase_53 : decode cX6_rankOfBase 53 = .ok (.iastore, 1) := by decide +kernel
theorem dX6_rankOfBase_54 : decode cX6_rankOfBase 54 = .ok (.iinc 2 1, 3) := by decide +kernel
theorem dX6_rankOfBase_57 : decode cX6_rankOfBase 57 = .ok (.goto (-20), 3) := by decide +kernel
theorem dX6_rankOfBase_60 : decode cX6_rankOfBase 60 = .ok (.iconst (-1), 1) := by decide +kernel
theorem dX6_rankOfBase_61 : decode cX6_rankOfBase 61 = .ok (.istore_n 2, 1) := by decide +kernel
theorem dX6_rankOfBase_62 : decode cX6_rankOfBase 62 = .ok (.iload_n 2, 1) := by decide +kernel
theorem dX6_rankOfBase_63 : decode cX6_rankOfBase 63 = .ok (.iload_n 1, 1) := by decide +kernel
theorem dX6_rankOfBase_64 : decode cX6_rankOfBase 64 = .ok (.if_icmp .ge 19, 3) := by decide +kernel
theorem dX6_rankOfBase_67 : decode cX6_rankOfBase 67 = .ok (.aload_n 0, 1) := by decide +kernel
theorem dX6_rankOfBase_68 : decode cX6_rankOfBase 68 = .ok (.iload_n 2, 1) := by decide +kernel
theorem dX6_rankOfBase_69 : decode cX6_rankOfBase 69 = .ok (.iconst 1, 1) := by decide +kernel
theorem dX6_rankOfBase_70 : decode cX6_rankOfBase 70 = .ok (.iadd, 1) := by decide +kernel
theorem dX6_rankOfBase_71 : decode cX6_rankOfBase 71 = .ok (.invokevirtual 247, 3) := by decide +kernel
theorem dX6_rankOfBase_74 : decode cX6_rankOfBase 74 = .ok (.ifCond .eq 9, 3) := by decide +kernel
theorem dX6_rankOfBase_77 : decode cX6_rankOfBase 77 = .ok (.iinc 2 1, 3) := by decide +kernel
theorem dX6_rankOfBase_80 : decode cX6_rankOfBase 80 = .ok (.goto (-18), 3) := by decide +kernel
theorem dX6_rankOfBase_83 : decode cX6_rankOfBase 83 = .ok (.iload_n 2, 1) := by decide +kernel
theorem dX6_rankOfBase_84 : decode cX6_rankOfBase 84 = .ok (.ireturn, 1) := by decide +kernel
set_option maxRecDepth 20000 in
theorem ggX6_layBase_X6_isOf : GoodIn wsX6_layBase wsX6_isOf := goodIn_r _ [7, 8, 9, 10, 6, 11, 12, 13, 14, 15, 16, 17, 18, 19, 20, 21, 22, 23, 24, 25, 26, 27, 28, 29, 30, 31] (by decide +kernel) (by decide +kernel)
set_option maxRecDepth 20000 in
theorem gX6_layBase_X6_isOf : GoodIn wsX6_layBase (wsV RX6 221 RX6 yX6_isOf wsX6_isOf) := goodIn_app (goodIn_of _ (by decide +kernel)) ggX6_layBase_X6_isOf
set_option maxRecDepth 20000 in
theorem ggX6_layBase_X6_edgesOf : GoodIn wsX6_layBase wsX6_edgesOf := goodIn_r _ [11, 12, 13, 14, 15, 16, 17, 18, 19, 20, 21, 22, 23, 24, 25, 26, 27, 28, 29, 30, 31] (by decide +kernel) (by decide +kernel)
set_option maxRecDepth 20000 in
theorem gX6_layBase_X6_edgesOf : GoodIn wsX6_layBase (wsV RX6 212 RX6 yX6_edgesOf wsX6_edgesOf) := goodIn_app (goodIn_of _ (by decide +kernel)) ggX6_layBase_X6_edgesOf
theorem dX6_layBase_0 : decode cX6_layBase 0 = .ok (.iconst 0, 1) := by decide +kernel
theorem dX6_layBase_1 : decode cX6_layBase 1 = .ok (.istore_n 2, 1) := by decide +kernel
theorem dX6_layBase_2 : decode cX6_layBase 2 = .ok (.iload_n 2, 1) := by decide +kernel
theorem dX6_layBase_3 : decode cX6_layBase 3 = .ok (.iconst 5, 1) := by decide +kernel
theorem dX6_layBase_4 : decode cX6_layBase 4 = .ok (.if_icmp .ge 54, 3) := by decide +kernel
theorem dX6_layBase_7 : decode cX6_layBase 7 = .ok (.aload_n 0, 1) := by decide +kernel
theorem dX6_layBase_8 : decode cX6_layBase 8 = .ok (.getfield 55, 3) := by decide +kernel
theorem dX6_layBase_11 : decode cX6_layBase 11 = .ok (.iload_n 2, 1) := by decide +kernel
theorem dX6_layBase_12 : decode cX6_layBase 12 = .ok (.aload_n 0, 1) := by decide +kernel
theorem dX6_layBase_13 : decode cX6_layBase 13 = .ok (.iload_n 2, 1) := by decide +kernel
theorem dX6_layBase_14 : decode cX6_layBase 14 = .ok (.invokevirtual 221, 3) := by decide +kernel
theorem dX6_layBase_17 : decode cX6_layBase 17 = .ok (.ifCond .ne 7, 3) := by decide +kernel
theorem dX6_layBase_20 : decode cX6_layBase 20 = .ok (.iconst 0, 1) := by decide +kernel
theorem dX6_layBase_21 : decode cX6_layBase 21 = .ok (.goto 30, 3) := by decide +kernel
theorem dX6_layBase_24 : decode cX6_layBase 24 = .ok (.iload_n 1, 1) := by decide +kernel
theorem dX6_layBase_25 : decode cX6_layBase 25 = .ok (.ifCond .eq 20, 3) := by decide +kernel
theorem dX6_layBase_28 : decode cX6_layBase 28 = .ok (.aload_n 0, 1) := by decide +kernel
theorem dX6_layBase_29 : decode cX6_layBase 29 = .ok (.iload_n 2, 1) := by decide +kernel
theorem dX6_layBase_30 : decode cX6_layBase 30 = .ok (.invokevirtual 212, 3) := by decide +kernel
theorem dX6_layBase_33 : decode cX6_layBase 33 = .ok (.iconst 2, 1) := by decide +kernel
theorem dX6_layBase_34 : decode cX6_layBase 34 = .ok (.isub, 1) := by decide +kernel
theorem dX6_layBase_35 : decode cX6_layBase 35 = .ok (.aload_n 0, 1) := by decide +kernel
theorem dX6_layBase_36 : decode cX6_layBase 36 = .ok (.getfield 49, 3) := by decide +kernel
theorem dX6_layBase_39 : decode cX6_layBase 39 = .ok (.iload_n 2, 1) := by decide +kernel
theorem dX6_layBase_40 : decode cX6_layBase 40 = .ok (.iaload, 1) := by decide +kernel
theorem dX6_layBase_41 : decode cX6_layBase 41 = .ok (.isub, 1) := by decide +kernel
theorem dX6_layBase_42 : decode cX6_layBase 42 = .ok (.goto 9, 3) := by decide +kernel
theorem dX6_layBase_45 : decode cX6_layBase 45 = .ok (.aload_n 0, 1) := by decide +kernel
theorem dX6_layBase_46 : decode cX6_layBase 46 = .ok (.getfield 49, 3) := by decide +kernel
theorem dX6_layBase_49 : decode cX6_layBase 49 = .ok (.iload_n 2, 1) := by decide +kernel
theorem dX6_layBase_50 : decode cX6_layBase 50 = .ok (.iaload, 1) := by decide +kernel
theorem dX6_layBase_51 : decode cX6_layBase 51 = .ok (.iastore, 1) := by decide +kernel
theorem dX6_layBase_52 : decode cX6_layBase 52 = .ok (.iinc 2 1, 3) := by decide +kernel
theorem dX6_layBase_55 : decode cX6_layBase 55 = .ok (.goto (-53), 3) := by decide +kernel
theorem dX6_layBase_58 : decode cX6_layBase 58 = .ok (.return_, 1) := by decide +kernel
set_option maxRecDepth 20000 in
theorem ggX6_canRank_X6_layBase : GoodIn wsX6_canRank wsX6_layBase := goodIn_r _ [5, 6, 7, 8, 9, 10, 4, 11, 12, 13, 14, 15, 16, 25, 26, 27, 28, 29, 30, 31, 32, 33, 34, 35, 36, 37, 38, 39, 40, 41, 42, 43] (by decide +kernel) (by decide +kernel)
set_option maxRecDepth 20000 in
theorem gX6_canRank_X6_layBase : GoodIn wsX6_canRank (wsV RX6 250 RX6 yX6_layBase wsX6_layBase) := goodIn_app (goodIn_of _ (by decide +kernel)) ggX6_canRank_X6_layBase
set_option maxRecDepth 20000 in
theorem ggX6_canRank_X6_isConnected : GoodIn wsX6_canRank wsX6_isConnected := goodIn_r _ [20, 16, 8, 9, 10, 4, 11, 12, 13, 14, 15, 25, 26, 27, 28, 29, 30, 31, 32, 33, 34, 35, 36, 37, 38, 39, 40, 41, 42, 43] (by decide +kernel) (by decide +kernel)
set_option maxRecDepth 20000 in
theorem gX6_canRank_X6_isConnected : GoodIn wsX6_canRank (wsV RX6 233 RX6 yX6_isConnected wsX6_isConnected) := goodIn_app (goodIn_of _ (by decide +kernel)) ggX6_canRank_X6_isConnected
set_option maxRecDepth 20000 in
theorem ggX6_canRank_X6_degreeOfBase : GoodIn wsX6_canRank wsX6_degreeOfBase := goodIn_r _ [24, 6, 8, 9, 10, 4, 11, 12, 13, 14, 15, 16, 25, 26, 27, 28, 29, 30, 31, 32, 33, 34, 35, 36, 37, 38, 39, 40, 41, 42, 43] (by decide +kernel) (by decide +kernel)
set_option maxRecDepth 20000 in
theorem gX6_canRank_X6_degreeOfBase : GoodIn wsX6_canRank (wsV RX6 243 RX6 yX6_degreeOfBase wsX6_degreeOfBase) := goodIn_app (goodIn_of _ (by decide +kernel)) ggX6_canRank_X6_degreeOfBase
theorem dX6_canRank_0 : decode cX6_canRank 0 = .ok (.aload_n 0, 1) := by decide +kernel
theorem dX6_canRank_1 : decode cX6_canRank 1 = .ok (.iload_n 1, 1) := by decide +kernel
theorem dX6_canRank_2 : decode cX6_canRank 2 = .ok (.invokevirtual 250, 3) := by decide +kernel
theorem dX6_canRank_5 : decode cX6_canRank 5 = .ok (.aload_n 0, 1) := by decide +kernel
theorem dX6_canRank_6 : decode cX6_canRank 6 = .ok (.invokevirtual 233, 3) := by decide +kernel
theorem dX6_canRank_9 : decode cX6_canRank 9 = .ok (.ifCond .eq 16, 3) := by decide +kernel
theorem dX6_canRank_12 : decode cX6_canRank 12 = .ok (.aload_n 0, 1) := by decide +kernel
theorem dX6_canRank_13 : decode cX6_canRank 13 = .ok (.invokevirtual 243, 3) := by decide +kernel
theorem dX6_canRank_16 : decode cX6_canRank 16 = .ok (.bipush 8, 2) := by decide +kernel
theorem dX6_canRank_18 : decode cX6_canRank 18 = .ok (.if_icmp .gt 7, 3) := by decide +kernel
theorem dX6_canRank_21 : decode cX6_canRank 21 = .ok (.iconst 1, 1) := by decide +kernel
theorem dX6_canRank_22 : decode cX6_canRank 22 = .ok (.goto 4, 3) := by decide +kernel
