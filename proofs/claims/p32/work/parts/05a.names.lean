theorem dX0_init_0 : decode cX0_init 0 = .ok (.aload_n 0, 1) := by decide +kernel
theorem dX0_init_1 : decode cX0_init 1 = .ok (.invokespecial 3, 3) := by decide +kernel
theorem dX0_init_4 : decode cX0_init 4 = .ok (.aload_n 0, 1) := by decide +kernel
theorem dX0_init_5 : decode cX0_init 5 = .ok (.bipush 32, 2) := by decide +kernel
theorem dX0_init_7 : decode cX0_init 7 = .ok (.newarray .int, 2) := by decide +kernel
theorem dX0_init_9 : decode cX0_init 9 = .ok (.putfield 9, 3) := by decide +kernel
theorem dX0_init_12 : decode cX0_init 12 = .ok (.aload_n 0, 1) := by decide +kernel
theorem dX0_init_13 : decode cX0_init 13 = .ok (.bipush 32, 2) := by decide +kernel
theorem dX0_init_15 : decode cX0_init 15 = .ok (.newarray .int, 2) := by decide +kernel
theorem dX0_init_17 : decode cX0_init 17 = .ok (.putfield 15, 3) := by decide +kernel
theorem dX0_init_20 : decode cX0_init 20 = .ok (.return_, 1) := by decide +kernel
set_option maxRecDepth 20000 in
theorem ggX0_leastSum_X0_choose : GoodIn wsX0_leastSum wsX0_choose := goodIn_r _ [6, 1, 7, 8, 9, 10, 11, 12, 13, 14, 15, 16, 17, 18, 5, 19, 20, 21, 22, 23, 24, 25, 26, 27] (by decide +kernel) (by decide +kernel)
set_option maxRecDepth 20000 in
theorem gX0_leastSum_X0_choose : GoodIn wsX0_leastSum (wsV RX0 18 RX0 yX0_choose wsX0_choose) := goodIn_app (goodIn_of _ (by decide +kernel)) ggX0_leastSum_X0_choose
theorem dX0_leastSum_0 : decode cX0_leastSum 0 = .ok (.aload_n 0, 1) := by decide +kernel
theorem dX0_leastSum_1 : decode cX0_leastSum 1 = .ok (.aload_n 1, 1) := by decide +kernel
theorem dX0_leastSum_2 : decode cX0_leastSum 2 = .ok (.invokevirtual 18, 3) := by decide +kernel
theorem dX0_leastSum_5 : decode cX0_leastSum 5 = .ok (.aload_n 0, 1) := by decide +kernel
theorem dX0_leastSum_6 : decode cX0_leastSum 6 = .ok (.getfield 9, 3) := by decide +kernel
theorem dX0_leastSum_9 : decode cX0_leastSum 9 = .ok (.iconst 1, 1) := by decide +kernel
theorem dX0_leastSum_10 : decode cX0_leastSum 10 = .ok (.aload_n 1, 1) := by decide +kernel
theorem dX0_leastSum_11 : decode cX0_leastSum 11 = .ok (.getfield 22, 3) := by decide +kernel
theorem dX0_leastSum_14 : decode cX0_leastSum 14 = .ok (.ishl, 1) := by decide +kernel
theorem dX0_leastSum_15 : decode cX0_leastSum 15 = .ok (.iconst 1, 1) := by decide +kernel
theorem dX0_leastSum_16 : decode cX0_leastSum 16 = .ok (.isub, 1) := by decide +kernel
theorem dX0_leastSum_17 : decode cX0_leastSum 17 = .ok (.iaload, 1) := by decide +kernel
theorem dX0_leastSum_18 : decode cX0_leastSum 18 = .ok (.ireturn, 1) := by decide +kernel
set_option maxRecDepth 20000 in
theorem ggX0_countLeast_X0_choose : GoodIn wsX0_countLeast wsX0_choose := goodIn_r _ [6, 7, 1, 8, 9, 10, 11, 12, 13, 14, 15, 16, 17, 18, 5, 19, 20, 21, 22, 23, 24, 25, 26, 27] (by decide +kernel) (by decide +kernel)
set_option maxRecDepth 20000 in
theorem gX0_countLeast_X0_choose : GoodIn wsX0_countLeast (wsV RX0 18 RX0 yX0_choose wsX0_choose) := goodIn_app (goodIn_of _ (by decide +kernel)) ggX0_countLeast_X0_choose
theorem dX0_countLeast_0 : decode cX0_countLeast 0 = .ok (.aload_n 0, 1) := by decide +kernel
theorem dX0_countLeast_1 : decode cX0_countLeast 1 = .ok (.aload_n 1, 1) := by decide +kernel
theorem dX0_countLeast_2 : decode cX0_countLeast 2 = .ok (.invokevirtual 18, 3) := by decide +kernel
theorem dX0_countLeast_5 : decode cX0_countLeast 5 = .ok (.aload_n 0, 1) := by decide +kernel
theorem dX0_countLeast_6 : decode cX0_countLeast 6 = .ok (.getfield 15, 3) := by decide +kernel
theorem dX0_countLeast_9 : decode cX0_countLeast 9 = .ok (.iconst 1, 1) := by decide +kernel
theorem dX0_countLeast_10 : decode cX0_countLeast 10 = .ok (.aload_n 1, 1) := by decide +kernel
theorem dX0_countLeast_11 : decode cX0_countLeast 11 = .ok (.getfield 22, 3) := by decide +kernel
theorem dX0_countLeast_14 : decode cX0_countLeast 14 = .ok (.ishl, 1) := by decide +kernel
theorem dX0_countLeast_15 : decode cX0_countLeast 15 = .ok (.iconst 1, 1) := by decide +kernel
theorem dX0_countLeast_16 : decode cX0_countLeast 16 = .ok (.isub, 1) := by decide +kernel
theorem dX0_countLeast_17 : decode cX0_countLeast 17 = .ok (.iaload, 1) := by decide +kernel
theorem dX0_countLeast_18 : decode cX0_countLeast 18 = .ok (.ireturn, 1) := by decide +kernel
set_option maxRecDepth 20000 in
theorem ggX0_choose_J6_bitCount_0f7a4 : GoodIn wsX0_choose wsJ6_bitCount_0f7a4 := goodIn_r _ [7, 8, 9, 10] (by decide +kernel) (by decide +kernel)
set_option maxRecDepth 20000 in
theorem gX0_choose_J6_bitCount_0f7a4 : GoodIn wsX0_choose (va_wsS RX0 33 yJ6_bitCount_0f7a4 wsJ6_bitCount_0f7a4) := goodIn_app (goodIn_of _ (by decide +kernel)) ggX0_choose_J6_bitCount_0f7a4
set_option maxRecDepth 20000 in
theorem ggX0_choose_X0_offer : GoodIn wsX0_choose wsX0_offer := goodIn_r _ [15, 1, 3, 2, 16, 17, 18, 19, 20, 21] (by decide +kernel) (by decide +kernel)
set_option maxRecDepth 20000 in
theorem gX0_choose_X0_offer : GoodIn wsX0_choose (wsV RX0 39 RX0 yX0_offer wsX0_offer) := goodIn_app (goodIn_of _ (by decide +kernel)) ggX0_choose_X0_offer
theorem dX0_choose_0 : decode cX0_choose 0 = .ok (.aload_n 0, 1) := by decide +kernel
theorem dX0_choose_1 : decode cX0_choose 1 = .ok (.getfield 9, 3) := by decide +kernel
theorem dX0_choose_4 : decode cX0_choose 4 = .ok (.iconst 0, 1) := by decide +kernel
theorem dX0_choose_5 : decode cX0_choose 5 = .ok (.iconst 0, 1) := by decide +kernel
theorem dX0_choose_6 : decode cX0_choose 6 = .ok (.iastore, 1) := by decide +kernel
theorem dX0_choose_7 : decode cX0_choose 7 = .ok (.aload_n 0, 1) := by decide +kernel
theorem dX0_choose_8 : decode cX0_choose 8 = .ok (.getfield 15, 3) := by decide +kernel
theorem dX0_choose_11 : decode cX0_choose 11 = .ok (.iconst 0, 1) := by decide +kernel
theorem dX0_choose_12 : decode cX0_choose 12 = .ok (.iconst 1, 1) := by decide +kernel
theorem dX0_choose_13 : decode cX0_choose 13 = .ok (.iastore, 1) := by decide +kernel
theorem dX0_choose_14 : decode cX0_choose 14 = .ok (.iconst 1, 1) := by decide +kernel
theorem dX0_choose_15 : decode cX0_choose 15 = .ok (.istore_n 2, 1) := by decide +kernel
theorem dX0_choose_16 : decode cX0_choose 16 = .ok (.iload_n 2, 1) := by decide +kernel
theorem dX0_choose_17 : decode cX0_choose 17 = .ok (.iconst 1, 1) := by decide +kernel
theorem dX0_choose_18 : decode cX0_choose 18 = .ok (.aload_n 1, 1) := by decide +kernel
theorem dX0_choose_19 : decode cX0_choose 19 = .ok (.getfield 22, 3) := by decide +kernel
theorem dX0_choose_22 : decode cX0_choose 22 = .ok (.ishl, 1) := by decide +kernel
theorem dX0_choose_23 : decode cX0_choose 23 = .ok (.if_icmp .ge 76, 3) := by decide +kernel
theorem dX0_choose_26 : decode cX0_choose 26 = .ok (.aload_n 0, 1) := by decide +kernel
theorem dX0_choose_27 : decode cX0_choose 27 = .ok (.getfield 9, 3) := by decide +kernel
theorem dX0_choose_30 : decode cX0_choose 30 = .ok (.iload_n 2, 1) := by decide +kernel
theorem dX0_choose_31 : decode cX0_choose 31 = .ok (.ldc 28, 2) := by decide +kernel
theorem dX0_choose_33 : decode cX0_choose 33 = .ok (.iastore, 1) := by decide +kernel
theorem dX0_choose_34 : decode cX0_choose 34 = .ok (.aload_n 0, 1) := by decide +kernel
theorem dX0_choose_35 : decode cX0_choose 35 = .ok (.getfield 15, 3) := by decide +kernel
theorem dX0_choose_38 : decode cX0_choose 38 = .ok (.iload_n 2, 1) := by decide +kernel
theorem dX0_choose_39 : decode cX0_choose 39 = .ok (.iconst 0, 1) := by decide +kernel
theorem dX0_choose_40 : decode cX0_choose 40 = .ok (.iastore, 1) := by decide +kernel
theorem dX0_choose_41 : decode cX0_choose 41 = .ok (.iconst 0, 1) := by decide +kernel
theorem dX0_choose_42 : decode cX0_choose 42 = .ok (.istore_n 3, 1) := by decide +kernel
theorem dX0_choose_43 : decode cX0_choose 43 = .ok (.iload_n 3, 1) := by decide +kernel
theorem dX0_choose_44 : decode cX0_choose 44 = .ok (.aload_n 1, 1) := by decide +kernel
theorem dX0_choose_45 : decode cX0_choose 45 = .ok (.getfield 22, 3) := by decide +kernel
theorem dX0_choose_48 : decode cX0_choose 48 = .ok (.if_icmp .ge 45, 3) := by decide +kernel
theorem dX0_choose_51 : decode cX0_choose 51 = .ok (.iload_n 2, 1) := by decide +kernel
theorem dX0_choose_52 : decode cX0_choose 52 = .ok (.iload_n 3, 1) := by decide +kernel
theorem dX0_choose_53 : decode cX0_choose 53 = .ok (.ishr, 1) := by decide +kernel
theorem dX0_choose_54 : decode cX0_choose 54 = .ok (.iconst 1, 1) := by decide +kernel
theorem dX0_choose_55 : decode cX0_choose 55 = .ok (.iand, 1) := by decide +kernel
theorem dX0_choose_56 : decode cX0_choose 56 = .ok (.iconst 1, 1) := by decide +kernel
theorem dX0_choose_57 : decode cX0_choose 57 = .ok (.if_icmp .ne 30, 3) := by decide +kernel
theorem dX0_choose_60 : decode cX0_choose 60 = .ok (.aload_n 1, 1) := by decide +kernel
theorem dX0_choose_61 : decode cX0_choose 61 = .ok (.getfield 29, 3) := by decide +kernel
theorem dX0_choose_64 : decode cX0_choose 64 = .ok (.iload_n 2, 1) := by decide +kernel
theorem dX0_choose_65 : decode cX0_choose 65 = .ok (.invokestatic 33, 3) := by decide +kernel
theorem dX0_choose_68 : decode cX0_choose 68 = .ok (.iconst 1, 1) := by decide +kernel
theorem dX0_choose_69 : decode cX0_choose 69 = .ok (.isub, 1) := by decide +kernel
theorem dX0_choose_70 : decode cX0_choose 70 = .ok (.aaload, 1) := by decide +kernel
theorem dX0_choose_71 : decode cX0_choose 71 = .ok (.iload_n 3, 1) := by decide +kernel
theorem dX0_choose_72 : decode cX0_choose 72 = .ok (.iaload, 1) := by decide +kernel
theorem dX0_choose_73 : decode cX0_choose 73 = .ok (.istore 4, 2) := by decide +kernel
theorem dX0_choose_75 : decode cX0_choose 75 = .ok (.aload_n 0, 1) := by decide +kernel
theorem dX0_choose_76 : decode cX0_choose 76 = .ok (.iload_n 2, 1) := by decide +kernel
theorem dX0_choose_77 : decode cX0_choose 77 = .ok (.iload_n 2, 1) := by decide +kernel
theorem dX0_choose_78 : decode cX0_choose 78 = .ok (.iconst 1, 1) := by decide +kernel
theorem dX0_choose_79 : decode cX0_choose 79 = .ok (.iload_n 3, 1) := by decide +kernel
theorem dX0_choose_80 : decode cX0_choose 80 = .ok (.ishl, 1) := by decide +kernel
theorem dX0_choose_81 : decode cX0_choose 81 = .ok (.isub, 1) := by decide +kernel
theorem dX0_choose_82 : decode cX0_choose 82 = .ok (.iload 4, 2) := by decide +kernel
theorem dX0_choose_84 : decode cX0_choose 84 = .ok (.invokevirtual 39, 3) := by decide +kernel
theorem dX0_choose_87 : decode cX0_choose 87 = .ok (.iinc 3 1, 3) := by decide +kernel
theorem dX0_choose_90 : decode cX0_choose 90 = .ok (.goto (-47), 3) := by decide +kernel
theorem dX0_choose_93 : decode cX0_choose 93 = .ok (.iinc 2 1, 3) := by decide +kernel
theorem dX0_choose_96 : decode cX0_choose 96 = .ok (.goto (-80), 3) := by decide +kernel
theorem dX0_choose_99 : decode cX0_choose 99 = .ok (.return_, 1) := by decide +kernel
set_option maxRecDepth 20000 in
theorem ggX0_offer_X5_together : GoodIn wsX0_offer wsX5_together := goodIn_r _ [6, 7] (by decide +kernel) (by decide +kernel)
set_option maxRecDepth 20000 in
theorem gX0_offer_X5_together_n43 : GoodIn wsX0_offer (wsX5_together) := ggX0_offer_X5_together
theorem dX0_offer_0 : decode cX0_offer 0 = .ok (.aload_n 0, 1) := by decide +kernel
theorem dX0_offer_1 : decode cX0_offer 1 = .ok (.getfield 9, 3) := by decide +kernel
theorem dX0_offer_4 : decode cX0_offer 4 = .ok (.iload_n 2, 1) := by decide +kernel
theorem dX0_offer_5 : decode cX0_offer 5 = .ok (.iaload, 1) := by decide +kernel
theorem dX0_offer_6 : decode cX0_offer 6 = .ok (.iload_n 3, 1) := by decide +kernel
theorem dX0_offer_7 : decode cX0_offer 7 = .ok (.invokestatic 43, 3) := by decide +kernel
theorem dX0_offer_10 : decode cX0_offer 10 = .ok (.istore 4, 2) := by decide +kernel
theorem dX0_offer_12 : decode cX0_offer 12 = .ok (.iload 4, 2) := by decide +kernel
theorem dX0_offer_14 : decode cX0_offer 14 = .ok (.ldc 28, 2) := by decide +kernel
theorem dX0_offer_16 : decode cX0_offer 16 = .ok (.if_icmp .ne 4, 3) := by decide +kernel
theorem dX0_offer_19 : decode cX0_offer 19 = .ok (.return_, 1) := by decide +kernel
theorem dX0_offer_20 : decode cX0_offer 20 = .ok (.iload 4, 2) := by decide +kernel
theorem dX0_offer_22 : decode cX0_offer 22 = .ok (.aload_n 0, 1) := by decide +kernel
theorem dX0_offer_23 : decode cX0_offer 23 = .ok (.getfield 9, 3) := by decide +kernel
theorem dX0_offer_26 : decode cX0_offer 26 = .ok (.iload_n 1, 1) := by decide +kernel
theorem dX0_offer_27 : decode cX0_offer 27 = .ok (.iaload, 1) := by decide +kernel
theorem dX0_offer_28 : decode cX0_offer 28 = .ok (.if_icmp .ge 18, 3) := by decide +kernel
theorem dX0_offer_31 : decode cX0_offer 31 = .ok (.aload_n 0, 1) := by decide +kernel
theorem dX0_offer_32 : decode cX0_offer 32 = .ok (.getfield 9, 3) := by decide +kernel
theorem dX0_offer_35 : decode cX0_offer 35 = .ok (.iload_n 1, 1) := by decide +kernel
theorem dX0_offer_36 : decode cX0_offer 36 = .ok (.iload 4, 2) := by decide +kernel
theorem dX0_offer_38 : decode cX0_offer 38 = .ok (.iastore, 1) := by decide +kernel
theorem dX0_offer_39 : decode cX0_offer 39 = .ok (.aload_n 0, 1) := by decide +kernel
theorem dX0_offer_40 : decode cX0_offer 40 = .ok (.getfield 15, 3) := by decide +kernel
theorem dX0_offer_43 : decode cX0_offer 43 = .ok (.iload_n 1, 1) := by decide +kernel
theorem dX0_offer_44 : decode cX0_offer 44 = .ok (.iconst 0, 1) := by decide +kernel
theorem dX0_offer_45 : decode cX0_offer 45 = .ok (.iastore, 1) := by decide +kernel
theorem dX0_offer_46 : decode cX0_offer 46 = .ok (.iload 4, 2) := by decide +kernel
theorem dX0_offer_48 : decode cX0_offer 48 = .ok (.aload_n 0, 1) := by decide +kernel
theorem dX0_offer_49 : decode cX0_offer 49 = .ok (.getfield 9, 3) := by decide +kernel
theorem dX0_offer_52 : decode cX0_offer 52 = .ok (.iload_n 1, 1) := by decide +kernel
theorem dX0_offer_53 : decode cX0_offer 53 = .ok (.iaload, 1) := by decide +kernel
theorem dX0_offer_54 : decode cX0_offer 54 = .ok (.if_icmp .ne 18, 3) := by decide +kernel
theorem dX0_offer_57 : decode cX0_offer 57 = .ok (.aload_n 0, 1) := by decide +kernel
theorem dX0_offer_58 : decode cX0_offer 58 = .ok (.getfield 15, 3) := by decide +kernel
theorem dX0_offer_61 : decode cX0_offer 61 = .ok (.iload_n 1, 1) := by decide +kernel
theorem dX0_offer_62 : decode cX0_offer 62 = .ok (.dup2, 1) := by decide +kernel
theorem dX0_offer_63 : decode cX0_offer 63 = .ok (.iaload, 1) := by decide +kernel
theorem dX0_offer_64 : decode cX0_offer 64 = .ok (.aload_n 0, 1) := by decide +kernel
theorem dX0_offer_65 : decode cX0_offer 65 = .ok (.getfield 15, 3) := by decide +kernel
theorem dX0_offer_68 : decode cX0_offer 68 = .ok (.iload_n 2, 1) := by decide +kernel
theorem dX0_offer_69 : decode cX0_offer 69 = .ok (.iaload, 1) := by decide +kernel
theorem dX0_offer_70 : decode cX0_offer 70 = .ok (.iadd, 1) := by decide +kernel
theorem dX0_offer_71 : decode cX0_offer 71 = .ok (.iastore, 1) := by decide +kernel
theorem dX0_offer_72 : decode cX0_offer 72 = .ok (.return_, 1) := by decide +kernel
theorem dX1_init_0 : decode cX1_init 0 = .ok (.aload_n 0, 1) := by decide +kernel
theorem dX1_init_1 : decode cX1_init 1 = .ok (.invokespecial 3, 3) := by decide +kernel
theorem dX1_init_4 : decode cX1_init 4 = .ok (.return_, 1) := by decide +kernel
theorem dX1_becomeNone_0 : decode cX1_becomeNone 0 = .ok (.aload_n 0, 1) := by decide +kernel
theorem dX1_becomeNone_1 : decode cX1_becomeNone 1 = .ok (.iconst 0, 1) := by decide +kernel
theorem dX1_becomeNone_2 : decode cX1_becomeNone 2 = .ok (.putfield 9, 3) := by decide +kernel
theorem dX1_becomeNone_5 : decode cX1_becomeNone 5 = .ok (.aload_n 0, 1) := by decide +kernel
theorem dX1_becomeNone_6 : decode cX1_becomeNone 6 = .ok (.iconst (-1), 1) := by decide +kernel
theorem dX1_becomeNone_7 : decode cX1_becomeNone 7 = .ok (.putfield 15, 3) := by decide +kernel
theorem dX1_becomeNone_10 : decode cX1_becomeNone 10 = .ok (.return_, 1) := by decide +kernel
theorem dX1_become_0 : decode cX1_become 0 = .ok (.iconst 1, 1) := by decide +kernel
theorem dX1_become_1 : decode cX1_become 1 = .ok (.istore_n 3, 1) := by decide +kernel
theorem dX1_become_2 : decode cX1_become 2 = .ok (.iconst 2, 1) := by decide +kernel
theorem dX1_become_3 : decode cX1_become 3 = .ok (.istore 4, 2) := by decide +kernel
theorem dX1_become_5 : decode cX1_become 5 = .ok (.iload 4, 2) := by decide +kernel
theorem dX1_become_7 : decode cX1_become 7 = .ok (.iload_n 2, 1) := by decide +kernel
theorem dX1_become_8 : decode cX1_become 8 = .ok (.if_icmp .gt 26, 3) := by decide +kernel
theorem dX1_become_11 : decode cX1_become 11 = .ok (.iload_n 1, 1) := by decide +kernel
theorem dX1_become_12 : decode cX1_become 12 = .ok (.iload 4, 2) := by decide +kernel
theorem dX1_become_14 : decode cX1_become 14 = .ok (.irem, 1) := by decide +kernel
theorem dX1_become_15 : decode cX1_become 15 = .ok (.ifCond .ne 13, 3) := by decide +kernel
theorem dX1_become_18 : decode cX1_become 18 = .ok (.iload_n 2, 1) := by decide +kernel
theorem dX1_become_19 : decode cX1_become 19 = .ok (.iload 4, 2) := by decide +kernel
theorem dX1_become_21 : decode cX1_become 21 = .ok (.irem, 1) := by decide +kernel
theorem dX1_become_22 : decode cX1_become 22 = .ok (.ifCond .ne 6, 3) := by decide +kernel
theorem dX1_become_25 : decode cX1_become 25 = .ok (.iload 4, 2) := by decide +kernel
theorem dX1_become_27 : decode cX1_become 27 = .ok (.istore_n 3, 1) := by decide +kernel
theorem dX1_become_28 : decode cX1_become 28 = .ok (.iinc 4 1, 3) := by decide +kernel
theorem dX1_become_31 : decode cX1_become 31 = .ok (.goto (-26), 3) := by decide +kernel
theorem dX1_become_34 : decode cX1_become 34 = .ok (.aload_n 0, 1) := by decide +kernel
theorem dX1_become_35 : decode cX1_become 35 = .ok (.iload_n 1, 1) := by decide +kernel
theorem dX1_become_36 : decode cX1_become 36 = .ok (.iload_n 3, 1) := by decide +kernel
theorem dX1_become_37 : decode cX1_become 37 = .ok (.idiv, 1) := by decide +kernel
theorem dX1_become_38 : decode cX1_become 38 = .ok (.putfield 9, 3) := by decide +kernel
theorem dX1_become_41 : decode cX1_become 41 = .ok (.aload_n 0, 1) := by decide +kernel
theorem dX1_become_42 : decode cX1_become 42 = .ok (.iload_n 2, 1) := by decide +kernel
theorem dX1_become_43 : decode cX1_become 43 = .ok (.iload_n 3, 1) := by decide +kernel
theorem dX1_become_44 : decode cX1_become 44 = .ok (.idiv, 1) := by decide +kernel
theorem dX1_become_45 : decode cX1_become 45 = .ok (.putfield 15, 3) := by decide +kernel
theorem dX1_become_48 : decode cX1_become 48 = .ok (.return_, 1) := by decide +kernel
set_option maxRecDepth 20000 in
theorem ggX1_becomeLesser_X1_become : GoodIn wsX1_becomeLesser wsX1_become := goodIn_r _ [7, 2, 1, 8, 9] (by decide +kernel) (by decide +kernel)
set_option maxRecDepth 20000 in
theorem gX1_becomeLesser_X1_become : GoodIn wsX1_becomeLesser (wsV RX1 18 RX1 yX1_become wsX1_become) := goodIn_app (goodIn_of _ (by decide +kernel)) ggX1_becomeLesser_X1_become
theorem dX1_becomeLesser_0 : decode cX1_becomeLesser 0 = .ok (.aload_n 0, 1) := by decide +kernel
theorem dX1_becomeLesser_1 : decode cX1_becomeLesser 1 = .ok (.getfield 15, 3) := by decide +kernel
theorem dX1_becomeLesser_4 : decode cX1_becomeLesser 4 = .ok (.iconst (-1), 1) := by decide +kernel
theorem dX1_becomeLesser_5 : decode cX1_becomeLesser 5 = .ok (.if_icmp .eq 18, 3) := by decide +kernel
theorem dX1_becomeLesser_8 : decode cX1_becomeLesser 8 = .ok (.iload_n 1, 1) := by decide +kernel
theorem dX1_becomeLesser_9 : decode cX1_becomeLesser 9 = .ok (.aload_n 0, 1) := by decide +kernel
theorem dX1_becomeLesser_10 : decode cX1_becomeLesser 10 = .ok (.getfield 15, 3) := by decide +kernel
theorem dX1_becomeLesser_13 : decode cX1_becomeLesser 13 = .ok (.imul, 1) := by decide +kernel
theorem dX1_becomeLesser_14 : decode cX1_becomeLesser 14 = .ok (.aload_n 0, 1) := by decide +kernel
theorem dX1_becomeLesser_15 : decode cX1_becomeLesser 15 = .ok (.getfield 9, 3) := by decide +kernel
theorem dX1_becomeLesser_18 : decode cX1_becomeLesser 18 = .ok (.iload_n 2, 1) := by decide +kernel
theorem dX1_becomeLesser_19 : decode cX1_becomeLesser 19 = .ok (.imul, 1) := by decide +kernel
theorem dX1_becomeLesser_20 : decode cX1_becomeLesser 20 = .ok (.if_icmp .ge 9, 3) := by decide +kernel
theorem dX1_becomeLesser_23 : decode cX1_becomeLesser 23 = .ok (.aload_n 0, 1) := by decide +kernel
theorem dX1_becomeLesser_24 : decode cX1_becomeLesser 24 = .ok (.iload_n 1, 1) := by decide +kernel
theorem dX1_becomeLesser_25 : decode cX1_becomeLesser 25 = .ok (.iload_n 2, 1) := by decide +kernel
theorem dX1_becomeLesser_26 : decode cX1_becomeLesser 26 = .ok (.invokevirtual 18, 3) := by decide +kernel
theorem dX1_becomeLesser_29 : decode cX1_becomeLesser 29 = .ok (.return_, 1) := by decide +kernel
set_option maxRecDepth 20000 in
theorem ggX2_init_X2_becomeEmpty : GoodIn wsX2_init wsX2_becomeEmpty := goodIn_r _ [11, 12, 6, 13, 14, 15, 16, 17, 18, 19] (by decide +kernel) (by decide +kernel)
set_option maxRecDepth 20000 in
theorem gX2_init_X2_becomeEmpty : GoodIn wsX2_init (wsV RX2 16 RX2 yX2_becomeEmpty wsX2_becomeEmpty) := goodIn_app (goodIn_of _ (by decide +kernel)) ggX2_init_X2_becomeEmpty
theorem dX2_init_0 : decode cX2_init 0 = .ok (.aload_n 0, 1) := by decide +kernel
theorem dX2_init_1 : decode cX2_init 1 = .ok (.invokespecial 3, 3) := by decide +kernel
theorem dX2_init_4 : decode cX2_init 4 = .ok (.aload_n 0, 1) := by decide +kernel
theorem dX2_init_5 : decode cX2_init 5 = .ok (.iconst 5, 1) := by decide +kernel
theorem dX2_init_6 : decode cX2_init 6 = .ok (.iconst 5, 1) := by decide +kernel
theorem dX2_init_7 : decode cX2_init 7 = .ok (.multianewarray 9 2, 4) := by decide +kernel
theorem dX2_init_11 : decode cX2_init 11 = .ok (.putfield 11, 3) := by decide +kernel
theorem dX2_init_14 : decode cX2_init 14 = .ok (.aload_n 0, 1) := by decide +kernel
theorem dX2_init_15 : decode cX2_init 15 = .ok (.iconst 1, 1) := by decide +kernel
theorem dX2_init_16 : decode cX2_init 16 = .ok (.invokevirtual 16, 3) := by decide +kernel
theorem dX2_init_19 : decode cX2_init 19 = .ok (.return_, 1) := by decide +kernel
set_option maxRecDepth 20000 in
theorem ggX2_becomeEmpty_J7_fill_53178 : GoodIn wsX2_becomeEmpty wsJ7_fill_53178 := goodIn_r _ [7] (by decide +kernel) (by decide +kernel)
set_option maxRecDepth 20000 in
theorem gX2_becomeEmpty_J7_fill_53178 : GoodIn wsX2_becomeEmpty (va_wsS RX2 25 yJ7_fill_53178 wsJ7_fill_53178) := goodIn_app (goodIn_of _ (by decide +kernel)) ggX2_becomeEmpty_J7_fill_53178
theorem dX2_becomeEmpty_0 : decode cX2_becomeEmpty 0 = .ok (.aload_n 0, 1) := by decide +kernel
theorem dX2_becomeEmpty_1 : decode cX2_becomeEmpty 1 = .ok (.iload_n 1, 1) := by decide +kernel
theorem dX2_becomeEmpty_2 : decode cX2_becomeEmpty 2 = .ok (.putfield 20, 3) := by decide +kernel
theorem dX2_becomeEmpty_5 : decode cX2_becomeEmpty 5 = .ok (.iconst 0, 1) := by decide +kernel
theorem dX2_becomeEmpty_6 : decode cX2_becomeEmpty 6 = .ok (.istore_n 2, 1) := by decide +kernel
theorem dX2_becomeEmpty_7 : decode cX2_becomeEmpty 7 = .ok (.iload_n 2, 1) := by decide +kernel
theorem dX2_becomeEmpty_8 : decode cX2_becomeEmpty 8 = .ok (.iconst 5, 1) := by decide +kernel
theorem dX2_becomeEmpty_9 : decode cX2_becomeEmpty 9 = .ok (.if_icmp .ge 20, 3) := by decide +kernel
theorem dX2_becomeEmpty_12 : decode cX2_becomeEmpty 12 = .ok (.aload_n 0, 1) := by decide +kernel
theorem dX2_becomeEmpty_13 : decode cX2_becomeEmpty 13 = .ok (.getfield 11, 3) := by decide +kernel
theorem dX2_becomeEmpty_16 : decode cX2_becomeEmpty 16 = .ok (.iload_n 2, 1) := by decide +kernel
theorem dX2_becomeEmpty_17 : decode cX2_becomeEmpty 17 = .ok (.aaload, 1) := by decide +kernel
theorem dX2_becomeEmpty_18 : decode cX2_becomeEmpty 18 = .ok (.ldc 24, 2) := by decide +kernel
theorem dX2_becomeEmpty_20 : decode cX2_becomeEmpty 20 = .ok (.invokestatic 25, 3) := by decide +kernel
theorem dX2_becomeEmpty_23 : decode cX2_becomeEmpty 23 = .ok (.iinc 2 1, 3) := by decide +kernel
theorem dX2_becomeEmpty_26 : decode cX2_becomeEmpty 26 = .ok (.goto (-19), 3) := by decide +kernel
theorem dX2_becomeEmpty_29 : decode cX2_becomeEmpty 29 = .ok (.return_, 1) := by decide +kernel
theorem dX2_becomeCopy_0 : decode cX2_becomeCopy 0 = .ok (.aload_n 0, 1) := by decide +kernel
theorem dX2_becomeCopy_1 : decode cX2_becomeCopy 1 = .ok (.aload_n 1, 1) := by decide +kernel
theorem dX2_becomeCopy_2 : decode cX2_becomeCopy 2 = .ok (.getfield 20, 3) := by decide +kernel
theorem dX2_becomeCopy_5 : decode cX2_becomeCopy 5 = .ok (.putfield 20, 3) := by decide +kernel
theorem dX2_becomeCopy_8 : decode cX2_becomeCopy 8 = .ok (.iconst 0, 1) := by decide +kernel
theorem dX2_becomeCopy_9 : decode cX2_becomeCopy 9 = .ok (.istore_n 2, 1) := by decide +kernel
theorem dX2_becomeCopy_10 : decode cX2_becomeCopy 10 = .ok (.iload_n 2, 1) := by decide +kernel
theorem dX2_becomeCopy_11 : decode cX2_becomeCopy 11 = .ok (.iconst 5, 1) := by decide +kernel
theorem dX2_becomeCopy_12 : decode cX2_becomeCopy 12 = .ok (.if_icmp .ge 27, 3) := by decide +kernel
theorem dX2_becomeCopy_15 : decode cX2_becomeCopy 15 = .ok (.aload_n 1, 1) := by decide +kernel
theorem dX2_becomeCopy_16 : decode cX2_becomeCopy 16 = .ok (.getfield 11, 3) := by decide +kernel
theorem dX2_becomeCopy_19 : decode cX2_becomeCopy 19 = .ok (.iload_n 2, 1) := by decide +kernel
theorem dX2_becomeCopy_20 : decode cX2_becomeCopy 20 = .ok (.aaload, 1) := by decide +kernel
theorem dX2_becomeCopy_21 : decode cX2_becomeCopy 21 = .ok (.iconst 0, 1) := by decide +kernel
theorem dX2_becomeCopy_22 : decode cX2_becomeCopy 22 = .ok (.aload_n 0, 1) := by decide +kernel
theorem dX2_becomeCopy_23 : decode cX2_becomeCopy 23 = .ok (.getfield 11, 3) := by decide +kernel
theorem dX2_becomeCopy_26 : decode cX2_becomeCopy 26 = .ok (.iload_n 2, 1) := by decide +kernel
theorem dX2_becomeCopy_27 : decode cX2_becomeCopy 27 = .ok (.aaload, 1) := by decide +kernel
theorem dX2_becomeCopy_28 : decode cX2_becomeCopy 28 = .ok (.iconst 0, 1) := by decide +kernel
theorem dX2_becomeCopy_29 : decode cX2_becomeCopy 29 = .ok (.iconst 5, 1) := by decide +kernel
theorem dX2_becomeCopy_30 : decode cX2_becomeCopy 30 = .ok (.invokestatic 31, 3) := by decide +kernel
theorem dX2_becomeCopy_33 : decode cX2_becomeCopy 33 = .ok (.iinc 2 1, 3) := by decide +kernel
theorem dX2_becomeCopy_36 : decode cX2_becomeCopy 36 = .ok (.goto (-26), 3) := by decide +kernel
theorem dX2_becomeCopy_39 : decode cX2_becomeCopy 39 = .ok (.return_, 1) := by decide +kernel
theorem dX2_countNumbers_0 : decode cX2_countNumbers 0 = .ok (.iconst 0, 1) := by decide +kernel
theorem dX2_countNumbers_1 : decode cX2_countNumbers 1 = .ok (.istore_n 1, 1) := by decide +kernel
theorem dX2_countNumbers_2 : decode cX2_countNumbers 2 = .ok (.iconst 0, 1) := by decide +kernel
theorem dX2_countNumbers_3 : decode cX2_countNumbers 3 = .ok (.istore_n 2, 1) := by decide +kernel
theorem dX2_countNumbers_4 : decode cX2_countNumbers 4 = .ok (.iload_n 2, 1) := by decide +kernel
theorem dX2_countNumbers_5 : decode cX2_countNumbers 5 = .ok (.aload_n 0, 1) := by decide +kernel
theorem dX2_countNumbers_6 : decode cX2_countNumbers 6 = .ok (.getfield 20, 3) := by decide +kernel
theorem dX2_countNumbers_9 : decode cX2_countNumbers 9 = .ok (.if_icmp .ge 41, 3) := by decide +kernel
theorem dX2_countNumbers_12 : decode cX2_countNumbers 12 = .ok (.iconst 0, 1) := by decide +kernel
theorem dX2_countNumbers_13 : decode cX2_countNumbers 13 = .ok (.istore_n 3, 1) := by decide +kernel
theorem dX2_countNumbers_14 : decode cX2_countNumbers 14 = .ok (.iload_n 3, 1) := by decide +kernel
theorem dX2_countNumbers_15 : decode cX2_countNumbers 15 = .ok (.aload_n 0, 1) := by decide +kernel
theorem dX2_countNumbers_16 : decode cX2_countNumbers 16 = .ok (.getfield 20, 3) := by decide +kernel
theorem dX2_countNumbers_19 : decode cX2_countNumbers 19 = .ok (.if_icmp .ge 25, 3) := by decide +kernel
theorem dX2_countNumbers_22 : decode cX2_countNumbers 22 = .ok (.aload_n 0, 1) := by decide +kernel
theorem dX2_countNumbers_23 : decode cX2_countNumbers 23 = .ok (.getfield 11, 3) := by decide +kernel
theorem dX2_countNumbers_26 : decode cX2_countNumbers 26 = .ok (.iload_n 2, 1) := by decide +kernel
theorem dX2_countNumbers_27 : decode cX2_countNumbers 27 = .ok (.aaload, 1) := by decide +kernel
theorem dX2_countNumbers_28 : decode cX2_countNumbers 28 = .ok (.iload_n 3, 1) := by decide +kernel
theorem dX2_countNumbers_29 : decode cX2_countNumbers 29 = .ok (.iaload, 1) := by decide +kernel
theorem dX2_countNumbers_30 : decode cX2_countNumbers 30 = .ok (.ldc 24, 2) := by decide +kernel
theorem dX2_countNumbers_32 : decode cX2_countNumbers 32 = .ok (.if_icmp .eq 6, 3) := by decide +kernel
theorem dX2_countNumbers_35 : decode cX2_countNumbers 35 = .ok (.iinc 1 1, 3) := by decide +kernel
theorem dX2_countNumbers_38 : decode cX2_countNumbers 38 = .ok (.iinc 3 1, 3) := by decide +kernel
theorem dX2_countNumbers_41 : decode cX2_countNumbers 41 = .ok (.goto (-27), 3) := by decide +kernel
theorem dX2_countNumbers_44 : decode cX2_countNumbers 44 = .ok (.iinc 2 1, 3) := by decide +kernel
theorem dX2_countNumbers_47 : decode cX2_countNumbers 47 = .ok (.goto (-43), 3) := by decide +kernel
theorem dX2_countNumbers_50 : decode cX2_countNumbers 50 = .ok (.iload_n 1, 1) := by decide +kernel
theorem dX2_countNumbers_51 : decode cX2_countNumbers 51 = .ok (.ireturn, 1) := by decide +kernel
set_option maxRecDepth 20000 in
theorem ggX2_hasNumbersAlone_X2_countNumbers : GoodIn wsX2_hasNumbersAlone wsX2_countNumbers := goodIn_r _ [6, 1, 7, 8, 9, 10] (by decide +kernel) (by decide +kernel)
set_option maxRecDepth 20000 in
theorem gX2_hasNumbersAlone_X2_countNumbers : GoodIn wsX2_hasNumbersAlone (wsV RX2 37 RX2 yX2_countNumbers wsX2_countNumbers) := goodIn_app (goodIn_of _ (by decide +kernel)) ggX2_hasNumbersAlone_X2_countNumbers
theorem dX2_hasNumbersAlone_0 : decode cX2_hasNumbersAlone 0 = .ok (.aload_n 0, 1) := by decide +kernel
theorem dX2_hasNumbersAlone_1 : decode cX2_hasNumbersAlone 1 = .ok (.invokevirtual 37, 3) := by decide +kernel
theorem dX2_hasNumbersAlone_4 : decode cX2_hasNumbersAlone 4 = .ok (.aload_n 0, 1) := by decide +kernel
theorem dX2_hasNumbersAlone_5 : decode cX2_hasNumbersAlone 5 = .ok (.getfield 20, 3) := by decide +kernel
theorem dX2_hasNumbersAlone_8 : decode cX2_hasNumbersAlone 8 = .ok (.aload_n 0, 1) := by decide +kernel
theorem dX2_hasNumbersAlone_9 : decode cX2_hasNumbersAlone 9 = .ok (.getfield 20, 3) := by decide +kernel
theorem dX2_hasNumbersAlone_12 : decode cX2_hasNumbersAlone 12 = .ok (.imul, 1) := by decide +kernel
theorem dX2_hasNumbersAlone_13 : decode cX2_hasNumbersAlone 13 = .ok (.if_icmp .ne 7, 3) := by decide +kernel
theorem dX2_hasNumbersAlone_16 : decode cX2_hasNumbersAlone 16 = .ok (.iconst 1, 1) := by decide +kernel
theorem dX2_hasNumbersAlone_17 : decode cX2_hasNumbersAlone 17 = .ok (.goto 4, 3) := by decide +kernel
theorem dX2_hasNumbersAlone_20 : decode cX2_hasNumbersAlone 20 = .ok (.iconst 0, 1) := by decide +kernel
theorem dX2_hasNumbersAlone_21 : decode cX2_hasNumbersAlone 21 = .ok (.ireturn, 1) := by decide +kernel
set_option maxRecDepth 20000 in
theorem ggX2_isWithinLimit_X5_isBeyond : GoodIn wsX2_isWithinLimit wsX5_isBeyond := goodIn_r _ [6, 7] (by decide +kernel) (by decide +kernel)
set_option maxRecDepth 20000 in
theorem gX2_isWithinLimit_X5_isBeyond_n42 : GoodIn wsX2_isWithinLimit (wsX5_isBeyond) := ggX2_isWithinLimit_X5_isBeyond
theorem dX2_isWithinLimit_0 : decode cX2_isWithinLimit 0 = .ok (.iconst 0, 1) := by decide +kernel
theorem dX2_isWithinLimit_1 : decode cX2_isWithinLimit 1 = .ok (.istore_n 1, 1) := by decide +kernel
theorem dX2_isWithinLimit_2 : decode cX2_isWithinLimit 2 = .ok (.iload_n 1, 1) := by decide +kernel
theorem dX2_isWithinLimit_3 : decode cX2_isWithinLimit 3 = .ok (.aload_n 0, 1) := by decide +kernel
theorem dX2_isWithinLimit_4 : decode cX2_isWithinLimit 4 = .ok (.getfield 20, 3) := by decide +kernel
theorem dX2_isWithinLimit_7 : decode cX2_isWithinLimit 7 = .ok (.if_icmp .ge 43, 3) := by decide +kernel
theorem dX2_isWithinLimit_10 : decode cX2_isWithinLimit 10 = .ok (.iconst 0, 1) := by decide +kernel
theorem dX2_isWithinLimit_11 : decode cX2_isWithinLimit 11 = .ok (.istore_n 2, 1) := by decide +kernel
theorem dX2_isWithinLimit_12 : decode cX2_isWithinLimit 12 = .ok (.iload_n 2, 1) := by decide +kernel
theorem dX2_isWithinLimit_13 : decode cX2_isWithinLimit 13 = .ok (.aload_n 0, 1) := by decide +kernel
theorem dX2_isWithinLimit_14 : decode cX2_isWithinLimit 14 = .ok (.getfield 20, 3) := by decide +kernel
theorem dX2_isWithinLimit_17 : decode cX2_isWithinLimit 17 = .ok (.if_icmp .ge 27, 3) := by decide +kernel
theorem dX2_isWithinLimit_20 : decode cX2_isWithinLimit 20 = .ok (.aload_n 0, 1) := by decide +kernel
theorem dX2_isWithinLimit_21 : decode cX2_isWithinLimit 21 = .ok (.getfield 11, 3) := by decide +kernel
theorem dX2_isWithinLimit_24 : decode cX2_isWithinLimit 24 = .ok (.iload_n 1, 1) := by decide +kernel
theorem dX2_isWithinLimit_25 : decode cX2_isWithinLimit 25 = .ok (.aaload, 1) := by decide +kernel
theorem dX2_isWithinLimit_26 : decode cX2_isWithinLimit 26 = .ok (.iload_n 2, 1) := by decide +kernel
theorem dX2_isWithinLimit_27 : decode cX2_isWithinLimit 27 = .ok (.iaload, 1) := by decide +kernel
theorem dX2_isWithinLimit_28 : decode cX2_isWithinLimit 28 = .ok (.ldc 41, 2) := by decide +kernel
theorem dX2_isWithinLimit_30 : decode cX2_isWithinLimit 30 = .ok (.invokestatic 42, 3) := by decide +kernel
theorem dX2_isWithinLimit_33 : decode cX2_isWithinLimit 33 = .ok (.ifCond .eq 5, 3) := by decide +kernel
theorem dX2_isWithinLimit_36 : decode cX2_isWithinLimit 36 = .ok (.iconst 0, 1) := by decide +kernel
theorem dX2_isWithinLimit_37 : decode cX2_isWithinLimit 37 = .ok (.ireturn, 1) := by decide +kernel
theorem dX2_isWithinLimit_38 : decode cX2_isWithinLimit 38 = .ok (.iinc 2 1, 3) := by decide +kernel
theorem dX2_isWithinLimit_41 : decode cX2_isWithinLimit 41 = .ok (.goto (-29), 3) := by decide +kernel
theorem dX2_isWithinLimit_44 : decode cX2_isWithinLimit 44 = .ok (.iinc 1 1, 3) := by decide +kernel
theorem dX2_isWithinLimit_47 : decode cX2_isWithinLimit 47 = .ok (.goto (-45), 3) := by decide +kernel
theorem dX2_isWithinLimit_50 : decode cX2_isWithinLimit 50 = .ok (.iconst 1, 1) := by decide +kernel
theorem dX2_isWithinLimit_51 : decode cX2_isWithinLimit 51 = .ok (.ireturn, 1) := by decide +kernel
set_option maxRecDepth 20000 in
theorem ggX2_becomeProduct_X5_together : GoodIn wsX2_becomeProduct wsX5_together := goodIn_r _ [10, 11] (by decide +kernel) (by decide +kernel)
set_option maxRecDepth 20000 in
theorem gX2_becomeProduct_X5_together_n46 : GoodIn wsX2_becomeProduct (wsX5_together) := ggX2_becomeProduct_X5_together
theorem dX2_becomeProduct_0 : decode cX2_becomeProduct 0 = .ok (.aload_n 0, 1) := by decide +kernel
theorem dX2_becomeProduct_1 : decode cX2_becomeProduct 1 = .ok (.aload_n 1, 1) := by decide +kernel
theorem dX2_becomeProduct_2 : decode cX2_becomeProduct 2 = .ok (.getfield 20, 3) := by decide +kernel
theorem dX2_becomeProduct_5 : decode cX2_becomeProduct 5 = .ok (.putfield 20, 3) := by decide +kernel
theorem dX2_becomeProduct_8 : decode cX2_becomeProduct 8 = .ok (.iconst 0, 1) := by decide +kernel
theorem dX2_becomeProduct_9 : decode cX2_becomeProduct 9 = .ok (.istore_n 3, 1) := by decide +kernel
theorem dX2_becomeProduct_10 : decode cX2_becomeProduct 10 = .ok (.iload_n 3, 1) := by decide +kernel
theorem dX2_becomeProduct_11 : decode cX2_becomeProduct 11 = .ok (.aload_n 0, 1) := by decide +kernel
theorem dX2_becomeProduct_12 : decode cX2_becomeProduct 12 = .ok (.getfield 20, 3) := by decide +kernel
theorem dX2_becomeProduct_15 : decode cX2_becomeProduct 15 = .ok (.if_icmp .ge 89, 3) := by decide +kernel
theorem dX2_becomeProduct_18 : decode cX2_becomeProduct 18 = .ok (.iconst 0, 1) := by decide +kernel
theorem dX2_becomeProduct_19 : decode cX2_becomeProduct 19 = .ok (.istore 4, 2) := by decide +kernel
theorem dX2_becomeProduct_21 : decode cX2_becomeProduct 21 = .ok (.iload 4, 2) := by decide +kernel
theorem dX2_becomeProduct_23 : decode cX2_becomeProduct 23 = .ok (.aload_n 0, 1) := by decide +kernel
theorem dX2_becomeProduct_24 : decode cX2_becomeProduct 24 = .ok (.getfield 20, 3) := by decide +kernel
theorem dX2_becomeProduct_27 : decode cX2_becomeProduct 27 = .ok (.if_icmp .ge 71, 3) := by decide +kernel
theorem dX2_becomeProduct_30 : decode cX2_becomeProduct 30 = .ok (.ldc 24, 2) := by decide +kernel
theorem dX2_becomeProduct_32 : decode cX2_becomeProduct 32 = .ok (.istore 5, 2) := by decide +kernel
theorem dX2_becomeProduct_34 : decode cX2_becomeProduct 34 = .ok (.iconst 0, 1) := by decide +kernel
theorem dX2_becomeProduct_35 : decode cX2_becomeProduct 35 = .ok (.istore 6, 2) := by decide +kernel
theorem dX2_becomeProduct_37 : decode cX2_becomeProduct 37 = .ok (.iload 6, 2) := by decide +kernel
theorem dX2_becomeProduct_39 : decode cX2_becomeProduct 39 = .ok (.aload_n 0, 1) := by decide +kernel
theorem dX2_becomeProduct_40 : decode cX2_becomeProduct 40 = .ok (.getfield 20, 3) := by decide +kernel
theorem dX2_becomeProduct_43 : decode cX2_becomeProduct 43 = .ok (.if_icmp .ge 38, 3) := by decide +kernel
theorem dX2_becomeProduct_46 : decode cX2_becomeProduct 46 = .ok (.iload 5, 2) := by decide +kernel
theorem dX2_becomeProduct_48 : decode cX2_becomeProduct 48 = .ok (.aload_n 1, 1) := by decide +kernel
theorem dX2_becomeProduct_49 : decode cX2_becomeProduct 49 = .ok (.getfield 11, 3) := by decide +kernel
theorem dX2_becomeProduct_52 : decode cX2_becomeProduct 52 = .ok (.iload_n 3, 1) := by decide +kernel
theorem dX2_becomeProduct_53 : decode cX2_becomeProduct 53 = .ok (.aaload, 1) := by decide +kernel
theorem dX2_becomeProduct_54 : decode cX2_becomeProduct 54 = .ok (.iload 6, 2) := by decide +kernel
theorem dX2_becomeProduct_56 : decode cX2_becomeProduct 56 = .ok (.iaload, 1) := by decide +kernel
theorem dX2_becomeProduct_57 : decode cX2_becomeProduct 57 = .ok (.aload_n 2, 1) := by decide +kernel
theorem dX2_becomeProduct_58 : decode cX2_becomeProduct 58 = .ok (.getfield 11, 3) := by decide +kernel
theorem dX2_becomeProduct_61 : decode cX2_becomeProduct 61 = .ok (.iload 6, 2) := by decide +kernel
theorem dX2_becomeProduct_63 : decode cX2_becomeProduct 63 = .ok (.aaload, 1) := by decide +kernel
theorem dX2_becomeProduct_64 : decode cX2_becomeProduct 64 = .ok (.iload 4, 2) := by decide +kernel
theorem dX2_becomeProduct_66 : decode cX2_becomeProduct 66 = .ok (.iaload, 1) := by decide +kernel
theorem dX2_becomeProduct_67 : decode cX2_becomeProduct 67 = .ok (.invokestatic 46, 3) := by decide +kernel
theorem dX2_becomeProduct_70 : decode cX2_becomeProduct 70 = .ok (.invokestatic 50, 3) := by decide +kernel
theorem dX2_becomeProduct_73 : decode cX2_becomeProduct 73 = .ok (.istore 5, 2) := by decide +kernel
theorem dX2_becomeProduct_75 : decode cX2_becomeProduct 75 = .ok (.iinc 6 1, 3) := by decide +kernel
theorem dX2_becomeProduct_78 : decode cX2_becomeProduct 78 = .ok (.goto (-41), 3) := by decide +kernel
theorem dX2_becomeProduct_81 : decode cX2_becomeProduct 81 = .ok (.aload_n 0, 1) := by decide +kernel
theorem dX2_becomeProduct_82 : decode cX2_becomeProduct 82 = .ok (.getfield 11, 3) := by decide +kernel
theorem dX2_becomeProduct_85 : decode cX2_becomeProduct 85 = .ok (.iload_n 3, 1) := by decide +kernel
theorem dX2_becomeProduct_86 : decode cX2_becomeProduct 86 = .ok (.aaload, 1) := by decide +kernel
theorem dX2_becomeProduct_87 : decode cX2_becomeProduct 87 = .ok (.iload 4, 2) := by decide +kernel
theorem dX2_becomeProduct_89 : decode cX2_becomeProduct 89 = .ok (.iload 5, 2) := by decide +kernel
theorem dX2_becomeProduct_91 : decode cX2_becomeProduct 91 = .ok (.iastore, 1) := by decide +kernel
theorem dX2_becomeProduct_92 : decode cX2_becomeProduct 92 = .ok (.iinc 4 1, 3) := by decide +kernel
theorem dX2_becomeProduct_95 : decode cX2_becomeProduct 95 = .ok (.goto (-74), 3) := by decide +kernel
theorem dX2_becomeProduct_98 : decode cX2_becomeProduct 98 = .ok (.iinc 3 1, 3) := by decide +kernel
theorem dX2_becomeProduct_101 : decode cX2_becomeProduct 101 = .ok (.goto (-91), 3) := by decide +kernel
theorem dX2_becomeProduct_104 : decode cX2_becomeProduct 104 = .ok (.return_, 1) := by decide +kernel
set_option maxRecDepth 20000 in
theorem ggX2_closeWays_X5_together : GoodIn wsX2_closeWays wsX5_together := goodIn_r _ [9, 10] (by decide +kernel) (by decide +kernel)
set_option maxRecDepth 20000 in
theorem gX2_closeWays_X5_together_n46 : GoodIn wsX2_closeWays (wsX5_together) := ggX2_closeWays_X5_together
theorem dX2_closeWays_0 : decode cX2_closeWays 0 = .ok (.iconst 0, 1) := by decide +kernel
theorem dX2_closeWays_1 : decode cX2_closeWays 1 = .ok (.istore_n 1, 1) := by decide +kernel
theorem dX2_closeWays_2 : decode cX2_closeWays 2 = .ok (.iload_n 1, 1) := by decide +kernel
theorem dX2_closeWays_3 : decode cX2_closeWays 3 = .ok (.aload_n 0, 1) := by decide +kernel
theorem dX2_closeWays_4 : decode cX2_closeWays 4 = .ok (.getfield 20, 3) := by decide +kernel
theorem dX2_closeWays_7 : decode cX2_closeWays 7 = .ok (.if_icmp .ge 29, 3) := by decide +kernel
theorem dX2_closeWays_10 : decode cX2_closeWays 10 = .ok (.aload_n 0, 1) := by decide +kernel
theorem dX2_closeWays_11 : decode cX2_closeWays 11 = .ok (.getfield 11, 3) := by decide +kernel
theorem dX2_closeWays_14 : decode cX2_closeWays 14 = .ok (.iload_n 1, 1) := by decide +kernel
theorem dX2_closeWays_15 : decode cX2_closeWays 15 = .ok (.aaload, 1) := by decide +kernel
theorem dX2_closeWays_16 : decode cX2_closeWays 16 = .ok (.iload_n 1, 1) := by decide +kernel
theorem dX2_closeWays_17 : decode cX2_closeWays 17 = .ok (.iconst 0, 1) := by decide +kernel
theorem dX2_closeWays_18 : decode cX2_closeWays 18 = .ok (.aload_n 0, 1) := by decide +kernel
theorem dX2_closeWays_19 : decode cX2_closeWays 19 = .ok (.getfield 11, 3) := by decide +kernel
theorem dX2_closeWays_22 : decode cX2_closeWays 22 = .ok (.iload_n 1, 1) := by decide +kernel
theorem dX2_closeWays_23 : decode cX2_closeWays 23 = .ok (.aaload, 1) := by decide +kernel
theorem dX2_closeWays_24 : decode cX2_closeWays 24 = .ok (.iload_n 1, 1) := by decide +kernel
theorem dX2_closeWays_25 : decode cX2_closeWays 25 = .ok (.iaload, 1) := by decide +kernel
theorem dX2_closeWays_26 : decode cX2_closeWays 26 = .ok (.invokestatic 50, 3) := by decide +kernel
theorem dX2_closeWays_29 : decode cX2_closeWays 29 = .ok (.iastore, 1) := by decide +kernel
theorem dX2_closeWays_30 : decode cX2_closeWays 30 = .ok (.iinc 1 1, 3) := by decide +kernel
theorem dX2_closeWays_33 : decode cX2_closeWays 33 = .ok (.goto (-31), 3) := by decide +kernel
theorem dX2_closeWays_36 : decode cX2_closeWays 36 = .ok (.iconst 0, 1) := by decide +kernel
theorem dX2_closeWays_37 : decode cX2_closeWays 37 = .ok (.istore_n 1, 1) := by decide +kernel
theorem dX2_closeWays_38 : decode cX2_closeWays 38 = .ok (.iload_n 1, 1) := by decide +kernel
theorem dX2_closeWays_39 : decode cX2_closeWays 39 = .ok (.aload_n 0, 1) := by decide +kernel
theorem dX2_closeWays_40 : decode cX2_closeWays 40 = .ok (.getfield 20, 3) := by decide +kernel
theorem dX2_closeWays_43 : decode cX2_closeWays 43 = .ok (.if_icmp .ge 83, 3) := by decide +kernel
theorem dX2_closeWays_46 : decode cX2_closeWays 46 = .ok (.iconst 0, 1) := by decide +kernel
theorem dX2_closeWays_47 : decode cX2_closeWays 47 = .ok (.istore_n 2, 1) := by decide +kernel
theorem dX2_closeWays_48 : decode cX2_closeWays 48 = .ok (.iload_n 2, 1) := by decide +kernel
theorem dX2_closeWays_49 : decode cX2_closeWays 49 = .ok (.aload_n 0, 1) := by decide +kernel
theorem dX2_closeWays_50 : decode cX2_closeWays 50 = .ok (.getfield 20, 3) := by decide +kernel
theorem dX2_closeWays_53 : decode cX2_closeWays 53 = .ok (.if_icmp .ge 67, 3) := by decide +kernel
theorem dX2_closeWays_56 : decode cX2_closeWays 56 = .ok (.iconst 0, 1) := by decide +kernel
theorem dX2_closeWays_57 : decode cX2_closeWays 57 = .ok (.istore_n 3, 1) := by decide +kernel
theorem dX2_closeWays_58 : decode cX2_closeWays 58 = .ok (.iload_n 3, 1) := by decide +kernel
theorem dX2_closeWays_59 : decode cX2_closeWays 59 = .ok (.aload_n 0, 1) := by decide +kernel
theorem dX2_closeWays_60 : decode cX2_closeWays 60 = .ok (.getfield 20, 3) := by decide +kernel
theorem dX2_closeWays_63 : decode cX2_closeWays 63 = .ok (.if_icmp .ge 51, 3) := by decide +kernel
theorem dX2_closeWays_66 : decode cX2_closeWays 66 = .ok (.aload_n 0, 1) := by decide +kernel
theorem dX2_closeWays_67 : decode cX2_closeWays 67 = .ok (.getfield 11, 3) := by decide +kernel
theorem dX2_closeWays_70 : decode cX2_closeWays 70 = .ok (.iload_n 2, 1) := by decide +kernel
theorem dX2_closeWays_71 : decode cX2_closeWays 71 = .ok (.aaload, 1) := by decide +kernel
theorem dX2_closeWays_72 : decode cX2_closeWays 72 = .ok (.iload_n 1, 1) := by decide +kernel
theorem dX2_closeWays_73 : decode cX2_closeWays 73 = .ok (.iaload, 1) := by decide +kernel
theorem dX2_closeWays_74 : decode cX2_closeWays 74 = .ok (.aload_n 0, 1) := by decide +kernel
theorem dX2_closeWays_75 : decode cX2_closeWays 75 = .ok (.getfield 11, 3) := by decide +kernel
theorem dX2_closeWays_78 : decode cX2_closeWays 78 = .ok (.iload_n 1, 1) := by decide +kernel
theorem dX2_closeWays_79 : decode cX2_closeWays 79 = .ok (.aaload, 1) := by decide +kernel
theorem dX2_closeWays_80 : decode cX2_closeWays 80 = .ok (.iload_n 3, 1) := by decide +kernel
theorem dX2_closeWays_81 : decode cX2_closeWays 81 = .ok (.iaload, 1) := by decide +kernel
theorem dX2_closeWays_82 : decode cX2_closeWays 82 = .ok (.invokestatic 46, 3) := by decide +kernel
theorem dX2_closeWays_85 : decode cX2_closeWays 85 = .ok (.istore 4, 2) := by decide +kernel
theorem dX2_closeWays_87 : decode cX2_closeWays 87 = .ok (.aload_n 0, 1) := by decide +kernel
theorem dX2_closeWays_88 : decode cX2_closeWays 88 = .ok (.getfield 11, 3) := by decide +kernel
theorem dX2_closeWays_91 : decode cX2_closeWays 91 = .ok (.iload_n 2, 1) := by decide +kernel
theorem dX2_closeWays_92 : decode cX2_closeWays 92 = .ok (.aaload, 1) := by decide +kernel
theorem dX2_closeWays_93 : decode cX2_closeWays 93 = .ok (.iload_n 3, 1) := by decide +kernel
theorem dX2_closeWays_94 : decode cX2_closeWays 94 = .ok (.aload_n 0, 1) := by decide +kernel
theorem dX2_closeWays_95 : decode cX2_closeWays 95 = .ok (.getfield 11, 3) := by decide +kernel
theorem dX2_closeWays_98 : decode cX2_closeWays 98 = .ok (.iload_n 2, 1) := by decide +kernel
theorem dX2_closeWays_99 : decode cX2_closeWays 99 = .ok (.aaload, 1) := by decide +kernel
theorem dX2_closeWays_100 : decode cX2_closeWays 100 = .ok (.iload_n 3, 1) := by decide +kernel
theorem dX2_closeWays_101 : decode cX2_closeWays 101 = .ok (.iaload, 1) := by decide +kernel
theorem dX2_closeWays_102 : decode cX2_closeWays 102 = .ok (.iload 4, 2) := by decide +kernel
theorem dX2_closeWays_104 : decode cX2_closeWays 104 = .ok (.invokestatic 50, 3) := by decide +kernel
theorem dX2_closeWays_107 : decode cX2_closeWays 107 = .ok (.iastore, 1) := by decide +kernel
theorem dX2_closeWays_108 : decode cX2_closeWays 108 = .ok (.iinc 3 1, 3) := by decide +kernel
theorem dX2_closeWays_111 : decode cX2_closeWays 111 = .ok (.goto (-53), 3) := by decide +kernel
theorem dX2_closeWays_114 : decode cX2_closeWays 114 = .ok (.iinc 2 1, 3) := by decide +kernel
theorem dX2_closeWays_117 : decode cX2_closeWays 117 = .ok (.goto (-69), 3) := by decide +kernel
theorem dX2_closeWays_120 : decode cX2_closeWays 120 = .ok (.iinc 1 1, 3) := by decide +kernel
theorem dX2_closeWays_123 : decode cX2_closeWays 123 = .ok (.goto (-85), 3) := by decide +kernel
theorem dX2_closeWays_126 : decode cX2_closeWays 126 = .ok (.return_, 1) := by decide +kernel
theorem dX2_comesBackBelowZero_0 : decode cX2_comesBackBelowZero 0 = .ok (.iconst 0, 1) := by decide +kernel
theorem dX2_comesBackBelowZero_1 : decode cX2_comesBackBelowZero 1 = .ok (.istore_n 1, 1) := by decide +kernel
theorem dX2_comesBackBelowZero_2 : decode cX2_comesBackBelowZero 2 = .ok (.iload_n 1, 1) := by decide +kernel
theorem dX2_comesBackBelowZero_3 : decode cX2_comesBackBelowZero 3 = .ok (.aload_n 0, 1) := by decide +kernel
theorem dX2_comesBackBelowZero_4 : decode cX2_comesBackBelowZero 4 = .ok (.getfield 20, 3) := by decide +kernel
theorem dX2_comesBackBelowZero_7 : decode cX2_comesBackBelowZero 7 = .ok (.if_icmp .ge 22, 3) := by decide +kernel
theorem dX2_comesBackBelowZero_10 : decode cX2_comesBackBelowZero 10 = .ok (.aload_n 0, 1) := by decide +kernel
theorem dX2_comesBackBelowZero_11 : decode cX2_comesBackBelowZero 11 = .ok (.getfield 11, 3) := by decide +kernel
theorem dX2_comesBackBelowZero_14 : decode cX2_comesBackBelowZero 14 = .ok (.iload_n 1, 1) := by decide +kernel
theorem dX2_comesBackBelowZero_15 : decode cX2_comesBackBelowZero 15 = .ok (.aaload, 1) := by decide +kernel
theorem dX2_comesBackBelowZero_16 : decode cX2_comesBackBelowZero 16 = .ok (.iload_n 1, 1) := by decide +kernel
theorem dX2_comesBackBelowZero_17 : decode cX2_comesBackBelowZero 17 = .ok (.iaload, 1) := by decide +kernel
theorem dX2_comesBackBelowZero_18 : decode cX2_comesBackBelowZero 18 = .ok (.ifCond .ge 5, 3) := by decide +kernel
theorem dX2_comesBackBelowZero_21 : decode cX2_comesBackBelowZero 21 = .ok (.iconst 1, 1) := by decide +kernel
theorem dX2_comesBackBelowZero_22 : decode cX2_comesBackBelowZero 22 = .ok (.ireturn, 1) := by decide +kernel
theorem dX2_comesBackBelowZero_23 : decode cX2_comesBackBelowZero 23 = .ok (.iinc 1 1, 3) := by decide +kernel
theorem dX2_comesBackBelowZero_26 : decode cX2_comesBackBelowZero 26 = .ok (.goto (-24), 3) := by decide +kernel
theorem dX2_comesBackBelowZero_29 : decode cX2_comesBackBelowZero 29 = .ok (.iconst 0, 1) := by decide +kernel
theorem dX2_comesBackBelowZero_30 : decode cX2_comesBackBelowZero 30 = .ok (.ireturn, 1) := by decide +kernel
theorem dX2_putSolution_0 : decode cX2_putSolution 0 = .ok (.iconst 0, 1) := by decide +kernel
theorem dX2_putSolution_1 : decode cX2_putSolution 1 = .ok (.istore_n 3, 1) := by decide +kernel
theorem dX2_putSolution_2 : decode cX2_putSolution 2 = .ok (.iload_n 3, 1) := by decide +kernel
theorem dX2_putSolution_3 : decode cX2_putSolution 3 = .ok (.aload_n 0, 1) := by decide +kernel
theorem dX2_putSolution_4 : decode cX2_putSolution 4 = .ok (.getfield 20, 3) := by decide +kernel
theorem dX2_putSolution_7 : decode cX2_putSolution 7 = .ok (.if_icmp .ge 87, 3) := by decide +kernel
theorem dX2_putSolution_10 : decode cX2_putSolution 10 = .ok (.ldc 24, 2) := by decide +kernel
theorem dX2_putSolution_12 : decode cX2_putSolution 12 = .ok (.istore 4, 2) := by decide +kernel
theorem dX2_putSolution_14 : decode cX2_putSolution 14 = .ok (.iconst 0, 1) := by decide +kernel
theorem dX2_putSolution_15 : decode cX2_putSolution 15 = .ok (.istore 5, 2) := by decide +kernel
theorem dX2_putSolution_17 : decode cX2_putSolution 17 = .ok (.iload 5, 2) := by decide +kernel
theorem dX2_putSolution_19 : decode cX2_putSolution 19 = .ok (.aload_n 0, 1) := by decide +kernel
theorem dX2_putSolution_20 : decode cX2_putSolution 20 = .ok (.getfield 20, 3) := by decide +kernel
theorem dX2_putSolution_23 : decode cX2_putSolution 23 = .ok (.if_icmp .ge 60, 3) := by decide +kernel
theorem dX2_putSolution_26 : decode cX2_putSolution 26 = .ok (.aload_n 0, 1) := by decide +kernel
theorem dX2_putSolution_27 : decode cX2_putSolution 27 = .ok (.getfield 11, 3) := by decide +kernel
theorem dX2_putSolution_30 : decode cX2_putSolution 30 = .ok (.iload 5, 2) := by decide +kernel
theorem dX2_putSolution_32 : decode cX2_putSolution 32 = .ok (.aaload, 1) := by decide +kernel
theorem dX2_putSolution_33 : decode cX2_putSolution 33 = .ok (.iload_n 3, 1) := by decide +kernel
theorem dX2_putSolution_34 : decode cX2_putSolution 34 = .ok (.iaload, 1) := by decide +kernel
theorem dX2_putSolution_35 : decode cX2_putSolution 35 = .ok (.ldc 24, 2) := by decide +kernel
theorem dX2_putSolution_37 : decode cX2_putSolution 37 = .ok (.if_icmp .eq 40, 3) := by decide +kernel
theorem dX2_putSolution_40 : decode cX2_putSolution 40 = .ok (.aload_n 1, 1) := by decide +kernel
theorem dX2_putSolution_41 : decode cX2_putSolution 41 = .ok (.iload 5, 2) := by decide +kernel
theorem dX2_putSolution_43 : decode cX2_putSolution 43 = .ok (.iaload, 1) := by decide +kernel
theorem dX2_putSolution_44 : decode cX2_putSolution 44 = .ok (.aload_n 0, 1) := by decide +kernel
theorem dX2_putSolution_45 : decode cX2_putSolution 45 = .ok (.getfield 11, 3) := by decide +kernel
theorem dX2_putSolution_48 : decode cX2_putSolution 48 = .ok (.iload 5, 2) := by decide +kernel
theorem dX2_putSolution_50 : decode cX2_putSolution 50 = .ok (.aaload, 1) := by decide +kernel
theorem dX2_putSolution_51 : decode cX2_putSolution 51 = .ok (.iload_n 3, 1) := by decide +kernel
theorem dX2_putSolution_52 : decode cX2_putSolution 52 = .ok (.iaload, 1) := by decide +kernel
theorem dX2_putSolution_53 : decode cX2_putSolution 53 = .ok (.isub, 1) := by decide +kernel
theorem dX2_putSolution_54 : decode cX2_putSolution 54 = .ok (.istore 6, 2) := by decide +kernel
theorem dX2_putSolution_56 : decode cX2_putSolution 56 = .ok (.iload 4, 2) := by decide +kernel
theorem dX2_putSolution_58 : decode cX2_putSolution 58 = .ok (.ldc 24, 2) := by decide +kernel
theorem dX2_putSolution_60 : decode cX2_putSolution 60 = .ok (.if_icmp .ne 8, 3) := by decide +kernel
theorem dX2_putSolution_63 : decode cX2_putSolution 63 = .ok (.iload 6, 2) := by decide +kernel
theorem dX2_putSolution_65 : decode cX2_putSolution 65 = .ok (.goto 10, 3) := by decide +kernel
theorem dX2_putSolution_68 : decode cX2_putSolution 68 = .ok (.iload 4, 2) := by decide +kernel
theorem dX2_putSolution_70 : decode cX2_putSolution 70 = .ok (.iload 6, 2) := by decide +kernel
theorem dX2_putSolution_72 : decode cX2_putSolution 72 = .ok (.invokestatic 55, 3) := by decide +kernel
theorem dX2_putSolution_75 : decode cX2_putSolution 75 = .ok (.istore 4, 2) := by decide +kernel
theorem dX2_putSolution_77 : decode cX2_putSolution 77 = .ok (.iinc 5 1, 3) := by decide +kernel
theorem dX2_putSolution_80 : decode cX2_putSolution 80 = .ok (.goto (-63), 3) := by decide +kernel
theorem dX2_putSolution_83 : decode cX2_putSolution 83 = .ok (.aload_n 2, 1) := by decide +kernel
theorem dX2_putSolution_84 : decode cX2_putSolution 84 = .ok (.iload_n 3, 1) := by decide +kernel
theorem dX2_putSolution_85 : decode cX2_putSolution 85 = .ok (.iload 4, 2) := by decide +kernel
theorem dX2_putSolution_87 : decode cX2_putSolution 87 = .ok (.iastore, 1) := by decide +kernel
theorem dX2_putSolution_88 : decode cX2_putSolution 88 = .ok (.iinc 3 1, 3) := by decide +kernel
theorem dX2_putSolution_91 : decode cX2_putSolution 91 = .ok (.goto (-89), 3) := by decide +kernel
theorem dX2_putSolution_94 : decode cX2_putSolution 94 = .ok (.return_, 1) := by decide +kernel
set_option maxRecDepth 20000 in
theorem ggX2_leadsTo_X5_together : GoodIn wsX2_leadsTo wsX5_together := goodIn_r _ [10, 11] (by decide +kernel) (by decide +kernel)
set_option maxRecDepth 20000 in
theorem gX2_leadsTo_X5_together_n46 : GoodIn wsX2_leadsTo (wsX5_together) := ggX2_leadsTo_X5_together
theorem dX2_leadsTo_0 : decode cX2_leadsTo 0 = .ok (.iconst 0, 1) := by decide +kernel
theorem dX2_leadsTo_1 : decode cX2_leadsTo 1 = .ok (.istore_n 3, 1) := by decide +kernel
theorem dX2_leadsTo_2 : decode cX2_leadsTo 2 = .ok (.iload_n 3, 1) := by decide +kernel
theorem dX2_leadsTo_3 : decode cX2_leadsTo 3 = .ok (.aload_n 0, 1) := by decide +kernel
theorem dX2_leadsTo_4 : decode cX2_leadsTo 4 = .ok (.getfield 20, 3) := by decide +kernel
theorem dX2_leadsTo_7 : decode cX2_leadsTo 7 = .ok (.if_icmp .ge 64, 3) := by decide +kernel
theorem dX2_leadsTo_10 : decode cX2_leadsTo 10 = .ok (.ldc 24, 2) := by decide +kernel
theorem dX2_leadsTo_12 : decode cX2_leadsTo 12 = .ok (.istore 4, 2) := by decide +kernel
theorem dX2_leadsTo_14 : decode cX2_leadsTo 14 = .ok (.iconst 0, 1) := by decide +kernel
theorem dX2_leadsTo_15 : decode cX2_leadsTo 15 = .ok (.istore 5, 2) := by decide +kernel
theorem dX2_leadsTo_17 : decode cX2_leadsTo 17 = .ok (.iload 5, 2) := by decide +kernel
theorem dX2_leadsTo_19 : decode cX2_leadsTo 19 = .ok (.aload_n 0, 1) := by decide +kernel
theorem dX2_leadsTo_20 : decode cX2_leadsTo 20 = .ok (.getfield 20, 3) := by decide +kernel
theorem dX2_leadsTo_23 : decode cX2_leadsTo 23 = .ok (.if_icmp .ge 32, 3) := by decide +kernel
theorem dX2_leadsTo_26 : decode cX2_leadsTo 26 = .ok (.iload 4, 2) := by decide +kernel
theorem dX2_leadsTo_28 : decode cX2_leadsTo 28 = .ok (.aload_n 0, 1) := by decide +kernel
theorem dX2_leadsTo_29 : decode cX2_leadsTo 29 = .ok (.getfield 11, 3) := by decide +kernel
theorem dX2_leadsTo_32 : decode cX2_leadsTo 32 = .ok (.iload_n 3, 1) := by decide +kernel
theorem dX2_leadsTo_33 : decode cX2_leadsTo 33 = .ok (.aaload, 1) := by decide +kernel
theorem dX2_leadsTo_34 : decode cX2_leadsTo 34 = .ok (.iload 5, 2) := by decide +kernel
theorem dX2_leadsTo_36 : decode cX2_leadsTo 36 = .ok (.iaload, 1) := by decide +kernel
theorem dX2_leadsTo_37 : decode cX2_leadsTo 37 = .ok (.aload_n 1, 1) := by decide +kernel
theorem dX2_leadsTo_38 : decode cX2_leadsTo 38 = .ok (.iload 5, 2) := by decide +kernel
theorem dX2_leadsTo_40 : decode cX2_leadsTo 40 = .ok (.iaload, 1) := by decide +kernel
theorem dX2_leadsTo_41 : decode cX2_leadsTo 41 = .ok (.invokestatic 46, 3) := by decide +kernel
theorem dX2_leadsTo_44 : decode cX2_leadsTo 44 = .ok (.invokestatic 50, 3) := by decide +kernel
theorem dX2_leadsTo_47 : decode cX2_leadsTo 47 = .ok (.istore 4, 2) := by decide +kernel
theorem dX2_leadsTo_49 : decode cX2_leadsTo 49 = .ok (.iinc 5 1, 3) := by decide +kernel
theorem dX2_leadsTo_52 : decode cX2_leadsTo 52 = .ok (.goto (-35), 3) := by decide +kernel
theorem dX2_leadsTo_55 : decode cX2_leadsTo 55 = .ok (.iload 4, 2) := by decide +kernel
theorem dX2_leadsTo_57 : decode cX2_leadsTo 57 = .ok (.aload_n 2, 1) := by decide +kernel
theorem dX2_leadsTo_58 : decode cX2_leadsTo 58 = .ok (.iload_n 3, 1) := by decide +kernel
theorem dX2_leadsTo_59 : decode cX2_leadsTo 59 = .ok (.iaload, 1) := by decide +kernel
theorem dX2_leadsTo_60 : decode cX2_leadsTo 60 = .ok (.if_icmp .eq 5, 3) := by decide +kernel
theorem dX2_leadsTo_63 : decode cX2_leadsTo 63 = .ok (.iconst 0, 1) := by decide +kernel
theorem dX2_leadsTo_64 : decode cX2_leadsTo 64 = .ok (.ireturn, 1) := by decide +kernel
theorem dX2_leadsTo_65 : decode cX2_leadsTo 65 = .ok (.iinc 3 1, 3) := by decide +kernel
theorem dX2_leadsTo_68 : decode cX2_leadsTo 68 = .ok (.goto (-66), 3) := by decide +kernel
theorem dX2_leadsTo_71 : decode cX2_leadsTo 71 = .ok (.iconst 1, 1) := by decide +kernel
theorem dX2_leadsTo_72 : decode cX2_leadsTo 72 = .ok (.ireturn, 1) := by decide +kernel
set_option maxRecDepth 20000 in
theorem ggX2_putProjection_X2_shiftOf : GoodIn wsX2_putProjection wsX2_shiftOf := goodIn_r _ [11, 2, 1, 12, 13, 5, 14, 15, 16] (by decide +kernel) (by decide +kernel)
set_option maxRecDepth 20000 in
theorem gX2_putProjection_X2_shiftOf : GoodIn wsX2_putProjection (wsV RX2 58 RX2 yX2_shiftOf wsX2_shiftOf) := goodIn_app (goodIn_of _ (by decide +kernel)) ggX2_putProjection_X2_shiftOf
theorem dX2_putProjection_0 : decode cX2_putProjection 0 = .ok (.iconst 0, 1) := by decide +kernel
theorem dX2_putProjection_1 : decode cX2_putProjection 1 = .ok (.istore_n 3, 1) := by decide +kernel
theorem dX2_putProjection_2 : decode cX2_putProjection 2 = .ok (.iload_n 3, 1) := by decide +kernel
theorem dX2_putProjection_3 : decode cX2_putProjection 3 = .ok (.aload_n 0, 1) := by decide +kernel
theorem dX2_putProjection_4 : decode cX2_putProjection 4 = .ok (.getfield 20, 3) := by decide +kernel
theorem dX2_putProjection_7 : decode cX2_putProjection 7 = .ok (.if_icmp .ge 71, 3) := by decide +kernel
theorem dX2_putProjection_10 : decode cX2_putProjection 10 = .ok (.aload_n 0, 1) := by decide +kernel
theorem dX2_putProjection_11 : decode cX2_putProjection 11 = .ok (.iload_n 3, 1) := by decide +kernel
theorem dX2_putProjection_12 : decode cX2_putProjection 12 = .ok (.aload_n 1, 1) := by decide +kernel
theorem dX2_putProjection_13 : decode cX2_putProjection 13 = .ok (.invokevirtual 58, 3) := by decide +kernel
theorem dX2_putProjection_16 : decode cX2_putProjection 16 = .ok (.istore 4, 2) := by decide +kernel
theorem dX2_putProjection_18 : decode cX2_putProjection 18 = .ok (.iconst 0, 1) := by decide +kernel
theorem dX2_putProjection_19 : decode cX2_putProjection 19 = .ok (.istore 5, 2) := by decide +kernel
theorem dX2_putProjection_21 : decode cX2_putProjection 21 = .ok (.iload 5, 2) := by decide +kernel
theorem dX2_putProjection_23 : decode cX2_putProjection 23 = .ok (.aload_n 0, 1) := by decide +kernel
theorem dX2_putProjection_24 : decode cX2_putProjection 24 = .ok (.getfield 20, 3) := by decide +kernel
theorem dX2_putProjection_27 : decode cX2_putProjection 27 = .ok (.if_icmp .ge 45, 3) := by decide +kernel
theorem dX2_putProjection_30 : decode cX2_putProjection 30 = .ok (.iload 4, 2) := by decide +kernel
theorem dX2_putProjection_32 : decode cX2_putProjection 32 = .ok (.aload_n 0, 1) := by decide +kernel
theorem dX2_putProjection_33 : decode cX2_putProjection 33 = .ok (.getfield 11, 3) := by decide +kernel
theorem dX2_putProjection_36 : decode cX2_putProjection 36 = .ok (.iload_n 3, 1) := by decide +kernel
theorem dX2_putProjection_37 : decode cX2_putProjection 37 = .ok (.aaload, 1) := by decide +kernel
theorem dX2_putProjection_38 : decode cX2_putProjection 38 = .ok (.iload 5, 2) := by decide +kernel
theorem dX2_putProjection_40 : decode cX2_putProjection 40 = .ok (.iaload, 1) := by decide +kernel
theorem dX2_putProjection_41 : decode cX2_putProjection 41 = .ok (.iadd, 1) := by decide +kernel
theorem dX2_putProjection_42 : decode cX2_putProjection 42 = .ok (.istore 6, 2) := by decide +kernel
theorem dX2_putProjection_44 : decode cX2_putProjection 44 = .ok (.aload_n 2, 1) := by decide +kernel
theorem dX2_putProjection_45 : decode cX2_putProjection 45 = .ok (.iload 5, 2) := by decide +kernel
theorem dX2_putProjection_47 : decode cX2_putProjection 47 = .ok (.iload_n 3, 1) := by decide +kernel
theorem dX2_putProjection_48 : decode cX2_putProjection 48 = .ok (.ifCond .ne 8, 3) := by decide +kernel
theorem dX2_putProjection_51 : decode cX2_putProjection 51 = .ok (.iload 6, 2) := by decide +kernel
theorem dX2_putProjection_53 : decode cX2_putProjection 53 = .ok (.goto 12, 3) := by decide +kernel
theorem dX2_putProjection_56 : decode cX2_putProjection 56 = .ok (.aload_n 2, 1) := by decide +kernel
theorem dX2_putProjection_57 : decode cX2_putProjection 57 = .ok (.iload 5, 2) := by decide +kernel
theorem dX2_putProjection_59 : decode cX2_putProjection 59 = .ok (.iaload, 1) := by decide +kernel
theorem dX2_putProjection_60 : decode cX2_putProjection 60 = .ok (.iload 6, 2) := by decide +kernel
theorem dX2_putProjection_62 : decode cX2_putProjection 62 = .ok (.invokestatic 50, 3) := by decide +kernel
theorem dX2_putProjection_65 : decode cX2_putProjection 65 = .ok (.iastore, 1) := by decide +kernel
theorem dX2_putProjection_66 : decode cX2_putProjection 66 = .ok (.iinc 5 1, 3) := by decide +kernel
theorem dX2_putProjection_69 : decode cX2_putProjection 69 = .ok (.goto (-48), 3) := by decide +kernel
theorem dX2_putProjection_72 : decode cX2_putProjection 72 = .ok (.iinc 3 1, 3) := by decide +kernel
theorem dX2_putProjection_75 : decode cX2_putProjection 75 = .ok (.goto (-73), 3) := by decide +kernel
theorem dX2_putProjection_78 : decode cX2_putProjection 78 = .ok (.return_, 1) := by decide +kernel
theorem dX2_shiftOf_0 : decode cX2_shiftOf 0 = .ok (.aload_n 2, 1) := by decide +kernel
theorem dX2_shiftOf_1 : decode cX2_shiftOf 1 = .ok (.iconst 0, 1) := by decide +kernel
theorem dX2_shiftOf_2 : decode cX2_shiftOf 2 = .ok (.iaload, 1) := by decide +kernel
theorem dX2_shiftOf_3 : decode cX2_shiftOf 3 = .ok (.aload_n 0, 1) := by decide +kernel
theorem dX2_shiftOf_4 : decode cX2_shiftOf 4 = .ok (.getfield 11, 3) := by decide +kernel
theorem dX2_shiftOf_7 : decode cX2_shiftOf 7 = .ok (.iload_n 1, 1) := by decide +kernel
theorem dX2_shiftOf_8 : decode cX2_shiftOf 8 = .ok (.aaload, 1) := by decide +kernel
theorem dX2_shiftOf_9 : decode cX2_shiftOf 9 = .ok (.iconst 0, 1) := by decide +kernel
theorem dX2_shiftOf_10 : decode cX2_shiftOf 10 = .ok (.iaload, 1) := by decide +kernel
theorem dX2_shiftOf_11 : decode cX2_shiftOf 11 = .ok (.isub, 1) := by decide +kernel
theorem dX2_shiftOf_12 : decode cX2_shiftOf 12 = .ok (.istore_n 3, 1) := by decide +kernel
theorem dX2_shiftOf_13 : decode cX2_shiftOf 13 = .ok (.iconst 1, 1) := by decide +kernel
theorem dX2_shiftOf_14 : decode cX2_shiftOf 14 = .ok (.istore 4, 2) := by decide +kernel
theorem dX2_shiftOf_16 : decode cX2_shiftOf 16 = .ok (.iload 4, 2) := by decide +kernel
theorem dX2_shiftOf_18 : decode cX2_shiftOf 18 = .ok (.aload_n 0, 1) := by decide +kernel
theorem dX2_shiftOf_19 : decode cX2_shiftOf 19 = .ok (.getfield 20, 3) := by decide +kernel
theorem dX2_shiftOf_22 : decode cX2_shiftOf 22 = .ok (.if_icmp .ge 28, 3) := by decide +kernel
theorem dX2_shiftOf_25 : decode cX2_shiftOf 25 = .ok (.iload_n 3, 1) := by decide +kernel
theorem dX2_shiftOf_26 : decode cX2_shiftOf 26 = .ok (.aload_n 2, 1) := by decide +kernel
theorem dX2_shiftOf_27 : decode cX2_shiftOf 27 = .ok (.iload 4, 2) := by decide +kernel
theorem dX2_shiftOf_29 : decode cX2_shiftOf 29 = .ok (.iaload, 1) := by decide +kernel
theorem dX2_shiftOf_30 : decode cX2_shiftOf 30 = .ok (.aload_n 0, 1) := by decide +kernel
theorem dX2_shiftOf_31 : decode cX2_shiftOf 31 = .ok (.getfield 11, 3) := by decide +kernel
theorem dX2_shiftOf_34 : decode cX2_shiftOf 34 = .ok (.iload_n 1, 1) := by decide +kernel
theorem dX2_shiftOf_35 : decode cX2_shiftOf 35 = .ok (.aaload, 1) := by decide +kernel
theorem dX2_shiftOf_36 : decode cX2_shiftOf 36 = .ok (.iload 4, 2) := by decide +kernel
theorem dX2_shiftOf_38 : decode cX2_shiftOf 38 = .ok (.iaload, 1) := by decide +kernel
theorem dX2_shiftOf_39 : decode cX2_shiftOf 39 = .ok (.isub, 1) := by decide +kernel
theorem dX2_shiftOf_40 : decode cX2_shiftOf 40 = .ok (.invokestatic 55, 3) := by decide +kernel
theorem dX2_shiftOf_43 : decode cX2_shiftOf 43 = .ok (.istore_n 3, 1) := by decide +kernel
theorem dX2_shiftOf_44 : decode cX2_shiftOf 44 = .ok (.iinc 4 1, 3) := by decide +kernel
theorem dX2_shiftOf_47 : decode cX2_shiftOf 47 = .ok (.goto (-31), 3) := by decide +kernel
theorem dX2_shiftOf_50 : decode cX2_shiftOf 50 = .ok (.iload_n 3, 1) := by decide +kernel
theorem dX2_shiftOf_51 : decode cX2_shiftOf 51 = .ok (.ireturn, 1) := by decide +kernel
theorem dX3_init_0 : decode cX3_init 0 = .ok (.aload_n 0, 1) := by decide +kernel
theorem dX3_init_1 : decode cX3_init 1 = .ok (.invokespecial 3, 3) := by decide +kernel
theorem dX3_init_4 : decode cX3_init 4 = .ok (.aload_n 0, 1) := by decide +kernel
theorem dX3_init_5 : decode cX3_init 5 = .ok (.iconst 5, 1) := by decide +kernel
theorem dX3_init_6 : decode cX3_init 6 = .ok (.iconst 5, 1) := by decide +kernel
theorem dX3_init_7 : decode cX3_init 7 = .ok (.multianewarray 9 2, 4) := by decide +kernel
theorem dX3_init_11 : decode cX3_init 11 = .ok (.putfield 11, 3) := by decide +kernel
theorem dX3_init_14 : decode cX3_init 14 = .ok (.aload_n 0, 1) := by decide +kernel
theorem dX3_init_15 : decode cX3_init 15 = .ok (.iconst 5, 1) := by decide +kernel
theorem dX3_init_16 : decode cX3_init 16 = .ok (.newarray .int, 2) := by decide +kernel
theorem dX3_init_18 : decode cX3_init 18 = .ok (.putfield 16, 3) := by decide +kernel
theorem dX3_init_21 : decode cX3_init 21 = .ok (.aload_n 0, 1) := by decide +kernel
theorem dX3_init_22 : decode cX3_init 22 = .ok (.iconst 5, 1) := by decide +kernel
theorem dX3_init_23 : decode cX3_init 23 = .ok (.newarray .int, 2) := by decide +kernel
theorem dX3_init_25 : decode cX3_init 25 = .ok (.putfield 20, 3) := by decide +kernel
theorem dX3_init_28 : decode cX3_init 28 = .ok (.aload_n 0, 1) := by decide +kernel
theorem dX3_init_29 : decode cX3_init 29 = .ok (.iconst 5, 1) := by decide +kernel
theorem dX3_init_30 : decode cX3_init 30 = .ok (.iconst 5, 1) := by decide +kernel
theorem dX3_init_31 : decode cX3_init 31 = .ok (.multianewarray 9 2, 4) := by decide +kernel
theorem dX3_init_35 : decode cX3_init 35 = .ok (.putfield 23, 3) := by decide +kernel
theorem dX3_init_38 : decode cX3_init 38 = .ok (.aload_n 0, 1) := by decide +kernel
theorem dX3_init_39 : decode cX3_init 39 = .ok (.iconst 4, 1) := by decide +kernel
theorem dX3_init_40 : decode cX3_init 40 = .ok (.iconst 4, 1) := by decide +kernel
theorem dX3_init_41 : decode cX3_init 41 = .ok (.multianewarray 9 2, 4) := by decide +kernel
theorem dX3_init_45 : decode cX3_init 45 = .ok (.putfield 26, 3) := by decide +kernel
theorem dX3_init_48 : decode cX3_init 48 = .ok (.return_, 1) := by decide +kernel
theorem dX3_startPile_0 : decode cX3_startPile 0 = .ok (.aload_n 0, 1) := by decide +kernel
theorem dX3_startPile_1 : decode cX3_startPile 1 = .ok (.getfield 23, 3) := by decide +kernel
theorem dX3_startPile_4 : decode cX3_startPile 4 = .ok (.iconst 0, 1) := by decide +kernel
theorem dX3_startPile_5 : decode cX3_startPile 5 = .ok (.aaload, 1) := by decide +kernel
theorem dX3_startPile_6 : decode cX3_startPile 6 = .ok (.areturn, 1) := by decide +kernel
theorem dX3_copyChips_0 : decode cX3_copyChips 0 = .ok (.aload_n 0, 1) := by decide +kernel
theorem dX3_copyChips_1 : decode cX3_copyChips 1 = .ok (.getfield 16, 3) := by decide +kernel
theorem dX3_copyChips_4 : decode cX3_copyChips 4 = .ok (.iconst 0, 1) := by decide +kernel
theorem dX3_copyChips_5 : decode cX3_copyChips 5 = .ok (.aload_n 0, 1) := by decide +kernel
theorem dX3_copyChips_6 : decode cX3_copyChips 6 = .ok (.getfield 23, 3) := by decide +kernel
theorem dX3_copyChips_9 : decode cX3_copyChips 9 = .ok (.iconst 0, 1) := by decide +kernel
theorem dX3_copyChips_10 : decode cX3_copyChips 10 = .ok (.aaload, 1) := by decide +kernel
theorem dX3_copyChips_11 : decode cX3_copyChips 11 = .ok (.iconst 0, 1) := by decide +kernel
theorem dX3_copyChips_12 : decode cX3_copyChips 12 = .ok (.iconst 5, 1) := by decide +kernel
theorem dX3_copyChips_13 : decode cX3_copyChips 13 = .ok (.invokestatic 29, 3) := by decide +kernel
theorem dX3_copyChips_16 : decode cX3_copyChips 16 = .ok (.return_, 1) := by decide +kernel
set_option maxRecDepth 20000 in
theorem ggX3_copyRest_X3_allVertices : GoodIn wsX3_copyRest wsX3_allVertices := goodIn_r _ [7] (by decide +kernel) (by decide +kernel)
set_option maxRecDepth 20000 in
theorem gX3_copyRest_X3_allVertices : GoodIn wsX3_copyRest (wsV RX3 35 RX3 yX3_allVertices wsX3_allVertices) := goodIn_app (goodIn_of _ (by decide +kernel)) ggX3_copyRest_X3_allVertices
set_option maxRecDepth 20000 in
theorem ggX3_copyRest_X3_countEdgesInto : GoodIn wsX3_copyRest wsX3_countEdgesInto := goodIn_r _ [11, 12, 13, 14, 15, 16, 17] (by decide +kernel) (by decide +kernel)
set_option maxRecDepth 20000 in
theorem gX3_copyRest_X3_countEdgesInto : GoodIn wsX3_copyRest (wsV RX3 39 RX3 yX3_countEdgesInto wsX3_countEdgesInto) := goodIn_app (goodIn_of _ (by decide +kernel)) ggX3_copyRest_X3_countEdgesInto
theorem dX3_copyRest_0 : decode cX3_copyRest 0 = .ok (.iconst 0, 1) := by decide +kernel
theorem dX3_copyRest_1 : decode cX3_copyRest 1 = .ok (.istore_n 1, 1) := by decide +kernel
theorem dX3_copyRest_2 : decode cX3_copyRest 2 = .ok (.iload_n 1, 1) := by decide +kernel
theorem dX3_copyRest_3 : decode cX3_copyRest 3 = .ok (.iconst 5, 1) := by decide +kernel
theorem dX3_copyRest_4 : decode cX3_copyRest 4 = .ok (.if_icmp .ge 35, 3) := by decide +kernel
theorem dX3_copyRest_7 : decode cX3_copyRest 7 = .ok (.aload_n 0, 1) := by decide +kernel
theorem dX3_copyRest_8 : decode cX3_copyRest 8 = .ok (.getfield 23, 3) := by decide +kernel
theorem dX3_copyRest_11 : decode cX3_copyRest 11 = .ok (.iconst 0, 1) := by decide +kernel
theorem dX3_copyRest_12 : decode cX3_copyRest 12 = .ok (.aaload, 1) := by decide +kernel
theorem dX3_copyRest_13 : decode cX3_copyRest 13 = .ok (.iload_n 1, 1) := by decide +kernel
theorem dX3_copyRest_14 : decode cX3_copyRest 14 = .ok (.aload_n 0, 1) := by decide +kernel
theorem dX3_copyRest_15 : decode cX3_copyRest 15 = .ok (.iload_n 1, 1) := by decide +kernel
theorem dX3_copyRest_16 : decode cX3_copyRest 16 = .ok (.aload_n 0, 1) := by decide +kernel
theorem dX3_copyRest_17 : decode cX3_copyRest 17 = .ok (.invokevirtual 35, 3) := by decide +kernel
theorem dX3_copyRest_20 : decode cX3_copyRest 20 = .ok (.invokevirtual 39, 3) := by decide +kernel
theorem dX3_copyRest_23 : decode cX3_copyRest 23 = .ok (.iconst 2, 1) := by decide +kernel
theorem dX3_copyRest_24 : decode cX3_copyRest 24 = .ok (.isub, 1) := by decide +kernel
theorem dX3_copyRest_25 : decode cX3_copyRest 25 = .ok (.aload_n 0, 1) := by decide +kernel
theorem dX3_copyRest_26 : decode cX3_copyRest 26 = .ok (.getfield 16, 3) := by decide +kernel
theorem dX3_copyRest_29 : decode cX3_copyRest 29 = .ok (.iload_n 1, 1) := by decide +kernel
theorem dX3_copyRest_30 : decode cX3_copyRest 30 = .ok (.iaload, 1) := by decide +kernel
theorem dX3_copyRest_31 : decode cX3_copyRest 31 = .ok (.isub, 1) := by decide +kernel
theorem dX3_copyRest_32 : decode cX3_copyRest 32 = .ok (.iastore, 1) := by decide +kernel
theorem dX3_copyRest_33 : decode cX3_copyRest 33 = .ok (.iinc 1 1, 3) := by decide +kernel
theorem dX3_copyRest_36 : decode cX3_copyRest 36 = .ok (.goto (-34), 3) := by decide +kernel
theorem dX3_copyRest_39 : decode cX3_copyRest 39 = .ok (.return_, 1) := by decide +kernel
theorem dX3_allVertices_0 : decode cX3_allVertices 0 = .ok (.bipush 31, 2) := by decide +kernel
theorem dX3_allVertices_2 : decode cX3_allVertices 2 = .ok (.ireturn, 1) := by decide +kernel
theorem dX3_has_0 : decode cX3_has 0 = .ok (.iload_n 1, 1) := by decide +kernel
theorem dX3_has_1 : decode cX3_has 1 = .ok (.iload_n 2, 1) := by decide +kernel
theorem dX3_has_2 : decode cX3_has 2 = .ok (.ishr, 1) := by decide +kernel
theorem dX3_has_3 : decode cX3_has 3 = .ok (.iconst 1, 1) := by decide +kernel
theorem dX3_has_4 : decode cX3_has 4 = .ok (.iand, 1) := by decide +kernel
theorem dX3_has_5 : decode cX3_has 5 = .ok (.iconst 1, 1) := by decide +kernel
theorem dX3_has_6 : decode cX3_has 6 = .ok (.if_icmp .ne 7, 3) := by decide +kernel
theorem dX3_has_9 : decode cX3_has 9 = .ok (.iconst 1, 1) := by decide +kernel
theorem dX3_has_10 : decode cX3_has 10 = .ok (.goto 4, 3) := by decide +kernel
theorem dX3_has_13 : decode cX3_has 13 = .ok (.iconst 0, 1) := by decide +kernel
theorem dX3_has_14 : decode cX3_has 14 = .ok (.ireturn, 1) := by decide +kernel
theorem dX3_countEdgesInto_0 : decode cX3_countEdgesInto 0 = .ok (.iconst 0, 1) := by decide +kernel
theorem dX3_countEdgesInto_1 : decode cX3_countEdgesInto 1 = .ok (.istore_n 3, 1) := by decide +kernel
theorem dX3_countEdgesInto_2 : decode cX3_countEdgesInto 2 = .ok (.iconst 0, 1) := by decide +kernel
theorem dX3_countEdgesInto_3 : decode cX3_countEdgesInto 3 = .ok (.istore 4, 2) := by decide +kernel
theorem dX3_countEdgesInto_5 : decode cX3_countEdgesInto 5 = .ok (.iload 4, 2) := by decide +kernel
theorem dX3_countEdgesInto_7 : decode cX3_countEdgesInto 7 = .ok (.iconst 5, 1) := by decide +kernel
theorem dX3_countEdgesInto_8 : decode cX3_countEdgesInto 8 = .ok (.if_icmp .ge 31, 3) := by decide +kernel
theorem dX3_countEdgesInto_11 : decode cX3_countEdgesInto 11 = .ok (.iload_n 2, 1) := by decide +kernel
theorem dX3_countEdgesInto_12 : decode cX3_countEdgesInto 12 = .ok (.iload 4, 2) := by decide +kernel
theorem dX3_countEdgesInto_14 : decode cX3_countEdgesInto 14 = .ok (.ishr, 1) := by decide +kernel
theorem dX3_countEdgesInto_15 : decode cX3_countEdgesInto 15 = .ok (.iconst 1, 1) := by decide +kernel
theorem dX3_countEdgesInto_16 : decode cX3_countEdgesInto 16 = .ok (.iand, 1) := by decide +kernel
theorem dX3_countEdgesInto_17 : decode cX3_countEdgesInto 17 = .ok (.iconst 1, 1) := by decide +kernel
theorem dX3_countEdgesInto_18 : decode cX3_countEdgesInto 18 = .ok (.if_icmp .ne 15, 3) := by decide +kernel
theorem dX3_countEdgesInto_21 : decode cX3_countEdgesInto 21 = .ok (.iload_n 3, 1) := by decide +kernel
theorem dX3_countEdgesInto_22 : decode cX3_countEdgesInto 22 = .ok (.aload_n 0, 1) := by decide +kernel
theorem dX3_countEdgesInto_23 : decode cX3_countEdgesInto 23 = .ok (.getfield 11, 3) := by decide +kernel
theorem dX3_countEdgesInto_26 : decode cX3_countEdgesInto 26 = .ok (.iload_n 1, 1) := by decide +kernel
theorem dX3_countEdgesInto_27 : decode cX3_countEdgesInto 27 = .ok (.aaload, 1) := by decide +kernel
theorem dX3_countEdgesInto_28 : decode cX3_countEdgesInto 28 = .ok (.iload 4, 2) := by decide +kernel
theorem dX3_countEdgesInto_30 : decode cX3_countEdgesInto 30 = .ok (.iaload, 1) := by decide +kernel
theorem dX3_countEdgesInto_31 : decode cX3_countEdgesInto 31 = .ok (.iadd, 1) := by decide +kernel
theorem dX3_countEdgesInto_32 : decode cX3_countEdgesInto 32 = .ok (.istore_n 3, 1) := by decide +kernel
theorem dX3_countEdgesInto_33 : decode cX3_countEdgesInto 33 = .ok (.iinc 4 1, 3) := by decide +kernel
theorem dX3_countEdgesInto_36 : decode cX3_countEdgesInto 36 = .ok (.goto (-31), 3) := by decide +kernel
theorem dX3_countEdgesInto_39 : decode cX3_countEdgesInto 39 = .ok (.iload_n 3, 1) := by decide +kernel
theorem dX3_countEdgesInto_40 : decode cX3_countEdgesInto 40 = .ok (.ireturn, 1) := by decide +kernel
set_option maxRecDepth 20000 in
theorem ggX3_hasVertex_X3_allVertices : GoodIn wsX3_hasVertex wsX3_allVertices := goodIn_r _ [5] (by decide +kernel) (by decide +kernel)
set_option maxRecDepth 20000 in
theorem gX3_hasVertex_X3_allVertices : GoodIn wsX3_hasVertex (wsV RX3 35 RX3 yX3_allVertices wsX3_allVertices) := goodIn_app (goodIn_of _ (by decide +kernel)) ggX3_hasVertex_X3_allVertices
set_option maxRecDepth 20000 in
theorem ggX3_hasVertex_X3_countEdgesInto : GoodIn wsX3_hasVertex wsX3_countEdgesInto := goodIn_r _ [9, 10, 11, 12, 13, 14, 15] (by decide +kernel) (by decide +kernel)
set_option maxRecDepth 20000 in
theorem gX3_hasVertex_X3_countEdgesInto : GoodIn wsX3_hasVertex (wsV RX3 39 RX3 yX3_countEdgesInto wsX3_countEdgesInto) := goodIn_app (goodIn_of _ (by decide +kernel)) ggX3_hasVertex_X3_countEdgesInto
theorem dX3_hasVertex_0 : decode cX3_hasVertex 0 = .ok (.iload_n 1, 1) := by decide +kernel
theorem dX3_hasVertex_1 : decode cX3_hasVertex 1 = .ok (.ifCond .eq 15, 3) := by decide +kernel
theorem dX3_hasVertex_4 : decode cX3_hasVertex 4 = .ok (.aload_n 0, 1) := by decide +kernel
theorem dX3_hasVertex_5 : decode cX3_hasVertex 5 = .ok (.iload_n 1, 1) := by decide +kernel
theorem dX3_hasVertex_6 : decode cX3_hasVertex 6 = .ok (.aload_n 0, 1) := by decide +kernel
theorem dX3_hasVertex_7 : decode cX3_hasVertex 7 = .ok (.invokevirtual 35, 3) := by decide +kernel
theorem dX3_hasVertex_10 : decode cX3_hasVertex 10 = .ok (.invokevirtual 39, 3) := by decide +kernel
theorem dX3_hasVertex_13 : decode cX3_hasVertex 13 = .ok (.ifCond .le 7, 3) := by decide +kernel
theorem dX3_hasVertex_16 : decode cX3_hasVertex 16 = .ok (.iconst 1, 1) := by decide +kernel
theorem dX3_hasVertex_17 : decode cX3_hasVertex 17 = .ok (.goto 4, 3) := by decide +kernel
theorem dX3_hasVertex_20 : decode cX3_hasVertex 20 = .ok (.iconst 0, 1) := by decide +kernel
theorem dX3_hasVertex_21 : decode cX3_hasVertex 21 = .ok (.ireturn, 1) := by decide +kernel
set_option maxRecDepth 20000 in
theorem ggX3_countVertices_X3_hasVertex : GoodIn wsX3_countVertices wsX3_hasVertex := goodIn_r _ [5, 6, 7, 8, 4, 9, 10, 11, 12, 13, 14, 15, 16, 17, 18, 19] (by decide +kernel) (by decide +kernel)
set_option maxRecDepth 20000 in
theorem gX3_countVertices_X3_hasVertex : GoodIn wsX3_countVertices (wsV RX3 43 RX3 yX3_hasVertex wsX3_hasVertex) := goodIn_app (goodIn_of _ (by decide +kernel)) ggX3_countVertices_X3_hasVertex
theorem dX3_countVertices_0 : decode cX3_countVertices 0 = .ok (.iconst 0, 1) := by decide +kernel
theorem dX3_countVertices_1 : decode cX3_countVertices 1 = .ok (.istore_n 1, 1) := by decide +kernel
theorem dX3_countVertices_2 : decode cX3_countVertices 2 = .ok (.iconst 0, 1) := by decide +kernel
theorem dX3_countVertices_3 : decode cX3_countVertices 3 = .ok (.istore_n 2, 1) := by decide +kernel
theorem dX3_countVertices_4 : decode cX3_countVertices 4 = .ok (.iload_n 2, 1) := by decide +kernel
theorem dX3_countVertices_5 : decode cX3_countVertices 5 = .ok (.iconst 5, 1) := by decide +kernel
theorem dX3_countVertices_6 : decode cX3_countVertices 6 = .ok (.if_icmp .ge 20, 3) := by decide +kernel
theorem dX3_countVertices_9 : decode cX3_countVertices 9 = .ok (.aload_n 0, 1) := by decide +kernel
theorem dX3_countVertices_10 : decode cX3_countVertices 10 = .ok (.iload_n 2, 1) := by decide +kernel
theorem dX3_countVertices_11 : decode cX3_countVertices 11 = .ok (.invokevirtual 43, 3) := by decide +kernel
theorem dX3_countVertices_14 : decode cX3_countVertices 14 = .ok (.ifCond .eq 6, 3) := by decide +kernel
theorem dX3_countVertices_17 : decode cX3_countVertices 17 = .ok (.iinc 1 1, 3) := by decide +kernel
theorem dX3_countVertices_20 : decode cX3_countVertices 20 = .ok (.iinc 2 1, 3) := by decide +kernel
theorem dX3_countVertices_23 : decode cX3_countVertices 23 = .ok (.goto (-19), 3) := by decide +kernel
theorem dX3_countVertices_26 : decode cX3_countVertices 26 = .ok (.iload_n 1, 1) := by decide +kernel
theorem dX3_countVertices_27 : decode cX3_countVertices 27 = .ok (.ireturn, 1) := by decide +kernel
set_option maxRecDepth 20000 in
theorem ggX3_countEdges_X3_allVertices : GoodIn wsX3_countEdges wsX3_allVertices := goodIn_r _ [5] (by decide +kernel) (by decide +kernel)
set_option maxRecDepth 20000 in
theorem gX3_countEdges_X3_allVertices : GoodIn wsX3_countEdges (wsV RX3 35 RX3 yX3_allVertices wsX3_allVertices) := goodIn_app (goodIn_of _ (by decide +kernel)) ggX3_countEdges_X3_allVertices
set_option maxRecDepth 20000 in
theorem ggX3_countEdges_X3_countEdgesInto : GoodIn wsX3_countEdges wsX3_countEdgesInto := goodIn_r _ [9, 10, 11, 12, 13, 14, 15] (by decide +kernel) (by decide +kernel)
set_option maxRecDepth 20000 in
theorem gX3_countEdges_X3_countEdgesInto : GoodIn wsX3_countEdges (wsV RX3 39 RX3 yX3_countEdgesInto wsX3_countEdgesInto) := goodIn_app (goodIn_of _ (by decide +kernel)) ggX3_countEdges_X3_countEdgesInto
theorem dX3_countEdges_0 : decode cX3_countEdges 0 = .ok (.iconst 0, 1) := by decide +kernel
theorem dX3_countEdges_1 : decode cX3_countEdges 1 = .ok (.istore_n 1, 1) := by decide +kernel
theorem dX3_countEdges_2 : decode cX3_countEdges 2 = .ok (.iconst 0, 1) := by decide +kernel
theorem dX3_countEdges_3 : decode cX3_countEdges 3 = .ok (.istore_n 2, 1) := by decide +kernel
theorem dX3_countEdges_4 : decode cX3_countEdges 4 = .ok (.iload_n 2, 1) := by decide +kernel
theorem dX3_countEdges_5 : decode cX3_countEdges 5 = .ok (.iconst 5, 1) := by decide +kernel
theorem dX3_countEdges_6 : decode cX3_countEdges 6 = .ok (.if_icmp .ge 21, 3) := by decide +kernel
theorem dX3_countEdges_9 : decode cX3_countEdges 9 = .ok (.iload_n 1, 1) := by decide +kernel
theorem dX3_countEdges_10 : decode cX3_countEdges 10 = .ok (.aload_n 0, 1) := by decide +kernel
theorem dX3_countEdges_11 : decode cX3_countEdges 11 = .ok (.iload_n 2, 1) := by decide +kernel
theorem dX3_countEdges_12 : decode cX3_countEdges 12 = .ok (.aload_n 0, 1) := by decide +kernel
theorem dX3_countEdges_13 : decode cX3_countEdges 13 = .ok (.invokevirtual 35, 3) := by decide +kernel
theorem dX3_countEdges_16 : decode cX3_countEdges 16 = .ok (.invokevirtual 39, 3) := by decide +kernel
theorem dX3_countEdges_19 : decode cX3_countEdges 19 = .ok (.iadd, 1) := by decide +kernel
theorem dX3_countEdges_20 : decode cX3_countEdges 20 = .ok (.istore_n 1, 1) := by decide +kernel
theorem dX3_countEdges_21 : decode cX3_countEdges 21 = .ok (.iinc 2 1, 3) := by decide +kernel
theorem dX3_countEdges_24 : decode cX3_countEdges 24 = .ok (.goto (-20), 3) := by decide +kernel
theorem dX3_countEdges_27 : decode cX3_countEdges 27 = .ok (.iload_n 1, 1) := by decide +kernel
theorem dX3_countEdges_28 : decode cX3_countEdges 28 = .ok (.iconst 2, 1) := by decide +kernel
theorem dX3_countEdges_29 : decode cX3_countEdges 29 = .ok (.idiv, 1) := by decide +kernel
theorem dX3_countEdges_30 : decode cX3_countEdges 30 = .ok (.ireturn, 1) := by decide +kernel
set_option maxRecDepth 20000 in
theorem ggX3_genus_X3_countEdges : GoodIn wsX3_genus wsX3_countEdges := goodIn_r _ [5, 6, 7, 8, 4, 9, 10, 11, 12, 13, 14, 23, 24, 25, 26, 27] (by decide +kernel) (by decide +kernel)
set_option maxRecDepth 20000 in
theorem gX3_genus_X3_countEdges : GoodIn wsX3_genus (wsV RX3 47 RX3 yX3_countEdges wsX3_countEdges) := goodIn_app (goodIn_of _ (by decide +kernel)) ggX3_genus_X3_countEdges
set_option maxRecDepth 20000 in
theorem ggX3_genus_X3_countVertices : GoodIn wsX3_genus wsX3_countVertices := goodIn_r _ [18, 19, 20, 21, 4, 22, 6, 7, 8, 9, 10, 11, 12, 13, 14, 23, 24, 25, 26, 27] (by decide +kernel) (by decide +kernel)
set_option maxRecDepth 20000 in
theorem gX3_genus_X3_countVertices : GoodIn wsX3_genus (wsV RX3 50 RX3 yX3_countVertices wsX3_countVertices) := goodIn_app (goodIn_of _ (by decide +kernel)) ggX3_genus_X3_countVertices
theorem dX3_genus_0 : decode cX3_genus 0 = .ok (.aload_n 0, 1) := by decide +kernel
theorem dX3_genus_1 : decode cX3_genus 1 = .ok (.invokevirtual 47, 3) := by decide +kernel
theorem dX3_genus_4 : decode cX3_genus 4 = .ok (.aload_n 0, 1) := by decide +kernel
theorem dX3_genus_5 : decode cX3_genus 5 = .ok (.invokevirtual 50, 3) := by decide +kernel
theorem dX3_genus_8 : decode cX3_genus 8 = .ok (.isub, 1) := by decide +kernel
theorem dX3_genus_9 : decode cX3_genus 9 = .ok (.iconst 1, 1) := by decide +kernel
theorem dX3_genus_10 : decode cX3_genus 10 = .ok (.iadd, 1) := by decide +kernel
theorem dX3_genus_11 : decode cX3_genus 11 = .ok (.ireturn, 1) := by decide +kernel
set_option maxRecDepth 20000 in
theorem ggX3_degree_X3_hasVertex : GoodIn wsX3_degree wsX3_hasVertex := goodIn_r _ [5, 6, 7, 8, 4, 9, 10, 11, 12, 13, 14, 15, 16, 17, 18, 19] (by decide +kernel) (by decide +kernel)
set_option maxRecDepth 20000 in
theorem gX3_degree_X3_hasVertex : GoodIn wsX3_degree (wsV RX3 43 RX3 yX3_hasVertex wsX3_hasVertex) := goodIn_app (goodIn_of _ (by decide +kernel)) ggX3_degree_X3_hasVertex
theorem dX3_degree_0 : decode cX3_degree 0 = .ok (.iconst 0, 1) := by decide +kernel
theorem dX3_degree_1 : decode cX3_degree 1 = .ok (.istore_n 2, 1) := by decide +kernel
theorem dX3_degree_2 : decode cX3_degree 2 = .ok (.iconst 0, 1) := by decide +kernel
theorem dX3_degree_3 : decode cX3_degree 3 = .ok (.istore_n 3, 1) := by decide +kernel
theorem dX3_degree_4 : decode cX3_degree 4 = .ok (.iload_n 3, 1) := by decide +kernel
theorem dX3_degree_5 : decode cX3_degree 5 = .ok (.iconst 5, 1) := by decide +kernel
theorem dX3_degree_6 : decode cX3_degree 6 = .ok (.if_icmp .ge 23, 3) := by decide +kernel
theorem dX3_degree_9 : decode cX3_degree 9 = .ok (.aload_n 0, 1) := by decide +kernel
theorem dX3_degree_10 : decode cX3_degree 10 = .ok (.iload_n 3, 1) := by decide +kernel
theorem dX3_degree_11 : decode cX3_degree 11 = .ok (.invokevirtual 43, 3) := by decide +kernel
theorem dX3_degree_14 : decode cX3_degree 14 = .ok (.ifCond .eq 9, 3) := by decide +kernel
theorem dX3_degree_17 : decode cX3_degree 17 = .ok (.iload_n 2, 1) := by decide +kernel
theorem dX3_degree_18 : decode cX3_degree 18 = .ok (.aload_n 1, 1) := by decide +kernel
theorem dX3_degree_19 : decode cX3_degree 19 = .ok (.iload_n 3, 1) := by decide +kernel
theorem dX3_degree_20 : decode cX3_degree 20 = .ok (.iaload, 1) := by decide +kernel
theorem dX3_degree_21 : decode cX3_degree 21 = .ok (.iadd, 1) := by decide +kernel
theorem dX3_degree_22 : decode cX3_degree 22 = .ok (.istore_n 2, 1) := by decide +kernel
theorem dX3_degree_23 : decode cX3_degree 23 = .ok (.iinc 3 1, 3) := by decide +kernel
theorem dX3_degree_26 : decode cX3_degree 26 = .ok (.goto (-22), 3) := by decide +kernel
theorem dX3_degree_29 : decode cX3_degree 29 = .ok (.iload_n 2, 1) := by decide +kernel
theorem dX3_degree_30 : decode cX3_degree 30 = .ok (.ireturn, 1) := by decide +kernel
set_option maxRecDepth 20000 in
theorem ggX3_isWithinLimit_X5_isBeyond : GoodIn wsX3_isWithinLimit wsX5_isBeyond := goodIn_r _ [3, 4] (by decide +kernel) (by decide +kernel)
set_option maxRecDepth 20000 in
theorem gX3_isWithinLimit_X5_isBeyond_n53 : GoodIn wsX3_isWithinLimit (wsX5_isBeyond) := ggX3_isWithinLimit_X5_isBeyond
theorem dX3_isWithinLimit_0 : decode cX3_isWithinLimit 0 = .ok (.iconst 0, 1) := by decide +kernel
theorem dX3_isWithinLimit_1 : decode cX3_isWithinLimit 1 = .ok (.istore_n 2, 1) := by decide +kernel
theorem dX3_isWithinLimit_2 : decode cX3_isWithinLimit 2 = .ok (.iload_n 2, 1) := by decide +kernel
theorem dX3_isWithinLimit_3 : decode cX3_isWithinLimit 3 = .ok (.iconst 5, 1) := by decide +kernel
theorem dX3_isWithinLimit_4 : decode cX3_isWithinLimit 4 = .ok (.if_icmp .ge 22, 3) := by decide +kernel
theorem dX3_isWithinLimit_7 : decode cX3_isWithinLimit 7 = .ok (.aload_n 1, 1) := by decide +kernel
theorem dX3_isWithinLimit_8 : decode cX3_isWithinLimit 8 = .ok (.iload_n 2, 1) := by decide +kernel
theorem dX3_isWithinLimit_9 : decode cX3_isWithinLimit 9 = .ok (.iaload, 1) := by decide +kernel
theorem dX3_isWithinLimit_10 : decode cX3_isWithinLimit 10 = .ok (.bipush 99, 2) := by decide +kernel
theorem dX3_isWithinLimit_12 : decode cX3_isWithinLimit 12 = .ok (.invokestatic 53, 3) := by decide +kernel
theorem dX3_isWithinLimit_15 : decode cX3_isWithinLimit 15 = .ok (.ifCond .eq 5, 3) := by decide +kernel
theorem dX3_isWithinLimit_18 : decode cX3_isWithinLimit 18 = .ok (.iconst 0, 1) := by decide +kernel
theorem dX3_isWithinLimit_19 : decode cX3_isWithinLimit 19 = .ok (.ireturn, 1) := by decide +kernel
theorem dX3_isWithinLimit_20 : decode cX3_isWithinLimit 20 = .ok (.iinc 2 1, 3) := by decide +kernel
theorem dX3_isWithinLimit_23 : decode cX3_isWithinLimit 23 = .ok (.goto (-21), 3) := by decide +kernel
theorem dX3_isWithinLimit_26 : decode cX3_isWithinLimit 26 = .ok (.iconst 1, 1) := by decide +kernel
theorem dX3_isWithinLimit_27 : decode cX3_isWithinLimit 27 = .ok (.ireturn, 1) := by decide +kernel
set_option maxRecDepth 20000 in
theorem ggX3_isConnected_X3_spreadFrom : GoodIn wsX3_isConnected wsX3_spreadFrom := goodIn_r _ [6, 1, 7, 8, 9, 5, 10, 11, 24, 25, 26, 27, 28] (by decide +kernel) (by decide +kernel)
set_option maxRecDepth 20000 in
theorem gX3_isConnected_X3_spreadFrom : GoodIn wsX3_isConnected (wsV RX3 57 RX3 yX3_spreadFrom wsX3_spreadFrom) := goodIn_app (goodIn_of _ (by decide +kernel)) ggX3_isConnected_X3_spreadFrom
set_option maxRecDepth 20000 in
theorem ggX3_isConnected_X3_hasVertex : GoodIn wsX3_isConnected wsX3_hasVertex := goodIn_r _ [15, 16, 17, 18, 5, 19, 7, 8, 9, 10, 11, 24, 25, 26, 27, 28] (by decide +kernel) (by decide +kernel)
set_option maxRecDepth 20000 in
theorem gX3_isConnected_X3_hasVertex : GoodIn wsX3_isConnected (wsV RX3 43 RX3 yX3_hasVertex wsX3_hasVertex) := goodIn_app (goodIn_of _ (by decide +kernel)) ggX3_isConnected_X3_hasVertex
set_option maxRecDepth 20000 in
theorem ggX3_isConnected_X3_has : GoodIn wsX3_isConnected wsX3_has := goodIn_r _ [23] (by decide +kernel) (by decide +kernel)
set_option maxRecDepth 20000 in
theorem gX3_isConnected_X3_has : GoodIn wsX3_isConnected (wsV RX3 61 RX3 yX3_has wsX3_has) := goodIn_app (goodIn_of _ (by decide +kernel)) ggX3_isConnected_X3_has
theorem dX3_isConnected_0 : decode cX3_isConnected 0 = .ok (.aload_n 0, 1) := by decide +kernel
theorem dX3_isConnected_1 : decode cX3_isConnected 1 = .ok (.iconst 0, 1) := by decide +kernel
theorem dX3_isConnected_2 : decode cX3_isConnected 2 = .ok (.invokevirtual 57, 3) := by decide +kernel
theorem dX3_isConnected_5 : decode cX3_isConnected 5 = .ok (.iconst 0, 1) := by decide +kernel
theorem dX3_isConnected_6 : decode cX3_isConnected 6 = .ok (.istore_n 1, 1) := by decide +kernel
theorem dX3_isConnected_7 : decode cX3_isConnected 7 = .ok (.iload_n 1, 1) := by decide +kernel
theorem dX3_isConnected_8 : decode cX3_isConnected 8 = .ok (.iconst 5, 1) := by decide +kernel
theorem dX3_isConnected_9 : decode cX3_isConnected 9 = .ok (.if_icmp .ge 33, 3) := by decide +kernel
theorem dX3_isConnected_12 : decode cX3_isConnected 12 = .ok (.aload_n 0, 1) := by decide +kernel
theorem dX3_isConnected_13 : decode cX3_isConnected 13 = .ok (.iload_n 1, 1) := by decide +kernel
theorem dX3_isConnected_14 : decode cX3_isConnected 14 = .ok (.invokevirtual 43, 3) := by decide +kernel
theorem dX3_isConnected_17 : decode cX3_isConnected 17 = .ok (.ifCond .eq 19, 3) := by decide +kernel
theorem dX3_isConnected_20 : decode cX3_isConnected 20 = .ok (.aload_n 0, 1) := by decide +kernel
theorem dX3_isConnected_21 : decode cX3_isConnected 21 = .ok (.aload_n 0, 1) := by decide +kernel
theorem dX3_isConnected_22 : decode cX3_isConnected 22 = .ok (.getfield 20, 3) := by decide +kernel
theorem dX3_isConnected_25 : decode cX3_isConnected 25 = .ok (.iconst 4, 1) := by decide +kernel
theorem dX3_isConnected_26 : decode cX3_isConnected 26 = .ok (.iaload, 1) := by decide +kernel
theorem dX3_isConnected_27 : decode cX3_isConnected 27 = .ok (.iload_n 1, 1) := by decide +kernel
theorem dX3_isConnected_28 : decode cX3_isConnected 28 = .ok (.invokevirtual 61, 3) := by decide +kernel
theorem dX3_isConnected_31 : decode cX3_isConnected 31 = .ok (.ifCond .ne 5, 3) := by decide +kernel
theorem dX3_isConnected_34 : decode cX3_isConnected 34 = .ok (.iconst 0, 1) := by decide +kernel
theorem dX3_isConnected_35 : decode cX3_isConnected 35 = .ok (.ireturn, 1) := by decide +kernel
theorem dX3_isConnected_36 : decode cX3_isConnected 36 = .ok (.iinc 1 1, 3) := by decide +kernel
theorem dX3_isConnected_39 : decode cX3_isConnected 39 = .ok (.goto (-32), 3) := by decide +kernel
theorem dX3_isConnected_42 : decode cX3_isConnected 42 = .ok (.iconst 1, 1) := by decide +kernel
theorem dX3_isConnected_43 : decode cX3_isConnected 43 = .ok (.ireturn, 1) := by decide +kernel
set_option maxRecDepth 20000 in
theorem ggX3_spreadFrom_X3_countEdgesInto : GoodIn wsX3_spreadFrom wsX3_countEdgesInto := goodIn_r _ [6, 7, 8, 9, 10, 11, 12] (by decide +kernel) (by decide +kernel)
set_option maxRecDepth 20000 in
theorem gX3_spreadFrom_X3_countEdgesInto : GoodIn wsX3_spreadFrom (wsV RX3 39 RX3 yX3_countEdgesInto wsX3_countEdgesInto) := goodIn_app (goodIn_of _ (by decide +kernel)) ggX3_spreadFrom_X3_countEdgesInto
theorem dX3_spreadFrom_0 : decode cX3_spreadFrom 0 = .ok (.aload_n 0, 1) := by decide +kernel
theorem dX3_spreadFrom_1 : decode cX3_spreadFrom 1 = .ok (.getfield 20, 3) := by decide +kernel
theorem dX3_spreadFrom_4 : decode cX3_spreadFrom 4 = .ok (.iconst 0, 1) := by decide +kernel
theorem dX3_spreadFrom_5 : decode cX3_spreadFrom 5 = .ok (.iconst 1, 1) := by decide +kernel
theorem dX3_spreadFrom_6 : decode cX3_spreadFrom 6 = .ok (.iload_n 1, 1) := by decide +kernel
theorem dX3_spreadFrom_7 : decode cX3_spreadFrom 7 = .ok (.ishl, 1) := by decide +kernel
theorem dX3_spreadFrom_8 : decode cX3_spreadFrom 8 = .ok (.iastore, 1) := by decide +kernel
theorem dX3_spreadFrom_9 : decode cX3_spreadFrom 9 = .ok (.iconst 1, 1) := by decide +kernel
theorem dX3_spreadFrom_10 : decode cX3_spreadFrom 10 = .ok (.istore_n 2, 1) := by decide +kernel
theorem dX3_spreadFrom_11 : decode cX3_spreadFrom 11 = .ok (.iload_n 2, 1) := by decide +kernel
theorem dX3_spreadFrom_12 : decode cX3_spreadFrom 12 = .ok (.iconst 5, 1) := by decide +kernel
theorem dX3_spreadFrom_13 : decode cX3_spreadFrom 13 = .ok (.if_icmp .ge 64, 3) := by decide +kernel
theorem dX3_spreadFrom_16 : decode cX3_spreadFrom 16 = .ok (.aload_n 0, 1) := by decide +kernel
theorem dX3_spreadFrom_17 : decode cX3_spreadFrom 17 = .ok (.getfield 20, 3) := by decide +kernel
theorem dX3_spreadFrom_20 : decode cX3_spreadFrom 20 = .ok (.iload_n 2, 1) := by decide +kernel
theorem dX3_spreadFrom_21 : decode cX3_spreadFrom 21 = .ok (.aload_n 0, 1) := by decide +kernel
theorem dX3_spreadFrom_22 : decode cX3_spreadFrom 22 = .ok (.getfield 20, 3) := by decide +kernel
theorem dX3_spreadFrom_25 : decode cX3_spreadFrom 25 = .ok (.iload_n 2, 1) := by decide +kernel
theorem dX3_spreadFrom_26 : decode cX3_spreadFrom 26 = .ok (.iconst 1, 1) := by decide +kernel
theorem dX3_spreadFrom_27 : decode cX3_spreadFrom 27 = .ok (.isub, 1) := by decide +kernel
theorem dX3_spreadFrom_28 : decode cX3_spreadFrom 28 = .ok (.iaload, 1) := by decide +kernel
theorem dX3_spreadFrom_29 : decode cX3_spreadFrom 29 = .ok (.iastore, 1) := by decide +kernel
theorem dX3_spreadFrom_30 : decode cX3_spreadFrom 30 = .ok (.iconst 0, 1) := by decide +kernel
theorem dX3_spreadFrom_31 : decode cX3_spreadFrom 31 = .ok (.istore_n 3, 1) := by decide +kernel
theorem dX3_spreadFrom_32 : decode cX3_spreadFrom 32 = .ok (.iload_n 3, 1) := by decide +kernel
theorem dX3_spreadFrom_33 : decode cX3_spreadFrom 33 = .ok (.iconst 5, 1) := by decide +kernel
theorem dX3_spreadFrom_34 : decode cX3_spreadFrom 34 = .ok (.if_icmp .ge 37, 3) := by decide +kernel
theorem dX3_spreadFrom_37 : decode cX3_spreadFrom 37 = .ok (.aload_n 0, 1) := by decide +kernel
theorem dX3_spreadFrom_38 : decode cX3_spreadFrom 38 = .ok (.iload_n 3, 1) := by decide +kernel
theorem dX3_spreadFrom_39 : decode cX3_spreadFrom 39 = .ok (.aload_n 0, 1) := by decide +kernel
theorem dX3_spreadFrom_40 : decode cX3_spreadFrom 40 = .ok (.getfield 20, 3) := by decide +kernel
theorem dX3_spreadFrom_43 : decode cX3_spreadFrom 43 = .ok (.iload_n 2, 1) := by decide +kernel
theorem dX3_spreadFrom_44 : decode cX3_spreadFrom 44 = .ok (.iconst 1, 1) := by decide +kernel
theorem dX3_spreadFrom_45 : decode cX3_spreadFrom 45 = .ok (.isub, 1) := by decide +kernel
theorem dX3_spreadFrom_46 : decode cX3_spreadFrom 46 = .ok (.iaload, 1) := by decide +kernel
theorem dX3_spreadFrom_47 : decode cX3_spreadFrom 47 = .ok (.invokevirtual 39, 3) := by decide +kernel
theorem dX3_spreadFrom_50 : decode cX3_spreadFrom 50 = .ok (.ifCond .le 15, 3) := by decide +kernel
theorem dX3_spreadFrom_53 : decode cX3_spreadFrom 53 = .ok (.aload_n 0, 1) := by decide +kernel
theorem dX3_spreadFrom_54 : decode cX3_spreadFrom 54 = .ok (.getfield 20, 3) := by decide +kernel
theorem dX3_spreadFrom_57 : decode cX3_spreadFrom 57 = .ok (.iload_n 2, 1) := by decide +kernel
theorem dX3_spreadFrom_58 : decode cX3_spreadFrom 58 = .ok (.dup2, 1) := by decide +kernel
theorem dX3_spreadFrom_59 : decode cX3_spreadFrom 59 = .ok (.iaload, 1) := by decide +kernel
theorem dX3_spreadFrom_60 : decode cX3_spreadFrom 60 = .ok (.iconst 1, 1) := by decide +kernel
theorem dX3_spreadFrom_61 : decode cX3_spreadFrom 61 = .ok (.iload_n 3, 1) := by decide +kernel
theorem dX3_spreadFrom_62 : decode cX3_spreadFrom 62 = .ok (.ishl, 1) := by decide +kernel
theorem dX3_spreadFrom_63 : decode cX3_spreadFrom 63 = .ok (.ior, 1) := by decide +kernel
theorem dX3_spreadFrom_64 : decode cX3_spreadFrom 64 = .ok (.iastore, 1) := by decide +kernel
theorem dX3_spreadFrom_65 : decode cX3_spreadFrom 65 = .ok (.iinc 3 1, 3) := by decide +kernel
theorem dX3_spreadFrom_68 : decode cX3_spreadFrom 68 = .ok (.goto (-36), 3) := by decide +kernel
theorem dX3_spreadFrom_71 : decode cX3_spreadFrom 71 = .ok (.iinc 2 1, 3) := by decide +kernel
theorem dX3_spreadFrom_74 : decode cX3_spreadFrom 74 = .ok (.goto (-63), 3) := by decide +kernel
theorem dX3_spreadFrom_77 : decode cX3_spreadFrom 77 = .ok (.return_, 1) := by decide +kernel
set_option maxRecDepth 20000 in
theorem ggX3_fireSet_X3_has : GoodIn wsX3_fireSet wsX3_has := goodIn_r _ [5] (by decide +kernel) (by decide +kernel)
set_option maxRecDepth 20000 in
theorem gX3_fireSet_X3_has : GoodIn wsX3_fireSet (wsV RX3 61 RX3 yX3_has wsX3_has) := goodIn_app (goodIn_of _ (by decide +kernel)) ggX3_fireSet_X3_has
set_option maxRecDepth 20000 in
theorem ggX3_fireSet_X3_countEdgesInto : GoodIn wsX3_fireSet wsX3_countEdgesInto := goodIn_r _ [9, 10, 11, 12, 13, 14, 15] (by decide +kernel) (by decide +kernel)
set_option maxRecDepth 20000 in
theorem gX3_fireSet_X3_countEdgesInto : GoodIn wsX3_fireSet (wsV RX3 39 RX3 yX3_countEdgesInto wsX3_countEdgesInto) := goodIn_app (goodIn_of _ (by decide +kernel)) ggX3_fireSet_X3_countEdgesInto
theorem dX3_fireSet_0 : decode cX3_fireSet 0 = .ok (.iconst 0, 1) := by decide +kernel
theorem dX3_fireSet_1 : decode cX3_fireSet 1 = .ok (.istore 4, 2) := by decide +kernel
theorem dX3_fireSet_3 : decode cX3_fireSet 3 = .ok (.iload 4, 2) := by decide +kernel
theorem dX3_fireSet_5 : decode cX3_fireSet 5 = .ok (.iconst 5, 1) := by decide +kernel
theorem dX3_fireSet_6 : decode cX3_fireSet 6 = .ok (.if_icmp .ge 56, 3) := by decide +kernel
theorem dX3_fireSet_9 : decode cX3_fireSet 9 = .ok (.aload_n 0, 1) := by decide +kernel
theorem dX3_fireSet_10 : decode cX3_fireSet 10 = .ok (.iload_n 2, 1) := by decide +kernel
theorem dX3_fireSet_11 : decode cX3_fireSet 11 = .ok (.iload 4, 2) := by decide +kernel
theorem dX3_fireSet_13 : decode cX3_fireSet 13 = .ok (.invokevirtual 61, 3) := by decide +kernel
theorem dX3_fireSet_16 : decode cX3_fireSet 16 = .ok (.ifCond .eq 24, 3) := by decide +kernel
theorem dX3_fireSet_19 : decode cX3_fireSet 19 = .ok (.aload_n 1, 1) := by decide +kernel
theorem dX3_fireSet_20 : decode cX3_fireSet 20 = .ok (.iload 4, 2) := by decide +kernel
theorem dX3_fireSet_22 : decode cX3_fireSet 22 = .ok (.dup2, 1) := by decide +kernel
theorem dX3_fireSet_23 : decode cX3_fireSet 23 = .ok (.iaload, 1) := by decide +kernel
theorem dX3_fireSet_24 : decode cX3_fireSet 24 = .ok (.iload_n 3, 1) := by decide +kernel
theorem dX3_fireSet_25 : decode cX3_fireSet 25 = .ok (.aload_n 0, 1) := by decide +kernel
theorem dX3_fireSet_26 : decode cX3_fireSet 26 = .ok (.iload 4, 2) := by decide +kernel
theorem dX3_fireSet_28 : decode cX3_fireSet 28 = .ok (.iload_n 2, 1) := by decide +kernel
theorem dX3_fireSet_29 : decode cX3_fireSet 29 = .ok (.iconst (-1), 1) := by decide +kernel
theorem dX3_fireSet_30 : decode cX3_fireSet 30 = .ok (.ixor, 1) := by decide +kernel
theorem dX3_fireSet_31 : decode cX3_fireSet 31 = .ok (.invokevirtual 39, 3) := by decide +kernel
theorem dX3_fireSet_34 : decode cX3_fireSet 34 = .ok (.imul, 1) := by decide +kernel
theorem dX3_fireSet_35 : decode cX3_fireSet 35 = .ok (.isub, 1) := by decide +kernel
theorem dX3_fireSet_36 : decode cX3_fireSet 36 = .ok (.iastore, 1) := by decide +kernel
theorem dX3_fireSet_37 : decode cX3_fireSet 37 = .ok (.goto 19, 3) := by decide +kernel
theorem dX3_fireSet_40 : decode cX3_fireSet 40 = .ok (.aload_n 1, 1) := by decide +kernel
theorem dX3_fireSet_41 : decode cX3_fireSet 41 = .ok (.iload 4, 2) := by decide +kernel
theorem dX3_fireSet_43 : decode cX3_fireSet 43 = .ok (.dup2, 1) := by decide +kernel
theorem dX3_fireSet_44 : decode cX3_fireSet 44 = .ok (.iaload, 1) := by decide +kernel
theorem dX3_fireSet_45 : decode cX3_fireSet 45 = .ok (.iload_n 3, 1) := by decide +kernel
theorem dX3_fireSet_46 : decode cX3_fireSet 46 = .ok (.aload_n 0, 1) := by decide +kernel
theorem dX3_fireSet_47 : decode cX3_fireSet 47 = .ok (.iload 4, 2) := by decide +kernel
theorem dX3_fireSet_49 : decode cX3_fireSet 49 = .ok (.iload_n 2, 1) := by decide +kernel
theorem dX3_fireSet_50 : decode cX3_fireSet 50 = .ok (.invokevirtual 39, 3) := by decide +kernel
theorem dX3_fireSet_53 : decode cX3_fireSet 53 = .ok (.imul, 1) := by decide +kernel
theorem dX3_fireSet_54 : decode cX3_fireSet 54 = .ok (.iadd, 1) := by decide +kernel
theorem dX3_fireSet_55 : decode cX3_fireSet 55 = .ok (.iastore, 1) := by decide +kernel
theorem dX3_fireSet_56 : decode cX3_fireSet 56 = .ok (.iinc 4 1, 3) := by decide +kernel
theorem dX3_fireSet_59 : decode cX3_fireSet 59 = .ok (.goto (-56), 3) := by decide +kernel
theorem dX3_fireSet_62 : decode cX3_fireSet 62 = .ok (.return_, 1) := by decide +kernel
set_option maxRecDepth 20000 in
theorem ggX3_reduce_X3_payDebts : GoodIn wsX3_reduce wsX3_payDebts := goodIn_r _ [6, 7, 8, 9, 10, 11, 12, 13, 14, 5, 15, 16, 17, 18, 19, 20, 21, 22, 23, 24, 25, 26, 27, 28, 40, 41, 42, 43, 44] (by decide +kernel) (by decide +kernel)
set_option maxRecDepth 20000 in
theorem gX3_reduce_X3_payDebts : GoodIn wsX3_reduce (wsV RX3 64 RX3 yX3_payDebts wsX3_payDebts) := goodIn_app (goodIn_of _ (by decide +kernel)) ggX3_reduce_X3_payDebts
set_option maxRecDepth 20000 in
theorem ggX3_reduce_X3_findUnburnt : GoodIn wsX3_reduce wsX3_findUnburnt := goodIn_r _ [32, 7, 17, 18, 19, 5, 20, 12, 13, 14, 15, 16, 40, 41, 42, 43, 44] (by decide +kernel) (by decide +kernel)
set_option maxRecDepth 20000 in
theorem gX3_reduce_X3_findUnburnt : GoodIn wsX3_reduce (wsV RX3 69 RX3 yX3_findUnburnt wsX3_findUnburnt) := goodIn_app (goodIn_of _ (by decide +kernel)) ggX3_reduce_X3_findUnburnt
set_option maxRecDepth 20000 in
theorem ggX3_reduce_X3_timesThatCanFire : GoodIn wsX3_reduce wsX3_timesThatCanFire := goodIn_r _ [36, 1, 37, 38, 10, 39, 12, 13, 14, 5, 15, 16, 17, 18, 19, 20, 40, 41, 42, 43, 44] (by decide +kernel) (by decide +kernel)
set_option maxRecDepth 20000 in
theorem gX3_reduce_X3_timesThatCanFire : GoodIn wsX3_reduce (wsV RX3 73 RX3 yX3_timesThatCanFire wsX3_timesThatCanFire) := goodIn_app (goodIn_of _ (by decide +kernel)) ggX3_reduce_X3_timesThatCanFire
set_option maxRecDepth 20000 in
theorem ggX3_reduce_X3_fireSet : GoodIn wsX3_reduce wsX3_fireSet := goodIn_r _ [28, 17, 18, 19, 5, 20, 12, 13, 14, 15, 16, 40, 41, 42, 43, 44] (by decide +kernel) (by decide +kernel)
set_option maxRecDepth 20000 in
theorem gX3_reduce_X3_fireSet : GoodIn wsX3_reduce (wsV RX3 77 RX3 yX3_fireSet wsX3_fireSet) := goodIn_app (goodIn_of _ (by decide +kernel)) ggX3_reduce_X3_fireSet
theorem dX3_reduce_0 : decode cX3_reduce 0 = .ok (.aload_n 0, 1) := by decide +kernel
theorem dX3_reduce_1 : decode cX3_reduce 1 = .ok (.aload_n 1, 1) := by decide +kernel
theorem dX3_reduce_2 : decode cX3_reduce 2 = .ok (.invokevirtual 64, 3) := by decide +kernel
theorem dX3_reduce_5 : decode cX3_reduce 5 = .ok (.iconst 0, 1) := by decide +kernel
theorem dX3_reduce_6 : decode cX3_reduce 6 = .ok (.istore_n 2, 1) := by decide +kernel
theorem dX3_reduce_7 : decode cX3_reduce 7 = .ok (.iload_n 2, 1) := by decide +kernel
theorem dX3_reduce_8 : decode cX3_reduce 8 = .ok (.ldc 68, 2) := by decide +kernel
theorem dX3_reduce_10 : decode cX3_reduce 10 = .ok (.if_icmp .ge 32, 3) := by decide +kernel
theorem dX3_reduce_13 : decode cX3_reduce 13 = .ok (.aload_n 0, 1) := by decide +kernel
theorem dX3_reduce_14 : decode cX3_reduce 14 = .ok (.aload_n 1, 1) := by decide +kernel
theorem dX3_reduce_15 : decode cX3_reduce 15 = .ok (.invokevirtual 69, 3) := by decide +kernel
theorem dX3_reduce_18 : decode cX3_reduce 18 = .ok (.istore_n 3, 1) := by decide +kernel
theorem dX3_reduce_19 : decode cX3_reduce 19 = .ok (.iload_n 3, 1) := by decide +kernel
theorem dX3_reduce_20 : decode cX3_reduce 20 = .ok (.ifCond .ne 4, 3) := by decide +kernel
theorem dX3_reduce_23 : decode cX3_reduce 23 = .ok (.return_, 1) := by decide +kernel
theorem dX3_reduce_24 : decode cX3_reduce 24 = .ok (.aload_n 0, 1) := by decide +kernel
theorem dX3_reduce_25 : decode cX3_reduce 25 = .ok (.aload_n 1, 1) := by decide +kernel
theorem dX3_reduce_26 : decode cX3_reduce 26 = .ok (.iload_n 3, 1) := by decide +kernel
theorem dX3_reduce_27 : decode cX3_reduce 27 = .ok (.aload_n 0, 1) := by decide +kernel
theorem dX3_reduce_28 : decode cX3_reduce 28 = .ok (.aload_n 1, 1) := by decide +kernel
theorem dX3_reduce_29 : decode cX3_reduce 29 = .ok (.iload_n 3, 1) := by decide +kernel
theorem dX3_reduce_30 : decode cX3_reduce 30 = .ok (.invokevirtual 73, 3) := by decide +kernel
theorem dX3_reduce_33 : decode cX3_reduce 33 = .ok (.invokevirtual 77, 3) := by decide +kernel
theorem dX3_reduce_36 : decode cX3_reduce 36 = .ok (.iinc 2 1, 3) := by decide +kernel
theorem dX3_reduce_39 : decode cX3_reduce 39 = .ok (.goto (-32), 3) := by decide +kernel
theorem dX3_reduce_42 : decode cX3_reduce 42 = .ok (.return_, 1) := by decide +kernel
set_option maxRecDepth 20000 in
theorem ggX3_payDebts_X3_countEdgesInto : GoodIn wsX3_payDebts wsX3_countEdgesInto := goodIn_r _ [10, 11, 24, 25, 26, 27, 28] (by decide +kernel) (by decide +kernel)
set_option maxRecDepth 20000 in
theorem gX3_payDebts_X3_countEdgesInto : GoodIn wsX3_payDebts (wsV RX3 39 RX3 yX3_countEdgesInto wsX3_countEdgesInto) := goodIn_app (goodIn_of _ (by decide +kernel)) ggX3_payDebts_X3_countEdgesInto
set_option maxRecDepth 20000 in
theorem ggX3_payDebts_X3_has : GoodIn wsX3_payDebts wsX3_has := goodIn_r _ [15] (by decide +kernel) (by decide +kernel)
set_option maxRecDepth 20000 in
theorem gX3_payDebts_X3_has : GoodIn wsX3_payDebts (wsV RX3 61 RX3 yX3_has wsX3_has) := goodIn_app (goodIn_of _ (by decide +kernel)) ggX3_payDebts_X3_has
set_option maxRecDepth 20000 in
theorem ggX3_payDebts_J9_floorDiv_7cf53 : GoodIn wsX3_payDebts wsJ9_floorDiv_7cf53 := goodIn_r _ [19] (by decide +kernel) (by decide +kernel)
set_option maxRecDepth 20000 in
theorem gX3_payDebts_J9_floorDiv_7cf53 : GoodIn wsX3_payDebts (va_wsS RX3 81 yJ9_floorDiv_7cf53 wsJ9_floorDiv_7cf53) := goodIn_app (goodIn_of _ (by decide +kernel)) ggX3_payDebts_J9_floorDiv_7cf53
set_option maxRecDepth 20000 in
theorem ggX3_payDebts_X3_fireSet : GoodIn wsX3_payDebts wsX3_fireSet := goodIn_r _ [23, 12, 13, 14, 9, 15, 6, 7, 8, 10, 11, 24, 25, 26, 27, 28] (by decide +kernel) (by decide +kernel)
set_option maxRecDepth 20000 in
theorem gX3_payDebts_X3_fireSet : GoodIn wsX3_payDebts (wsV RX3 77 RX3 yX3_fireSet wsX3_fireSet) := goodIn_app (goodIn_of _ (by decide +kernel)) ggX3_payDebts_X3_fireSet
theorem dX3_payDebts_0 : decode cX3_payDebts 0 = .ok (.iconst 4, 1) := by decide +kernel
theorem dX3_payDebts_1 : decode cX3_payDebts 1 = .ok (.istore_n 2, 1) := by decide +kernel
theorem dX3_payDebts_2 : decode cX3_payDebts 2 = .ok (.iload_n 2, 1) := by decide +kernel
theorem dX3_payDebts_3 : decode cX3_payDebts 3 = .ok (.ifCond .le 106, 3) := by decide +kernel
theorem dX3_payDebts_6 : decode cX3_payDebts 6 = .ok (.iconst 0, 1) := by decide +kernel
theorem dX3_payDebts_7 : decode cX3_payDebts 7 = .ok (.istore_n 3, 1) := by decide +kernel
theorem dX3_payDebts_8 : decode cX3_payDebts 8 = .ok (.iconst 0, 1) := by decide +kernel
theorem dX3_payDebts_9 : decode cX3_payDebts 9 = .ok (.istore 4, 2) := by decide +kernel
theorem dX3_payDebts_11 : decode cX3_payDebts 11 = .ok (.iload 4, 2) := by decide +kernel
theorem dX3_payDebts_13 : decode cX3_payDebts 13 = .ok (.iconst 5, 1) := by decide +kernel
theorem dX3_payDebts_14 : decode cX3_payDebts 14 = .ok (.if_icmp .ge 75, 3) := by decide +kernel
theorem dX3_payDebts_17 : decode cX3_payDebts 17 = .ok (.aload_n 0, 1) := by decide +kernel
theorem dX3_payDebts_18 : decode cX3_payDebts 18 = .ok (.iload 4, 2) := by decide +kernel
theorem dX3_payDebts_20 : decode cX3_payDebts 20 = .ok (.aload_n 0, 1) := by decide +kernel
theorem dX3_payDebts_21 : decode cX3_payDebts 21 = .ok (.getfield 20, 3) := by decide +kernel
theorem dX3_payDebts_24 : decode cX3_payDebts 24 = .ok (.iload_n 2, 1) := by decide +kernel
theorem dX3_payDebts_25 : decode cX3_payDebts 25 = .ok (.iconst 1, 1) := by decide +kernel
theorem dX3_payDebts_26 : decode cX3_payDebts 26 = .ok (.isub, 1) := by decide +kernel
theorem dX3_payDebts_27 : decode cX3_payDebts 27 = .ok (.iaload, 1) := by decide +kernel
theorem dX3_payDebts_28 : decode cX3_payDebts 28 = .ok (.invokevirtual 39, 3) := by decide +kernel
theorem dX3_payDebts_31 : decode cX3_payDebts 31 = .ok (.istore 5, 2) := by decide +kernel
theorem dX3_payDebts_33 : decode cX3_payDebts 33 = .ok (.aload_n 0, 1) := by decide +kernel
theorem dX3_payDebts_34 : decode cX3_payDebts 34 = .ok (.aload_n 0, 1) := by decide +kernel
theorem dX3_payDebts_35 : decode cX3_payDebts 35 = .ok (.getfield 20, 3) := by decide +kernel
theorem dX3_payDebts_38 : decode cX3_payDebts 38 = .ok (.iload_n 2, 1) := by decide +kernel
theorem dX3_payDebts_39 : decode cX3_payDebts 39 = .ok (.iaload, 1) := by decide +kernel
theorem dX3_payDebts_40 : decode cX3_payDebts 40 = .ok (.aload_n 0, 1) := by decide +kernel
theorem dX3_payDebts_41 : decode cX3_payDebts 41 = .ok (.getfield 20, 3) := by decide +kernel
theorem dX3_payDebts_44 : decode cX3_payDebts 44 = .ok (.iload_n 2, 1) := by decide +kernel
theorem dX3_payDebts_45 : decode cX3_payDebts 45 = .ok (.iconst 1, 1) := by decide +kernel
theorem dX3_payDebts_46 : decode cX3_payDebts 46 = .ok (.isub, 1) := by decide +kernel
theorem dX3_payDebts_47 : decode cX3_payDebts 47 = .ok (.iaload, 1) := by decide +kernel
theorem dX3_payDebts_48 : decode cX3_payDebts 48 = .ok (.iconst (-1), 1) := by decide +kernel
theorem dX3_payDebts_49 : decode cX3_payDebts 49 = .ok (.ixor, 1) := by decide +kernel
theorem dX3_payDebts_50 : decode cX3_payDebts 50 = .ok (.iand, 1) := by decide +kernel
theorem dX3_payDebts_51 : decode cX3_payDebts 51 = .ok (.iload 4, 2) := by decide +kernel
theorem dX3_payDebts_53 : decode cX3_payDebts 53 = .ok (.invokevirtual 61, 3) := by decide +kernel
theorem dX3_payDebts_56 : decode cX3_payDebts 56 = .ok (.ifCond .eq 27, 3) := by decide +kernel
theorem dX3_payDebts_59 : decode cX3_payDebts 59 = .ok (.iload 5, 2) := by decide +kernel
theorem dX3_payDebts_61 : decode cX3_payDebts 61 = .ok (.ifCond .le 22, 3) := by decide +kernel
theorem dX3_payDebts_64 : decode cX3_payDebts 64 = .ok (.iload_n 3, 1) := by decide +kernel
theorem dX3_payDebts_65 : decode cX3_payDebts 65 = .ok (.iload 5, 2) := by decide +kernel
theorem dX3_payDebts_67 : decode cX3_payDebts 67 = .ok (.iconst 1, 1) := by decide +kernel
theorem dX3_payDebts_68 : decode cX3_payDebts 68 = .ok (.isub, 1) := by decide +kernel
theorem dX3_payDebts_69 : decode cX3_payDebts 69 = .ok (.aload_n 1, 1) := by decide +kernel
theorem dX3_payDebts_70 : decode cX3_payDebts 70 = .ok (.iload 4, 2) := by decide +kernel
theorem dX3_payDebts_72 : decode cX3_payDebts 72 = .ok (.iaload, 1) := by decide +kernel
theorem dX3_payDebts_73 : decode cX3_payDebts 73 = .ok (.isub, 1) := by decide +kernel
theorem dX3_payDebts_74 : decode cX3_payDebts 74 = .ok (.iload 5, 2) := by decide +kernel
theorem dX3_payDebts_76 : decode cX3_payDebts 76 = .ok (.invokestatic 81, 3) := by decide +kernel
theorem dX3_payDebts_79 : decode cX3_payDebts 79 = .ok (.invokestatic 86, 3) := by decide +kernel
theorem dX3_payDebts_82 : decode cX3_payDebts 82 = .ok (.istore_n 3, 1) := by decide +kernel
theorem dX3_payDebts_83 : decode cX3_payDebts 83 = .ok (.iinc 4 1, 3) := by decide +kernel
theorem dX3_payDebts_86 : decode cX3_payDebts 86 = .ok (.goto (-75), 3) := by decide +kernel
