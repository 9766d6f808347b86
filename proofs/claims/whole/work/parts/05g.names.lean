theorem dX6_canRank_25 : decode cX6_canRank 25 = .ok (.iconst 0, 1) := by decide +kernel
theorem dX6_canRank_26 : decode cX6_canRank 26 = .ok (.ireturn, 1) := by decide +kernel
set_option maxRecDepth 20000 in
theorem ggX6_rank_X6_canRank : GoodIn wsX6_rank wsX6_canRank := goodIn_r _ [5, 6, 7, 8, 4, 9, 10, 11, 12, 13, 14, 15, 16, 17, 18, 19, 20, 21, 22, 23, 24, 25, 26, 27, 28, 63, 64, 65, 66, 67, 68, 69, 70, 71, 72, 73, 74, 75, 76, 77, 78, 79, 80, 81] (by decide +kernel) (by decide +kernel)
set_option maxRecDepth 20000 in
theorem gX6_rank_X6_canRank : GoodIn wsX6_rank (wsV RX6 254 RX6 yX6_canRank wsX6_canRank) := goodIn_app (goodIn_of _ (by decide +kernel)) ggX6_rank_X6_canRank
set_option maxRecDepth 20000 in
theorem ggX6_rank_X6_can : GoodIn wsX6_rank wsX6_can := goodIn_r _ [32, 33, 63, 64, 65, 66, 67, 68, 69, 70, 71, 72, 73, 74, 75, 76, 77, 78, 79, 80, 81] (by decide +kernel) (by decide +kernel)
set_option maxRecDepth 20000 in
theorem gX6_rank_X6_can : GoodIn wsX6_rank (wsV RX6 82 RX6 yX6_can wsX6_can) := goodIn_app (goodIn_of _ (by decide +kernel)) ggX6_rank_X6_can
set_option maxRecDepth 20000 in
theorem ggX6_rank_X6_rankOfBase : GoodIn wsX6_rank wsX6_rankOfBase := goodIn_r _ [37, 38, 10, 25, 26, 27, 4, 28, 12, 13, 14, 15, 16, 17, 18, 19, 20, 39, 40, 41, 42, 43, 44, 45, 46, 47, 48, 49, 50, 51, 52, 53, 54, 55, 56, 57, 58, 59, 60, 61, 62, 63, 64, 65, 66, 67, 68, 69, 70, 71, 72, 73, 74, 75, 76, 77, 78, 79, 80, 81] (by decide +kernel) (by decide +kernel)
set_option maxRecDepth 20000 in
theorem gX6_rank_X6_rankOfBase : GoodIn wsX6_rank (wsV RX6 258 RX6 yX6_rankOfBase wsX6_rankOfBase) := goodIn_app (goodIn_of _ (by decide +kernel)) ggX6_rank_X6_rankOfBase
theorem dX6_rank_0 : decode cX6_rank 0 = .ok (.aload_n 0, 1) := by decide +kernel
theorem dX6_rank_1 : decode cX6_rank 1 = .ok (.aload_n 0, 1) := by decide +kernel
theorem dX6_rank_2 : decode cX6_rank 2 = .ok (.iconst 0, 1) := by decide +kernel
theorem dX6_rank_3 : decode cX6_rank 3 = .ok (.invokevirtual 254, 3) := by decide +kernel
theorem dX6_rank_6 : decode cX6_rank 6 = .ok (.ifCond .eq 7, 3) := by decide +kernel
theorem dX6_rank_9 : decode cX6_rank 9 = .ok (.iconst 0, 1) := by decide +kernel
theorem dX6_rank_10 : decode cX6_rank 10 = .ok (.goto 4, 3) := by decide +kernel
theorem dX6_rank_13 : decode cX6_rank 13 = .ok (.iconst 1, 1) := by decide +kernel
theorem dX6_rank_14 : decode cX6_rank 14 = .ok (.invokevirtual 82, 3) := by decide +kernel
theorem dX6_rank_17 : decode cX6_rank 17 = .ok (.ifCond .eq 10, 3) := by decide +kernel
theorem dX6_rank_20 : decode cX6_rank 20 = .ok (.aload_n 0, 1) := by decide +kernel
theorem dX6_rank_21 : decode cX6_rank 21 = .ok (.invokevirtual 258, 3) := by decide +kernel
theorem dX6_rank_24 : decode cX6_rank 24 = .ok (.goto 4, 3) := by decide +kernel
theorem dX6_rank_27 : decode cX6_rank 27 = .ok (.iconst 0, 1) := by decide +kernel
theorem dX6_rank_28 : decode cX6_rank 28 = .ok (.ireturn, 1) := by decide +kernel
set_option maxRecDepth 20000 in
theorem ggX6_restRank_X6_canRank : GoodIn wsX6_restRank wsX6_canRank := goodIn_r _ [5, 6, 7, 8, 4, 9, 10, 11, 12, 13, 14, 15, 16, 17, 18, 19, 20, 21, 22, 23, 24, 25, 26, 27, 28, 63, 64, 65, 66, 67, 68, 69, 70, 71, 72, 73, 74, 75, 76, 77, 78, 79, 80, 81] (by decide +kernel) (by decide +kernel)
set_option maxRecDepth 20000 in
theorem gX6_restRank_X6_canRank : GoodIn wsX6_restRank (wsV RX6 254 RX6 yX6_canRank wsX6_canRank) := goodIn_app (goodIn_of _ (by decide +kernel)) ggX6_restRank_X6_canRank
set_option maxRecDepth 20000 in
theorem ggX6_restRank_X6_can : GoodIn wsX6_restRank wsX6_can := goodIn_r _ [32, 33, 63, 64, 65, 66, 67, 68, 69, 70, 71, 72, 73, 74, 75, 76, 77, 78, 79, 80, 81] (by decide +kernel) (by decide +kernel)
set_option maxRecDepth 20000 in
theorem gX6_restRank_X6_can : GoodIn wsX6_restRank (wsV RX6 82 RX6 yX6_can wsX6_can) := goodIn_app (goodIn_of _ (by decide +kernel)) ggX6_restRank_X6_can
set_option maxRecDepth 20000 in
theorem ggX6_restRank_X6_rankOfBase : GoodIn wsX6_restRank wsX6_rankOfBase := goodIn_r _ [37, 38, 10, 25, 26, 27, 4, 28, 12, 13, 14, 15, 16, 17, 18, 19, 20, 39, 40, 41, 42, 43, 44, 45, 46, 47, 48, 49, 50, 51, 52, 53, 54, 55, 56, 57, 58, 59, 60, 61, 62, 63, 64, 65, 66, 67, 68, 69, 70, 71, 72, 73, 74, 75, 76, 77, 78, 79, 80, 81] (by decide +kernel) (by decide +kernel)
set_option maxRecDepth 20000 in
theorem gX6_restRank_X6_rankOfBase : GoodIn wsX6_restRank (wsV RX6 258 RX6 yX6_rankOfBase wsX6_rankOfBase) := goodIn_app (goodIn_of _ (by decide +kernel)) ggX6_restRank_X6_rankOfBase
theorem dX6_restRank_0 : decode cX6_restRank 0 = .ok (.aload_n 0, 1) := by decide +kernel
theorem dX6_restRank_1 : decode cX6_restRank 1 = .ok (.aload_n 0, 1) := by decide +kernel
theorem dX6_restRank_2 : decode cX6_restRank 2 = .ok (.iconst 1, 1) := by decide +kernel
theorem dX6_restRank_3 : decode cX6_restRank 3 = .ok (.invokevirtual 254, 3) := by decide +kernel
theorem dX6_restRank_6 : decode cX6_restRank 6 = .ok (.ifCond .eq 7, 3) := by decide +kernel
theorem dX6_restRank_9 : decode cX6_restRank 9 = .ok (.iconst 0, 1) := by decide +kernel
theorem dX6_restRank_10 : decode cX6_restRank 10 = .ok (.goto 4, 3) := by decide +kernel
theorem dX6_restRank_13 : decode cX6_restRank 13 = .ok (.iconst 1, 1) := by decide +kernel
theorem dX6_restRank_14 : decode cX6_restRank 14 = .ok (.invokevirtual 82, 3) := by decide +kernel
theorem dX6_restRank_17 : decode cX6_restRank 17 = .ok (.ifCond .eq 10, 3) := by decide +kernel
theorem dX6_restRank_20 : decode cX6_restRank 20 = .ok (.aload_n 0, 1) := by decide +kernel
theorem dX6_restRank_21 : decode cX6_restRank 21 = .ok (.invokevirtual 258, 3) := by decide +kernel
theorem dX6_restRank_24 : decode cX6_restRank 24 = .ok (.goto 4, 3) := by decide +kernel
theorem dX6_restRank_27 : decode cX6_restRank 27 = .ok (.iconst 0, 1) := by decide +kernel
theorem dX6_restRank_28 : decode cX6_restRank 28 = .ok (.ireturn, 1) := by decide +kernel
set_option maxRecDepth 20000 in
theorem ggX6_vertices_X6_isOf : GoodIn wsX6_vertices wsX6_isOf := goodIn_r _ [5, 6, 7, 8, 4, 9, 10, 11, 12, 13, 14, 15, 16, 17, 18, 19, 20, 21, 22, 23, 24, 25, 26, 27, 28, 29] (by decide +kernel) (by decide +kernel)
set_option maxRecDepth 20000 in
theorem gX6_vertices_X6_isOf : GoodIn wsX6_vertices (wsV RX6 221 RX6 yX6_isOf wsX6_isOf) := goodIn_app (goodIn_of _ (by decide +kernel)) ggX6_vertices_X6_isOf
theorem dX6_vertices_0 : decode cX6_vertices 0 = .ok (.iconst 0, 1) := by decide +kernel
theorem dX6_vertices_1 : decode cX6_vertices 1 = .ok (.istore_n 1, 1) := by decide +kernel
theorem dX6_vertices_2 : decode cX6_vertices 2 = .ok (.iconst 0, 1) := by decide +kernel
theorem dX6_vertices_3 : decode cX6_vertices 3 = .ok (.istore_n 2, 1) := by decide +kernel
theorem dX6_vertices_4 : decode cX6_vertices 4 = .ok (.iload_n 2, 1) := by decide +kernel
theorem dX6_vertices_5 : decode cX6_vertices 5 = .ok (.iconst 5, 1) := by decide +kernel
theorem dX6_vertices_6 : decode cX6_vertices 6 = .ok (.if_icmp .ge 25, 3) := by decide +kernel
theorem dX6_vertices_9 : decode cX6_vertices 9 = .ok (.iload_n 1, 1) := by decide +kernel
theorem dX6_vertices_10 : decode cX6_vertices 10 = .ok (.aload_n 0, 1) := by decide +kernel
theorem dX6_vertices_11 : decode cX6_vertices 11 = .ok (.iload_n 2, 1) := by decide +kernel
theorem dX6_vertices_12 : decode cX6_vertices 12 = .ok (.invokevirtual 221, 3) := by decide +kernel
theorem dX6_vertices_15 : decode cX6_vertices 15 = .ok (.ifCond .eq 7, 3) := by decide +kernel
theorem dX6_vertices_18 : decode cX6_vertices 18 = .ok (.iconst 1, 1) := by decide +kernel
theorem dX6_vertices_19 : decode cX6_vertices 19 = .ok (.goto 4, 3) := by decide +kernel
theorem dX6_vertices_22 : decode cX6_vertices 22 = .ok (.iconst 0, 1) := by decide +kernel
theorem dX6_vertices_23 : decode cX6_vertices 23 = .ok (.iadd, 1) := by decide +kernel
theorem dX6_vertices_24 : decode cX6_vertices 24 = .ok (.istore_n 1, 1) := by decide +kernel
theorem dX6_vertices_25 : decode cX6_vertices 25 = .ok (.iinc 2 1, 3) := by decide +kernel
theorem dX6_vertices_28 : decode cX6_vertices 28 = .ok (.goto (-24), 3) := by decide +kernel
theorem dX6_vertices_31 : decode cX6_vertices 31 = .ok (.iload_n 1, 1) := by decide +kernel
theorem dX6_vertices_32 : decode cX6_vertices 32 = .ok (.ireturn, 1) := by decide +kernel
theorem dX6_allEdges_0 : decode cX6_allEdges 0 = .ok (.iconst 0, 1) := by decide +kernel
theorem dX6_allEdges_1 : decode cX6_allEdges 1 = .ok (.istore_n 1, 1) := by decide +kernel
theorem dX6_allEdges_2 : decode cX6_allEdges 2 = .ok (.iconst 0, 1) := by decide +kernel
theorem dX6_allEdges_3 : decode cX6_allEdges 3 = .ok (.istore_n 2, 1) := by decide +kernel
theorem dX6_allEdges_4 : decode cX6_allEdges 4 = .ok (.iload_n 2, 1) := by decide +kernel
theorem dX6_allEdges_5 : decode cX6_allEdges 5 = .ok (.bipush 25, 2) := by decide +kernel
theorem dX6_allEdges_7 : decode cX6_allEdges 7 = .ok (.if_icmp .ge 18, 3) := by decide +kernel
theorem dX6_allEdges_10 : decode cX6_allEdges 10 = .ok (.iload_n 1, 1) := by decide +kernel
theorem dX6_allEdges_11 : decode cX6_allEdges 11 = .ok (.aload_n 0, 1) := by decide +kernel
theorem dX6_allEdges_12 : decode cX6_allEdges 12 = .ok (.getfield 46, 3) := by decide +kernel
theorem dX6_allEdges_15 : decode cX6_allEdges 15 = .ok (.iload_n 2, 1) := by decide +kernel
theorem dX6_allEdges_16 : decode cX6_allEdges 16 = .ok (.iaload, 1) := by decide +kernel
theorem dX6_allEdges_17 : decode cX6_allEdges 17 = .ok (.iadd, 1) := by decide +kernel
theorem dX6_allEdges_18 : decode cX6_allEdges 18 = .ok (.istore_n 1, 1) := by decide +kernel
theorem dX6_allEdges_19 : decode cX6_allEdges 19 = .ok (.iinc 2 1, 3) := by decide +kernel
theorem dX6_allEdges_22 : decode cX6_allEdges 22 = .ok (.goto (-18), 3) := by decide +kernel
theorem dX6_allEdges_25 : decode cX6_allEdges 25 = .ok (.iload_n 1, 1) := by decide +kernel
theorem dX6_allEdges_26 : decode cX6_allEdges 26 = .ok (.iconst 2, 1) := by decide +kernel
theorem dX6_allEdges_27 : decode cX6_allEdges 27 = .ok (.idiv, 1) := by decide +kernel
theorem dX6_allEdges_28 : decode cX6_allEdges 28 = .ok (.ireturn, 1) := by decide +kernel
set_option maxRecDepth 20000 in
theorem ggX6_trees_X6_bits : GoodIn wsX6_trees wsX6_bits := goodIn_r _ [6] (by decide +kernel) (by decide +kernel)
set_option maxRecDepth 20000 in
theorem gX6_trees_X6_bits : GoodIn wsX6_trees (va_wsS RX6 170 yX6_bits wsX6_bits) := goodIn_app (goodIn_of _ (by decide +kernel)) ggX6_trees_X6_bits
set_option maxRecDepth 20000 in
theorem ggX6_trees_X6_isOf : GoodIn wsX6_trees wsX6_isOf := goodIn_r _ [10, 11, 12, 13, 5, 14, 2, 15, 16, 17, 18, 19, 20, 21, 22, 23, 24, 25, 26, 27, 28, 29, 30, 31, 32, 33] (by decide +kernel) (by decide +kernel)
set_option maxRecDepth 20000 in
theorem gX6_trees_X6_isOf : GoodIn wsX6_trees (wsV RX6 221 RX6 yX6_isOf wsX6_isOf) := goodIn_app (goodIn_of _ (by decide +kernel)) ggX6_trees_X6_isOf
set_option maxRecDepth 20000 in
theorem ggX6_trees_X6_edgesOf : GoodIn wsX6_trees wsX6_edgesOf := goodIn_r _ [14, 2, 15, 16, 17, 18, 19, 20, 21, 22, 23, 24, 25, 26, 27, 28, 29, 30, 31, 32, 33] (by decide +kernel) (by decide +kernel)
set_option maxRecDepth 20000 in
theorem gX6_trees_X6_edgesOf : GoodIn wsX6_trees (wsV RX6 212 RX6 yX6_edgesOf wsX6_edgesOf) := goodIn_app (goodIn_of _ (by decide +kernel)) ggX6_trees_X6_edgesOf
theorem dX6_trees_0 : decode cX6_trees 0 = .ok (.aload_n 0, 1) := by decide +kernel
theorem dX6_trees_1 : decode cX6_trees 1 = .ok (.getfield 58, 3) := by decide +kernel
theorem dX6_trees_4 : decode cX6_trees 4 = .ok (.iconst 0, 1) := by decide +kernel
theorem dX6_trees_5 : decode cX6_trees 5 = .ok (.lconst 1, 1) := by decide +kernel
theorem dX6_trees_6 : decode cX6_trees 6 = .ok (.lastore, 1) := by decide +kernel
theorem dX6_trees_7 : decode cX6_trees 7 = .ok (.iconst 1, 1) := by decide +kernel
theorem dX6_trees_8 : decode cX6_trees 8 = .ok (.istore_n 1, 1) := by decide +kernel
theorem dX6_trees_9 : decode cX6_trees 9 = .ok (.iload_n 1, 1) := by decide +kernel
theorem dX6_trees_10 : decode cX6_trees 10 = .ok (.bipush 16, 2) := by decide +kernel
theorem dX6_trees_12 : decode cX6_trees 12 = .ok (.if_icmp .ge 131, 3) := by decide +kernel
theorem dX6_trees_15 : decode cX6_trees 15 = .ok (.iload_n 1, 1) := by decide +kernel
theorem dX6_trees_16 : decode cX6_trees 16 = .ok (.invokestatic 170, 3) := by decide +kernel
theorem dX6_trees_19 : decode cX6_trees 19 = .ok (.istore_n 2, 1) := by decide +kernel
theorem dX6_trees_20 : decode cX6_trees 20 = .ok (.aload_n 0, 1) := by decide +kernel
theorem dX6_trees_21 : decode cX6_trees 21 = .ok (.getfield 58, 3) := by decide +kernel
theorem dX6_trees_24 : decode cX6_trees 24 = .ok (.iload_n 1, 1) := by decide +kernel
theorem dX6_trees_25 : decode cX6_trees 25 = .ok (.lconst 0, 1) := by decide +kernel
theorem dX6_trees_26 : decode cX6_trees 26 = .ok (.lastore, 1) := by decide +kernel
theorem dX6_trees_27 : decode cX6_trees 27 = .ok (.iconst 1, 1) := by decide +kernel
theorem dX6_trees_28 : decode cX6_trees 28 = .ok (.istore_n 3, 1) := by decide +kernel
theorem dX6_trees_29 : decode cX6_trees 29 = .ok (.iload_n 3, 1) := by decide +kernel
theorem dX6_trees_30 : decode cX6_trees 30 = .ok (.iconst 5, 1) := by decide +kernel
theorem dX6_trees_31 : decode cX6_trees 31 = .ok (.if_icmp .ge 106, 3) := by decide +kernel
theorem dX6_trees_34 : decode cX6_trees 34 = .ok (.iload_n 1, 1) := by decide +kernel
theorem dX6_trees_35 : decode cX6_trees 35 = .ok (.iload_n 3, 1) := by decide +kernel
theorem dX6_trees_36 : decode cX6_trees 36 = .ok (.iconst 1, 1) := by decide +kernel
theorem dX6_trees_37 : decode cX6_trees 37 = .ok (.isub, 1) := by decide +kernel
theorem dX6_trees_38 : decode cX6_trees 38 = .ok (.ishr, 1) := by decide +kernel
theorem dX6_trees_39 : decode cX6_trees 39 = .ok (.iconst 1, 1) := by decide +kernel
theorem dX6_trees_40 : decode cX6_trees 40 = .ok (.iand, 1) := by decide +kernel
theorem dX6_trees_41 : decode cX6_trees 41 = .ok (.iconst 1, 1) := by decide +kernel
theorem dX6_trees_42 : decode cX6_trees 42 = .ok (.if_icmp .ne 89, 3) := by decide +kernel
theorem dX6_trees_45 : decode cX6_trees 45 = .ok (.iload_n 2, 1) := by decide +kernel
theorem dX6_trees_46 : decode cX6_trees 46 = .ok (.iload_n 3, 1) := by decide +kernel
theorem dX6_trees_47 : decode cX6_trees 47 = .ok (.if_icmp .eq 17, 3) := by decide +kernel
theorem dX6_trees_50 : decode cX6_trees 50 = .ok (.aload_n 0, 1) := by decide +kernel
theorem dX6_trees_51 : decode cX6_trees 51 = .ok (.getfield 46, 3) := by decide +kernel
theorem dX6_trees_54 : decode cX6_trees 54 = .ok (.iconst 5, 1) := by decide +kernel
theorem dX6_trees_55 : decode cX6_trees 55 = .ok (.iload_n 2, 1) := by decide +kernel
theorem dX6_trees_56 : decode cX6_trees 56 = .ok (.imul, 1) := by decide +kernel
theorem dX6_trees_57 : decode cX6_trees 57 = .ok (.iload_n 3, 1) := by decide +kernel
theorem dX6_trees_58 : decode cX6_trees 58 = .ok (.iadd, 1) := by decide +kernel
theorem dX6_trees_59 : decode cX6_trees 59 = .ok (.iaload, 1) := by decide +kernel
theorem dX6_trees_60 : decode cX6_trees 60 = .ok (.ineg, 1) := by decide +kernel
theorem dX6_trees_61 : decode cX6_trees 61 = .ok (.goto 20, 3) := by decide +kernel
theorem dX6_trees_64 : decode cX6_trees 64 = .ok (.aload_n 0, 1) := by decide +kernel
theorem dX6_trees_65 : decode cX6_trees 65 = .ok (.iload_n 3, 1) := by decide +kernel
theorem dX6_trees_66 : decode cX6_trees 66 = .ok (.invokevirtual 221, 3) := by decide +kernel
theorem dX6_trees_69 : decode cX6_trees 69 = .ok (.ifCond .eq 11, 3) := by decide +kernel
theorem dX6_trees_72 : decode cX6_trees 72 = .ok (.aload_n 0, 1) := by decide +kernel
theorem dX6_trees_73 : decode cX6_trees 73 = .ok (.iload_n 3, 1) := by decide +kernel
theorem dX6_trees_74 : decode cX6_trees 74 = .ok (.invokevirtual 212, 3) := by decide +kernel
theorem dX6_trees_77 : decode cX6_trees 77 = .ok (.goto 4, 3) := by decide +kernel
theorem dX6_trees_80 : decode cX6_trees 80 = .ok (.iconst 1, 1) := by decide +kernel
theorem dX6_trees_81 : decode cX6_trees 81 = .ok (.istore 4, 2) := by decide +kernel
theorem dX6_trees_83 : decode cX6_trees 83 = .ok (.iload 4, 2) := by decide +kernel
theorem dX6_trees_85 : decode cX6_trees 85 = .ok (.i2l, 1) := by decide +kernel
theorem dX6_trees_86 : decode cX6_trees 86 = .ok (.aload_n 0, 1) := by decide +kernel
theorem dX6_trees_87 : decode cX6_trees 87 = .ok (.getfield 58, 3) := by decide +kernel
theorem dX6_trees_90 : decode cX6_trees 90 = .ok (.iload_n 1, 1) := by decide +kernel
theorem dX6_trees_91 : decode cX6_trees 91 = .ok (.iconst 1, 1) := by decide +kernel
theorem dX6_trees_92 : decode cX6_trees 92 = .ok (.iload_n 3, 1) := by decide +kernel
theorem dX6_trees_93 : decode cX6_trees 93 = .ok (.iconst 1, 1) := by decide +kernel
theorem dX6_trees_94 : decode cX6_trees 94 = .ok (.isub, 1) := by decide +kernel
theorem dX6_trees_95 : decode cX6_trees 95 = .ok (.ishl, 1) := by decide +kernel
theorem dX6_trees_96 : decode cX6_trees 96 = .ok (.iconst (-1), 1) := by decide +kernel
theorem dX6_trees_97 : decode cX6_trees 97 = .ok (.ixor, 1) := by decide +kernel
theorem dX6_trees_98 : decode cX6_trees 98 = .ok (.iand, 1) := by decide +kernel
theorem dX6_trees_99 : decode cX6_trees 99 = .ok (.laload, 1) := by decide +kernel
theorem dX6_trees_100 : decode cX6_trees 100 = .ok (.lmul, 1) := by decide +kernel
theorem dX6_trees_101 : decode cX6_trees 101 = .ok (.lstore 5, 2) := by decide +kernel
theorem dX6_trees_103 : decode cX6_trees 103 = .ok (.aload_n 0, 1) := by decide +kernel
theorem dX6_trees_104 : decode cX6_trees 104 = .ok (.getfield 58, 3) := by decide +kernel
theorem dX6_trees_107 : decode cX6_trees 107 = .ok (.iload_n 1, 1) := by decide +kernel
theorem dX6_trees_108 : decode cX6_trees 108 = .ok (.dup2, 1) := by decide +kernel
theorem dX6_trees_109 : decode cX6_trees 109 = .ok (.laload, 1) := by decide +kernel
theorem dX6_trees_110 : decode cX6_trees 110 = .ok (.iload_n 1, 1) := by decide +kernel
theorem dX6_trees_111 : decode cX6_trees 111 = .ok (.iload_n 3, 1) := by decide +kernel
theorem dX6_trees_112 : decode cX6_trees 112 = .ok (.ishr, 1) := by decide +kernel
theorem dX6_trees_113 : decode cX6_trees 113 = .ok (.invokestatic 170, 3) := by decide +kernel
theorem dX6_trees_116 : decode cX6_trees 116 = .ok (.iconst 2, 1) := by decide +kernel
theorem dX6_trees_117 : decode cX6_trees 117 = .ok (.irem, 1) := by decide +kernel
theorem dX6_trees_118 : decode cX6_trees 118 = .ok (.ifCond .ne 8, 3) := by decide +kernel
theorem dX6_trees_121 : decode cX6_trees 121 = .ok (.lload 5, 2) := by decide +kernel
theorem dX6_trees_123 : decode cX6_trees 123 = .ok (.goto 6, 3) := by decide +kernel
theorem dX6_trees_126 : decode cX6_trees 126 = .ok (.lload 5, 2) := by decide +kernel
theorem dX6_trees_128 : decode cX6_trees 128 = .ok (.lneg, 1) := by decide +kernel
theorem dX6_trees_129 : decode cX6_trees 129 = .ok (.ladd, 1) := by decide +kernel
theorem dX6_trees_130 : decode cX6_trees 130 = .ok (.lastore, 1) := by decide +kernel
theorem dX6_trees_131 : decode cX6_trees 131 = .ok (.iinc 3 1, 3) := by decide +kernel
theorem dX6_trees_134 : decode cX6_trees 134 = .ok (.goto (-105), 3) := by decide +kernel
theorem dX6_trees_137 : decode cX6_trees 137 = .ok (.iinc 1 1, 3) := by decide +kernel
theorem dX6_trees_140 : decode cX6_trees 140 = .ok (.goto (-131), 3) := by decide +kernel
theorem dX6_trees_143 : decode cX6_trees 143 = .ok (.aload_n 0, 1) := by decide +kernel
theorem dX6_trees_144 : decode cX6_trees 144 = .ok (.getfield 58, 3) := by decide +kernel
theorem dX6_trees_147 : decode cX6_trees 147 = .ok (.bipush 15, 2) := by decide +kernel
theorem dX6_trees_149 : decode cX6_trees 149 = .ok (.laload, 1) := by decide +kernel
theorem dX6_trees_150 : decode cX6_trees 150 = .ok (.l2i, 1) := by decide +kernel
theorem dX6_trees_151 : decode cX6_trees 151 = .ok (.ireturn, 1) := by decide +kernel
set_option maxRecDepth 20000 in
theorem ggX6_graph_X6_isIn : GoodIn wsX6_graph wsX6_isIn := goodIn_r _ [4] (by decide +kernel) (by decide +kernel)
set_option maxRecDepth 20000 in
theorem gX6_graph_X6_isIn : GoodIn wsX6_graph (va_wsS RX6 67 yX6_isIn wsX6_isIn) := goodIn_app (goodIn_of _ (by decide +kernel)) ggX6_graph_X6_isIn
set_option maxRecDepth 20000 in
theorem ggX6_graph_X6_can : GoodIn wsX6_graph wsX6_can := goodIn_r _ [8, 9, 49, 50, 51, 52, 53, 54, 55, 56, 57, 58, 59, 60, 61, 62, 63, 64, 65, 66, 67] (by decide +kernel) (by decide +kernel)
set_option maxRecDepth 20000 in
theorem gX6_graph_X6_can : GoodIn wsX6_graph (wsV RX6 82 RX6 yX6_can wsX6_can) := goodIn_app (goodIn_of _ (by decide +kernel)) ggX6_graph_X6_can
set_option maxRecDepth 20000 in
theorem ggX6_graph_X6_vertices : GoodIn wsX6_graph wsX6_vertices := goodIn_r _ [13, 14, 15, 16, 3, 17, 18, 19, 20, 21, 22, 49, 50, 51, 52, 53, 54, 55, 56, 57, 58, 59, 60, 61, 62, 63, 64, 65, 66, 67] (by decide +kernel) (by decide +kernel)
set_option maxRecDepth 20000 in
theorem gX6_graph_X6_vertices : GoodIn wsX6_graph (wsV RX6 261 RX6 yX6_vertices wsX6_vertices) := goodIn_app (goodIn_of _ (by decide +kernel)) ggX6_graph_X6_vertices
set_option maxRecDepth 20000 in
theorem ggX6_graph_X6_allEdges : GoodIn wsX6_graph wsX6_allEdges := goodIn_r _ [26, 22, 49, 50, 51, 52, 53, 54, 55, 56, 57, 58, 59, 60, 61, 62, 63, 64, 65, 66, 67] (by decide +kernel) (by decide +kernel)
set_option maxRecDepth 20000 in
theorem gX6_graph_X6_allEdges : GoodIn wsX6_graph (wsV RX6 264 RX6 yX6_allEdges wsX6_allEdges) := goodIn_app (goodIn_of _ (by decide +kernel)) ggX6_graph_X6_allEdges
set_option maxRecDepth 20000 in
theorem ggX6_graph_X6_isConnected : GoodIn wsX6_graph wsX6_isConnected := goodIn_r _ [30, 22, 14, 15, 16, 3, 17, 18, 19, 20, 21, 49, 50, 51, 52, 53, 54, 55, 56, 57, 58, 59, 60, 61, 62, 63, 64, 65, 66, 67] (by decide +kernel) (by decide +kernel)
set_option maxRecDepth 20000 in
theorem gX6_graph_X6_isConnected : GoodIn wsX6_graph (wsV RX6 233 RX6 yX6_isConnected wsX6_isConnected) := goodIn_app (goodIn_of _ (by decide +kernel)) ggX6_graph_X6_isConnected
set_option maxRecDepth 20000 in
theorem ggX6_graph_X6_layBase : GoodIn wsX6_graph wsX6_layBase := goodIn_r _ [34, 35, 36, 14, 15, 16, 3, 17, 18, 19, 20, 21, 22, 49, 50, 51, 52, 53, 54, 55, 56, 57, 58, 59, 60, 61, 62, 63, 64, 65, 66, 67] (by decide +kernel) (by decide +kernel)
set_option maxRecDepth 20000 in
theorem gX6_graph_X6_layBase : GoodIn wsX6_graph (wsV RX6 250 RX6 yX6_layBase wsX6_layBase) := goodIn_app (goodIn_of _ (by decide +kernel)) ggX6_graph_X6_layBase
set_option maxRecDepth 20000 in
theorem ggX6_graph_X6_degreeOfBase : GoodIn wsX6_graph wsX6_degreeOfBase := goodIn_r _ [40, 35, 14, 15, 16, 3, 17, 18, 19, 20, 21, 22, 49, 50, 51, 52, 53, 54, 55, 56, 57, 58, 59, 60, 61, 62, 63, 64, 65, 66, 67] (by decide +kernel) (by decide +kernel)
set_option maxRecDepth 20000 in
theorem gX6_graph_X6_degreeOfBase : GoodIn wsX6_graph (wsV RX6 243 RX6 yX6_degreeOfBase wsX6_degreeOfBase) := goodIn_app (goodIn_of _ (by decide +kernel)) ggX6_graph_X6_degreeOfBase
set_option maxRecDepth 20000 in
theorem ggX6_graph_X6_trees : GoodIn wsX6_graph wsX6_trees := goodIn_r _ [44, 45, 22, 46, 47, 3, 48, 14, 15, 16, 17, 18, 19, 20, 21, 49, 50, 51, 52, 53, 54, 55, 56, 57, 58, 59, 60, 61, 62, 63, 64, 65, 66, 67] (by decide +kernel) (by decide +kernel)
set_option maxRecDepth 20000 in
theorem gX6_graph_X6_trees : GoodIn wsX6_graph (wsV RX6 267 RX6 yX6_trees wsX6_trees) := goodIn_app (goodIn_of _ (by decide +kernel)) ggX6_graph_X6_trees
theorem dX6_graph_0 : decode cX6_graph 0 = .ok (.aload_n 0, 1) := by decide +kernel
theorem dX6_graph_1 : decode cX6_graph 1 = .ok (.iload_n 1, 1) := by decide +kernel
theorem dX6_graph_2 : decode cX6_graph 2 = .ok (.iconst 0, 1) := by decide +kernel
theorem dX6_graph_3 : decode cX6_graph 3 = .ok (.iconst 5, 1) := by decide +kernel
theorem dX6_graph_4 : decode cX6_graph 4 = .ok (.invokestatic 67, 3) := by decide +kernel
theorem dX6_graph_7 : decode cX6_graph 7 = .ok (.ifCond .eq 7, 3) := by decide +kernel
theorem dX6_graph_10 : decode cX6_graph 10 = .ok (.iconst 0, 1) := by decide +kernel
theorem dX6_graph_11 : decode cX6_graph 11 = .ok (.goto 4, 3) := by decide +kernel
theorem dX6_graph_14 : decode cX6_graph 14 = .ok (.iconst 1, 1) := by decide +kernel
theorem dX6_graph_15 : decode cX6_graph 15 = .ok (.invokevirtual 82, 3) := by decide +kernel
theorem dX6_graph_18 : decode cX6_graph 18 = .ok (.ifCond .ne 5, 3) := by decide +kernel
theorem dX6_graph_21 : decode cX6_graph 21 = .ok (.iconst 0, 1) := by decide +kernel
theorem dX6_graph_22 : decode cX6_graph 22 = .ok (.ireturn, 1) := by decide +kernel
theorem dX6_graph_23 : decode cX6_graph 23 = .ok (.iload_n 1, 1) := by decide +kernel
theorem dX6_graph_24 : decode cX6_graph 24 = .ok (.tableswitch 81 0 4 #[36, 41, 46, 58, 71], 36) := by decide +kernel
theorem dX6_graph_60 : decode cX6_graph 60 = .ok (.aload_n 0, 1) := by decide +kernel
theorem dX6_graph_61 : decode cX6_graph 61 = .ok (.invokevirtual 261, 3) := by decide +kernel
theorem dX6_graph_64 : decode cX6_graph 64 = .ok (.ireturn, 1) := by decide +kernel
theorem dX6_graph_65 : decode cX6_graph 65 = .ok (.aload_n 0, 1) := by decide +kernel
theorem dX6_graph_66 : decode cX6_graph 66 = .ok (.invokevirtual 264, 3) := by decide +kernel
theorem dX6_graph_69 : decode cX6_graph 69 = .ok (.ireturn, 1) := by decide +kernel
theorem dX6_graph_70 : decode cX6_graph 70 = .ok (.aload_n 0, 1) := by decide +kernel
theorem dX6_graph_71 : decode cX6_graph 71 = .ok (.invokevirtual 264, 3) := by decide +kernel
theorem dX6_graph_74 : decode cX6_graph 74 = .ok (.aload_n 0, 1) := by decide +kernel
theorem dX6_graph_75 : decode cX6_graph 75 = .ok (.invokevirtual 261, 3) := by decide +kernel
theorem dX6_graph_78 : decode cX6_graph 78 = .ok (.isub, 1) := by decide +kernel
theorem dX6_graph_79 : decode cX6_graph 79 = .ok (.iconst 1, 1) := by decide +kernel
theorem dX6_graph_80 : decode cX6_graph 80 = .ok (.iadd, 1) := by decide +kernel
theorem dX6_graph_81 : decode cX6_graph 81 = .ok (.ireturn, 1) := by decide +kernel
theorem dX6_graph_82 : decode cX6_graph 82 = .ok (.aload_n 0, 1) := by decide +kernel
theorem dX6_graph_83 : decode cX6_graph 83 = .ok (.invokevirtual 233, 3) := by decide +kernel
theorem dX6_graph_86 : decode cX6_graph 86 = .ok (.ifCond .eq 7, 3) := by decide +kernel
theorem dX6_graph_89 : decode cX6_graph 89 = .ok (.iconst 1, 1) := by decide +kernel
theorem dX6_graph_90 : decode cX6_graph 90 = .ok (.goto 4, 3) := by decide +kernel
theorem dX6_graph_93 : decode cX6_graph 93 = .ok (.iconst 0, 1) := by decide +kernel
theorem dX6_graph_94 : decode cX6_graph 94 = .ok (.ireturn, 1) := by decide +kernel
theorem dX6_graph_95 : decode cX6_graph 95 = .ok (.aload_n 0, 1) := by decide +kernel
theorem dX6_graph_96 : decode cX6_graph 96 = .ok (.iconst 0, 1) := by decide +kernel
theorem dX6_graph_97 : decode cX6_graph 97 = .ok (.invokevirtual 250, 3) := by decide +kernel
theorem dX6_graph_100 : decode cX6_graph 100 = .ok (.aload_n 0, 1) := by decide +kernel
theorem dX6_graph_101 : decode cX6_graph 101 = .ok (.invokevirtual 243, 3) := by decide +kernel
theorem dX6_graph_104 : decode cX6_graph 104 = .ok (.ireturn, 1) := by decide +kernel
theorem dX6_graph_105 : decode cX6_graph 105 = .ok (.aload_n 0, 1) := by decide +kernel
theorem dX6_graph_106 : decode cX6_graph 106 = .ok (.invokevirtual 267, 3) := by decide +kernel
theorem dX6_graph_109 : decode cX6_graph 109 = .ok (.ireturn, 1) := by decide +kernel
theorem dJ6_bitCount_0f7a4_0 : decode cJ6_bitCount_0f7a4 0 = .ok (.iload_n 0, 1) := by decide +kernel
theorem dJ6_bitCount_0f7a4_1 : decode cJ6_bitCount_0f7a4 1 = .ok (.iload_n 0, 1) := by decide +kernel
theorem dJ6_bitCount_0f7a4_2 : decode cJ6_bitCount_0f7a4 2 = .ok (.iconst 1, 1) := by decide +kernel
theorem dJ6_bitCount_0f7a4_3 : decode cJ6_bitCount_0f7a4 3 = .ok (.iushr, 1) := by decide +kernel
theorem dJ6_bitCount_0f7a4_4 : decode cJ6_bitCount_0f7a4 4 = .ok (.ldc_w 265, 3) := by decide +kernel
theorem dJ6_bitCount_0f7a4_7 : decode cJ6_bitCount_0f7a4 7 = .ok (.iand, 1) := by decide +kernel
theorem dJ6_bitCount_0f7a4_8 : decode cJ6_bitCount_0f7a4 8 = .ok (.isub, 1) := by decide +kernel
theorem dJ6_bitCount_0f7a4_9 : decode cJ6_bitCount_0f7a4 9 = .ok (.istore_n 0, 1) := by decide +kernel
theorem dJ6_bitCount_0f7a4_10 : decode cJ6_bitCount_0f7a4 10 = .ok (.iload_n 0, 1) := by decide +kernel
theorem dJ6_bitCount_0f7a4_11 : decode cJ6_bitCount_0f7a4 11 = .ok (.ldc_w 266, 3) := by decide +kernel
theorem dJ6_bitCount_0f7a4_14 : decode cJ6_bitCount_0f7a4 14 = .ok (.iand, 1) := by decide +kernel
theorem dJ6_bitCount_0f7a4_15 : decode cJ6_bitCount_0f7a4 15 = .ok (.iload_n 0, 1) := by decide +kernel
theorem dJ6_bitCount_0f7a4_16 : decode cJ6_bitCount_0f7a4 16 = .ok (.iconst 2, 1) := by decide +kernel
theorem dJ6_bitCount_0f7a4_17 : decode cJ6_bitCount_0f7a4 17 = .ok (.iushr, 1) := by decide +kernel
theorem dJ6_bitCount_0f7a4_18 : decode cJ6_bitCount_0f7a4 18 = .ok (.ldc_w 266, 3) := by decide +kernel
theorem dJ6_bitCount_0f7a4_21 : decode cJ6_bitCount_0f7a4 21 = .ok (.iand, 1) := by decide +kernel
theorem dJ6_bitCount_0f7a4_22 : decode cJ6_bitCount_0f7a4 22 = .ok (.iadd, 1) := by decide +kernel
theorem dJ6_bitCount_0f7a4_23 : decode cJ6_bitCount_0f7a4 23 = .ok (.istore_n 0, 1) := by decide +kernel
theorem dJ6_bitCount_0f7a4_24 : decode cJ6_bitCount_0f7a4 24 = .ok (.iload_n 0, 1) := by decide +kernel
theorem dJ6_bitCount_0f7a4_25 : decode cJ6_bitCount_0f7a4 25 = .ok (.iload_n 0, 1) := by decide +kernel
theorem dJ6_bitCount_0f7a4_26 : decode cJ6_bitCount_0f7a4 26 = .ok (.iconst 4, 1) := by decide +kernel
theorem dJ6_bitCount_0f7a4_27 : decode cJ6_bitCount_0f7a4 27 = .ok (.iushr, 1) := by decide +kernel
theorem dJ6_bitCount_0f7a4_28 : decode cJ6_bitCount_0f7a4 28 = .ok (.iadd, 1) := by decide +kernel
theorem dJ6_bitCount_0f7a4_29 : decode cJ6_bitCount_0f7a4 29 = .ok (.ldc_w 267, 3) := by decide +kernel
theorem dJ6_bitCount_0f7a4_32 : decode cJ6_bitCount_0f7a4 32 = .ok (.iand, 1) := by decide +kernel
theorem dJ6_bitCount_0f7a4_33 : decode cJ6_bitCount_0f7a4 33 = .ok (.istore_n 0, 1) := by decide +kernel
theorem dJ6_bitCount_0f7a4_34 : decode cJ6_bitCount_0f7a4 34 = .ok (.iload_n 0, 1) := by decide +kernel
theorem dJ6_bitCount_0f7a4_35 : decode cJ6_bitCount_0f7a4 35 = .ok (.iload_n 0, 1) := by decide +kernel
theorem dJ6_bitCount_0f7a4_36 : decode cJ6_bitCount_0f7a4 36 = .ok (.bipush 8, 2) := by decide +kernel
theorem dJ6_bitCount_0f7a4_38 : decode cJ6_bitCount_0f7a4 38 = .ok (.iushr, 1) := by decide +kernel
theorem dJ6_bitCount_0f7a4_39 : decode cJ6_bitCount_0f7a4 39 = .ok (.iadd, 1) := by decide +kernel
theorem dJ6_bitCount_0f7a4_40 : decode cJ6_bitCount_0f7a4 40 = .ok (.istore_n 0, 1) := by decide +kernel
theorem dJ6_bitCount_0f7a4_41 : decode cJ6_bitCount_0f7a4 41 = .ok (.iload_n 0, 1) := by decide +kernel
theorem dJ6_bitCount_0f7a4_42 : decode cJ6_bitCount_0f7a4 42 = .ok (.iload_n 0, 1) := by decide +kernel
theorem dJ6_bitCount_0f7a4_43 : decode cJ6_bitCount_0f7a4 43 = .ok (.bipush 16, 2) := by decide +kernel
theorem dJ6_bitCount_0f7a4_45 : decode cJ6_bitCount_0f7a4 45 = .ok (.iushr, 1) := by decide +kernel
theorem dJ6_bitCount_0f7a4_46 : decode cJ6_bitCount_0f7a4 46 = .ok (.iadd, 1) := by decide +kernel
theorem dJ6_bitCount_0f7a4_47 : decode cJ6_bitCount_0f7a4 47 = .ok (.istore_n 0, 1) := by decide +kernel
theorem dJ6_bitCount_0f7a4_48 : decode cJ6_bitCount_0f7a4 48 = .ok (.iload_n 0, 1) := by decide +kernel
theorem dJ6_bitCount_0f7a4_49 : decode cJ6_bitCount_0f7a4 49 = .ok (.bipush 63, 2) := by decide +kernel
theorem dJ6_bitCount_0f7a4_51 : decode cJ6_bitCount_0f7a4 51 = .ok (.iand, 1) := by decide +kernel
theorem dJ6_bitCount_0f7a4_52 : decode cJ6_bitCount_0f7a4 52 = .ok (.ireturn, 1) := by decide +kernel
theorem dJ9_floorDiv_7cf53_0 : decode cJ9_floorDiv_7cf53 0 = .ok (.iload_n 0, 1) := by decide +kernel
theorem dJ9_floorDiv_7cf53_1 : decode cJ9_floorDiv_7cf53 1 = .ok (.iload_n 1, 1) := by decide +kernel
theorem dJ9_floorDiv_7cf53_2 : decode cJ9_floorDiv_7cf53 2 = .ok (.idiv, 1) := by decide +kernel
theorem dJ9_floorDiv_7cf53_3 : decode cJ9_floorDiv_7cf53 3 = .ok (.istore_n 2, 1) := by decide +kernel
theorem dJ9_floorDiv_7cf53_4 : decode cJ9_floorDiv_7cf53 4 = .ok (.iload_n 0, 1) := by decide +kernel
theorem dJ9_floorDiv_7cf53_5 : decode cJ9_floorDiv_7cf53 5 = .ok (.iload_n 1, 1) := by decide +kernel
theorem dJ9_floorDiv_7cf53_6 : decode cJ9_floorDiv_7cf53 6 = .ok (.ixor, 1) := by decide +kernel
theorem dJ9_floorDiv_7cf53_7 : decode cJ9_floorDiv_7cf53 7 = .ok (.ifCond .ge 14, 3) := by decide +kernel
theorem dJ9_floorDiv_7cf53_10 : decode cJ9_floorDiv_7cf53 10 = .ok (.iload_n 2, 1) := by decide +kernel
theorem dJ9_floorDiv_7cf53_11 : decode cJ9_floorDiv_7cf53 11 = .ok (.iload_n 1, 1) := by decide +kernel
theorem dJ9_floorDiv_7cf53_12 : decode cJ9_floorDiv_7cf53 12 = .ok (.imul, 1) := by decide +kernel
theorem dJ9_floorDiv_7cf53_13 : decode cJ9_floorDiv_7cf53 13 = .ok (.iload_n 0, 1) := by decide +kernel
theorem dJ9_floorDiv_7cf53_14 : decode cJ9_floorDiv_7cf53 14 = .ok (.if_icmp .eq 7, 3) := by decide +kernel
theorem dJ9_floorDiv_7cf53_17 : decode cJ9_floorDiv_7cf53 17 = .ok (.iload_n 2, 1) := by decide +kernel
theorem dJ9_floorDiv_7cf53_18 : decode cJ9_floorDiv_7cf53 18 = .ok (.iconst 1, 1) := by decide +kernel
theorem dJ9_floorDiv_7cf53_19 : decode cJ9_floorDiv_7cf53 19 = .ok (.isub, 1) := by decide +kernel
theorem dJ9_floorDiv_7cf53_20 : decode cJ9_floorDiv_7cf53 20 = .ok (.ireturn, 1) := by decide +kernel
theorem dJ9_floorDiv_7cf53_21 : decode cJ9_floorDiv_7cf53 21 = .ok (.iload_n 2, 1) := by decide +kernel
theorem dJ9_floorDiv_7cf53_22 : decode cJ9_floorDiv_7cf53 22 = .ok (.ireturn, 1) := by decide +kernel
theorem dJ9_max_7cf53_0 : decode cJ9_max_7cf53 0 = .ok (.iload_n 0, 1) := by decide +kernel
theorem dJ9_max_7cf53_1 : decode cJ9_max_7cf53 1 = .ok (.iload_n 1, 1) := by decide +kernel
theorem dJ9_max_7cf53_2 : decode cJ9_max_7cf53 2 = .ok (.if_icmp .lt 7, 3) := by decide +kernel
theorem dJ9_max_7cf53_5 : decode cJ9_max_7cf53 5 = .ok (.iload_n 0, 1) := by decide +kernel
theorem dJ9_max_7cf53_6 : decode cJ9_max_7cf53 6 = .ok (.goto 4, 3) := by decide +kernel
theorem dJ9_max_7cf53_9 : decode cJ9_max_7cf53 9 = .ok (.iload_n 1, 1) := by decide +kernel
theorem dJ9_max_7cf53_10 : decode cJ9_max_7cf53 10 = .ok (.ireturn, 1) := by decide +kernel
theorem dJ9_min_7cf53_0 : decode cJ9_min_7cf53 0 = .ok (.iload_n 0, 1) := by decide +kernel
theorem dJ9_min_7cf53_1 : decode cJ9_min_7cf53 1 = .ok (.iload_n 1, 1) := by decide +kernel
theorem dJ9_min_7cf53_2 : decode cJ9_min_7cf53 2 = .ok (.if_icmp .gt 7, 3) := by decide +kernel
theorem dJ9_min_7cf53_5 : decode cJ9_min_7cf53 5 = .ok (.iload_n 0, 1) := by decide +kernel
theorem dJ9_min_7cf53_6 : decode cJ9_min_7cf53 6 = .ok (.goto 4, 3) := by decide +kernel
theorem dJ9_min_7cf53_9 : decode cJ9_min_7cf53 9 = .ok (.iload_n 1, 1) := by decide +kernel
theorem dJ9_min_7cf53_10 : decode cJ9_min_7cf53 10 = .ok (.ireturn, 1) := by decide +kernel
theorem dJ7_fill_53178_0 : decode cJ7_fill_53178 0 = .ok (.iconst 0, 1) := by decide +kernel
theorem dJ7_fill_53178_1 : decode cJ7_fill_53178 1 = .ok (.istore_n 2, 1) := by decide +kernel
theorem dJ7_fill_53178_2 : decode cJ7_fill_53178 2 = .ok (.aload_n 0, 1) := by decide +kernel
theorem dJ7_fill_53178_3 : decode cJ7_fill_53178 3 = .ok (.arraylength, 1) := by decide +kernel
theorem dJ7_fill_53178_4 : decode cJ7_fill_53178 4 = .ok (.istore_n 3, 1) := by decide +kernel
theorem dJ7_fill_53178_5 : decode cJ7_fill_53178 5 = .ok (.iload_n 2, 1) := by decide +kernel
theorem dJ7_fill_53178_6 : decode cJ7_fill_53178 6 = .ok (.iload_n 3, 1) := by decide +kernel
theorem dJ7_fill_53178_7 : decode cJ7_fill_53178 7 = .ok (.if_icmp .ge 13, 3) := by decide +kernel
theorem dJ7_fill_53178_10 : decode cJ7_fill_53178 10 = .ok (.aload_n 0, 1) := by decide +kernel
theorem dJ7_fill_53178_11 : decode cJ7_fill_53178 11 = .ok (.iload_n 2, 1) := by decide +kernel
theorem dJ7_fill_53178_12 : decode cJ7_fill_53178 12 = .ok (.iload_n 1, 1) := by decide +kernel
theorem dJ7_fill_53178_13 : decode cJ7_fill_53178 13 = .ok (.iastore, 1) := by decide +kernel
theorem dJ7_fill_53178_14 : decode cJ7_fill_53178 14 = .ok (.iinc 2 1, 3) := by decide +kernel
theorem dJ7_fill_53178_17 : decode cJ7_fill_53178 17 = .ok (.goto (-12), 3) := by decide +kernel
theorem dJ7_fill_53178_20 : decode cJ7_fill_53178 20 = .ok (.return_, 1) := by decide +kernel
set_option maxRecDepth 20000 in
theorem ggL_coefficient_X5_coefficient : GoodIn wsL_coefficient wsX5_coefficient := goodIn_ca (goodIn_ca (goodIn_r _ [7, 8, 9, 10, 6, 11, 12, 13, 14, 15, 16, 17, 18, 19, 20, 21, 22, 23, 24, 25, 26, 27, 28, 29, 30, 31, 32, 33, 34, 35, 36] (by decide +kernel) (by decide +kernel)) (goodIn_sub (fun _ h => List.mem_cons_of_mem _ (List.mem_append_left _ (List.mem_append_right _ h))) (by decide +kernel))) (goodIn_sub (fun _ h => List.mem_cons_of_mem _ (List.mem_append_right _ h)) (by decide +kernel))
set_option maxRecDepth 20000 in
theorem gL_coefficient_X5_coefficient : GoodIn wsL_coefficient (wsV RL 7 RX5 yX5_coefficient wsX5_coefficient) := goodIn_app (goodIn_of _ (by decide +kernel)) ggL_coefficient_X5_coefficient
theorem dL_coefficient_0 : decode cL_coefficient 0 = .ok (.aload 4, 2) := by decide +kernel
theorem dL_coefficient_2 : decode cL_coefficient 2 = .ok (.iconst 0, 1) := by decide +kernel
theorem dL_coefficient_3 : decode cL_coefficient 3 = .ok (.aload_n 0, 1) := by decide +kernel
theorem dL_coefficient_4 : decode cL_coefficient 4 = .ok (.iload_n 1, 1) := by decide +kernel
theorem dL_coefficient_5 : decode cL_coefficient 5 = .ok (.iload_n 2, 1) := by decide +kernel
theorem dL_coefficient_6 : decode cL_coefficient 6 = .ok (.iload_n 3, 1) := by decide +kernel
theorem dL_coefficient_7 : decode cL_coefficient 7 = .ok (.invokevirtual 7, 3) := by decide +kernel
theorem dL_coefficient_10 : decode cL_coefficient 10 = .ok (.i2l, 1) := by decide +kernel
theorem dL_coefficient_11 : decode cL_coefficient 11 = .ok (.lastore, 1) := by decide +kernel
theorem dL_coefficient_12 : decode cL_coefficient 12 = .ok (.goto 11, 3) := by decide +kernel
theorem dL_coefficient_15 : decode cL_coefficient 15 = .ok (.astore 5, 2) := by decide +kernel
theorem dL_coefficient_17 : decode cL_coefficient 17 = .ok (.iconst 1, 1) := by decide +kernel
theorem dL_coefficient_18 : decode cL_coefficient 18 = .ok (.ireturn, 1) := by decide +kernel
theorem dL_coefficient_19 : decode cL_coefficient 19 = .ok (.astore 5, 2) := by decide +kernel
theorem dL_coefficient_21 : decode cL_coefficient 21 = .ok (.iconst 2, 1) := by decide +kernel
theorem dL_coefficient_22 : decode cL_coefficient 22 = .ok (.ireturn, 1) := by decide +kernel
theorem dL_coefficient_23 : decode cL_coefficient 23 = .ok (.iconst 0, 1) := by decide +kernel
theorem dL_coefficient_24 : decode cL_coefficient 24 = .ok (.ireturn, 1) := by decide +kernel
set_option maxRecDepth 20000 in
theorem ggL_value_X5_value : GoodIn wsL_value wsX5_value := goodIn_ca (goodIn_ca (goodIn_r _ [7, 8, 9, 10, 6, 11, 12, 13, 14, 15, 16, 17, 18, 19, 20, 21, 22, 23, 24, 25, 26, 27, 28, 29, 30, 31, 32, 33, 34, 35, 36, 37, 38, 39, 40, 41, 42, 43, 44, 45, 46, 47] (by decide +kernel) (by decide +kernel)) (goodIn_sub (fun _ h => List.mem_cons_of_mem _ (List.mem_append_left _ (List.mem_append_right _ h))) (by decide +kernel))) (goodIn_sub (fun _ h => List.mem_cons_of_mem _ (List.mem_append_right _ h)) (by decide +kernel))
set_option maxRecDepth 20000 in
theorem gL_value_X5_value : GoodIn wsL_value (wsV RL 17 RX5 yX5_value wsX5_value) := goodIn_app (goodIn_of _ (by decide +kernel)) ggL_value_X5_value
theorem dL_value_0 : decode cL_value 0 = .ok (.aload_n 3, 1) := by decide +kernel
theorem dL_value_1 : decode cL_value 1 = .ok (.iconst 0, 1) := by decide +kernel
theorem dL_value_2 : decode cL_value 2 = .ok (.aload_n 0, 1) := by decide +kernel
theorem dL_value_3 : decode cL_value 3 = .ok (.iload_n 1, 1) := by decide +kernel
theorem dL_value_4 : decode cL_value 4 = .ok (.iload_n 2, 1) := by decide +kernel
theorem dL_value_5 : decode cL_value 5 = .ok (.invokevirtual 17, 3) := by decide +kernel
theorem dL_value_8 : decode cL_value 8 = .ok (.i2l, 1) := by decide +kernel
theorem dL_value_9 : decode cL_value 9 = .ok (.lastore, 1) := by decide +kernel
theorem dL_value_10 : decode cL_value 10 = .ok (.goto 11, 3) := by decide +kernel
theorem dL_value_13 : decode cL_value 13 = .ok (.astore 4, 2) := by decide +kernel
theorem dL_value_15 : decode cL_value 15 = .ok (.iconst 1, 1) := by decide +kernel
theorem dL_value_16 : decode cL_value 16 = .ok (.ireturn, 1) := by decide +kernel
theorem dL_value_17 : decode cL_value 17 = .ok (.astore 4, 2) := by decide +kernel
theorem dL_value_19 : decode cL_value 19 = .ok (.iconst 2, 1) := by decide +kernel
theorem dL_value_20 : decode cL_value 20 = .ok (.ireturn, 1) := by decide +kernel
theorem dL_value_21 : decode cL_value 21 = .ok (.iconst 0, 1) := by decide +kernel
theorem dL_value_22 : decode cL_value 22 = .ok (.ireturn, 1) := by decide +kernel
set_option maxRecDepth 20000 in
theorem ggL_roots_X5_roots : GoodIn wsL_roots wsX5_roots := goodIn_ca (goodIn_r _ [6, 7, 8, 9, 5, 10, 11, 12, 13, 14, 15, 16, 17, 18, 19, 20, 21, 22, 23, 24, 25, 26, 27, 28, 29, 30, 31, 32, 33, 34, 35, 36, 37, 38, 39, 40, 41, 42, 43, 44, 45, 46, 47, 48, 49, 50, 51, 52, 53] (by decide +kernel) (by decide +kernel)) (goodIn_sub (fun _ h => List.mem_cons_of_mem _ (List.mem_append_right _ h)) (by decide +kernel))
set_option maxRecDepth 20000 in
theorem gL_roots_X5_roots : GoodIn wsL_roots (wsV RL 21 RX5 yX5_roots wsX5_roots) := goodIn_app (goodIn_of _ (by decide +kernel)) ggL_roots_X5_roots
theorem dL_roots_0 : decode cL_roots 0 = .ok (.aload_n 2, 1) := by decide +kernel
theorem dL_roots_1 : decode cL_roots 1 = .ok (.iconst 0, 1) := by decide +kernel
theorem dL_roots_2 : decode cL_roots 2 = .ok (.aload_n 0, 1) := by decide +kernel
theorem dL_roots_3 : decode cL_roots 3 = .ok (.iload_n 1, 1) := by decide +kernel
theorem dL_roots_4 : decode cL_roots 4 = .ok (.invokevirtual 21, 3) := by decide +kernel
theorem dL_roots_7 : decode cL_roots 7 = .ok (.i2l, 1) := by decide +kernel
theorem dL_roots_8 : decode cL_roots 8 = .ok (.lastore, 1) := by decide +kernel
theorem dL_roots_9 : decode cL_roots 9 = .ok (.goto 6, 3) := by decide +kernel
theorem dL_roots_12 : decode cL_roots 12 = .ok (.astore_n 3, 1) := by decide +kernel
theorem dL_roots_13 : decode cL_roots 13 = .ok (.iconst 1, 1) := by decide +kernel
theorem dL_roots_14 : decode cL_roots 14 = .ok (.ireturn, 1) := by decide +kernel
theorem dL_roots_15 : decode cL_roots 15 = .ok (.iconst 0, 1) := by decide +kernel
theorem dL_roots_16 : decode cL_roots 16 = .ok (.ireturn, 1) := by decide +kernel
set_option maxRecDepth 20000 in
theorem ggL_root_X5_root : GoodIn wsL_root wsX5_root := goodIn_ca (goodIn_ca (goodIn_r _ [7, 8, 9, 10, 11, 6, 12, 13, 14, 15, 16, 17, 18, 19, 20, 21, 22, 23, 24, 25, 26, 27, 28, 29, 30, 31, 32, 33, 34, 35, 36, 37, 38, 39, 40, 41, 42, 43, 44, 45, 46, 47, 48, 49, 50, 51, 52, 53, 54, 55, 56, 57, 58, 59, 60, 61, 62, 63, 64, 65, 66, 67, 68, 69, 70, 71, 72, 73, 74, 75, 76] (by decide +kernel) (by decide +kernel)) (goodIn_sub (fun _ h => List.mem_cons_of_mem _ (List.mem_append_left _ (List.mem_append_right _ h))) (by decide +kernel))) (goodIn_sub (fun _ h => List.mem_cons_of_mem _ (List.mem_append_right _ h)) (by decide +kernel))
set_option maxRecDepth 20000 in
theorem gL_root_X5_root : GoodIn wsL_root (wsV RL 25 RX5 yX5_root wsX5_root) := goodIn_app (goodIn_of _ (by decide +kernel)) ggL_root_X5_root
theorem dL_root_0 : decode cL_root 0 = .ok (.aload 4, 2) := by decide +kernel
theorem dL_root_2 : decode cL_root 2 = .ok (.iconst 0, 1) := by decide +kernel
theorem dL_root_3 : decode cL_root 3 = .ok (.aload_n 0, 1) := by decide +kernel
theorem dL_root_4 : decode cL_root 4 = .ok (.iload_n 1, 1) := by decide +kernel
theorem dL_root_5 : decode cL_root 5 = .ok (.iload_n 2, 1) := by decide +kernel
theorem dL_root_6 : decode cL_root 6 = .ok (.iload_n 3, 1) := by decide +kernel
theorem dL_root_7 : decode cL_root 7 = .ok (.invokevirtual 25, 3) := by decide +kernel
theorem dL_root_10 : decode cL_root 10 = .ok (.i2l, 1) := by decide +kernel
theorem dL_root_11 : decode cL_root 11 = .ok (.lastore, 1) := by decide +kernel
theorem dL_root_12 : decode cL_root 12 = .ok (.goto 11, 3) := by decide +kernel
theorem dL_root_15 : decode cL_root 15 = .ok (.astore 5, 2) := by decide +kernel
theorem dL_root_17 : decode cL_root 17 = .ok (.iconst 1, 1) := by decide +kernel
theorem dL_root_18 : decode cL_root 18 = .ok (.ireturn, 1) := by decide +kernel
theorem dL_root_19 : decode cL_root 19 = .ok (.astore 5, 2) := by decide +kernel
theorem dL_root_21 : decode cL_root 21 = .ok (.iconst 2, 1) := by decide +kernel
theorem dL_root_22 : decode cL_root 22 = .ok (.ireturn, 1) := by decide +kernel
theorem dL_root_23 : decode cL_root 23 = .ok (.iconst 0, 1) := by decide +kernel
theorem dL_root_24 : decode cL_root 24 = .ok (.ireturn, 1) := by decide +kernel
set_option maxRecDepth 20000 in
theorem ggL_isSpare_X5_isSpare : GoodIn wsL_isSpare wsX5_isSpare := goodIn_ca (goodIn_r _ [6, 7, 8, 9, 5, 10, 11, 12, 13, 14, 15, 16, 17, 18, 19, 20, 21, 22, 23, 24, 25, 26, 27, 28, 29, 30, 31, 32, 33, 34, 35, 36, 37, 38, 39, 40, 41] (by decide +kernel) (by decide +kernel)) (goodIn_sub (fun _ h => List.mem_cons_of_mem _ (List.mem_append_right _ h)) (by decide +kernel))
set_option maxRecDepth 20000 in
theorem gL_isSpare_X5_isSpare : GoodIn wsL_isSpare (wsV RL 28 RX5 yX5_isSpare wsX5_isSpare) := goodIn_app (goodIn_of _ (by decide +kernel)) ggL_isSpare_X5_isSpare
theorem dL_isSpare_0 : decode cL_isSpare 0 = .ok (.aload_n 3, 1) := by decide +kernel
theorem dL_isSpare_1 : decode cL_isSpare 1 = .ok (.iconst 0, 1) := by decide +kernel
theorem dL_isSpare_2 : decode cL_isSpare 2 = .ok (.aload_n 0, 1) := by decide +kernel
theorem dL_isSpare_3 : decode cL_isSpare 3 = .ok (.iload_n 1, 1) := by decide +kernel
theorem dL_isSpare_4 : decode cL_isSpare 4 = .ok (.iload_n 2, 1) := by decide +kernel
theorem dL_isSpare_5 : decode cL_isSpare 5 = .ok (.invokevirtual 28, 3) := by decide +kernel
theorem dL_isSpare_8 : decode cL_isSpare 8 = .ok (.ifCond .eq 7, 3) := by decide +kernel
theorem dL_isSpare_11 : decode cL_isSpare 11 = .ok (.lconst 1, 1) := by decide +kernel
theorem dL_isSpare_12 : decode cL_isSpare 12 = .ok (.goto 4, 3) := by decide +kernel
theorem dL_isSpare_15 : decode cL_isSpare 15 = .ok (.lconst 0, 1) := by decide +kernel
theorem dL_isSpare_16 : decode cL_isSpare 16 = .ok (.lastore, 1) := by decide +kernel
theorem dL_isSpare_17 : decode cL_isSpare 17 = .ok (.goto 7, 3) := by decide +kernel
theorem dL_isSpare_20 : decode cL_isSpare 20 = .ok (.astore 4, 2) := by decide +kernel
theorem dL_isSpare_22 : decode cL_isSpare 22 = .ok (.iconst 1, 1) := by decide +kernel
theorem dL_isSpare_23 : decode cL_isSpare 23 = .ok (.ireturn, 1) := by decide +kernel
theorem dL_isSpare_24 : decode cL_isSpare 24 = .ok (.iconst 0, 1) := by decide +kernel
theorem dL_isSpare_25 : decode cL_isSpare 25 = .ok (.ireturn, 1) := by decide +kernel
set_option maxRecDepth 20000 in
theorem ggL_areSame_X5_areSame : GoodIn wsL_areSame wsX5_areSame := goodIn_ca (goodIn_r _ [6, 7, 8, 9, 5, 10, 11, 12, 13, 14, 15, 16, 17, 18, 19, 20, 21, 22, 23, 24, 25, 26, 27, 28, 29, 30, 31, 32, 33, 34, 35, 36, 37, 38, 39, 40, 41, 42, 43, 44, 45, 46, 47, 48, 49] (by decide +kernel) (by decide +kernel)) (goodIn_sub (fun _ h => List.mem_cons_of_mem _ (List.mem_append_right _ h)) (by decide +kernel))
set_option maxRecDepth 20000 in
theorem gL_areSame_X5_areSame : GoodIn wsL_areSame (wsV RL 32 RX5 yX5_areSame wsX5_areSame) := goodIn_app (goodIn_of _ (by decide +kernel)) ggL_areSame_X5_areSame
theorem dL_areSame_0 : decode cL_areSame 0 = .ok (.aload_n 3, 1) := by decide +kernel
theorem dL_areSame_1 : decode cL_areSame 1 = .ok (.iconst 0, 1) := by decide +kernel
theorem dL_areSame_2 : decode cL_areSame 2 = .ok (.aload_n 0, 1) := by decide +kernel
theorem dL_areSame_3 : decode cL_areSame 3 = .ok (.iload_n 1, 1) := by decide +kernel
theorem dL_areSame_4 : decode cL_areSame 4 = .ok (.iload_n 2, 1) := by decide +kernel
theorem dL_areSame_5 : decode cL_areSame 5 = .ok (.invokevirtual 32, 3) := by decide +kernel
theorem dL_areSame_8 : decode cL_areSame 8 = .ok (.ifCond .eq 7, 3) := by decide +kernel
theorem dL_areSame_11 : decode cL_areSame 11 = .ok (.lconst 1, 1) := by decide +kernel
theorem dL_areSame_12 : decode cL_areSame 12 = .ok (.goto 4, 3) := by decide +kernel
theorem dL_areSame_15 : decode cL_areSame 15 = .ok (.lconst 0, 1) := by decide +kernel
theorem dL_areSame_16 : decode cL_areSame 16 = .ok (.lastore, 1) := by decide +kernel
theorem dL_areSame_17 : decode cL_areSame 17 = .ok (.goto 7, 3) := by decide +kernel
theorem dL_areSame_20 : decode cL_areSame 20 = .ok (.astore 4, 2) := by decide +kernel
theorem dL_areSame_22 : decode cL_areSame 22 = .ok (.iconst 1, 1) := by decide +kernel
theorem dL_areSame_23 : decode cL_areSame 23 = .ok (.ireturn, 1) := by decide +kernel
theorem dL_areSame_24 : decode cL_areSame 24 = .ok (.iconst 0, 1) := by decide +kernel
theorem dL_areSame_25 : decode cL_areSame 25 = .ok (.ireturn, 1) := by decide +kernel
set_option maxRecDepth 20000 in
theorem ggL_sum_X5_sum : GoodIn wsL_sum wsX5_sum := goodIn_ca (goodIn_r _ [6, 7, 8, 9, 10, 5, 11, 12, 13, 14, 15, 16, 17, 18, 19, 20, 21, 22, 23, 24, 25, 26, 27, 28, 29, 30, 31, 32, 33, 34, 35, 36, 37, 38, 39, 40, 41, 42, 43, 44, 45, 46, 47, 48, 49, 50, 51, 52, 53, 54] (by decide +kernel) (by decide +kernel)) (goodIn_sub (fun _ h => List.mem_cons_of_mem _ (List.mem_append_right _ h)) (by decide +kernel))
set_option maxRecDepth 20000 in
theorem gL_sum_X5_sum : GoodIn wsL_sum (wsV RL 35 RX5 yX5_sum wsX5_sum) := goodIn_app (goodIn_of _ (by decide +kernel)) ggL_sum_X5_sum
theorem dL_sum_0 : decode cL_sum 0 = .ok (.aload 4, 2) := by decide +kernel
theorem dL_sum_2 : decode cL_sum 2 = .ok (.iconst 0, 1) := by decide +kernel
theorem dL_sum_3 : decode cL_sum 3 = .ok (.aload_n 0, 1) := by decide +kernel
theorem dL_sum_4 : decode cL_sum 4 = .ok (.iload_n 1, 1) := by decide +kernel
theorem dL_sum_5 : decode cL_sum 5 = .ok (.iload_n 2, 1) := by decide +kernel
theorem dL_sum_6 : decode cL_sum 6 = .ok (.iload_n 3, 1) := by decide +kernel
theorem dL_sum_7 : decode cL_sum 7 = .ok (.invokevirtual 35, 3) := by decide +kernel
theorem dL_sum_10 : decode cL_sum 10 = .ok (.i2l, 1) := by decide +kernel
theorem dL_sum_11 : decode cL_sum 11 = .ok (.lastore, 1) := by decide +kernel
theorem dL_sum_12 : decode cL_sum 12 = .ok (.goto 7, 3) := by decide +kernel
theorem dL_sum_15 : decode cL_sum 15 = .ok (.astore 5, 2) := by decide +kernel
theorem dL_sum_17 : decode cL_sum 17 = .ok (.iconst 1, 1) := by decide +kernel
theorem dL_sum_18 : decode cL_sum 18 = .ok (.ireturn, 1) := by decide +kernel
theorem dL_sum_19 : decode cL_sum 19 = .ok (.iconst 0, 1) := by decide +kernel
theorem dL_sum_20 : decode cL_sum 20 = .ok (.ireturn, 1) := by decide +kernel
set_option maxRecDepth 20000 in
theorem ggL_product_X5_product : GoodIn wsL_product wsX5_product := goodIn_ca (goodIn_ca (goodIn_r _ [7, 8, 9, 10, 11, 12, 13, 6, 14, 15, 16, 17, 18, 19, 20, 21, 22, 23, 24, 25, 26, 27, 28, 29, 30, 31, 32, 33, 34, 35, 36, 37, 38, 39, 40, 41, 42, 43, 44, 45, 46, 47, 48, 49, 50, 51, 52, 53, 54, 55, 56, 57, 58, 59, 60, 61, 62, 63, 64, 65, 66, 67, 68, 69, 70] (by decide +kernel) (by decide +kernel)) (goodIn_sub (fun _ h => List.mem_cons_of_mem _ (List.mem_append_left _ (List.mem_append_right _ h))) (by decide +kernel))) (goodIn_sub (fun _ h => List.mem_cons_of_mem _ (List.mem_append_right _ h)) (by decide +kernel))
set_option maxRecDepth 20000 in
theorem gL_product_X5_product : GoodIn wsL_product (wsV RL 38 RX5 yX5_product wsX5_product) := goodIn_app (goodIn_of _ (by decide +kernel)) ggL_product_X5_product
theorem dL_product_0 : decode cL_product 0 = .ok (.aload 4, 2) := by decide +kernel
theorem dL_product_2 : decode cL_product 2 = .ok (.iconst 0, 1) := by decide +kernel
theorem dL_product_3 : decode cL_product 3 = .ok (.aload_n 0, 1) := by decide +kernel
theorem dL_product_4 : decode cL_product 4 = .ok (.iload_n 1, 1) := by decide +kernel
theorem dL_product_5 : decode cL_product 5 = .ok (.iload_n 2, 1) := by decide +kernel
theorem dL_product_6 : decode cL_product 6 = .ok (.iload_n 3, 1) := by decide +kernel
theorem dL_product_7 : decode cL_product 7 = .ok (.invokevirtual 38, 3) := by decide +kernel
theorem dL_product_10 : decode cL_product 10 = .ok (.i2l, 1) := by decide +kernel
theorem dL_product_11 : decode cL_product 11 = .ok (.lastore, 1) := by decide +kernel
theorem dL_product_12 : decode cL_product 12 = .ok (.goto 11, 3) := by decide +kernel
theorem dL_product_15 : decode cL_product 15 = .ok (.astore 5, 2) := by decide +kernel
theorem dL_product_17 : decode cL_product 17 = .ok (.iconst 1, 1) := by decide +kernel
theorem dL_product_18 : decode cL_product 18 = .ok (.ireturn, 1) := by decide +kernel
theorem dL_product_19 : decode cL_product 19 = .ok (.astore 5, 2) := by decide +kernel
theorem dL_product_21 : decode cL_product 21 = .ok (.iconst 2, 1) := by decide +kernel
theorem dL_product_22 : decode cL_product 22 = .ok (.ireturn, 1) := by decide +kernel
theorem dL_product_23 : decode cL_product 23 = .ok (.iconst 0, 1) := by decide +kernel
theorem dL_product_24 : decode cL_product 24 = .ok (.ireturn, 1) := by decide +kernel
set_option maxRecDepth 20000 in
theorem ggL_matrix_X5_matrix : GoodIn wsL_matrix wsX5_matrix := goodIn_ca (goodIn_ca (goodIn_r _ [7, 8, 9, 10, 6, 11, 12, 13, 14, 15, 16, 17, 18, 19, 20, 21, 22, 23, 24, 25, 26, 27, 28, 29, 30, 31, 32, 33, 34, 35, 36, 37, 38, 39, 40, 41, 42, 43, 44, 45] (by decide +kernel) (by decide +kernel)) (goodIn_sub (fun _ h => List.mem_cons_of_mem _ (List.mem_append_left _ (List.mem_append_right _ h))) (by decide +kernel))) (goodIn_sub (fun _ h => List.mem_cons_of_mem _ (List.mem_append_right _ h)) (by decide +kernel))
set_option maxRecDepth 20000 in
theorem gL_matrix_X5_matrix : GoodIn wsL_matrix (wsV RL 43 RX5 yX5_matrix wsX5_matrix) := goodIn_app (goodIn_of _ (by decide +kernel)) ggL_matrix_X5_matrix
theorem dL_matrix_0 : decode cL_matrix 0 = .ok (.aload_n 3, 1) := by decide +kernel
theorem dL_matrix_1 : decode cL_matrix 1 = .ok (.iconst 0, 1) := by decide +kernel
theorem dL_matrix_2 : decode cL_matrix 2 = .ok (.aload_n 0, 1) := by decide +kernel
theorem dL_matrix_3 : decode cL_matrix 3 = .ok (.iload_n 1, 1) := by decide +kernel
theorem dL_matrix_4 : decode cL_matrix 4 = .ok (.iload_n 2, 1) := by decide +kernel
theorem dL_matrix_5 : decode cL_matrix 5 = .ok (.invokevirtual 43, 3) := by decide +kernel
theorem dL_matrix_8 : decode cL_matrix 8 = .ok (.i2l, 1) := by decide +kernel
theorem dL_matrix_9 : decode cL_matrix 9 = .ok (.lastore, 1) := by decide +kernel
theorem dL_matrix_10 : decode cL_matrix 10 = .ok (.goto 11, 3) := by decide +kernel
theorem dL_matrix_13 : decode cL_matrix 13 = .ok (.astore 4, 2) := by decide +kernel
theorem dL_matrix_15 : decode cL_matrix 15 = .ok (.iconst 1, 1) := by decide +kernel
theorem dL_matrix_16 : decode cL_matrix 16 = .ok (.ireturn, 1) := by decide +kernel
theorem dL_matrix_17 : decode cL_matrix 17 = .ok (.astore 4, 2) := by decide +kernel
theorem dL_matrix_19 : decode cL_matrix 19 = .ok (.iconst 2, 1) := by decide +kernel
theorem dL_matrix_20 : decode cL_matrix 20 = .ok (.ireturn, 1) := by decide +kernel
theorem dL_matrix_21 : decode cL_matrix 21 = .ok (.iconst 0, 1) := by decide +kernel
theorem dL_matrix_22 : decode cL_matrix 22 = .ok (.ireturn, 1) := by decide +kernel
set_option maxRecDepth 20000 in
theorem ggL_entry_X5_entry : GoodIn wsL_entry wsX5_entry := goodIn_ca (goodIn_ca (goodIn_r _ [7, 8, 9, 10, 11, 6, 12, 13, 14, 15, 16, 17, 18, 19, 20, 21, 22, 23, 24, 25, 26, 27, 28, 29, 30, 31, 32, 33, 34, 35, 36, 37, 38, 39, 40, 41] (by decide +kernel) (by decide +kernel)) (goodIn_sub (fun _ h => List.mem_cons_of_mem _ (List.mem_append_left _ (List.mem_append_right _ h))) (by decide +kernel))) (goodIn_sub (fun _ h => List.mem_cons_of_mem _ (List.mem_append_right _ h)) (by decide +kernel))
set_option maxRecDepth 20000 in
theorem gL_entry_X5_entry : GoodIn wsL_entry (wsV RL 46 RX5 yX5_entry wsX5_entry) := goodIn_app (goodIn_of _ (by decide +kernel)) ggL_entry_X5_entry
theorem dL_entry_0 : decode cL_entry 0 = .ok (.aload 5, 2) := by decide +kernel
theorem dL_entry_2 : decode cL_entry 2 = .ok (.iconst 0, 1) := by decide +kernel
theorem dL_entry_3 : decode cL_entry 3 = .ok (.aload_n 0, 1) := by decide +kernel
theorem dL_entry_4 : decode cL_entry 4 = .ok (.iload_n 1, 1) := by decide +kernel
theorem dL_entry_5 : decode cL_entry 5 = .ok (.iload_n 2, 1) := by decide +kernel
theorem dL_entry_6 : decode cL_entry 6 = .ok (.iload_n 3, 1) := by decide +kernel
theorem dL_entry_7 : decode cL_entry 7 = .ok (.iload 4, 2) := by decide +kernel
theorem dL_entry_9 : decode cL_entry 9 = .ok (.invokevirtual 46, 3) := by decide +kernel
theorem dL_entry_12 : decode cL_entry 12 = .ok (.i2l, 1) := by decide +kernel
theorem dL_entry_13 : decode cL_entry 13 = .ok (.lastore, 1) := by decide +kernel
theorem dL_entry_14 : decode cL_entry 14 = .ok (.goto 11, 3) := by decide +kernel
theorem dL_entry_17 : decode cL_entry 17 = .ok (.astore 6, 2) := by decide +kernel
theorem dL_entry_19 : decode cL_entry 19 = .ok (.iconst 1, 1) := by decide +kernel
theorem dL_entry_20 : decode cL_entry 20 = .ok (.ireturn, 1) := by decide +kernel
theorem dL_entry_21 : decode cL_entry 21 = .ok (.astore 6, 2) := by decide +kernel
theorem dL_entry_23 : decode cL_entry 23 = .ok (.iconst 2, 1) := by decide +kernel
theorem dL_entry_24 : decode cL_entry 24 = .ok (.ireturn, 1) := by decide +kernel
theorem dL_entry_25 : decode cL_entry 25 = .ok (.iconst 0, 1) := by decide +kernel
theorem dL_entry_26 : decode cL_entry 26 = .ok (.ireturn, 1) := by decide +kernel
set_option maxRecDepth 20000 in
theorem ggL_at_X5_at : GoodIn wsL_at wsX5_at := goodIn_ca (goodIn_r _ [6, 7, 8, 9, 10, 5, 11, 12, 13, 14, 15, 16, 17, 18, 19, 20, 21, 22, 23, 24, 25, 26, 27, 28, 29, 30, 31] (by decide +kernel) (by decide +kernel)) (goodIn_sub (fun _ h => List.mem_cons_of_mem _ (List.mem_append_right _ h)) (by decide +kernel))
set_option maxRecDepth 20000 in
theorem gL_at_X5_at : GoodIn wsL_at (wsV RL 50 RX5 yX5_at wsX5_at) := goodIn_app (goodIn_of _ (by decide +kernel)) ggL_at_X5_at
theorem dL_at_0 : decode cL_at 0 = .ok (.aload 4, 2) := by decide +kernel
theorem dL_at_2 : decode cL_at 2 = .ok (.iconst 0, 1) := by decide +kernel
theorem dL_at_3 : decode cL_at 3 = .ok (.aload_n 0, 1) := by decide +kernel
theorem dL_at_4 : decode cL_at 4 = .ok (.iload_n 1, 1) := by decide +kernel
theorem dL_at_5 : decode cL_at 5 = .ok (.iload_n 2, 1) := by decide +kernel
theorem dL_at_6 : decode cL_at 6 = .ok (.iload_n 3, 1) := by decide +kernel
theorem dL_at_7 : decode cL_at 7 = .ok (.invokevirtual 50, 3) := by decide +kernel
theorem dL_at_10 : decode cL_at 10 = .ok (.i2l, 1) := by decide +kernel
theorem dL_at_11 : decode cL_at 11 = .ok (.lastore, 1) := by decide +kernel
theorem dL_at_12 : decode cL_at 12 = .ok (.goto 7, 3) := by decide +kernel
theorem dL_at_15 : decode cL_at 15 = .ok (.astore 5, 2) := by decide +kernel
theorem dL_at_17 : decode cL_at 17 = .ok (.iconst 1, 1) := by decide +kernel
theorem dL_at_18 : decode cL_at 18 = .ok (.ireturn, 1) := by decide +kernel
theorem dL_at_19 : decode cL_at 19 = .ok (.iconst 0, 1) := by decide +kernel
theorem dL_at_20 : decode cL_at 20 = .ok (.ireturn, 1) := by decide +kernel
set_option maxRecDepth 20000 in
theorem ggL_part_X5_part : GoodIn wsL_part wsX5_part := goodIn_ca (goodIn_ca (goodIn_r _ [7, 8, 9, 10, 6, 11, 12, 13, 14, 15, 16, 17, 18, 19, 20, 21, 22, 23, 24, 25, 26, 27, 28, 29, 30, 31, 32, 33, 34, 35] (by decide +kernel) (by decide +kernel)) (goodIn_sub (fun _ h => List.mem_cons_of_mem _ (List.mem_append_left _ (List.mem_append_right _ h))) (by decide +kernel))) (goodIn_sub (fun _ h => List.mem_cons_of_mem _ (List.mem_append_right _ h)) (by decide +kernel))
set_option maxRecDepth 20000 in
theorem gL_part_X5_part : GoodIn wsL_part (wsV RL 53 RX5 yX5_part wsX5_part) := goodIn_app (goodIn_of _ (by decide +kernel)) ggL_part_X5_part
theorem dL_part_0 : decode cL_part 0 = .ok (.aload 4, 2) := by decide +kernel
theorem dL_part_2 : decode cL_part 2 = .ok (.iconst 0, 1) := by decide +kernel
theorem dL_part_3 : decode cL_part 3 = .ok (.aload_n 0, 1) := by decide +kernel
theorem dL_part_4 : decode cL_part 4 = .ok (.iload_n 1, 1) := by decide +kernel
theorem dL_part_5 : decode cL_part 5 = .ok (.iload_n 2, 1) := by decide +kernel
theorem dL_part_6 : decode cL_part 6 = .ok (.iload_n 3, 1) := by decide +kernel
theorem dL_part_7 : decode cL_part 7 = .ok (.invokevirtual 53, 3) := by decide +kernel
theorem dL_part_10 : decode cL_part 10 = .ok (.i2l, 1) := by decide +kernel
theorem dL_part_11 : decode cL_part 11 = .ok (.lastore, 1) := by decide +kernel
theorem dL_part_12 : decode cL_part 12 = .ok (.goto 11, 3) := by decide +kernel
theorem dL_part_15 : decode cL_part 15 = .ok (.astore 5, 2) := by decide +kernel
theorem dL_part_17 : decode cL_part 17 = .ok (.iconst 1, 1) := by decide +kernel
theorem dL_part_18 : decode cL_part 18 = .ok (.ireturn, 1) := by decide +kernel
theorem dL_part_19 : decode cL_part 19 = .ok (.astore 5, 2) := by decide +kernel
theorem dL_part_21 : decode cL_part 21 = .ok (.iconst 2, 1) := by decide +kernel
theorem dL_part_22 : decode cL_part 22 = .ok (.ireturn, 1) := by decide +kernel
theorem dL_part_23 : decode cL_part 23 = .ok (.iconst 0, 1) := by decide +kernel
theorem dL_part_24 : decode cL_part 24 = .ok (.ireturn, 1) := by decide +kernel
set_option maxRecDepth 20000 in
theorem ggL_partAt_X5_partAt : GoodIn wsL_partAt wsX5_partAt := goodIn_ca (goodIn_r _ [6, 7, 8, 9, 5, 10, 11, 12, 13, 14, 15, 16, 17, 18, 19, 20, 21, 22, 23, 24, 25] (by decide +kernel) (by decide +kernel)) (goodIn_sub (fun _ h => List.mem_cons_of_mem _ (List.mem_append_right _ h)) (by decide +kernel))
set_option maxRecDepth 20000 in
theorem gL_partAt_X5_partAt : GoodIn wsL_partAt (wsV RL 56 RX5 yX5_partAt wsX5_partAt) := goodIn_app (goodIn_of _ (by decide +kernel)) ggL_partAt_X5_partAt
theorem dL_partAt_0 : decode cL_partAt 0 = .ok (.aload_n 3, 1) := by decide +kernel
theorem dL_partAt_1 : decode cL_partAt 1 = .ok (.iconst 0, 1) := by decide +kernel
theorem dL_partAt_2 : decode cL_partAt 2 = .ok (.aload_n 0, 1) := by decide +kernel
theorem dL_partAt_3 : decode cL_partAt 3 = .ok (.iload_n 1, 1) := by decide +kernel
theorem dL_partAt_4 : decode cL_partAt 4 = .ok (.iload_n 2, 1) := by decide +kernel
theorem dL_partAt_5 : decode cL_partAt 5 = .ok (.invokevirtual 56, 3) := by decide +kernel
theorem dL_partAt_8 : decode cL_partAt 8 = .ok (.i2l, 1) := by decide +kernel
theorem dL_partAt_9 : decode cL_partAt 9 = .ok (.lastore, 1) := by decide +kernel
theorem dL_partAt_10 : decode cL_partAt 10 = .ok (.goto 7, 3) := by decide +kernel
theorem dL_partAt_13 : decode cL_partAt 13 = .ok (.astore 4, 2) := by decide +kernel
theorem dL_partAt_15 : decode cL_partAt 15 = .ok (.iconst 1, 1) := by decide +kernel
theorem dL_partAt_16 : decode cL_partAt 16 = .ok (.ireturn, 1) := by decide +kernel
theorem dL_partAt_17 : decode cL_partAt 17 = .ok (.iconst 0, 1) := by decide +kernel
theorem dL_partAt_18 : decode cL_partAt 18 = .ok (.ireturn, 1) := by decide +kernel
set_option maxRecDepth 20000 in
theorem ggL_multiply_X5_multiply : GoodIn wsL_multiply wsX5_multiply := goodIn_ca (goodIn_ca (goodIn_r _ [7, 8, 9, 10, 11, 12, 13, 6, 14, 15, 16, 17, 18, 19, 20, 21, 22, 23, 24, 25, 26, 27, 28, 29, 30, 31, 32, 33, 34, 35, 36, 37, 38, 39, 40, 41, 42, 43, 44, 45, 46, 47, 48, 49, 50, 51, 52, 53, 54, 55, 56, 57, 58, 59, 60, 61, 62, 63, 64, 65, 66, 67, 68, 69] (by decide +kernel) (by decide +kernel)) (goodIn_sub (fun _ h => List.mem_cons_of_mem _ (List.mem_append_left _ (List.mem_append_right _ h))) (by decide +kernel))) (goodIn_sub (fun _ h => List.mem_cons_of_mem _ (List.mem_append_right _ h)) (by decide +kernel))
set_option maxRecDepth 20000 in
theorem gL_multiply_X5_multiply : GoodIn wsL_multiply (wsV RL 59 RX5 yX5_multiply wsX5_multiply) := goodIn_app (goodIn_of _ (by decide +kernel)) ggL_multiply_X5_multiply
theorem dL_multiply_0 : decode cL_multiply 0 = .ok (.aload 4, 2) := by decide +kernel
theorem dL_multiply_2 : decode cL_multiply 2 = .ok (.iconst 0, 1) := by decide +kernel
theorem dL_multiply_3 : decode cL_multiply 3 = .ok (.aload_n 0, 1) := by decide +kernel
theorem dL_multiply_4 : decode cL_multiply 4 = .ok (.iload_n 1, 1) := by decide +kernel
theorem dL_multiply_5 : decode cL_multiply 5 = .ok (.iload_n 2, 1) := by decide +kernel
theorem dL_multiply_6 : decode cL_multiply 6 = .ok (.iload_n 3, 1) := by decide +kernel
theorem dL_multiply_7 : decode cL_multiply 7 = .ok (.invokevirtual 59, 3) := by decide +kernel
theorem dL_multiply_10 : decode cL_multiply 10 = .ok (.i2l, 1) := by decide +kernel
theorem dL_multiply_11 : decode cL_multiply 11 = .ok (.lastore, 1) := by decide +kernel
theorem dL_multiply_12 : decode cL_multiply 12 = .ok (.goto 11, 3) := by decide +kernel
theorem dL_multiply_15 : decode cL_multiply 15 = .ok (.astore 5, 2) := by decide +kernel
theorem dL_multiply_17 : decode cL_multiply 17 = .ok (.iconst 1, 1) := by decide +kernel
theorem dL_multiply_18 : decode cL_multiply 18 = .ok (.ireturn, 1) := by decide +kernel
theorem dL_multiply_19 : decode cL_multiply 19 = .ok (.astore 5, 2) := by decide +kernel
theorem dL_multiply_21 : decode cL_multiply 21 = .ok (.iconst 2, 1) := by decide +kernel
theorem dL_multiply_22 : decode cL_multiply 22 = .ok (.ireturn, 1) := by decide +kernel
theorem dL_multiply_23 : decode cL_multiply 23 = .ok (.iconst 0, 1) := by decide +kernel
theorem dL_multiply_24 : decode cL_multiply 24 = .ok (.ireturn, 1) := by decide +kernel
set_option maxRecDepth 20000 in
theorem ggL_star_X5_star : GoodIn wsL_star wsX5_star := goodIn_ca (goodIn_ca (goodIn_r _ [7, 8, 9, 10, 11, 12, 13, 6, 14, 15, 16, 17, 18, 19, 20, 21, 22, 23, 24, 25, 26, 27, 28, 29, 30, 31, 32, 33, 34, 35, 36, 37, 38, 39, 40, 41, 42, 43, 44, 45, 46, 47, 48, 49, 50, 51, 52, 53, 54, 55, 56, 57, 58, 59, 60, 61, 62, 63, 64, 65, 66, 67, 68, 69, 70, 71, 72, 73] (by decide +kernel) (by decide +kernel)) (goodIn_sub (fun _ h => List.mem_cons_of_mem _ (List.mem_append_left _ (List.mem_append_right _ h))) (by decide +kernel))) (goodIn_sub (fun _ h => List.mem_cons_of_mem _ (List.mem_append_right _ h)) (by decide +kernel))
set_option maxRecDepth 20000 in
theorem gL_star_X5_star : GoodIn wsL_star (wsV RL 62 RX5 yX5_star wsX5_star) := goodIn_app (goodIn_of _ (by decide +kernel)) ggL_star_X5_star
theorem dL_star_0 : decode cL_star 0 = .ok (.aload_n 3, 1) := by decide +kernel
theorem dL_star_1 : decode cL_star 1 = .ok (.iconst 0, 1) := by decide +kernel
theorem dL_star_2 : decode cL_star 2 = .ok (.aload_n 0, 1) := by decide +kernel
theorem dL_star_3 : decode cL_star 3 = .ok (.iload_n 1, 1) := by decide +kernel
theorem dL_star_4 : decode cL_star 4 = .ok (.iload_n 2, 1) := by decide +kernel
theorem dL_star_5 : decode cL_star 5 = .ok (.invokevirtual 62, 3) := by decide +kernel
theorem dL_star_8 : decode cL_star 8 = .ok (.i2l, 1) := by decide +kernel
theorem dL_star_9 : decode cL_star 9 = .ok (.lastore, 1) := by decide +kernel
theorem dL_star_10 : decode cL_star 10 = .ok (.goto 11, 3) := by decide +kernel
theorem dL_star_13 : decode cL_star 13 = .ok (.astore 4, 2) := by decide +kernel
theorem dL_star_15 : decode cL_star 15 = .ok (.iconst 1, 1) := by decide +kernel
theorem dL_star_16 : decode cL_star 16 = .ok (.ireturn, 1) := by decide +kernel
theorem dL_star_17 : decode cL_star 17 = .ok (.astore 4, 2) := by decide +kernel
theorem dL_star_19 : decode cL_star 19 = .ok (.iconst 2, 1) := by decide +kernel
theorem dL_star_20 : decode cL_star 20 = .ok (.ireturn, 1) := by decide +kernel
theorem dL_star_21 : decode cL_star 21 = .ok (.iconst 0, 1) := by decide +kernel
theorem dL_star_22 : decode cL_star 22 = .ok (.ireturn, 1) := by decide +kernel
set_option maxRecDepth 20000 in
theorem ggL_mean_X5_mean : GoodIn wsL_mean wsX5_mean := goodIn_ca (goodIn_ca (goodIn_r _ [7, 8, 9, 10, 11, 6, 12, 13, 14, 15, 16, 17, 18, 19, 20, 21, 22, 23, 24, 25, 26, 27, 28, 29, 30, 31, 32, 33, 34, 35, 36, 37, 38, 39, 40, 41, 42, 43, 44, 45, 46, 47, 48, 49, 50, 51, 52, 53, 54, 55, 56, 57, 58, 59, 60, 61, 62, 63, 64, 65, 66, 67, 68, 69, 70, 71, 72, 73, 74, 75, 76, 77, 78, 79, 80] (by decide +kernel) (by decide +kernel)) (goodIn_sub (fun _ h => List.mem_cons_of_mem _ (List.mem_append_left _ (List.mem_append_right _ h))) (by decide +kernel))) (goodIn_sub (fun _ h => List.mem_cons_of_mem _ (List.mem_append_right _ h)) (by decide +kernel))
set_option maxRecDepth 20000 in
theorem gL_mean_X5_mean : GoodIn wsL_mean (wsV RL 65 RX5 yX5_mean wsX5_mean) := goodIn_app (goodIn_of _ (by decide +kernel)) ggL_mean_X5_mean
theorem dL_mean_0 : decode cL_mean 0 = .ok (.aload_n 3, 1) := by decide +kernel
theorem dL_mean_1 : decode cL_mean 1 = .ok (.iconst 0, 1) := by decide +kernel
theorem dL_mean_2 : decode cL_mean 2 = .ok (.aload_n 0, 1) := by decide +kernel
theorem dL_mean_3 : decode cL_mean 3 = .ok (.iload_n 1, 1) := by decide +kernel
theorem dL_mean_4 : decode cL_mean 4 = .ok (.iload_n 2, 1) := by decide +kernel
theorem dL_mean_5 : decode cL_mean 5 = .ok (.invokevirtual 65, 3) := by decide +kernel
theorem dL_mean_8 : decode cL_mean 8 = .ok (.i2l, 1) := by decide +kernel
theorem dL_mean_9 : decode cL_mean 9 = .ok (.lastore, 1) := by decide +kernel
theorem dL_mean_10 : decode cL_mean 10 = .ok (.goto 11, 3) := by decide +kernel
theorem dL_mean_13 : decode cL_mean 13 = .ok (.astore 4, 2) := by decide +kernel
theorem dL_mean_15 : decode cL_mean 15 = .ok (.iconst 1, 1) := by decide +kernel
theorem dL_mean_16 : decode cL_mean 16 = .ok (.ireturn, 1) := by decide +kernel
theorem dL_mean_17 : decode cL_mean 17 = .ok (.astore 4, 2) := by decide +kernel
theorem dL_mean_19 : decode cL_mean 19 = .ok (.iconst 2, 1) := by decide +kernel
theorem dL_mean_20 : decode cL_mean 20 = .ok (.ireturn, 1) := by decide +kernel
theorem dL_mean_21 : decode cL_mean 21 = .ok (.iconst 0, 1) := by decide +kernel
theorem dL_mean_22 : decode cL_mean 22 = .ok (.ireturn, 1) := by decide +kernel
set_option maxRecDepth 20000 in
theorem ggL_determinant_X5_determinant : GoodIn wsL_determinant wsX5_determinant := goodIn_ca (goodIn_r _ [6, 7, 8, 9, 10, 5, 11, 12, 13, 14, 15, 16, 17, 18, 19, 20, 21, 22, 23, 24, 25, 26, 27, 28, 29, 30, 31, 32, 33, 34, 35, 36, 37, 38, 39, 40, 41, 42, 43, 44, 45, 46, 47, 48, 49, 50, 51, 52, 53, 54, 55, 56] (by decide +kernel) (by decide +kernel)) (goodIn_sub (fun _ h => List.mem_cons_of_mem _ (List.mem_append_right _ h)) (by decide +kernel))
set_option maxRecDepth 20000 in
theorem gL_determinant_X5_determinant : GoodIn wsL_determinant (wsV RL 68 RX5 yX5_determinant wsX5_determinant) := goodIn_app (goodIn_of _ (by decide +kernel)) ggL_determinant_X5_determinant
theorem dL_determinant_0 : decode cL_determinant 0 = .ok (.aload_n 2, 1) := by decide +kernel
theorem dL_determinant_1 : decode cL_determinant 1 = .ok (.iconst 0, 1) := by decide +kernel
theorem dL_determinant_2 : decode cL_determinant 2 = .ok (.aload_n 0, 1) := by decide +kernel
theorem dL_determinant_3 : decode cL_determinant 3 = .ok (.iload_n 1, 1) := by decide +kernel
theorem dL_determinant_4 : decode cL_determinant 4 = .ok (.invokevirtual 68, 3) := by decide +kernel
theorem dL_determinant_7 : decode cL_determinant 7 = .ok (.i2l, 1) := by decide +kernel
theorem dL_determinant_8 : decode cL_determinant 8 = .ok (.lastore, 1) := by decide +kernel
theorem dL_determinant_9 : decode cL_determinant 9 = .ok (.goto 6, 3) := by decide +kernel
theorem dL_determinant_12 : decode cL_determinant 12 = .ok (.astore_n 3, 1) := by decide +kernel
theorem dL_determinant_13 : decode cL_determinant 13 = .ok (.iconst 1, 1) := by decide +kernel
theorem dL_determinant_14 : decode cL_determinant 14 = .ok (.ireturn, 1) := by decide +kernel
theorem dL_determinant_15 : decode cL_determinant 15 = .ok (.iconst 0, 1) := by decide +kernel
theorem dL_determinant_16 : decode cL_determinant 16 = .ok (.ireturn, 1) := by decide +kernel
set_option maxRecDepth 20000 in
theorem ggL_ways_X5_ways : GoodIn wsL_ways wsX5_ways := goodIn_ca (goodIn_r _ [6, 7, 8, 9, 10, 5, 11, 12, 13, 14, 15, 16, 17, 18, 19, 20, 21, 22, 23, 24, 25, 26, 27, 28, 29, 30, 31, 32, 33, 34, 35, 36, 37, 38, 39, 40, 41, 42, 43, 44, 45, 46, 47, 48, 49, 50, 51, 52, 53, 54, 55, 56] (by decide +kernel) (by decide +kernel)) (goodIn_sub (fun _ h => List.mem_cons_of_mem _ (List.mem_append_right _ h)) (by decide +kernel))
set_option maxRecDepth 20000 in
theorem gL_ways_X5_ways : GoodIn wsL_ways (wsV RL 71 RX5 yX5_ways wsX5_ways) := goodIn_app (goodIn_of _ (by decide +kernel)) ggL_ways_X5_ways
theorem dL_ways_0 : decode cL_ways 0 = .ok (.aload_n 2, 1) := by decide +kernel
theorem dL_ways_1 : decode cL_ways 1 = .ok (.iconst 0, 1) := by decide +kernel
theorem dL_ways_2 : decode cL_ways 2 = .ok (.aload_n 0, 1) := by decide +kernel
theorem dL_ways_3 : decode cL_ways 3 = .ok (.iload_n 1, 1) := by decide +kernel
theorem dL_ways_4 : decode cL_ways 4 = .ok (.invokevirtual 71, 3) := by decide +kernel
theorem dL_ways_7 : decode cL_ways 7 = .ok (.i2l, 1) := by decide +kernel
theorem dL_ways_8 : decode cL_ways 8 = .ok (.lastore, 1) := by decide +kernel
theorem dL_ways_9 : decode cL_ways 9 = .ok (.goto 6, 3) := by decide +kernel
theorem dL_ways_12 : decode cL_ways 12 = .ok (.astore_n 3, 1) := by decide +kernel
theorem dL_ways_13 : decode cL_ways 13 = .ok (.iconst 1, 1) := by decide +kernel
theorem dL_ways_14 : decode cL_ways 14 = .ok (.ireturn, 1) := by decide +kernel
theorem dL_ways_15 : decode cL_ways 15 = .ok (.iconst 0, 1) := by decide +kernel
theorem dL_ways_16 : decode cL_ways 16 = .ok (.ireturn, 1) := by decide +kernel
set_option maxRecDepth 20000 in
theorem ggL_solve_X5_solve : GoodIn wsL_solve wsX5_solve := goodIn_ca (goodIn_ca (goodIn_r _ [7, 8, 9, 10, 11, 12, 13, 14, 15, 16, 17, 18, 6, 19, 20, 21, 22, 23, 24, 25, 26, 27, 28, 29, 30, 31, 32, 33, 34, 35, 36, 37, 38, 39, 40, 41, 42, 43, 44, 45, 46, 47, 48, 49, 50, 51, 52, 53, 54, 55, 56, 57, 58, 59, 60, 61, 62, 63, 64, 65, 66, 67, 68] (by decide +kernel) (by decide +kernel)) (goodIn_sub (fun _ h => List.mem_cons_of_mem _ (List.mem_append_left _ (List.mem_append_right _ h))) (by decide +kernel))) (goodIn_sub (fun _ h => List.mem_cons_of_mem _ (List.mem_append_right _ h)) (by decide +kernel))
set_option maxRecDepth 20000 in
theorem gL_solve_X5_solve : GoodIn wsL_solve (wsV RL 74 RX5 yX5_solve wsX5_solve) := goodIn_app (goodIn_of _ (by decide +kernel)) ggL_solve_X5_solve
theorem dL_solve_0 : decode cL_solve 0 = .ok (.aload 4, 2) := by decide +kernel
theorem dL_solve_2 : decode cL_solve 2 = .ok (.iconst 0, 1) := by decide +kernel
theorem dL_solve_3 : decode cL_solve 3 = .ok (.aload_n 0, 1) := by decide +kernel
theorem dL_solve_4 : decode cL_solve 4 = .ok (.iload_n 1, 1) := by decide +kernel
theorem dL_solve_5 : decode cL_solve 5 = .ok (.iload_n 2, 1) := by decide +kernel
theorem dL_solve_6 : decode cL_solve 6 = .ok (.iload_n 3, 1) := by decide +kernel
theorem dL_solve_7 : decode cL_solve 7 = .ok (.invokevirtual 74, 3) := by decide +kernel
theorem dL_solve_10 : decode cL_solve 10 = .ok (.ifCond .eq 7, 3) := by decide +kernel
theorem dL_solve_13 : decode cL_solve 13 = .ok (.lconst 1, 1) := by decide +kernel
theorem dL_solve_14 : decode cL_solve 14 = .ok (.goto 4, 3) := by decide +kernel
theorem dL_solve_17 : decode cL_solve 17 = .ok (.lconst 0, 1) := by decide +kernel
theorem dL_solve_18 : decode cL_solve 18 = .ok (.lastore, 1) := by decide +kernel
theorem dL_solve_19 : decode cL_solve 19 = .ok (.goto 11, 3) := by decide +kernel
theorem dL_solve_22 : decode cL_solve 22 = .ok (.astore 5, 2) := by decide +kernel
theorem dL_solve_24 : decode cL_solve 24 = .ok (.iconst 1, 1) := by decide +kernel
theorem dL_solve_25 : decode cL_solve 25 = .ok (.ireturn, 1) := by decide +kernel
theorem dL_solve_26 : decode cL_solve 26 = .ok (.astore 5, 2) := by decide +kernel
theorem dL_solve_28 : decode cL_solve 28 = .ok (.iconst 2, 1) := by decide +kernel
theorem dL_solve_29 : decode cL_solve 29 = .ok (.ireturn, 1) := by decide +kernel
theorem dL_solve_30 : decode cL_solve 30 = .ok (.iconst 0, 1) := by decide +kernel
theorem dL_solve_31 : decode cL_solve 31 = .ok (.ireturn, 1) := by decide +kernel
set_option maxRecDepth 20000 in
theorem ggL_project_X5_project : GoodIn wsL_project wsX5_project := goodIn_ca (goodIn_ca (goodIn_r _ [7, 8, 9, 10, 11, 12, 13, 14, 15, 16, 17, 18, 6, 19, 20, 21, 22, 23, 24, 25, 26, 27, 28, 29, 30, 31, 32, 33, 34, 35, 36, 37, 38, 39, 40, 41, 42, 43, 44, 45, 46, 47, 48, 49, 50, 51, 52, 53, 54, 55, 56, 57, 58, 59, 60, 61, 62, 63, 64, 65, 66, 67, 68, 69, 70, 71, 72, 73, 74, 75, 76, 77] (by decide +kernel) (by decide +kernel)) (goodIn_sub (fun _ h => List.mem_cons_of_mem _ (List.mem_append_left _ (List.mem_append_right _ h))) (by decide +kernel))) (goodIn_sub (fun _ h => List.mem_cons_of_mem _ (List.mem_append_right _ h)) (by decide +kernel))
set_option maxRecDepth 20000 in
theorem gL_project_X5_project : GoodIn wsL_project (wsV RL 78 RX5 yX5_project wsX5_project) := goodIn_app (goodIn_of _ (by decide +kernel)) ggL_project_X5_project
theorem dL_project_0 : decode cL_project 0 = .ok (.aload 4, 2) := by decide +kernel
theorem dL_project_2 : decode cL_project 2 = .ok (.iconst 0, 1) := by decide +kernel
theorem dL_project_3 : decode cL_project 3 = .ok (.aload_n 0, 1) := by decide +kernel
theorem dL_project_4 : decode cL_project 4 = .ok (.iload_n 1, 1) := by decide +kernel
theorem dL_project_5 : decode cL_project 5 = .ok (.iload_n 2, 1) := by decide +kernel
theorem dL_project_6 : decode cL_project 6 = .ok (.iload_n 3, 1) := by decide +kernel
theorem dL_project_7 : decode cL_project 7 = .ok (.invokevirtual 78, 3) := by decide +kernel
theorem dL_project_10 : decode cL_project 10 = .ok (.ifCond .eq 7, 3) := by decide +kernel
theorem dL_project_13 : decode cL_project 13 = .ok (.lconst 1, 1) := by decide +kernel
theorem dL_project_14 : decode cL_project 14 = .ok (.goto 4, 3) := by decide +kernel
theorem dL_project_17 : decode cL_project 17 = .ok (.lconst 0, 1) := by decide +kernel
theorem dL_project_18 : decode cL_project 18 = .ok (.lastore, 1) := by decide +kernel
theorem dL_project_19 : decode cL_project 19 = .ok (.goto 11, 3) := by decide +kernel
theorem dL_project_22 : decode cL_project 22 = .ok (.astore 5, 2) := by decide +kernel
theorem dL_project_24 : decode cL_project 24 = .ok (.iconst 1, 1) := by decide +kernel
theorem dL_project_25 : decode cL_project 25 = .ok (.ireturn, 1) := by decide +kernel
theorem dL_project_26 : decode cL_project 26 = .ok (.astore 5, 2) := by decide +kernel
theorem dL_project_28 : decode cL_project 28 = .ok (.iconst 2, 1) := by decide +kernel
theorem dL_project_29 : decode cL_project 29 = .ok (.ireturn, 1) := by decide +kernel
theorem dL_project_30 : decode cL_project 30 = .ok (.iconst 0, 1) := by decide +kernel
theorem dL_project_31 : decode cL_project 31 = .ok (.ireturn, 1) := by decide +kernel
set_option maxRecDepth 20000 in
theorem ggL_tree_X5_tree : GoodIn wsL_tree wsX5_tree := goodIn_ca (goodIn_r _ [6, 7, 8, 9, 5, 10, 11, 12, 13, 14, 15, 16, 17, 18, 19, 20, 21, 22, 23, 24, 25, 26, 27, 28, 29, 30, 31, 32, 33, 34, 35, 36, 37, 38, 39, 40, 41, 42, 43, 44, 45, 46, 47, 48, 49, 50, 51] (by decide +kernel) (by decide +kernel)) (goodIn_sub (fun _ h => List.mem_cons_of_mem _ (List.mem_append_right _ h)) (by decide +kernel))
set_option maxRecDepth 20000 in
theorem gL_tree_X5_tree : GoodIn wsL_tree (wsV RL 81 RX5 yX5_tree wsX5_tree) := goodIn_app (goodIn_of _ (by decide +kernel)) ggL_tree_X5_tree
theorem dL_tree_0 : decode cL_tree 0 = .ok (.aload_n 2, 1) := by decide +kernel
theorem dL_tree_1 : decode cL_tree 1 = .ok (.iconst 0, 1) := by decide +kernel
theorem dL_tree_2 : decode cL_tree 2 = .ok (.aload_n 0, 1) := by decide +kernel
theorem dL_tree_3 : decode cL_tree 3 = .ok (.iload_n 1, 1) := by decide +kernel
theorem dL_tree_4 : decode cL_tree 4 = .ok (.invokevirtual 81, 3) := by decide +kernel
theorem dL_tree_7 : decode cL_tree 7 = .ok (.i2l, 1) := by decide +kernel
theorem dL_tree_8 : decode cL_tree 8 = .ok (.lastore, 1) := by decide +kernel
theorem dL_tree_9 : decode cL_tree 9 = .ok (.goto 6, 3) := by decide +kernel
theorem dL_tree_12 : decode cL_tree 12 = .ok (.astore_n 3, 1) := by decide +kernel
theorem dL_tree_13 : decode cL_tree 13 = .ok (.iconst 1, 1) := by decide +kernel
theorem dL_tree_14 : decode cL_tree 14 = .ok (.ireturn, 1) := by decide +kernel
theorem dL_tree_15 : decode cL_tree 15 = .ok (.iconst 0, 1) := by decide +kernel
theorem dL_tree_16 : decode cL_tree 16 = .ok (.ireturn, 1) := by decide +kernel
set_option maxRecDepth 20000 in
theorem ggL_edges_X5_edges : GoodIn wsL_edges wsX5_edges := goodIn_ca (goodIn_ca (goodIn_r _ [7, 8, 9, 10, 11, 12, 6, 13, 14, 15, 16, 17, 18, 19, 20, 21, 22, 23, 24, 25, 26, 27, 28, 29, 30, 31, 32, 33] (by decide +kernel) (by decide +kernel)) (goodIn_sub (fun _ h => List.mem_cons_of_mem _ (List.mem_append_left _ (List.mem_append_right _ h))) (by decide +kernel))) (goodIn_sub (fun _ h => List.mem_cons_of_mem _ (List.mem_append_right _ h)) (by decide +kernel))
set_option maxRecDepth 20000 in
theorem gL_edges_X5_edges : GoodIn wsL_edges (wsV RL 84 RX5 yX5_edges wsX5_edges) := goodIn_app (goodIn_of _ (by decide +kernel)) ggL_edges_X5_edges
theorem dL_edges_0 : decode cL_edges 0 = .ok (.aload 4, 2) := by decide +kernel
theorem dL_edges_2 : decode cL_edges 2 = .ok (.iconst 0, 1) := by decide +kernel
theorem dL_edges_3 : decode cL_edges 3 = .ok (.aload_n 0, 1) := by decide +kernel
theorem dL_edges_4 : decode cL_edges 4 = .ok (.iload_n 1, 1) := by decide +kernel
theorem dL_edges_5 : decode cL_edges 5 = .ok (.iload_n 2, 1) := by decide +kernel
theorem dL_edges_6 : decode cL_edges 6 = .ok (.iload_n 3, 1) := by decide +kernel
theorem dL_edges_7 : decode cL_edges 7 = .ok (.invokevirtual 84, 3) := by decide +kernel
theorem dL_edges_10 : decode cL_edges 10 = .ok (.i2l, 1) := by decide +kernel
theorem dL_edges_11 : decode cL_edges 11 = .ok (.lastore, 1) := by decide +kernel
theorem dL_edges_12 : decode cL_edges 12 = .ok (.goto 11, 3) := by decide +kernel
theorem dL_edges_15 : decode cL_edges 15 = .ok (.astore 5, 2) := by decide +kernel
theorem dL_edges_17 : decode cL_edges 17 = .ok (.iconst 1, 1) := by decide +kernel
theorem dL_edges_18 : decode cL_edges 18 = .ok (.ireturn, 1) := by decide +kernel
theorem dL_edges_19 : decode cL_edges 19 = .ok (.astore 5, 2) := by decide +kernel
theorem dL_edges_21 : decode cL_edges 21 = .ok (.iconst 2, 1) := by decide +kernel
theorem dL_edges_22 : decode cL_edges 22 = .ok (.ireturn, 1) := by decide +kernel
theorem dL_edges_23 : decode cL_edges 23 = .ok (.iconst 0, 1) := by decide +kernel
theorem dL_edges_24 : decode cL_edges 24 = .ok (.ireturn, 1) := by decide +kernel
set_option maxRecDepth 20000 in
theorem ggL_chips_X5_chips : GoodIn wsL_chips wsX5_chips := goodIn_ca (goodIn_ca (goodIn_r _ [7, 8, 9, 10, 6, 11, 12, 13, 14, 15, 16, 17, 18, 19, 20, 21, 22, 23, 24, 25, 26, 27, 28, 29, 30, 31, 32, 33] (by decide +kernel) (by decide +kernel)) (goodIn_sub (fun _ h => List.mem_cons_of_mem _ (List.mem_append_left _ (List.mem_append_right _ h))) (by decide +kernel))) (goodIn_sub (fun _ h => List.mem_cons_of_mem _ (List.mem_append_right _ h)) (by decide +kernel))
set_option maxRecDepth 20000 in
theorem gL_chips_X5_chips : GoodIn wsL_chips (wsV RL 87 RX5 yX5_chips wsX5_chips) := goodIn_app (goodIn_of _ (by decide +kernel)) ggL_chips_X5_chips
theorem dL_chips_0 : decode cL_chips 0 = .ok (.aload_n 3, 1) := by decide +kernel
theorem dL_chips_1 : decode cL_chips 1 = .ok (.iconst 0, 1) := by decide +kernel
theorem dL_chips_2 : decode cL_chips 2 = .ok (.aload_n 0, 1) := by decide +kernel
theorem dL_chips_3 : decode cL_chips 3 = .ok (.iload_n 1, 1) := by decide +kernel
theorem dL_chips_4 : decode cL_chips 4 = .ok (.iload_n 2, 1) := by decide +kernel
theorem dL_chips_5 : decode cL_chips 5 = .ok (.invokevirtual 87, 3) := by decide +kernel
theorem dL_chips_8 : decode cL_chips 8 = .ok (.i2l, 1) := by decide +kernel
theorem dL_chips_9 : decode cL_chips 9 = .ok (.lastore, 1) := by decide +kernel
theorem dL_chips_10 : decode cL_chips 10 = .ok (.goto 11, 3) := by decide +kernel
theorem dL_chips_13 : decode cL_chips 13 = .ok (.astore 4, 2) := by decide +kernel
theorem dL_chips_15 : decode cL_chips 15 = .ok (.iconst 1, 1) := by decide +kernel
theorem dL_chips_16 : decode cL_chips 16 = .ok (.ireturn, 1) := by decide +kernel
theorem dL_chips_17 : decode cL_chips 17 = .ok (.astore 4, 2) := by decide +kernel
theorem dL_chips_19 : decode cL_chips 19 = .ok (.iconst 2, 1) := by decide +kernel
theorem dL_chips_20 : decode cL_chips 20 = .ok (.ireturn, 1) := by decide +kernel
theorem dL_chips_21 : decode cL_chips 21 = .ok (.iconst 0, 1) := by decide +kernel
theorem dL_chips_22 : decode cL_chips 22 = .ok (.ireturn, 1) := by decide +kernel
set_option maxRecDepth 20000 in
theorem ggL_chipsAt_X5_chipsAt : GoodIn wsL_chipsAt wsX5_chipsAt := goodIn_ca (goodIn_r _ [6, 7, 8, 9, 5, 10, 11, 12, 13, 14, 15, 16, 17, 18, 19, 20, 21, 22, 23, 24, 25, 26, 27] (by decide +kernel) (by decide +kernel)) (goodIn_sub (fun _ h => List.mem_cons_of_mem _ (List.mem_append_right _ h)) (by decide +kernel))
set_option maxRecDepth 20000 in
theorem gL_chipsAt_X5_chipsAt : GoodIn wsL_chipsAt (wsV RL 90 RX5 yX5_chipsAt wsX5_chipsAt) := goodIn_app (goodIn_of _ (by decide +kernel)) ggL_chipsAt_X5_chipsAt
theorem dL_chipsAt_0 : decode cL_chipsAt 0 = .ok (.aload_n 2, 1) := by decide +kernel
theorem dL_chipsAt_1 : decode cL_chipsAt 1 = .ok (.iconst 0, 1) := by decide +kernel
theorem dL_chipsAt_2 : decode cL_chipsAt 2 = .ok (.aload_n 0, 1) := by decide +kernel
theorem dL_chipsAt_3 : decode cL_chipsAt 3 = .ok (.iload_n 1, 1) := by decide +kernel
theorem dL_chipsAt_4 : decode cL_chipsAt 4 = .ok (.invokevirtual 90, 3) := by decide +kernel
theorem dL_chipsAt_7 : decode cL_chipsAt 7 = .ok (.i2l, 1) := by decide +kernel
theorem dL_chipsAt_8 : decode cL_chipsAt 8 = .ok (.lastore, 1) := by decide +kernel
theorem dL_chipsAt_9 : decode cL_chipsAt 9 = .ok (.goto 6, 3) := by decide +kernel
theorem dL_chipsAt_12 : decode cL_chipsAt 12 = .ok (.astore_n 3, 1) := by decide +kernel
theorem dL_chipsAt_13 : decode cL_chipsAt 13 = .ok (.iconst 1, 1) := by decide +kernel
theorem dL_chipsAt_14 : decode cL_chipsAt 14 = .ok (.ireturn, 1) := by decide +kernel
theorem dL_chipsAt_15 : decode cL_chipsAt 15 = .ok (.iconst 0, 1) := by decide +kernel
theorem dL_chipsAt_16 : decode cL_chipsAt 16 = .ok (.ireturn, 1) := by decide +kernel
set_option maxRecDepth 20000 in
theorem ggL_fire_X5_fire : GoodIn wsL_fire wsX5_fire := goodIn_ca (goodIn_ca (goodIn_r _ [7, 8, 9, 10, 11, 12, 13, 14, 15, 16, 6, 17, 18, 19, 20, 21, 22, 23, 24, 25, 26, 27, 28, 29, 30, 31, 32, 33, 34, 35, 36, 37, 38, 39, 40, 41, 42, 43, 44, 45, 46, 47, 48, 49, 50, 51, 52, 53, 54, 55, 56, 57, 58, 59, 60, 61, 62, 63, 64, 65, 66] (by decide +kernel) (by decide +kernel)) (goodIn_sub (fun _ h => List.mem_cons_of_mem _ (List.mem_append_left _ (List.mem_append_right _ h))) (by decide +kernel))) (goodIn_sub (fun _ h => List.mem_cons_of_mem _ (List.mem_append_right _ h)) (by decide +kernel))
set_option maxRecDepth 20000 in
theorem gL_fire_X5_fire : GoodIn wsL_fire (wsV RL 93 RX5 yX5_fire wsX5_fire) := goodIn_app (goodIn_of _ (by decide +kernel)) ggL_fire_X5_fire
theorem dL_fire_0 : decode cL_fire 0 = .ok (.aload_n 2, 1) := by decide +kernel
theorem dL_fire_1 : decode cL_fire 1 = .ok (.iconst 0, 1) := by decide +kernel
theorem dL_fire_2 : decode cL_fire 2 = .ok (.aload_n 0, 1) := by decide +kernel
theorem dL_fire_3 : decode cL_fire 3 = .ok (.iload_n 1, 1) := by decide +kernel
theorem dL_fire_4 : decode cL_fire 4 = .ok (.invokevirtual 93, 3) := by decide +kernel
theorem dL_fire_7 : decode cL_fire 7 = .ok (.i2l, 1) := by decide +kernel
theorem dL_fire_8 : decode cL_fire 8 = .ok (.lastore, 1) := by decide +kernel
theorem dL_fire_9 : decode cL_fire 9 = .ok (.goto 9, 3) := by decide +kernel
theorem dL_fire_12 : decode cL_fire 12 = .ok (.astore_n 3, 1) := by decide +kernel
theorem dL_fire_13 : decode cL_fire 13 = .ok (.iconst 1, 1) := by decide +kernel
theorem dL_fire_14 : decode cL_fire 14 = .ok (.ireturn, 1) := by decide +kernel
theorem dL_fire_15 : decode cL_fire 15 = .ok (.astore_n 3, 1) := by decide +kernel
theorem dL_fire_16 : decode cL_fire 16 = .ok (.iconst 2, 1) := by decide +kernel
theorem dL_fire_17 : decode cL_fire 17 = .ok (.ireturn, 1) := by decide +kernel
theorem dL_fire_18 : decode cL_fire 18 = .ok (.iconst 0, 1) := by decide +kernel
theorem dL_fire_19 : decode cL_fire 19 = .ok (.ireturn, 1) := by decide +kernel
set_option maxRecDepth 20000 in
theorem ggL_reduced_X5_reduced : GoodIn wsL_reduced wsX5_reduced := goodIn_ca (goodIn_ca (goodIn_r _ [7, 8, 9, 10, 11, 12, 6, 13, 14, 15, 16, 17, 18, 19, 20, 21, 22, 23, 24, 25, 26, 27, 28, 29, 30, 31, 32, 33, 34, 35, 36, 37, 38, 39, 40, 41, 42, 43, 44, 45, 46, 47, 48, 49, 50, 51, 52, 53, 54, 55, 56, 57, 58, 59, 60, 61, 62, 63, 64, 65, 66, 67, 68, 69, 70, 71, 72, 73, 74, 75, 76, 77, 78, 79, 80, 81, 82, 83, 84, 85, 86, 87, 88, 89, 90, 91, 92, 93, 94, 95, 96, 97, 98, 99, 100, 101, 102, 103, 104, 105, 106, 107, 108, 109] (by decide +kernel) (by decide +kernel)) (goodIn_sub (fun _ h => List.mem_cons_of_mem _ (List.mem_append_left _ (List.mem_append_right _ h))) (by decide +kernel))) (goodIn_sub (fun _ h => List.mem_cons_of_mem _ (List.mem_append_right _ h)) (by decide +kernel))
set_option maxRecDepth 20000 in
theorem gL_reduced_X5_reduced : GoodIn wsL_reduced (wsV RL 96 RX5 yX5_reduced wsX5_reduced) := goodIn_app (goodIn_of _ (by decide +kernel)) ggL_reduced_X5_reduced
theorem dL_reduced_0 : decode cL_reduced 0 = .ok (.aload_n 3, 1) := by decide +kernel
theorem dL_reduced_1 : decode cL_reduced 1 = .ok (.iconst 0, 1) := by decide +kernel
theorem dL_reduced_2 : decode cL_reduced 2 = .ok (.aload_n 0, 1) := by decide +kernel
theorem dL_reduced_3 : decode cL_reduced 3 = .ok (.iload_n 1, 1) := by decide +kernel
theorem dL_reduced_4 : decode cL_reduced 4 = .ok (.iload_n 2, 1) := by decide +kernel
theorem dL_reduced_5 : decode cL_reduced 5 = .ok (.invokevirtual 96, 3) := by decide +kernel
theorem dL_reduced_8 : decode cL_reduced 8 = .ok (.i2l, 1) := by decide +kernel
theorem dL_reduced_9 : decode cL_reduced 9 = .ok (.lastore, 1) := by decide +kernel
theorem dL_reduced_10 : decode cL_reduced 10 = .ok (.goto 11, 3) := by decide +kernel
theorem dL_reduced_13 : decode cL_reduced 13 = .ok (.astore 4, 2) := by decide +kernel
theorem dL_reduced_15 : decode cL_reduced 15 = .ok (.iconst 1, 1) := by decide +kernel
theorem dL_reduced_16 : decode cL_reduced 16 = .ok (.ireturn, 1) := by decide +kernel
theorem dL_reduced_17 : decode cL_reduced 17 = .ok (.astore 4, 2) := by decide +kernel
theorem dL_reduced_19 : decode cL_reduced 19 = .ok (.iconst 2, 1) := by decide +kernel
theorem dL_reduced_20 : decode cL_reduced 20 = .ok (.ireturn, 1) := by decide +kernel
theorem dL_reduced_21 : decode cL_reduced 21 = .ok (.iconst 0, 1) := by decide +kernel
theorem dL_reduced_22 : decode cL_reduced 22 = .ok (.ireturn, 1) := by decide +kernel
set_option maxRecDepth 20000 in
theorem ggL_rank_X5_rank : GoodIn wsL_rank wsX5_rank := goodIn_ca (goodIn_r _ [6, 7, 8, 9, 10, 5, 11, 12, 13, 14, 15, 16, 17, 18, 19, 20, 21, 22, 23, 24, 25, 26, 27, 28, 29, 30, 31, 32, 33, 34, 35, 36, 37, 38, 39, 40, 41, 42, 43, 44, 45, 46, 47, 48, 49, 50, 51, 52, 53, 54, 55, 56, 57, 58, 59, 60, 61, 62, 63, 64, 65, 66, 67, 68, 69, 70, 71, 72, 73, 74, 75, 76, 77, 78, 79, 80, 81, 82, 83, 84, 85, 86, 87, 88, 89, 90, 91, 92, 93, 94, 95, 96, 97, 98, 99, 100, 101, 102, 103, 104, 105, 106, 107, 108, 109, 110, 111, 112, 113, 114, 115, 116, 117, 118, 119, 120, 121, 122, 123, 124, 125, 126, 127, 128, 129] (by decide +kernel) (by decide +kernel)) (goodIn_sub (fun _ h => List.mem_cons_of_mem _ (List.mem_append_right _ h)) (by decide +kernel))
set_option maxRecDepth 20000 in
theorem gL_rank_X5_rank : GoodIn wsL_rank (wsV RL 99 RX5 yX5_rank wsX5_rank) := goodIn_app (goodIn_of _ (by decide +kernel)) ggL_rank_X5_rank
theorem dL_rank_0 : decode cL_rank 0 = .ok (.aload_n 1, 1) := by decide +kernel
theorem dL_rank_1 : decode cL_rank 1 = .ok (.iconst 0, 1) := by decide +kernel
theorem dL_rank_2 : decode cL_rank 2 = .ok (.aload_n 0, 1) := by decide +kernel
theorem dL_rank_3 : decode cL_rank 3 = .ok (.invokevirtual 99, 3) := by decide +kernel
theorem dL_rank_6 : decode cL_rank 6 = .ok (.i2l, 1) := by decide +kernel
theorem dL_rank_7 : decode cL_rank 7 = .ok (.lastore, 1) := by decide +kernel
theorem dL_rank_8 : decode cL_rank 8 = .ok (.goto 6, 3) := by decide +kernel
theorem dL_rank_11 : decode cL_rank 11 = .ok (.astore_n 2, 1) := by decide +kernel
theorem dL_rank_12 : decode cL_rank 12 = .ok (.iconst 1, 1) := by decide +kernel
theorem dL_rank_13 : decode cL_rank 13 = .ok (.ireturn, 1) := by decide +kernel
theorem dL_rank_14 : decode cL_rank 14 = .ok (.iconst 0, 1) := by decide +kernel
theorem dL_rank_15 : decode cL_rank 15 = .ok (.ireturn, 1) := by decide +kernel
set_option maxRecDepth 20000 in
theorem ggL_restRank_X5_restRank : GoodIn wsL_restRank wsX5_restRank := goodIn_ca (goodIn_r _ [6, 7, 8, 9, 10, 5, 11, 12, 13, 14, 15, 16, 17, 18, 19, 20, 21, 22, 23, 24, 25, 26, 27, 28, 29, 30, 31, 32, 33, 34, 35, 36, 37, 38, 39, 40, 41, 42, 43, 44, 45, 46, 47, 48, 49, 50, 51, 52, 53, 54, 55, 56, 57, 58, 59, 60, 61, 62, 63, 64, 65, 66, 67, 68, 69, 70, 71, 72, 73, 74, 75, 76, 77, 78, 79, 80, 81, 82, 83, 84, 85, 86, 87, 88, 89, 90, 91, 92, 93, 94, 95, 96, 97, 98, 99, 100, 101, 102, 103, 104, 105, 106, 107, 108, 109, 110, 111, 112, 113, 114, 115, 116, 117, 118, 119, 120, 121, 122, 123, 124, 125, 126, 127, 128, 129] (by decide +kernel) (by decide +kernel)) (goodIn_sub (fun _ h => List.mem_cons_of_mem _ (List.mem_append_right _ h)) (by decide +kernel))
set_option maxRecDepth 20000 in
theorem gL_restRank_X5_restRank : GoodIn wsL_restRank (wsV RL 103 RX5 yX5_restRank wsX5_restRank) := goodIn_app (goodIn_of _ (by decide +kernel)) ggL_restRank_X5_restRank
theorem dL_restRank_0 : decode cL_restRank 0 = .ok (.aload_n 1, 1) := by decide +kernel
theorem dL_restRank_1 : decode cL_restRank 1 = .ok (.iconst 0, 1) := by decide +kernel
theorem dL_restRank_2 : decode cL_restRank 2 = .ok (.aload_n 0, 1) := by decide +kernel
theorem dL_restRank_3 : decode cL_restRank 3 = .ok (.invokevirtual 103, 3) := by decide +kernel
theorem dL_restRank_6 : decode cL_restRank 6 = .ok (.i2l, 1) := by decide +kernel
theorem dL_restRank_7 : decode cL_restRank 7 = .ok (.lastore, 1) := by decide +kernel
theorem dL_restRank_8 : decode cL_restRank 8 = .ok (.goto 6, 3) := by decide +kernel
theorem dL_restRank_11 : decode cL_restRank 11 = .ok (.astore_n 2, 1) := by decide +kernel
theorem dL_restRank_12 : decode cL_restRank 12 = .ok (.iconst 1, 1) := by decide +kernel
theorem dL_restRank_13 : decode cL_restRank 13 = .ok (.ireturn, 1) := by decide +kernel
theorem dL_restRank_14 : decode cL_restRank 14 = .ok (.iconst 0, 1) := by decide +kernel
theorem dL_restRank_15 : decode cL_restRank 15 = .ok (.ireturn, 1) := by decide +kernel
set_option maxRecDepth 20000 in
theorem ggL_graph_X5_graph : GoodIn wsL_graph wsX5_graph := goodIn_ca (goodIn_r _ [6, 7, 8, 9, 5, 10, 11, 12, 13, 14, 15, 16, 17, 18, 19, 20, 21, 22, 23, 24, 25, 26, 27, 28, 29, 30, 31, 32, 33, 34, 35, 36, 37, 38, 39, 40, 41, 42, 43, 44, 45, 46, 47, 48, 49, 50, 51, 52, 53, 54, 55, 56, 57, 58, 59, 60, 61, 62, 63, 64, 65, 66, 67, 68, 69, 70, 71, 72, 73, 74, 75, 76, 77, 78, 79, 80, 81, 82, 83, 84, 85, 86, 87, 88, 89, 90, 91, 92, 93, 94, 95, 96, 97, 98, 99, 100, 101, 102, 103, 104] (by decide +kernel) (by decide +kernel)) (goodIn_sub (fun _ h => List.mem_cons_of_mem _ (List.mem_append_right _ h)) (by decide +kernel))
set_option maxRecDepth 20000 in
theorem gL_graph_X5_graph : GoodIn wsL_graph (wsV RL 106 RX5 yX5_graph wsX5_graph) := goodIn_app (goodIn_of _ (by decide +kernel)) ggL_graph_X5_graph
theorem dL_graph_0 : decode cL_graph 0 = .ok (.aload_n 2, 1) := by decide +kernel
theorem dL_graph_1 : decode cL_graph 1 = .ok (.iconst 0, 1) := by decide +kernel
theorem dL_graph_2 : decode cL_graph 2 = .ok (.aload_n 0, 1) := by decide +kernel
theorem dL_graph_3 : decode cL_graph 3 = .ok (.iload_n 1, 1) := by decide +kernel
theorem dL_graph_4 : decode cL_graph 4 = .ok (.invokevirtual 106, 3) := by decide +kernel
theorem dL_graph_7 : decode cL_graph 7 = .ok (.i2l, 1) := by decide +kernel
theorem dL_graph_8 : decode cL_graph 8 = .ok (.lastore, 1) := by decide +kernel
theorem dL_graph_9 : decode cL_graph 9 = .ok (.goto 6, 3) := by decide +kernel
theorem dL_graph_12 : decode cL_graph 12 = .ok (.astore_n 3, 1) := by decide +kernel
theorem dL_graph_13 : decode cL_graph 13 = .ok (.iconst 1, 1) := by decide +kernel
theorem dL_graph_14 : decode cL_graph 14 = .ok (.ireturn, 1) := by decide +kernel
theorem dL_graph_15 : decode cL_graph 15 = .ok (.iconst 0, 1) := by decide +kernel
theorem dL_graph_16 : decode cL_graph 16 = .ok (.ireturn, 1) := by decide +kernel
theorem dL_law_0 : decode cL_law 0 = .ok (.new 8, 3) := by decide +kernel
theorem dL_law_3 : decode cL_law 3 = .ok (.dup, 1) := by decide +kernel
theorem dL_law_4 : decode cL_law 4 = .ok (.invokespecial 109, 3) := by decide +kernel
theorem dL_law_7 : decode cL_law 7 = .ok (.astore_n 1, 1) := by decide +kernel
theorem dL_law_8 : decode cL_law 8 = .ok (.new 110, 3) := by decide +kernel
theorem dL_law_11 : decode cL_law 11 = .ok (.dup, 1) := by decide +kernel
theorem dL_law_12 : decode cL_law 12 = .ok (.invokespecial 112, 3) := by decide +kernel
theorem dL_law_15 : decode cL_law 15 = .ok (.astore_n 2, 1) := by decide +kernel
theorem dL_law_16 : decode cL_law 16 = .ok (.iconst 1, 1) := by decide +kernel
theorem dL_law_17 : decode cL_law 17 = .ok (.newarray .long, 2) := by decide +kernel
theorem dL_law_19 : decode cL_law 19 = .ok (.astore_n 3, 1) := by decide +kernel
theorem dL_law_20 : decode cL_law 20 = .ok (.iconst 0, 1) := by decide +kernel
theorem dL_law_21 : decode cL_law 21 = .ok (.istore 4, 2) := by decide +kernel
theorem dL_law_23 : decode cL_law 23 = .ok (.iload 4, 2) := by decide +kernel
theorem dL_law_25 : decode cL_law 25 = .ok (.aload_n 0, 1) := by decide +kernel
theorem dL_law_26 : decode cL_law 26 = .ok (.arraylength, 1) := by decide +kernel
theorem dL_law_27 : decode cL_law 27 = .ok (.iconst 5, 1) := by decide +kernel
theorem dL_law_28 : decode cL_law 28 = .ok (.isub, 1) := by decide +kernel
theorem dL_law_29 : decode cL_law 29 = .ok (.if_icmp .gt 2157, 3) := by decide +kernel
theorem dL_law_32 : decode cL_law 32 = .ok (.aload_n 0, 1) := by decide +kernel
theorem dL_law_33 : decode cL_law 33 = .ok (.iload 4, 2) := by decide +kernel
theorem dL_law_35 : decode cL_law 35 = .ok (.iaload, 1) := by decide +kernel
theorem dL_law_36 : decode cL_law 36 = .ok (.bipush 31, 2) := by decide +kernel
theorem dL_law_38 : decode cL_law 38 = .ok (.iand, 1) := by decide +kernel
theorem dL_law_39 : decode cL_law 39 = .ok (.tableswitch 2141 0 28 #[129, 209, 277, 333, 413, 488, 563, 643, 723, 791, 883, 963, 1043, 1111, 1191, 1259, 1327, 1383, 1439, 1526, 1613, 1669, 1749, 1817, 1873, 1929, 1997, 2041, 2085], 129) := by decide +kernel
theorem dL_law_168 : decode cL_law 168 = .ok (.aload_n 1, 1) := by decide +kernel
theorem dL_law_169 : decode cL_law 169 = .ok (.aload_n 0, 1) := by decide +kernel
theorem dL_law_170 : decode cL_law 170 = .ok (.iload 4, 2) := by decide +kernel
theorem dL_law_172 : decode cL_law 172 = .ok (.iconst 1, 1) := by decide +kernel
theorem dL_law_173 : decode cL_law 173 = .ok (.iadd, 1) := by decide +kernel
theorem dL_law_174 : decode cL_law 174 = .ok (.iaload, 1) := by decide +kernel
theorem dL_law_175 : decode cL_law 175 = .ok (.aload_n 0, 1) := by decide +kernel
theorem dL_law_176 : decode cL_law 176 = .ok (.iload 4, 2) := by decide +kernel
theorem dL_law_178 : decode cL_law 178 = .ok (.iconst 2, 1) := by decide +kernel
theorem dL_law_179 : decode cL_law 179 = .ok (.iadd, 1) := by decide +kernel
theorem dL_law_180 : decode cL_law 180 = .ok (.iaload, 1) := by decide +kernel
theorem dL_law_181 : decode cL_law 181 = .ok (.aload_n 0, 1) := by decide +kernel
theorem dL_law_182 : decode cL_law 182 = .ok (.iload 4, 2) := by decide +kernel
theorem dL_law_184 : decode cL_law 184 = .ok (.iconst 3, 1) := by decide +kernel
theorem dL_law_185 : decode cL_law 185 = .ok (.iadd, 1) := by decide +kernel
theorem dL_law_186 : decode cL_law 186 = .ok (.iaload, 1) := by decide +kernel
theorem dL_law_187 : decode cL_law 187 = .ok (.aload_n 3, 1) := by decide +kernel
theorem dL_law_188 : decode cL_law 188 = .ok (.invokestatic 113, 3) := by decide +kernel
theorem dL_law_191 : decode cL_law 191 = .ok (.istore 5, 2) := by decide +kernel
theorem dL_law_193 : decode cL_law 193 = .ok (.aload_n 2, 1) := by decide +kernel
theorem dL_law_194 : decode cL_law 194 = .ok (.aload_n 0, 1) := by decide +kernel
theorem dL_law_195 : decode cL_law 195 = .ok (.iload 4, 2) := by decide +kernel
theorem dL_law_197 : decode cL_law 197 = .ok (.iconst 1, 1) := by decide +kernel
theorem dL_law_198 : decode cL_law 198 = .ok (.iadd, 1) := by decide +kernel
theorem dL_law_199 : decode cL_law 199 = .ok (.iaload, 1) := by decide +kernel
theorem dL_law_200 : decode cL_law 200 = .ok (.aload_n 0, 1) := by decide +kernel
theorem dL_law_201 : decode cL_law 201 = .ok (.iload 4, 2) := by decide +kernel
theorem dL_law_203 : decode cL_law 203 = .ok (.iconst 2, 1) := by decide +kernel
theorem dL_law_204 : decode cL_law 204 = .ok (.iadd, 1) := by decide +kernel
theorem dL_law_205 : decode cL_law 205 = .ok (.iaload, 1) := by decide +kernel
theorem dL_law_206 : decode cL_law 206 = .ok (.aload_n 0, 1) := by decide +kernel
theorem dL_law_207 : decode cL_law 207 = .ok (.iload 4, 2) := by decide +kernel
theorem dL_law_209 : decode cL_law 209 = .ok (.iconst 3, 1) := by decide +kernel
theorem dL_law_210 : decode cL_law 210 = .ok (.iadd, 1) := by decide +kernel
theorem dL_law_211 : decode cL_law 211 = .ok (.iaload, 1) := by decide +kernel
theorem dL_law_212 : decode cL_law 212 = .ok (.invokevirtual 118, 3) := by decide +kernel
theorem dL_law_215 : decode cL_law 215 = .ok (.istore 6, 2) := by decide +kernel
theorem dL_law_217 : decode cL_law 217 = .ok (.aload_n 2, 1) := by decide +kernel
theorem dL_law_218 : decode cL_law 218 = .ok (.invokevirtual 119, 3) := by decide +kernel
theorem dL_law_221 : decode cL_law 221 = .ok (.iload 5, 2) := by decide +kernel
theorem dL_law_223 : decode cL_law 223 = .ok (.if_icmp .eq 5, 3) := by decide +kernel
theorem dL_law_226 : decode cL_law 226 = .ok (.iconst 0, 1) := by decide +kernel
theorem dL_law_227 : decode cL_law 227 = .ok (.ireturn, 1) := by decide +kernel
theorem dL_law_228 : decode cL_law 228 = .ok (.iload 5, 2) := by decide +kernel
theorem dL_law_230 : decode cL_law 230 = .ok (.ifCond .ne 15, 3) := by decide +kernel
theorem dL_law_233 : decode cL_law 233 = .ok (.aload_n 3, 1) := by decide +kernel
theorem dL_law_234 : decode cL_law 234 = .ok (.iconst 0, 1) := by decide +kernel
theorem dL_law_235 : decode cL_law 235 = .ok (.laload, 1) := by decide +kernel
theorem dL_law_236 : decode cL_law 236 = .ok (.iload 6, 2) := by decide +kernel
theorem dL_law_238 : decode cL_law 238 = .ok (.i2l, 1) := by decide +kernel
theorem dL_law_239 : decode cL_law 239 = .ok (.lcmp, 1) := by decide +kernel
