set_option maxRecDepth 20000 in
theorem gX5_product_X4_becomeCopy : GoodIn wsX5_product (wsV RX5 115 RX4 yX4_becomeCopy wsX4_becomeCopy) := goodIn_app (goodIn_of _ (by decide +kernel)) ggX5_product_X4_becomeCopy
set_option maxRecDepth 20000 in
theorem ggX5_product_X4_countTerms : GoodIn wsX5_product wsX4_countTerms := goodIn_r _ [53, 19, 20, 21, 17, 22, 23, 24, 64] (by decide +kernel) (by decide +kernel)
set_option maxRecDepth 20000 in
theorem gX5_product_X4_countTerms : GoodIn wsX5_product (wsV RX5 119 RX4 yX4_countTerms wsX4_countTerms) := goodIn_app (goodIn_of _ (by decide +kernel)) ggX5_product_X4_countTerms
theorem dX5_product_0 : decode cX5_product 0 = .ok (.iload_n 1, 1) := by decide +kernel
theorem dX5_product_1 : decode cX5_product 1 = .ok (.invokestatic 64, 3) := by decide +kernel
theorem dX5_product_4 : decode cX5_product 4 = .ok (.iload_n 2, 1) := by decide +kernel
theorem dX5_product_5 : decode cX5_product 5 = .ok (.invokestatic 64, 3) := by decide +kernel
theorem dX5_product_8 : decode cX5_product 8 = .ok (.iload_n 3, 1) := by decide +kernel
theorem dX5_product_9 : decode cX5_product 9 = .ok (.invokestatic 64, 3) := by decide +kernel
theorem dX5_product_12 : decode cX5_product 12 = .ok (.aload_n 0, 1) := by decide +kernel
theorem dX5_product_13 : decode cX5_product 13 = .ok (.getfield 11, 3) := by decide +kernel
theorem dX5_product_16 : decode cX5_product 16 = .ok (.iload_n 1, 1) := by decide +kernel
theorem dX5_product_17 : decode cX5_product 17 = .ok (.aaload, 1) := by decide +kernel
theorem dX5_product_18 : decode cX5_product 18 = .ok (.aload_n 0, 1) := by decide +kernel
theorem dX5_product_19 : decode cX5_product 19 = .ok (.getfield 11, 3) := by decide +kernel
theorem dX5_product_22 : decode cX5_product 22 = .ok (.iload_n 2, 1) := by decide +kernel
theorem dX5_product_23 : decode cX5_product 23 = .ok (.aaload, 1) := by decide +kernel
theorem dX5_product_24 : decode cX5_product 24 = .ok (.invokevirtual 122, 3) := by decide +kernel
theorem dX5_product_27 : decode cX5_product 27 = .ok (.ifCond .ne 13, 3) := by decide +kernel
theorem dX5_product_30 : decode cX5_product 30 = .ok (.new 125, 3) := by decide +kernel
theorem dX5_product_33 : decode cX5_product 33 = .ok (.dup, 1) := by decide +kernel
theorem dX5_product_34 : decode cX5_product 34 = .ok (.ldc 127, 2) := by decide +kernel
theorem dX5_product_36 : decode cX5_product 36 = .ok (.invokespecial 129, 3) := by decide +kernel
theorem dX5_product_39 : decode cX5_product 39 = .ok (.athrow, 1) := by decide +kernel
theorem dX5_product_40 : decode cX5_product 40 = .ok (.aload_n 0, 1) := by decide +kernel
theorem dX5_product_41 : decode cX5_product 41 = .ok (.getfield 34, 3) := by decide +kernel
theorem dX5_product_44 : decode cX5_product 44 = .ok (.aload_n 0, 1) := by decide +kernel
theorem dX5_product_45 : decode cX5_product 45 = .ok (.getfield 11, 3) := by decide +kernel
theorem dX5_product_48 : decode cX5_product 48 = .ok (.iload_n 1, 1) := by decide +kernel
theorem dX5_product_49 : decode cX5_product 49 = .ok (.aaload, 1) := by decide +kernel
theorem dX5_product_50 : decode cX5_product 50 = .ok (.aload_n 0, 1) := by decide +kernel
theorem dX5_product_51 : decode cX5_product 51 = .ok (.getfield 11, 3) := by decide +kernel
theorem dX5_product_54 : decode cX5_product 54 = .ok (.iload_n 2, 1) := by decide +kernel
theorem dX5_product_55 : decode cX5_product 55 = .ok (.aaload, 1) := by decide +kernel
theorem dX5_product_56 : decode cX5_product 56 = .ok (.invokevirtual 132, 3) := by decide +kernel
theorem dX5_product_59 : decode cX5_product 59 = .ok (.aload_n 0, 1) := by decide +kernel
theorem dX5_product_60 : decode cX5_product 60 = .ok (.getfield 34, 3) := by decide +kernel
theorem dX5_product_63 : decode cX5_product 63 = .ok (.invokevirtual 135, 3) := by decide +kernel
theorem dX5_product_66 : decode cX5_product 66 = .ok (.ifCond .ne 13, 3) := by decide +kernel
theorem dX5_product_69 : decode cX5_product 69 = .ok (.new 125, 3) := by decide +kernel
theorem dX5_product_72 : decode cX5_product 72 = .ok (.dup, 1) := by decide +kernel
theorem dX5_product_73 : decode cX5_product 73 = .ok (.ldc 139, 2) := by decide +kernel
theorem dX5_product_75 : decode cX5_product 75 = .ok (.invokespecial 129, 3) := by decide +kernel
theorem dX5_product_78 : decode cX5_product 78 = .ok (.athrow, 1) := by decide +kernel
theorem dX5_product_79 : decode cX5_product 79 = .ok (.aload_n 0, 1) := by decide +kernel
theorem dX5_product_80 : decode cX5_product 80 = .ok (.getfield 11, 3) := by decide +kernel
theorem dX5_product_83 : decode cX5_product 83 = .ok (.iload_n 3, 1) := by decide +kernel
theorem dX5_product_84 : decode cX5_product 84 = .ok (.aaload, 1) := by decide +kernel
theorem dX5_product_85 : decode cX5_product 85 = .ok (.aload_n 0, 1) := by decide +kernel
theorem dX5_product_86 : decode cX5_product 86 = .ok (.getfield 34, 3) := by decide +kernel
theorem dX5_product_89 : decode cX5_product 89 = .ok (.invokevirtual 115, 3) := by decide +kernel
theorem dX5_product_92 : decode cX5_product 92 = .ok (.aload_n 0, 1) := by decide +kernel
theorem dX5_product_93 : decode cX5_product 93 = .ok (.getfield 11, 3) := by decide +kernel
theorem dX5_product_96 : decode cX5_product 96 = .ok (.iload_n 3, 1) := by decide +kernel
theorem dX5_product_97 : decode cX5_product 97 = .ok (.aaload, 1) := by decide +kernel
theorem dX5_product_98 : decode cX5_product 98 = .ok (.invokevirtual 119, 3) := by decide +kernel
theorem dX5_product_101 : decode cX5_product 101 = .ok (.ireturn, 1) := by decide +kernel
set_option maxRecDepth 20000 in
theorem ggX5_matrix_X5_needHeld : GoodIn wsX5_matrix wsX5_needHeld := goodIn_ca (goodIn_r _ [5, 6, 7, 4, 8, 9, 10] (by decide +kernel) (by decide +kernel)) (goodIn_sub (fun _ h => List.mem_cons_of_mem _ (List.mem_append_left _ (List.mem_append_right _ h))) (by decide +kernel))
set_option maxRecDepth 20000 in
theorem gX5_matrix_X5_needHeld : GoodIn wsX5_matrix (va_wsS RX5 64 yX5_needHeld wsX5_needHeld) := goodIn_app (goodIn_of _ (by decide +kernel)) ggX5_matrix_X5_needHeld
set_option maxRecDepth 20000 in
theorem ggX5_matrix_X5_needWithin : GoodIn wsX5_matrix wsX5_needWithin := goodIn_ca (goodIn_r _ [13, 14, 15] (by decide +kernel) (by decide +kernel)) (goodIn_sub (fun _ h => List.mem_cons_of_mem _ (List.mem_append_right _ h)) (by decide +kernel))
set_option maxRecDepth 20000 in
theorem gX5_matrix_X5_needWithin : GoodIn wsX5_matrix (va_wsS RX5 78 yX5_needWithin wsX5_needWithin) := goodIn_app (goodIn_of _ (by decide +kernel)) ggX5_matrix_X5_needWithin
set_option maxRecDepth 20000 in
theorem ggX5_matrix_X2_becomeEmpty : GoodIn wsX5_matrix wsX2_becomeEmpty := goodIn_r _ [20, 21, 22, 23, 24, 25, 26, 27, 38, 39] (by decide +kernel) (by decide +kernel)
set_option maxRecDepth 20000 in
theorem gX5_matrix_X2_becomeEmpty : GoodIn wsX5_matrix (wsV RX5 144 RX2 yX2_becomeEmpty wsX2_becomeEmpty) := goodIn_app (goodIn_of _ (by decide +kernel)) ggX5_matrix_X2_becomeEmpty
theorem dX5_matrix_0 : decode cX5_matrix 0 = .ok (.iload_n 1, 1) := by decide +kernel
theorem dX5_matrix_1 : decode cX5_matrix 1 = .ok (.invokestatic 64, 3) := by decide +kernel
theorem dX5_matrix_4 : decode cX5_matrix 4 = .ok (.iload_n 2, 1) := by decide +kernel
theorem dX5_matrix_5 : decode cX5_matrix 5 = .ok (.iconst 1, 1) := by decide +kernel
theorem dX5_matrix_6 : decode cX5_matrix 6 = .ok (.iconst 5, 1) := by decide +kernel
theorem dX5_matrix_7 : decode cX5_matrix 7 = .ok (.invokestatic 78, 3) := by decide +kernel
theorem dX5_matrix_10 : decode cX5_matrix 10 = .ok (.aload_n 0, 1) := by decide +kernel
theorem dX5_matrix_11 : decode cX5_matrix 11 = .ok (.getfield 17, 3) := by decide +kernel
theorem dX5_matrix_14 : decode cX5_matrix 14 = .ok (.iload_n 1, 1) := by decide +kernel
theorem dX5_matrix_15 : decode cX5_matrix 15 = .ok (.aaload, 1) := by decide +kernel
theorem dX5_matrix_16 : decode cX5_matrix 16 = .ok (.getfield 141, 3) := by decide +kernel
theorem dX5_matrix_19 : decode cX5_matrix 19 = .ok (.istore_n 3, 1) := by decide +kernel
theorem dX5_matrix_20 : decode cX5_matrix 20 = .ok (.aload_n 0, 1) := by decide +kernel
theorem dX5_matrix_21 : decode cX5_matrix 21 = .ok (.getfield 17, 3) := by decide +kernel
theorem dX5_matrix_24 : decode cX5_matrix 24 = .ok (.iload_n 1, 1) := by decide +kernel
theorem dX5_matrix_25 : decode cX5_matrix 25 = .ok (.aaload, 1) := by decide +kernel
theorem dX5_matrix_26 : decode cX5_matrix 26 = .ok (.iload_n 2, 1) := by decide +kernel
theorem dX5_matrix_27 : decode cX5_matrix 27 = .ok (.invokevirtual 144, 3) := by decide +kernel
theorem dX5_matrix_30 : decode cX5_matrix 30 = .ok (.iload_n 3, 1) := by decide +kernel
theorem dX5_matrix_31 : decode cX5_matrix 31 = .ok (.ireturn, 1) := by decide +kernel
set_option maxRecDepth 20000 in
theorem ggX5_entry_X5_needEntry : GoodIn wsX5_entry wsX5_needEntry := goodIn_ca (goodIn_r _ [6, 1, 7, 8, 5, 9, 10, 11, 12, 13, 14, 24, 25, 26, 27, 28, 29, 30, 31, 32, 33, 34, 35] (by decide +kernel) (by decide +kernel)) (goodIn_sub (fun _ h => List.mem_cons_of_mem _ (List.mem_append_left _ (List.mem_append_right _ h))) (by decide +kernel))
set_option maxRecDepth 20000 in
theorem gX5_entry_X5_needEntry : GoodIn wsX5_entry (wsV RX5 147 RX5 yX5_needEntry wsX5_needEntry) := goodIn_app (goodIn_of _ (by decide +kernel)) ggX5_entry_X5_needEntry
set_option maxRecDepth 20000 in
theorem ggX5_entry_X5_needGiven : GoodIn wsX5_entry wsX5_needGiven := goodIn_ca (goodIn_r _ [17, 18, 19, 20, 5, 21, 22, 23] (by decide +kernel) (by decide +kernel)) (goodIn_sub (fun _ h => List.mem_cons_of_mem _ (List.mem_append_right _ h)) (by decide +kernel))
set_option maxRecDepth 20000 in
theorem gX5_entry_X5_needGiven : GoodIn wsX5_entry (va_wsS RX5 72 yX5_needGiven wsX5_needGiven) := goodIn_app (goodIn_of _ (by decide +kernel)) ggX5_entry_X5_needGiven
theorem dX5_entry_0 : decode cX5_entry 0 = .ok (.aload_n 0, 1) := by decide +kernel
theorem dX5_entry_1 : decode cX5_entry 1 = .ok (.iload_n 1, 1) := by decide +kernel
theorem dX5_entry_2 : decode cX5_entry 2 = .ok (.iload_n 2, 1) := by decide +kernel
theorem dX5_entry_3 : decode cX5_entry 3 = .ok (.iload_n 3, 1) := by decide +kernel
theorem dX5_entry_4 : decode cX5_entry 4 = .ok (.invokevirtual 147, 3) := by decide +kernel
theorem dX5_entry_7 : decode cX5_entry 7 = .ok (.iload 4, 2) := by decide +kernel
theorem dX5_entry_9 : decode cX5_entry 9 = .ok (.invokestatic 72, 3) := by decide +kernel
theorem dX5_entry_12 : decode cX5_entry 12 = .ok (.aload_n 0, 1) := by decide +kernel
theorem dX5_entry_13 : decode cX5_entry 13 = .ok (.getfield 17, 3) := by decide +kernel
theorem dX5_entry_16 : decode cX5_entry 16 = .ok (.iload_n 1, 1) := by decide +kernel
theorem dX5_entry_17 : decode cX5_entry 17 = .ok (.aaload, 1) := by decide +kernel
theorem dX5_entry_18 : decode cX5_entry 18 = .ok (.getfield 150, 3) := by decide +kernel
theorem dX5_entry_21 : decode cX5_entry 21 = .ok (.iload_n 2, 1) := by decide +kernel
theorem dX5_entry_22 : decode cX5_entry 22 = .ok (.aaload, 1) := by decide +kernel
theorem dX5_entry_23 : decode cX5_entry 23 = .ok (.iload_n 3, 1) := by decide +kernel
theorem dX5_entry_24 : decode cX5_entry 24 = .ok (.iaload, 1) := by decide +kernel
theorem dX5_entry_25 : decode cX5_entry 25 = .ok (.istore 5, 2) := by decide +kernel
theorem dX5_entry_27 : decode cX5_entry 27 = .ok (.aload_n 0, 1) := by decide +kernel
theorem dX5_entry_28 : decode cX5_entry 28 = .ok (.getfield 17, 3) := by decide +kernel
theorem dX5_entry_31 : decode cX5_entry 31 = .ok (.iload_n 1, 1) := by decide +kernel
theorem dX5_entry_32 : decode cX5_entry 32 = .ok (.aaload, 1) := by decide +kernel
theorem dX5_entry_33 : decode cX5_entry 33 = .ok (.getfield 150, 3) := by decide +kernel
theorem dX5_entry_36 : decode cX5_entry 36 = .ok (.iload_n 2, 1) := by decide +kernel
theorem dX5_entry_37 : decode cX5_entry 37 = .ok (.aaload, 1) := by decide +kernel
theorem dX5_entry_38 : decode cX5_entry 38 = .ok (.iload_n 3, 1) := by decide +kernel
theorem dX5_entry_39 : decode cX5_entry 39 = .ok (.iload 4, 2) := by decide +kernel
theorem dX5_entry_41 : decode cX5_entry 41 = .ok (.iastore, 1) := by decide +kernel
theorem dX5_entry_42 : decode cX5_entry 42 = .ok (.iload 5, 2) := by decide +kernel
theorem dX5_entry_44 : decode cX5_entry 44 = .ok (.ireturn, 1) := by decide +kernel
set_option maxRecDepth 20000 in
theorem ggX5_at_X5_needEntry : GoodIn wsX5_at wsX5_needEntry := goodIn_ca (goodIn_r _ [6, 1, 7, 8, 5, 9, 10, 11, 12, 13, 14, 15, 16, 17, 18, 19, 20, 21, 22, 23, 24, 25, 26] (by decide +kernel) (by decide +kernel)) (goodIn_sub (fun _ h => List.mem_cons_of_mem _ (List.mem_append_right _ h)) (by decide +kernel))
set_option maxRecDepth 20000 in
theorem gX5_at_X5_needEntry : GoodIn wsX5_at (wsV RX5 147 RX5 yX5_needEntry wsX5_needEntry) := goodIn_app (goodIn_of _ (by decide +kernel)) ggX5_at_X5_needEntry
theorem dX5_at_0 : decode cX5_at 0 = .ok (.aload_n 0, 1) := by decide +kernel
theorem dX5_at_1 : decode cX5_at 1 = .ok (.iload_n 1, 1) := by decide +kernel
theorem dX5_at_2 : decode cX5_at 2 = .ok (.iload_n 2, 1) := by decide +kernel
theorem dX5_at_3 : decode cX5_at 3 = .ok (.iload_n 3, 1) := by decide +kernel
theorem dX5_at_4 : decode cX5_at 4 = .ok (.invokevirtual 147, 3) := by decide +kernel
theorem dX5_at_7 : decode cX5_at 7 = .ok (.aload_n 0, 1) := by decide +kernel
theorem dX5_at_8 : decode cX5_at 8 = .ok (.getfield 17, 3) := by decide +kernel
theorem dX5_at_11 : decode cX5_at 11 = .ok (.iload_n 1, 1) := by decide +kernel
theorem dX5_at_12 : decode cX5_at 12 = .ok (.aaload, 1) := by decide +kernel
theorem dX5_at_13 : decode cX5_at 13 = .ok (.getfield 150, 3) := by decide +kernel
theorem dX5_at_16 : decode cX5_at 16 = .ok (.iload_n 2, 1) := by decide +kernel
theorem dX5_at_17 : decode cX5_at 17 = .ok (.aaload, 1) := by decide +kernel
theorem dX5_at_18 : decode cX5_at 18 = .ok (.iload_n 3, 1) := by decide +kernel
theorem dX5_at_19 : decode cX5_at 19 = .ok (.iaload, 1) := by decide +kernel
theorem dX5_at_20 : decode cX5_at 20 = .ok (.ireturn, 1) := by decide +kernel
set_option maxRecDepth 20000 in
theorem ggX5_part_X5_needHeld : GoodIn wsX5_part wsX5_needHeld := goodIn_ca (goodIn_r _ [5, 6, 7, 4, 8, 9, 10] (by decide +kernel) (by decide +kernel)) (goodIn_sub (fun _ h => List.mem_cons_of_mem _ (List.mem_append_left _ (List.mem_append_right _ h))) (by decide +kernel))
set_option maxRecDepth 20000 in
theorem gX5_part_X5_needHeld : GoodIn wsX5_part (va_wsS RX5 64 yX5_needHeld wsX5_needHeld) := goodIn_app (goodIn_of _ (by decide +kernel)) ggX5_part_X5_needHeld
set_option maxRecDepth 20000 in
theorem ggX5_part_X5_needIndex : GoodIn wsX5_part wsX5_needIndex := goodIn_ca (goodIn_r _ [8, 9, 10] (by decide +kernel) (by decide +kernel)) (goodIn_sub (fun _ h => List.mem_cons_of_mem _ (List.mem_append_left _ (List.mem_append_right _ h))) (by decide +kernel))
set_option maxRecDepth 20000 in
theorem gX5_part_X5_needIndex : GoodIn wsX5_part (va_wsS RX5 68 yX5_needIndex wsX5_needIndex) := goodIn_app (goodIn_of _ (by decide +kernel)) ggX5_part_X5_needIndex
set_option maxRecDepth 20000 in
theorem ggX5_part_X5_needGiven : GoodIn wsX5_part wsX5_needGiven := goodIn_ca (goodIn_r _ [13, 14, 15, 16, 4, 17, 18, 19] (by decide +kernel) (by decide +kernel)) (goodIn_sub (fun _ h => List.mem_cons_of_mem _ (List.mem_append_right _ h)) (by decide +kernel))
set_option maxRecDepth 20000 in
theorem gX5_part_X5_needGiven : GoodIn wsX5_part (va_wsS RX5 72 yX5_needGiven wsX5_needGiven) := goodIn_app (goodIn_of _ (by decide +kernel)) ggX5_part_X5_needGiven
theorem dX5_part_0 : decode cX5_part 0 = .ok (.iload_n 1, 1) := by decide +kernel
theorem dX5_part_1 : decode cX5_part 1 = .ok (.invokestatic 64, 3) := by decide +kernel
theorem dX5_part_4 : decode cX5_part 4 = .ok (.iload_n 2, 1) := by decide +kernel
theorem dX5_part_5 : decode cX5_part 5 = .ok (.iconst 5, 1) := by decide +kernel
theorem dX5_part_6 : decode cX5_part 6 = .ok (.invokestatic 68, 3) := by decide +kernel
theorem dX5_part_9 : decode cX5_part 9 = .ok (.iload_n 3, 1) := by decide +kernel
theorem dX5_part_10 : decode cX5_part 10 = .ok (.invokestatic 72, 3) := by decide +kernel
theorem dX5_part_13 : decode cX5_part 13 = .ok (.aload_n 0, 1) := by decide +kernel
theorem dX5_part_14 : decode cX5_part 14 = .ok (.getfield 23, 3) := by decide +kernel
theorem dX5_part_17 : decode cX5_part 17 = .ok (.iload_n 1, 1) := by decide +kernel
theorem dX5_part_18 : decode cX5_part 18 = .ok (.aaload, 1) := by decide +kernel
theorem dX5_part_19 : decode cX5_part 19 = .ok (.iload_n 2, 1) := by decide +kernel
theorem dX5_part_20 : decode cX5_part 20 = .ok (.iaload, 1) := by decide +kernel
theorem dX5_part_21 : decode cX5_part 21 = .ok (.istore 4, 2) := by decide +kernel
theorem dX5_part_23 : decode cX5_part 23 = .ok (.aload_n 0, 1) := by decide +kernel
theorem dX5_part_24 : decode cX5_part 24 = .ok (.getfield 23, 3) := by decide +kernel
theorem dX5_part_27 : decode cX5_part 27 = .ok (.iload_n 1, 1) := by decide +kernel
theorem dX5_part_28 : decode cX5_part 28 = .ok (.aaload, 1) := by decide +kernel
theorem dX5_part_29 : decode cX5_part 29 = .ok (.iload_n 2, 1) := by decide +kernel
theorem dX5_part_30 : decode cX5_part 30 = .ok (.iload_n 3, 1) := by decide +kernel
theorem dX5_part_31 : decode cX5_part 31 = .ok (.iastore, 1) := by decide +kernel
theorem dX5_part_32 : decode cX5_part 32 = .ok (.iload 4, 2) := by decide +kernel
theorem dX5_part_34 : decode cX5_part 34 = .ok (.ireturn, 1) := by decide +kernel
set_option maxRecDepth 20000 in
theorem ggX5_partAt_X5_needHeld : GoodIn wsX5_partAt wsX5_needHeld := goodIn_ca (goodIn_r _ [5, 6, 7, 4, 8, 9, 10] (by decide +kernel) (by decide +kernel)) (goodIn_sub (fun _ h => List.mem_cons_of_mem _ (List.mem_append_right _ h)) (by decide +kernel))
set_option maxRecDepth 20000 in
theorem gX5_partAt_X5_needHeld : GoodIn wsX5_partAt (va_wsS RX5 64 yX5_needHeld wsX5_needHeld) := goodIn_app (goodIn_of _ (by decide +kernel)) ggX5_partAt_X5_needHeld
set_option maxRecDepth 20000 in
theorem ggX5_partAt_X5_needIndex : GoodIn wsX5_partAt wsX5_needIndex := goodIn_ca (goodIn_r _ [8, 9, 10] (by decide +kernel) (by decide +kernel)) (goodIn_sub (fun _ h => List.mem_cons_of_mem _ (List.mem_append_right _ h)) (by decide +kernel))
set_option maxRecDepth 20000 in
theorem gX5_partAt_X5_needIndex : GoodIn wsX5_partAt (va_wsS RX5 68 yX5_needIndex wsX5_needIndex) := goodIn_app (goodIn_of _ (by decide +kernel)) ggX5_partAt_X5_needIndex
theorem dX5_partAt_0 : decode cX5_partAt 0 = .ok (.iload_n 1, 1) := by decide +kernel
theorem dX5_partAt_1 : decode cX5_partAt 1 = .ok (.invokestatic 64, 3) := by decide +kernel
theorem dX5_partAt_4 : decode cX5_partAt 4 = .ok (.iload_n 2, 1) := by decide +kernel
theorem dX5_partAt_5 : decode cX5_partAt 5 = .ok (.iconst 5, 1) := by decide +kernel
theorem dX5_partAt_6 : decode cX5_partAt 6 = .ok (.invokestatic 68, 3) := by decide +kernel
theorem dX5_partAt_9 : decode cX5_partAt 9 = .ok (.aload_n 0, 1) := by decide +kernel
theorem dX5_partAt_10 : decode cX5_partAt 10 = .ok (.getfield 23, 3) := by decide +kernel
theorem dX5_partAt_13 : decode cX5_partAt 13 = .ok (.iload_n 1, 1) := by decide +kernel
theorem dX5_partAt_14 : decode cX5_partAt 14 = .ok (.aaload, 1) := by decide +kernel
theorem dX5_partAt_15 : decode cX5_partAt 15 = .ok (.iload_n 2, 1) := by decide +kernel
theorem dX5_partAt_16 : decode cX5_partAt 16 = .ok (.iaload, 1) := by decide +kernel
theorem dX5_partAt_17 : decode cX5_partAt 17 = .ok (.ireturn, 1) := by decide +kernel
set_option maxRecDepth 20000 in
theorem ggX5_multiply_X5_needHeld : GoodIn wsX5_multiply wsX5_needHeld := goodIn_ca (goodIn_r _ [8, 9, 10, 7, 11, 12, 13] (by decide +kernel) (by decide +kernel)) (goodIn_sub (fun _ h => List.mem_cons_of_mem _ (List.mem_append_right _ h)) (by decide +kernel))
set_option maxRecDepth 20000 in
theorem gX5_multiply_X5_needHeld : GoodIn wsX5_multiply (va_wsS RX5 64 yX5_needHeld wsX5_needHeld) := goodIn_app (goodIn_of _ (by decide +kernel)) ggX5_multiply_X5_needHeld
set_option maxRecDepth 20000 in
theorem ggX5_multiply_X2_becomeProduct : GoodIn wsX5_multiply wsX2_becomeProduct := goodIn_r _ [18, 19, 20, 21, 22, 23, 24, 25, 26, 7, 27, 28, 62, 63] (by decide +kernel) (by decide +kernel)
set_option maxRecDepth 20000 in
theorem gX5_multiply_X2_becomeProduct : GoodIn wsX5_multiply (wsV RX5 155 RX2 yX2_becomeProduct wsX2_becomeProduct) := goodIn_app (goodIn_of _ (by decide +kernel)) ggX5_multiply_X2_becomeProduct
set_option maxRecDepth 20000 in
theorem ggX5_multiply_X5_keepMatrixDraft : GoodIn wsX5_multiply wsX5_keepMatrixDraft := goodIn_ca (goodIn_r _ [32, 1, 2, 4, 3, 33, 34, 35, 17, 36, 19, 21, 37, 38, 7, 39, 28, 40, 41, 42, 43, 44, 45, 46, 47, 48, 49, 50, 51, 20, 52, 53, 54, 55, 56, 57, 58, 59, 60, 61, 62, 63] (by decide +kernel) (by decide +kernel)) (goodIn_sub (fun _ h => List.mem_cons_of_mem _ (List.mem_append_left _ (List.mem_append_right _ h))) (by decide +kernel))
set_option maxRecDepth 20000 in
theorem gX5_multiply_X5_keepMatrixDraft : GoodIn wsX5_multiply (wsV RX5 158 RX5 yX5_keepMatrixDraft wsX5_keepMatrixDraft) := goodIn_app (goodIn_of _ (by decide +kernel)) ggX5_multiply_X5_keepMatrixDraft
theorem dX5_multiply_0 : decode cX5_multiply 0 = .ok (.iload_n 1, 1) := by decide +kernel
theorem dX5_multiply_1 : decode cX5_multiply 1 = .ok (.invokestatic 64, 3) := by decide +kernel
theorem dX5_multiply_4 : decode cX5_multiply 4 = .ok (.iload_n 2, 1) := by decide +kernel
theorem dX5_multiply_5 : decode cX5_multiply 5 = .ok (.invokestatic 64, 3) := by decide +kernel
theorem dX5_multiply_8 : decode cX5_multiply 8 = .ok (.iload_n 3, 1) := by decide +kernel
theorem dX5_multiply_9 : decode cX5_multiply 9 = .ok (.invokestatic 64, 3) := by decide +kernel
theorem dX5_multiply_12 : decode cX5_multiply 12 = .ok (.aload_n 0, 1) := by decide +kernel
theorem dX5_multiply_13 : decode cX5_multiply 13 = .ok (.getfield 17, 3) := by decide +kernel
theorem dX5_multiply_16 : decode cX5_multiply 16 = .ok (.iload_n 1, 1) := by decide +kernel
theorem dX5_multiply_17 : decode cX5_multiply 17 = .ok (.aaload, 1) := by decide +kernel
theorem dX5_multiply_18 : decode cX5_multiply 18 = .ok (.getfield 141, 3) := by decide +kernel
theorem dX5_multiply_21 : decode cX5_multiply 21 = .ok (.aload_n 0, 1) := by decide +kernel
theorem dX5_multiply_22 : decode cX5_multiply 22 = .ok (.getfield 17, 3) := by decide +kernel
theorem dX5_multiply_25 : decode cX5_multiply 25 = .ok (.iload_n 2, 1) := by decide +kernel
theorem dX5_multiply_26 : decode cX5_multiply 26 = .ok (.aaload, 1) := by decide +kernel
theorem dX5_multiply_27 : decode cX5_multiply 27 = .ok (.getfield 141, 3) := by decide +kernel
theorem dX5_multiply_30 : decode cX5_multiply 30 = .ok (.if_icmp .eq 13, 3) := by decide +kernel
theorem dX5_multiply_33 : decode cX5_multiply 33 = .ok (.new 125, 3) := by decide +kernel
theorem dX5_multiply_36 : decode cX5_multiply 36 = .ok (.dup, 1) := by decide +kernel
theorem dX5_multiply_37 : decode cX5_multiply 37 = .ok (.ldc 153, 2) := by decide +kernel
theorem dX5_multiply_39 : decode cX5_multiply 39 = .ok (.invokespecial 129, 3) := by decide +kernel
theorem dX5_multiply_42 : decode cX5_multiply 42 = .ok (.athrow, 1) := by decide +kernel
theorem dX5_multiply_43 : decode cX5_multiply 43 = .ok (.aload_n 0, 1) := by decide +kernel
theorem dX5_multiply_44 : decode cX5_multiply 44 = .ok (.getfield 39, 3) := by decide +kernel
theorem dX5_multiply_47 : decode cX5_multiply 47 = .ok (.aload_n 0, 1) := by decide +kernel
theorem dX5_multiply_48 : decode cX5_multiply 48 = .ok (.getfield 17, 3) := by decide +kernel
theorem dX5_multiply_51 : decode cX5_multiply 51 = .ok (.iload_n 1, 1) := by decide +kernel
theorem dX5_multiply_52 : decode cX5_multiply 52 = .ok (.aaload, 1) := by decide +kernel
theorem dX5_multiply_53 : decode cX5_multiply 53 = .ok (.aload_n 0, 1) := by decide +kernel
theorem dX5_multiply_54 : decode cX5_multiply 54 = .ok (.getfield 17, 3) := by decide +kernel
theorem dX5_multiply_57 : decode cX5_multiply 57 = .ok (.iload_n 2, 1) := by decide +kernel
theorem dX5_multiply_58 : decode cX5_multiply 58 = .ok (.aaload, 1) := by decide +kernel
theorem dX5_multiply_59 : decode cX5_multiply 59 = .ok (.invokevirtual 155, 3) := by decide +kernel
theorem dX5_multiply_62 : decode cX5_multiply 62 = .ok (.aload_n 0, 1) := by decide +kernel
theorem dX5_multiply_63 : decode cX5_multiply 63 = .ok (.iload_n 3, 1) := by decide +kernel
theorem dX5_multiply_64 : decode cX5_multiply 64 = .ok (.invokevirtual 158, 3) := by decide +kernel
theorem dX5_multiply_67 : decode cX5_multiply 67 = .ok (.ireturn, 1) := by decide +kernel
set_option maxRecDepth 20000 in
theorem ggX5_star_X5_needHeld : GoodIn wsX5_star wsX5_needHeld := goodIn_ca (goodIn_r _ [8, 9, 10, 7, 11, 12, 13] (by decide +kernel) (by decide +kernel)) (goodIn_sub (fun _ h => List.mem_cons_of_mem _ (List.mem_append_right _ h)) (by decide +kernel))
set_option maxRecDepth 20000 in
theorem gX5_star_X5_needHeld : GoodIn wsX5_star (va_wsS RX5 64 yX5_needHeld wsX5_needHeld) := goodIn_app (goodIn_of _ (by decide +kernel)) ggX5_star_X5_needHeld
set_option maxRecDepth 20000 in
theorem ggX5_star_X2_becomeCopy : GoodIn wsX5_star wsX2_becomeCopy := goodIn_r _ [18, 19, 20, 21, 22, 23, 24, 66, 67] (by decide +kernel) (by decide +kernel)
set_option maxRecDepth 20000 in
theorem gX5_star_X2_becomeCopy : GoodIn wsX5_star (wsV RX5 161 RX2 yX2_becomeCopy wsX2_becomeCopy) := goodIn_app (goodIn_of _ (by decide +kernel)) ggX5_star_X2_becomeCopy
set_option maxRecDepth 20000 in
theorem ggX5_star_X2_closeWays : GoodIn wsX5_star wsX2_closeWays := goodIn_r _ [28, 19, 20, 29, 30, 31, 32, 33, 7, 34, 35, 66, 67] (by decide +kernel) (by decide +kernel)
set_option maxRecDepth 20000 in
theorem gX5_star_X2_closeWays : GoodIn wsX5_star (wsV RX5 164 RX2 yX2_closeWays wsX2_closeWays) := goodIn_app (goodIn_of _ (by decide +kernel)) ggX5_star_X2_closeWays
set_option maxRecDepth 20000 in
theorem ggX5_star_X2_comesBackBelowZero : GoodIn wsX5_star wsX2_comesBackBelowZero := goodIn_r _ [39, 19, 20, 66, 67] (by decide +kernel) (by decide +kernel)
set_option maxRecDepth 20000 in
theorem gX5_star_X2_comesBackBelowZero : GoodIn wsX5_star (wsV RX5 167 RX2 yX2_comesBackBelowZero wsX2_comesBackBelowZero) := goodIn_app (goodIn_of _ (by decide +kernel)) ggX5_star_X2_comesBackBelowZero
set_option maxRecDepth 20000 in
theorem ggX5_star_X5_keepMatrixDraft : GoodIn wsX5_star wsX5_keepMatrixDraft := goodIn_ca (goodIn_r _ [43, 1, 2, 3, 4, 44, 45, 46, 17, 47, 19, 20, 48, 49, 7, 50, 35, 14, 15, 16, 18, 21, 22, 23, 24, 51, 52, 53, 54, 55, 56, 57, 58, 59, 60, 61, 62, 63, 64, 65, 66, 67] (by decide +kernel) (by decide +kernel)) (goodIn_sub (fun _ h => List.mem_cons_of_mem _ (List.mem_append_left _ (List.mem_append_right _ h))) (by decide +kernel))
set_option maxRecDepth 20000 in
theorem gX5_star_X5_keepMatrixDraft : GoodIn wsX5_star (wsV RX5 158 RX5 yX5_keepMatrixDraft wsX5_keepMatrixDraft) := goodIn_app (goodIn_of _ (by decide +kernel)) ggX5_star_X5_keepMatrixDraft
theorem dX5_star_0 : decode cX5_star 0 = .ok (.iload_n 1, 1) := by decide +kernel
theorem dX5_star_1 : decode cX5_star 1 = .ok (.invokestatic 64, 3) := by decide +kernel
theorem dX5_star_4 : decode cX5_star 4 = .ok (.iload_n 2, 1) := by decide +kernel
theorem dX5_star_5 : decode cX5_star 5 = .ok (.invokestatic 64, 3) := by decide +kernel
theorem dX5_star_8 : decode cX5_star 8 = .ok (.aload_n 0, 1) := by decide +kernel
theorem dX5_star_9 : decode cX5_star 9 = .ok (.getfield 39, 3) := by decide +kernel
theorem dX5_star_12 : decode cX5_star 12 = .ok (.aload_n 0, 1) := by decide +kernel
theorem dX5_star_13 : decode cX5_star 13 = .ok (.getfield 17, 3) := by decide +kernel
theorem dX5_star_16 : decode cX5_star 16 = .ok (.iload_n 1, 1) := by decide +kernel
theorem dX5_star_17 : decode cX5_star 17 = .ok (.aaload, 1) := by decide +kernel
theorem dX5_star_18 : decode cX5_star 18 = .ok (.invokevirtual 161, 3) := by decide +kernel
theorem dX5_star_21 : decode cX5_star 21 = .ok (.aload_n 0, 1) := by decide +kernel
theorem dX5_star_22 : decode cX5_star 22 = .ok (.getfield 39, 3) := by decide +kernel
theorem dX5_star_25 : decode cX5_star 25 = .ok (.invokevirtual 164, 3) := by decide +kernel
theorem dX5_star_28 : decode cX5_star 28 = .ok (.aload_n 0, 1) := by decide +kernel
theorem dX5_star_29 : decode cX5_star 29 = .ok (.getfield 39, 3) := by decide +kernel
theorem dX5_star_32 : decode cX5_star 32 = .ok (.invokevirtual 167, 3) := by decide +kernel
theorem dX5_star_35 : decode cX5_star 35 = .ok (.ifCond .eq 13, 3) := by decide +kernel
theorem dX5_star_38 : decode cX5_star 38 = .ok (.new 125, 3) := by decide +kernel
theorem dX5_star_41 : decode cX5_star 41 = .ok (.dup, 1) := by decide +kernel
theorem dX5_star_42 : decode cX5_star 42 = .ok (.ldc 170, 2) := by decide +kernel
theorem dX5_star_44 : decode cX5_star 44 = .ok (.invokespecial 129, 3) := by decide +kernel
theorem dX5_star_47 : decode cX5_star 47 = .ok (.athrow, 1) := by decide +kernel
theorem dX5_star_48 : decode cX5_star 48 = .ok (.aload_n 0, 1) := by decide +kernel
theorem dX5_star_49 : decode cX5_star 49 = .ok (.iload_n 2, 1) := by decide +kernel
theorem dX5_star_50 : decode cX5_star 50 = .ok (.invokevirtual 158, 3) := by decide +kernel
theorem dX5_star_53 : decode cX5_star 53 = .ok (.ireturn, 1) := by decide +kernel
set_option maxRecDepth 20000 in
theorem ggX5_mean_X5_needHeld : GoodIn wsX5_mean wsX5_needHeld := goodIn_ca (goodIn_r _ [6, 7, 8, 5, 9, 10, 11] (by decide +kernel) (by decide +kernel)) (goodIn_sub (fun _ h => List.mem_cons_of_mem _ (List.mem_append_left _ (List.mem_append_right _ h))) (by decide +kernel))
set_option maxRecDepth 20000 in
theorem gX5_mean_X5_needHeld : GoodIn wsX5_mean (va_wsS RX5 64 yX5_needHeld wsX5_needHeld) := goodIn_app (goodIn_of _ (by decide +kernel)) ggX5_mean_X5_needHeld
set_option maxRecDepth 20000 in
theorem ggX5_mean_X5_needWithin : GoodIn wsX5_mean wsX5_needWithin := goodIn_ca (goodIn_r _ [14, 15, 16] (by decide +kernel) (by decide +kernel)) (goodIn_sub (fun _ h => List.mem_cons_of_mem _ (List.mem_append_right _ h)) (by decide +kernel))
set_option maxRecDepth 20000 in
theorem gX5_mean_X5_needWithin : GoodIn wsX5_mean (va_wsS RX5 78 yX5_needWithin wsX5_needWithin) := goodIn_app (goodIn_of _ (by decide +kernel)) ggX5_mean_X5_needWithin
set_option maxRecDepth 20000 in
theorem ggX5_mean_X5_findLeastMean : GoodIn wsX5_mean wsX5_findLeastMean := goodIn_r _ [20, 21, 22, 2, 23, 24, 25, 26, 27, 28, 29, 30, 31, 32, 33, 34, 35, 36, 37, 38, 39, 40, 41, 42, 43, 44, 45, 46, 47, 48, 49, 50, 51, 52, 53, 54, 55, 56, 57, 58, 59, 5, 60, 61, 62, 63, 64, 65, 66, 67, 68, 69, 70, 73, 74, 71, 72] (by decide +kernel) (by decide +kernel)
set_option maxRecDepth 20000 in
theorem gX5_mean_X5_findLeastMean : GoodIn wsX5_mean (wsV RX5 172 RX5 yX5_findLeastMean wsX5_findLeastMean) := goodIn_app (goodIn_of _ (by decide +kernel)) ggX5_mean_X5_findLeastMean
theorem dX5_mean_0 : decode cX5_mean 0 = .ok (.iload_n 1, 1) := by decide +kernel
theorem dX5_mean_1 : decode cX5_mean 1 = .ok (.invokestatic 64, 3) := by decide +kernel
theorem dX5_mean_4 : decode cX5_mean 4 = .ok (.iload_n 2, 1) := by decide +kernel
theorem dX5_mean_5 : decode cX5_mean 5 = .ok (.iconst 0, 1) := by decide +kernel
theorem dX5_mean_6 : decode cX5_mean 6 = .ok (.iconst 1, 1) := by decide +kernel
theorem dX5_mean_7 : decode cX5_mean 7 = .ok (.invokestatic 78, 3) := by decide +kernel
theorem dX5_mean_10 : decode cX5_mean 10 = .ok (.aload_n 0, 1) := by decide +kernel
theorem dX5_mean_11 : decode cX5_mean 11 = .ok (.aload_n 0, 1) := by decide +kernel
theorem dX5_mean_12 : decode cX5_mean 12 = .ok (.getfield 17, 3) := by decide +kernel
theorem dX5_mean_15 : decode cX5_mean 15 = .ok (.iload_n 1, 1) := by decide +kernel
theorem dX5_mean_16 : decode cX5_mean 16 = .ok (.aaload, 1) := by decide +kernel
theorem dX5_mean_17 : decode cX5_mean 17 = .ok (.invokevirtual 172, 3) := by decide +kernel
theorem dX5_mean_20 : decode cX5_mean 20 = .ok (.iload_n 2, 1) := by decide +kernel
theorem dX5_mean_21 : decode cX5_mean 21 = .ok (.ifCond .ne 13, 3) := by decide +kernel
theorem dX5_mean_24 : decode cX5_mean 24 = .ok (.aload_n 0, 1) := by decide +kernel
theorem dX5_mean_25 : decode cX5_mean 25 = .ok (.getfield 53, 3) := by decide +kernel
theorem dX5_mean_28 : decode cX5_mean 28 = .ok (.getfield 96, 3) := by decide +kernel
theorem dX5_mean_31 : decode cX5_mean 31 = .ok (.goto 10, 3) := by decide +kernel
theorem dX5_mean_34 : decode cX5_mean 34 = .ok (.aload_n 0, 1) := by decide +kernel
theorem dX5_mean_35 : decode cX5_mean 35 = .ok (.getfield 53, 3) := by decide +kernel
theorem dX5_mean_38 : decode cX5_mean 38 = .ok (.getfield 100, 3) := by decide +kernel
theorem dX5_mean_41 : decode cX5_mean 41 = .ok (.ireturn, 1) := by decide +kernel
set_option maxRecDepth 20000 in
theorem ggX5_determinant_X5_needHeld : GoodIn wsX5_determinant wsX5_needHeld := goodIn_ca (goodIn_r _ [6, 7, 8, 5, 9, 10, 11] (by decide +kernel) (by decide +kernel)) (goodIn_sub (fun _ h => List.mem_cons_of_mem _ (List.mem_append_right _ h)) (by decide +kernel))
set_option maxRecDepth 20000 in
theorem gX5_determinant_X5_needHeld : GoodIn wsX5_determinant (va_wsS RX5 64 yX5_needHeld wsX5_needHeld) := goodIn_app (goodIn_of _ (by decide +kernel)) ggX5_determinant_X5_needHeld
set_option maxRecDepth 20000 in
theorem ggX5_determinant_X0_leastSum : GoodIn wsX5_determinant wsX0_leastSum := goodIn_r _ [16, 17, 18, 19, 20, 15, 21, 22, 23, 24, 25, 26, 27, 28, 29, 30, 31, 32, 33, 34, 35, 5, 36, 37, 48, 49, 50, 51] (by decide +kernel) (by decide +kernel)
set_option maxRecDepth 20000 in
theorem gX5_determinant_X0_leastSum : GoodIn wsX5_determinant (wsV RX5 175 RX0 yX0_leastSum wsX0_leastSum) := goodIn_app (goodIn_of _ (by decide +kernel)) ggX5_determinant_X0_leastSum
theorem dX5_determinant_0 : decode cX5_determinant 0 = .ok (.iload_n 1, 1) := by decide +kernel
theorem dX5_determinant_1 : decode cX5_determinant 1 = .ok (.invokestatic 64, 3) := by decide +kernel
theorem dX5_determinant_4 : decode cX5_determinant 4 = .ok (.aload_n 0, 1) := by decide +kernel
theorem dX5_determinant_5 : decode cX5_determinant 5 = .ok (.getfield 60, 3) := by decide +kernel
theorem dX5_determinant_8 : decode cX5_determinant 8 = .ok (.aload_n 0, 1) := by decide +kernel
theorem dX5_determinant_9 : decode cX5_determinant 9 = .ok (.getfield 17, 3) := by decide +kernel
theorem dX5_determinant_12 : decode cX5_determinant 12 = .ok (.iload_n 1, 1) := by decide +kernel
theorem dX5_determinant_13 : decode cX5_determinant 13 = .ok (.aaload, 1) := by decide +kernel
theorem dX5_determinant_14 : decode cX5_determinant 14 = .ok (.invokevirtual 175, 3) := by decide +kernel
theorem dX5_determinant_17 : decode cX5_determinant 17 = .ok (.ireturn, 1) := by decide +kernel
set_option maxRecDepth 20000 in
theorem ggX5_ways_X5_needHeld : GoodIn wsX5_ways wsX5_needHeld := goodIn_ca (goodIn_r _ [6, 7, 8, 5, 9, 10, 11] (by decide +kernel) (by decide +kernel)) (goodIn_sub (fun _ h => List.mem_cons_of_mem _ (List.mem_append_right _ h)) (by decide +kernel))
set_option maxRecDepth 20000 in
theorem gX5_ways_X5_needHeld : GoodIn wsX5_ways (va_wsS RX5 64 yX5_needHeld wsX5_needHeld) := goodIn_app (goodIn_of _ (by decide +kernel)) ggX5_ways_X5_needHeld
set_option maxRecDepth 20000 in
theorem ggX5_ways_X0_countLeast : GoodIn wsX5_ways wsX0_countLeast := goodIn_r _ [16, 17, 18, 19, 20, 15, 21, 22, 23, 24, 25, 26, 27, 28, 29, 30, 31, 32, 33, 34, 35, 5, 36, 37, 48, 49, 50, 51] (by decide +kernel) (by decide +kernel)
set_option maxRecDepth 20000 in
theorem gX5_ways_X0_countLeast : GoodIn wsX5_ways (wsV RX5 179 RX0 yX0_countLeast wsX0_countLeast) := goodIn_app (goodIn_of _ (by decide +kernel)) ggX5_ways_X0_countLeast
theorem dX5_ways_0 : decode cX5_ways 0 = .ok (.iload_n 1, 1) := by decide +kernel
theorem dX5_ways_1 : decode cX5_ways 1 = .ok (.invokestatic 64, 3) := by decide +kernel
theorem dX5_ways_4 : decode cX5_ways 4 = .ok (.aload_n 0, 1) := by decide +kernel
theorem dX5_ways_5 : decode cX5_ways 5 = .ok (.getfield 60, 3) := by decide +kernel
theorem dX5_ways_8 : decode cX5_ways 8 = .ok (.aload_n 0, 1) := by decide +kernel
theorem dX5_ways_9 : decode cX5_ways 9 = .ok (.getfield 17, 3) := by decide +kernel
theorem dX5_ways_12 : decode cX5_ways 12 = .ok (.iload_n 1, 1) := by decide +kernel
theorem dX5_ways_13 : decode cX5_ways 13 = .ok (.aaload, 1) := by decide +kernel
theorem dX5_ways_14 : decode cX5_ways 14 = .ok (.invokevirtual 179, 3) := by decide +kernel
theorem dX5_ways_17 : decode cX5_ways 17 = .ok (.ireturn, 1) := by decide +kernel
set_option maxRecDepth 20000 in
theorem ggX5_solve_X5_needHeld : GoodIn wsX5_solve wsX5_needHeld := goodIn_ca (goodIn_r _ [13, 14, 15, 12, 16, 17, 18] (by decide +kernel) (by decide +kernel)) (goodIn_sub (fun _ h => List.mem_cons_of_mem _ (List.mem_append_right _ h)) (by decide +kernel))
set_option maxRecDepth 20000 in
theorem gX5_solve_X5_needHeld : GoodIn wsX5_solve (va_wsS RX5 64 yX5_needHeld wsX5_needHeld) := goodIn_app (goodIn_of _ (by decide +kernel)) ggX5_solve_X5_needHeld
set_option maxRecDepth 20000 in
theorem ggX5_solve_X5_hasNumbers : GoodIn wsX5_solve wsX5_hasNumbers := goodIn_r _ [21, 22] (by decide +kernel) (by decide +kernel)
set_option maxRecDepth 20000 in
theorem gX5_solve_X5_hasNumbers : GoodIn wsX5_solve (va_wsS RX5 182 yX5_hasNumbers wsX5_hasNumbers) := goodIn_app (goodIn_of _ (by decide +kernel)) ggX5_solve_X5_hasNumbers
set_option maxRecDepth 20000 in
theorem ggX5_solve_X2_putSolution : GoodIn wsX5_solve wsX2_putSolution := goodIn_r _ [27, 28, 29, 30, 31, 32, 33, 34, 61, 62] (by decide +kernel) (by decide +kernel)
set_option maxRecDepth 20000 in
theorem gX5_solve_X2_putSolution : GoodIn wsX5_solve (wsV RX5 188 RX2 yX2_putSolution wsX2_putSolution) := goodIn_app (goodIn_of _ (by decide +kernel)) ggX5_solve_X2_putSolution
set_option maxRecDepth 20000 in
theorem ggX5_solve_X5_needPartsWithinLimit : GoodIn wsX5_solve wsX5_needPartsWithinLimit := goodIn_ca (goodIn_r _ [37, 1, 2, 38, 39, 40, 12, 41, 22] (by decide +kernel) (by decide +kernel)) (goodIn_sub (fun _ h => List.mem_cons_of_mem _ (List.mem_append_left _ (List.mem_append_right _ h))) (by decide +kernel))
set_option maxRecDepth 20000 in
theorem gX5_solve_X5_needPartsWithinLimit : GoodIn wsX5_solve (va_wsS RX5 192 yX5_needPartsWithinLimit wsX5_needPartsWithinLimit) := goodIn_app (goodIn_of _ (by decide +kernel)) ggX5_solve_X5_needPartsWithinLimit
set_option maxRecDepth 20000 in
theorem ggX5_solve_X2_leadsTo : GoodIn wsX5_solve wsX2_leadsTo := goodIn_r _ [45, 28, 29, 30, 46, 47, 33, 48, 49, 12, 50, 22, 61, 62] (by decide +kernel) (by decide +kernel)
set_option maxRecDepth 20000 in
theorem gX5_solve_X2_leadsTo : GoodIn wsX5_solve (wsV RX5 196 RX2 yX2_leadsTo wsX2_leadsTo) := goodIn_app (goodIn_of _ (by decide +kernel)) ggX5_solve_X2_leadsTo
theorem dX5_solve_0 : decode cX5_solve 0 = .ok (.iload_n 1, 1) := by decide +kernel
theorem dX5_solve_1 : decode cX5_solve 1 = .ok (.invokestatic 64, 3) := by decide +kernel
theorem dX5_solve_4 : decode cX5_solve 4 = .ok (.iload_n 2, 1) := by decide +kernel
theorem dX5_solve_5 : decode cX5_solve 5 = .ok (.invokestatic 64, 3) := by decide +kernel
theorem dX5_solve_8 : decode cX5_solve 8 = .ok (.iload_n 3, 1) := by decide +kernel
theorem dX5_solve_9 : decode cX5_solve 9 = .ok (.invokestatic 64, 3) := by decide +kernel
theorem dX5_solve_12 : decode cX5_solve 12 = .ok (.aload_n 0, 1) := by decide +kernel
theorem dX5_solve_13 : decode cX5_solve 13 = .ok (.getfield 17, 3) := by decide +kernel
theorem dX5_solve_16 : decode cX5_solve 16 = .ok (.iload_n 1, 1) := by decide +kernel
theorem dX5_solve_17 : decode cX5_solve 17 = .ok (.aaload, 1) := by decide +kernel
theorem dX5_solve_18 : decode cX5_solve 18 = .ok (.astore 4, 2) := by decide +kernel
theorem dX5_solve_20 : decode cX5_solve 20 = .ok (.aload_n 0, 1) := by decide +kernel
theorem dX5_solve_21 : decode cX5_solve 21 = .ok (.getfield 23, 3) := by decide +kernel
theorem dX5_solve_24 : decode cX5_solve 24 = .ok (.iload_n 2, 1) := by decide +kernel
theorem dX5_solve_25 : decode cX5_solve 25 = .ok (.aaload, 1) := by decide +kernel
theorem dX5_solve_26 : decode cX5_solve 26 = .ok (.aload 4, 2) := by decide +kernel
theorem dX5_solve_28 : decode cX5_solve 28 = .ok (.getfield 141, 3) := by decide +kernel
theorem dX5_solve_31 : decode cX5_solve 31 = .ok (.invokestatic 182, 3) := by decide +kernel
theorem dX5_solve_34 : decode cX5_solve 34 = .ok (.ifCond .ne 13, 3) := by decide +kernel
theorem dX5_solve_37 : decode cX5_solve 37 = .ok (.new 125, 3) := by decide +kernel
theorem dX5_solve_40 : decode cX5_solve 40 = .ok (.dup, 1) := by decide +kernel
theorem dX5_solve_41 : decode cX5_solve 41 = .ok (.ldc 186, 2) := by decide +kernel
theorem dX5_solve_43 : decode cX5_solve 43 = .ok (.invokespecial 129, 3) := by decide +kernel
theorem dX5_solve_46 : decode cX5_solve 46 = .ok (.athrow, 1) := by decide +kernel
theorem dX5_solve_47 : decode cX5_solve 47 = .ok (.aload 4, 2) := by decide +kernel
theorem dX5_solve_49 : decode cX5_solve 49 = .ok (.aload_n 0, 1) := by decide +kernel
theorem dX5_solve_50 : decode cX5_solve 50 = .ok (.getfield 23, 3) := by decide +kernel
theorem dX5_solve_53 : decode cX5_solve 53 = .ok (.iload_n 2, 1) := by decide +kernel
theorem dX5_solve_54 : decode cX5_solve 54 = .ok (.aaload, 1) := by decide +kernel
theorem dX5_solve_55 : decode cX5_solve 55 = .ok (.aload_n 0, 1) := by decide +kernel
theorem dX5_solve_56 : decode cX5_solve 56 = .ok (.getfield 46, 3) := by decide +kernel
theorem dX5_solve_59 : decode cX5_solve 59 = .ok (.invokevirtual 188, 3) := by decide +kernel
theorem dX5_solve_62 : decode cX5_solve 62 = .ok (.aload_n 0, 1) := by decide +kernel
theorem dX5_solve_63 : decode cX5_solve 63 = .ok (.getfield 46, 3) := by decide +kernel
theorem dX5_solve_66 : decode cX5_solve 66 = .ok (.aload 4, 2) := by decide +kernel
theorem dX5_solve_68 : decode cX5_solve 68 = .ok (.getfield 141, 3) := by decide +kernel
theorem dX5_solve_71 : decode cX5_solve 71 = .ok (.invokestatic 192, 3) := by decide +kernel
theorem dX5_solve_74 : decode cX5_solve 74 = .ok (.aload 4, 2) := by decide +kernel
theorem dX5_solve_76 : decode cX5_solve 76 = .ok (.aload_n 0, 1) := by decide +kernel
theorem dX5_solve_77 : decode cX5_solve 77 = .ok (.getfield 46, 3) := by decide +kernel
theorem dX5_solve_80 : decode cX5_solve 80 = .ok (.aload_n 0, 1) := by decide +kernel
theorem dX5_solve_81 : decode cX5_solve 81 = .ok (.getfield 23, 3) := by decide +kernel
theorem dX5_solve_84 : decode cX5_solve 84 = .ok (.iload_n 2, 1) := by decide +kernel
theorem dX5_solve_85 : decode cX5_solve 85 = .ok (.aaload, 1) := by decide +kernel
theorem dX5_solve_86 : decode cX5_solve 86 = .ok (.invokevirtual 196, 3) := by decide +kernel
theorem dX5_solve_89 : decode cX5_solve 89 = .ok (.istore 5, 2) := by decide +kernel
theorem dX5_solve_91 : decode cX5_solve 91 = .ok (.aload_n 0, 1) := by decide +kernel
theorem dX5_solve_92 : decode cX5_solve 92 = .ok (.getfield 46, 3) := by decide +kernel
theorem dX5_solve_95 : decode cX5_solve 95 = .ok (.iconst 0, 1) := by decide +kernel
theorem dX5_solve_96 : decode cX5_solve 96 = .ok (.aload_n 0, 1) := by decide +kernel
theorem dX5_solve_97 : decode cX5_solve 97 = .ok (.getfield 23, 3) := by decide +kernel
theorem dX5_solve_100 : decode cX5_solve 100 = .ok (.iload_n 3, 1) := by decide +kernel
theorem dX5_solve_101 : decode cX5_solve 101 = .ok (.aaload, 1) := by decide +kernel
theorem dX5_solve_102 : decode cX5_solve 102 = .ok (.iconst 0, 1) := by decide +kernel
theorem dX5_solve_103 : decode cX5_solve 103 = .ok (.aload 4, 2) := by decide +kernel
theorem dX5_solve_105 : decode cX5_solve 105 = .ok (.getfield 141, 3) := by decide +kernel
theorem dX5_solve_108 : decode cX5_solve 108 = .ok (.invokestatic 200, 3) := by decide +kernel
theorem dX5_solve_111 : decode cX5_solve 111 = .ok (.iload 5, 2) := by decide +kernel
theorem dX5_solve_113 : decode cX5_solve 113 = .ok (.ireturn, 1) := by decide +kernel
set_option maxRecDepth 20000 in
theorem ggX5_project_X5_needHeld : GoodIn wsX5_project wsX5_needHeld := goodIn_ca (goodIn_r _ [13, 14, 15, 12, 16, 17, 18] (by decide +kernel) (by decide +kernel)) (goodIn_sub (fun _ h => List.mem_cons_of_mem _ (List.mem_append_right _ h)) (by decide +kernel))
set_option maxRecDepth 20000 in
theorem gX5_project_X5_needHeld : GoodIn wsX5_project (va_wsS RX5 64 yX5_needHeld wsX5_needHeld) := goodIn_app (goodIn_of _ (by decide +kernel)) ggX5_project_X5_needHeld
set_option maxRecDepth 20000 in
theorem ggX5_project_X2_hasNumbersAlone : GoodIn wsX5_project wsX2_hasNumbersAlone := goodIn_r _ [23, 24, 25, 26, 27, 22, 28, 29, 30, 70, 71] (by decide +kernel) (by decide +kernel)
set_option maxRecDepth 20000 in
theorem gX5_project_X2_hasNumbersAlone : GoodIn wsX5_project (wsV RX5 206 RX2 yX2_hasNumbersAlone wsX2_hasNumbersAlone) := goodIn_app (goodIn_of _ (by decide +kernel)) ggX5_project_X2_hasNumbersAlone
set_option maxRecDepth 20000 in
theorem ggX5_project_X5_hasNumbers : GoodIn wsX5_project wsX5_hasNumbers := goodIn_r _ [33, 34] (by decide +kernel) (by decide +kernel)
set_option maxRecDepth 20000 in
theorem gX5_project_X5_hasNumbers : GoodIn wsX5_project (va_wsS RX5 182 yX5_hasNumbers wsX5_hasNumbers) := goodIn_app (goodIn_of _ (by decide +kernel)) ggX5_project_X5_hasNumbers
set_option maxRecDepth 20000 in
theorem ggX5_project_X2_putProjection : GoodIn wsX5_project wsX2_putProjection := goodIn_r _ [38, 24, 29, 39, 40, 41, 42, 43, 44, 45, 22, 46, 47, 48, 49, 70, 71] (by decide +kernel) (by decide +kernel)
set_option maxRecDepth 20000 in
theorem gX5_project_X2_putProjection : GoodIn wsX5_project (wsV RX5 211 RX2 yX2_putProjection wsX2_putProjection) := goodIn_app (goodIn_of _ (by decide +kernel)) ggX5_project_X2_putProjection
set_option maxRecDepth 20000 in
theorem ggX5_project_X5_needPartsWithinLimit : GoodIn wsX5_project wsX5_needPartsWithinLimit := goodIn_ca (goodIn_r _ [52, 1, 2, 53, 54, 55, 12, 56, 34] (by decide +kernel) (by decide +kernel)) (goodIn_sub (fun _ h => List.mem_cons_of_mem _ (List.mem_append_left _ (List.mem_append_right _ h))) (by decide +kernel))
set_option maxRecDepth 20000 in
theorem gX5_project_X5_needPartsWithinLimit : GoodIn wsX5_project (va_wsS RX5 192 yX5_needPartsWithinLimit wsX5_needPartsWithinLimit) := goodIn_app (goodIn_of _ (by decide +kernel)) ggX5_project_X5_needPartsWithinLimit
set_option maxRecDepth 20000 in
theorem ggX5_project_X5_areAlike : GoodIn wsX5_project wsX5_areAlike := goodIn_r _ [59] (by decide +kernel) (by decide +kernel)
set_option maxRecDepth 20000 in
theorem gX5_project_X5_areAlike : GoodIn wsX5_project (va_wsS RX5 214 yX5_areAlike wsX5_areAlike) := goodIn_app (goodIn_of _ (by decide +kernel)) ggX5_project_X5_areAlike
theorem dX5_project_0 : decode cX5_project 0 = .ok (.iload_n 1, 1) := by decide +kernel
theorem dX5_project_1 : decode cX5_project 1 = .ok (.invokestatic 64, 3) := by decide +kernel
theorem dX5_project_4 : decode cX5_project 4 = .ok (.iload_n 2, 1) := by decide +kernel
theorem dX5_project_5 : decode cX5_project 5 = .ok (.invokestatic 64, 3) := by decide +kernel
theorem dX5_project_8 : decode cX5_project 8 = .ok (.iload_n 3, 1) := by decide +kernel
theorem dX5_project_9 : decode cX5_project 9 = .ok (.invokestatic 64, 3) := by decide +kernel
theorem dX5_project_12 : decode cX5_project 12 = .ok (.aload_n 0, 1) := by decide +kernel
theorem dX5_project_13 : decode cX5_project 13 = .ok (.getfield 17, 3) := by decide +kernel
theorem dX5_project_16 : decode cX5_project 16 = .ok (.iload_n 1, 1) := by decide +kernel
theorem dX5_project_17 : decode cX5_project 17 = .ok (.aaload, 1) := by decide +kernel
theorem dX5_project_18 : decode cX5_project 18 = .ok (.astore 4, 2) := by decide +kernel
theorem dX5_project_20 : decode cX5_project 20 = .ok (.aload 4, 2) := by decide +kernel
theorem dX5_project_22 : decode cX5_project 22 = .ok (.invokevirtual 206, 3) := by decide +kernel
theorem dX5_project_25 : decode cX5_project 25 = .ok (.ifCond .eq 20, 3) := by decide +kernel
theorem dX5_project_28 : decode cX5_project 28 = .ok (.aload_n 0, 1) := by decide +kernel
theorem dX5_project_29 : decode cX5_project 29 = .ok (.getfield 23, 3) := by decide +kernel
theorem dX5_project_32 : decode cX5_project 32 = .ok (.iload_n 2, 1) := by decide +kernel
theorem dX5_project_33 : decode cX5_project 33 = .ok (.aaload, 1) := by decide +kernel
theorem dX5_project_34 : decode cX5_project 34 = .ok (.aload 4, 2) := by decide +kernel
theorem dX5_project_36 : decode cX5_project 36 = .ok (.getfield 141, 3) := by decide +kernel
theorem dX5_project_39 : decode cX5_project 39 = .ok (.invokestatic 182, 3) := by decide +kernel
theorem dX5_project_42 : decode cX5_project 42 = .ok (.ifCond .ne 13, 3) := by decide +kernel
theorem dX5_project_45 : decode cX5_project 45 = .ok (.new 125, 3) := by decide +kernel
theorem dX5_project_48 : decode cX5_project 48 = .ok (.dup, 1) := by decide +kernel
theorem dX5_project_49 : decode cX5_project 49 = .ok (.ldc 209, 2) := by decide +kernel
theorem dX5_project_51 : decode cX5_project 51 = .ok (.invokespecial 129, 3) := by decide +kernel
theorem dX5_project_54 : decode cX5_project 54 = .ok (.athrow, 1) := by decide +kernel
theorem dX5_project_55 : decode cX5_project 55 = .ok (.aload 4, 2) := by decide +kernel
theorem dX5_project_57 : decode cX5_project 57 = .ok (.aload_n 0, 1) := by decide +kernel
theorem dX5_project_58 : decode cX5_project 58 = .ok (.getfield 23, 3) := by decide +kernel
theorem dX5_project_61 : decode cX5_project 61 = .ok (.iload_n 2, 1) := by decide +kernel
theorem dX5_project_62 : decode cX5_project 62 = .ok (.aaload, 1) := by decide +kernel
theorem dX5_project_63 : decode cX5_project 63 = .ok (.aload_n 0, 1) := by decide +kernel
theorem dX5_project_64 : decode cX5_project 64 = .ok (.getfield 46, 3) := by decide +kernel
theorem dX5_project_67 : decode cX5_project 67 = .ok (.invokevirtual 211, 3) := by decide +kernel
theorem dX5_project_70 : decode cX5_project 70 = .ok (.aload_n 0, 1) := by decide +kernel
theorem dX5_project_71 : decode cX5_project 71 = .ok (.getfield 46, 3) := by decide +kernel
theorem dX5_project_74 : decode cX5_project 74 = .ok (.aload 4, 2) := by decide +kernel
theorem dX5_project_76 : decode cX5_project 76 = .ok (.getfield 141, 3) := by decide +kernel
theorem dX5_project_79 : decode cX5_project 79 = .ok (.invokestatic 192, 3) := by decide +kernel
theorem dX5_project_82 : decode cX5_project 82 = .ok (.aload_n 0, 1) := by decide +kernel
theorem dX5_project_83 : decode cX5_project 83 = .ok (.getfield 46, 3) := by decide +kernel
theorem dX5_project_86 : decode cX5_project 86 = .ok (.aload_n 0, 1) := by decide +kernel
theorem dX5_project_87 : decode cX5_project 87 = .ok (.getfield 23, 3) := by decide +kernel
theorem dX5_project_90 : decode cX5_project 90 = .ok (.iload_n 2, 1) := by decide +kernel
theorem dX5_project_91 : decode cX5_project 91 = .ok (.aaload, 1) := by decide +kernel
theorem dX5_project_92 : decode cX5_project 92 = .ok (.aload 4, 2) := by decide +kernel
theorem dX5_project_94 : decode cX5_project 94 = .ok (.getfield 141, 3) := by decide +kernel
theorem dX5_project_97 : decode cX5_project 97 = .ok (.invokestatic 214, 3) := by decide +kernel
theorem dX5_project_100 : decode cX5_project 100 = .ok (.istore 5, 2) := by decide +kernel
theorem dX5_project_102 : decode cX5_project 102 = .ok (.aload_n 0, 1) := by decide +kernel
theorem dX5_project_103 : decode cX5_project 103 = .ok (.getfield 46, 3) := by decide +kernel
theorem dX5_project_106 : decode cX5_project 106 = .ok (.iconst 0, 1) := by decide +kernel
theorem dX5_project_107 : decode cX5_project 107 = .ok (.aload_n 0, 1) := by decide +kernel
theorem dX5_project_108 : decode cX5_project 108 = .ok (.getfield 23, 3) := by decide +kernel
theorem dX5_project_111 : decode cX5_project 111 = .ok (.iload_n 3, 1) := by decide +kernel
theorem dX5_project_112 : decode cX5_project 112 = .ok (.aaload, 1) := by decide +kernel
theorem dX5_project_113 : decode cX5_project 113 = .ok (.iconst 0, 1) := by decide +kernel
theorem dX5_project_114 : decode cX5_project 114 = .ok (.aload 4, 2) := by decide +kernel
theorem dX5_project_116 : decode cX5_project 116 = .ok (.getfield 141, 3) := by decide +kernel
theorem dX5_project_119 : decode cX5_project 119 = .ok (.invokestatic 200, 3) := by decide +kernel
theorem dX5_project_122 : decode cX5_project 122 = .ok (.iload 5, 2) := by decide +kernel
theorem dX5_project_124 : decode cX5_project 124 = .ok (.ireturn, 1) := by decide +kernel
set_option maxRecDepth 20000 in
theorem ggX5_edges_X5_needIndex : GoodIn wsX5_edges wsX5_needIndex := goodIn_ca (goodIn_r _ [7, 8, 9] (by decide +kernel) (by decide +kernel)) (goodIn_sub (fun _ h => List.mem_cons_of_mem _ (List.mem_append_right _ h)) (by decide +kernel))
set_option maxRecDepth 20000 in
theorem gX5_edges_X5_needIndex : GoodIn wsX5_edges (va_wsS RX5 68 yX5_needIndex wsX5_needIndex) := goodIn_app (goodIn_of _ (by decide +kernel)) ggX5_edges_X5_needIndex
set_option maxRecDepth 20000 in
theorem ggX5_edges_X5_needWithin : GoodIn wsX5_edges wsX5_needWithin := goodIn_ca (goodIn_r _ [12, 1, 2] (by decide +kernel) (by decide +kernel)) (goodIn_sub (fun _ h => List.mem_cons_of_mem _ (List.mem_append_left _ (List.mem_append_right _ h))) (by decide +kernel))
set_option maxRecDepth 20000 in
theorem gX5_edges_X5_needWithin : GoodIn wsX5_edges (va_wsS RX5 78 yX5_needWithin wsX5_needWithin) := goodIn_app (goodIn_of _ (by decide +kernel)) ggX5_edges_X5_needWithin
theorem dX5_edges_0 : decode cX5_edges 0 = .ok (.iload_n 1, 1) := by decide +kernel
theorem dX5_edges_1 : decode cX5_edges 1 = .ok (.iconst 5, 1) := by decide +kernel
theorem dX5_edges_2 : decode cX5_edges 2 = .ok (.invokestatic 68, 3) := by decide +kernel
theorem dX5_edges_5 : decode cX5_edges 5 = .ok (.iload_n 2, 1) := by decide +kernel
theorem dX5_edges_6 : decode cX5_edges 6 = .ok (.iconst 5, 1) := by decide +kernel
theorem dX5_edges_7 : decode cX5_edges 7 = .ok (.invokestatic 68, 3) := by decide +kernel
theorem dX5_edges_10 : decode cX5_edges 10 = .ok (.iload_n 1, 1) := by decide +kernel
theorem dX5_edges_11 : decode cX5_edges 11 = .ok (.iload_n 2, 1) := by decide +kernel
theorem dX5_edges_12 : decode cX5_edges 12 = .ok (.if_icmp .ne 13, 3) := by decide +kernel
theorem dX5_edges_15 : decode cX5_edges 15 = .ok (.new 224, 3) := by decide +kernel
theorem dX5_edges_18 : decode cX5_edges 18 = .ok (.dup, 1) := by decide +kernel
theorem dX5_edges_19 : decode cX5_edges 19 = .ok (.ldc 226, 2) := by decide +kernel
theorem dX5_edges_21 : decode cX5_edges 21 = .ok (.invokespecial 228, 3) := by decide +kernel
theorem dX5_edges_24 : decode cX5_edges 24 = .ok (.athrow, 1) := by decide +kernel
theorem dX5_edges_25 : decode cX5_edges 25 = .ok (.iload_n 3, 1) := by decide +kernel
theorem dX5_edges_26 : decode cX5_edges 26 = .ok (.iconst 0, 1) := by decide +kernel
theorem dX5_edges_27 : decode cX5_edges 27 = .ok (.iconst 3, 1) := by decide +kernel
theorem dX5_edges_28 : decode cX5_edges 28 = .ok (.invokestatic 78, 3) := by decide +kernel
theorem dX5_edges_31 : decode cX5_edges 31 = .ok (.aload_n 0, 1) := by decide +kernel
theorem dX5_edges_32 : decode cX5_edges 32 = .ok (.getfield 29, 3) := by decide +kernel
theorem dX5_edges_35 : decode cX5_edges 35 = .ok (.getfield 229, 3) := by decide +kernel
theorem dX5_edges_38 : decode cX5_edges 38 = .ok (.iload_n 1, 1) := by decide +kernel
theorem dX5_edges_39 : decode cX5_edges 39 = .ok (.aaload, 1) := by decide +kernel
theorem dX5_edges_40 : decode cX5_edges 40 = .ok (.iload_n 2, 1) := by decide +kernel
theorem dX5_edges_41 : decode cX5_edges 41 = .ok (.iaload, 1) := by decide +kernel
theorem dX5_edges_42 : decode cX5_edges 42 = .ok (.istore 4, 2) := by decide +kernel
theorem dX5_edges_44 : decode cX5_edges 44 = .ok (.aload_n 0, 1) := by decide +kernel
theorem dX5_edges_45 : decode cX5_edges 45 = .ok (.getfield 29, 3) := by decide +kernel
theorem dX5_edges_48 : decode cX5_edges 48 = .ok (.getfield 229, 3) := by decide +kernel
theorem dX5_edges_51 : decode cX5_edges 51 = .ok (.iload_n 1, 1) := by decide +kernel
theorem dX5_edges_52 : decode cX5_edges 52 = .ok (.aaload, 1) := by decide +kernel
theorem dX5_edges_53 : decode cX5_edges 53 = .ok (.iload_n 2, 1) := by decide +kernel
theorem dX5_edges_54 : decode cX5_edges 54 = .ok (.iload_n 3, 1) := by decide +kernel
theorem dX5_edges_55 : decode cX5_edges 55 = .ok (.iastore, 1) := by decide +kernel
theorem dX5_edges_56 : decode cX5_edges 56 = .ok (.aload_n 0, 1) := by decide +kernel
theorem dX5_edges_57 : decode cX5_edges 57 = .ok (.getfield 29, 3) := by decide +kernel
theorem dX5_edges_60 : decode cX5_edges 60 = .ok (.getfield 229, 3) := by decide +kernel
theorem dX5_edges_63 : decode cX5_edges 63 = .ok (.iload_n 2, 1) := by decide +kernel
theorem dX5_edges_64 : decode cX5_edges 64 = .ok (.aaload, 1) := by decide +kernel
theorem dX5_edges_65 : decode cX5_edges 65 = .ok (.iload_n 1, 1) := by decide +kernel
theorem dX5_edges_66 : decode cX5_edges 66 = .ok (.iload_n 3, 1) := by decide +kernel
theorem dX5_edges_67 : decode cX5_edges 67 = .ok (.iastore, 1) := by decide +kernel
theorem dX5_edges_68 : decode cX5_edges 68 = .ok (.iload 4, 2) := by decide +kernel
theorem dX5_edges_70 : decode cX5_edges 70 = .ok (.ireturn, 1) := by decide +kernel
set_option maxRecDepth 20000 in
theorem ggX5_chips_X5_needIndex : GoodIn wsX5_chips wsX5_needIndex := goodIn_ca (goodIn_r _ [5, 6, 7] (by decide +kernel) (by decide +kernel)) (goodIn_sub (fun _ h => List.mem_cons_of_mem _ (List.mem_append_left _ (List.mem_append_right _ h))) (by decide +kernel))
set_option maxRecDepth 20000 in
theorem gX5_chips_X5_needIndex : GoodIn wsX5_chips (va_wsS RX5 68 yX5_needIndex wsX5_needIndex) := goodIn_app (goodIn_of _ (by decide +kernel)) ggX5_chips_X5_needIndex
set_option maxRecDepth 20000 in
theorem ggX5_chips_X5_needWithin : GoodIn wsX5_chips wsX5_needWithin := goodIn_ca (goodIn_r _ [10, 11, 12] (by decide +kernel) (by decide +kernel)) (goodIn_sub (fun _ h => List.mem_cons_of_mem _ (List.mem_append_right _ h)) (by decide +kernel))
set_option maxRecDepth 20000 in
theorem gX5_chips_X5_needWithin : GoodIn wsX5_chips (va_wsS RX5 78 yX5_needWithin wsX5_needWithin) := goodIn_app (goodIn_of _ (by decide +kernel)) ggX5_chips_X5_needWithin
theorem dX5_chips_0 : decode cX5_chips 0 = .ok (.iload_n 1, 1) := by decide +kernel
theorem dX5_chips_1 : decode cX5_chips 1 = .ok (.iconst 5, 1) := by decide +kernel
theorem dX5_chips_2 : decode cX5_chips 2 = .ok (.invokestatic 68, 3) := by decide +kernel
theorem dX5_chips_5 : decode cX5_chips 5 = .ok (.iload_n 2, 1) := by decide +kernel
theorem dX5_chips_6 : decode cX5_chips 6 = .ok (.bipush (-99), 2) := by decide +kernel
theorem dX5_chips_8 : decode cX5_chips 8 = .ok (.bipush 99, 2) := by decide +kernel
theorem dX5_chips_10 : decode cX5_chips 10 = .ok (.invokestatic 78, 3) := by decide +kernel
theorem dX5_chips_13 : decode cX5_chips 13 = .ok (.aload_n 0, 1) := by decide +kernel
theorem dX5_chips_14 : decode cX5_chips 14 = .ok (.getfield 29, 3) := by decide +kernel
theorem dX5_chips_17 : decode cX5_chips 17 = .ok (.getfield 232, 3) := by decide +kernel
theorem dX5_chips_20 : decode cX5_chips 20 = .ok (.iload_n 1, 1) := by decide +kernel
theorem dX5_chips_21 : decode cX5_chips 21 = .ok (.iaload, 1) := by decide +kernel
theorem dX5_chips_22 : decode cX5_chips 22 = .ok (.istore_n 3, 1) := by decide +kernel
theorem dX5_chips_23 : decode cX5_chips 23 = .ok (.aload_n 0, 1) := by decide +kernel
theorem dX5_chips_24 : decode cX5_chips 24 = .ok (.getfield 29, 3) := by decide +kernel
theorem dX5_chips_27 : decode cX5_chips 27 = .ok (.getfield 232, 3) := by decide +kernel
theorem dX5_chips_30 : decode cX5_chips 30 = .ok (.iload_n 1, 1) := by decide +kernel
theorem dX5_chips_31 : decode cX5_chips 31 = .ok (.iload_n 2, 1) := by decide +kernel
theorem dX5_chips_32 : decode cX5_chips 32 = .ok (.iastore, 1) := by decide +kernel
theorem dX5_chips_33 : decode cX5_chips 33 = .ok (.iload_n 3, 1) := by decide +kernel
theorem dX5_chips_34 : decode cX5_chips 34 = .ok (.ireturn, 1) := by decide +kernel
set_option maxRecDepth 20000 in
theorem ggX5_chipsAt_X5_needIndex : GoodIn wsX5_chipsAt wsX5_needIndex := goodIn_ca (goodIn_r _ [5, 6, 7] (by decide +kernel) (by decide +kernel)) (goodIn_sub (fun _ h => List.mem_cons_of_mem _ (List.mem_append_right _ h)) (by decide +kernel))
set_option maxRecDepth 20000 in
theorem gX5_chipsAt_X5_needIndex : GoodIn wsX5_chipsAt (va_wsS RX5 68 yX5_needIndex wsX5_needIndex) := goodIn_app (goodIn_of _ (by decide +kernel)) ggX5_chipsAt_X5_needIndex
theorem dX5_chipsAt_0 : decode cX5_chipsAt 0 = .ok (.iload_n 1, 1) := by decide +kernel
theorem dX5_chipsAt_1 : decode cX5_chipsAt 1 = .ok (.iconst 5, 1) := by decide +kernel
theorem dX5_chipsAt_2 : decode cX5_chipsAt 2 = .ok (.invokestatic 68, 3) := by decide +kernel
theorem dX5_chipsAt_5 : decode cX5_chipsAt 5 = .ok (.aload_n 0, 1) := by decide +kernel
theorem dX5_chipsAt_6 : decode cX5_chipsAt 6 = .ok (.getfield 29, 3) := by decide +kernel
theorem dX5_chipsAt_9 : decode cX5_chipsAt 9 = .ok (.getfield 232, 3) := by decide +kernel
theorem dX5_chipsAt_12 : decode cX5_chipsAt 12 = .ok (.iload_n 1, 1) := by decide +kernel
theorem dX5_chipsAt_13 : decode cX5_chipsAt 13 = .ok (.iaload, 1) := by decide +kernel
theorem dX5_chipsAt_14 : decode cX5_chipsAt 14 = .ok (.ireturn, 1) := by decide +kernel
set_option maxRecDepth 20000 in
theorem ggX5_fire_X5_needIndex : GoodIn wsX5_fire wsX5_needIndex := goodIn_ca (goodIn_r _ [11, 12, 13] (by decide +kernel) (by decide +kernel)) (goodIn_sub (fun _ h => List.mem_cons_of_mem _ (List.mem_append_right _ h)) (by decide +kernel))
set_option maxRecDepth 20000 in
theorem gX5_fire_X5_needIndex : GoodIn wsX5_fire (va_wsS RX5 68 yX5_needIndex wsX5_needIndex) := goodIn_app (goodIn_of _ (by decide +kernel)) ggX5_fire_X5_needIndex
set_option maxRecDepth 20000 in
theorem ggX5_fire_X3_copyChips : GoodIn wsX5_fire wsX3_copyChips := goodIn_r _ [18, 19, 20, 21, 5, 6, 7, 56, 57, 58, 59, 60] (by decide +kernel) (by decide +kernel)
set_option maxRecDepth 20000 in
theorem gX5_fire_X3_copyChips : GoodIn wsX5_fire (wsV RX5 235 RX3 yX3_copyChips wsX3_copyChips) := goodIn_app (goodIn_of _ (by decide +kernel)) ggX5_fire_X3_copyChips
set_option maxRecDepth 20000 in
theorem ggX5_fire_X3_startPile : GoodIn wsX5_fire wsX3_startPile := goodIn_r _ [25, 20, 56, 57, 58, 59, 60] (by decide +kernel) (by decide +kernel)
set_option maxRecDepth 20000 in
theorem gX5_fire_X3_startPile : GoodIn wsX5_fire (wsV RX5 238 RX3 yX3_startPile wsX3_startPile) := goodIn_app (goodIn_of _ (by decide +kernel)) ggX5_fire_X3_startPile
set_option maxRecDepth 20000 in
theorem ggX5_fire_X3_fireSet : GoodIn wsX5_fire wsX3_fireSet := goodIn_r _ [29, 30, 31, 32, 17, 33, 34, 35, 36, 37, 38, 56, 57, 58, 59, 60] (by decide +kernel) (by decide +kernel)
set_option maxRecDepth 20000 in
theorem gX5_fire_X3_fireSet : GoodIn wsX5_fire (wsV RX5 242 RX3 yX3_fireSet wsX3_fireSet) := goodIn_app (goodIn_of _ (by decide +kernel)) ggX5_fire_X3_fireSet
set_option maxRecDepth 20000 in
theorem ggX5_fire_X3_isWithinLimit : GoodIn wsX5_fire wsX3_isWithinLimit := goodIn_r _ [42, 43, 10, 44, 45] (by decide +kernel) (by decide +kernel)
set_option maxRecDepth 20000 in
theorem gX5_fire_X3_isWithinLimit : GoodIn wsX5_fire (wsV RX5 246 RX3 yX3_isWithinLimit wsX3_isWithinLimit) := goodIn_app (goodIn_of _ (by decide +kernel)) ggX5_fire_X3_isWithinLimit
theorem dX5_fire_0 : decode cX5_fire 0 = .ok (.iload_n 1, 1) := by decide +kernel
theorem dX5_fire_1 : decode cX5_fire 1 = .ok (.iconst 5, 1) := by decide +kernel
theorem dX5_fire_2 : decode cX5_fire 2 = .ok (.invokestatic 68, 3) := by decide +kernel
theorem dX5_fire_5 : decode cX5_fire 5 = .ok (.aload_n 0, 1) := by decide +kernel
theorem dX5_fire_6 : decode cX5_fire 6 = .ok (.getfield 29, 3) := by decide +kernel
theorem dX5_fire_9 : decode cX5_fire 9 = .ok (.invokevirtual 235, 3) := by decide +kernel
theorem dX5_fire_12 : decode cX5_fire 12 = .ok (.aload_n 0, 1) := by decide +kernel
theorem dX5_fire_13 : decode cX5_fire 13 = .ok (.getfield 29, 3) := by decide +kernel
theorem dX5_fire_16 : decode cX5_fire 16 = .ok (.aload_n 0, 1) := by decide +kernel
theorem dX5_fire_17 : decode cX5_fire 17 = .ok (.getfield 29, 3) := by decide +kernel
theorem dX5_fire_20 : decode cX5_fire 20 = .ok (.invokevirtual 238, 3) := by decide +kernel
theorem dX5_fire_23 : decode cX5_fire 23 = .ok (.iconst 1, 1) := by decide +kernel
theorem dX5_fire_24 : decode cX5_fire 24 = .ok (.iload_n 1, 1) := by decide +kernel
theorem dX5_fire_25 : decode cX5_fire 25 = .ok (.ishl, 1) := by decide +kernel
theorem dX5_fire_26 : decode cX5_fire 26 = .ok (.iconst 1, 1) := by decide +kernel
theorem dX5_fire_27 : decode cX5_fire 27 = .ok (.invokevirtual 242, 3) := by decide +kernel
theorem dX5_fire_30 : decode cX5_fire 30 = .ok (.aload_n 0, 1) := by decide +kernel
theorem dX5_fire_31 : decode cX5_fire 31 = .ok (.getfield 29, 3) := by decide +kernel
theorem dX5_fire_34 : decode cX5_fire 34 = .ok (.aload_n 0, 1) := by decide +kernel
theorem dX5_fire_35 : decode cX5_fire 35 = .ok (.getfield 29, 3) := by decide +kernel
theorem dX5_fire_38 : decode cX5_fire 38 = .ok (.invokevirtual 238, 3) := by decide +kernel
theorem dX5_fire_41 : decode cX5_fire 41 = .ok (.invokevirtual 246, 3) := by decide +kernel
theorem dX5_fire_44 : decode cX5_fire 44 = .ok (.ifCond .ne 13, 3) := by decide +kernel
theorem dX5_fire_47 : decode cX5_fire 47 = .ok (.new 125, 3) := by decide +kernel
theorem dX5_fire_50 : decode cX5_fire 50 = .ok (.dup, 1) := by decide +kernel
theorem dX5_fire_51 : decode cX5_fire 51 = .ok (.ldc 249, 2) := by decide +kernel
theorem dX5_fire_53 : decode cX5_fire 53 = .ok (.invokespecial 129, 3) := by decide +kernel
theorem dX5_fire_56 : decode cX5_fire 56 = .ok (.athrow, 1) := by decide +kernel
theorem dX5_fire_57 : decode cX5_fire 57 = .ok (.aload_n 0, 1) := by decide +kernel
theorem dX5_fire_58 : decode cX5_fire 58 = .ok (.getfield 29, 3) := by decide +kernel
theorem dX5_fire_61 : decode cX5_fire 61 = .ok (.invokevirtual 238, 3) := by decide +kernel
theorem dX5_fire_64 : decode cX5_fire 64 = .ok (.iconst 0, 1) := by decide +kernel
theorem dX5_fire_65 : decode cX5_fire 65 = .ok (.aload_n 0, 1) := by decide +kernel
theorem dX5_fire_66 : decode cX5_fire 66 = .ok (.getfield 29, 3) := by decide +kernel
theorem dX5_fire_69 : decode cX5_fire 69 = .ok (.getfield 232, 3) := by decide +kernel
theorem dX5_fire_72 : decode cX5_fire 72 = .ok (.iconst 0, 1) := by decide +kernel
theorem dX5_fire_73 : decode cX5_fire 73 = .ok (.iconst 5, 1) := by decide +kernel
theorem dX5_fire_74 : decode cX5_fire 74 = .ok (.invokestatic 200, 3) := by decide +kernel
theorem dX5_fire_77 : decode cX5_fire 77 = .ok (.aload_n 0, 1) := by decide +kernel
theorem dX5_fire_78 : decode cX5_fire 78 = .ok (.getfield 29, 3) := by decide +kernel
theorem dX5_fire_81 : decode cX5_fire 81 = .ok (.getfield 232, 3) := by decide +kernel
theorem dX5_fire_84 : decode cX5_fire 84 = .ok (.iload_n 1, 1) := by decide +kernel
theorem dX5_fire_85 : decode cX5_fire 85 = .ok (.iaload, 1) := by decide +kernel
theorem dX5_fire_86 : decode cX5_fire 86 = .ok (.ireturn, 1) := by decide +kernel
set_option maxRecDepth 20000 in
theorem ggX5_reduced_X5_needIndex : GoodIn wsX5_reduced wsX5_needIndex := goodIn_ca (goodIn_r _ [7, 8, 9] (by decide +kernel) (by decide +kernel)) (goodIn_sub (fun _ h => List.mem_cons_of_mem _ (List.mem_append_right _ h)) (by decide +kernel))
set_option maxRecDepth 20000 in
theorem gX5_reduced_X5_needIndex : GoodIn wsX5_reduced (va_wsS RX5 68 yX5_needIndex wsX5_needIndex) := goodIn_app (goodIn_of _ (by decide +kernel)) ggX5_reduced_X5_needIndex
set_option maxRecDepth 20000 in
theorem ggX5_reduced_X3_hasVertex : GoodIn wsX5_reduced wsX3_hasVertex := goodIn_r _ [14, 15, 16, 17, 13, 18, 19, 20, 21, 22, 23, 99, 100, 101, 102, 103] (by decide +kernel) (by decide +kernel)
set_option maxRecDepth 20000 in
theorem gX5_reduced_X3_hasVertex : GoodIn wsX5_reduced (wsV RX5 251 RX3 yX3_hasVertex wsX3_hasVertex) := goodIn_app (goodIn_of _ (by decide +kernel)) ggX5_reduced_X3_hasVertex
set_option maxRecDepth 20000 in
theorem ggX5_reduced_X5_needConnected : GoodIn wsX5_reduced wsX5_needConnected := goodIn_ca (goodIn_r _ [27, 1, 2, 3, 28, 29, 30, 13, 31, 32, 33, 34, 35, 36, 19, 20, 21, 22, 23, 37, 11, 12, 14, 15, 16, 17, 18, 38, 39, 40, 41, 89, 90, 91, 92, 93, 94, 95, 96, 97, 98, 99, 100, 101, 102, 103] (by decide +kernel) (by decide +kernel)) (goodIn_sub (fun _ h => List.mem_cons_of_mem _ (List.mem_append_left _ (List.mem_append_right _ h))) (by decide +kernel))
set_option maxRecDepth 20000 in
theorem gX5_reduced_X5_needConnected : GoodIn wsX5_reduced (wsV RX5 256 RX5 yX5_needConnected wsX5_needConnected) := goodIn_app (goodIn_of _ (by decide +kernel)) ggX5_reduced_X5_needConnected
set_option maxRecDepth 20000 in
theorem ggX5_reduced_X3_copyChips : GoodIn wsX5_reduced wsX3_copyChips := goodIn_r _ [45, 46, 47, 48, 49, 50, 51, 99, 100, 101, 102, 103] (by decide +kernel) (by decide +kernel)
set_option maxRecDepth 20000 in
theorem gX5_reduced_X3_copyChips : GoodIn wsX5_reduced (wsV RX5 235 RX3 yX3_copyChips wsX3_copyChips) := goodIn_app (goodIn_of _ (by decide +kernel)) ggX5_reduced_X3_copyChips
set_option maxRecDepth 20000 in
theorem ggX5_reduced_X3_spreadFrom : GoodIn wsX5_reduced wsX3_spreadFrom := goodIn_r _ [36, 32, 19, 20, 21, 13, 22, 23, 99, 100, 101, 102, 103] (by decide +kernel) (by decide +kernel)
set_option maxRecDepth 20000 in
theorem gX5_reduced_X3_spreadFrom : GoodIn wsX5_reduced (wsV RX5 259 RX3 yX3_spreadFrom wsX3_spreadFrom) := goodIn_app (goodIn_of _ (by decide +kernel)) ggX5_reduced_X3_spreadFrom
set_option maxRecDepth 20000 in
theorem ggX5_reduced_X3_startPile : GoodIn wsX5_reduced wsX3_startPile := goodIn_r _ [56, 47, 99, 100, 101, 102, 103] (by decide +kernel) (by decide +kernel)
set_option maxRecDepth 20000 in
theorem gX5_reduced_X3_startPile : GoodIn wsX5_reduced (wsV RX5 238 RX3 yX3_startPile wsX3_startPile) := goodIn_app (goodIn_of _ (by decide +kernel)) ggX5_reduced_X3_startPile
set_option maxRecDepth 20000 in
theorem ggX5_reduced_X3_reduce : GoodIn wsX5_reduced wsX3_reduce := goodIn_r _ [60, 61, 62, 63, 64, 13, 65, 32, 66, 67, 68, 69, 19, 20, 21, 22, 23, 38, 39, 40, 41, 70, 71, 72, 73, 74, 75, 76, 77, 78, 79, 80, 81, 82, 83, 84, 85, 86, 87, 88, 99, 100, 101, 102, 103] (by decide +kernel) (by decide +kernel)
set_option maxRecDepth 20000 in
theorem gX5_reduced_X3_reduce : GoodIn wsX5_reduced (wsV RX5 262 RX3 yX3_reduce wsX3_reduce) := goodIn_app (goodIn_of _ (by decide +kernel)) ggX5_reduced_X3_reduce
theorem dX5_reduced_0 : decode cX5_reduced 0 = .ok (.iload_n 1, 1) := by decide +kernel
theorem dX5_reduced_1 : decode cX5_reduced 1 = .ok (.iconst 5, 1) := by decide +kernel
theorem dX5_reduced_2 : decode cX5_reduced 2 = .ok (.invokestatic 68, 3) := by decide +kernel
theorem dX5_reduced_5 : decode cX5_reduced 5 = .ok (.iload_n 2, 1) := by decide +kernel
theorem dX5_reduced_6 : decode cX5_reduced 6 = .ok (.iconst 5, 1) := by decide +kernel
theorem dX5_reduced_7 : decode cX5_reduced 7 = .ok (.invokestatic 68, 3) := by decide +kernel
theorem dX5_reduced_10 : decode cX5_reduced 10 = .ok (.aload_n 0, 1) := by decide +kernel
theorem dX5_reduced_11 : decode cX5_reduced 11 = .ok (.getfield 29, 3) := by decide +kernel
theorem dX5_reduced_14 : decode cX5_reduced 14 = .ok (.iload_n 1, 1) := by decide +kernel
theorem dX5_reduced_15 : decode cX5_reduced 15 = .ok (.invokevirtual 251, 3) := by decide +kernel
theorem dX5_reduced_18 : decode cX5_reduced 18 = .ok (.ifCond .eq 14, 3) := by decide +kernel
theorem dX5_reduced_21 : decode cX5_reduced 21 = .ok (.aload_n 0, 1) := by decide +kernel
theorem dX5_reduced_22 : decode cX5_reduced 22 = .ok (.getfield 29, 3) := by decide +kernel
theorem dX5_reduced_25 : decode cX5_reduced 25 = .ok (.iload_n 2, 1) := by decide +kernel
theorem dX5_reduced_26 : decode cX5_reduced 26 = .ok (.invokevirtual 251, 3) := by decide +kernel
theorem dX5_reduced_29 : decode cX5_reduced 29 = .ok (.ifCond .ne 13, 3) := by decide +kernel
theorem dX5_reduced_32 : decode cX5_reduced 32 = .ok (.new 125, 3) := by decide +kernel
theorem dX5_reduced_35 : decode cX5_reduced 35 = .ok (.dup, 1) := by decide +kernel
theorem dX5_reduced_36 : decode cX5_reduced 36 = .ok (.ldc 254, 2) := by decide +kernel
theorem dX5_reduced_38 : decode cX5_reduced 38 = .ok (.invokespecial 129, 3) := by decide +kernel
theorem dX5_reduced_41 : decode cX5_reduced 41 = .ok (.athrow, 1) := by decide +kernel
theorem dX5_reduced_42 : decode cX5_reduced 42 = .ok (.aload_n 0, 1) := by decide +kernel
theorem dX5_reduced_43 : decode cX5_reduced 43 = .ok (.invokevirtual 256, 3) := by decide +kernel
theorem dX5_reduced_46 : decode cX5_reduced 46 = .ok (.aload_n 0, 1) := by decide +kernel
theorem dX5_reduced_47 : decode cX5_reduced 47 = .ok (.getfield 29, 3) := by decide +kernel
theorem dX5_reduced_50 : decode cX5_reduced 50 = .ok (.invokevirtual 235, 3) := by decide +kernel
theorem dX5_reduced_53 : decode cX5_reduced 53 = .ok (.aload_n 0, 1) := by decide +kernel
theorem dX5_reduced_54 : decode cX5_reduced 54 = .ok (.getfield 29, 3) := by decide +kernel
theorem dX5_reduced_57 : decode cX5_reduced 57 = .ok (.iload_n 1, 1) := by decide +kernel
theorem dX5_reduced_58 : decode cX5_reduced 58 = .ok (.invokevirtual 259, 3) := by decide +kernel
theorem dX5_reduced_61 : decode cX5_reduced 61 = .ok (.aload_n 0, 1) := by decide +kernel
theorem dX5_reduced_62 : decode cX5_reduced 62 = .ok (.getfield 29, 3) := by decide +kernel
theorem dX5_reduced_65 : decode cX5_reduced 65 = .ok (.aload_n 0, 1) := by decide +kernel
theorem dX5_reduced_66 : decode cX5_reduced 66 = .ok (.getfield 29, 3) := by decide +kernel
theorem dX5_reduced_69 : decode cX5_reduced 69 = .ok (.invokevirtual 238, 3) := by decide +kernel
theorem dX5_reduced_72 : decode cX5_reduced 72 = .ok (.invokevirtual 262, 3) := by decide +kernel
theorem dX5_reduced_75 : decode cX5_reduced 75 = .ok (.aload_n 0, 1) := by decide +kernel
theorem dX5_reduced_76 : decode cX5_reduced 76 = .ok (.getfield 29, 3) := by decide +kernel
theorem dX5_reduced_79 : decode cX5_reduced 79 = .ok (.invokevirtual 238, 3) := by decide +kernel
theorem dX5_reduced_82 : decode cX5_reduced 82 = .ok (.iload_n 2, 1) := by decide +kernel
theorem dX5_reduced_83 : decode cX5_reduced 83 = .ok (.iaload, 1) := by decide +kernel
theorem dX5_reduced_84 : decode cX5_reduced 84 = .ok (.ireturn, 1) := by decide +kernel
set_option maxRecDepth 20000 in
theorem ggX5_rank_X5_needConnected : GoodIn wsX5_rank wsX5_needConnected := goodIn_ca (goodIn_r _ [6, 7, 8, 1, 9, 10, 11, 12, 13, 14, 15, 16, 17, 18, 19, 20, 21, 22, 23, 24, 25, 26, 27, 28, 29, 30, 31, 32, 33, 34, 35, 110, 111, 112, 113, 114, 115, 116, 117, 118, 119, 120, 121, 122, 123, 124] (by decide +kernel) (by decide +kernel)) (goodIn_sub (fun _ h => List.mem_cons_of_mem _ (List.mem_append_right _ h)) (by decide +kernel))
set_option maxRecDepth 20000 in
theorem gX5_rank_X5_needConnected : GoodIn wsX5_rank (wsV RX5 256 RX5 yX5_needConnected wsX5_needConnected) := goodIn_app (goodIn_of _ (by decide +kernel)) ggX5_rank_X5_needConnected
set_option maxRecDepth 20000 in
theorem ggX5_rank_X3_copyChips : GoodIn wsX5_rank wsX3_copyChips := goodIn_r _ [39, 40, 41, 42, 43, 44, 45, 120, 121, 122, 123, 124] (by decide +kernel) (by decide +kernel)
set_option maxRecDepth 20000 in
theorem gX5_rank_X3_copyChips : GoodIn wsX5_rank (wsV RX5 235 RX3 yX3_copyChips wsX3_copyChips) := goodIn_app (goodIn_of _ (by decide +kernel)) ggX5_rank_X3_copyChips
set_option maxRecDepth 20000 in
theorem ggX5_rank_X5_needRanked : GoodIn wsX5_rank wsX5_needRanked := goodIn_ca (goodIn_r _ [49, 7, 8, 1, 50, 51, 52, 12, 53, 41, 54, 55, 56, 57, 24, 25, 26, 27, 28, 29, 30, 31, 19, 20, 21, 22, 23, 110, 111, 112, 113, 114, 115, 116, 117, 118, 119, 120, 121, 122, 123, 124] (by decide +kernel) (by decide +kernel)) (goodIn_sub (fun _ h => List.mem_cons_of_mem _ (List.mem_append_right _ h)) (by decide +kernel))
set_option maxRecDepth 20000 in
theorem gX5_rank_X5_needRanked : GoodIn wsX5_rank (wsV RX5 266 RX5 yX5_needRanked wsX5_needRanked) := goodIn_app (goodIn_of _ (by decide +kernel)) ggX5_rank_X5_needRanked
set_option maxRecDepth 20000 in
theorem ggX5_rank_X3_rankOfStart : GoodIn wsX5_rank wsX3_rankOfStart := goodIn_r _ [61, 41, 62, 63, 64, 65, 15, 16, 17, 12, 18, 14, 19, 20, 21, 22, 23, 66, 67, 68, 69, 70, 71, 72, 73, 74, 32, 33, 34, 35, 75, 76, 77, 78, 79, 80, 81, 82, 83, 84, 85, 86, 87, 88, 89, 90, 91, 92, 93, 94, 55, 56, 57, 24, 25, 26, 27, 28, 29, 30, 31, 95, 96, 97, 98, 99, 100, 101, 102, 103, 104, 105, 106, 107, 108, 109, 42, 43, 44, 45, 120, 121, 122, 123, 124] (by decide +kernel) (by decide +kernel)
set_option maxRecDepth 20000 in
theorem gX5_rank_X3_rankOfStart : GoodIn wsX5_rank (wsV RX5 269 RX3 yX3_rankOfStart wsX3_rankOfStart) := goodIn_app (goodIn_of _ (by decide +kernel)) ggX5_rank_X3_rankOfStart
theorem dX5_rank_0 : decode cX5_rank 0 = .ok (.aload_n 0, 1) := by decide +kernel
theorem dX5_rank_1 : decode cX5_rank 1 = .ok (.invokevirtual 256, 3) := by decide +kernel
theorem dX5_rank_4 : decode cX5_rank 4 = .ok (.aload_n 0, 1) := by decide +kernel
theorem dX5_rank_5 : decode cX5_rank 5 = .ok (.getfield 29, 3) := by decide +kernel
theorem dX5_rank_8 : decode cX5_rank 8 = .ok (.invokevirtual 235, 3) := by decide +kernel
theorem dX5_rank_11 : decode cX5_rank 11 = .ok (.aload_n 0, 1) := by decide +kernel
theorem dX5_rank_12 : decode cX5_rank 12 = .ok (.invokevirtual 266, 3) := by decide +kernel
theorem dX5_rank_15 : decode cX5_rank 15 = .ok (.aload_n 0, 1) := by decide +kernel
theorem dX5_rank_16 : decode cX5_rank 16 = .ok (.getfield 29, 3) := by decide +kernel
theorem dX5_rank_19 : decode cX5_rank 19 = .ok (.invokevirtual 269, 3) := by decide +kernel
theorem dX5_rank_22 : decode cX5_rank 22 = .ok (.ireturn, 1) := by decide +kernel
set_option maxRecDepth 20000 in
theorem ggX5_restRank_X5_needConnected : GoodIn wsX5_restRank wsX5_needConnected := goodIn_ca (goodIn_r _ [6, 7, 8, 1, 9, 10, 11, 12, 13, 14, 15, 16, 17, 18, 19, 20, 21, 22, 23, 24, 25, 26, 27, 28, 29, 30, 31, 32, 33, 34, 35, 110, 111, 112, 113, 114, 115, 116, 117, 118, 119, 120, 121, 122, 123, 124] (by decide +kernel) (by decide +kernel)) (goodIn_sub (fun _ h => List.mem_cons_of_mem _ (List.mem_append_right _ h)) (by decide +kernel))
set_option maxRecDepth 20000 in
theorem gX5_restRank_X5_needConnected : GoodIn wsX5_restRank (wsV RX5 256 RX5 yX5_needConnected wsX5_needConnected) := goodIn_app (goodIn_of _ (by decide +kernel)) ggX5_restRank_X5_needConnected
set_option maxRecDepth 20000 in
theorem ggX5_restRank_X3_copyRest : GoodIn wsX5_restRank wsX3_copyRest := goodIn_r _ [39, 40, 41, 28, 29, 30, 12, 31, 19, 20, 21, 22, 23, 120, 121, 122, 123, 124] (by decide +kernel) (by decide +kernel)
set_option maxRecDepth 20000 in
theorem gX5_restRank_X3_copyRest : GoodIn wsX5_restRank (wsV RX5 272 RX3 yX3_copyRest wsX3_copyRest) := goodIn_app (goodIn_of _ (by decide +kernel)) ggX5_restRank_X3_copyRest
set_option maxRecDepth 20000 in
theorem ggX5_restRank_X5_needRanked : GoodIn wsX5_restRank wsX5_needRanked := goodIn_ca (goodIn_r _ [45, 7, 8, 1, 46, 47, 48, 12, 49, 40, 50, 51, 52, 53, 24, 25, 26, 27, 28, 29, 30, 31, 19, 20, 21, 22, 23, 110, 111, 112, 113, 114, 115, 116, 117, 118, 119, 120, 121, 122, 123, 124] (by decide +kernel) (by decide +kernel)) (goodIn_sub (fun _ h => List.mem_cons_of_mem _ (List.mem_append_right _ h)) (by decide +kernel))
set_option maxRecDepth 20000 in
theorem gX5_restRank_X5_needRanked : GoodIn wsX5_restRank (wsV RX5 266 RX5 yX5_needRanked wsX5_needRanked) := goodIn_app (goodIn_of _ (by decide +kernel)) ggX5_restRank_X5_needRanked
set_option maxRecDepth 20000 in
theorem ggX5_restRank_X3_rankOfStart : GoodIn wsX5_restRank wsX3_rankOfStart := goodIn_r _ [57, 40, 58, 59, 60, 61, 15, 16, 17, 12, 18, 14, 19, 20, 21, 22, 23, 62, 63, 64, 65, 66, 67, 68, 69, 70, 32, 33, 34, 35, 71, 72, 73, 74, 75, 76, 77, 78, 79, 80, 81, 82, 83, 84, 85, 86, 87, 88, 89, 90, 51, 52, 53, 24, 25, 26, 27, 28, 29, 30, 31, 91, 92, 93, 94, 95, 96, 97, 98, 99, 100, 101, 102, 103, 104, 105, 106, 107, 108, 109, 120, 121, 122, 123, 124] (by decide +kernel) (by decide +kernel)
set_option maxRecDepth 20000 in
theorem gX5_restRank_X3_rankOfStart : GoodIn wsX5_restRank (wsV RX5 269 RX3 yX3_rankOfStart wsX3_rankOfStart) := goodIn_app (goodIn_of _ (by decide +kernel)) ggX5_restRank_X3_rankOfStart
theorem dX5_restRank_0 : decode cX5_restRank 0 = .ok (.aload_n 0, 1) := by decide +kernel
theorem dX5_restRank_1 : decode cX5_restRank 1 = .ok (.invokevirtual 256, 3) := by decide +kernel
theorem dX5_restRank_4 : decode cX5_restRank 4 = .ok (.aload_n 0, 1) := by decide +kernel
theorem dX5_restRank_5 : decode cX5_restRank 5 = .ok (.getfield 29, 3) := by decide +kernel
theorem dX5_restRank_8 : decode cX5_restRank 8 = .ok (.invokevirtual 272, 3) := by decide +kernel
theorem dX5_restRank_11 : decode cX5_restRank 11 = .ok (.aload_n 0, 1) := by decide +kernel
theorem dX5_restRank_12 : decode cX5_restRank 12 = .ok (.invokevirtual 266, 3) := by decide +kernel
theorem dX5_restRank_15 : decode cX5_restRank 15 = .ok (.aload_n 0, 1) := by decide +kernel
theorem dX5_restRank_16 : decode cX5_restRank 16 = .ok (.getfield 29, 3) := by decide +kernel
theorem dX5_restRank_19 : decode cX5_restRank 19 = .ok (.invokevirtual 269, 3) := by decide +kernel
theorem dX5_restRank_22 : decode cX5_restRank 22 = .ok (.ireturn, 1) := by decide +kernel
set_option maxRecDepth 20000 in
theorem ggX5_graph_X5_needWithin : GoodIn wsX5_graph wsX5_needWithin := goodIn_ca (goodIn_r _ [5, 6, 7] (by decide +kernel) (by decide +kernel)) (goodIn_sub (fun _ h => List.mem_cons_of_mem _ (List.mem_append_right _ h)) (by decide +kernel))
set_option maxRecDepth 20000 in
theorem gX5_graph_X5_needWithin : GoodIn wsX5_graph (va_wsS RX5 78 yX5_needWithin wsX5_needWithin) := goodIn_app (goodIn_of _ (by decide +kernel)) ggX5_graph_X5_needWithin
set_option maxRecDepth 20000 in
theorem ggX5_graph_X3_countVertices : GoodIn wsX5_graph wsX3_countVertices := goodIn_r _ [12, 13, 14, 15, 11, 16, 17, 18, 19, 20, 21, 22, 23, 24, 25, 95, 96, 97, 98, 99] (by decide +kernel) (by decide +kernel)
set_option maxRecDepth 20000 in
theorem gX5_graph_X3_countVertices : GoodIn wsX5_graph (wsV RX5 275 RX3 yX3_countVertices wsX3_countVertices) := goodIn_app (goodIn_of _ (by decide +kernel)) ggX5_graph_X3_countVertices
set_option maxRecDepth 20000 in
theorem ggX5_graph_X3_countEdges : GoodIn wsX5_graph wsX3_countEdges := goodIn_r _ [29, 17, 18, 19, 11, 20, 21, 22, 23, 24, 25, 95, 96, 97, 98, 99] (by decide +kernel) (by decide +kernel)
set_option maxRecDepth 20000 in
theorem gX5_graph_X3_countEdges : GoodIn wsX5_graph (wsV RX5 278 RX3 yX3_countEdges wsX3_countEdges) := goodIn_app (goodIn_of _ (by decide +kernel)) ggX5_graph_X3_countEdges
set_option maxRecDepth 20000 in
theorem ggX5_graph_X3_genus : GoodIn wsX5_graph wsX3_genus := goodIn_r _ [33, 34, 27, 28, 11, 29, 17, 18, 19, 20, 21, 22, 23, 24, 25, 35, 9, 10, 12, 13, 14, 15, 16, 95, 96, 97, 98, 99] (by decide +kernel) (by decide +kernel)
set_option maxRecDepth 20000 in
theorem gX5_graph_X3_genus : GoodIn wsX5_graph (wsV RX5 281 RX3 yX3_genus wsX3_genus) := goodIn_app (goodIn_of _ (by decide +kernel)) ggX5_graph_X3_genus
set_option maxRecDepth 20000 in
theorem ggX5_graph_X3_isConnected : GoodIn wsX5_graph wsX3_isConnected := goodIn_r _ [39, 40, 41, 42, 43, 11, 44, 21, 22, 23, 24, 25, 13, 14, 15, 16, 17, 18, 19, 20, 45, 46, 47, 48, 95, 96, 97, 98, 99] (by decide +kernel) (by decide +kernel)
set_option maxRecDepth 20000 in
theorem gX5_graph_X3_isConnected : GoodIn wsX5_graph (wsV RX5 284 RX3 yX3_isConnected wsX3_isConnected) := goodIn_app (goodIn_of _ (by decide +kernel)) ggX5_graph_X3_isConnected
set_option maxRecDepth 20000 in
theorem ggX5_graph_X3_copyChips : GoodIn wsX5_graph wsX3_copyChips := goodIn_r _ [52, 53, 54, 55, 56, 57, 58, 95, 96, 97, 98, 99] (by decide +kernel) (by decide +kernel)
set_option maxRecDepth 20000 in
theorem gX5_graph_X3_copyChips : GoodIn wsX5_graph (wsV RX5 235 RX3 yX3_copyChips wsX3_copyChips) := goodIn_app (goodIn_of _ (by decide +kernel)) ggX5_graph_X3_copyChips
set_option maxRecDepth 20000 in
theorem ggX5_graph_X3_startPile : GoodIn wsX5_graph wsX3_startPile := goodIn_r _ [62, 54, 95, 96, 97, 98, 99] (by decide +kernel) (by decide +kernel)
set_option maxRecDepth 20000 in
theorem gX5_graph_X3_startPile : GoodIn wsX5_graph (wsV RX5 238 RX3 yX3_startPile wsX3_startPile) := goodIn_app (goodIn_of _ (by decide +kernel)) ggX5_graph_X3_startPile
set_option maxRecDepth 20000 in
theorem ggX5_graph_X3_degree : GoodIn wsX5_graph wsX3_degree := goodIn_r _ [66, 13, 14, 15, 11, 16, 17, 18, 19, 20, 21, 22, 23, 24, 25, 95, 96, 97, 98, 99] (by decide +kernel) (by decide +kernel)
set_option maxRecDepth 20000 in
theorem gX5_graph_X3_degree : GoodIn wsX5_graph (wsV RX5 287 RX3 yX3_degree wsX3_degree) := goodIn_app (goodIn_of _ (by decide +kernel)) ggX5_graph_X3_degree
set_option maxRecDepth 20000 in
theorem ggX5_graph_X3_countSpanningTrees : GoodIn wsX5_graph wsX3_countSpanningTrees := goodIn_r _ [70, 71, 72, 37, 38, 11, 39, 40, 41, 42, 43, 44, 21, 22, 23, 24, 25, 13, 14, 15, 16, 17, 18, 19, 20, 45, 46, 47, 48, 73, 74, 75, 76, 77, 78, 79, 80, 81, 82, 83, 84, 95, 96, 97, 98, 99] (by decide +kernel) (by decide +kernel)
set_option maxRecDepth 20000 in
theorem gX5_graph_X3_countSpanningTrees : GoodIn wsX5_graph (wsV RX5 291 RX3 yX3_countSpanningTrees wsX3_countSpanningTrees) := goodIn_app (goodIn_of _ (by decide +kernel)) ggX5_graph_X3_countSpanningTrees
theorem dX5_graph_0 : decode cX5_graph 0 = .ok (.iload_n 1, 1) := by decide +kernel
theorem dX5_graph_1 : decode cX5_graph 1 = .ok (.iconst 0, 1) := by decide +kernel
theorem dX5_graph_2 : decode cX5_graph 2 = .ok (.iconst 5, 1) := by decide +kernel
theorem dX5_graph_3 : decode cX5_graph 3 = .ok (.invokestatic 78, 3) := by decide +kernel
theorem dX5_graph_6 : decode cX5_graph 6 = .ok (.iload_n 1, 1) := by decide +kernel
theorem dX5_graph_7 : decode cX5_graph 7 = .ok (.tableswitch 95 0 4 #[33, 41, 49, 57, 73], 33) := by decide +kernel
theorem dX5_graph_40 : decode cX5_graph 40 = .ok (.aload_n 0, 1) := by decide +kernel
theorem dX5_graph_41 : decode cX5_graph 41 = .ok (.getfield 29, 3) := by decide +kernel
theorem dX5_graph_44 : decode cX5_graph 44 = .ok (.invokevirtual 275, 3) := by decide +kernel
theorem dX5_graph_47 : decode cX5_graph 47 = .ok (.ireturn, 1) := by decide +kernel
theorem dX5_graph_48 : decode cX5_graph 48 = .ok (.aload_n 0, 1) := by decide +kernel
theorem dX5_graph_49 : decode cX5_graph 49 = .ok (.getfield 29, 3) := by decide +kernel
theorem dX5_graph_52 : decode cX5_graph 52 = .ok (.invokevirtual 278, 3) := by decide +kernel
theorem dX5_graph_55 : decode cX5_graph 55 = .ok (.ireturn, 1) := by decide +kernel
theorem dX5_graph_56 : decode cX5_graph 56 = .ok (.aload_n 0, 1) := by decide +kernel
theorem dX5_graph_57 : decode cX5_graph 57 = .ok (.getfield 29, 3) := by decide +kernel
theorem dX5_graph_60 : decode cX5_graph 60 = .ok (.invokevirtual 281, 3) := by decide +kernel
theorem dX5_graph_63 : decode cX5_graph 63 = .ok (.ireturn, 1) := by decide +kernel
theorem dX5_graph_64 : decode cX5_graph 64 = .ok (.aload_n 0, 1) := by decide +kernel
theorem dX5_graph_65 : decode cX5_graph 65 = .ok (.getfield 29, 3) := by decide +kernel
theorem dX5_graph_68 : decode cX5_graph 68 = .ok (.invokevirtual 284, 3) := by decide +kernel
theorem dX5_graph_71 : decode cX5_graph 71 = .ok (.ifCond .eq 7, 3) := by decide +kernel
theorem dX5_graph_74 : decode cX5_graph 74 = .ok (.iconst 1, 1) := by decide +kernel
theorem dX5_graph_75 : decode cX5_graph 75 = .ok (.goto 4, 3) := by decide +kernel
theorem dX5_graph_78 : decode cX5_graph 78 = .ok (.iconst 0, 1) := by decide +kernel
theorem dX5_graph_79 : decode cX5_graph 79 = .ok (.ireturn, 1) := by decide +kernel
theorem dX5_graph_80 : decode cX5_graph 80 = .ok (.aload_n 0, 1) := by decide +kernel
theorem dX5_graph_81 : decode cX5_graph 81 = .ok (.getfield 29, 3) := by decide +kernel
theorem dX5_graph_84 : decode cX5_graph 84 = .ok (.invokevirtual 235, 3) := by decide +kernel
theorem dX5_graph_87 : decode cX5_graph 87 = .ok (.aload_n 0, 1) := by decide +kernel
theorem dX5_graph_88 : decode cX5_graph 88 = .ok (.getfield 29, 3) := by decide +kernel
theorem dX5_graph_91 : decode cX5_graph 91 = .ok (.aload_n 0, 1) := by decide +kernel
theorem dX5_graph_92 : decode cX5_graph 92 = .ok (.getfield 29, 3) := by decide +kernel
theorem dX5_graph_95 : decode cX5_graph 95 = .ok (.invokevirtual 238, 3) := by decide +kernel
theorem dX5_graph_98 : decode cX5_graph 98 = .ok (.invokevirtual 287, 3) := by decide +kernel
theorem dX5_graph_101 : decode cX5_graph 101 = .ok (.ireturn, 1) := by decide +kernel
theorem dX5_graph_102 : decode cX5_graph 102 = .ok (.aload_n 0, 1) := by decide +kernel
theorem dX5_graph_103 : decode cX5_graph 103 = .ok (.getfield 29, 3) := by decide +kernel
theorem dX5_graph_106 : decode cX5_graph 106 = .ok (.invokevirtual 291, 3) := by decide +kernel
theorem dX5_graph_109 : decode cX5_graph 109 = .ok (.ireturn, 1) := by decide +kernel
theorem dX5_needIndex_0 : decode cX5_needIndex 0 = .ok (.iload_n 0, 1) := by decide +kernel
theorem dX5_needIndex_1 : decode cX5_needIndex 1 = .ok (.ifCond .lt 8, 3) := by decide +kernel
theorem dX5_needIndex_4 : decode cX5_needIndex 4 = .ok (.iload_n 0, 1) := by decide +kernel
theorem dX5_needIndex_5 : decode cX5_needIndex 5 = .ok (.iload_n 1, 1) := by decide +kernel
theorem dX5_needIndex_6 : decode cX5_needIndex 6 = .ok (.if_icmp .lt 14, 3) := by decide +kernel
theorem dX5_needIndex_9 : decode cX5_needIndex 9 = .ok (.new 294, 3) := by decide +kernel
theorem dX5_needIndex_12 : decode cX5_needIndex 12 = .ok (.dup, 1) := by decide +kernel
theorem dX5_needIndex_13 : decode cX5_needIndex 13 = .ok (.ldc_w 296, 3) := by decide +kernel
theorem dX5_needIndex_16 : decode cX5_needIndex 16 = .ok (.invokespecial 298, 3) := by decide +kernel
theorem dX5_needIndex_19 : decode cX5_needIndex 19 = .ok (.athrow, 1) := by decide +kernel
theorem dX5_needIndex_20 : decode cX5_needIndex 20 = .ok (.return_, 1) := by decide +kernel
set_option maxRecDepth 20000 in
theorem ggX5_needHeld_X5_needIndex : GoodIn wsX5_needHeld wsX5_needIndex := goodIn_ca (goodIn_r _ [4, 5, 6] (by decide +kernel) (by decide +kernel)) (goodIn_sub (fun _ h => List.mem_cons_of_mem _ (List.mem_append_right _ h)) (by decide +kernel))
set_option maxRecDepth 20000 in
theorem gX5_needHeld_X5_needIndex : GoodIn wsX5_needHeld (va_wsS RX5 68 yX5_needIndex wsX5_needIndex) := goodIn_app (goodIn_of _ (by decide +kernel)) ggX5_needHeld_X5_needIndex
theorem dX5_needHeld_0 : decode cX5_needHeld 0 = .ok (.iload_n 0, 1) := by decide +kernel
theorem dX5_needHeld_1 : decode cX5_needHeld 1 = .ok (.iconst 4, 1) := by decide +kernel
theorem dX5_needHeld_2 : decode cX5_needHeld 2 = .ok (.invokestatic 68, 3) := by decide +kernel
theorem dX5_needHeld_5 : decode cX5_needHeld 5 = .ok (.return_, 1) := by decide +kernel
set_option maxRecDepth 20000 in
theorem ggX5_needEntry_X5_needHeld : GoodIn wsX5_needEntry wsX5_needHeld := goodIn_ca (goodIn_r _ [5, 6, 7, 4, 8, 9, 10] (by decide +kernel) (by decide +kernel)) (goodIn_sub (fun _ h => List.mem_cons_of_mem _ (List.mem_append_right _ h)) (by decide +kernel))
set_option maxRecDepth 20000 in
theorem gX5_needEntry_X5_needHeld : GoodIn wsX5_needEntry (va_wsS RX5 64 yX5_needHeld wsX5_needHeld) := goodIn_app (goodIn_of _ (by decide +kernel)) ggX5_needEntry_X5_needHeld
set_option maxRecDepth 20000 in
theorem ggX5_needEntry_X5_needIndex : GoodIn wsX5_needEntry wsX5_needIndex := goodIn_ca (goodIn_r _ [8, 9, 10] (by decide +kernel) (by decide +kernel)) (goodIn_sub (fun _ h => List.mem_cons_of_mem _ (List.mem_append_right _ h)) (by decide +kernel))
set_option maxRecDepth 20000 in
theorem gX5_needEntry_X5_needIndex : GoodIn wsX5_needEntry (va_wsS RX5 68 yX5_needIndex wsX5_needIndex) := goodIn_app (goodIn_of _ (by decide +kernel)) ggX5_needEntry_X5_needIndex
theorem dX5_needEntry_0 : decode cX5_needEntry 0 = .ok (.iload_n 1, 1) := by decide +kernel
theorem dX5_needEntry_1 : decode cX5_needEntry 1 = .ok (.invokestatic 64, 3) := by decide +kernel
theorem dX5_needEntry_4 : decode cX5_needEntry 4 = .ok (.iload_n 2, 1) := by decide +kernel
theorem dX5_needEntry_5 : decode cX5_needEntry 5 = .ok (.aload_n 0, 1) := by decide +kernel
theorem dX5_needEntry_6 : decode cX5_needEntry 6 = .ok (.getfield 17, 3) := by decide +kernel
theorem dX5_needEntry_9 : decode cX5_needEntry 9 = .ok (.iload_n 1, 1) := by decide +kernel
theorem dX5_needEntry_10 : decode cX5_needEntry 10 = .ok (.aaload, 1) := by decide +kernel
theorem dX5_needEntry_11 : decode cX5_needEntry 11 = .ok (.getfield 141, 3) := by decide +kernel
theorem dX5_needEntry_14 : decode cX5_needEntry 14 = .ok (.invokestatic 68, 3) := by decide +kernel
theorem dX5_needEntry_17 : decode cX5_needEntry 17 = .ok (.iload_n 3, 1) := by decide +kernel
theorem dX5_needEntry_18 : decode cX5_needEntry 18 = .ok (.aload_n 0, 1) := by decide +kernel
theorem dX5_needEntry_19 : decode cX5_needEntry 19 = .ok (.getfield 17, 3) := by decide +kernel
theorem dX5_needEntry_22 : decode cX5_needEntry 22 = .ok (.iload_n 1, 1) := by decide +kernel
theorem dX5_needEntry_23 : decode cX5_needEntry 23 = .ok (.aaload, 1) := by decide +kernel
theorem dX5_needEntry_24 : decode cX5_needEntry 24 = .ok (.getfield 141, 3) := by decide +kernel
theorem dX5_needEntry_27 : decode cX5_needEntry 27 = .ok (.invokestatic 68, 3) := by decide +kernel
theorem dX5_needEntry_30 : decode cX5_needEntry 30 = .ok (.return_, 1) := by decide +kernel
theorem dX5_needWithin_0 : decode cX5_needWithin 0 = .ok (.iload_n 0, 1) := by decide +kernel
theorem dX5_needWithin_1 : decode cX5_needWithin 1 = .ok (.iload_n 1, 1) := by decide +kernel
theorem dX5_needWithin_2 : decode cX5_needWithin 2 = .ok (.if_icmp .lt 8, 3) := by decide +kernel
theorem dX5_needWithin_5 : decode cX5_needWithin 5 = .ok (.iload_n 0, 1) := by decide +kernel
theorem dX5_needWithin_6 : decode cX5_needWithin 6 = .ok (.iload_n 2, 1) := by decide +kernel
theorem dX5_needWithin_7 : decode cX5_needWithin 7 = .ok (.if_icmp .le 14, 3) := by decide +kernel
theorem dX5_needWithin_10 : decode cX5_needWithin 10 = .ok (.new 224, 3) := by decide +kernel
theorem dX5_needWithin_13 : decode cX5_needWithin 13 = .ok (.dup, 1) := by decide +kernel
theorem dX5_needWithin_14 : decode cX5_needWithin 14 = .ok (.ldc_w 299, 3) := by decide +kernel
theorem dX5_needWithin_17 : decode cX5_needWithin 17 = .ok (.invokespecial 228, 3) := by decide +kernel
theorem dX5_needWithin_20 : decode cX5_needWithin 20 = .ok (.athrow, 1) := by decide +kernel
theorem dX5_needWithin_21 : decode cX5_needWithin 21 = .ok (.return_, 1) := by decide +kernel
set_option maxRecDepth 20000 in
theorem ggX5_needGiven_X5_needWithin : GoodIn wsX5_needGiven wsX5_needWithin := goodIn_ca (goodIn_r _ [5, 6, 7] (by decide +kernel) (by decide +kernel)) (goodIn_sub (fun _ h => List.mem_cons_of_mem _ (List.mem_append_right _ h)) (by decide +kernel))
set_option maxRecDepth 20000 in
theorem gX5_needGiven_X5_needWithin : GoodIn wsX5_needGiven (va_wsS RX5 78 yX5_needWithin wsX5_needWithin) := goodIn_app (goodIn_of _ (by decide +kernel)) ggX5_needGiven_X5_needWithin
theorem dX5_needGiven_0 : decode cX5_needGiven 0 = .ok (.iload_n 0, 1) := by decide +kernel
theorem dX5_needGiven_1 : decode cX5_needGiven 1 = .ok (.ldc_w 301, 3) := by decide +kernel
theorem dX5_needGiven_4 : decode cX5_needGiven 4 = .ok (.if_icmp .eq 13, 3) := by decide +kernel
theorem dX5_needGiven_7 : decode cX5_needGiven 7 = .ok (.iload_n 0, 1) := by decide +kernel
theorem dX5_needGiven_8 : decode cX5_needGiven 8 = .ok (.sipush (-999), 3) := by decide +kernel
theorem dX5_needGiven_11 : decode cX5_needGiven 11 = .ok (.sipush 999, 3) := by decide +kernel
theorem dX5_needGiven_14 : decode cX5_needGiven 14 = .ok (.invokestatic 78, 3) := by decide +kernel
theorem dX5_needGiven_17 : decode cX5_needGiven 17 = .ok (.return_, 1) := by decide +kernel
set_option maxRecDepth 20000 in
theorem ggX5_needPartsWithinLimit_X5_isBeyond : GoodIn wsX5_needPartsWithinLimit wsX5_isBeyond := goodIn_r _ [7, 8] (by decide +kernel) (by decide +kernel)
set_option maxRecDepth 20000 in
theorem gX5_needPartsWithinLimit_X5_isBeyond : GoodIn wsX5_needPartsWithinLimit (va_wsS RX5 303 yX5_isBeyond wsX5_isBeyond) := goodIn_app (goodIn_of _ (by decide +kernel)) ggX5_needPartsWithinLimit_X5_isBeyond
theorem dX5_needPartsWithinLimit_0 : decode cX5_needPartsWithinLimit 0 = .ok (.iconst 0, 1) := by decide +kernel
theorem dX5_needPartsWithinLimit_1 : decode cX5_needPartsWithinLimit 1 = .ok (.istore_n 2, 1) := by decide +kernel
theorem dX5_needPartsWithinLimit_2 : decode cX5_needPartsWithinLimit 2 = .ok (.iload_n 2, 1) := by decide +kernel
theorem dX5_needPartsWithinLimit_3 : decode cX5_needPartsWithinLimit 3 = .ok (.iload_n 1, 1) := by decide +kernel
theorem dX5_needPartsWithinLimit_4 : decode cX5_needPartsWithinLimit 4 = .ok (.if_icmp .ge 32, 3) := by decide +kernel
theorem dX5_needPartsWithinLimit_7 : decode cX5_needPartsWithinLimit 7 = .ok (.aload_n 0, 1) := by decide +kernel
theorem dX5_needPartsWithinLimit_8 : decode cX5_needPartsWithinLimit 8 = .ok (.iload_n 2, 1) := by decide +kernel
theorem dX5_needPartsWithinLimit_9 : decode cX5_needPartsWithinLimit 9 = .ok (.iaload, 1) := by decide +kernel
theorem dX5_needPartsWithinLimit_10 : decode cX5_needPartsWithinLimit 10 = .ok (.ldc_w 302, 3) := by decide +kernel
theorem dX5_needPartsWithinLimit_13 : decode cX5_needPartsWithinLimit 13 = .ok (.invokestatic 303, 3) := by decide +kernel
theorem dX5_needPartsWithinLimit_16 : decode cX5_needPartsWithinLimit 16 = .ok (.ifCond .eq 14, 3) := by decide +kernel
theorem dX5_needPartsWithinLimit_19 : decode cX5_needPartsWithinLimit 19 = .ok (.new 125, 3) := by decide +kernel
theorem dX5_needPartsWithinLimit_22 : decode cX5_needPartsWithinLimit 22 = .ok (.dup, 1) := by decide +kernel
theorem dX5_needPartsWithinLimit_23 : decode cX5_needPartsWithinLimit 23 = .ok (.ldc_w 307, 3) := by decide +kernel
theorem dX5_needPartsWithinLimit_26 : decode cX5_needPartsWithinLimit 26 = .ok (.invokespecial 129, 3) := by decide +kernel
theorem dX5_needPartsWithinLimit_29 : decode cX5_needPartsWithinLimit 29 = .ok (.athrow, 1) := by decide +kernel
theorem dX5_needPartsWithinLimit_30 : decode cX5_needPartsWithinLimit 30 = .ok (.iinc 2 1, 3) := by decide +kernel
theorem dX5_needPartsWithinLimit_33 : decode cX5_needPartsWithinLimit 33 = .ok (.goto (-31), 3) := by decide +kernel
theorem dX5_needPartsWithinLimit_36 : decode cX5_needPartsWithinLimit 36 = .ok (.return_, 1) := by decide +kernel
set_option maxRecDepth 20000 in
theorem ggX5_needConnected_X3_isConnected : GoodIn wsX5_needConnected wsX3_isConnected := goodIn_r _ [8, 9, 10, 11, 12, 7, 13, 14, 15, 16, 17, 18, 19, 20, 21, 22, 23, 24, 25, 26, 27, 28, 29, 30, 41, 42, 43, 44, 45] (by decide +kernel) (by decide +kernel)
set_option maxRecDepth 20000 in
theorem gX5_needConnected_X3_isConnected : GoodIn wsX5_needConnected (wsV RX5 284 RX3 yX3_isConnected wsX3_isConnected) := goodIn_app (goodIn_of _ (by decide +kernel)) ggX5_needConnected_X3_isConnected
theorem dX5_needConnected_0 : decode cX5_needConnected 0 = .ok (.aload_n 0, 1) := by decide +kernel
theorem dX5_needConnected_1 : decode cX5_needConnected 1 = .ok (.getfield 29, 3) := by decide +kernel
theorem dX5_needConnected_4 : decode cX5_needConnected 4 = .ok (.invokevirtual 284, 3) := by decide +kernel
theorem dX5_needConnected_7 : decode cX5_needConnected 7 = .ok (.ifCond .ne 14, 3) := by decide +kernel
theorem dX5_needConnected_10 : decode cX5_needConnected 10 = .ok (.new 125, 3) := by decide +kernel
theorem dX5_needConnected_13 : decode cX5_needConnected 13 = .ok (.dup, 1) := by decide +kernel
theorem dX5_needConnected_14 : decode cX5_needConnected 14 = .ok (.ldc_w 309, 3) := by decide +kernel
theorem dX5_needConnected_17 : decode cX5_needConnected 17 = .ok (.invokespecial 129, 3) := by decide +kernel
theorem dX5_needConnected_20 : decode cX5_needConnected 20 = .ok (.athrow, 1) := by decide +kernel
theorem dX5_needConnected_21 : decode cX5_needConnected 21 = .ok (.return_, 1) := by decide +kernel
set_option maxRecDepth 20000 in
theorem ggX5_needRanked_X3_startPile : GoodIn wsX5_needRanked wsX3_startPile := goodIn_r _ [8, 9, 37, 38, 39, 40, 41] (by decide +kernel) (by decide +kernel)
set_option maxRecDepth 20000 in
theorem gX5_needRanked_X3_startPile : GoodIn wsX5_needRanked (wsV RX5 238 RX3 yX3_startPile wsX3_startPile) := goodIn_app (goodIn_of _ (by decide +kernel)) ggX5_needRanked_X3_startPile
set_option maxRecDepth 20000 in
theorem ggX5_needRanked_X3_degree : GoodIn wsX5_needRanked wsX3_degree := goodIn_r _ [13, 14, 15, 16, 7, 17, 18, 19, 20, 21, 22, 23, 24, 25, 26, 37, 38, 39, 40, 41] (by decide +kernel) (by decide +kernel)
set_option maxRecDepth 20000 in
theorem gX5_needRanked_X3_degree : GoodIn wsX5_needRanked (wsV RX5 287 RX3 yX3_degree wsX3_degree) := goodIn_app (goodIn_of _ (by decide +kernel)) ggX5_needRanked_X3_degree
theorem dX5_needRanked_0 : decode cX5_needRanked 0 = .ok (.aload_n 0, 1) := by decide +kernel
theorem dX5_needRanked_1 : decode cX5_needRanked 1 = .ok (.getfield 29, 3) := by decide +kernel
theorem dX5_needRanked_4 : decode cX5_needRanked 4 = .ok (.aload_n 0, 1) := by decide +kernel
theorem dX5_needRanked_5 : decode cX5_needRanked 5 = .ok (.getfield 29, 3) := by decide +kernel
theorem dX5_needRanked_8 : decode cX5_needRanked 8 = .ok (.invokevirtual 238, 3) := by decide +kernel
theorem dX5_needRanked_11 : decode cX5_needRanked 11 = .ok (.invokevirtual 287, 3) := by decide +kernel
theorem dX5_needRanked_14 : decode cX5_needRanked 14 = .ok (.bipush 8, 2) := by decide +kernel
theorem dX5_needRanked_16 : decode cX5_needRanked 16 = .ok (.if_icmp .le 14, 3) := by decide +kernel
theorem dX5_needRanked_19 : decode cX5_needRanked 19 = .ok (.new 125, 3) := by decide +kernel
theorem dX5_needRanked_22 : decode cX5_needRanked 22 = .ok (.dup, 1) := by decide +kernel
theorem dX5_needRanked_23 : decode cX5_needRanked 23 = .ok (.ldc_w 311, 3) := by decide +kernel
theorem dX5_needRanked_26 : decode cX5_needRanked 26 = .ok (.invokespecial 129, 3) := by decide +kernel
theorem dX5_needRanked_29 : decode cX5_needRanked 29 = .ok (.athrow, 1) := by decide +kernel
theorem dX5_needRanked_30 : decode cX5_needRanked 30 = .ok (.return_, 1) := by decide +kernel
set_option maxRecDepth 20000 in
theorem ggX5_keepMatrixDraft_X2_isWithinLimit : GoodIn wsX5_keepMatrixDraft wsX2_isWithinLimit := goodIn_r _ [9, 10, 11, 12, 13, 14, 15, 16, 40, 41] (by decide +kernel) (by decide +kernel)
set_option maxRecDepth 20000 in
theorem gX5_keepMatrixDraft_X2_isWithinLimit : GoodIn wsX5_keepMatrixDraft (wsV RX5 313 RX2 yX2_isWithinLimit wsX2_isWithinLimit) := goodIn_app (goodIn_of _ (by decide +kernel)) ggX5_keepMatrixDraft_X2_isWithinLimit
set_option maxRecDepth 20000 in
theorem ggX5_keepMatrixDraft_X2_becomeCopy : GoodIn wsX5_keepMatrixDraft wsX2_becomeCopy := goodIn_r _ [20, 10, 11, 21, 22, 23, 24, 40, 41] (by decide +kernel) (by decide +kernel)
set_option maxRecDepth 20000 in
theorem gX5_keepMatrixDraft_X2_becomeCopy : GoodIn wsX5_keepMatrixDraft (wsV RX5 161 RX2 yX2_becomeCopy wsX2_becomeCopy) := goodIn_app (goodIn_of _ (by decide +kernel)) ggX5_keepMatrixDraft_X2_becomeCopy
set_option maxRecDepth 20000 in
theorem ggX5_keepMatrixDraft_X2_countNumbers : GoodIn wsX5_keepMatrixDraft wsX2_countNumbers := goodIn_r _ [28, 10, 11, 29, 40, 41] (by decide +kernel) (by decide +kernel)
set_option maxRecDepth 20000 in
theorem gX5_keepMatrixDraft_X2_countNumbers : GoodIn wsX5_keepMatrixDraft (wsV RX5 316 RX2 yX2_countNumbers wsX2_countNumbers) := goodIn_app (goodIn_of _ (by decide +kernel)) ggX5_keepMatrixDraft_X2_countNumbers
theorem dX5_keepMatrixDraft_0 : decode cX5_keepMatrixDraft 0 = .ok (.aload_n 0, 1) := by decide +kernel
theorem dX5_keepMatrixDraft_1 : decode cX5_keepMatrixDraft 1 = .ok (.getfield 39, 3) := by decide +kernel
theorem dX5_keepMatrixDraft_4 : decode cX5_keepMatrixDraft 4 = .ok (.invokevirtual 313, 3) := by decide +kernel
theorem dX5_keepMatrixDraft_7 : decode cX5_keepMatrixDraft 7 = .ok (.ifCond .ne 14, 3) := by decide +kernel
theorem dX5_keepMatrixDraft_10 : decode cX5_keepMatrixDraft 10 = .ok (.new 125, 3) := by decide +kernel
theorem dX5_keepMatrixDraft_13 : decode cX5_keepMatrixDraft 13 = .ok (.dup, 1) := by decide +kernel
theorem dX5_keepMatrixDraft_14 : decode cX5_keepMatrixDraft 14 = .ok (.ldc_w 314, 3) := by decide +kernel
theorem dX5_keepMatrixDraft_17 : decode cX5_keepMatrixDraft 17 = .ok (.invokespecial 129, 3) := by decide +kernel
theorem dX5_keepMatrixDraft_20 : decode cX5_keepMatrixDraft 20 = .ok (.athrow, 1) := by decide +kernel
theorem dX5_keepMatrixDraft_21 : decode cX5_keepMatrixDraft 21 = .ok (.aload_n 0, 1) := by decide +kernel
theorem dX5_keepMatrixDraft_22 : decode cX5_keepMatrixDraft 22 = .ok (.getfield 17, 3) := by decide +kernel
theorem dX5_keepMatrixDraft_25 : decode cX5_keepMatrixDraft 25 = .ok (.iload_n 1, 1) := by decide +kernel
theorem dX5_keepMatrixDraft_26 : decode cX5_keepMatrixDraft 26 = .ok (.aaload, 1) := by decide +kernel
theorem dX5_keepMatrixDraft_27 : decode cX5_keepMatrixDraft 27 = .ok (.aload_n 0, 1) := by decide +kernel
theorem dX5_keepMatrixDraft_28 : decode cX5_keepMatrixDraft 28 = .ok (.getfield 39, 3) := by decide +kernel
theorem dX5_keepMatrixDraft_31 : decode cX5_keepMatrixDraft 31 = .ok (.invokevirtual 161, 3) := by decide +kernel
theorem dX5_keepMatrixDraft_34 : decode cX5_keepMatrixDraft 34 = .ok (.aload_n 0, 1) := by decide +kernel
theorem dX5_keepMatrixDraft_35 : decode cX5_keepMatrixDraft 35 = .ok (.getfield 17, 3) := by decide +kernel
theorem dX5_keepMatrixDraft_38 : decode cX5_keepMatrixDraft 38 = .ok (.iload_n 1, 1) := by decide +kernel
theorem dX5_keepMatrixDraft_39 : decode cX5_keepMatrixDraft 39 = .ok (.aaload, 1) := by decide +kernel
theorem dX5_keepMatrixDraft_40 : decode cX5_keepMatrixDraft 40 = .ok (.invokevirtual 316, 3) := by decide +kernel
theorem dX5_keepMatrixDraft_43 : decode cX5_keepMatrixDraft 43 = .ok (.ireturn, 1) := by decide +kernel
set_option maxRecDepth 20000 in
theorem ggX5_findLeastMean_X1_becomeNone : GoodIn wsX5_findLeastMean wsX1_becomeNone := goodIn_r _ [9, 10, 11, 55, 56] (by decide +kernel) (by decide +kernel)
set_option maxRecDepth 20000 in
theorem gX5_findLeastMean_X1_becomeNone : GoodIn wsX5_findLeastMean (wsV RX5 319 RX1 yX1_becomeNone wsX1_becomeNone) := goodIn_app (goodIn_of _ (by decide +kernel)) ggX5_findLeastMean_X1_becomeNone
set_option maxRecDepth 20000 in
theorem ggX5_findLeastMean_X2_becomeCopy : GoodIn wsX5_findLeastMean wsX2_becomeCopy := goodIn_r _ [16, 17, 18, 19, 20, 21, 22, 53, 54] (by decide +kernel) (by decide +kernel)
set_option maxRecDepth 20000 in
theorem gX5_findLeastMean_X2_becomeCopy : GoodIn wsX5_findLeastMean (wsV RX5 161 RX2 yX2_becomeCopy wsX2_becomeCopy) := goodIn_app (goodIn_of _ (by decide +kernel)) ggX5_findLeastMean_X2_becomeCopy
set_option maxRecDepth 20000 in
theorem ggX5_findLeastMean_X1_becomeLesser : GoodIn wsX5_findLeastMean wsX1_becomeLesser := goodIn_r _ [26, 11, 10, 27, 28, 29, 8, 30, 55, 56] (by decide +kernel) (by decide +kernel)
set_option maxRecDepth 20000 in
theorem gX5_findLeastMean_X1_becomeLesser : GoodIn wsX5_findLeastMean (wsV RX5 322 RX1 yX1_becomeLesser wsX1_becomeLesser) := goodIn_app (goodIn_of _ (by decide +kernel)) ggX5_findLeastMean_X1_becomeLesser
set_option maxRecDepth 20000 in
theorem ggX5_findLeastMean_X2_becomeProduct : GoodIn wsX5_findLeastMean wsX2_becomeProduct := goodIn_r _ [34, 17, 35, 18, 36, 37, 38, 39, 40, 41, 42, 4, 53, 54] (by decide +kernel) (by decide +kernel)
set_option maxRecDepth 20000 in
theorem gX5_findLeastMean_X2_becomeProduct : GoodIn wsX5_findLeastMean (wsV RX5 155 RX2 yX2_becomeProduct wsX2_becomeProduct) := goodIn_app (goodIn_of _ (by decide +kernel)) ggX5_findLeastMean_X2_becomeProduct
theorem dX5_findLeastMean_0 : decode cX5_findLeastMean 0 = .ok (.aload_n 0, 1) := by decide +kernel
theorem dX5_findLeastMean_1 : decode cX5_findLeastMean 1 = .ok (.getfield 39, 3) := by decide +kernel
theorem dX5_findLeastMean_4 : decode cX5_findLeastMean 4 = .ok (.astore_n 2, 1) := by decide +kernel
theorem dX5_findLeastMean_5 : decode cX5_findLeastMean 5 = .ok (.aload_n 0, 1) := by decide +kernel
theorem dX5_findLeastMean_6 : decode cX5_findLeastMean 6 = .ok (.getfield 43, 3) := by decide +kernel
theorem dX5_findLeastMean_9 : decode cX5_findLeastMean 9 = .ok (.astore_n 3, 1) := by decide +kernel
theorem dX5_findLeastMean_10 : decode cX5_findLeastMean 10 = .ok (.aload_n 0, 1) := by decide +kernel
theorem dX5_findLeastMean_11 : decode cX5_findLeastMean 11 = .ok (.getfield 53, 3) := by decide +kernel
theorem dX5_findLeastMean_14 : decode cX5_findLeastMean 14 = .ok (.invokevirtual 319, 3) := by decide +kernel
theorem dX5_findLeastMean_17 : decode cX5_findLeastMean 17 = .ok (.aload_n 2, 1) := by decide +kernel
theorem dX5_findLeastMean_18 : decode cX5_findLeastMean 18 = .ok (.aload_n 1, 1) := by decide +kernel
theorem dX5_findLeastMean_19 : decode cX5_findLeastMean 19 = .ok (.invokevirtual 161, 3) := by decide +kernel
theorem dX5_findLeastMean_22 : decode cX5_findLeastMean 22 = .ok (.iconst 1, 1) := by decide +kernel
theorem dX5_findLeastMean_23 : decode cX5_findLeastMean 23 = .ok (.istore 4, 2) := by decide +kernel
theorem dX5_findLeastMean_25 : decode cX5_findLeastMean 25 = .ok (.iload 4, 2) := by decide +kernel
theorem dX5_findLeastMean_27 : decode cX5_findLeastMean 27 = .ok (.aload_n 1, 1) := by decide +kernel
theorem dX5_findLeastMean_28 : decode cX5_findLeastMean 28 = .ok (.getfield 141, 3) := by decide +kernel
theorem dX5_findLeastMean_31 : decode cX5_findLeastMean 31 = .ok (.if_icmp .gt 76, 3) := by decide +kernel
theorem dX5_findLeastMean_34 : decode cX5_findLeastMean 34 = .ok (.iconst 0, 1) := by decide +kernel
theorem dX5_findLeastMean_35 : decode cX5_findLeastMean 35 = .ok (.istore 5, 2) := by decide +kernel
theorem dX5_findLeastMean_37 : decode cX5_findLeastMean 37 = .ok (.iload 5, 2) := by decide +kernel
theorem dX5_findLeastMean_39 : decode cX5_findLeastMean 39 = .ok (.aload_n 1, 1) := by decide +kernel
theorem dX5_findLeastMean_40 : decode cX5_findLeastMean 40 = .ok (.getfield 141, 3) := by decide +kernel
theorem dX5_findLeastMean_43 : decode cX5_findLeastMean 43 = .ok (.if_icmp .ge 44, 3) := by decide +kernel
theorem dX5_findLeastMean_46 : decode cX5_findLeastMean 46 = .ok (.aload_n 2, 1) := by decide +kernel
theorem dX5_findLeastMean_47 : decode cX5_findLeastMean 47 = .ok (.getfield 150, 3) := by decide +kernel
theorem dX5_findLeastMean_50 : decode cX5_findLeastMean 50 = .ok (.iload 5, 2) := by decide +kernel
theorem dX5_findLeastMean_52 : decode cX5_findLeastMean 52 = .ok (.aaload, 1) := by decide +kernel
theorem dX5_findLeastMean_53 : decode cX5_findLeastMean 53 = .ok (.iload 5, 2) := by decide +kernel
theorem dX5_findLeastMean_55 : decode cX5_findLeastMean 55 = .ok (.iaload, 1) := by decide +kernel
theorem dX5_findLeastMean_56 : decode cX5_findLeastMean 56 = .ok (.ldc_w 301, 3) := by decide +kernel
theorem dX5_findLeastMean_59 : decode cX5_findLeastMean 59 = .ok (.if_icmp .eq 22, 3) := by decide +kernel
theorem dX5_findLeastMean_62 : decode cX5_findLeastMean 62 = .ok (.aload_n 0, 1) := by decide +kernel
theorem dX5_findLeastMean_63 : decode cX5_findLeastMean 63 = .ok (.getfield 53, 3) := by decide +kernel
theorem dX5_findLeastMean_66 : decode cX5_findLeastMean 66 = .ok (.aload_n 2, 1) := by decide +kernel
theorem dX5_findLeastMean_67 : decode cX5_findLeastMean 67 = .ok (.getfield 150, 3) := by decide +kernel
theorem dX5_findLeastMean_70 : decode cX5_findLeastMean 70 = .ok (.iload 5, 2) := by decide +kernel
theorem dX5_findLeastMean_72 : decode cX5_findLeastMean 72 = .ok (.aaload, 1) := by decide +kernel
theorem dX5_findLeastMean_73 : decode cX5_findLeastMean 73 = .ok (.iload 5, 2) := by decide +kernel
theorem dX5_findLeastMean_75 : decode cX5_findLeastMean 75 = .ok (.iaload, 1) := by decide +kernel
theorem dX5_findLeastMean_76 : decode cX5_findLeastMean 76 = .ok (.iload 4, 2) := by decide +kernel
theorem dX5_findLeastMean_78 : decode cX5_findLeastMean 78 = .ok (.invokevirtual 322, 3) := by decide +kernel
theorem dX5_findLeastMean_81 : decode cX5_findLeastMean 81 = .ok (.iinc 5 1, 3) := by decide +kernel
theorem dX5_findLeastMean_84 : decode cX5_findLeastMean 84 = .ok (.goto (-47), 3) := by decide +kernel
theorem dX5_findLeastMean_87 : decode cX5_findLeastMean 87 = .ok (.aload_n 3, 1) := by decide +kernel
theorem dX5_findLeastMean_88 : decode cX5_findLeastMean 88 = .ok (.aload_n 2, 1) := by decide +kernel
theorem dX5_findLeastMean_89 : decode cX5_findLeastMean 89 = .ok (.aload_n 1, 1) := by decide +kernel
theorem dX5_findLeastMean_90 : decode cX5_findLeastMean 90 = .ok (.invokevirtual 155, 3) := by decide +kernel
theorem dX5_findLeastMean_93 : decode cX5_findLeastMean 93 = .ok (.aload_n 2, 1) := by decide +kernel
theorem dX5_findLeastMean_94 : decode cX5_findLeastMean 94 = .ok (.astore 5, 2) := by decide +kernel
theorem dX5_findLeastMean_96 : decode cX5_findLeastMean 96 = .ok (.aload_n 3, 1) := by decide +kernel
theorem dX5_findLeastMean_97 : decode cX5_findLeastMean 97 = .ok (.astore_n 2, 1) := by decide +kernel
theorem dX5_findLeastMean_98 : decode cX5_findLeastMean 98 = .ok (.aload 5, 2) := by decide +kernel
theorem dX5_findLeastMean_100 : decode cX5_findLeastMean 100 = .ok (.astore_n 3, 1) := by decide +kernel
theorem dX5_findLeastMean_101 : decode cX5_findLeastMean 101 = .ok (.iinc 4 1, 3) := by decide +kernel
theorem dX5_findLeastMean_104 : decode cX5_findLeastMean 104 = .ok (.goto (-79), 3) := by decide +kernel
theorem dX5_findLeastMean_107 : decode cX5_findLeastMean 107 = .ok (.return_, 1) := by decide +kernel
theorem dX5_together_0 : decode cX5_together 0 = .ok (.iload_n 0, 1) := by decide +kernel
theorem dX5_together_1 : decode cX5_together 1 = .ok (.ldc_w 301, 3) := by decide +kernel
theorem dX5_together_4 : decode cX5_together 4 = .ok (.if_icmp .eq 10, 3) := by decide +kernel
theorem dX5_together_7 : decode cX5_together 7 = .ok (.iload_n 1, 1) := by decide +kernel
theorem dX5_together_8 : decode cX5_together 8 = .ok (.ldc_w 301, 3) := by decide +kernel
theorem dX5_together_11 : decode cX5_together 11 = .ok (.if_icmp .ne 9, 3) := by decide +kernel
theorem dX5_together_14 : decode cX5_together 14 = .ok (.ldc_w 301, 3) := by decide +kernel
theorem dX5_together_17 : decode cX5_together 17 = .ok (.goto 6, 3) := by decide +kernel
theorem dX5_together_20 : decode cX5_together 20 = .ok (.iload_n 0, 1) := by decide +kernel
theorem dX5_together_21 : decode cX5_together 21 = .ok (.iload_n 1, 1) := by decide +kernel
theorem dX5_together_22 : decode cX5_together 22 = .ok (.iadd, 1) := by decide +kernel
theorem dX5_together_23 : decode cX5_together 23 = .ok (.ireturn, 1) := by decide +kernel
theorem dX5_isBeyond_0 : decode cX5_isBeyond 0 = .ok (.iload_n 0, 1) := by decide +kernel
theorem dX5_isBeyond_1 : decode cX5_isBeyond 1 = .ok (.ldc_w 301, 3) := by decide +kernel
theorem dX5_isBeyond_4 : decode cX5_isBeyond 4 = .ok (.if_icmp .eq 18, 3) := by decide +kernel
theorem dX5_isBeyond_7 : decode cX5_isBeyond 7 = .ok (.iload_n 0, 1) := by decide +kernel
theorem dX5_isBeyond_8 : decode cX5_isBeyond 8 = .ok (.iload_n 1, 1) := by decide +kernel
theorem dX5_isBeyond_9 : decode cX5_isBeyond 9 = .ok (.ineg, 1) := by decide +kernel
theorem dX5_isBeyond_10 : decode cX5_isBeyond 10 = .ok (.if_icmp .lt 8, 3) := by decide +kernel
theorem dX5_isBeyond_13 : decode cX5_isBeyond 13 = .ok (.iload_n 0, 1) := by decide +kernel
theorem dX5_isBeyond_14 : decode cX5_isBeyond 14 = .ok (.iload_n 1, 1) := by decide +kernel
theorem dX5_isBeyond_15 : decode cX5_isBeyond 15 = .ok (.if_icmp .le 7, 3) := by decide +kernel
theorem dX5_isBeyond_18 : decode cX5_isBeyond 18 = .ok (.iconst 1, 1) := by decide +kernel
theorem dX5_isBeyond_19 : decode cX5_isBeyond 19 = .ok (.goto 4, 3) := by decide +kernel
theorem dX5_isBeyond_22 : decode cX5_isBeyond 22 = .ok (.iconst 0, 1) := by decide +kernel
theorem dX5_isBeyond_23 : decode cX5_isBeyond 23 = .ok (.ireturn, 1) := by decide +kernel
theorem dX5_hasNumbers_0 : decode cX5_hasNumbers 0 = .ok (.iconst 0, 1) := by decide +kernel
theorem dX5_hasNumbers_1 : decode cX5_hasNumbers 1 = .ok (.istore_n 2, 1) := by decide +kernel
theorem dX5_hasNumbers_2 : decode cX5_hasNumbers 2 = .ok (.iload_n 2, 1) := by decide +kernel
theorem dX5_hasNumbers_3 : decode cX5_hasNumbers 3 = .ok (.iload_n 1, 1) := by decide +kernel
theorem dX5_hasNumbers_4 : decode cX5_hasNumbers 4 = .ok (.if_icmp .ge 20, 3) := by decide +kernel
theorem dX5_hasNumbers_7 : decode cX5_hasNumbers 7 = .ok (.aload_n 0, 1) := by decide +kernel
theorem dX5_hasNumbers_8 : decode cX5_hasNumbers 8 = .ok (.iload_n 2, 1) := by decide +kernel
theorem dX5_hasNumbers_9 : decode cX5_hasNumbers 9 = .ok (.iaload, 1) := by decide +kernel
theorem dX5_hasNumbers_10 : decode cX5_hasNumbers 10 = .ok (.ldc_w 301, 3) := by decide +kernel
theorem dX5_hasNumbers_13 : decode cX5_hasNumbers 13 = .ok (.if_icmp .ne 5, 3) := by decide +kernel
theorem dX5_hasNumbers_16 : decode cX5_hasNumbers 16 = .ok (.iconst 0, 1) := by decide +kernel
theorem dX5_hasNumbers_17 : decode cX5_hasNumbers 17 = .ok (.ireturn, 1) := by decide +kernel
theorem dX5_hasNumbers_18 : decode cX5_hasNumbers 18 = .ok (.iinc 2 1, 3) := by decide +kernel
theorem dX5_hasNumbers_21 : decode cX5_hasNumbers 21 = .ok (.goto (-19), 3) := by decide +kernel
theorem dX5_hasNumbers_24 : decode cX5_hasNumbers 24 = .ok (.iconst 1, 1) := by decide +kernel
theorem dX5_hasNumbers_25 : decode cX5_hasNumbers 25 = .ok (.ireturn, 1) := by decide +kernel
theorem dX5_areAlike_0 : decode cX5_areAlike 0 = .ok (.iconst 0, 1) := by decide +kernel
theorem dX5_areAlike_1 : decode cX5_areAlike 1 = .ok (.istore_n 3, 1) := by decide +kernel
theorem dX5_areAlike_2 : decode cX5_areAlike 2 = .ok (.iload_n 3, 1) := by decide +kernel
theorem dX5_areAlike_3 : decode cX5_areAlike 3 = .ok (.iload_n 2, 1) := by decide +kernel
theorem dX5_areAlike_4 : decode cX5_areAlike 4 = .ok (.if_icmp .ge 20, 3) := by decide +kernel
theorem dX5_areAlike_7 : decode cX5_areAlike 7 = .ok (.aload_n 0, 1) := by decide +kernel
theorem dX5_areAlike_8 : decode cX5_areAlike 8 = .ok (.iload_n 3, 1) := by decide +kernel
theorem dX5_areAlike_9 : decode cX5_areAlike 9 = .ok (.iaload, 1) := by decide +kernel
theorem dX5_areAlike_10 : decode cX5_areAlike 10 = .ok (.aload_n 1, 1) := by decide +kernel
theorem dX5_areAlike_11 : decode cX5_areAlike 11 = .ok (.iload_n 3, 1) := by decide +kernel
theorem dX5_areAlike_12 : decode cX5_areAlike 12 = .ok (.iaload, 1) := by decide +kernel
theorem dX5_areAlike_13 : decode cX5_areAlike 13 = .ok (.if_icmp .eq 5, 3) := by decide +kernel
theorem dX5_areAlike_16 : decode cX5_areAlike 16 = .ok (.iconst 0, 1) := by decide +kernel
theorem dX5_areAlike_17 : decode cX5_areAlike 17 = .ok (.ireturn, 1) := by decide +kernel
theorem dX5_areAlike_18 : decode cX5_areAlike 18 = .ok (.iinc 3 1, 3) := by decide +kernel
theorem dX5_areAlike_21 : decode cX5_areAlike 21 = .ok (.goto (-19), 3) := by decide +kernel
theorem dX5_areAlike_24 : decode cX5_areAlike 24 = .ok (.iconst 1, 1) := by decide +kernel
theorem dX5_areAlike_25 : decode cX5_areAlike 25 = .ok (.ireturn, 1) := by decide +kernel
theorem dJ6_bitCount_0f7a4_0 : decode cJ6_bitCount_0f7a4 0 = .ok (.iload_n 0, 1) := by decide +kernel
theorem dJ6_bitCount_0f7a4_1 : decode cJ6_bitCount_0f7a4 1 = .ok (.iload_n 0, 1) := by decide +kernel
theorem dJ6_bitCount_0f7a4_2 : decode cJ6_bitCount_0f7a4 2 = .ok (.iconst 1, 1) := by decide +kernel
theorem dJ6_bitCount_0f7a4_3 : decode cJ6_bitCount_0f7a4 3 = .ok (.iushr, 1) := by decide +kernel
theorem dJ6_bitCount_0f7a4_4 : decode cJ6_bitCount_0f7a4 4 = .ok (.ldc_w 265, 3) := by decide +kernel
theorem dJ6_bitCount_0f7a4_7 : decode cJ6_bitCount_0f7a4 7 = .ok (.iand, 1) := by decide +kernel
theorem dJ6_bitCount_0f7a4_8 : decode cJ6_bitCount_0f7a4 8 = .ok (.isub, 1) := by decide +kernel
theorem dJ6_bitCount_0f7a4_9 : decode cJ6_bitCount_0f7a4 9 = .ok (.istore_n 0, 1) := by decide +kernel
theorem dJ6_bitCount_0f7a4_10 : decode cJ6_bitCount_0f7a4 10 = .ok (.iload_n 0, 1) := by decide +kernel
theorem dJ6_bitCount_0f7a4_11 : decode cJ6_bitCount_0f7a4 11 = .ok (.ldc_w 266, 3) := by decide +kernel
theorem dJ6_bitCount_0f7a4_14 : decode cJ6_bitCount_0f7a4 14 = .ok (.iand, 1) := by decide +kernel
theorem dJ6_bitCount_0f7a4_15 : decode cJ6_bitCount_0f7a4 15 = .ok (.iload_n 0, 1) := by decide +kernel
theorem dJ6_bitCount_0f7a4_16 : decode cJ6_bitCount_0f7a4 16 = .ok (.iconst 2, 1) := by decide +kernel
