theorem dX5_no_10 : decode cX5_no 10 = .ok (.iastore, 1) := by decide +kernel
theorem dX5_no_11 : decode cX5_no 11 = .ok (.iload_n 1, 1) := by decide +kernel
theorem dX5_no_12 : decode cX5_no 12 = .ok (.ireturn, 1) := by decide +kernel
set_option maxRecDepth 20000 in
theorem ggX5_noFar_X5_no : GoodIn wsX5_noFar wsX5_no := goodIn_r _ [6, 7, 8, 9, 10, 11, 12, 13, 14, 15, 16, 17, 18, 19, 20] (by decide +kernel) (by decide +kernel)
set_option maxRecDepth 20000 in
theorem gX5_noFar_X5_no : GoodIn wsX5_noFar (wsV RX5 35 RX5 yX5_no wsX5_no) := goodIn_app (goodIn_of _ (by decide +kernel)) ggX5_noFar_X5_no
theorem dX5_noFar_0 : decode cX5_noFar 0 = .ok (.ldc 34, 2) := by decide +kernel
theorem dX5_noFar_2 : decode cX5_noFar 2 = .ok (.aload_n 0, 1) := by decide +kernel
theorem dX5_noFar_3 : decode cX5_noFar 3 = .ok (.iload_n 1, 1) := by decide +kernel
theorem dX5_noFar_4 : decode cX5_noFar 4 = .ok (.invokevirtual 35, 3) := by decide +kernel
theorem dX5_noFar_7 : decode cX5_noFar 7 = .ok (.isub, 1) := by decide +kernel
theorem dX5_noFar_8 : decode cX5_noFar 8 = .ok (.ireturn, 1) := by decide +kernel
set_option maxRecDepth 20000 in
theorem ggX5_noWide_X5_no : GoodIn wsX5_noWide wsX5_no := goodIn_r _ [6, 7, 8, 9, 10, 11, 12, 13, 14, 15, 16, 17, 18, 19, 20] (by decide +kernel) (by decide +kernel)
set_option maxRecDepth 20000 in
theorem gX5_noWide_X5_no : GoodIn wsX5_noWide (wsV RX5 35 RX5 yX5_no wsX5_no) := goodIn_app (goodIn_of _ (by decide +kernel)) ggX5_noWide_X5_no
theorem dX5_noWide_0 : decode cX5_noWide 0 = .ok (.ldc2_w 39, 3) := by decide +kernel
theorem dX5_noWide_3 : decode cX5_noWide 3 = .ok (.aload_n 0, 1) := by decide +kernel
theorem dX5_noWide_4 : decode cX5_noWide 4 = .ok (.iload_n 1, 1) := by decide +kernel
theorem dX5_noWide_5 : decode cX5_noWide 5 = .ok (.invokevirtual 35, 3) := by decide +kernel
theorem dX5_noWide_8 : decode cX5_noWide 8 = .ok (.i2l, 1) := by decide +kernel
theorem dX5_noWide_9 : decode cX5_noWide 9 = .ok (.lsub, 1) := by decide +kernel
theorem dX5_noWide_10 : decode cX5_noWide 10 = .ok (.lreturn, 1) := by decide +kernel
theorem dX5_of_0 : decode cX5_of 0 = .ok (.bipush 10, 2) := by decide +kernel
theorem dX5_of_2 : decode cX5_of 2 = .ok (.iconst 5, 1) := by decide +kernel
theorem dX5_of_3 : decode cX5_of 3 = .ok (.iload_n 0, 1) := by decide +kernel
theorem dX5_of_4 : decode cX5_of 4 = .ok (.imul, 1) := by decide +kernel
theorem dX5_of_5 : decode cX5_of 5 = .ok (.iadd, 1) := by decide +kernel
theorem dX5_of_6 : decode cX5_of 6 = .ok (.iload_n 1, 1) := by decide +kernel
theorem dX5_of_7 : decode cX5_of 7 = .ok (.iadd, 1) := by decide +kernel
theorem dX5_of_8 : decode cX5_of 8 = .ok (.ireturn, 1) := by decide +kernel
set_option maxRecDepth 20000 in
theorem ggX5_isPlace_X5_isIn : GoodIn wsX5_isPlace wsX5_isIn := goodIn_r _ [5] (by decide +kernel) (by decide +kernel)
set_option maxRecDepth 20000 in
theorem gX5_isPlace_X5_isIn : GoodIn wsX5_isPlace (va_wsS RX5 41 yX5_isIn wsX5_isIn) := goodIn_app (goodIn_of _ (by decide +kernel)) ggX5_isPlace_X5_isIn
theorem dX5_isPlace_0 : decode cX5_isPlace 0 = .ok (.iload_n 1, 1) := by decide +kernel
theorem dX5_isPlace_1 : decode cX5_isPlace 1 = .ok (.iconst 0, 1) := by decide +kernel
theorem dX5_isPlace_2 : decode cX5_isPlace 2 = .ok (.aload_n 0, 1) := by decide +kernel
theorem dX5_isPlace_3 : decode cX5_isPlace 3 = .ok (.getfield 9, 3) := by decide +kernel
theorem dX5_isPlace_6 : decode cX5_isPlace 6 = .ok (.iconst 0, 1) := by decide +kernel
theorem dX5_isPlace_7 : decode cX5_isPlace 7 = .ok (.iaload, 1) := by decide +kernel
theorem dX5_isPlace_8 : decode cX5_isPlace 8 = .ok (.iconst 1, 1) := by decide +kernel
theorem dX5_isPlace_9 : decode cX5_isPlace 9 = .ok (.isub, 1) := by decide +kernel
theorem dX5_isPlace_10 : decode cX5_isPlace 10 = .ok (.invokestatic 41, 3) := by decide +kernel
theorem dX5_isPlace_13 : decode cX5_isPlace 13 = .ok (.ireturn, 1) := by decide +kernel
set_option maxRecDepth 20000 in
theorem ggX5_isHand_X5_isIn : GoodIn wsX5_isHand wsX5_isIn := goodIn_r _ [5] (by decide +kernel) (by decide +kernel)
set_option maxRecDepth 20000 in
theorem gX5_isHand_X5_isIn : GoodIn wsX5_isHand (va_wsS RX5 41 yX5_isIn wsX5_isIn) := goodIn_app (goodIn_of _ (by decide +kernel)) ggX5_isHand_X5_isIn
theorem dX5_isHand_0 : decode cX5_isHand 0 = .ok (.iload_n 1, 1) := by decide +kernel
theorem dX5_isHand_1 : decode cX5_isHand 1 = .ok (.iconst 0, 1) := by decide +kernel
theorem dX5_isHand_2 : decode cX5_isHand 2 = .ok (.aload_n 0, 1) := by decide +kernel
theorem dX5_isHand_3 : decode cX5_isHand 3 = .ok (.getfield 9, 3) := by decide +kernel
theorem dX5_isHand_6 : decode cX5_isHand 6 = .ok (.iconst 1, 1) := by decide +kernel
theorem dX5_isHand_7 : decode cX5_isHand 7 = .ok (.iaload, 1) := by decide +kernel
theorem dX5_isHand_8 : decode cX5_isHand 8 = .ok (.iconst 1, 1) := by decide +kernel
theorem dX5_isHand_9 : decode cX5_isHand 9 = .ok (.isub, 1) := by decide +kernel
theorem dX5_isHand_10 : decode cX5_isHand 10 = .ok (.invokestatic 41, 3) := by decide +kernel
theorem dX5_isHand_13 : decode cX5_isHand 13 = .ok (.ireturn, 1) := by decide +kernel
set_option maxRecDepth 20000 in
theorem ggX5_isCell_X5_isIn : GoodIn wsX5_isCell wsX5_isIn := goodIn_r _ [4] (by decide +kernel) (by decide +kernel)
set_option maxRecDepth 20000 in
theorem gX5_isCell_X5_isIn : GoodIn wsX5_isCell (va_wsS RX5 41 yX5_isIn wsX5_isIn) := goodIn_app (goodIn_of _ (by decide +kernel)) ggX5_isCell_X5_isIn
theorem dX5_isCell_0 : decode cX5_isCell 0 = .ok (.iload_n 0, 1) := by decide +kernel
theorem dX5_isCell_1 : decode cX5_isCell 1 = .ok (.iconst 0, 1) := by decide +kernel
theorem dX5_isCell_2 : decode cX5_isCell 2 = .ok (.bipush 63, 2) := by decide +kernel
theorem dX5_isCell_4 : decode cX5_isCell 4 = .ok (.invokestatic 41, 3) := by decide +kernel
theorem dX5_isCell_7 : decode cX5_isCell 7 = .ok (.ireturn, 1) := by decide +kernel
theorem dX5_has_0 : decode cX5_has 0 = .ok (.iload_n 0, 1) := by decide +kernel
theorem dX5_has_1 : decode cX5_has 1 = .ok (.iload_n 1, 1) := by decide +kernel
theorem dX5_has_2 : decode cX5_has 2 = .ok (.ishr, 1) := by decide +kernel
theorem dX5_has_3 : decode cX5_has 3 = .ok (.iconst 1, 1) := by decide +kernel
theorem dX5_has_4 : decode cX5_has 4 = .ok (.iand, 1) := by decide +kernel
theorem dX5_has_5 : decode cX5_has 5 = .ok (.iconst 1, 1) := by decide +kernel
theorem dX5_has_6 : decode cX5_has 6 = .ok (.if_icmp .ne 7, 3) := by decide +kernel
theorem dX5_has_9 : decode cX5_has 9 = .ok (.iconst 1, 1) := by decide +kernel
theorem dX5_has_10 : decode cX5_has 10 = .ok (.goto 4, 3) := by decide +kernel
theorem dX5_has_13 : decode cX5_has 13 = .ok (.iconst 0, 1) := by decide +kernel
theorem dX5_has_14 : decode cX5_has 14 = .ok (.ireturn, 1) := by decide +kernel
theorem dX5_bits_0 : decode cX5_bits 0 = .ok (.iconst 0, 1) := by decide +kernel
theorem dX5_bits_1 : decode cX5_bits 1 = .ok (.istore_n 1, 1) := by decide +kernel
theorem dX5_bits_2 : decode cX5_bits 2 = .ok (.iconst 0, 1) := by decide +kernel
theorem dX5_bits_3 : decode cX5_bits 3 = .ok (.istore_n 2, 1) := by decide +kernel
theorem dX5_bits_4 : decode cX5_bits 4 = .ok (.iload_n 2, 1) := by decide +kernel
theorem dX5_bits_5 : decode cX5_bits 5 = .ok (.bipush 7, 2) := by decide +kernel
theorem dX5_bits_7 : decode cX5_bits 7 = .ok (.if_icmp .ge 17, 3) := by decide +kernel
theorem dX5_bits_10 : decode cX5_bits 10 = .ok (.iload_n 1, 1) := by decide +kernel
theorem dX5_bits_11 : decode cX5_bits 11 = .ok (.iload_n 0, 1) := by decide +kernel
theorem dX5_bits_12 : decode cX5_bits 12 = .ok (.iload_n 2, 1) := by decide +kernel
theorem dX5_bits_13 : decode cX5_bits 13 = .ok (.ishr, 1) := by decide +kernel
theorem dX5_bits_14 : decode cX5_bits 14 = .ok (.iconst 1, 1) := by decide +kernel
theorem dX5_bits_15 : decode cX5_bits 15 = .ok (.iand, 1) := by decide +kernel
theorem dX5_bits_16 : decode cX5_bits 16 = .ok (.iadd, 1) := by decide +kernel
theorem dX5_bits_17 : decode cX5_bits 17 = .ok (.istore_n 1, 1) := by decide +kernel
theorem dX5_bits_18 : decode cX5_bits 18 = .ok (.iinc 2 1, 3) := by decide +kernel
theorem dX5_bits_21 : decode cX5_bits 21 = .ok (.goto (-17), 3) := by decide +kernel
theorem dX5_bits_24 : decode cX5_bits 24 = .ok (.iload_n 1, 1) := by decide +kernel
theorem dX5_bits_25 : decode cX5_bits 25 = .ok (.ireturn, 1) := by decide +kernel
set_option maxRecDepth 20000 in
theorem ggX5_steps_X5_far : GoodIn wsX5_steps wsX5_far := goodIn_r _ [4] (by decide +kernel) (by decide +kernel)
set_option maxRecDepth 20000 in
theorem gX5_steps_X5_far : GoodIn wsX5_steps (va_wsS RX5 45 yX5_far wsX5_far) := goodIn_app (goodIn_of _ (by decide +kernel)) ggX5_steps_X5_far
theorem dX5_steps_0 : decode cX5_steps 0 = .ok (.iload_n 0, 1) := by decide +kernel
theorem dX5_steps_1 : decode cX5_steps 1 = .ok (.bipush 8, 2) := by decide +kernel
theorem dX5_steps_3 : decode cX5_steps 3 = .ok (.idiv, 1) := by decide +kernel
theorem dX5_steps_4 : decode cX5_steps 4 = .ok (.iload_n 1, 1) := by decide +kernel
theorem dX5_steps_5 : decode cX5_steps 5 = .ok (.bipush 8, 2) := by decide +kernel
theorem dX5_steps_7 : decode cX5_steps 7 = .ok (.idiv, 1) := by decide +kernel
theorem dX5_steps_8 : decode cX5_steps 8 = .ok (.isub, 1) := by decide +kernel
theorem dX5_steps_9 : decode cX5_steps 9 = .ok (.invokestatic 45, 3) := by decide +kernel
theorem dX5_steps_12 : decode cX5_steps 12 = .ok (.iload_n 0, 1) := by decide +kernel
theorem dX5_steps_13 : decode cX5_steps 13 = .ok (.bipush 8, 2) := by decide +kernel
theorem dX5_steps_15 : decode cX5_steps 15 = .ok (.irem, 1) := by decide +kernel
theorem dX5_steps_16 : decode cX5_steps 16 = .ok (.iload_n 1, 1) := by decide +kernel
theorem dX5_steps_17 : decode cX5_steps 17 = .ok (.bipush 8, 2) := by decide +kernel
theorem dX5_steps_19 : decode cX5_steps 19 = .ok (.irem, 1) := by decide +kernel
theorem dX5_steps_20 : decode cX5_steps 20 = .ok (.isub, 1) := by decide +kernel
theorem dX5_steps_21 : decode cX5_steps 21 = .ok (.invokestatic 45, 3) := by decide +kernel
theorem dX5_steps_24 : decode cX5_steps 24 = .ok (.iadd, 1) := by decide +kernel
theorem dX5_steps_25 : decode cX5_steps 25 = .ok (.ireturn, 1) := by decide +kernel
set_option maxRecDepth 20000 in
theorem ggX5_cellOf_X5_of : GoodIn wsX5_cellOf wsX5_of := goodIn_r _ [4] (by decide +kernel) (by decide +kernel)
set_option maxRecDepth 20000 in
theorem gX5_cellOf_X5_of : GoodIn wsX5_cellOf (va_wsS RX5 48 yX5_of wsX5_of) := goodIn_app (goodIn_of _ (by decide +kernel)) ggX5_cellOf_X5_of
theorem dX5_cellOf_0 : decode cX5_cellOf 0 = .ok (.aload_n 0, 1) := by decide +kernel
theorem dX5_cellOf_1 : decode cX5_cellOf 1 = .ok (.iconst 4, 1) := by decide +kernel
theorem dX5_cellOf_2 : decode cX5_cellOf 2 = .ok (.aload_n 0, 1) := by decide +kernel
theorem dX5_cellOf_3 : decode cX5_cellOf 3 = .ok (.iload_n 1, 1) := by decide +kernel
theorem dX5_cellOf_4 : decode cX5_cellOf 4 = .ok (.iconst 2, 1) := by decide +kernel
theorem dX5_cellOf_5 : decode cX5_cellOf 5 = .ok (.invokestatic 48, 3) := by decide +kernel
theorem dX5_cellOf_8 : decode cX5_cellOf 8 = .ok (.iaload, 1) := by decide +kernel
theorem dX5_cellOf_9 : decode cX5_cellOf 9 = .ok (.iadd, 1) := by decide +kernel
theorem dX5_cellOf_10 : decode cX5_cellOf 10 = .ok (.iaload, 1) := by decide +kernel
theorem dX5_cellOf_11 : decode cX5_cellOf 11 = .ok (.ireturn, 1) := by decide +kernel
set_option maxRecDepth 20000 in
theorem ggX5_leansIn_X5_of : GoodIn wsX5_leansIn wsX5_of := goodIn_r _ [4] (by decide +kernel) (by decide +kernel)
set_option maxRecDepth 20000 in
theorem gX5_leansIn_X5_of : GoodIn wsX5_leansIn (va_wsS RX5 48 yX5_of wsX5_of) := goodIn_app (goodIn_of _ (by decide +kernel)) ggX5_leansIn_X5_of
set_option maxRecDepth 20000 in
theorem ggX5_leansIn_X5_cellOf : GoodIn wsX5_leansIn wsX5_cellOf := goodIn_r _ [7, 1, 2, 3, 4] (by decide +kernel) (by decide +kernel)
set_option maxRecDepth 20000 in
theorem gX5_leansIn_X5_cellOf : GoodIn wsX5_leansIn (va_wsS RX5 52 yX5_cellOf wsX5_cellOf) := goodIn_app (goodIn_of _ (by decide +kernel)) ggX5_leansIn_X5_cellOf
set_option maxRecDepth 20000 in
theorem ggX5_leansIn_X5_steps : GoodIn wsX5_leansIn wsX5_steps := goodIn_r _ [10, 11, 12, 3, 13] (by decide +kernel) (by decide +kernel)
set_option maxRecDepth 20000 in
theorem gX5_leansIn_X5_steps : GoodIn wsX5_leansIn (va_wsS RX5 56 yX5_steps wsX5_steps) := goodIn_app (goodIn_of _ (by decide +kernel)) ggX5_leansIn_X5_steps
theorem dX5_leansIn_0 : decode cX5_leansIn 0 = .ok (.aload_n 0, 1) := by decide +kernel
theorem dX5_leansIn_1 : decode cX5_leansIn 1 = .ok (.iload_n 1, 1) := by decide +kernel
theorem dX5_leansIn_2 : decode cX5_leansIn 2 = .ok (.iconst 3, 1) := by decide +kernel
theorem dX5_leansIn_3 : decode cX5_leansIn 3 = .ok (.invokestatic 48, 3) := by decide +kernel
theorem dX5_leansIn_6 : decode cX5_leansIn 6 = .ok (.iaload, 1) := by decide +kernel
theorem dX5_leansIn_7 : decode cX5_leansIn 7 = .ok (.iconst 5, 1) := by decide +kernel
theorem dX5_leansIn_8 : decode cX5_leansIn 8 = .ok (.idiv, 1) := by decide +kernel
theorem dX5_leansIn_9 : decode cX5_leansIn 9 = .ok (.iconst 1, 1) := by decide +kernel
theorem dX5_leansIn_10 : decode cX5_leansIn 10 = .ok (.iadd, 1) := by decide +kernel
theorem dX5_leansIn_11 : decode cX5_leansIn 11 = .ok (.istore_n 2, 1) := by decide +kernel
theorem dX5_leansIn_12 : decode cX5_leansIn 12 = .ok (.aload_n 0, 1) := by decide +kernel
theorem dX5_leansIn_13 : decode cX5_leansIn 13 = .ok (.iload_n 1, 1) := by decide +kernel
theorem dX5_leansIn_14 : decode cX5_leansIn 14 = .ok (.iconst 1, 1) := by decide +kernel
theorem dX5_leansIn_15 : decode cX5_leansIn 15 = .ok (.invokestatic 48, 3) := by decide +kernel
theorem dX5_leansIn_18 : decode cX5_leansIn 18 = .ok (.iaload, 1) := by decide +kernel
theorem dX5_leansIn_19 : decode cX5_leansIn 19 = .ok (.iconst 3, 1) := by decide +kernel
theorem dX5_leansIn_20 : decode cX5_leansIn 20 = .ok (.idiv, 1) := by decide +kernel
theorem dX5_leansIn_21 : decode cX5_leansIn 21 = .ok (.istore_n 3, 1) := by decide +kernel
theorem dX5_leansIn_22 : decode cX5_leansIn 22 = .ok (.aload_n 0, 1) := by decide +kernel
theorem dX5_leansIn_23 : decode cX5_leansIn 23 = .ok (.iload_n 1, 1) := by decide +kernel
theorem dX5_leansIn_24 : decode cX5_leansIn 24 = .ok (.iconst 0, 1) := by decide +kernel
theorem dX5_leansIn_25 : decode cX5_leansIn 25 = .ok (.invokestatic 48, 3) := by decide +kernel
theorem dX5_leansIn_28 : decode cX5_leansIn 28 = .ok (.iaload, 1) := by decide +kernel
theorem dX5_leansIn_29 : decode cX5_leansIn 29 = .ok (.tableswitch 73 1 5 #[35, 39, 41, 45, 50], 35) := by decide +kernel
theorem dX5_leansIn_64 : decode cX5_leansIn 64 = .ok (.iconst 2, 1) := by decide +kernel
theorem dX5_leansIn_65 : decode cX5_leansIn 65 = .ok (.iload_n 2, 1) := by decide +kernel
theorem dX5_leansIn_66 : decode cX5_leansIn 66 = .ok (.imul, 1) := by decide +kernel
theorem dX5_leansIn_67 : decode cX5_leansIn 67 = .ok (.ireturn, 1) := by decide +kernel
theorem dX5_leansIn_68 : decode cX5_leansIn 68 = .ok (.iconst 0, 1) := by decide +kernel
theorem dX5_leansIn_69 : decode cX5_leansIn 69 = .ok (.ireturn, 1) := by decide +kernel
theorem dX5_leansIn_70 : decode cX5_leansIn 70 = .ok (.iload_n 2, 1) := by decide +kernel
theorem dX5_leansIn_71 : decode cX5_leansIn 71 = .ok (.iload_n 3, 1) := by decide +kernel
theorem dX5_leansIn_72 : decode cX5_leansIn 72 = .ok (.iadd, 1) := by decide +kernel
theorem dX5_leansIn_73 : decode cX5_leansIn 73 = .ok (.ireturn, 1) := by decide +kernel
theorem dX5_leansIn_74 : decode cX5_leansIn 74 = .ok (.iload_n 2, 1) := by decide +kernel
theorem dX5_leansIn_75 : decode cX5_leansIn 75 = .ok (.iload_n 3, 1) := by decide +kernel
theorem dX5_leansIn_76 : decode cX5_leansIn 76 = .ok (.iadd, 1) := by decide +kernel
theorem dX5_leansIn_77 : decode cX5_leansIn 77 = .ok (.ineg, 1) := by decide +kernel
theorem dX5_leansIn_78 : decode cX5_leansIn 78 = .ok (.ireturn, 1) := by decide +kernel
theorem dX5_leansIn_79 : decode cX5_leansIn 79 = .ok (.aload_n 0, 1) := by decide +kernel
theorem dX5_leansIn_80 : decode cX5_leansIn 80 = .ok (.iconst 3, 1) := by decide +kernel
theorem dX5_leansIn_81 : decode cX5_leansIn 81 = .ok (.iaload, 1) := by decide +kernel
theorem dX5_leansIn_82 : decode cX5_leansIn 82 = .ok (.aload_n 0, 1) := by decide +kernel
theorem dX5_leansIn_83 : decode cX5_leansIn 83 = .ok (.iload_n 1, 1) := by decide +kernel
theorem dX5_leansIn_84 : decode cX5_leansIn 84 = .ok (.invokestatic 52, 3) := by decide +kernel
theorem dX5_leansIn_87 : decode cX5_leansIn 87 = .ok (.invokestatic 56, 3) := by decide +kernel
theorem dX5_leansIn_90 : decode cX5_leansIn 90 = .ok (.iconst 4, 1) := by decide +kernel
theorem dX5_leansIn_91 : decode cX5_leansIn 91 = .ok (.if_icmp .lt 7, 3) := by decide +kernel
theorem dX5_leansIn_94 : decode cX5_leansIn 94 = .ok (.iload_n 2, 1) := by decide +kernel
theorem dX5_leansIn_95 : decode cX5_leansIn 95 = .ok (.goto 6, 3) := by decide +kernel
theorem dX5_leansIn_98 : decode cX5_leansIn 98 = .ok (.iconst 4, 1) := by decide +kernel
theorem dX5_leansIn_99 : decode cX5_leansIn 99 = .ok (.iload_n 2, 1) := by decide +kernel
theorem dX5_leansIn_100 : decode cX5_leansIn 100 = .ok (.imul, 1) := by decide +kernel
theorem dX5_leansIn_101 : decode cX5_leansIn 101 = .ok (.ireturn, 1) := by decide +kernel
theorem dX5_leansIn_102 : decode cX5_leansIn 102 = .ok (.iload_n 2, 1) := by decide +kernel
theorem dX5_leansIn_103 : decode cX5_leansIn 103 = .ok (.ireturn, 1) := by decide +kernel
set_option maxRecDepth 20000 in
theorem ggX5_isAboard_X5_of : GoodIn wsX5_isAboard wsX5_of := goodIn_r _ [4] (by decide +kernel) (by decide +kernel)
set_option maxRecDepth 20000 in
theorem gX5_isAboard_X5_of : GoodIn wsX5_isAboard (va_wsS RX5 48 yX5_of wsX5_of) := goodIn_app (goodIn_of _ (by decide +kernel)) ggX5_isAboard_X5_of
theorem dX5_isAboard_0 : decode cX5_isAboard 0 = .ok (.aload_n 0, 1) := by decide +kernel
theorem dX5_isAboard_1 : decode cX5_isAboard 1 = .ok (.iload_n 1, 1) := by decide +kernel
theorem dX5_isAboard_2 : decode cX5_isAboard 2 = .ok (.iconst 4, 1) := by decide +kernel
theorem dX5_isAboard_3 : decode cX5_isAboard 3 = .ok (.invokestatic 48, 3) := by decide +kernel
theorem dX5_isAboard_6 : decode cX5_isAboard 6 = .ok (.iaload, 1) := by decide +kernel
theorem dX5_isAboard_7 : decode cX5_isAboard 7 = .ok (.iconst 1, 1) := by decide +kernel
theorem dX5_isAboard_8 : decode cX5_isAboard 8 = .ok (.if_icmp .ne 7, 3) := by decide +kernel
theorem dX5_isAboard_11 : decode cX5_isAboard 11 = .ok (.iconst 1, 1) := by decide +kernel
theorem dX5_isAboard_12 : decode cX5_isAboard 12 = .ok (.goto 4, 3) := by decide +kernel
theorem dX5_isAboard_15 : decode cX5_isAboard 15 = .ok (.iconst 0, 1) := by decide +kernel
theorem dX5_isAboard_16 : decode cX5_isAboard 16 = .ok (.ireturn, 1) := by decide +kernel
theorem dX5_signOf_0 : decode cX5_signOf 0 = .ok (.iload_n 0, 1) := by decide +kernel
theorem dX5_signOf_1 : decode cX5_signOf 1 = .ok (.ifCond .ge 7, 3) := by decide +kernel
theorem dX5_signOf_4 : decode cX5_signOf 4 = .ok (.iconst (-1), 1) := by decide +kernel
theorem dX5_signOf_5 : decode cX5_signOf 5 = .ok (.goto 12, 3) := by decide +kernel
theorem dX5_signOf_8 : decode cX5_signOf 8 = .ok (.iload_n 0, 1) := by decide +kernel
theorem dX5_signOf_9 : decode cX5_signOf 9 = .ok (.ifCond .le 7, 3) := by decide +kernel
theorem dX5_signOf_12 : decode cX5_signOf 12 = .ok (.iconst 1, 1) := by decide +kernel
theorem dX5_signOf_13 : decode cX5_signOf 13 = .ok (.goto 4, 3) := by decide +kernel
theorem dX5_signOf_16 : decode cX5_signOf 16 = .ok (.iconst 0, 1) := by decide +kernel
theorem dX5_signOf_17 : decode cX5_signOf 17 = .ok (.ireturn, 1) := by decide +kernel
set_option maxRecDepth 20000 in
theorem ggX5_rowsOff_X5_cellOf : GoodIn wsX5_rowsOff wsX5_cellOf := goodIn_r _ [4, 5, 6, 3, 7] (by decide +kernel) (by decide +kernel)
set_option maxRecDepth 20000 in
theorem gX5_rowsOff_X5_cellOf : GoodIn wsX5_rowsOff (va_wsS RX5 52 yX5_cellOf wsX5_cellOf) := goodIn_app (goodIn_of _ (by decide +kernel)) ggX5_rowsOff_X5_cellOf
set_option maxRecDepth 20000 in
theorem ggX5_rowsOff_X5_signOf : GoodIn wsX5_rowsOff wsX5_signOf := goodIn_r _ [10] (by decide +kernel) (by decide +kernel)
set_option maxRecDepth 20000 in
theorem gX5_rowsOff_X5_signOf : GoodIn wsX5_rowsOff (va_wsS RX5 59 yX5_signOf wsX5_signOf) := goodIn_app (goodIn_of _ (by decide +kernel)) ggX5_rowsOff_X5_signOf
theorem dX5_rowsOff_0 : decode cX5_rowsOff 0 = .ok (.aload_n 0, 1) := by decide +kernel
theorem dX5_rowsOff_1 : decode cX5_rowsOff 1 = .ok (.iload_n 1, 1) := by decide +kernel
theorem dX5_rowsOff_2 : decode cX5_rowsOff 2 = .ok (.invokestatic 52, 3) := by decide +kernel
theorem dX5_rowsOff_5 : decode cX5_rowsOff 5 = .ok (.bipush 8, 2) := by decide +kernel
theorem dX5_rowsOff_7 : decode cX5_rowsOff 7 = .ok (.idiv, 1) := by decide +kernel
theorem dX5_rowsOff_8 : decode cX5_rowsOff 8 = .ok (.aload_n 0, 1) := by decide +kernel
theorem dX5_rowsOff_9 : decode cX5_rowsOff 9 = .ok (.iconst 3, 1) := by decide +kernel
theorem dX5_rowsOff_10 : decode cX5_rowsOff 10 = .ok (.iaload, 1) := by decide +kernel
theorem dX5_rowsOff_11 : decode cX5_rowsOff 11 = .ok (.bipush 8, 2) := by decide +kernel
theorem dX5_rowsOff_13 : decode cX5_rowsOff 13 = .ok (.idiv, 1) := by decide +kernel
theorem dX5_rowsOff_14 : decode cX5_rowsOff 14 = .ok (.isub, 1) := by decide +kernel
theorem dX5_rowsOff_15 : decode cX5_rowsOff 15 = .ok (.invokestatic 59, 3) := by decide +kernel
theorem dX5_rowsOff_18 : decode cX5_rowsOff 18 = .ok (.ireturn, 1) := by decide +kernel
set_option maxRecDepth 20000 in
theorem ggX5_columnsOff_X5_cellOf : GoodIn wsX5_columnsOff wsX5_cellOf := goodIn_r _ [4, 5, 6, 3, 7] (by decide +kernel) (by decide +kernel)
set_option maxRecDepth 20000 in
theorem gX5_columnsOff_X5_cellOf : GoodIn wsX5_columnsOff (va_wsS RX5 52 yX5_cellOf wsX5_cellOf) := goodIn_app (goodIn_of _ (by decide +kernel)) ggX5_columnsOff_X5_cellOf
set_option maxRecDepth 20000 in
theorem ggX5_columnsOff_X5_signOf : GoodIn wsX5_columnsOff wsX5_signOf := goodIn_r _ [10] (by decide +kernel) (by decide +kernel)
set_option maxRecDepth 20000 in
theorem gX5_columnsOff_X5_signOf : GoodIn wsX5_columnsOff (va_wsS RX5 59 yX5_signOf wsX5_signOf) := goodIn_app (goodIn_of _ (by decide +kernel)) ggX5_columnsOff_X5_signOf
theorem dX5_columnsOff_0 : decode cX5_columnsOff 0 = .ok (.aload_n 0, 1) := by decide +kernel
theorem dX5_columnsOff_1 : decode cX5_columnsOff 1 = .ok (.iload_n 1, 1) := by decide +kernel
theorem dX5_columnsOff_2 : decode cX5_columnsOff 2 = .ok (.invokestatic 52, 3) := by decide +kernel
theorem dX5_columnsOff_5 : decode cX5_columnsOff 5 = .ok (.bipush 8, 2) := by decide +kernel
theorem dX5_columnsOff_7 : decode cX5_columnsOff 7 = .ok (.irem, 1) := by decide +kernel
theorem dX5_columnsOff_8 : decode cX5_columnsOff 8 = .ok (.aload_n 0, 1) := by decide +kernel
theorem dX5_columnsOff_9 : decode cX5_columnsOff 9 = .ok (.iconst 3, 1) := by decide +kernel
theorem dX5_columnsOff_10 : decode cX5_columnsOff 10 = .ok (.iaload, 1) := by decide +kernel
theorem dX5_columnsOff_11 : decode cX5_columnsOff 11 = .ok (.bipush 8, 2) := by decide +kernel
theorem dX5_columnsOff_13 : decode cX5_columnsOff 13 = .ok (.irem, 1) := by decide +kernel
theorem dX5_columnsOff_14 : decode cX5_columnsOff 14 = .ok (.isub, 1) := by decide +kernel
theorem dX5_columnsOff_15 : decode cX5_columnsOff 15 = .ok (.invokestatic 59, 3) := by decide +kernel
theorem dX5_columnsOff_18 : decode cX5_columnsOff 18 = .ok (.ireturn, 1) := by decide +kernel
set_option maxRecDepth 20000 in
theorem ggX5_pullIn_X5_isAboard : GoodIn wsX5_pullIn wsX5_isAboard := goodIn_r _ [4, 5, 6, 3, 7] (by decide +kernel) (by decide +kernel)
set_option maxRecDepth 20000 in
theorem gX5_pullIn_X5_isAboard : GoodIn wsX5_pullIn (va_wsS RX5 62 yX5_isAboard wsX5_isAboard) := goodIn_app (goodIn_of _ (by decide +kernel)) ggX5_pullIn_X5_isAboard
set_option maxRecDepth 20000 in
theorem ggX5_pullIn_X5_leansIn : GoodIn wsX5_pullIn wsX5_leansIn := goodIn_r _ [10, 5, 6, 3, 7, 11, 12, 13, 14, 15, 16, 17, 18, 19] (by decide +kernel) (by decide +kernel)
set_option maxRecDepth 20000 in
theorem gX5_pullIn_X5_leansIn : GoodIn wsX5_pullIn (va_wsS RX5 66 yX5_leansIn wsX5_leansIn) := goodIn_app (goodIn_of _ (by decide +kernel)) ggX5_pullIn_X5_leansIn
set_option maxRecDepth 20000 in
theorem ggX5_pullIn_X5_rowsOff : GoodIn wsX5_pullIn wsX5_rowsOff := goodIn_r _ [22, 11, 12, 3, 13, 5, 6, 7, 23, 24, 25] (by decide +kernel) (by decide +kernel)
set_option maxRecDepth 20000 in
theorem gX5_pullIn_X5_rowsOff : GoodIn wsX5_pullIn (va_wsS RX5 69 yX5_rowsOff wsX5_rowsOff) := goodIn_app (goodIn_of _ (by decide +kernel)) ggX5_pullIn_X5_rowsOff
set_option maxRecDepth 20000 in
theorem ggX5_pullIn_X5_columnsOff : GoodIn wsX5_pullIn wsX5_columnsOff := goodIn_r _ [28, 11, 12, 3, 13, 5, 6, 7, 23, 24, 25] (by decide +kernel) (by decide +kernel)
set_option maxRecDepth 20000 in
theorem gX5_pullIn_X5_columnsOff : GoodIn wsX5_pullIn (va_wsS RX5 72 yX5_columnsOff wsX5_columnsOff) := goodIn_app (goodIn_of _ (by decide +kernel)) ggX5_pullIn_X5_columnsOff
theorem dX5_pullIn_0 : decode cX5_pullIn 0 = .ok (.iconst 0, 1) := by decide +kernel
theorem dX5_pullIn_1 : decode cX5_pullIn 1 = .ok (.istore_n 3, 1) := by decide +kernel
theorem dX5_pullIn_2 : decode cX5_pullIn 2 = .ok (.iconst 0, 1) := by decide +kernel
theorem dX5_pullIn_3 : decode cX5_pullIn 3 = .ok (.istore 4, 2) := by decide +kernel
theorem dX5_pullIn_5 : decode cX5_pullIn 5 = .ok (.iload 4, 2) := by decide +kernel
theorem dX5_pullIn_7 : decode cX5_pullIn 7 = .ok (.aload_n 0, 1) := by decide +kernel
theorem dX5_pullIn_8 : decode cX5_pullIn 8 = .ok (.iconst 1, 1) := by decide +kernel
theorem dX5_pullIn_9 : decode cX5_pullIn 9 = .ok (.iaload, 1) := by decide +kernel
theorem dX5_pullIn_10 : decode cX5_pullIn 10 = .ok (.if_icmp .ge 53, 3) := by decide +kernel
theorem dX5_pullIn_13 : decode cX5_pullIn 13 = .ok (.iload 4, 2) := by decide +kernel
theorem dX5_pullIn_15 : decode cX5_pullIn 15 = .ok (.iload_n 2, 1) := by decide +kernel
theorem dX5_pullIn_16 : decode cX5_pullIn 16 = .ok (.if_icmp .eq 41, 3) := by decide +kernel
theorem dX5_pullIn_19 : decode cX5_pullIn 19 = .ok (.aload_n 0, 1) := by decide +kernel
theorem dX5_pullIn_20 : decode cX5_pullIn 20 = .ok (.iload 4, 2) := by decide +kernel
theorem dX5_pullIn_22 : decode cX5_pullIn 22 = .ok (.invokestatic 62, 3) := by decide +kernel
theorem dX5_pullIn_25 : decode cX5_pullIn 25 = .ok (.ifCond .eq 32, 3) := by decide +kernel
theorem dX5_pullIn_28 : decode cX5_pullIn 28 = .ok (.iload_n 3, 1) := by decide +kernel
theorem dX5_pullIn_29 : decode cX5_pullIn 29 = .ok (.aload_n 0, 1) := by decide +kernel
theorem dX5_pullIn_30 : decode cX5_pullIn 30 = .ok (.iload 4, 2) := by decide +kernel
theorem dX5_pullIn_32 : decode cX5_pullIn 32 = .ok (.invokestatic 66, 3) := by decide +kernel
theorem dX5_pullIn_35 : decode cX5_pullIn 35 = .ok (.iload_n 1, 1) := by decide +kernel
theorem dX5_pullIn_36 : decode cX5_pullIn 36 = .ok (.ifCond .ne 12, 3) := by decide +kernel
theorem dX5_pullIn_39 : decode cX5_pullIn 39 = .ok (.aload_n 0, 1) := by decide +kernel
theorem dX5_pullIn_40 : decode cX5_pullIn 40 = .ok (.iload 4, 2) := by decide +kernel
theorem dX5_pullIn_42 : decode cX5_pullIn 42 = .ok (.invokestatic 69, 3) := by decide +kernel
theorem dX5_pullIn_45 : decode cX5_pullIn 45 = .ok (.goto 9, 3) := by decide +kernel
theorem dX5_pullIn_48 : decode cX5_pullIn 48 = .ok (.aload_n 0, 1) := by decide +kernel
theorem dX5_pullIn_49 : decode cX5_pullIn 49 = .ok (.iload 4, 2) := by decide +kernel
theorem dX5_pullIn_51 : decode cX5_pullIn 51 = .ok (.invokestatic 72, 3) := by decide +kernel
theorem dX5_pullIn_54 : decode cX5_pullIn 54 = .ok (.imul, 1) := by decide +kernel
theorem dX5_pullIn_55 : decode cX5_pullIn 55 = .ok (.iadd, 1) := by decide +kernel
theorem dX5_pullIn_56 : decode cX5_pullIn 56 = .ok (.istore_n 3, 1) := by decide +kernel
theorem dX5_pullIn_57 : decode cX5_pullIn 57 = .ok (.iinc 4 1, 3) := by decide +kernel
theorem dX5_pullIn_60 : decode cX5_pullIn 60 = .ok (.goto (-55), 3) := by decide +kernel
theorem dX5_pullIn_63 : decode cX5_pullIn 63 = .ok (.iload_n 3, 1) := by decide +kernel
theorem dX5_pullIn_64 : decode cX5_pullIn 64 = .ok (.ireturn, 1) := by decide +kernel
set_option maxRecDepth 20000 in
theorem ggX5_needleIn_X5_pullIn : GoodIn wsX5_needleIn wsX5_pullIn := goodIn_r _ [4, 5, 6, 3, 7, 8, 9, 10, 11, 12, 13, 14, 15, 16, 17, 18, 19, 20, 21, 22, 23, 24, 25, 26, 27, 28, 29, 30, 31] (by decide +kernel) (by decide +kernel)
set_option maxRecDepth 20000 in
theorem gX5_needleIn_X5_pullIn : GoodIn wsX5_needleIn (va_wsS RX5 75 yX5_pullIn wsX5_pullIn) := goodIn_app (goodIn_of _ (by decide +kernel)) ggX5_needleIn_X5_pullIn
set_option maxRecDepth 20000 in
theorem ggX5_needleIn_X5_far : GoodIn wsX5_needleIn wsX5_far := goodIn_r _ [22] (by decide +kernel) (by decide +kernel)
set_option maxRecDepth 20000 in
theorem gX5_needleIn_X5_far : GoodIn wsX5_needleIn (va_wsS RX5 45 yX5_far wsX5_far) := goodIn_app (goodIn_of _ (by decide +kernel)) ggX5_needleIn_X5_far
theorem dX5_needleIn_0 : decode cX5_needleIn 0 = .ok (.aload_n 0, 1) := by decide +kernel
theorem dX5_needleIn_1 : decode cX5_needleIn 1 = .ok (.iconst 0, 1) := by decide +kernel
theorem dX5_needleIn_2 : decode cX5_needleIn 2 = .ok (.iload_n 1, 1) := by decide +kernel
theorem dX5_needleIn_3 : decode cX5_needleIn 3 = .ok (.invokestatic 75, 3) := by decide +kernel
theorem dX5_needleIn_6 : decode cX5_needleIn 6 = .ok (.istore_n 2, 1) := by decide +kernel
theorem dX5_needleIn_7 : decode cX5_needleIn 7 = .ok (.aload_n 0, 1) := by decide +kernel
theorem dX5_needleIn_8 : decode cX5_needleIn 8 = .ok (.iconst 1, 1) := by decide +kernel
theorem dX5_needleIn_9 : decode cX5_needleIn 9 = .ok (.iload_n 1, 1) := by decide +kernel
theorem dX5_needleIn_10 : decode cX5_needleIn 10 = .ok (.invokestatic 75, 3) := by decide +kernel
theorem dX5_needleIn_13 : decode cX5_needleIn 13 = .ok (.istore_n 3, 1) := by decide +kernel
theorem dX5_needleIn_14 : decode cX5_needleIn 14 = .ok (.iload_n 2, 1) := by decide +kernel
theorem dX5_needleIn_15 : decode cX5_needleIn 15 = .ok (.invokestatic 45, 3) := by decide +kernel
theorem dX5_needleIn_18 : decode cX5_needleIn 18 = .ok (.iload_n 3, 1) := by decide +kernel
theorem dX5_needleIn_19 : decode cX5_needleIn 19 = .ok (.invokestatic 45, 3) := by decide +kernel
theorem dX5_needleIn_22 : decode cX5_needleIn 22 = .ok (.if_icmp .le 13, 3) := by decide +kernel
theorem dX5_needleIn_25 : decode cX5_needleIn 25 = .ok (.iload_n 2, 1) := by decide +kernel
theorem dX5_needleIn_26 : decode cX5_needleIn 26 = .ok (.ifCond .ge 7, 3) := by decide +kernel
theorem dX5_needleIn_29 : decode cX5_needleIn 29 = .ok (.iconst 0, 1) := by decide +kernel
theorem dX5_needleIn_30 : decode cX5_needleIn 30 = .ok (.goto 4, 3) := by decide +kernel
theorem dX5_needleIn_33 : decode cX5_needleIn 33 = .ok (.iconst 2, 1) := by decide +kernel
theorem dX5_needleIn_34 : decode cX5_needleIn 34 = .ok (.ireturn, 1) := by decide +kernel
theorem dX5_needleIn_35 : decode cX5_needleIn 35 = .ok (.iload_n 3, 1) := by decide +kernel
theorem dX5_needleIn_36 : decode cX5_needleIn 36 = .ok (.ifCond .le 7, 3) := by decide +kernel
theorem dX5_needleIn_39 : decode cX5_needleIn 39 = .ok (.iconst 1, 1) := by decide +kernel
theorem dX5_needleIn_40 : decode cX5_needleIn 40 = .ok (.goto 13, 3) := by decide +kernel
theorem dX5_needleIn_43 : decode cX5_needleIn 43 = .ok (.iload_n 3, 1) := by decide +kernel
theorem dX5_needleIn_44 : decode cX5_needleIn 44 = .ok (.ifCond .ge 7, 3) := by decide +kernel
theorem dX5_needleIn_47 : decode cX5_needleIn 47 = .ok (.iconst 3, 1) := by decide +kernel
theorem dX5_needleIn_48 : decode cX5_needleIn 48 = .ok (.goto 5, 3) := by decide +kernel
theorem dX5_needleIn_51 : decode cX5_needleIn 51 = .ok (.bipush (-9), 2) := by decide +kernel
theorem dX5_needleIn_53 : decode cX5_needleIn 53 = .ok (.ireturn, 1) := by decide +kernel
theorem dX5_wayFrom_0 : decode cX5_wayFrom 0 = .ok (.iload_n 1, 1) := by decide +kernel
theorem dX5_wayFrom_1 : decode cX5_wayFrom 1 = .ok (.tableswitch 93 0 3 #[31, 46, 63, 78], 31) := by decide +kernel
theorem dX5_wayFrom_32 : decode cX5_wayFrom 32 = .ok (.iload_n 0, 1) := by decide +kernel
theorem dX5_wayFrom_33 : decode cX5_wayFrom 33 = .ok (.bipush 8, 2) := by decide +kernel
theorem dX5_wayFrom_35 : decode cX5_wayFrom 35 = .ok (.if_icmp .ge 7, 3) := by decide +kernel
theorem dX5_wayFrom_38 : decode cX5_wayFrom 38 = .ok (.iload_n 0, 1) := by decide +kernel
theorem dX5_wayFrom_39 : decode cX5_wayFrom 39 = .ok (.goto 7, 3) := by decide +kernel
theorem dX5_wayFrom_42 : decode cX5_wayFrom 42 = .ok (.iload_n 0, 1) := by decide +kernel
theorem dX5_wayFrom_43 : decode cX5_wayFrom 43 = .ok (.bipush 8, 2) := by decide +kernel
theorem dX5_wayFrom_45 : decode cX5_wayFrom 45 = .ok (.isub, 1) := by decide +kernel
theorem dX5_wayFrom_46 : decode cX5_wayFrom 46 = .ok (.ireturn, 1) := by decide +kernel
theorem dX5_wayFrom_47 : decode cX5_wayFrom 47 = .ok (.iload_n 0, 1) := by decide +kernel
theorem dX5_wayFrom_48 : decode cX5_wayFrom 48 = .ok (.bipush 8, 2) := by decide +kernel
theorem dX5_wayFrom_50 : decode cX5_wayFrom 50 = .ok (.irem, 1) := by decide +kernel
theorem dX5_wayFrom_51 : decode cX5_wayFrom 51 = .ok (.bipush 7, 2) := by decide +kernel
theorem dX5_wayFrom_53 : decode cX5_wayFrom 53 = .ok (.if_icmp .ne 7, 3) := by decide +kernel
theorem dX5_wayFrom_56 : decode cX5_wayFrom 56 = .ok (.iload_n 0, 1) := by decide +kernel
theorem dX5_wayFrom_57 : decode cX5_wayFrom 57 = .ok (.goto 6, 3) := by decide +kernel
theorem dX5_wayFrom_60 : decode cX5_wayFrom 60 = .ok (.iload_n 0, 1) := by decide +kernel
theorem dX5_wayFrom_61 : decode cX5_wayFrom 61 = .ok (.iconst 1, 1) := by decide +kernel
theorem dX5_wayFrom_62 : decode cX5_wayFrom 62 = .ok (.iadd, 1) := by decide +kernel
theorem dX5_wayFrom_63 : decode cX5_wayFrom 63 = .ok (.ireturn, 1) := by decide +kernel
theorem dX5_wayFrom_64 : decode cX5_wayFrom 64 = .ok (.iload_n 0, 1) := by decide +kernel
theorem dX5_wayFrom_65 : decode cX5_wayFrom 65 = .ok (.bipush 56, 2) := by decide +kernel
theorem dX5_wayFrom_67 : decode cX5_wayFrom 67 = .ok (.if_icmp .lt 7, 3) := by decide +kernel
theorem dX5_wayFrom_70 : decode cX5_wayFrom 70 = .ok (.iload_n 0, 1) := by decide +kernel
theorem dX5_wayFrom_71 : decode cX5_wayFrom 71 = .ok (.goto 7, 3) := by decide +kernel
theorem dX5_wayFrom_74 : decode cX5_wayFrom 74 = .ok (.iload_n 0, 1) := by decide +kernel
theorem dX5_wayFrom_75 : decode cX5_wayFrom 75 = .ok (.bipush 8, 2) := by decide +kernel
theorem dX5_wayFrom_77 : decode cX5_wayFrom 77 = .ok (.iadd, 1) := by decide +kernel
theorem dX5_wayFrom_78 : decode cX5_wayFrom 78 = .ok (.ireturn, 1) := by decide +kernel
theorem dX5_wayFrom_79 : decode cX5_wayFrom 79 = .ok (.iload_n 0, 1) := by decide +kernel
theorem dX5_wayFrom_80 : decode cX5_wayFrom 80 = .ok (.bipush 8, 2) := by decide +kernel
theorem dX5_wayFrom_82 : decode cX5_wayFrom 82 = .ok (.irem, 1) := by decide +kernel
theorem dX5_wayFrom_83 : decode cX5_wayFrom 83 = .ok (.ifCond .ne 7, 3) := by decide +kernel
theorem dX5_wayFrom_86 : decode cX5_wayFrom 86 = .ok (.iload_n 0, 1) := by decide +kernel
theorem dX5_wayFrom_87 : decode cX5_wayFrom 87 = .ok (.goto 6, 3) := by decide +kernel
theorem dX5_wayFrom_90 : decode cX5_wayFrom 90 = .ok (.iload_n 0, 1) := by decide +kernel
theorem dX5_wayFrom_91 : decode cX5_wayFrom 91 = .ok (.iconst 1, 1) := by decide +kernel
theorem dX5_wayFrom_92 : decode cX5_wayFrom 92 = .ok (.isub, 1) := by decide +kernel
theorem dX5_wayFrom_93 : decode cX5_wayFrom 93 = .ok (.ireturn, 1) := by decide +kernel
theorem dX5_wayFrom_94 : decode cX5_wayFrom 94 = .ok (.iload_n 0, 1) := by decide +kernel
theorem dX5_wayFrom_95 : decode cX5_wayFrom 95 = .ok (.ireturn, 1) := by decide +kernel
set_option maxRecDepth 20000 in
theorem ggX5_day_X5_needleIn : GoodIn wsX5_day wsX5_needleIn := goodIn_r _ [4, 5, 6, 3, 7, 8, 9, 10, 11, 12, 13, 14, 15, 16, 17, 18, 19, 20, 21, 22, 23, 24, 25, 26, 27, 28, 29, 30, 31, 32, 33, 34] (by decide +kernel) (by decide +kernel)
set_option maxRecDepth 20000 in
theorem gX5_day_X5_needleIn : GoodIn wsX5_day (va_wsS RX5 79 yX5_needleIn wsX5_needleIn) := goodIn_app (goodIn_of _ (by decide +kernel)) ggX5_day_X5_needleIn
set_option maxRecDepth 20000 in
theorem ggX5_day_X5_wayFrom : GoodIn wsX5_day wsX5_wayFrom := goodIn_r _ [37] (by decide +kernel) (by decide +kernel)
set_option maxRecDepth 20000 in
theorem gX5_day_X5_wayFrom : GoodIn wsX5_day (va_wsS RX5 82 yX5_wayFrom wsX5_wayFrom) := goodIn_app (goodIn_of _ (by decide +kernel)) ggX5_day_X5_wayFrom
set_option maxRecDepth 20000 in
theorem ggX5_day_X5_of : GoodIn wsX5_day wsX5_of := goodIn_r _ [13] (by decide +kernel) (by decide +kernel)
set_option maxRecDepth 20000 in
theorem gX5_day_X5_of : GoodIn wsX5_day (va_wsS RX5 48 yX5_of wsX5_of) := goodIn_app (goodIn_of _ (by decide +kernel)) ggX5_day_X5_of
set_option maxRecDepth 20000 in
theorem ggX5_day_X5_isAboard : GoodIn wsX5_day wsX5_isAboard := goodIn_r _ [10, 11, 12, 3, 13] (by decide +kernel) (by decide +kernel)
set_option maxRecDepth 20000 in
theorem gX5_day_X5_isAboard : GoodIn wsX5_day (va_wsS RX5 62 yX5_isAboard wsX5_isAboard) := goodIn_app (goodIn_of _ (by decide +kernel)) ggX5_day_X5_isAboard
theorem dX5_day_0 : decode cX5_day 0 = .ok (.aload_n 0, 1) := by decide +kernel
theorem dX5_day_1 : decode cX5_day 1 = .ok (.iconst 2, 1) := by decide +kernel
theorem dX5_day_2 : decode cX5_day 2 = .ok (.dup2, 1) := by decide +kernel
theorem dX5_day_3 : decode cX5_day 3 = .ok (.iaload, 1) := by decide +kernel
theorem dX5_day_4 : decode cX5_day 4 = .ok (.iconst 1, 1) := by decide +kernel
theorem dX5_day_5 : decode cX5_day 5 = .ok (.iadd, 1) := by decide +kernel
theorem dX5_day_6 : decode cX5_day 6 = .ok (.iastore, 1) := by decide +kernel
theorem dX5_day_7 : decode cX5_day 7 = .ok (.iload_n 1, 1) := by decide +kernel
theorem dX5_day_8 : decode cX5_day 8 = .ok (.ifCond .ne 18, 3) := by decide +kernel
theorem dX5_day_11 : decode cX5_day 11 = .ok (.aload_n 0, 1) := by decide +kernel
theorem dX5_day_12 : decode cX5_day 12 = .ok (.iconst 3, 1) := by decide +kernel
theorem dX5_day_13 : decode cX5_day 13 = .ok (.aload_n 0, 1) := by decide +kernel
theorem dX5_day_14 : decode cX5_day 14 = .ok (.iconst 3, 1) := by decide +kernel
theorem dX5_day_15 : decode cX5_day 15 = .ok (.iaload, 1) := by decide +kernel
theorem dX5_day_16 : decode cX5_day 16 = .ok (.aload_n 0, 1) := by decide +kernel
theorem dX5_day_17 : decode cX5_day 17 = .ok (.bipush (-9), 2) := by decide +kernel
theorem dX5_day_19 : decode cX5_day 19 = .ok (.invokestatic 79, 3) := by decide +kernel
theorem dX5_day_22 : decode cX5_day 22 = .ok (.invokestatic 82, 3) := by decide +kernel
theorem dX5_day_25 : decode cX5_day 25 = .ok (.iastore, 1) := by decide +kernel
theorem dX5_day_26 : decode cX5_day 26 = .ok (.iconst 0, 1) := by decide +kernel
theorem dX5_day_27 : decode cX5_day 27 = .ok (.istore_n 2, 1) := by decide +kernel
theorem dX5_day_28 : decode cX5_day 28 = .ok (.iload_n 2, 1) := by decide +kernel
theorem dX5_day_29 : decode cX5_day 29 = .ok (.aload_n 0, 1) := by decide +kernel
theorem dX5_day_30 : decode cX5_day 30 = .ok (.iconst 1, 1) := by decide +kernel
theorem dX5_day_31 : decode cX5_day 31 = .ok (.iaload, 1) := by decide +kernel
theorem dX5_day_32 : decode cX5_day 32 = .ok (.if_icmp .ge 58, 3) := by decide +kernel
theorem dX5_day_35 : decode cX5_day 35 = .ok (.aload_n 0, 1) := by decide +kernel
theorem dX5_day_36 : decode cX5_day 36 = .ok (.iload_n 2, 1) := by decide +kernel
theorem dX5_day_37 : decode cX5_day 37 = .ok (.iconst 3, 1) := by decide +kernel
theorem dX5_day_38 : decode cX5_day 38 = .ok (.invokestatic 48, 3) := by decide +kernel
theorem dX5_day_41 : decode cX5_day 41 = .ok (.iaload, 1) := by decide +kernel
theorem dX5_day_42 : decode cX5_day 42 = .ok (.aload_n 0, 1) := by decide +kernel
theorem dX5_day_43 : decode cX5_day 43 = .ok (.iload_n 2, 1) := by decide +kernel
theorem dX5_day_44 : decode cX5_day 44 = .ok (.invokestatic 62, 3) := by decide +kernel
theorem dX5_day_47 : decode cX5_day 47 = .ok (.ifCond .eq 7, 3) := by decide +kernel
theorem dX5_day_50 : decode cX5_day 50 = .ok (.iconst 1, 1) := by decide +kernel
theorem dX5_day_51 : decode cX5_day 51 = .ok (.goto 4, 3) := by decide +kernel
theorem dX5_day_54 : decode cX5_day 54 = .ok (.iconst (-1), 1) := by decide +kernel
theorem dX5_day_55 : decode cX5_day 55 = .ok (.iadd, 1) := by decide +kernel
theorem dX5_day_56 : decode cX5_day 56 = .ok (.istore_n 3, 1) := by decide +kernel
theorem dX5_day_57 : decode cX5_day 57 = .ok (.aload_n 0, 1) := by decide +kernel
theorem dX5_day_58 : decode cX5_day 58 = .ok (.iload_n 2, 1) := by decide +kernel
theorem dX5_day_59 : decode cX5_day 59 = .ok (.iconst 3, 1) := by decide +kernel
theorem dX5_day_60 : decode cX5_day 60 = .ok (.invokestatic 48, 3) := by decide +kernel
theorem dX5_day_63 : decode cX5_day 63 = .ok (.iload_n 3, 1) := by decide +kernel
theorem dX5_day_64 : decode cX5_day 64 = .ok (.ifCond .ge 7, 3) := by decide +kernel
theorem dX5_day_67 : decode cX5_day 67 = .ok (.iconst 0, 1) := by decide +kernel
theorem dX5_day_68 : decode cX5_day 68 = .ok (.goto 15, 3) := by decide +kernel
theorem dX5_day_71 : decode cX5_day 71 = .ok (.iload_n 3, 1) := by decide +kernel
theorem dX5_day_72 : decode cX5_day 72 = .ok (.bipush 99, 2) := by decide +kernel
theorem dX5_day_74 : decode cX5_day 74 = .ok (.if_icmp .le 8, 3) := by decide +kernel
theorem dX5_day_77 : decode cX5_day 77 = .ok (.bipush 99, 2) := by decide +kernel
theorem dX5_day_79 : decode cX5_day 79 = .ok (.goto 4, 3) := by decide +kernel
theorem dX5_day_82 : decode cX5_day 82 = .ok (.iload_n 3, 1) := by decide +kernel
theorem dX5_day_83 : decode cX5_day 83 = .ok (.iastore, 1) := by decide +kernel
theorem dX5_day_84 : decode cX5_day 84 = .ok (.iinc 2 1, 3) := by decide +kernel
theorem dX5_day_87 : decode cX5_day 87 = .ok (.goto (-59), 3) := by decide +kernel
theorem dX5_day_90 : decode cX5_day 90 = .ok (.return_, 1) := by decide +kernel
set_option maxRecDepth 20000 in
theorem ggX5_daysOn_X5_day : GoodIn wsX5_daysOn wsX5_day := goodIn_r _ [4, 5, 6, 3, 7, 8, 9, 10, 11, 12, 13, 14, 15, 16, 17, 18, 19, 20, 21, 22, 23, 24, 25, 26, 27, 28, 29, 30, 31, 32, 33, 34, 35, 36, 37, 38, 39, 40] (by decide +kernel) (by decide +kernel)
set_option maxRecDepth 20000 in
theorem gX5_daysOn_X5_day : GoodIn wsX5_daysOn (va_wsS RX5 85 yX5_day wsX5_day) := goodIn_app (goodIn_of _ (by decide +kernel)) ggX5_daysOn_X5_day
theorem dX5_daysOn_0 : decode cX5_daysOn 0 = .ok (.iconst 0, 1) := by decide +kernel
theorem dX5_daysOn_1 : decode cX5_daysOn 1 = .ok (.istore_n 2, 1) := by decide +kernel
theorem dX5_daysOn_2 : decode cX5_daysOn 2 = .ok (.iload_n 2, 1) := by decide +kernel
theorem dX5_daysOn_3 : decode cX5_daysOn 3 = .ok (.iload_n 1, 1) := by decide +kernel
theorem dX5_daysOn_4 : decode cX5_daysOn 4 = .ok (.if_icmp .ge 14, 3) := by decide +kernel
theorem dX5_daysOn_7 : decode cX5_daysOn 7 = .ok (.aload_n 0, 1) := by decide +kernel
theorem dX5_daysOn_8 : decode cX5_daysOn 8 = .ok (.iconst 0, 1) := by decide +kernel
theorem dX5_daysOn_9 : decode cX5_daysOn 9 = .ok (.invokestatic 85, 3) := by decide +kernel
theorem dX5_daysOn_12 : decode cX5_daysOn 12 = .ok (.iinc 2 1, 3) := by decide +kernel
theorem dX5_daysOn_15 : decode cX5_daysOn 15 = .ok (.goto (-13), 3) := by decide +kernel
theorem dX5_daysOn_18 : decode cX5_daysOn 18 = .ok (.return_, 1) := by decide +kernel
set_option maxRecDepth 20000 in
theorem ggX5_aboardIn_X5_of : GoodIn wsX5_aboardIn wsX5_of := goodIn_r _ [4] (by decide +kernel) (by decide +kernel)
set_option maxRecDepth 20000 in
theorem gX5_aboardIn_X5_of : GoodIn wsX5_aboardIn (va_wsS RX5 48 yX5_of wsX5_of) := goodIn_app (goodIn_of _ (by decide +kernel)) ggX5_aboardIn_X5_of
theorem dX5_aboardIn_0 : decode cX5_aboardIn 0 = .ok (.iconst 0, 1) := by decide +kernel
theorem dX5_aboardIn_1 : decode cX5_aboardIn 1 = .ok (.istore_n 1, 1) := by decide +kernel
theorem dX5_aboardIn_2 : decode cX5_aboardIn 2 = .ok (.iconst 0, 1) := by decide +kernel
theorem dX5_aboardIn_3 : decode cX5_aboardIn 3 = .ok (.istore_n 2, 1) := by decide +kernel
theorem dX5_aboardIn_4 : decode cX5_aboardIn 4 = .ok (.iload_n 2, 1) := by decide +kernel
theorem dX5_aboardIn_5 : decode cX5_aboardIn 5 = .ok (.aload_n 0, 1) := by decide +kernel
theorem dX5_aboardIn_6 : decode cX5_aboardIn 6 = .ok (.iconst 1, 1) := by decide +kernel
theorem dX5_aboardIn_7 : decode cX5_aboardIn 7 = .ok (.iaload, 1) := by decide +kernel
theorem dX5_aboardIn_8 : decode cX5_aboardIn 8 = .ok (.if_icmp .ge 21, 3) := by decide +kernel
theorem dX5_aboardIn_11 : decode cX5_aboardIn 11 = .ok (.iload_n 1, 1) := by decide +kernel
theorem dX5_aboardIn_12 : decode cX5_aboardIn 12 = .ok (.aload_n 0, 1) := by decide +kernel
theorem dX5_aboardIn_13 : decode cX5_aboardIn 13 = .ok (.iload_n 2, 1) := by decide +kernel
theorem dX5_aboardIn_14 : decode cX5_aboardIn 14 = .ok (.iconst 4, 1) := by decide +kernel
theorem dX5_aboardIn_15 : decode cX5_aboardIn 15 = .ok (.invokestatic 48, 3) := by decide +kernel
theorem dX5_aboardIn_18 : decode cX5_aboardIn 18 = .ok (.iaload, 1) := by decide +kernel
theorem dX5_aboardIn_19 : decode cX5_aboardIn 19 = .ok (.iload_n 2, 1) := by decide +kernel
theorem dX5_aboardIn_20 : decode cX5_aboardIn 20 = .ok (.ishl, 1) := by decide +kernel
theorem dX5_aboardIn_21 : decode cX5_aboardIn 21 = .ok (.ior, 1) := by decide +kernel
theorem dX5_aboardIn_22 : decode cX5_aboardIn 22 = .ok (.istore_n 1, 1) := by decide +kernel
theorem dX5_aboardIn_23 : decode cX5_aboardIn 23 = .ok (.iinc 2 1, 3) := by decide +kernel
theorem dX5_aboardIn_26 : decode cX5_aboardIn 26 = .ok (.goto (-22), 3) := by decide +kernel
theorem dX5_aboardIn_29 : decode cX5_aboardIn 29 = .ok (.iload_n 1, 1) := by decide +kernel
theorem dX5_aboardIn_30 : decode cX5_aboardIn 30 = .ok (.ireturn, 1) := by decide +kernel
set_option maxRecDepth 20000 in
theorem ggX5_dropsIn_X5_of : GoodIn wsX5_dropsIn wsX5_of := goodIn_r _ [4] (by decide +kernel) (by decide +kernel)
set_option maxRecDepth 20000 in
theorem gX5_dropsIn_X5_of : GoodIn wsX5_dropsIn (va_wsS RX5 48 yX5_of wsX5_of) := goodIn_app (goodIn_of _ (by decide +kernel)) ggX5_dropsIn_X5_of
theorem dX5_dropsIn_0 : decode cX5_dropsIn 0 = .ok (.aload_n 0, 1) := by decide +kernel
theorem dX5_dropsIn_1 : decode cX5_dropsIn 1 = .ok (.iload_n 1, 1) := by decide +kernel
theorem dX5_dropsIn_2 : decode cX5_dropsIn 2 = .ok (.iconst 3, 1) := by decide +kernel
theorem dX5_dropsIn_3 : decode cX5_dropsIn 3 = .ok (.invokestatic 48, 3) := by decide +kernel
theorem dX5_dropsIn_6 : decode cX5_dropsIn 6 = .ok (.dup2, 1) := by decide +kernel
theorem dX5_dropsIn_7 : decode cX5_dropsIn 7 = .ok (.iaload, 1) := by decide +kernel
theorem dX5_dropsIn_8 : decode cX5_dropsIn 8 = .ok (.iconst 2, 1) := by decide +kernel
theorem dX5_dropsIn_9 : decode cX5_dropsIn 9 = .ok (.idiv, 1) := by decide +kernel
theorem dX5_dropsIn_10 : decode cX5_dropsIn 10 = .ok (.iastore, 1) := by decide +kernel
theorem dX5_dropsIn_11 : decode cX5_dropsIn 11 = .ok (.return_, 1) := by decide +kernel
set_option maxRecDepth 20000 in
theorem ggX5_letter_X5_no : GoodIn wsX5_letter wsX5_no := goodIn_r _ [7, 8, 9, 10, 11, 12, 13, 14, 15, 16, 17, 18, 19, 20, 21] (by decide +kernel) (by decide +kernel)
set_option maxRecDepth 20000 in
theorem gX5_letter_X5_no : GoodIn wsX5_letter (wsV RX5 35 RX5 yX5_no wsX5_no) := goodIn_app (goodIn_of _ (by decide +kernel)) ggX5_letter_X5_no
theorem dX5_letter_0 : decode cX5_letter 0 = .ok (.iload_n 1, 1) := by decide +kernel
theorem dX5_letter_1 : decode cX5_letter 1 = .ok (.ifCond .ge 10, 3) := by decide +kernel
theorem dX5_letter_4 : decode cX5_letter 4 = .ok (.aload_n 0, 1) := by decide +kernel
theorem dX5_letter_5 : decode cX5_letter 5 = .ok (.bipush (-4), 2) := by decide +kernel
theorem dX5_letter_7 : decode cX5_letter 7 = .ok (.invokevirtual 35, 3) := by decide +kernel
theorem dX5_letter_10 : decode cX5_letter 10 = .ok (.ireturn, 1) := by decide +kernel
theorem dX5_letter_11 : decode cX5_letter 11 = .ok (.iload_n 1, 1) := by decide +kernel
theorem dX5_letter_12 : decode cX5_letter 12 = .ok (.sipush 255, 3) := by decide +kernel
theorem dX5_letter_15 : decode cX5_letter 15 = .ok (.if_icmp .gt 12, 3) := by decide +kernel
theorem dX5_letter_18 : decode cX5_letter 18 = .ok (.aload_n 0, 1) := by decide +kernel
theorem dX5_letter_19 : decode cX5_letter 19 = .ok (.getfield 89, 3) := by decide +kernel
theorem dX5_letter_22 : decode cX5_letter 22 = .ok (.bipush 96, 2) := by decide +kernel
theorem dX5_letter_24 : decode cX5_letter 24 = .ok (.if_icmp .ne 10, 3) := by decide +kernel
theorem dX5_letter_27 : decode cX5_letter 27 = .ok (.aload_n 0, 1) := by decide +kernel
theorem dX5_letter_28 : decode cX5_letter 28 = .ok (.bipush (-6), 2) := by decide +kernel
theorem dX5_letter_30 : decode cX5_letter 30 = .ok (.invokevirtual 35, 3) := by decide +kernel
theorem dX5_letter_33 : decode cX5_letter 33 = .ok (.ireturn, 1) := by decide +kernel
theorem dX5_letter_34 : decode cX5_letter 34 = .ok (.aload_n 0, 1) := by decide +kernel
theorem dX5_letter_35 : decode cX5_letter 35 = .ok (.getfield 22, 3) := by decide +kernel
theorem dX5_letter_38 : decode cX5_letter 38 = .ok (.aload_n 0, 1) := by decide +kernel
theorem dX5_letter_39 : decode cX5_letter 39 = .ok (.getfield 89, 3) := by decide +kernel
theorem dX5_letter_42 : decode cX5_letter 42 = .ok (.iload_n 1, 1) := by decide +kernel
theorem dX5_letter_43 : decode cX5_letter 43 = .ok (.iastore, 1) := by decide +kernel
theorem dX5_letter_44 : decode cX5_letter 44 = .ok (.aload_n 0, 1) := by decide +kernel
theorem dX5_letter_45 : decode cX5_letter 45 = .ok (.dup, 1) := by decide +kernel
theorem dX5_letter_46 : decode cX5_letter 46 = .ok (.getfield 89, 3) := by decide +kernel
theorem dX5_letter_49 : decode cX5_letter 49 = .ok (.iconst 1, 1) := by decide +kernel
theorem dX5_letter_50 : decode cX5_letter 50 = .ok (.iadd, 1) := by decide +kernel
theorem dX5_letter_51 : decode cX5_letter 51 = .ok (.putfield 89, 3) := by decide +kernel
theorem dX5_letter_54 : decode cX5_letter 54 = .ok (.aload_n 0, 1) := by decide +kernel
theorem dX5_letter_55 : decode cX5_letter 55 = .ok (.getfield 89, 3) := by decide +kernel
theorem dX5_letter_58 : decode cX5_letter 58 = .ok (.ireturn, 1) := by decide +kernel
theorem dX5_here_0 : decode cX5_here 0 = .ok (.aload_n 0, 1) := by decide +kernel
theorem dX5_here_1 : decode cX5_here 1 = .ok (.getfield 93, 3) := by decide +kernel
theorem dX5_here_4 : decode cX5_here 4 = .ok (.aload_n 0, 1) := by decide +kernel
theorem dX5_here_5 : decode cX5_here 5 = .ok (.getfield 89, 3) := by decide +kernel
theorem dX5_here_8 : decode cX5_here 8 = .ok (.if_icmp .ge 15, 3) := by decide +kernel
theorem dX5_here_11 : decode cX5_here 11 = .ok (.aload_n 0, 1) := by decide +kernel
theorem dX5_here_12 : decode cX5_here 12 = .ok (.getfield 22, 3) := by decide +kernel
theorem dX5_here_15 : decode cX5_here 15 = .ok (.aload_n 0, 1) := by decide +kernel
theorem dX5_here_16 : decode cX5_here 16 = .ok (.getfield 93, 3) := by decide +kernel
theorem dX5_here_19 : decode cX5_here 19 = .ok (.iaload, 1) := by decide +kernel
theorem dX5_here_20 : decode cX5_here 20 = .ok (.goto 4, 3) := by decide +kernel
theorem dX5_here_23 : decode cX5_here 23 = .ok (.iconst (-1), 1) := by decide +kernel
theorem dX5_here_24 : decode cX5_here 24 = .ok (.ireturn, 1) := by decide +kernel
set_option maxRecDepth 20000 in
theorem ggX5_readsNumber_X5_here : GoodIn wsX5_readsNumber wsX5_here := goodIn_r _ [7, 2, 8, 9, 13, 14, 15, 16, 17, 18, 19, 20, 21, 22, 23, 24, 25] (by decide +kernel) (by decide +kernel)
set_option maxRecDepth 20000 in
theorem gX5_readsNumber_X5_here : GoodIn wsX5_readsNumber (wsV RX5 96 RX5 yX5_here wsX5_here) := goodIn_app (goodIn_of _ (by decide +kernel)) ggX5_readsNumber_X5_here
set_option maxRecDepth 20000 in
theorem ggX5_readsNumber_X5_isIn : GoodIn wsX5_readsNumber wsX5_isIn := goodIn_r _ [12] (by decide +kernel) (by decide +kernel)
set_option maxRecDepth 20000 in
theorem gX5_readsNumber_X5_isIn : GoodIn wsX5_readsNumber (va_wsS RX5 41 yX5_isIn wsX5_isIn) := goodIn_app (goodIn_of _ (by decide +kernel)) ggX5_readsNumber_X5_isIn
theorem dX5_readsNumber_0 : decode cX5_readsNumber 0 = .ok (.aload_n 0, 1) := by decide +kernel
theorem dX5_readsNumber_1 : decode cX5_readsNumber 1 = .ok (.getfield 31, 3) := by decide +kernel
theorem dX5_readsNumber_4 : decode cX5_readsNumber 4 = .ok (.iload_n 1, 1) := by decide +kernel
theorem dX5_readsNumber_5 : decode cX5_readsNumber 5 = .ok (.iconst 0, 1) := by decide +kernel
theorem dX5_readsNumber_6 : decode cX5_readsNumber 6 = .ok (.iastore, 1) := by decide +kernel
theorem dX5_readsNumber_7 : decode cX5_readsNumber 7 = .ok (.iconst 0, 1) := by decide +kernel
theorem dX5_readsNumber_8 : decode cX5_readsNumber 8 = .ok (.istore_n 3, 1) := by decide +kernel
theorem dX5_readsNumber_9 : decode cX5_readsNumber 9 = .ok (.iload_n 3, 1) := by decide +kernel
theorem dX5_readsNumber_10 : decode cX5_readsNumber 10 = .ok (.iload_n 2, 1) := by decide +kernel
theorem dX5_readsNumber_11 : decode cX5_readsNumber 11 = .ok (.if_icmp .ge 58, 3) := by decide +kernel
theorem dX5_readsNumber_14 : decode cX5_readsNumber 14 = .ok (.aload_n 0, 1) := by decide +kernel
theorem dX5_readsNumber_15 : decode cX5_readsNumber 15 = .ok (.invokevirtual 96, 3) := by decide +kernel
theorem dX5_readsNumber_18 : decode cX5_readsNumber 18 = .ok (.bipush 48, 2) := by decide +kernel
theorem dX5_readsNumber_20 : decode cX5_readsNumber 20 = .ok (.bipush 57, 2) := by decide +kernel
theorem dX5_readsNumber_22 : decode cX5_readsNumber 22 = .ok (.invokestatic 41, 3) := by decide +kernel
theorem dX5_readsNumber_25 : decode cX5_readsNumber 25 = .ok (.ifCond .ne 5, 3) := by decide +kernel
theorem dX5_readsNumber_28 : decode cX5_readsNumber 28 = .ok (.iconst 0, 1) := by decide +kernel
theorem dX5_readsNumber_29 : decode cX5_readsNumber 29 = .ok (.ireturn, 1) := by decide +kernel
theorem dX5_readsNumber_30 : decode cX5_readsNumber 30 = .ok (.aload_n 0, 1) := by decide +kernel
theorem dX5_readsNumber_31 : decode cX5_readsNumber 31 = .ok (.getfield 31, 3) := by decide +kernel
theorem dX5_readsNumber_34 : decode cX5_readsNumber 34 = .ok (.iload_n 1, 1) := by decide +kernel
theorem dX5_readsNumber_35 : decode cX5_readsNumber 35 = .ok (.bipush 10, 2) := by decide +kernel
theorem dX5_readsNumber_37 : decode cX5_readsNumber 37 = .ok (.aload_n 0, 1) := by decide +kernel
theorem dX5_readsNumber_38 : decode cX5_readsNumber 38 = .ok (.getfield 31, 3) := by decide +kernel
theorem dX5_readsNumber_41 : decode cX5_readsNumber 41 = .ok (.iload_n 1, 1) := by decide +kernel
theorem dX5_readsNumber_42 : decode cX5_readsNumber 42 = .ok (.iaload, 1) := by decide +kernel
theorem dX5_readsNumber_43 : decode cX5_readsNumber 43 = .ok (.imul, 1) := by decide +kernel
theorem dX5_readsNumber_44 : decode cX5_readsNumber 44 = .ok (.aload_n 0, 1) := by decide +kernel
theorem dX5_readsNumber_45 : decode cX5_readsNumber 45 = .ok (.invokevirtual 96, 3) := by decide +kernel
theorem dX5_readsNumber_48 : decode cX5_readsNumber 48 = .ok (.iadd, 1) := by decide +kernel
theorem dX5_readsNumber_49 : decode cX5_readsNumber 49 = .ok (.bipush 48, 2) := by decide +kernel
theorem dX5_readsNumber_51 : decode cX5_readsNumber 51 = .ok (.isub, 1) := by decide +kernel
theorem dX5_readsNumber_52 : decode cX5_readsNumber 52 = .ok (.iastore, 1) := by decide +kernel
theorem dX5_readsNumber_53 : decode cX5_readsNumber 53 = .ok (.aload_n 0, 1) := by decide +kernel
theorem dX5_readsNumber_54 : decode cX5_readsNumber 54 = .ok (.dup, 1) := by decide +kernel
theorem dX5_readsNumber_55 : decode cX5_readsNumber 55 = .ok (.getfield 93, 3) := by decide +kernel
theorem dX5_readsNumber_58 : decode cX5_readsNumber 58 = .ok (.iconst 1, 1) := by decide +kernel
theorem dX5_readsNumber_59 : decode cX5_readsNumber 59 = .ok (.iadd, 1) := by decide +kernel
theorem dX5_readsNumber_60 : decode cX5_readsNumber 60 = .ok (.putfield 93, 3) := by decide +kernel
theorem dX5_readsNumber_63 : decode cX5_readsNumber 63 = .ok (.iinc 3 1, 3) := by decide +kernel
theorem dX5_readsNumber_66 : decode cX5_readsNumber 66 = .ok (.goto (-57), 3) := by decide +kernel
theorem dX5_readsNumber_69 : decode cX5_readsNumber 69 = .ok (.iconst 1, 1) := by decide +kernel
theorem dX5_readsNumber_70 : decode cX5_readsNumber 70 = .ok (.ireturn, 1) := by decide +kernel
theorem dX5_kindBy_0 : decode cX5_kindBy 0 = .ok (.iload_n 0, 1) := by decide +kernel
theorem dX5_kindBy_1 : decode cX5_kindBy 1 = .ok (.lookupswitch 71 #[(98, 61), (100, 69), (104, 59), (109, 63), (113, 67), (119, 65)], 59) := by decide +kernel
theorem dX5_kindBy_60 : decode cX5_kindBy 60 = .ok (.iconst 0, 1) := by decide +kernel
theorem dX5_kindBy_61 : decode cX5_kindBy 61 = .ok (.ireturn, 1) := by decide +kernel
theorem dX5_kindBy_62 : decode cX5_kindBy 62 = .ok (.iconst 1, 1) := by decide +kernel
theorem dX5_kindBy_63 : decode cX5_kindBy 63 = .ok (.ireturn, 1) := by decide +kernel
theorem dX5_kindBy_64 : decode cX5_kindBy 64 = .ok (.iconst 2, 1) := by decide +kernel
theorem dX5_kindBy_65 : decode cX5_kindBy 65 = .ok (.ireturn, 1) := by decide +kernel
theorem dX5_kindBy_66 : decode cX5_kindBy 66 = .ok (.iconst 3, 1) := by decide +kernel
theorem dX5_kindBy_67 : decode cX5_kindBy 67 = .ok (.ireturn, 1) := by decide +kernel
theorem dX5_kindBy_68 : decode cX5_kindBy 68 = .ok (.iconst 4, 1) := by decide +kernel
theorem dX5_kindBy_69 : decode cX5_kindBy 69 = .ok (.ireturn, 1) := by decide +kernel
theorem dX5_kindBy_70 : decode cX5_kindBy 70 = .ok (.iconst 5, 1) := by decide +kernel
theorem dX5_kindBy_71 : decode cX5_kindBy 71 = .ok (.ireturn, 1) := by decide +kernel
theorem dX5_kindBy_72 : decode cX5_kindBy 72 = .ok (.bipush (-9), 2) := by decide +kernel
theorem dX5_kindBy_74 : decode cX5_kindBy 74 = .ok (.ireturn, 1) := by decide +kernel
set_option maxRecDepth 20000 in
theorem ggX5_readsKind_X5_here : GoodIn wsX5_readsKind wsX5_here := goodIn_r _ [7, 2, 8, 9, 13, 14, 15, 16, 17, 18, 19, 20, 21, 22, 23, 24, 25] (by decide +kernel) (by decide +kernel)
set_option maxRecDepth 20000 in
theorem gX5_readsKind_X5_here : GoodIn wsX5_readsKind (wsV RX5 96 RX5 yX5_here wsX5_here) := goodIn_app (goodIn_of _ (by decide +kernel)) ggX5_readsKind_X5_here
set_option maxRecDepth 20000 in
theorem ggX5_readsKind_X5_kindBy : GoodIn wsX5_readsKind wsX5_kindBy := goodIn_r _ [12] (by decide +kernel) (by decide +kernel)
set_option maxRecDepth 20000 in
theorem gX5_readsKind_X5_kindBy : GoodIn wsX5_readsKind (va_wsS RX5 100 yX5_kindBy wsX5_kindBy) := goodIn_app (goodIn_of _ (by decide +kernel)) ggX5_readsKind_X5_kindBy
theorem dX5_readsKind_0 : decode cX5_readsKind 0 = .ok (.aload_n 0, 1) := by decide +kernel
theorem dX5_readsKind_1 : decode cX5_readsKind 1 = .ok (.getfield 31, 3) := by decide +kernel
theorem dX5_readsKind_4 : decode cX5_readsKind 4 = .ok (.iconst 0, 1) := by decide +kernel
theorem dX5_readsKind_5 : decode cX5_readsKind 5 = .ok (.aload_n 0, 1) := by decide +kernel
theorem dX5_readsKind_6 : decode cX5_readsKind 6 = .ok (.invokevirtual 96, 3) := by decide +kernel
theorem dX5_readsKind_9 : decode cX5_readsKind 9 = .ok (.invokestatic 100, 3) := by decide +kernel
theorem dX5_readsKind_12 : decode cX5_readsKind 12 = .ok (.iastore, 1) := by decide +kernel
theorem dX5_readsKind_13 : decode cX5_readsKind 13 = .ok (.aload_n 0, 1) := by decide +kernel
theorem dX5_readsKind_14 : decode cX5_readsKind 14 = .ok (.dup, 1) := by decide +kernel
theorem dX5_readsKind_15 : decode cX5_readsKind 15 = .ok (.getfield 93, 3) := by decide +kernel
theorem dX5_readsKind_18 : decode cX5_readsKind 18 = .ok (.aload_n 0, 1) := by decide +kernel
theorem dX5_readsKind_19 : decode cX5_readsKind 19 = .ok (.getfield 31, 3) := by decide +kernel
theorem dX5_readsKind_22 : decode cX5_readsKind 22 = .ok (.iconst 0, 1) := by decide +kernel
theorem dX5_readsKind_23 : decode cX5_readsKind 23 = .ok (.iaload, 1) := by decide +kernel
theorem dX5_readsKind_24 : decode cX5_readsKind 24 = .ok (.ifCond .ge 7, 3) := by decide +kernel
theorem dX5_readsKind_27 : decode cX5_readsKind 27 = .ok (.iconst 0, 1) := by decide +kernel
theorem dX5_readsKind_28 : decode cX5_readsKind 28 = .ok (.goto 4, 3) := by decide +kernel
theorem dX5_readsKind_31 : decode cX5_readsKind 31 = .ok (.iconst 1, 1) := by decide +kernel
theorem dX5_readsKind_32 : decode cX5_readsKind 32 = .ok (.iadd, 1) := by decide +kernel
theorem dX5_readsKind_33 : decode cX5_readsKind 33 = .ok (.putfield 93, 3) := by decide +kernel
theorem dX5_readsKind_36 : decode cX5_readsKind 36 = .ok (.aload_n 0, 1) := by decide +kernel
theorem dX5_readsKind_37 : decode cX5_readsKind 37 = .ok (.getfield 31, 3) := by decide +kernel
theorem dX5_readsKind_40 : decode cX5_readsKind 40 = .ok (.iconst 0, 1) := by decide +kernel
theorem dX5_readsKind_41 : decode cX5_readsKind 41 = .ok (.iaload, 1) := by decide +kernel
theorem dX5_readsKind_42 : decode cX5_readsKind 42 = .ok (.ifCond .lt 7, 3) := by decide +kernel
theorem dX5_readsKind_45 : decode cX5_readsKind 45 = .ok (.iconst 1, 1) := by decide +kernel
theorem dX5_readsKind_46 : decode cX5_readsKind 46 = .ok (.goto 4, 3) := by decide +kernel
theorem dX5_readsKind_49 : decode cX5_readsKind 49 = .ok (.iconst 0, 1) := by decide +kernel
theorem dX5_readsKind_50 : decode cX5_readsKind 50 = .ok (.ireturn, 1) := by decide +kernel
set_option maxRecDepth 20000 in
theorem ggX5_readsStatement_X5_here : GoodIn wsX5_readsStatement wsX5_here := goodIn_r _ [6, 1, 7, 8, 24, 25, 26, 27, 28, 29, 30, 31, 32, 33, 34, 35, 36] (by decide +kernel) (by decide +kernel)
set_option maxRecDepth 20000 in
theorem gX5_readsStatement_X5_here : GoodIn wsX5_readsStatement (wsV RX5 96 RX5 yX5_here wsX5_here) := goodIn_app (goodIn_of _ (by decide +kernel)) ggX5_readsStatement_X5_here
set_option maxRecDepth 20000 in
theorem ggX5_readsStatement_X5_readsNumber : GoodIn wsX5_readsStatement wsX5_readsNumber := goodIn_r _ [12, 13, 1, 2, 3, 4, 5, 6, 7, 8, 14, 15, 16, 24, 25, 26, 27, 28, 29, 30, 31, 32, 33, 34, 35, 36] (by decide +kernel) (by decide +kernel)
set_option maxRecDepth 20000 in
theorem gX5_readsStatement_X5_readsNumber : GoodIn wsX5_readsStatement (wsV RX5 103 RX5 yX5_readsNumber wsX5_readsNumber) := goodIn_app (goodIn_of _ (by decide +kernel)) ggX5_readsStatement_X5_readsNumber
set_option maxRecDepth 20000 in
theorem ggX5_readsStatement_X5_readsKind : GoodIn wsX5_readsStatement wsX5_readsKind := goodIn_r _ [20, 13, 1, 2, 3, 4, 5, 6, 7, 8, 21, 22, 23, 24, 25, 26, 27, 28, 29, 30, 31, 32, 33, 34, 35, 36] (by decide +kernel) (by decide +kernel)
set_option maxRecDepth 20000 in
theorem gX5_readsStatement_X5_readsKind : GoodIn wsX5_readsStatement (wsV RX5 107 RX5 yX5_readsKind wsX5_readsKind) := goodIn_app (goodIn_of _ (by decide +kernel)) ggX5_readsStatement_X5_readsKind
theorem dX5_readsStatement_0 : decode cX5_readsStatement 0 = .ok (.aload_n 0, 1) := by decide +kernel
theorem dX5_readsStatement_1 : decode cX5_readsStatement 1 = .ok (.invokevirtual 96, 3) := by decide +kernel
theorem dX5_readsStatement_4 : decode cX5_readsStatement 4 = .ok (.istore_n 1, 1) := by decide +kernel
theorem dX5_readsStatement_5 : decode cX5_readsStatement 5 = .ok (.aload_n 0, 1) := by decide +kernel
theorem dX5_readsStatement_6 : decode cX5_readsStatement 6 = .ok (.dup, 1) := by decide +kernel
theorem dX5_readsStatement_7 : decode cX5_readsStatement 7 = .ok (.getfield 93, 3) := by decide +kernel
theorem dX5_readsStatement_10 : decode cX5_readsStatement 10 = .ok (.iconst 1, 1) := by decide +kernel
theorem dX5_readsStatement_11 : decode cX5_readsStatement 11 = .ok (.iadd, 1) := by decide +kernel
theorem dX5_readsStatement_12 : decode cX5_readsStatement 12 = .ok (.putfield 93, 3) := by decide +kernel
theorem dX5_readsStatement_15 : decode cX5_readsStatement 15 = .ok (.iload_n 1, 1) := by decide +kernel
theorem dX5_readsStatement_16 : decode cX5_readsStatement 16 = .ok (.tableswitch 173 97 115 #[136, 173, 173, 92, 173, 173, 173, 102, 173, 173, 173, 136, 146, 173, 173, 92, 173, 173, 92], 92) := by decide +kernel
theorem dX5_readsStatement_108 : decode cX5_readsStatement 108 = .ok (.aload_n 0, 1) := by decide +kernel
theorem dX5_readsStatement_109 : decode cX5_readsStatement 109 = .ok (.iconst 0, 1) := by decide +kernel
theorem dX5_readsStatement_110 : decode cX5_readsStatement 110 = .ok (.iconst 2, 1) := by decide +kernel
theorem dX5_readsStatement_111 : decode cX5_readsStatement 111 = .ok (.invokevirtual 103, 3) := by decide +kernel
theorem dX5_readsStatement_114 : decode cX5_readsStatement 114 = .ok (.istore_n 2, 1) := by decide +kernel
theorem dX5_readsStatement_115 : decode cX5_readsStatement 115 = .ok (.goto 86, 3) := by decide +kernel
theorem dX5_readsStatement_118 : decode cX5_readsStatement 118 = .ok (.aload_n 0, 1) := by decide +kernel
theorem dX5_readsStatement_119 : decode cX5_readsStatement 119 = .ok (.invokevirtual 107, 3) := by decide +kernel
theorem dX5_readsStatement_122 : decode cX5_readsStatement 122 = .ok (.ifCond .eq 25, 3) := by decide +kernel
theorem dX5_readsStatement_125 : decode cX5_readsStatement 125 = .ok (.aload_n 0, 1) := by decide +kernel
theorem dX5_readsStatement_126 : decode cX5_readsStatement 126 = .ok (.iconst 1, 1) := by decide +kernel
theorem dX5_readsStatement_127 : decode cX5_readsStatement 127 = .ok (.iconst 1, 1) := by decide +kernel
theorem dX5_readsStatement_128 : decode cX5_readsStatement 128 = .ok (.invokevirtual 103, 3) := by decide +kernel
theorem dX5_readsStatement_131 : decode cX5_readsStatement 131 = .ok (.ifCond .eq 16, 3) := by decide +kernel
theorem dX5_readsStatement_134 : decode cX5_readsStatement 134 = .ok (.aload_n 0, 1) := by decide +kernel
theorem dX5_readsStatement_135 : decode cX5_readsStatement 135 = .ok (.iconst 2, 1) := by decide +kernel
theorem dX5_readsStatement_136 : decode cX5_readsStatement 136 = .ok (.iconst 1, 1) := by decide +kernel
theorem dX5_readsStatement_137 : decode cX5_readsStatement 137 = .ok (.invokevirtual 103, 3) := by decide +kernel
theorem dX5_readsStatement_140 : decode cX5_readsStatement 140 = .ok (.ifCond .eq 7, 3) := by decide +kernel
theorem dX5_readsStatement_143 : decode cX5_readsStatement 143 = .ok (.iconst 1, 1) := by decide +kernel
theorem dX5_readsStatement_144 : decode cX5_readsStatement 144 = .ok (.goto 4, 3) := by decide +kernel
theorem dX5_readsStatement_147 : decode cX5_readsStatement 147 = .ok (.iconst 0, 1) := by decide +kernel
theorem dX5_readsStatement_148 : decode cX5_readsStatement 148 = .ok (.istore_n 2, 1) := by decide +kernel
theorem dX5_readsStatement_149 : decode cX5_readsStatement 149 = .ok (.goto 52, 3) := by decide +kernel
theorem dX5_readsStatement_152 : decode cX5_readsStatement 152 = .ok (.aload_n 0, 1) := by decide +kernel
theorem dX5_readsStatement_153 : decode cX5_readsStatement 153 = .ok (.iconst 0, 1) := by decide +kernel
theorem dX5_readsStatement_154 : decode cX5_readsStatement 154 = .ok (.iconst 1, 1) := by decide +kernel
theorem dX5_readsStatement_155 : decode cX5_readsStatement 155 = .ok (.invokevirtual 103, 3) := by decide +kernel
theorem dX5_readsStatement_158 : decode cX5_readsStatement 158 = .ok (.istore_n 2, 1) := by decide +kernel
theorem dX5_readsStatement_159 : decode cX5_readsStatement 159 = .ok (.goto 42, 3) := by decide +kernel
theorem dX5_readsStatement_162 : decode cX5_readsStatement 162 = .ok (.aload_n 0, 1) := by decide +kernel
theorem dX5_readsStatement_163 : decode cX5_readsStatement 163 = .ok (.iconst 0, 1) := by decide +kernel
theorem dX5_readsStatement_164 : decode cX5_readsStatement 164 = .ok (.iconst 1, 1) := by decide +kernel
theorem dX5_readsStatement_165 : decode cX5_readsStatement 165 = .ok (.invokevirtual 103, 3) := by decide +kernel
theorem dX5_readsStatement_168 : decode cX5_readsStatement 168 = .ok (.ifCond .eq 16, 3) := by decide +kernel
theorem dX5_readsStatement_171 : decode cX5_readsStatement 171 = .ok (.aload_n 0, 1) := by decide +kernel
theorem dX5_readsStatement_172 : decode cX5_readsStatement 172 = .ok (.iconst 1, 1) := by decide +kernel
theorem dX5_readsStatement_173 : decode cX5_readsStatement 173 = .ok (.iconst 1, 1) := by decide +kernel
theorem dX5_readsStatement_174 : decode cX5_readsStatement 174 = .ok (.invokevirtual 103, 3) := by decide +kernel
theorem dX5_readsStatement_177 : decode cX5_readsStatement 177 = .ok (.ifCond .eq 7, 3) := by decide +kernel
theorem dX5_readsStatement_180 : decode cX5_readsStatement 180 = .ok (.iconst 1, 1) := by decide +kernel
theorem dX5_readsStatement_181 : decode cX5_readsStatement 181 = .ok (.goto 4, 3) := by decide +kernel
theorem dX5_readsStatement_184 : decode cX5_readsStatement 184 = .ok (.iconst 0, 1) := by decide +kernel
theorem dX5_readsStatement_185 : decode cX5_readsStatement 185 = .ok (.istore_n 2, 1) := by decide +kernel
theorem dX5_readsStatement_186 : decode cX5_readsStatement 186 = .ok (.goto 15, 3) := by decide +kernel
theorem dX5_readsStatement_189 : decode cX5_readsStatement 189 = .ok (.aload_n 0, 1) := by decide +kernel
theorem dX5_readsStatement_190 : decode cX5_readsStatement 190 = .ok (.dup, 1) := by decide +kernel
theorem dX5_readsStatement_191 : decode cX5_readsStatement 191 = .ok (.getfield 93, 3) := by decide +kernel
theorem dX5_readsStatement_194 : decode cX5_readsStatement 194 = .ok (.iconst 1, 1) := by decide +kernel
theorem dX5_readsStatement_195 : decode cX5_readsStatement 195 = .ok (.isub, 1) := by decide +kernel
theorem dX5_readsStatement_196 : decode cX5_readsStatement 196 = .ok (.putfield 93, 3) := by decide +kernel
theorem dX5_readsStatement_199 : decode cX5_readsStatement 199 = .ok (.iconst 0, 1) := by decide +kernel
theorem dX5_readsStatement_200 : decode cX5_readsStatement 200 = .ok (.ireturn, 1) := by decide +kernel
theorem dX5_readsStatement_201 : decode cX5_readsStatement 201 = .ok (.iload_n 2, 1) := by decide +kernel
theorem dX5_readsStatement_202 : decode cX5_readsStatement 202 = .ok (.ifCond .eq 12, 3) := by decide +kernel
theorem dX5_readsStatement_205 : decode cX5_readsStatement 205 = .ok (.aload_n 0, 1) := by decide +kernel
theorem dX5_readsStatement_206 : decode cX5_readsStatement 206 = .ok (.invokevirtual 96, 3) := by decide +kernel
theorem dX5_readsStatement_209 : decode cX5_readsStatement 209 = .ok (.bipush 59, 2) := by decide +kernel
theorem dX5_readsStatement_211 : decode cX5_readsStatement 211 = .ok (.if_icmp .eq 5, 3) := by decide +kernel
theorem dX5_readsStatement_214 : decode cX5_readsStatement 214 = .ok (.iconst 0, 1) := by decide +kernel
theorem dX5_readsStatement_215 : decode cX5_readsStatement 215 = .ok (.ireturn, 1) := by decide +kernel
theorem dX5_readsStatement_216 : decode cX5_readsStatement 216 = .ok (.aload_n 0, 1) := by decide +kernel
theorem dX5_readsStatement_217 : decode cX5_readsStatement 217 = .ok (.dup, 1) := by decide +kernel
theorem dX5_readsStatement_218 : decode cX5_readsStatement 218 = .ok (.getfield 93, 3) := by decide +kernel
theorem dX5_readsStatement_221 : decode cX5_readsStatement 221 = .ok (.iconst 1, 1) := by decide +kernel
theorem dX5_readsStatement_222 : decode cX5_readsStatement 222 = .ok (.iadd, 1) := by decide +kernel
theorem dX5_readsStatement_223 : decode cX5_readsStatement 223 = .ok (.putfield 93, 3) := by decide +kernel
theorem dX5_readsStatement_226 : decode cX5_readsStatement 226 = .ok (.iconst 1, 1) := by decide +kernel
theorem dX5_readsStatement_227 : decode cX5_readsStatement 227 = .ok (.ireturn, 1) := by decide +kernel
set_option maxRecDepth 20000 in
theorem ggX5_adds_X5_of : GoodIn wsX5_adds wsX5_of := goodIn_r _ [4] (by decide +kernel) (by decide +kernel)
set_option maxRecDepth 20000 in
theorem gX5_adds_X5_of : GoodIn wsX5_adds (va_wsS RX5 48 yX5_of wsX5_of) := goodIn_app (goodIn_of _ (by decide +kernel)) ggX5_adds_X5_of
theorem dX5_adds_0 : decode cX5_adds 0 = .ok (.aload_n 0, 1) := by decide +kernel
theorem dX5_adds_1 : decode cX5_adds 1 = .ok (.iconst 1, 1) := by decide +kernel
theorem dX5_adds_2 : decode cX5_adds 2 = .ok (.iaload, 1) := by decide +kernel
theorem dX5_adds_3 : decode cX5_adds 3 = .ok (.istore 4, 2) := by decide +kernel
theorem dX5_adds_5 : decode cX5_adds 5 = .ok (.aload_n 0, 1) := by decide +kernel
theorem dX5_adds_6 : decode cX5_adds 6 = .ok (.iload 4, 2) := by decide +kernel
theorem dX5_adds_8 : decode cX5_adds 8 = .ok (.iconst 0, 1) := by decide +kernel
theorem dX5_adds_9 : decode cX5_adds 9 = .ok (.invokestatic 48, 3) := by decide +kernel
theorem dX5_adds_12 : decode cX5_adds 12 = .ok (.iload_n 1, 1) := by decide +kernel
theorem dX5_adds_13 : decode cX5_adds 13 = .ok (.iastore, 1) := by decide +kernel
theorem dX5_adds_14 : decode cX5_adds 14 = .ok (.aload_n 0, 1) := by decide +kernel
theorem dX5_adds_15 : decode cX5_adds 15 = .ok (.iload 4, 2) := by decide +kernel
theorem dX5_adds_17 : decode cX5_adds 17 = .ok (.iconst 1, 1) := by decide +kernel
theorem dX5_adds_18 : decode cX5_adds 18 = .ok (.invokestatic 48, 3) := by decide +kernel
theorem dX5_adds_21 : decode cX5_adds 21 = .ok (.iload_n 2, 1) := by decide +kernel
theorem dX5_adds_22 : decode cX5_adds 22 = .ok (.iastore, 1) := by decide +kernel
theorem dX5_adds_23 : decode cX5_adds 23 = .ok (.aload_n 0, 1) := by decide +kernel
theorem dX5_adds_24 : decode cX5_adds 24 = .ok (.iload 4, 2) := by decide +kernel
theorem dX5_adds_26 : decode cX5_adds 26 = .ok (.iconst 2, 1) := by decide +kernel
theorem dX5_adds_27 : decode cX5_adds 27 = .ok (.invokestatic 48, 3) := by decide +kernel
theorem dX5_adds_30 : decode cX5_adds 30 = .ok (.iload_n 3, 1) := by decide +kernel
theorem dX5_adds_31 : decode cX5_adds 31 = .ok (.iastore, 1) := by decide +kernel
theorem dX5_adds_32 : decode cX5_adds 32 = .ok (.aload_n 0, 1) := by decide +kernel
theorem dX5_adds_33 : decode cX5_adds 33 = .ok (.iload 4, 2) := by decide +kernel
theorem dX5_adds_35 : decode cX5_adds 35 = .ok (.iconst 3, 1) := by decide +kernel
theorem dX5_adds_36 : decode cX5_adds 36 = .ok (.invokestatic 48, 3) := by decide +kernel
theorem dX5_adds_39 : decode cX5_adds 39 = .ok (.iconst 0, 1) := by decide +kernel
theorem dX5_adds_40 : decode cX5_adds 40 = .ok (.iastore, 1) := by decide +kernel
theorem dX5_adds_41 : decode cX5_adds 41 = .ok (.aload_n 0, 1) := by decide +kernel
theorem dX5_adds_42 : decode cX5_adds 42 = .ok (.iload 4, 2) := by decide +kernel
theorem dX5_adds_44 : decode cX5_adds 44 = .ok (.iconst 4, 1) := by decide +kernel
theorem dX5_adds_45 : decode cX5_adds 45 = .ok (.invokestatic 48, 3) := by decide +kernel
theorem dX5_adds_48 : decode cX5_adds 48 = .ok (.iconst 1, 1) := by decide +kernel
theorem dX5_adds_49 : decode cX5_adds 49 = .ok (.iastore, 1) := by decide +kernel
theorem dX5_adds_50 : decode cX5_adds 50 = .ok (.aload_n 0, 1) := by decide +kernel
theorem dX5_adds_51 : decode cX5_adds 51 = .ok (.iconst 1, 1) := by decide +kernel
theorem dX5_adds_52 : decode cX5_adds 52 = .ok (.dup2, 1) := by decide +kernel
theorem dX5_adds_53 : decode cX5_adds 53 = .ok (.iaload, 1) := by decide +kernel
theorem dX5_adds_54 : decode cX5_adds 54 = .ok (.iconst 1, 1) := by decide +kernel
theorem dX5_adds_55 : decode cX5_adds 55 = .ok (.iadd, 1) := by decide +kernel
theorem dX5_adds_56 : decode cX5_adds 56 = .ok (.iastore, 1) := by decide +kernel
theorem dX5_adds_57 : decode cX5_adds 57 = .ok (.return_, 1) := by decide +kernel
set_option maxRecDepth 20000 in
theorem ggX5_isDone_X5_isCell : GoodIn wsX5_isDone wsX5_isCell := goodIn_r _ [6, 7, 8, 5, 9] (by decide +kernel) (by decide +kernel)
set_option maxRecDepth 20000 in
theorem gX5_isDone_X5_isCell : GoodIn wsX5_isDone (va_wsS RX5 111 yX5_isCell wsX5_isCell) := goodIn_app (goodIn_of _ (by decide +kernel)) ggX5_isDone_X5_isCell
set_option maxRecDepth 20000 in
theorem ggX5_isDone_X5_isPlace : GoodIn wsX5_isDone wsX5_isPlace := goodIn_r _ [13, 2, 7, 8, 5, 9, 66, 67, 68, 69, 70, 71, 72, 73, 74, 75, 76, 77, 78] (by decide +kernel) (by decide +kernel)
set_option maxRecDepth 20000 in
theorem gX5_isDone_X5_isPlace : GoodIn wsX5_isDone (wsV RX5 115 RX5 yX5_isPlace wsX5_isPlace) := goodIn_app (goodIn_of _ (by decide +kernel)) ggX5_isDone_X5_isPlace
set_option maxRecDepth 20000 in
theorem ggX5_isDone_X5_adds : GoodIn wsX5_isDone wsX5_adds := goodIn_r _ [16, 17, 18, 5, 19] (by decide +kernel) (by decide +kernel)
set_option maxRecDepth 20000 in
theorem gX5_isDone_X5_adds : GoodIn wsX5_isDone (va_wsS RX5 118 yX5_adds wsX5_adds) := goodIn_app (goodIn_of _ (by decide +kernel)) ggX5_isDone_X5_adds
set_option maxRecDepth 20000 in
theorem ggX5_isDone_X5_isHand : GoodIn wsX5_isDone wsX5_isHand := goodIn_r _ [23, 2, 7, 8, 5, 9, 66, 67, 68, 69, 70, 71, 72, 73, 74, 75, 76, 77, 78] (by decide +kernel) (by decide +kernel)
set_option maxRecDepth 20000 in
theorem gX5_isDone_X5_isHand : GoodIn wsX5_isDone (wsV RX5 122 RX5 yX5_isHand wsX5_isHand) := goodIn_app (goodIn_of _ (by decide +kernel)) ggX5_isDone_X5_isHand
set_option maxRecDepth 20000 in
theorem ggX5_isDone_X5_dropsIn : GoodIn wsX5_isDone wsX5_dropsIn := goodIn_r _ [26, 17, 18, 5, 19] (by decide +kernel) (by decide +kernel)
set_option maxRecDepth 20000 in
theorem gX5_isDone_X5_dropsIn : GoodIn wsX5_isDone (va_wsS RX5 125 yX5_dropsIn wsX5_dropsIn) := goodIn_app (goodIn_of _ (by decide +kernel)) ggX5_isDone_X5_dropsIn
set_option maxRecDepth 20000 in
theorem ggX5_isDone_X5_of : GoodIn wsX5_isDone wsX5_of := goodIn_r _ [19] (by decide +kernel) (by decide +kernel)
set_option maxRecDepth 20000 in
theorem gX5_isDone_X5_of : GoodIn wsX5_isDone (va_wsS RX5 48 yX5_of wsX5_of) := goodIn_app (goodIn_of _ (by decide +kernel)) ggX5_isDone_X5_of
set_option maxRecDepth 20000 in
theorem ggX5_isDone_X5_isIn : GoodIn wsX5_isDone wsX5_isIn := goodIn_r _ [9] (by decide +kernel) (by decide +kernel)
set_option maxRecDepth 20000 in
theorem gX5_isDone_X5_isIn : GoodIn wsX5_isDone (va_wsS RX5 41 yX5_isIn wsX5_isIn) := goodIn_app (goodIn_of _ (by decide +kernel)) ggX5_isDone_X5_isIn
set_option maxRecDepth 20000 in
theorem ggX5_isDone_X5_daysOn : GoodIn wsX5_isDone wsX5_daysOn := goodIn_r _ [29, 30, 31, 5, 32, 33, 34, 35, 36, 37, 38, 39, 40, 41, 17, 18, 19, 42, 43, 44, 45, 46, 47, 48, 49, 50, 51, 52, 53, 54, 55, 56, 57, 58, 59, 60, 61, 62, 63, 64, 65] (by decide +kernel) (by decide +kernel)
set_option maxRecDepth 20000 in
theorem gX5_isDone_X5_daysOn : GoodIn wsX5_isDone (va_wsS RX5 129 yX5_daysOn wsX5_daysOn) := goodIn_app (goodIn_of _ (by decide +kernel)) ggX5_isDone_X5_daysOn
theorem dX5_isDone_0 : decode cX5_isDone 0 = .ok (.aload_n 0, 1) := by decide +kernel
theorem dX5_isDone_1 : decode cX5_isDone 1 = .ok (.getfield 31, 3) := by decide +kernel
theorem dX5_isDone_4 : decode cX5_isDone 4 = .ok (.iconst 0, 1) := by decide +kernel
theorem dX5_isDone_5 : decode cX5_isDone 5 = .ok (.iaload, 1) := by decide +kernel
theorem dX5_isDone_6 : decode cX5_isDone 6 = .ok (.istore_n 2, 1) := by decide +kernel
theorem dX5_isDone_7 : decode cX5_isDone 7 = .ok (.aload_n 0, 1) := by decide +kernel
theorem dX5_isDone_8 : decode cX5_isDone 8 = .ok (.getfield 31, 3) := by decide +kernel
theorem dX5_isDone_11 : decode cX5_isDone 11 = .ok (.iconst 1, 1) := by decide +kernel
theorem dX5_isDone_12 : decode cX5_isDone 12 = .ok (.iaload, 1) := by decide +kernel
theorem dX5_isDone_13 : decode cX5_isDone 13 = .ok (.istore_n 3, 1) := by decide +kernel
theorem dX5_isDone_14 : decode cX5_isDone 14 = .ok (.iload_n 1, 1) := by decide +kernel
theorem dX5_isDone_15 : decode cX5_isDone 15 = .ok (.tableswitch 273 97 115 #[216, 273, 273, 273, 273, 273, 273, 135, 273, 273, 273, 196, 242, 273, 273, 89, 273, 273, 178], 89) := by decide +kernel
theorem dX5_isDone_104 : decode cX5_isDone 104 = .ok (.iload_n 2, 1) := by decide +kernel
theorem dX5_isDone_105 : decode cX5_isDone 105 = .ok (.invokestatic 111, 3) := by decide +kernel
theorem dX5_isDone_108 : decode cX5_isDone 108 = .ok (.ifCond .eq 14, 3) := by decide +kernel
theorem dX5_isDone_111 : decode cX5_isDone 111 = .ok (.aload_n 0, 1) := by decide +kernel
theorem dX5_isDone_112 : decode cX5_isDone 112 = .ok (.getfield 9, 3) := by decide +kernel
theorem dX5_isDone_115 : decode cX5_isDone 115 = .ok (.iconst 0, 1) := by decide +kernel
theorem dX5_isDone_116 : decode cX5_isDone 116 = .ok (.iaload, 1) := by decide +kernel
theorem dX5_isDone_117 : decode cX5_isDone 117 = .ok (.bipush 6, 2) := by decide +kernel
theorem dX5_isDone_119 : decode cX5_isDone 119 = .ok (.if_icmp .ne 5, 3) := by decide +kernel
theorem dX5_isDone_122 : decode cX5_isDone 122 = .ok (.iconst 0, 1) := by decide +kernel
theorem dX5_isDone_123 : decode cX5_isDone 123 = .ok (.ireturn, 1) := by decide +kernel
theorem dX5_isDone_124 : decode cX5_isDone 124 = .ok (.aload_n 0, 1) := by decide +kernel
theorem dX5_isDone_125 : decode cX5_isDone 125 = .ok (.getfield 9, 3) := by decide +kernel
theorem dX5_isDone_128 : decode cX5_isDone 128 = .ok (.iconst 4, 1) := by decide +kernel
theorem dX5_isDone_129 : decode cX5_isDone 129 = .ok (.aload_n 0, 1) := by decide +kernel
theorem dX5_isDone_130 : decode cX5_isDone 130 = .ok (.getfield 9, 3) := by decide +kernel
theorem dX5_isDone_133 : decode cX5_isDone 133 = .ok (.iconst 0, 1) := by decide +kernel
theorem dX5_isDone_134 : decode cX5_isDone 134 = .ok (.iaload, 1) := by decide +kernel
theorem dX5_isDone_135 : decode cX5_isDone 135 = .ok (.iadd, 1) := by decide +kernel
theorem dX5_isDone_136 : decode cX5_isDone 136 = .ok (.iload_n 2, 1) := by decide +kernel
theorem dX5_isDone_137 : decode cX5_isDone 137 = .ok (.iastore, 1) := by decide +kernel
theorem dX5_isDone_138 : decode cX5_isDone 138 = .ok (.aload_n 0, 1) := by decide +kernel
theorem dX5_isDone_139 : decode cX5_isDone 139 = .ok (.getfield 9, 3) := by decide +kernel
theorem dX5_isDone_142 : decode cX5_isDone 142 = .ok (.iconst 0, 1) := by decide +kernel
theorem dX5_isDone_143 : decode cX5_isDone 143 = .ok (.dup2, 1) := by decide +kernel
theorem dX5_isDone_144 : decode cX5_isDone 144 = .ok (.iaload, 1) := by decide +kernel
theorem dX5_isDone_145 : decode cX5_isDone 145 = .ok (.iconst 1, 1) := by decide +kernel
theorem dX5_isDone_146 : decode cX5_isDone 146 = .ok (.iadd, 1) := by decide +kernel
theorem dX5_isDone_147 : decode cX5_isDone 147 = .ok (.iastore, 1) := by decide +kernel
theorem dX5_isDone_148 : decode cX5_isDone 148 = .ok (.iconst 1, 1) := by decide +kernel
theorem dX5_isDone_149 : decode cX5_isDone 149 = .ok (.ireturn, 1) := by decide +kernel
theorem dX5_isDone_150 : decode cX5_isDone 150 = .ok (.aload_n 0, 1) := by decide +kernel
theorem dX5_isDone_151 : decode cX5_isDone 151 = .ok (.aload_n 0, 1) := by decide +kernel
theorem dX5_isDone_152 : decode cX5_isDone 152 = .ok (.getfield 31, 3) := by decide +kernel
theorem dX5_isDone_155 : decode cX5_isDone 155 = .ok (.iconst 2, 1) := by decide +kernel
theorem dX5_isDone_156 : decode cX5_isDone 156 = .ok (.iaload, 1) := by decide +kernel
theorem dX5_isDone_157 : decode cX5_isDone 157 = .ok (.invokevirtual 115, 3) := by decide +kernel
theorem dX5_isDone_160 : decode cX5_isDone 160 = .ok (.ifCond .eq 14, 3) := by decide +kernel
theorem dX5_isDone_163 : decode cX5_isDone 163 = .ok (.aload_n 0, 1) := by decide +kernel
theorem dX5_isDone_164 : decode cX5_isDone 164 = .ok (.getfield 9, 3) := by decide +kernel
theorem dX5_isDone_167 : decode cX5_isDone 167 = .ok (.iconst 1, 1) := by decide +kernel
theorem dX5_isDone_168 : decode cX5_isDone 168 = .ok (.iaload, 1) := by decide +kernel
theorem dX5_isDone_169 : decode cX5_isDone 169 = .ok (.bipush 7, 2) := by decide +kernel
theorem dX5_isDone_171 : decode cX5_isDone 171 = .ok (.if_icmp .ne 5, 3) := by decide +kernel
theorem dX5_isDone_174 : decode cX5_isDone 174 = .ok (.iconst 0, 1) := by decide +kernel
theorem dX5_isDone_175 : decode cX5_isDone 175 = .ok (.ireturn, 1) := by decide +kernel
theorem dX5_isDone_176 : decode cX5_isDone 176 = .ok (.aload_n 0, 1) := by decide +kernel
theorem dX5_isDone_177 : decode cX5_isDone 177 = .ok (.getfield 9, 3) := by decide +kernel
theorem dX5_isDone_180 : decode cX5_isDone 180 = .ok (.iload_n 2, 1) := by decide +kernel
theorem dX5_isDone_181 : decode cX5_isDone 181 = .ok (.iload_n 3, 1) := by decide +kernel
theorem dX5_isDone_182 : decode cX5_isDone 182 = .ok (.aload_n 0, 1) := by decide +kernel
theorem dX5_isDone_183 : decode cX5_isDone 183 = .ok (.getfield 31, 3) := by decide +kernel
theorem dX5_isDone_186 : decode cX5_isDone 186 = .ok (.iconst 2, 1) := by decide +kernel
theorem dX5_isDone_187 : decode cX5_isDone 187 = .ok (.iaload, 1) := by decide +kernel
theorem dX5_isDone_188 : decode cX5_isDone 188 = .ok (.invokestatic 118, 3) := by decide +kernel
theorem dX5_isDone_191 : decode cX5_isDone 191 = .ok (.iconst 1, 1) := by decide +kernel
theorem dX5_isDone_192 : decode cX5_isDone 192 = .ok (.ireturn, 1) := by decide +kernel
theorem dX5_isDone_193 : decode cX5_isDone 193 = .ok (.iload_n 2, 1) := by decide +kernel
theorem dX5_isDone_194 : decode cX5_isDone 194 = .ok (.invokestatic 111, 3) := by decide +kernel
theorem dX5_isDone_197 : decode cX5_isDone 197 = .ok (.ifCond .ne 5, 3) := by decide +kernel
theorem dX5_isDone_200 : decode cX5_isDone 200 = .ok (.iconst 0, 1) := by decide +kernel
theorem dX5_isDone_201 : decode cX5_isDone 201 = .ok (.ireturn, 1) := by decide +kernel
theorem dX5_isDone_202 : decode cX5_isDone 202 = .ok (.aload_n 0, 1) := by decide +kernel
theorem dX5_isDone_203 : decode cX5_isDone 203 = .ok (.getfield 9, 3) := by decide +kernel
theorem dX5_isDone_206 : decode cX5_isDone 206 = .ok (.iconst 3, 1) := by decide +kernel
theorem dX5_isDone_207 : decode cX5_isDone 207 = .ok (.iload_n 2, 1) := by decide +kernel
theorem dX5_isDone_208 : decode cX5_isDone 208 = .ok (.iastore, 1) := by decide +kernel
theorem dX5_isDone_209 : decode cX5_isDone 209 = .ok (.iconst 1, 1) := by decide +kernel
theorem dX5_isDone_210 : decode cX5_isDone 210 = .ok (.ireturn, 1) := by decide +kernel
theorem dX5_isDone_211 : decode cX5_isDone 211 = .ok (.aload_n 0, 1) := by decide +kernel
theorem dX5_isDone_212 : decode cX5_isDone 212 = .ok (.iload_n 2, 1) := by decide +kernel
theorem dX5_isDone_213 : decode cX5_isDone 213 = .ok (.invokevirtual 122, 3) := by decide +kernel
theorem dX5_isDone_216 : decode cX5_isDone 216 = .ok (.ifCond .ne 5, 3) := by decide +kernel
theorem dX5_isDone_219 : decode cX5_isDone 219 = .ok (.iconst 0, 1) := by decide +kernel
theorem dX5_isDone_220 : decode cX5_isDone 220 = .ok (.ireturn, 1) := by decide +kernel
theorem dX5_isDone_221 : decode cX5_isDone 221 = .ok (.aload_n 0, 1) := by decide +kernel
theorem dX5_isDone_222 : decode cX5_isDone 222 = .ok (.getfield 9, 3) := by decide +kernel
theorem dX5_isDone_225 : decode cX5_isDone 225 = .ok (.iload_n 2, 1) := by decide +kernel
theorem dX5_isDone_226 : decode cX5_isDone 226 = .ok (.invokestatic 125, 3) := by decide +kernel
theorem dX5_isDone_229 : decode cX5_isDone 229 = .ok (.iconst 1, 1) := by decide +kernel
theorem dX5_isDone_230 : decode cX5_isDone 230 = .ok (.ireturn, 1) := by decide +kernel
theorem dX5_isDone_231 : decode cX5_isDone 231 = .ok (.aload_n 0, 1) := by decide +kernel
theorem dX5_isDone_232 : decode cX5_isDone 232 = .ok (.iload_n 2, 1) := by decide +kernel
theorem dX5_isDone_233 : decode cX5_isDone 233 = .ok (.invokevirtual 122, 3) := by decide +kernel
theorem dX5_isDone_236 : decode cX5_isDone 236 = .ok (.ifCond .ne 5, 3) := by decide +kernel
theorem dX5_isDone_239 : decode cX5_isDone 239 = .ok (.iconst 0, 1) := by decide +kernel
theorem dX5_isDone_240 : decode cX5_isDone 240 = .ok (.ireturn, 1) := by decide +kernel
theorem dX5_isDone_241 : decode cX5_isDone 241 = .ok (.aload_n 0, 1) := by decide +kernel
theorem dX5_isDone_242 : decode cX5_isDone 242 = .ok (.getfield 9, 3) := by decide +kernel
theorem dX5_isDone_245 : decode cX5_isDone 245 = .ok (.iload_n 2, 1) := by decide +kernel
theorem dX5_isDone_246 : decode cX5_isDone 246 = .ok (.iconst 4, 1) := by decide +kernel
theorem dX5_isDone_247 : decode cX5_isDone 247 = .ok (.invokestatic 48, 3) := by decide +kernel
theorem dX5_isDone_250 : decode cX5_isDone 250 = .ok (.dup2, 1) := by decide +kernel
theorem dX5_isDone_251 : decode cX5_isDone 251 = .ok (.iaload, 1) := by decide +kernel
theorem dX5_isDone_252 : decode cX5_isDone 252 = .ok (.iconst 1, 1) := by decide +kernel
theorem dX5_isDone_253 : decode cX5_isDone 253 = .ok (.ixor, 1) := by decide +kernel
theorem dX5_isDone_254 : decode cX5_isDone 254 = .ok (.iastore, 1) := by decide +kernel
theorem dX5_isDone_255 : decode cX5_isDone 255 = .ok (.iconst 1, 1) := by decide +kernel
theorem dX5_isDone_256 : decode cX5_isDone 256 = .ok (.ireturn, 1) := by decide +kernel
theorem dX5_isDone_257 : decode cX5_isDone 257 = .ok (.aload_n 0, 1) := by decide +kernel
theorem dX5_isDone_258 : decode cX5_isDone 258 = .ok (.iload_n 2, 1) := by decide +kernel
theorem dX5_isDone_259 : decode cX5_isDone 259 = .ok (.invokevirtual 122, 3) := by decide +kernel
theorem dX5_isDone_262 : decode cX5_isDone 262 = .ok (.ifCond .eq 11, 3) := by decide +kernel
theorem dX5_isDone_265 : decode cX5_isDone 265 = .ok (.aload_n 0, 1) := by decide +kernel
theorem dX5_isDone_266 : decode cX5_isDone 266 = .ok (.iload_n 3, 1) := by decide +kernel
theorem dX5_isDone_267 : decode cX5_isDone 267 = .ok (.invokevirtual 115, 3) := by decide +kernel
theorem dX5_isDone_270 : decode cX5_isDone 270 = .ok (.ifCond .ne 5, 3) := by decide +kernel
theorem dX5_isDone_273 : decode cX5_isDone 273 = .ok (.iconst 0, 1) := by decide +kernel
theorem dX5_isDone_274 : decode cX5_isDone 274 = .ok (.ireturn, 1) := by decide +kernel
theorem dX5_isDone_275 : decode cX5_isDone 275 = .ok (.aload_n 0, 1) := by decide +kernel
theorem dX5_isDone_276 : decode cX5_isDone 276 = .ok (.getfield 9, 3) := by decide +kernel
theorem dX5_isDone_279 : decode cX5_isDone 279 = .ok (.iload_n 2, 1) := by decide +kernel
theorem dX5_isDone_280 : decode cX5_isDone 280 = .ok (.iconst 2, 1) := by decide +kernel
theorem dX5_isDone_281 : decode cX5_isDone 281 = .ok (.invokestatic 48, 3) := by decide +kernel
theorem dX5_isDone_284 : decode cX5_isDone 284 = .ok (.iload_n 3, 1) := by decide +kernel
theorem dX5_isDone_285 : decode cX5_isDone 285 = .ok (.iastore, 1) := by decide +kernel
theorem dX5_isDone_286 : decode cX5_isDone 286 = .ok (.iconst 1, 1) := by decide +kernel
theorem dX5_isDone_287 : decode cX5_isDone 287 = .ok (.ireturn, 1) := by decide +kernel
theorem dX5_isDone_288 : decode cX5_isDone 288 = .ok (.iload_n 2, 1) := by decide +kernel
theorem dX5_isDone_289 : decode cX5_isDone 289 = .ok (.iconst 1, 1) := by decide +kernel
theorem dX5_isDone_290 : decode cX5_isDone 290 = .ok (.bipush 60, 2) := by decide +kernel
theorem dX5_isDone_292 : decode cX5_isDone 292 = .ok (.invokestatic 41, 3) := by decide +kernel
theorem dX5_isDone_295 : decode cX5_isDone 295 = .ok (.ifCond .eq 17, 3) := by decide +kernel
theorem dX5_isDone_298 : decode cX5_isDone 298 = .ok (.aload_n 0, 1) := by decide +kernel
theorem dX5_isDone_299 : decode cX5_isDone 299 = .ok (.getfield 9, 3) := by decide +kernel
theorem dX5_isDone_302 : decode cX5_isDone 302 = .ok (.iconst 2, 1) := by decide +kernel
theorem dX5_isDone_303 : decode cX5_isDone 303 = .ok (.iaload, 1) := by decide +kernel
theorem dX5_isDone_304 : decode cX5_isDone 304 = .ok (.iload_n 2, 1) := by decide +kernel
theorem dX5_isDone_305 : decode cX5_isDone 305 = .ok (.iadd, 1) := by decide +kernel
theorem dX5_isDone_306 : decode cX5_isDone 306 = .ok (.sipush 999, 3) := by decide +kernel
theorem dX5_isDone_309 : decode cX5_isDone 309 = .ok (.if_icmp .le 5, 3) := by decide +kernel
theorem dX5_isDone_312 : decode cX5_isDone 312 = .ok (.iconst 0, 1) := by decide +kernel
theorem dX5_isDone_313 : decode cX5_isDone 313 = .ok (.ireturn, 1) := by decide +kernel
theorem dX5_isDone_314 : decode cX5_isDone 314 = .ok (.aload_n 0, 1) := by decide +kernel
theorem dX5_isDone_315 : decode cX5_isDone 315 = .ok (.getfield 9, 3) := by decide +kernel
theorem dX5_isDone_318 : decode cX5_isDone 318 = .ok (.iload_n 2, 1) := by decide +kernel
theorem dX5_isDone_319 : decode cX5_isDone 319 = .ok (.invokestatic 129, 3) := by decide +kernel
theorem dX5_isDone_322 : decode cX5_isDone 322 = .ok (.iconst 1, 1) := by decide +kernel
theorem dX5_isDone_323 : decode cX5_isDone 323 = .ok (.ireturn, 1) := by decide +kernel
set_option maxRecDepth 20000 in
theorem ggX5_sea_X5_readsStatement : GoodIn wsX5_sea wsX5_readsStatement := goodIn_r _ [9, 1, 10, 11, 12, 8, 13, 2, 14, 15, 16, 17, 18, 19, 20, 21, 22, 23, 24, 25, 26, 27, 28, 29, 96, 97, 98, 99, 100, 101, 102, 103, 104, 105, 106, 107, 108] (by decide +kernel) (by decide +kernel)
set_option maxRecDepth 20000 in
theorem gX5_sea_X5_readsStatement : GoodIn wsX5_sea (wsV RX5 132 RX5 yX5_readsStatement wsX5_readsStatement) := goodIn_app (goodIn_of _ (by decide +kernel)) ggX5_sea_X5_readsStatement
set_option maxRecDepth 20000 in
theorem ggX5_sea_X5_copies : GoodIn wsX5_sea wsX5_copies := goodIn_r _ [32] (by decide +kernel) (by decide +kernel)
set_option maxRecDepth 20000 in
theorem gX5_sea_X5_copies : GoodIn wsX5_sea (va_wsS RX5 135 yX5_copies wsX5_copies) := goodIn_app (goodIn_of _ (by decide +kernel)) ggX5_sea_X5_copies
set_option maxRecDepth 20000 in
theorem ggX5_sea_X5_here : GoodIn wsX5_sea wsX5_here := goodIn_r _ [13, 1, 2, 14, 96, 97, 98, 99, 100, 101, 102, 103, 104, 105, 106, 107, 108] (by decide +kernel) (by decide +kernel)
set_option maxRecDepth 20000 in
theorem gX5_sea_X5_here : GoodIn wsX5_sea (wsV RX5 96 RX5 yX5_here wsX5_here) := goodIn_app (goodIn_of _ (by decide +kernel)) ggX5_sea_X5_here
set_option maxRecDepth 20000 in
theorem ggX5_sea_X5_isDone : GoodIn wsX5_sea wsX5_isDone := goodIn_r _ [36, 19, 3, 37, 38, 8, 39, 20, 21, 22, 40, 41, 42, 43, 44, 45, 46, 47, 48, 49, 50, 51, 52, 53, 54, 55, 56, 57, 58, 59, 60, 61, 62, 63, 64, 65, 66, 67, 68, 69, 70, 71, 72, 73, 74, 75, 76, 77, 78, 79, 80, 81, 82, 83, 84, 85, 86, 87, 88, 89, 90, 91, 92, 93, 94, 95, 96, 97, 98, 99, 100, 101, 102, 103, 104, 105, 106, 107, 108] (by decide +kernel) (by decide +kernel)
set_option maxRecDepth 20000 in
theorem gX5_sea_X5_isDone : GoodIn wsX5_sea (wsV RX5 139 RX5 yX5_isDone wsX5_isDone) := goodIn_app (goodIn_of _ (by decide +kernel)) ggX5_sea_X5_isDone
theorem dX5_sea_0 : decode cX5_sea 0 = .ok (.aload_n 0, 1) := by decide +kernel
theorem dX5_sea_1 : decode cX5_sea 1 = .ok (.iconst 0, 1) := by decide +kernel
theorem dX5_sea_2 : decode cX5_sea 2 = .ok (.putfield 93, 3) := by decide +kernel
theorem dX5_sea_5 : decode cX5_sea 5 = .ok (.iconst 0, 1) := by decide +kernel
theorem dX5_sea_6 : decode cX5_sea 6 = .ok (.istore_n 1, 1) := by decide +kernel
theorem dX5_sea_7 : decode cX5_sea 7 = .ok (.bipush (-9), 2) := by decide +kernel
theorem dX5_sea_9 : decode cX5_sea 9 = .ok (.istore_n 2, 1) := by decide +kernel
theorem dX5_sea_10 : decode cX5_sea 10 = .ok (.aload_n 0, 1) := by decide +kernel
theorem dX5_sea_11 : decode cX5_sea 11 = .ok (.invokevirtual 132, 3) := by decide +kernel
theorem dX5_sea_14 : decode cX5_sea 14 = .ok (.ifCond .ne 12, 3) := by decide +kernel
theorem dX5_sea_17 : decode cX5_sea 17 = .ok (.sipush (-1000), 3) := by decide +kernel
theorem dX5_sea_20 : decode cX5_sea 20 = .ok (.aload_n 0, 1) := by decide +kernel
theorem dX5_sea_21 : decode cX5_sea 21 = .ok (.getfield 93, 3) := by decide +kernel
theorem dX5_sea_24 : decode cX5_sea 24 = .ok (.isub, 1) := by decide +kernel
theorem dX5_sea_25 : decode cX5_sea 25 = .ok (.istore_n 2, 1) := by decide +kernel
theorem dX5_sea_26 : decode cX5_sea 26 = .ok (.iinc 1 1, 3) := by decide +kernel
theorem dX5_sea_29 : decode cX5_sea 29 = .ok (.iload_n 2, 1) := by decide +kernel
theorem dX5_sea_30 : decode cX5_sea 30 = .ok (.bipush (-9), 2) := by decide +kernel
theorem dX5_sea_32 : decode cX5_sea 32 = .ok (.if_icmp .ne 14, 3) := by decide +kernel
theorem dX5_sea_35 : decode cX5_sea 35 = .ok (.aload_n 0, 1) := by decide +kernel
theorem dX5_sea_36 : decode cX5_sea 36 = .ok (.getfield 93, 3) := by decide +kernel
theorem dX5_sea_39 : decode cX5_sea 39 = .ok (.aload_n 0, 1) := by decide +kernel
theorem dX5_sea_40 : decode cX5_sea 40 = .ok (.getfield 89, 3) := by decide +kernel
theorem dX5_sea_43 : decode cX5_sea 43 = .ok (.if_icmp .lt (-33), 3) := by decide +kernel
theorem dX5_sea_46 : decode cX5_sea 46 = .ok (.aload_n 0, 1) := by decide +kernel
theorem dX5_sea_47 : decode cX5_sea 47 = .ok (.getfield 9, 3) := by decide +kernel
theorem dX5_sea_50 : decode cX5_sea 50 = .ok (.aload_n 0, 1) := by decide +kernel
theorem dX5_sea_51 : decode cX5_sea 51 = .ok (.getfield 19, 3) := by decide +kernel
theorem dX5_sea_54 : decode cX5_sea 54 = .ok (.invokestatic 135, 3) := by decide +kernel
theorem dX5_sea_57 : decode cX5_sea 57 = .ok (.aload_n 0, 1) := by decide +kernel
theorem dX5_sea_58 : decode cX5_sea 58 = .ok (.iconst 0, 1) := by decide +kernel
theorem dX5_sea_59 : decode cX5_sea 59 = .ok (.putfield 93, 3) := by decide +kernel
theorem dX5_sea_62 : decode cX5_sea 62 = .ok (.iload_n 2, 1) := by decide +kernel
theorem dX5_sea_63 : decode cX5_sea 63 = .ok (.bipush (-9), 2) := by decide +kernel
theorem dX5_sea_65 : decode cX5_sea 65 = .ok (.if_icmp .ne 63, 3) := by decide +kernel
theorem dX5_sea_68 : decode cX5_sea 68 = .ok (.aload_n 0, 1) := by decide +kernel
theorem dX5_sea_69 : decode cX5_sea 69 = .ok (.getfield 93, 3) := by decide +kernel
theorem dX5_sea_72 : decode cX5_sea 72 = .ok (.aload_n 0, 1) := by decide +kernel
theorem dX5_sea_73 : decode cX5_sea 73 = .ok (.getfield 89, 3) := by decide +kernel
theorem dX5_sea_76 : decode cX5_sea 76 = .ok (.if_icmp .ge 52, 3) := by decide +kernel
theorem dX5_sea_79 : decode cX5_sea 79 = .ok (.aload_n 0, 1) := by decide +kernel
theorem dX5_sea_80 : decode cX5_sea 80 = .ok (.getfield 93, 3) := by decide +kernel
theorem dX5_sea_83 : decode cX5_sea 83 = .ok (.istore_n 3, 1) := by decide +kernel
theorem dX5_sea_84 : decode cX5_sea 84 = .ok (.aload_n 0, 1) := by decide +kernel
theorem dX5_sea_85 : decode cX5_sea 85 = .ok (.invokevirtual 96, 3) := by decide +kernel
theorem dX5_sea_88 : decode cX5_sea 88 = .ok (.istore 4, 2) := by decide +kernel
theorem dX5_sea_90 : decode cX5_sea 90 = .ok (.aload_n 0, 1) := by decide +kernel
theorem dX5_sea_91 : decode cX5_sea 91 = .ok (.invokevirtual 132, 3) := by decide +kernel
theorem dX5_sea_94 : decode cX5_sea 94 = .ok (.istore 5, 2) := by decide +kernel
theorem dX5_sea_96 : decode cX5_sea 96 = .ok (.aload_n 0, 1) := by decide +kernel
theorem dX5_sea_97 : decode cX5_sea 97 = .ok (.iload 4, 2) := by decide +kernel
theorem dX5_sea_99 : decode cX5_sea 99 = .ok (.invokevirtual 139, 3) := by decide +kernel
theorem dX5_sea_102 : decode cX5_sea 102 = .ok (.ifCond .eq 6, 3) := by decide +kernel
theorem dX5_sea_105 : decode cX5_sea 105 = .ok (.goto (-43), 3) := by decide +kernel
theorem dX5_sea_108 : decode cX5_sea 108 = .ok (.sipush (-2000), 3) := by decide +kernel
theorem dX5_sea_111 : decode cX5_sea 111 = .ok (.iload_n 3, 1) := by decide +kernel
theorem dX5_sea_112 : decode cX5_sea 112 = .ok (.isub, 1) := by decide +kernel
theorem dX5_sea_113 : decode cX5_sea 113 = .ok (.istore_n 2, 1) := by decide +kernel
theorem dX5_sea_114 : decode cX5_sea 114 = .ok (.aload_n 0, 1) := by decide +kernel
theorem dX5_sea_115 : decode cX5_sea 115 = .ok (.getfield 19, 3) := by decide +kernel
theorem dX5_sea_118 : decode cX5_sea 118 = .ok (.aload_n 0, 1) := by decide +kernel
theorem dX5_sea_119 : decode cX5_sea 119 = .ok (.getfield 9, 3) := by decide +kernel
theorem dX5_sea_122 : decode cX5_sea 122 = .ok (.invokestatic 135, 3) := by decide +kernel
theorem dX5_sea_125 : decode cX5_sea 125 = .ok (.goto (-63), 3) := by decide +kernel
theorem dX5_sea_128 : decode cX5_sea 128 = .ok (.aload_n 0, 1) := by decide +kernel
theorem dX5_sea_129 : decode cX5_sea 129 = .ok (.iconst 0, 1) := by decide +kernel
theorem dX5_sea_130 : decode cX5_sea 130 = .ok (.putfield 89, 3) := by decide +kernel
theorem dX5_sea_133 : decode cX5_sea 133 = .ok (.iload_n 2, 1) := by decide +kernel
theorem dX5_sea_134 : decode cX5_sea 134 = .ok (.bipush (-9), 2) := by decide +kernel
theorem dX5_sea_136 : decode cX5_sea 136 = .ok (.if_icmp .ne 7, 3) := by decide +kernel
theorem dX5_sea_139 : decode cX5_sea 139 = .ok (.iload_n 1, 1) := by decide +kernel
theorem dX5_sea_140 : decode cX5_sea 140 = .ok (.goto 4, 3) := by decide +kernel
theorem dX5_sea_143 : decode cX5_sea 143 = .ok (.iload_n 2, 1) := by decide +kernel
theorem dX5_sea_144 : decode cX5_sea 144 = .ok (.ireturn, 1) := by decide +kernel
set_option maxRecDepth 20000 in
theorem ggX5_hand_X5_isHand : GoodIn wsX5_hand wsX5_isHand := goodIn_r _ [6, 1, 7, 8, 5, 9, 18, 19, 20, 21, 22, 23, 24, 25, 26, 27, 28, 29, 30] (by decide +kernel) (by decide +kernel)
set_option maxRecDepth 20000 in
theorem gX5_hand_X5_isHand : GoodIn wsX5_hand (wsV RX5 122 RX5 yX5_isHand wsX5_isHand) := goodIn_app (goodIn_of _ (by decide +kernel)) ggX5_hand_X5_isHand
set_option maxRecDepth 20000 in
theorem ggX5_hand_X5_no : GoodIn wsX5_hand wsX5_no := goodIn_r _ [13, 14, 18, 19, 20, 21, 22, 23, 24, 25, 26, 27, 28, 29, 30] (by decide +kernel) (by decide +kernel)
set_option maxRecDepth 20000 in
theorem gX5_hand_X5_no : GoodIn wsX5_hand (wsV RX5 35 RX5 yX5_no wsX5_no) := goodIn_app (goodIn_of _ (by decide +kernel)) ggX5_hand_X5_no
set_option maxRecDepth 20000 in
theorem ggX5_hand_X5_isIn : GoodIn wsX5_hand wsX5_isIn := goodIn_r _ [9] (by decide +kernel) (by decide +kernel)
set_option maxRecDepth 20000 in
theorem gX5_hand_X5_isIn : GoodIn wsX5_hand (va_wsS RX5 41 yX5_isIn wsX5_isIn) := goodIn_app (goodIn_of _ (by decide +kernel)) ggX5_hand_X5_isIn
set_option maxRecDepth 20000 in
theorem ggX5_hand_X5_of : GoodIn wsX5_hand wsX5_of := goodIn_r _ [17] (by decide +kernel) (by decide +kernel)
set_option maxRecDepth 20000 in
theorem gX5_hand_X5_of : GoodIn wsX5_hand (va_wsS RX5 48 yX5_of wsX5_of) := goodIn_app (goodIn_of _ (by decide +kernel)) ggX5_hand_X5_of
theorem dX5_hand_0 : decode cX5_hand 0 = .ok (.aload_n 0, 1) := by decide +kernel
theorem dX5_hand_1 : decode cX5_hand 1 = .ok (.iload_n 1, 1) := by decide +kernel
theorem dX5_hand_2 : decode cX5_hand 2 = .ok (.invokevirtual 122, 3) := by decide +kernel
theorem dX5_hand_5 : decode cX5_hand 5 = .ok (.ifCond .ne 9, 3) := by decide +kernel
theorem dX5_hand_8 : decode cX5_hand 8 = .ok (.aload_n 0, 1) := by decide +kernel
theorem dX5_hand_9 : decode cX5_hand 9 = .ok (.iconst (-1), 1) := by decide +kernel
theorem dX5_hand_10 : decode cX5_hand 10 = .ok (.invokevirtual 35, 3) := by decide +kernel
theorem dX5_hand_13 : decode cX5_hand 13 = .ok (.ireturn, 1) := by decide +kernel
theorem dX5_hand_14 : decode cX5_hand 14 = .ok (.iload_n 2, 1) := by decide +kernel
theorem dX5_hand_15 : decode cX5_hand 15 = .ok (.iconst 0, 1) := by decide +kernel
theorem dX5_hand_16 : decode cX5_hand 16 = .ok (.iconst 4, 1) := by decide +kernel
theorem dX5_hand_17 : decode cX5_hand 17 = .ok (.invokestatic 41, 3) := by decide +kernel
theorem dX5_hand_20 : decode cX5_hand 20 = .ok (.ifCond .eq 16, 3) := by decide +kernel
theorem dX5_hand_23 : decode cX5_hand 23 = .ok (.aload_n 0, 1) := by decide +kernel
theorem dX5_hand_24 : decode cX5_hand 24 = .ok (.getfield 9, 3) := by decide +kernel
theorem dX5_hand_27 : decode cX5_hand 27 = .ok (.iload_n 1, 1) := by decide +kernel
theorem dX5_hand_28 : decode cX5_hand 28 = .ok (.iload_n 2, 1) := by decide +kernel
theorem dX5_hand_29 : decode cX5_hand 29 = .ok (.invokestatic 48, 3) := by decide +kernel
theorem dX5_hand_32 : decode cX5_hand 32 = .ok (.iaload, 1) := by decide +kernel
theorem dX5_hand_33 : decode cX5_hand 33 = .ok (.goto 9, 3) := by decide +kernel
theorem dX5_hand_36 : decode cX5_hand 36 = .ok (.aload_n 0, 1) := by decide +kernel
theorem dX5_hand_37 : decode cX5_hand 37 = .ok (.bipush (-2), 2) := by decide +kernel
theorem dX5_hand_39 : decode cX5_hand 39 = .ok (.invokevirtual 35, 3) := by decide +kernel
theorem dX5_hand_42 : decode cX5_hand 42 = .ok (.ireturn, 1) := by decide +kernel
set_option maxRecDepth 20000 in
theorem ggX5_place_X5_isPlace : GoodIn wsX5_place wsX5_isPlace := goodIn_r _ [6, 1, 7, 8, 5, 9, 15, 16, 17, 18, 19, 20, 21, 22, 23, 24, 25, 26, 27] (by decide +kernel) (by decide +kernel)
set_option maxRecDepth 20000 in
theorem gX5_place_X5_isPlace : GoodIn wsX5_place (wsV RX5 115 RX5 yX5_isPlace wsX5_isPlace) := goodIn_app (goodIn_of _ (by decide +kernel)) ggX5_place_X5_isPlace
set_option maxRecDepth 20000 in
theorem ggX5_place_X5_no : GoodIn wsX5_place wsX5_no := goodIn_r _ [13, 14, 15, 16, 17, 18, 19, 20, 21, 22, 23, 24, 25, 26, 27] (by decide +kernel) (by decide +kernel)
set_option maxRecDepth 20000 in
theorem gX5_place_X5_no : GoodIn wsX5_place (wsV RX5 35 RX5 yX5_no wsX5_no) := goodIn_app (goodIn_of _ (by decide +kernel)) ggX5_place_X5_no
theorem dX5_place_0 : decode cX5_place 0 = .ok (.aload_n 0, 1) := by decide +kernel
theorem dX5_place_1 : decode cX5_place 1 = .ok (.iload_n 1, 1) := by decide +kernel
theorem dX5_place_2 : decode cX5_place 2 = .ok (.invokevirtual 115, 3) := by decide +kernel
theorem dX5_place_5 : decode cX5_place 5 = .ok (.ifCond .eq 14, 3) := by decide +kernel
theorem dX5_place_8 : decode cX5_place 8 = .ok (.aload_n 0, 1) := by decide +kernel
theorem dX5_place_9 : decode cX5_place 9 = .ok (.getfield 9, 3) := by decide +kernel
theorem dX5_place_12 : decode cX5_place 12 = .ok (.iconst 4, 1) := by decide +kernel
theorem dX5_place_13 : decode cX5_place 13 = .ok (.iload_n 1, 1) := by decide +kernel
theorem dX5_place_14 : decode cX5_place 14 = .ok (.iadd, 1) := by decide +kernel
theorem dX5_place_15 : decode cX5_place 15 = .ok (.iaload, 1) := by decide +kernel
theorem dX5_place_16 : decode cX5_place 16 = .ok (.goto 8, 3) := by decide +kernel
theorem dX5_place_19 : decode cX5_place 19 = .ok (.aload_n 0, 1) := by decide +kernel
theorem dX5_place_20 : decode cX5_place 20 = .ok (.iconst (-1), 1) := by decide +kernel
theorem dX5_place_21 : decode cX5_place 21 = .ok (.invokevirtual 35, 3) := by decide +kernel
theorem dX5_place_24 : decode cX5_place 24 = .ok (.ireturn, 1) := by decide +kernel
set_option maxRecDepth 20000 in
theorem ggX5_leans_X5_isHand : GoodIn wsX5_leans wsX5_isHand := goodIn_r _ [6, 1, 7, 8, 5, 9, 35, 36, 37, 38, 39, 40, 41, 42, 43, 44, 45, 46, 47] (by decide +kernel) (by decide +kernel)
set_option maxRecDepth 20000 in
theorem gX5_leans_X5_isHand : GoodIn wsX5_leans (wsV RX5 122 RX5 yX5_isHand wsX5_isHand) := goodIn_app (goodIn_of _ (by decide +kernel)) ggX5_leans_X5_isHand
set_option maxRecDepth 20000 in
theorem ggX5_leans_X5_leansIn : GoodIn wsX5_leans wsX5_leansIn := goodIn_r _ [12, 13, 14, 5, 15, 16, 17, 18, 19, 20, 21, 22, 23, 24] (by decide +kernel) (by decide +kernel)
set_option maxRecDepth 20000 in
theorem gX5_leans_X5_leansIn : GoodIn wsX5_leans (va_wsS RX5 66 yX5_leansIn wsX5_leansIn) := goodIn_app (goodIn_of _ (by decide +kernel)) ggX5_leans_X5_leansIn
set_option maxRecDepth 20000 in
theorem ggX5_leans_X5_noFar : GoodIn wsX5_leans wsX5_noFar := goodIn_r _ [28, 29, 30, 31, 32, 5, 33, 34, 35, 36, 37, 38, 39, 40, 41, 42, 43, 44, 45, 46, 47] (by decide +kernel) (by decide +kernel)
set_option maxRecDepth 20000 in
theorem gX5_leans_X5_noFar : GoodIn wsX5_leans (wsV RX5 142 RX5 yX5_noFar wsX5_noFar) := goodIn_app (goodIn_of _ (by decide +kernel)) ggX5_leans_X5_noFar
theorem dX5_leans_0 : decode cX5_leans 0 = .ok (.aload_n 0, 1) := by decide +kernel
theorem dX5_leans_1 : decode cX5_leans 1 = .ok (.iload_n 1, 1) := by decide +kernel
theorem dX5_leans_2 : decode cX5_leans 2 = .ok (.invokevirtual 122, 3) := by decide +kernel
theorem dX5_leans_5 : decode cX5_leans 5 = .ok (.ifCond .eq 14, 3) := by decide +kernel
theorem dX5_leans_8 : decode cX5_leans 8 = .ok (.aload_n 0, 1) := by decide +kernel
theorem dX5_leans_9 : decode cX5_leans 9 = .ok (.getfield 9, 3) := by decide +kernel
theorem dX5_leans_12 : decode cX5_leans 12 = .ok (.iload_n 1, 1) := by decide +kernel
theorem dX5_leans_13 : decode cX5_leans 13 = .ok (.invokestatic 66, 3) := by decide +kernel
theorem dX5_leans_16 : decode cX5_leans 16 = .ok (.goto 8, 3) := by decide +kernel
theorem dX5_leans_19 : decode cX5_leans 19 = .ok (.aload_n 0, 1) := by decide +kernel
theorem dX5_leans_20 : decode cX5_leans 20 = .ok (.iconst (-1), 1) := by decide +kernel
theorem dX5_leans_21 : decode cX5_leans 21 = .ok (.invokevirtual 142, 3) := by decide +kernel
theorem dX5_leans_24 : decode cX5_leans 24 = .ok (.ireturn, 1) := by decide +kernel
set_option maxRecDepth 20000 in
theorem ggX5_drops_X5_isHand : GoodIn wsX5_drops wsX5_isHand := goodIn_r _ [6, 1, 7, 8, 5, 9, 21, 22, 23, 24, 25, 26, 27, 28, 29, 30, 31, 32, 33] (by decide +kernel) (by decide +kernel)
set_option maxRecDepth 20000 in
theorem gX5_drops_X5_isHand : GoodIn wsX5_drops (wsV RX5 122 RX5 yX5_isHand wsX5_isHand) := goodIn_app (goodIn_of _ (by decide +kernel)) ggX5_drops_X5_isHand
set_option maxRecDepth 20000 in
theorem ggX5_drops_X5_no : GoodIn wsX5_drops wsX5_no := goodIn_r _ [13, 14, 21, 22, 23, 24, 25, 26, 27, 28, 29, 30, 31, 32, 33] (by decide +kernel) (by decide +kernel)
set_option maxRecDepth 20000 in
theorem gX5_drops_X5_no : GoodIn wsX5_drops (wsV RX5 35 RX5 yX5_no wsX5_no) := goodIn_app (goodIn_of _ (by decide +kernel)) ggX5_drops_X5_no
set_option maxRecDepth 20000 in
theorem ggX5_drops_X5_dropsIn : GoodIn wsX5_drops wsX5_dropsIn := goodIn_r _ [17, 18, 19, 5, 20] (by decide +kernel) (by decide +kernel)
set_option maxRecDepth 20000 in
theorem gX5_drops_X5_dropsIn : GoodIn wsX5_drops (va_wsS RX5 125 yX5_dropsIn wsX5_dropsIn) := goodIn_app (goodIn_of _ (by decide +kernel)) ggX5_drops_X5_dropsIn
set_option maxRecDepth 20000 in
theorem ggX5_drops_X5_of : GoodIn wsX5_drops wsX5_of := goodIn_r _ [20] (by decide +kernel) (by decide +kernel)
set_option maxRecDepth 20000 in
theorem gX5_drops_X5_of : GoodIn wsX5_drops (va_wsS RX5 48 yX5_of wsX5_of) := goodIn_app (goodIn_of _ (by decide +kernel)) ggX5_drops_X5_of
theorem dX5_drops_0 : decode cX5_drops 0 = .ok (.aload_n 0, 1) := by decide +kernel
theorem dX5_drops_1 : decode cX5_drops 1 = .ok (.iload_n 1, 1) := by decide +kernel
theorem dX5_drops_2 : decode cX5_drops 2 = .ok (.invokevirtual 122, 3) := by decide +kernel
theorem dX5_drops_5 : decode cX5_drops 5 = .ok (.ifCond .ne 9, 3) := by decide +kernel
theorem dX5_drops_8 : decode cX5_drops 8 = .ok (.aload_n 0, 1) := by decide +kernel
theorem dX5_drops_9 : decode cX5_drops 9 = .ok (.iconst (-1), 1) := by decide +kernel
theorem dX5_drops_10 : decode cX5_drops 10 = .ok (.invokevirtual 35, 3) := by decide +kernel
theorem dX5_drops_13 : decode cX5_drops 13 = .ok (.ireturn, 1) := by decide +kernel
theorem dX5_drops_14 : decode cX5_drops 14 = .ok (.aload_n 0, 1) := by decide +kernel
theorem dX5_drops_15 : decode cX5_drops 15 = .ok (.getfield 9, 3) := by decide +kernel
theorem dX5_drops_18 : decode cX5_drops 18 = .ok (.iload_n 1, 1) := by decide +kernel
theorem dX5_drops_19 : decode cX5_drops 19 = .ok (.invokestatic 125, 3) := by decide +kernel
theorem dX5_drops_22 : decode cX5_drops 22 = .ok (.aload_n 0, 1) := by decide +kernel
theorem dX5_drops_23 : decode cX5_drops 23 = .ok (.getfield 9, 3) := by decide +kernel
theorem dX5_drops_26 : decode cX5_drops 26 = .ok (.iload_n 1, 1) := by decide +kernel
theorem dX5_drops_27 : decode cX5_drops 27 = .ok (.iconst 3, 1) := by decide +kernel
theorem dX5_drops_28 : decode cX5_drops 28 = .ok (.invokestatic 48, 3) := by decide +kernel
theorem dX5_drops_31 : decode cX5_drops 31 = .ok (.iaload, 1) := by decide +kernel
theorem dX5_drops_32 : decode cX5_drops 32 = .ok (.ireturn, 1) := by decide +kernel
set_option maxRecDepth 20000 in
theorem ggX5_boards_X5_isHand : GoodIn wsX5_boards wsX5_isHand := goodIn_r _ [6, 1, 7, 8, 5, 9, 18, 19, 20, 21, 22, 23, 24, 25, 26, 27, 28, 29, 30] (by decide +kernel) (by decide +kernel)
set_option maxRecDepth 20000 in
theorem gX5_boards_X5_isHand : GoodIn wsX5_boards (wsV RX5 122 RX5 yX5_isHand wsX5_isHand) := goodIn_app (goodIn_of _ (by decide +kernel)) ggX5_boards_X5_isHand
set_option maxRecDepth 20000 in
theorem ggX5_boards_X5_no : GoodIn wsX5_boards wsX5_no := goodIn_r _ [13, 14, 18, 19, 20, 21, 22, 23, 24, 25, 26, 27, 28, 29, 30] (by decide +kernel) (by decide +kernel)
set_option maxRecDepth 20000 in
theorem gX5_boards_X5_no : GoodIn wsX5_boards (wsV RX5 35 RX5 yX5_no wsX5_no) := goodIn_app (goodIn_of _ (by decide +kernel)) ggX5_boards_X5_no
set_option maxRecDepth 20000 in
theorem ggX5_boards_X5_of : GoodIn wsX5_boards wsX5_of := goodIn_r _ [17] (by decide +kernel) (by decide +kernel)
set_option maxRecDepth 20000 in
theorem gX5_boards_X5_of : GoodIn wsX5_boards (va_wsS RX5 48 yX5_of wsX5_of) := goodIn_app (goodIn_of _ (by decide +kernel)) ggX5_boards_X5_of
theorem dX5_boards_0 : decode cX5_boards 0 = .ok (.aload_n 0, 1) := by decide +kernel
theorem dX5_boards_1 : decode cX5_boards 1 = .ok (.iload_n 1, 1) := by decide +kernel
theorem dX5_boards_2 : decode cX5_boards 2 = .ok (.invokevirtual 122, 3) := by decide +kernel
theorem dX5_boards_5 : decode cX5_boards 5 = .ok (.ifCond .ne 9, 3) := by decide +kernel
theorem dX5_boards_8 : decode cX5_boards 8 = .ok (.aload_n 0, 1) := by decide +kernel
theorem dX5_boards_9 : decode cX5_boards 9 = .ok (.iconst (-1), 1) := by decide +kernel
theorem dX5_boards_10 : decode cX5_boards 10 = .ok (.invokevirtual 35, 3) := by decide +kernel
theorem dX5_boards_13 : decode cX5_boards 13 = .ok (.ireturn, 1) := by decide +kernel
theorem dX5_boards_14 : decode cX5_boards 14 = .ok (.aload_n 0, 1) := by decide +kernel
theorem dX5_boards_15 : decode cX5_boards 15 = .ok (.getfield 9, 3) := by decide +kernel
theorem dX5_boards_18 : decode cX5_boards 18 = .ok (.iload_n 1, 1) := by decide +kernel
theorem dX5_boards_19 : decode cX5_boards 19 = .ok (.iconst 4, 1) := by decide +kernel
theorem dX5_boards_20 : decode cX5_boards 20 = .ok (.invokestatic 48, 3) := by decide +kernel
theorem dX5_boards_23 : decode cX5_boards 23 = .ok (.dup2, 1) := by decide +kernel
theorem dX5_boards_24 : decode cX5_boards 24 = .ok (.iaload, 1) := by decide +kernel
theorem dX5_boards_25 : decode cX5_boards 25 = .ok (.iconst 1, 1) := by decide +kernel
theorem dX5_boards_26 : decode cX5_boards 26 = .ok (.ixor, 1) := by decide +kernel
theorem dX5_boards_27 : decode cX5_boards 27 = .ok (.iastore, 1) := by decide +kernel
theorem dX5_boards_28 : decode cX5_boards 28 = .ok (.aload_n 0, 1) := by decide +kernel
theorem dX5_boards_29 : decode cX5_boards 29 = .ok (.getfield 9, 3) := by decide +kernel
theorem dX5_boards_32 : decode cX5_boards 32 = .ok (.iload_n 1, 1) := by decide +kernel
theorem dX5_boards_33 : decode cX5_boards 33 = .ok (.iconst 4, 1) := by decide +kernel
theorem dX5_boards_34 : decode cX5_boards 34 = .ok (.invokestatic 48, 3) := by decide +kernel
theorem dX5_boards_37 : decode cX5_boards 37 = .ok (.iaload, 1) := by decide +kernel
theorem dX5_boards_38 : decode cX5_boards 38 = .ok (.ireturn, 1) := by decide +kernel
set_option maxRecDepth 20000 in
theorem ggX5_sails_X5_isCell : GoodIn wsX5_sails wsX5_isCell := goodIn_r _ [5, 6, 7, 4, 8] (by decide +kernel) (by decide +kernel)
set_option maxRecDepth 20000 in
theorem gX5_sails_X5_isCell : GoodIn wsX5_sails (va_wsS RX5 111 yX5_isCell wsX5_isCell) := goodIn_app (goodIn_of _ (by decide +kernel)) ggX5_sails_X5_isCell
set_option maxRecDepth 20000 in
theorem ggX5_sails_X5_no : GoodIn wsX5_sails wsX5_no := goodIn_r _ [12, 13, 14, 15, 16, 17, 18, 19, 20, 21, 22, 23, 24, 25, 26] (by decide +kernel) (by decide +kernel)
set_option maxRecDepth 20000 in
theorem gX5_sails_X5_no : GoodIn wsX5_sails (wsV RX5 35 RX5 yX5_no wsX5_no) := goodIn_app (goodIn_of _ (by decide +kernel)) ggX5_sails_X5_no
theorem dX5_sails_0 : decode cX5_sails 0 = .ok (.iload_n 1, 1) := by decide +kernel
theorem dX5_sails_1 : decode cX5_sails 1 = .ok (.invokestatic 111, 3) := by decide +kernel
theorem dX5_sails_4 : decode cX5_sails 4 = .ok (.ifCond .ne 9, 3) := by decide +kernel
theorem dX5_sails_7 : decode cX5_sails 7 = .ok (.aload_n 0, 1) := by decide +kernel
theorem dX5_sails_8 : decode cX5_sails 8 = .ok (.iconst (-1), 1) := by decide +kernel
theorem dX5_sails_9 : decode cX5_sails 9 = .ok (.invokevirtual 35, 3) := by decide +kernel
theorem dX5_sails_12 : decode cX5_sails 12 = .ok (.ireturn, 1) := by decide +kernel
theorem dX5_sails_13 : decode cX5_sails 13 = .ok (.aload_n 0, 1) := by decide +kernel
theorem dX5_sails_14 : decode cX5_sails 14 = .ok (.getfield 9, 3) := by decide +kernel
theorem dX5_sails_17 : decode cX5_sails 17 = .ok (.iconst 3, 1) := by decide +kernel
theorem dX5_sails_18 : decode cX5_sails 18 = .ok (.iaload, 1) := by decide +kernel
theorem dX5_sails_19 : decode cX5_sails 19 = .ok (.istore_n 2, 1) := by decide +kernel
theorem dX5_sails_20 : decode cX5_sails 20 = .ok (.aload_n 0, 1) := by decide +kernel
theorem dX5_sails_21 : decode cX5_sails 21 = .ok (.getfield 9, 3) := by decide +kernel
theorem dX5_sails_24 : decode cX5_sails 24 = .ok (.iconst 3, 1) := by decide +kernel
theorem dX5_sails_25 : decode cX5_sails 25 = .ok (.iload_n 1, 1) := by decide +kernel
theorem dX5_sails_26 : decode cX5_sails 26 = .ok (.iastore, 1) := by decide +kernel
theorem dX5_sails_27 : decode cX5_sails 27 = .ok (.iload_n 2, 1) := by decide +kernel
theorem dX5_sails_28 : decode cX5_sails 28 = .ok (.ireturn, 1) := by decide +kernel
set_option maxRecDepth 20000 in
theorem ggX5_misses_X5_isHand : GoodIn wsX5_misses wsX5_isHand := goodIn_r _ [6, 1, 7, 8, 5, 9, 22, 23, 24, 25, 26, 27, 28, 29, 30, 31, 32, 33, 34] (by decide +kernel) (by decide +kernel)
set_option maxRecDepth 20000 in
theorem gX5_misses_X5_isHand : GoodIn wsX5_misses (wsV RX5 122 RX5 yX5_isHand wsX5_isHand) := goodIn_app (goodIn_of _ (by decide +kernel)) ggX5_misses_X5_isHand
set_option maxRecDepth 20000 in
theorem ggX5_misses_X5_isPlace : GoodIn wsX5_misses wsX5_isPlace := goodIn_r _ [13, 1, 7, 8, 5, 9, 22, 23, 24, 25, 26, 27, 28, 29, 30, 31, 32, 33, 34] (by decide +kernel) (by decide +kernel)
set_option maxRecDepth 20000 in
theorem gX5_misses_X5_isPlace : GoodIn wsX5_misses (wsV RX5 115 RX5 yX5_isPlace wsX5_isPlace) := goodIn_app (goodIn_of _ (by decide +kernel)) ggX5_misses_X5_isPlace
set_option maxRecDepth 20000 in
theorem ggX5_misses_X5_no : GoodIn wsX5_misses wsX5_no := goodIn_r _ [17, 18, 22, 23, 24, 25, 26, 27, 28, 29, 30, 31, 32, 33, 34] (by decide +kernel) (by decide +kernel)
set_option maxRecDepth 20000 in
theorem gX5_misses_X5_no : GoodIn wsX5_misses (wsV RX5 35 RX5 yX5_no wsX5_no) := goodIn_app (goodIn_of _ (by decide +kernel)) ggX5_misses_X5_no
set_option maxRecDepth 20000 in
theorem ggX5_misses_X5_of : GoodIn wsX5_misses wsX5_of := goodIn_r _ [21] (by decide +kernel) (by decide +kernel)
set_option maxRecDepth 20000 in
theorem gX5_misses_X5_of : GoodIn wsX5_misses (va_wsS RX5 48 yX5_of wsX5_of) := goodIn_app (goodIn_of _ (by decide +kernel)) ggX5_misses_X5_of
theorem dX5_misses_0 : decode cX5_misses 0 = .ok (.aload_n 0, 1) := by decide +kernel
