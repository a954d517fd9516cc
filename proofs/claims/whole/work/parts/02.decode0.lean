theorem dX0_init_0 : decode cX0_init 0 = .ok (.aload_n 0, 1) := by decide +kernel
theorem dX0_init_1 : decode cX0_init 1 = .ok (.invokespecial 3, 3) := by decide +kernel
theorem dX0_init_4 : decode cX0_init 4 = .ok (.return_, 1) := by decide +kernel
theorem dX0_draw_0 : decode cX0_draw 0 = .ok (.aload_n 0, 1) := by decide +kernel
theorem dX0_draw_1 : decode cX0_draw 1 = .ok (.aload_n 0, 1) := by decide +kernel
theorem dX0_draw_2 : decode cX0_draw 2 = .ok (.getfield 9, 3) := by decide +kernel
theorem dX0_draw_5 : decode cX0_draw 5 = .ok (.ldc 15, 2) := by decide +kernel
theorem dX0_draw_7 : decode cX0_draw 7 = .ok (.imul, 1) := by decide +kernel
theorem dX0_draw_8 : decode cX0_draw 8 = .ok (.ldc 16, 2) := by decide +kernel
theorem dX0_draw_10 : decode cX0_draw 10 = .ok (.iadd, 1) := by decide +kernel
theorem dX0_draw_11 : decode cX0_draw 11 = .ok (.putfield 9, 3) := by decide +kernel
theorem dX0_draw_14 : decode cX0_draw 14 = .ok (.iload_n 1, 1) := by decide +kernel
theorem dX0_draw_15 : decode cX0_draw 15 = .ok (.ifCond .le 19, 3) := by decide +kernel
theorem dX0_draw_18 : decode cX0_draw 18 = .ok (.aload_n 0, 1) := by decide +kernel
theorem dX0_draw_19 : decode cX0_draw 19 = .ok (.getfield 9, 3) := by decide +kernel
theorem dX0_draw_22 : decode cX0_draw 22 = .ok (.ldc 17, 2) := by decide +kernel
theorem dX0_draw_24 : decode cX0_draw 24 = .ok (.iand, 1) := by decide +kernel
theorem dX0_draw_25 : decode cX0_draw 25 = .ok (.sipush 256, 3) := by decide +kernel
theorem dX0_draw_28 : decode cX0_draw 28 = .ok (.idiv, 1) := by decide +kernel
theorem dX0_draw_29 : decode cX0_draw 29 = .ok (.iload_n 1, 1) := by decide +kernel
theorem dX0_draw_30 : decode cX0_draw 30 = .ok (.irem, 1) := by decide +kernel
theorem dX0_draw_31 : decode cX0_draw 31 = .ok (.goto 4, 3) := by decide +kernel
theorem dX0_draw_34 : decode cX0_draw 34 = .ok (.iconst 0, 1) := by decide +kernel
theorem dX0_draw_35 : decode cX0_draw 35 = .ok (.ireturn, 1) := by decide +kernel
set_option maxRecDepth 20000 in
theorem ggX0_startAnew_X0_draw : GoodIn wsX0_startAnew wsX0_draw := goodIn_r _ [5, 6, 7, 8, 9, 22] (by decide +kernel) (by decide +kernel)
set_option maxRecDepth 20000 in
theorem gX0_startAnew_X0_draw : GoodIn wsX0_startAnew (wsV RX0 18 RX0 yX0_draw wsX0_draw) := goodIn_app (goodIn_of _ (by decide +kernel)) ggX0_startAnew_X0_draw
theorem dX0_startAnew_0 : decode cX0_startAnew 0 = .ok (.aload_n 1, 1) := by decide +kernel
theorem dX0_startAnew_1 : decode cX0_startAnew 1 = .ok (.aload_n 0, 1) := by decide +kernel
theorem dX0_startAnew_2 : decode cX0_startAnew 2 = .ok (.bipush 64, 2) := by decide +kernel
theorem dX0_startAnew_4 : decode cX0_startAnew 4 = .ok (.invokevirtual 18, 3) := by decide +kernel
theorem dX0_startAnew_7 : decode cX0_startAnew 7 = .ok (.putfield 22, 3) := by decide +kernel
theorem dX0_startAnew_10 : decode cX0_startAnew 10 = .ok (.iconst 0, 1) := by decide +kernel
theorem dX0_startAnew_11 : decode cX0_startAnew 11 = .ok (.istore_n 2, 1) := by decide +kernel
theorem dX0_startAnew_12 : decode cX0_startAnew 12 = .ok (.iload_n 2, 1) := by decide +kernel
theorem dX0_startAnew_13 : decode cX0_startAnew 13 = .ok (.aload_n 1, 1) := by decide +kernel
theorem dX0_startAnew_14 : decode cX0_startAnew 14 = .ok (.getfield 27, 3) := by decide +kernel
theorem dX0_startAnew_17 : decode cX0_startAnew 17 = .ok (.if_icmp .ge 21, 3) := by decide +kernel
theorem dX0_startAnew_20 : decode cX0_startAnew 20 = .ok (.aload_n 1, 1) := by decide +kernel
theorem dX0_startAnew_21 : decode cX0_startAnew 21 = .ok (.getfield 30, 3) := by decide +kernel
theorem dX0_startAnew_24 : decode cX0_startAnew 24 = .ok (.iload_n 2, 1) := by decide +kernel
theorem dX0_startAnew_25 : decode cX0_startAnew 25 = .ok (.aload_n 0, 1) := by decide +kernel
theorem dX0_startAnew_26 : decode cX0_startAnew 26 = .ok (.bipush 40, 2) := by decide +kernel
theorem dX0_startAnew_28 : decode cX0_startAnew 28 = .ok (.invokevirtual 18, 3) := by decide +kernel
theorem dX0_startAnew_31 : decode cX0_startAnew 31 = .ok (.iastore, 1) := by decide +kernel
theorem dX0_startAnew_32 : decode cX0_startAnew 32 = .ok (.iinc 2 1, 3) := by decide +kernel
theorem dX0_startAnew_35 : decode cX0_startAnew 35 = .ok (.goto (-23), 3) := by decide +kernel
theorem dX0_startAnew_38 : decode cX0_startAnew 38 = .ok (.return_, 1) := by decide +kernel
theorem dX1_init_0 : decode cX1_init 0 = .ok (.aload_n 0, 1) := by decide +kernel
theorem dX1_init_1 : decode cX1_init 1 = .ok (.invokespecial 3, 3) := by decide +kernel
theorem dX1_init_4 : decode cX1_init 4 = .ok (.aload_n 0, 1) := by decide +kernel
theorem dX1_init_5 : decode cX1_init 5 = .ok (.bipush 64, 2) := by decide +kernel
theorem dX1_init_7 : decode cX1_init 7 = .ok (.newarray .long, 2) := by decide +kernel
theorem dX1_init_9 : decode cX1_init 9 = .ok (.putfield 9, 3) := by decide +kernel
theorem dX1_init_12 : decode cX1_init 12 = .ok (.aload_n 0, 1) := by decide +kernel
theorem dX1_init_13 : decode cX1_init 13 = .ok (.bipush 64, 2) := by decide +kernel
theorem dX1_init_15 : decode cX1_init 15 = .ok (.newarray .long, 2) := by decide +kernel
theorem dX1_init_17 : decode cX1_init 17 = .ok (.putfield 15, 3) := by decide +kernel
theorem dX1_init_20 : decode cX1_init 20 = .ok (.return_, 1) := by decide +kernel
set_option maxRecDepth 20000 in
theorem ggX1_blow_X1_spread : GoodIn wsX1_blow wsX1_spread := goodIn_r _ [7, 8, 1, 9, 10, 11, 12, 13, 14, 15, 16, 17, 18, 19, 20, 21, 22, 23, 24, 25, 26, 27, 28, 29, 30, 31, 32, 33, 34, 35, 36, 37, 38, 39, 40, 41, 42, 43, 44, 45, 46, 47, 48, 49, 50, 51, 52, 53, 54, 55, 56, 57, 58, 59, 60, 61, 62, 63, 64, 65, 66, 67, 68, 80, 81, 82, 83, 84, 85, 86, 87, 88, 89, 90, 91, 92, 93, 94] (by decide +kernel) (by decide +kernel)
set_option maxRecDepth 20000 in
theorem gX1_blow_X1_spread : GoodIn wsX1_blow (wsV RX1 28 RX1 yX1_spread wsX1_spread) := goodIn_app (goodIn_of _ (by decide +kernel)) ggX1_blow_X1_spread
set_option maxRecDepth 20000 in
theorem ggX1_blow_X3_passDay : GoodIn wsX1_blow wsX3_passDay := goodIn_r _ [72, 73, 24, 49, 74, 75, 27, 76, 77, 78, 79, 29, 30, 31, 16, 32, 33, 83, 84, 85, 86, 87, 88, 89, 90, 91, 92, 93, 94] (by decide +kernel) (by decide +kernel)
set_option maxRecDepth 20000 in
theorem gX1_blow_X3_passDay : GoodIn wsX1_blow (wsV RX1 32 RX3 yX3_passDay wsX3_passDay) := goodIn_app (goodIn_of _ (by decide +kernel)) ggX1_blow_X3_passDay
theorem dX1_blow_0 : decode cX1_blow 0 = .ok (.iconst 0, 1) := by decide +kernel
theorem dX1_blow_1 : decode cX1_blow 1 = .ok (.istore 4, 2) := by decide +kernel
theorem dX1_blow_3 : decode cX1_blow 3 = .ok (.iload 4, 2) := by decide +kernel
theorem dX1_blow_5 : decode cX1_blow 5 = .ok (.bipush 64, 2) := by decide +kernel
theorem dX1_blow_7 : decode cX1_blow 7 = .ok (.if_icmp .ge 17, 3) := by decide +kernel
theorem dX1_blow_10 : decode cX1_blow 10 = .ok (.aload_n 0, 1) := by decide +kernel
theorem dX1_blow_11 : decode cX1_blow 11 = .ok (.getfield 9, 3) := by decide +kernel
theorem dX1_blow_14 : decode cX1_blow 14 = .ok (.iload 4, 2) := by decide +kernel
theorem dX1_blow_16 : decode cX1_blow 16 = .ok (.lconst 0, 1) := by decide +kernel
theorem dX1_blow_17 : decode cX1_blow 17 = .ok (.lastore, 1) := by decide +kernel
theorem dX1_blow_18 : decode cX1_blow 18 = .ok (.iinc 4 1, 3) := by decide +kernel
theorem dX1_blow_21 : decode cX1_blow 21 = .ok (.goto (-18), 3) := by decide +kernel
theorem dX1_blow_24 : decode cX1_blow 24 = .ok (.aload_n 0, 1) := by decide +kernel
theorem dX1_blow_25 : decode cX1_blow 25 = .ok (.getfield 9, 3) := by decide +kernel
theorem dX1_blow_28 : decode cX1_blow 28 = .ok (.aload_n 1, 1) := by decide +kernel
theorem dX1_blow_29 : decode cX1_blow 29 = .ok (.getfield 18, 3) := by decide +kernel
theorem dX1_blow_32 : decode cX1_blow 32 = .ok (.lconst 1, 1) := by decide +kernel
theorem dX1_blow_33 : decode cX1_blow 33 = .ok (.lastore, 1) := by decide +kernel
theorem dX1_blow_34 : decode cX1_blow 34 = .ok (.aload_n 0, 1) := by decide +kernel
theorem dX1_blow_35 : decode cX1_blow 35 = .ok (.lconst 1, 1) := by decide +kernel
theorem dX1_blow_36 : decode cX1_blow 36 = .ok (.putfield 24, 3) := by decide +kernel
theorem dX1_blow_39 : decode cX1_blow 39 = .ok (.iconst 0, 1) := by decide +kernel
theorem dX1_blow_40 : decode cX1_blow 40 = .ok (.istore 4, 2) := by decide +kernel
theorem dX1_blow_42 : decode cX1_blow 42 = .ok (.iload 4, 2) := by decide +kernel
theorem dX1_blow_44 : decode cX1_blow 44 = .ok (.iload_n 2, 1) := by decide +kernel
theorem dX1_blow_45 : decode cX1_blow 45 = .ok (.if_icmp .ge 30, 3) := by decide +kernel
theorem dX1_blow_48 : decode cX1_blow 48 = .ok (.aload_n 0, 1) := by decide +kernel
theorem dX1_blow_49 : decode cX1_blow 49 = .ok (.aload_n 1, 1) := by decide +kernel
theorem dX1_blow_50 : decode cX1_blow 50 = .ok (.iload_n 3, 1) := by decide +kernel
theorem dX1_blow_51 : decode cX1_blow 51 = .ok (.invokevirtual 28, 3) := by decide +kernel
theorem dX1_blow_54 : decode cX1_blow 54 = .ok (.aload_n 0, 1) := by decide +kernel
theorem dX1_blow_55 : decode cX1_blow 55 = .ok (.dup, 1) := by decide +kernel
theorem dX1_blow_56 : decode cX1_blow 56 = .ok (.getfield 24, 3) := by decide +kernel
theorem dX1_blow_59 : decode cX1_blow 59 = .ok (.iload_n 3, 1) := by decide +kernel
theorem dX1_blow_60 : decode cX1_blow 60 = .ok (.i2l, 1) := by decide +kernel
theorem dX1_blow_61 : decode cX1_blow 61 = .ok (.lmul, 1) := by decide +kernel
theorem dX1_blow_62 : decode cX1_blow 62 = .ok (.putfield 24, 3) := by decide +kernel
theorem dX1_blow_65 : decode cX1_blow 65 = .ok (.aload_n 1, 1) := by decide +kernel
theorem dX1_blow_66 : decode cX1_blow 66 = .ok (.invokevirtual 32, 3) := by decide +kernel
theorem dX1_blow_69 : decode cX1_blow 69 = .ok (.iinc 4 1, 3) := by decide +kernel
theorem dX1_blow_72 : decode cX1_blow 72 = .ok (.goto (-30), 3) := by decide +kernel
theorem dX1_blow_75 : decode cX1_blow 75 = .ok (.return_, 1) := by decide +kernel
set_option maxRecDepth 20000 in
theorem ggX1_spread_X3_points : GoodIn wsX1_spread wsX3_points := goodIn_r _ [11, 12, 13, 14, 10, 15, 16, 17, 18, 19, 20, 21, 22, 23, 24, 25, 26, 27, 28, 29, 30, 31, 32, 33, 34, 35, 36, 37, 38, 39, 40, 41, 42, 43, 44, 45, 46, 47, 48, 49, 50, 51, 52, 53, 66, 67, 68, 69, 70, 71, 72, 73, 74, 75, 76, 77] (by decide +kernel) (by decide +kernel)
set_option maxRecDepth 20000 in
theorem gX1_spread_X3_points : GoodIn wsX1_spread (wsV RX1 35 RX3 yX3_points wsX3_points) := goodIn_app (goodIn_of _ (by decide +kernel)) ggX1_spread_X3_points
set_option maxRecDepth 20000 in
theorem ggX1_spread_X3_cellOn : GoodIn wsX1_spread wsX3_cellOn := goodIn_r _ [57, 34, 58, 59, 60, 61, 62, 66, 67, 68, 69, 70, 71, 72, 73, 74, 75, 76, 77] (by decide +kernel) (by decide +kernel)
set_option maxRecDepth 20000 in
theorem gX1_spread_X3_cellOn : GoodIn wsX1_spread (wsV RX1 39 RX3 yX3_cellOn wsX3_cellOn) := goodIn_app (goodIn_of _ (by decide +kernel)) ggX1_spread_X3_cellOn
theorem dX1_spread_0 : decode cX1_spread 0 = .ok (.iconst 0, 1) := by decide +kernel
theorem dX1_spread_1 : decode cX1_spread 1 = .ok (.istore_n 3, 1) := by decide +kernel
theorem dX1_spread_2 : decode cX1_spread 2 = .ok (.iload_n 3, 1) := by decide +kernel
theorem dX1_spread_3 : decode cX1_spread 3 = .ok (.bipush 64, 2) := by decide +kernel
theorem dX1_spread_5 : decode cX1_spread 5 = .ok (.if_icmp .ge 16, 3) := by decide +kernel
theorem dX1_spread_8 : decode cX1_spread 8 = .ok (.aload_n 0, 1) := by decide +kernel
theorem dX1_spread_9 : decode cX1_spread 9 = .ok (.getfield 15, 3) := by decide +kernel
theorem dX1_spread_12 : decode cX1_spread 12 = .ok (.iload_n 3, 1) := by decide +kernel
theorem dX1_spread_13 : decode cX1_spread 13 = .ok (.lconst 0, 1) := by decide +kernel
theorem dX1_spread_14 : decode cX1_spread 14 = .ok (.lastore, 1) := by decide +kernel
theorem dX1_spread_15 : decode cX1_spread 15 = .ok (.iinc 3 1, 3) := by decide +kernel
theorem dX1_spread_18 : decode cX1_spread 18 = .ok (.goto (-16), 3) := by decide +kernel
theorem dX1_spread_21 : decode cX1_spread 21 = .ok (.iconst 0, 1) := by decide +kernel
theorem dX1_spread_22 : decode cX1_spread 22 = .ok (.istore_n 3, 1) := by decide +kernel
theorem dX1_spread_23 : decode cX1_spread 23 = .ok (.iload_n 3, 1) := by decide +kernel
theorem dX1_spread_24 : decode cX1_spread 24 = .ok (.bipush 64, 2) := by decide +kernel
theorem dX1_spread_26 : decode cX1_spread 26 = .ok (.if_icmp .ge 67, 3) := by decide +kernel
theorem dX1_spread_29 : decode cX1_spread 29 = .ok (.aload_n 0, 1) := by decide +kernel
theorem dX1_spread_30 : decode cX1_spread 30 = .ok (.getfield 9, 3) := by decide +kernel
theorem dX1_spread_33 : decode cX1_spread 33 = .ok (.iload_n 3, 1) := by decide +kernel
theorem dX1_spread_34 : decode cX1_spread 34 = .ok (.laload, 1) := by decide +kernel
theorem dX1_spread_35 : decode cX1_spread 35 = .ok (.lconst 0, 1) := by decide +kernel
theorem dX1_spread_36 : decode cX1_spread 36 = .ok (.lcmp, 1) := by decide +kernel
theorem dX1_spread_37 : decode cX1_spread 37 = .ok (.ifCond .eq 50, 3) := by decide +kernel
theorem dX1_spread_40 : decode cX1_spread 40 = .ok (.aload_n 1, 1) := by decide +kernel
theorem dX1_spread_41 : decode cX1_spread 41 = .ok (.iload_n 3, 1) := by decide +kernel
theorem dX1_spread_42 : decode cX1_spread 42 = .ok (.putfield 18, 3) := by decide +kernel
theorem dX1_spread_45 : decode cX1_spread 45 = .ok (.aload_n 0, 1) := by decide +kernel
theorem dX1_spread_46 : decode cX1_spread 46 = .ok (.getfield 15, 3) := by decide +kernel
theorem dX1_spread_49 : decode cX1_spread 49 = .ok (.iload_n 3, 1) := by decide +kernel
theorem dX1_spread_50 : decode cX1_spread 50 = .ok (.dup2, 1) := by decide +kernel
theorem dX1_spread_51 : decode cX1_spread 51 = .ok (.laload, 1) := by decide +kernel
theorem dX1_spread_52 : decode cX1_spread 52 = .ok (.aload_n 0, 1) := by decide +kernel
theorem dX1_spread_53 : decode cX1_spread 53 = .ok (.getfield 9, 3) := by decide +kernel
theorem dX1_spread_56 : decode cX1_spread 56 = .ok (.iload_n 3, 1) := by decide +kernel
theorem dX1_spread_57 : decode cX1_spread 57 = .ok (.laload, 1) := by decide +kernel
theorem dX1_spread_58 : decode cX1_spread 58 = .ok (.ladd, 1) := by decide +kernel
theorem dX1_spread_59 : decode cX1_spread 59 = .ok (.lastore, 1) := by decide +kernel
theorem dX1_spread_60 : decode cX1_spread 60 = .ok (.aload_n 0, 1) := by decide +kernel
theorem dX1_spread_61 : decode cX1_spread 61 = .ok (.getfield 15, 3) := by decide +kernel
theorem dX1_spread_64 : decode cX1_spread 64 = .ok (.aload_n 1, 1) := by decide +kernel
theorem dX1_spread_65 : decode cX1_spread 65 = .ok (.aload_n 1, 1) := by decide +kernel
theorem dX1_spread_66 : decode cX1_spread 66 = .ok (.invokevirtual 35, 3) := by decide +kernel
theorem dX1_spread_69 : decode cX1_spread 69 = .ok (.invokevirtual 39, 3) := by decide +kernel
theorem dX1_spread_72 : decode cX1_spread 72 = .ok (.dup2, 1) := by decide +kernel
theorem dX1_spread_73 : decode cX1_spread 73 = .ok (.laload, 1) := by decide +kernel
theorem dX1_spread_74 : decode cX1_spread 74 = .ok (.aload_n 0, 1) := by decide +kernel
theorem dX1_spread_75 : decode cX1_spread 75 = .ok (.getfield 9, 3) := by decide +kernel
theorem dX1_spread_78 : decode cX1_spread 78 = .ok (.iload_n 3, 1) := by decide +kernel
theorem dX1_spread_79 : decode cX1_spread 79 = .ok (.laload, 1) := by decide +kernel
theorem dX1_spread_80 : decode cX1_spread 80 = .ok (.iload_n 2, 1) := by decide +kernel
theorem dX1_spread_81 : decode cX1_spread 81 = .ok (.iconst 1, 1) := by decide +kernel
theorem dX1_spread_82 : decode cX1_spread 82 = .ok (.isub, 1) := by decide +kernel
theorem dX1_spread_83 : decode cX1_spread 83 = .ok (.i2l, 1) := by decide +kernel
theorem dX1_spread_84 : decode cX1_spread 84 = .ok (.lmul, 1) := by decide +kernel
theorem dX1_spread_85 : decode cX1_spread 85 = .ok (.ladd, 1) := by decide +kernel
theorem dX1_spread_86 : decode cX1_spread 86 = .ok (.lastore, 1) := by decide +kernel
theorem dX1_spread_87 : decode cX1_spread 87 = .ok (.iinc 3 1, 3) := by decide +kernel
theorem dX1_spread_90 : decode cX1_spread 90 = .ok (.goto (-67), 3) := by decide +kernel
theorem dX1_spread_93 : decode cX1_spread 93 = .ok (.aload_n 0, 1) := by decide +kernel
theorem dX1_spread_94 : decode cX1_spread 94 = .ok (.getfield 15, 3) := by decide +kernel
theorem dX1_spread_97 : decode cX1_spread 97 = .ok (.iconst 0, 1) := by decide +kernel
theorem dX1_spread_98 : decode cX1_spread 98 = .ok (.aload_n 0, 1) := by decide +kernel
theorem dX1_spread_99 : decode cX1_spread 99 = .ok (.getfield 9, 3) := by decide +kernel
theorem dX1_spread_102 : decode cX1_spread 102 = .ok (.iconst 0, 1) := by decide +kernel
theorem dX1_spread_103 : decode cX1_spread 103 = .ok (.bipush 64, 2) := by decide +kernel
theorem dX1_spread_105 : decode cX1_spread 105 = .ok (.invokestatic 43, 3) := by decide +kernel
theorem dX1_spread_108 : decode cX1_spread 108 = .ok (.return_, 1) := by decide +kernel
theorem dX2_init_0 : decode cX2_init 0 = .ok (.aload_n 0, 1) := by decide +kernel
theorem dX2_init_1 : decode cX2_init 1 = .ok (.invokespecial 3, 3) := by decide +kernel
theorem dX2_init_4 : decode cX2_init 4 = .ok (.aload_n 0, 1) := by decide +kernel
theorem dX2_init_5 : decode cX2_init 5 = .ok (.bipush 96, 2) := by decide +kernel
theorem dX2_init_7 : decode cX2_init 7 = .ok (.newarray .int, 2) := by decide +kernel
theorem dX2_init_9 : decode cX2_init 9 = .ok (.putfield 9, 3) := by decide +kernel
theorem dX2_init_12 : decode cX2_init 12 = .ok (.return_, 1) := by decide +kernel
theorem dX2_take_0 : decode cX2_take 0 = .ok (.aload_n 0, 1) := by decide +kernel
theorem dX2_take_1 : decode cX2_take 1 = .ok (.getfield 15, 3) := by decide +kernel
theorem dX2_take_4 : decode cX2_take 4 = .ok (.bipush 96, 2) := by decide +kernel
theorem dX2_take_6 : decode cX2_take 6 = .ok (.if_icmp .ge 23, 3) := by decide +kernel
theorem dX2_take_9 : decode cX2_take 9 = .ok (.aload_n 0, 1) := by decide +kernel
theorem dX2_take_10 : decode cX2_take 10 = .ok (.getfield 9, 3) := by decide +kernel
theorem dX2_take_13 : decode cX2_take 13 = .ok (.aload_n 0, 1) := by decide +kernel
theorem dX2_take_14 : decode cX2_take 14 = .ok (.getfield 15, 3) := by decide +kernel
theorem dX2_take_17 : decode cX2_take 17 = .ok (.iload_n 1, 1) := by decide +kernel
theorem dX2_take_18 : decode cX2_take 18 = .ok (.iastore, 1) := by decide +kernel
theorem dX2_take_19 : decode cX2_take 19 = .ok (.aload_n 0, 1) := by decide +kernel
theorem dX2_take_20 : decode cX2_take 20 = .ok (.dup, 1) := by decide +kernel
theorem dX2_take_21 : decode cX2_take 21 = .ok (.getfield 15, 3) := by decide +kernel
theorem dX2_take_24 : decode cX2_take 24 = .ok (.iconst 1, 1) := by decide +kernel
theorem dX2_take_25 : decode cX2_take 25 = .ok (.iadd, 1) := by decide +kernel
theorem dX2_take_26 : decode cX2_take 26 = .ok (.putfield 15, 3) := by decide +kernel
theorem dX2_take_29 : decode cX2_take 29 = .ok (.return_, 1) := by decide +kernel
theorem dX2_signAt_0 : decode cX2_signAt 0 = .ok (.iload_n 1, 1) := by decide +kernel
theorem dX2_signAt_1 : decode cX2_signAt 1 = .ok (.ifCond .lt 20, 3) := by decide +kernel
theorem dX2_signAt_4 : decode cX2_signAt 4 = .ok (.iload_n 1, 1) := by decide +kernel
theorem dX2_signAt_5 : decode cX2_signAt 5 = .ok (.aload_n 0, 1) := by decide +kernel
theorem dX2_signAt_6 : decode cX2_signAt 6 = .ok (.getfield 15, 3) := by decide +kernel
theorem dX2_signAt_9 : decode cX2_signAt 9 = .ok (.if_icmp .ge 12, 3) := by decide +kernel
theorem dX2_signAt_12 : decode cX2_signAt 12 = .ok (.aload_n 0, 1) := by decide +kernel
theorem dX2_signAt_13 : decode cX2_signAt 13 = .ok (.getfield 9, 3) := by decide +kernel
theorem dX2_signAt_16 : decode cX2_signAt 16 = .ok (.iload_n 1, 1) := by decide +kernel
theorem dX2_signAt_17 : decode cX2_signAt 17 = .ok (.iaload, 1) := by decide +kernel
theorem dX2_signAt_18 : decode cX2_signAt 18 = .ok (.goto 4, 3) := by decide +kernel
theorem dX2_signAt_21 : decode cX2_signAt 21 = .ok (.iconst 0, 1) := by decide +kernel
theorem dX2_signAt_22 : decode cX2_signAt 22 = .ok (.ireturn, 1) := by decide +kernel
set_option maxRecDepth 20000 in
theorem ggX2_digitAt_X2_signAt : GoodIn wsX2_digitAt wsX2_signAt := goodIn_r _ [5, 6, 7, 8, 9] (by decide +kernel) (by decide +kernel)
set_option maxRecDepth 20000 in
theorem gX2_digitAt_X2_signAt : GoodIn wsX2_digitAt (wsV RX2 19 RX2 yX2_signAt wsX2_signAt) := goodIn_app (goodIn_of _ (by decide +kernel)) ggX2_digitAt_X2_signAt
theorem dX2_digitAt_0 : decode cX2_digitAt 0 = .ok (.aload_n 0, 1) := by decide +kernel
theorem dX2_digitAt_1 : decode cX2_digitAt 1 = .ok (.iload_n 1, 1) := by decide +kernel
theorem dX2_digitAt_2 : decode cX2_digitAt 2 = .ok (.invokevirtual 19, 3) := by decide +kernel
theorem dX2_digitAt_5 : decode cX2_digitAt 5 = .ok (.bipush 48, 2) := by decide +kernel
theorem dX2_digitAt_7 : decode cX2_digitAt 7 = .ok (.isub, 1) := by decide +kernel
theorem dX2_digitAt_8 : decode cX2_digitAt 8 = .ok (.ireturn, 1) := by decide +kernel
set_option maxRecDepth 20000 in
theorem ggX2_twoDigitsAt_X2_digitAt : GoodIn wsX2_twoDigitsAt wsX2_digitAt := goodIn_r _ [5, 6, 7, 8, 4, 9, 10, 11, 12, 13] (by decide +kernel) (by decide +kernel)
set_option maxRecDepth 20000 in
theorem gX2_twoDigitsAt_X2_digitAt : GoodIn wsX2_twoDigitsAt (wsV RX2 23 RX2 yX2_digitAt wsX2_digitAt) := goodIn_app (goodIn_of _ (by decide +kernel)) ggX2_twoDigitsAt_X2_digitAt
theorem dX2_twoDigitsAt_0 : decode cX2_twoDigitsAt 0 = .ok (.bipush 10, 2) := by decide +kernel
theorem dX2_twoDigitsAt_2 : decode cX2_twoDigitsAt 2 = .ok (.aload_n 0, 1) := by decide +kernel
theorem dX2_twoDigitsAt_3 : decode cX2_twoDigitsAt 3 = .ok (.iload_n 1, 1) := by decide +kernel
theorem dX2_twoDigitsAt_4 : decode cX2_twoDigitsAt 4 = .ok (.invokevirtual 23, 3) := by decide +kernel
theorem dX2_twoDigitsAt_7 : decode cX2_twoDigitsAt 7 = .ok (.imul, 1) := by decide +kernel
theorem dX2_twoDigitsAt_8 : decode cX2_twoDigitsAt 8 = .ok (.aload_n 0, 1) := by decide +kernel
theorem dX2_twoDigitsAt_9 : decode cX2_twoDigitsAt 9 = .ok (.iload_n 1, 1) := by decide +kernel
theorem dX2_twoDigitsAt_10 : decode cX2_twoDigitsAt 10 = .ok (.iconst 1, 1) := by decide +kernel
theorem dX2_twoDigitsAt_11 : decode cX2_twoDigitsAt 11 = .ok (.iadd, 1) := by decide +kernel
theorem dX2_twoDigitsAt_12 : decode cX2_twoDigitsAt 12 = .ok (.invokevirtual 23, 3) := by decide +kernel
theorem dX2_twoDigitsAt_15 : decode cX2_twoDigitsAt 15 = .ok (.iadd, 1) := by decide +kernel
theorem dX2_twoDigitsAt_16 : decode cX2_twoDigitsAt 16 = .ok (.ireturn, 1) := by decide +kernel
theorem dX2_bodyOf_0 : decode cX2_bodyOf 0 = .ok (.iload_n 0, 1) := by decide +kernel
theorem dX2_bodyOf_1 : decode cX2_bodyOf 1 = .ok (.tableswitch 97 97 115 #[91, 97, 97, 93, 97, 97, 97, 95, 97, 97, 97, 91, 93, 97, 97, 93, 97, 97, 93], 91) := by decide +kernel
theorem dX2_bodyOf_92 : decode cX2_bodyOf 92 = .ok (.iconst 1, 1) := by decide +kernel
theorem dX2_bodyOf_93 : decode cX2_bodyOf 93 = .ok (.ireturn, 1) := by decide +kernel
theorem dX2_bodyOf_94 : decode cX2_bodyOf 94 = .ok (.iconst 2, 1) := by decide +kernel
theorem dX2_bodyOf_95 : decode cX2_bodyOf 95 = .ok (.ireturn, 1) := by decide +kernel
theorem dX2_bodyOf_96 : decode cX2_bodyOf 96 = .ok (.iconst 3, 1) := by decide +kernel
theorem dX2_bodyOf_97 : decode cX2_bodyOf 97 = .ok (.ireturn, 1) := by decide +kernel
theorem dX2_bodyOf_98 : decode cX2_bodyOf 98 = .ok (.iconst 0, 1) := by decide +kernel
theorem dX2_bodyOf_99 : decode cX2_bodyOf 99 = .ok (.ireturn, 1) := by decide +kernel
set_option maxRecDepth 20000 in
theorem ggX2_lengthOfStatement_X2_signAt : GoodIn wsX2_lengthOfStatement wsX2_signAt := goodIn_r _ [5, 6, 7, 11, 12] (by decide +kernel) (by decide +kernel)
set_option maxRecDepth 20000 in
theorem gX2_lengthOfStatement_X2_signAt : GoodIn wsX2_lengthOfStatement (wsV RX2 19 RX2 yX2_signAt wsX2_signAt) := goodIn_app (goodIn_of _ (by decide +kernel)) ggX2_lengthOfStatement_X2_signAt
set_option maxRecDepth 20000 in
theorem ggX2_lengthOfStatement_X2_bodyOf : GoodIn wsX2_lengthOfStatement wsX2_bodyOf := goodIn_r _ [10] (by decide +kernel) (by decide +kernel)
set_option maxRecDepth 20000 in
theorem gX2_lengthOfStatement_X2_bodyOf : GoodIn wsX2_lengthOfStatement (va_wsS RX2 26 yX2_bodyOf wsX2_bodyOf) := goodIn_app (goodIn_of _ (by decide +kernel)) ggX2_lengthOfStatement_X2_bodyOf
theorem dX2_lengthOfStatement_0 : decode cX2_lengthOfStatement 0 = .ok (.aload_n 0, 1) := by decide +kernel
theorem dX2_lengthOfStatement_1 : decode cX2_lengthOfStatement 1 = .ok (.iload_n 1, 1) := by decide +kernel
theorem dX2_lengthOfStatement_2 : decode cX2_lengthOfStatement 2 = .ok (.invokevirtual 19, 3) := by decide +kernel
theorem dX2_lengthOfStatement_5 : decode cX2_lengthOfStatement 5 = .ok (.invokestatic 26, 3) := by decide +kernel
theorem dX2_lengthOfStatement_8 : decode cX2_lengthOfStatement 8 = .ok (.iconst 2, 1) := by decide +kernel
theorem dX2_lengthOfStatement_9 : decode cX2_lengthOfStatement 9 = .ok (.iadd, 1) := by decide +kernel
theorem dX2_lengthOfStatement_10 : decode cX2_lengthOfStatement 10 = .ok (.ireturn, 1) := by decide +kernel
set_option maxRecDepth 20000 in
theorem ggX2_fitsBody_X4_kindOf : GoodIn wsX2_fitsBody wsX4_kindOf := goodIn_r _ [3, 4, 5, 6, 7, 8, 9, 10, 11, 12, 13, 14, 15, 16, 17, 18, 19, 20, 21, 22, 23, 24, 25, 26, 27, 28, 29, 30, 31, 32, 33, 34, 35, 36, 37, 38, 39, 40, 41, 42, 43, 44, 45, 46, 47, 48, 49, 50, 51, 52, 53, 54, 55, 56, 57, 58, 59, 60, 61, 62, 63, 64, 65, 66, 67, 68, 69, 70, 71, 72, 73, 74, 75, 76, 77, 78, 79, 80, 81, 82, 83, 84, 85, 86, 87, 88, 89, 90, 91, 92] (by decide +kernel) (by decide +kernel)
set_option maxRecDepth 20000 in
theorem gX2_fitsBody_X4_kindOf_n29 : GoodIn wsX2_fitsBody (wsX4_kindOf) := ggX2_fitsBody_X4_kindOf
theorem dX2_fitsBody_0 : decode cX2_fitsBody 0 = .ok (.iload_n 0, 1) := by decide +kernel
theorem dX2_fitsBody_1 : decode cX2_fitsBody 1 = .ok (.bipush 104, 2) := by decide +kernel
theorem dX2_fitsBody_3 : decode cX2_fitsBody 3 = .ok (.if_icmp .ne 21, 3) := by decide +kernel
theorem dX2_fitsBody_6 : decode cX2_fitsBody 6 = .ok (.iload_n 1, 1) := by decide +kernel
theorem dX2_fitsBody_7 : decode cX2_fitsBody 7 = .ok (.iconst 1, 1) := by decide +kernel
theorem dX2_fitsBody_8 : decode cX2_fitsBody 8 = .ok (.if_icmp .ne 16, 3) := by decide +kernel
theorem dX2_fitsBody_11 : decode cX2_fitsBody 11 = .ok (.iload_n 2, 1) := by decide +kernel
theorem dX2_fitsBody_12 : decode cX2_fitsBody 12 = .ok (.invokestatic 29, 3) := by decide +kernel
theorem dX2_fitsBody_15 : decode cX2_fitsBody 15 = .ok (.ifCond .lt 7, 3) := by decide +kernel
theorem dX2_fitsBody_18 : decode cX2_fitsBody 18 = .ok (.iconst 1, 1) := by decide +kernel
theorem dX2_fitsBody_19 : decode cX2_fitsBody 19 = .ok (.goto 4, 3) := by decide +kernel
theorem dX2_fitsBody_22 : decode cX2_fitsBody 22 = .ok (.iconst 0, 1) := by decide +kernel
theorem dX2_fitsBody_23 : decode cX2_fitsBody 23 = .ok (.ireturn, 1) := by decide +kernel
theorem dX2_fitsBody_24 : decode cX2_fitsBody 24 = .ok (.iload_n 2, 1) := by decide +kernel
theorem dX2_fitsBody_25 : decode cX2_fitsBody 25 = .ok (.bipush 48, 2) := by decide +kernel
theorem dX2_fitsBody_27 : decode cX2_fitsBody 27 = .ok (.if_icmp .lt 13, 3) := by decide +kernel
theorem dX2_fitsBody_30 : decode cX2_fitsBody 30 = .ok (.iload_n 2, 1) := by decide +kernel
theorem dX2_fitsBody_31 : decode cX2_fitsBody 31 = .ok (.bipush 57, 2) := by decide +kernel
theorem dX2_fitsBody_33 : decode cX2_fitsBody 33 = .ok (.if_icmp .gt 7, 3) := by decide +kernel
theorem dX2_fitsBody_36 : decode cX2_fitsBody 36 = .ok (.iconst 1, 1) := by decide +kernel
theorem dX2_fitsBody_37 : decode cX2_fitsBody 37 = .ok (.goto 4, 3) := by decide +kernel
theorem dX2_fitsBody_40 : decode cX2_fitsBody 40 = .ok (.iconst 0, 1) := by decide +kernel
theorem dX2_fitsBody_41 : decode cX2_fitsBody 41 = .ok (.ireturn, 1) := by decide +kernel
set_option maxRecDepth 20000 in
theorem ggX2_firstMisfit_X2_bodyOf : GoodIn wsX2_firstMisfit wsX2_bodyOf := goodIn_r _ [6] (by decide +kernel) (by decide +kernel)
set_option maxRecDepth 20000 in
theorem gX2_firstMisfit_X2_bodyOf : GoodIn wsX2_firstMisfit (va_wsS RX2 26 yX2_bodyOf wsX2_bodyOf) := goodIn_app (goodIn_of _ (by decide +kernel)) ggX2_firstMisfit_X2_bodyOf
set_option maxRecDepth 20000 in
theorem ggX2_firstMisfit_X2_fitsBody : GoodIn wsX2_firstMisfit wsX2_fitsBody := goodIn_r _ [9, 10, 11, 12, 13, 14, 15, 16, 17, 18, 19, 20, 21, 22, 23, 24, 25, 26, 27, 28, 29, 30, 31, 32, 33, 34, 35, 36, 37, 38, 39, 40, 41, 42, 43, 44, 45, 46, 47, 48, 49, 50, 51, 52, 53, 54, 55, 56, 57, 58, 59, 60, 61, 62, 63, 64, 65, 66, 67, 68, 69, 70, 71, 72, 73, 74, 75, 76, 77, 78, 79, 80, 81, 82, 83, 84, 85, 86, 87, 88, 89, 90, 91, 92, 93, 94, 95, 96, 97, 98, 99, 100, 101] (by decide +kernel) (by decide +kernel)
set_option maxRecDepth 20000 in
theorem gX2_firstMisfit_X2_fitsBody : GoodIn wsX2_firstMisfit (va_wsS RX2 32 yX2_fitsBody wsX2_fitsBody) := goodIn_app (goodIn_of _ (by decide +kernel)) ggX2_firstMisfit_X2_fitsBody
theorem dX2_firstMisfit_0 : decode cX2_firstMisfit 0 = .ok (.iconst 0, 1) := by decide +kernel
theorem dX2_firstMisfit_1 : decode cX2_firstMisfit 1 = .ok (.istore_n 1, 1) := by decide +kernel
theorem dX2_firstMisfit_2 : decode cX2_firstMisfit 2 = .ok (.iconst 0, 1) := by decide +kernel
theorem dX2_firstMisfit_3 : decode cX2_firstMisfit 3 = .ok (.istore_n 2, 1) := by decide +kernel
theorem dX2_firstMisfit_4 : decode cX2_firstMisfit 4 = .ok (.iconst 0, 1) := by decide +kernel
theorem dX2_firstMisfit_5 : decode cX2_firstMisfit 5 = .ok (.istore_n 3, 1) := by decide +kernel
theorem dX2_firstMisfit_6 : decode cX2_firstMisfit 6 = .ok (.iload_n 3, 1) := by decide +kernel
theorem dX2_firstMisfit_7 : decode cX2_firstMisfit 7 = .ok (.aload_n 0, 1) := by decide +kernel
theorem dX2_firstMisfit_8 : decode cX2_firstMisfit 8 = .ok (.getfield 15, 3) := by decide +kernel
theorem dX2_firstMisfit_11 : decode cX2_firstMisfit 11 = .ok (.if_icmp .ge 75, 3) := by decide +kernel
theorem dX2_firstMisfit_14 : decode cX2_firstMisfit 14 = .ok (.aload_n 0, 1) := by decide +kernel
theorem dX2_firstMisfit_15 : decode cX2_firstMisfit 15 = .ok (.getfield 9, 3) := by decide +kernel
theorem dX2_firstMisfit_18 : decode cX2_firstMisfit 18 = .ok (.iload_n 3, 1) := by decide +kernel
theorem dX2_firstMisfit_19 : decode cX2_firstMisfit 19 = .ok (.iaload, 1) := by decide +kernel
theorem dX2_firstMisfit_20 : decode cX2_firstMisfit 20 = .ok (.istore 4, 2) := by decide +kernel
theorem dX2_firstMisfit_22 : decode cX2_firstMisfit 22 = .ok (.iload_n 2, 1) := by decide +kernel
theorem dX2_firstMisfit_23 : decode cX2_firstMisfit 23 = .ok (.ifCond .ne 17, 3) := by decide +kernel
theorem dX2_firstMisfit_26 : decode cX2_firstMisfit 26 = .ok (.iload 4, 2) := by decide +kernel
theorem dX2_firstMisfit_28 : decode cX2_firstMisfit 28 = .ok (.istore_n 1, 1) := by decide +kernel
theorem dX2_firstMisfit_29 : decode cX2_firstMisfit 29 = .ok (.iconst 1, 1) := by decide +kernel
theorem dX2_firstMisfit_30 : decode cX2_firstMisfit 30 = .ok (.istore_n 2, 1) := by decide +kernel
theorem dX2_firstMisfit_31 : decode cX2_firstMisfit 31 = .ok (.iload_n 1, 1) := by decide +kernel
theorem dX2_firstMisfit_32 : decode cX2_firstMisfit 32 = .ok (.invokestatic 26, 3) := by decide +kernel
theorem dX2_firstMisfit_35 : decode cX2_firstMisfit 35 = .ok (.ifCond .ne 45, 3) := by decide +kernel
theorem dX2_firstMisfit_38 : decode cX2_firstMisfit 38 = .ok (.iload_n 3, 1) := by decide +kernel
theorem dX2_firstMisfit_39 : decode cX2_firstMisfit 39 = .ok (.ireturn, 1) := by decide +kernel
theorem dX2_firstMisfit_40 : decode cX2_firstMisfit 40 = .ok (.iload_n 2, 1) := by decide +kernel
theorem dX2_firstMisfit_41 : decode cX2_firstMisfit 41 = .ok (.iload_n 1, 1) := by decide +kernel
theorem dX2_firstMisfit_42 : decode cX2_firstMisfit 42 = .ok (.invokestatic 26, 3) := by decide +kernel
theorem dX2_firstMisfit_45 : decode cX2_firstMisfit 45 = .ok (.if_icmp .gt 21, 3) := by decide +kernel
theorem dX2_firstMisfit_48 : decode cX2_firstMisfit 48 = .ok (.iload_n 1, 1) := by decide +kernel
theorem dX2_firstMisfit_49 : decode cX2_firstMisfit 49 = .ok (.iload_n 2, 1) := by decide +kernel
theorem dX2_firstMisfit_50 : decode cX2_firstMisfit 50 = .ok (.iload 4, 2) := by decide +kernel
theorem dX2_firstMisfit_52 : decode cX2_firstMisfit 52 = .ok (.invokestatic 32, 3) := by decide +kernel
theorem dX2_firstMisfit_55 : decode cX2_firstMisfit 55 = .ok (.ifCond .ne 5, 3) := by decide +kernel
theorem dX2_firstMisfit_58 : decode cX2_firstMisfit 58 = .ok (.iload_n 3, 1) := by decide +kernel
theorem dX2_firstMisfit_59 : decode cX2_firstMisfit 59 = .ok (.ireturn, 1) := by decide +kernel
theorem dX2_firstMisfit_60 : decode cX2_firstMisfit 60 = .ok (.iinc 2 1, 3) := by decide +kernel
theorem dX2_firstMisfit_63 : decode cX2_firstMisfit 63 = .ok (.goto 17, 3) := by decide +kernel
theorem dX2_firstMisfit_66 : decode cX2_firstMisfit 66 = .ok (.iload 4, 2) := by decide +kernel
theorem dX2_firstMisfit_68 : decode cX2_firstMisfit 68 = .ok (.bipush 59, 2) := by decide +kernel
theorem dX2_firstMisfit_70 : decode cX2_firstMisfit 70 = .ok (.if_icmp .ne 8, 3) := by decide +kernel
theorem dX2_firstMisfit_73 : decode cX2_firstMisfit 73 = .ok (.iconst 0, 1) := by decide +kernel
theorem dX2_firstMisfit_74 : decode cX2_firstMisfit 74 = .ok (.istore_n 2, 1) := by decide +kernel
theorem dX2_firstMisfit_75 : decode cX2_firstMisfit 75 = .ok (.goto 5, 3) := by decide +kernel
theorem dX2_firstMisfit_78 : decode cX2_firstMisfit 78 = .ok (.iload_n 3, 1) := by decide +kernel
theorem dX2_firstMisfit_79 : decode cX2_firstMisfit 79 = .ok (.ireturn, 1) := by decide +kernel
theorem dX2_firstMisfit_80 : decode cX2_firstMisfit 80 = .ok (.iinc 3 1, 3) := by decide +kernel
theorem dX2_firstMisfit_83 : decode cX2_firstMisfit 83 = .ok (.goto (-77), 3) := by decide +kernel
theorem dX2_firstMisfit_86 : decode cX2_firstMisfit 86 = .ok (.aload_n 0, 1) := by decide +kernel
theorem dX2_firstMisfit_87 : decode cX2_firstMisfit 87 = .ok (.getfield 15, 3) := by decide +kernel
theorem dX2_firstMisfit_90 : decode cX2_firstMisfit 90 = .ok (.ifCond .le 12, 3) := by decide +kernel
theorem dX2_firstMisfit_93 : decode cX2_firstMisfit 93 = .ok (.iload_n 2, 1) := by decide +kernel
theorem dX2_firstMisfit_94 : decode cX2_firstMisfit 94 = .ok (.ifCond .ne 8, 3) := by decide +kernel
theorem dX2_firstMisfit_97 : decode cX2_firstMisfit 97 = .ok (.bipush (-9), 2) := by decide +kernel
theorem dX2_firstMisfit_99 : decode cX2_firstMisfit 99 = .ok (.goto 7, 3) := by decide +kernel
theorem dX2_firstMisfit_102 : decode cX2_firstMisfit 102 = .ok (.aload_n 0, 1) := by decide +kernel
theorem dX2_firstMisfit_103 : decode cX2_firstMisfit 103 = .ok (.getfield 15, 3) := by decide +kernel
theorem dX2_firstMisfit_106 : decode cX2_firstMisfit 106 = .ok (.ireturn, 1) := by decide +kernel
theorem dX3_init_0 : decode cX3_init 0 = .ok (.aload_n 0, 1) := by decide +kernel
theorem dX3_init_1 : decode cX3_init 1 = .ok (.invokespecial 3, 3) := by decide +kernel
theorem dX3_init_4 : decode cX3_init 4 = .ok (.aload_n 0, 1) := by decide +kernel
theorem dX3_init_5 : decode cX3_init 5 = .ok (.bipush 6, 2) := by decide +kernel
theorem dX3_init_7 : decode cX3_init 7 = .ok (.newarray .int, 2) := by decide +kernel
theorem dX3_init_9 : decode cX3_init 9 = .ok (.putfield 9, 3) := by decide +kernel
theorem dX3_init_12 : decode cX3_init 12 = .ok (.aload_n 0, 1) := by decide +kernel
theorem dX3_init_13 : decode cX3_init 13 = .ok (.bipush 7, 2) := by decide +kernel
theorem dX3_init_15 : decode cX3_init 15 = .ok (.newarray .int, 2) := by decide +kernel
theorem dX3_init_17 : decode cX3_init 17 = .ok (.putfield 15, 3) := by decide +kernel
theorem dX3_init_20 : decode cX3_init 20 = .ok (.aload_n 0, 1) := by decide +kernel
theorem dX3_init_21 : decode cX3_init 21 = .ok (.bipush 7, 2) := by decide +kernel
theorem dX3_init_23 : decode cX3_init 23 = .ok (.newarray .int, 2) := by decide +kernel
theorem dX3_init_25 : decode cX3_init 25 = .ok (.putfield 18, 3) := by decide +kernel
theorem dX3_init_28 : decode cX3_init 28 = .ok (.aload_n 0, 1) := by decide +kernel
theorem dX3_init_29 : decode cX3_init 29 = .ok (.bipush 7, 2) := by decide +kernel
theorem dX3_init_31 : decode cX3_init 31 = .ok (.newarray .int, 2) := by decide +kernel
theorem dX3_init_33 : decode cX3_init 33 = .ok (.putfield 21, 3) := by decide +kernel
theorem dX3_init_36 : decode cX3_init 36 = .ok (.aload_n 0, 1) := by decide +kernel
theorem dX3_init_37 : decode cX3_init 37 = .ok (.bipush 7, 2) := by decide +kernel
theorem dX3_init_39 : decode cX3_init 39 = .ok (.newarray .int, 2) := by decide +kernel
theorem dX3_init_41 : decode cX3_init 41 = .ok (.putfield 24, 3) := by decide +kernel
theorem dX3_init_44 : decode cX3_init 44 = .ok (.return_, 1) := by decide +kernel
theorem dX3_becomeLike_0 : decode cX3_becomeLike 0 = .ok (.aload_n 0, 1) := by decide +kernel
theorem dX3_becomeLike_1 : decode cX3_becomeLike 1 = .ok (.aload_n 1, 1) := by decide +kernel
theorem dX3_becomeLike_2 : decode cX3_becomeLike 2 = .ok (.getfield 27, 3) := by decide +kernel
theorem dX3_becomeLike_5 : decode cX3_becomeLike 5 = .ok (.putfield 27, 3) := by decide +kernel
theorem dX3_becomeLike_8 : decode cX3_becomeLike 8 = .ok (.aload_n 0, 1) := by decide +kernel
theorem dX3_becomeLike_9 : decode cX3_becomeLike 9 = .ok (.aload_n 1, 1) := by decide +kernel
theorem dX3_becomeLike_10 : decode cX3_becomeLike 10 = .ok (.getfield 31, 3) := by decide +kernel
theorem dX3_becomeLike_13 : decode cX3_becomeLike 13 = .ok (.putfield 31, 3) := by decide +kernel
theorem dX3_becomeLike_16 : decode cX3_becomeLike 16 = .ok (.aload_n 0, 1) := by decide +kernel
theorem dX3_becomeLike_17 : decode cX3_becomeLike 17 = .ok (.aload_n 1, 1) := by decide +kernel
theorem dX3_becomeLike_18 : decode cX3_becomeLike 18 = .ok (.getfield 34, 3) := by decide +kernel
theorem dX3_becomeLike_21 : decode cX3_becomeLike 21 = .ok (.putfield 34, 3) := by decide +kernel
theorem dX3_becomeLike_24 : decode cX3_becomeLike 24 = .ok (.aload_n 0, 1) := by decide +kernel
theorem dX3_becomeLike_25 : decode cX3_becomeLike 25 = .ok (.aload_n 1, 1) := by decide +kernel
theorem dX3_becomeLike_26 : decode cX3_becomeLike 26 = .ok (.getfield 37, 3) := by decide +kernel
theorem dX3_becomeLike_29 : decode cX3_becomeLike 29 = .ok (.putfield 37, 3) := by decide +kernel
theorem dX3_becomeLike_32 : decode cX3_becomeLike 32 = .ok (.aload_n 0, 1) := by decide +kernel
theorem dX3_becomeLike_33 : decode cX3_becomeLike 33 = .ok (.aload_n 1, 1) := by decide +kernel
theorem dX3_becomeLike_34 : decode cX3_becomeLike 34 = .ok (.getfield 40, 3) := by decide +kernel
theorem dX3_becomeLike_37 : decode cX3_becomeLike 37 = .ok (.putfield 40, 3) := by decide +kernel
theorem dX3_becomeLike_40 : decode cX3_becomeLike 40 = .ok (.aload_n 1, 1) := by decide +kernel
theorem dX3_becomeLike_41 : decode cX3_becomeLike 41 = .ok (.getfield 9, 3) := by decide +kernel
theorem dX3_becomeLike_44 : decode cX3_becomeLike 44 = .ok (.iconst 0, 1) := by decide +kernel
theorem dX3_becomeLike_45 : decode cX3_becomeLike 45 = .ok (.aload_n 0, 1) := by decide +kernel
theorem dX3_becomeLike_46 : decode cX3_becomeLike 46 = .ok (.getfield 9, 3) := by decide +kernel
theorem dX3_becomeLike_49 : decode cX3_becomeLike 49 = .ok (.iconst 0, 1) := by decide +kernel
theorem dX3_becomeLike_50 : decode cX3_becomeLike 50 = .ok (.bipush 6, 2) := by decide +kernel
theorem dX3_becomeLike_52 : decode cX3_becomeLike 52 = .ok (.invokestatic 43, 3) := by decide +kernel
theorem dX3_becomeLike_55 : decode cX3_becomeLike 55 = .ok (.aload_n 1, 1) := by decide +kernel
theorem dX3_becomeLike_56 : decode cX3_becomeLike 56 = .ok (.getfield 15, 3) := by decide +kernel
theorem dX3_becomeLike_59 : decode cX3_becomeLike 59 = .ok (.iconst 0, 1) := by decide +kernel
theorem dX3_becomeLike_60 : decode cX3_becomeLike 60 = .ok (.aload_n 0, 1) := by decide +kernel
theorem dX3_becomeLike_61 : decode cX3_becomeLike 61 = .ok (.getfield 15, 3) := by decide +kernel
theorem dX3_becomeLike_64 : decode cX3_becomeLike 64 = .ok (.iconst 0, 1) := by decide +kernel
theorem dX3_becomeLike_65 : decode cX3_becomeLike 65 = .ok (.bipush 7, 2) := by decide +kernel
theorem dX3_becomeLike_67 : decode cX3_becomeLike 67 = .ok (.invokestatic 43, 3) := by decide +kernel
theorem dX3_becomeLike_70 : decode cX3_becomeLike 70 = .ok (.aload_n 1, 1) := by decide +kernel
theorem dX3_becomeLike_71 : decode cX3_becomeLike 71 = .ok (.getfield 18, 3) := by decide +kernel
theorem dX3_becomeLike_74 : decode cX3_becomeLike 74 = .ok (.iconst 0, 1) := by decide +kernel
theorem dX3_becomeLike_75 : decode cX3_becomeLike 75 = .ok (.aload_n 0, 1) := by decide +kernel
theorem dX3_becomeLike_76 : decode cX3_becomeLike 76 = .ok (.getfield 18, 3) := by decide +kernel
theorem dX3_becomeLike_79 : decode cX3_becomeLike 79 = .ok (.iconst 0, 1) := by decide +kernel
theorem dX3_becomeLike_80 : decode cX3_becomeLike 80 = .ok (.bipush 7, 2) := by decide +kernel
theorem dX3_becomeLike_82 : decode cX3_becomeLike 82 = .ok (.invokestatic 43, 3) := by decide +kernel
theorem dX3_becomeLike_85 : decode cX3_becomeLike 85 = .ok (.aload_n 1, 1) := by decide +kernel
theorem dX3_becomeLike_86 : decode cX3_becomeLike 86 = .ok (.getfield 21, 3) := by decide +kernel
theorem dX3_becomeLike_89 : decode cX3_becomeLike 89 = .ok (.iconst 0, 1) := by decide +kernel
theorem dX3_becomeLike_90 : decode cX3_becomeLike 90 = .ok (.aload_n 0, 1) := by decide +kernel
theorem dX3_becomeLike_91 : decode cX3_becomeLike 91 = .ok (.getfield 21, 3) := by decide +kernel
theorem dX3_becomeLike_94 : decode cX3_becomeLike 94 = .ok (.iconst 0, 1) := by decide +kernel
theorem dX3_becomeLike_95 : decode cX3_becomeLike 95 = .ok (.bipush 7, 2) := by decide +kernel
theorem dX3_becomeLike_97 : decode cX3_becomeLike 97 = .ok (.invokestatic 43, 3) := by decide +kernel
theorem dX3_becomeLike_100 : decode cX3_becomeLike 100 = .ok (.aload_n 1, 1) := by decide +kernel
theorem dX3_becomeLike_101 : decode cX3_becomeLike 101 = .ok (.getfield 24, 3) := by decide +kernel
theorem dX3_becomeLike_104 : decode cX3_becomeLike 104 = .ok (.iconst 0, 1) := by decide +kernel
theorem dX3_becomeLike_105 : decode cX3_becomeLike 105 = .ok (.aload_n 0, 1) := by decide +kernel
theorem dX3_becomeLike_106 : decode cX3_becomeLike 106 = .ok (.getfield 24, 3) := by decide +kernel
theorem dX3_becomeLike_109 : decode cX3_becomeLike 109 = .ok (.iconst 0, 1) := by decide +kernel
theorem dX3_becomeLike_110 : decode cX3_becomeLike 110 = .ok (.bipush 7, 2) := by decide +kernel
theorem dX3_becomeLike_112 : decode cX3_becomeLike 112 = .ok (.invokestatic 43, 3) := by decide +kernel
theorem dX3_becomeLike_115 : decode cX3_becomeLike 115 = .ok (.return_, 1) := by decide +kernel
theorem dX3_addPlace_0 : decode cX3_addPlace 0 = .ok (.aload_n 0, 1) := by decide +kernel
theorem dX3_addPlace_1 : decode cX3_addPlace 1 = .ok (.getfield 27, 3) := by decide +kernel
theorem dX3_addPlace_4 : decode cX3_addPlace 4 = .ok (.bipush 6, 2) := by decide +kernel
theorem dX3_addPlace_6 : decode cX3_addPlace 6 = .ok (.if_icmp .ge 13, 3) := by decide +kernel
theorem dX3_addPlace_9 : decode cX3_addPlace 9 = .ok (.iload_n 1, 1) := by decide +kernel
theorem dX3_addPlace_10 : decode cX3_addPlace 10 = .ok (.ifCond .lt 9, 3) := by decide +kernel
theorem dX3_addPlace_13 : decode cX3_addPlace 13 = .ok (.iload_n 1, 1) := by decide +kernel
theorem dX3_addPlace_14 : decode cX3_addPlace 14 = .ok (.bipush 64, 2) := by decide +kernel
theorem dX3_addPlace_16 : decode cX3_addPlace 16 = .ok (.if_icmp .lt 5, 3) := by decide +kernel
theorem dX3_addPlace_19 : decode cX3_addPlace 19 = .ok (.iconst 0, 1) := by decide +kernel
theorem dX3_addPlace_20 : decode cX3_addPlace 20 = .ok (.ireturn, 1) := by decide +kernel
theorem dX3_addPlace_21 : decode cX3_addPlace 21 = .ok (.aload_n 0, 1) := by decide +kernel
theorem dX3_addPlace_22 : decode cX3_addPlace 22 = .ok (.getfield 9, 3) := by decide +kernel
theorem dX3_addPlace_25 : decode cX3_addPlace 25 = .ok (.aload_n 0, 1) := by decide +kernel
theorem dX3_addPlace_26 : decode cX3_addPlace 26 = .ok (.getfield 27, 3) := by decide +kernel
theorem dX3_addPlace_29 : decode cX3_addPlace 29 = .ok (.iload_n 1, 1) := by decide +kernel
theorem dX3_addPlace_30 : decode cX3_addPlace 30 = .ok (.iastore, 1) := by decide +kernel
theorem dX3_addPlace_31 : decode cX3_addPlace 31 = .ok (.aload_n 0, 1) := by decide +kernel
theorem dX3_addPlace_32 : decode cX3_addPlace 32 = .ok (.dup, 1) := by decide +kernel
theorem dX3_addPlace_33 : decode cX3_addPlace 33 = .ok (.getfield 27, 3) := by decide +kernel
theorem dX3_addPlace_36 : decode cX3_addPlace 36 = .ok (.iconst 1, 1) := by decide +kernel
theorem dX3_addPlace_37 : decode cX3_addPlace 37 = .ok (.iadd, 1) := by decide +kernel
theorem dX3_addPlace_38 : decode cX3_addPlace 38 = .ok (.putfield 27, 3) := by decide +kernel
theorem dX3_addPlace_41 : decode cX3_addPlace 41 = .ok (.iconst 1, 1) := by decide +kernel
theorem dX3_addPlace_42 : decode cX3_addPlace 42 = .ok (.ireturn, 1) := by decide +kernel
theorem dX3_addHand_0 : decode cX3_addHand 0 = .ok (.aload_n 0, 1) := by decide +kernel
theorem dX3_addHand_1 : decode cX3_addHand 1 = .ok (.getfield 31, 3) := by decide +kernel
theorem dX3_addHand_4 : decode cX3_addHand 4 = .ok (.bipush 7, 2) := by decide +kernel
theorem dX3_addHand_6 : decode cX3_addHand 6 = .ok (.if_icmp .ge 15, 3) := by decide +kernel
theorem dX3_addHand_9 : decode cX3_addHand 9 = .ok (.iload_n 3, 1) := by decide +kernel
theorem dX3_addHand_10 : decode cX3_addHand 10 = .ok (.ifCond .lt 11, 3) := by decide +kernel
theorem dX3_addHand_13 : decode cX3_addHand 13 = .ok (.iload_n 3, 1) := by decide +kernel
theorem dX3_addHand_14 : decode cX3_addHand 14 = .ok (.aload_n 0, 1) := by decide +kernel
theorem dX3_addHand_15 : decode cX3_addHand 15 = .ok (.getfield 27, 3) := by decide +kernel
theorem dX3_addHand_18 : decode cX3_addHand 18 = .ok (.if_icmp .lt 5, 3) := by decide +kernel
theorem dX3_addHand_21 : decode cX3_addHand 21 = .ok (.iconst 0, 1) := by decide +kernel
theorem dX3_addHand_22 : decode cX3_addHand 22 = .ok (.ireturn, 1) := by decide +kernel
theorem dX3_addHand_23 : decode cX3_addHand 23 = .ok (.aload_n 0, 1) := by decide +kernel
theorem dX3_addHand_24 : decode cX3_addHand 24 = .ok (.getfield 15, 3) := by decide +kernel
theorem dX3_addHand_27 : decode cX3_addHand 27 = .ok (.aload_n 0, 1) := by decide +kernel
theorem dX3_addHand_28 : decode cX3_addHand 28 = .ok (.getfield 31, 3) := by decide +kernel
theorem dX3_addHand_31 : decode cX3_addHand 31 = .ok (.iload_n 1, 1) := by decide +kernel
theorem dX3_addHand_32 : decode cX3_addHand 32 = .ok (.iastore, 1) := by decide +kernel
theorem dX3_addHand_33 : decode cX3_addHand 33 = .ok (.aload_n 0, 1) := by decide +kernel
theorem dX3_addHand_34 : decode cX3_addHand 34 = .ok (.getfield 18, 3) := by decide +kernel
theorem dX3_addHand_37 : decode cX3_addHand 37 = .ok (.aload_n 0, 1) := by decide +kernel
theorem dX3_addHand_38 : decode cX3_addHand 38 = .ok (.getfield 31, 3) := by decide +kernel
theorem dX3_addHand_41 : decode cX3_addHand 41 = .ok (.iload_n 2, 1) := by decide +kernel
theorem dX3_addHand_42 : decode cX3_addHand 42 = .ok (.iastore, 1) := by decide +kernel
theorem dX3_addHand_43 : decode cX3_addHand 43 = .ok (.aload_n 0, 1) := by decide +kernel
theorem dX3_addHand_44 : decode cX3_addHand 44 = .ok (.getfield 21, 3) := by decide +kernel
theorem dX3_addHand_47 : decode cX3_addHand 47 = .ok (.aload_n 0, 1) := by decide +kernel
theorem dX3_addHand_48 : decode cX3_addHand 48 = .ok (.getfield 31, 3) := by decide +kernel
theorem dX3_addHand_51 : decode cX3_addHand 51 = .ok (.iload_n 3, 1) := by decide +kernel
theorem dX3_addHand_52 : decode cX3_addHand 52 = .ok (.iastore, 1) := by decide +kernel
theorem dX3_addHand_53 : decode cX3_addHand 53 = .ok (.aload_n 0, 1) := by decide +kernel
theorem dX3_addHand_54 : decode cX3_addHand 54 = .ok (.getfield 24, 3) := by decide +kernel
theorem dX3_addHand_57 : decode cX3_addHand 57 = .ok (.aload_n 0, 1) := by decide +kernel
theorem dX3_addHand_58 : decode cX3_addHand 58 = .ok (.getfield 31, 3) := by decide +kernel
theorem dX3_addHand_61 : decode cX3_addHand 61 = .ok (.iconst 0, 1) := by decide +kernel
theorem dX3_addHand_62 : decode cX3_addHand 62 = .ok (.iastore, 1) := by decide +kernel
theorem dX3_addHand_63 : decode cX3_addHand 63 = .ok (.aload_n 0, 1) := by decide +kernel
theorem dX3_addHand_64 : decode cX3_addHand 64 = .ok (.dup, 1) := by decide +kernel
theorem dX3_addHand_65 : decode cX3_addHand 65 = .ok (.getfield 34, 3) := by decide +kernel
theorem dX3_addHand_68 : decode cX3_addHand 68 = .ok (.iconst 1, 1) := by decide +kernel
theorem dX3_addHand_69 : decode cX3_addHand 69 = .ok (.aload_n 0, 1) := by decide +kernel
theorem dX3_addHand_70 : decode cX3_addHand 70 = .ok (.getfield 31, 3) := by decide +kernel
theorem dX3_addHand_73 : decode cX3_addHand 73 = .ok (.ishl, 1) := by decide +kernel
theorem dX3_addHand_74 : decode cX3_addHand 74 = .ok (.ior, 1) := by decide +kernel
theorem dX3_addHand_75 : decode cX3_addHand 75 = .ok (.putfield 34, 3) := by decide +kernel
theorem dX3_addHand_78 : decode cX3_addHand 78 = .ok (.aload_n 0, 1) := by decide +kernel
theorem dX3_addHand_79 : decode cX3_addHand 79 = .ok (.dup, 1) := by decide +kernel
theorem dX3_addHand_80 : decode cX3_addHand 80 = .ok (.getfield 31, 3) := by decide +kernel
theorem dX3_addHand_83 : decode cX3_addHand 83 = .ok (.iconst 1, 1) := by decide +kernel
theorem dX3_addHand_84 : decode cX3_addHand 84 = .ok (.iadd, 1) := by decide +kernel
theorem dX3_addHand_85 : decode cX3_addHand 85 = .ok (.putfield 31, 3) := by decide +kernel
theorem dX3_addHand_88 : decode cX3_addHand 88 = .ok (.iconst 1, 1) := by decide +kernel
theorem dX3_addHand_89 : decode cX3_addHand 89 = .ok (.ireturn, 1) := by decide +kernel
theorem dX3_isAboard_0 : decode cX3_isAboard 0 = .ok (.aload_n 0, 1) := by decide +kernel
theorem dX3_isAboard_1 : decode cX3_isAboard 1 = .ok (.getfield 34, 3) := by decide +kernel
theorem dX3_isAboard_4 : decode cX3_isAboard 4 = .ok (.iload_n 1, 1) := by decide +kernel
theorem dX3_isAboard_5 : decode cX3_isAboard 5 = .ok (.ishr, 1) := by decide +kernel
theorem dX3_isAboard_6 : decode cX3_isAboard 6 = .ok (.iconst 1, 1) := by decide +kernel
theorem dX3_isAboard_7 : decode cX3_isAboard 7 = .ok (.iand, 1) := by decide +kernel
theorem dX3_isAboard_8 : decode cX3_isAboard 8 = .ok (.iconst 1, 1) := by decide +kernel
theorem dX3_isAboard_9 : decode cX3_isAboard 9 = .ok (.if_icmp .ne 7, 3) := by decide +kernel
theorem dX3_isAboard_12 : decode cX3_isAboard 12 = .ok (.iconst 1, 1) := by decide +kernel
theorem dX3_isAboard_13 : decode cX3_isAboard 13 = .ok (.goto 4, 3) := by decide +kernel
theorem dX3_isAboard_16 : decode cX3_isAboard 16 = .ok (.iconst 0, 1) := by decide +kernel
theorem dX3_isAboard_17 : decode cX3_isAboard 17 = .ok (.ireturn, 1) := by decide +kernel
theorem dX3_changeSide_0 : decode cX3_changeSide 0 = .ok (.aload_n 0, 1) := by decide +kernel
theorem dX3_changeSide_1 : decode cX3_changeSide 1 = .ok (.dup, 1) := by decide +kernel
theorem dX3_changeSide_2 : decode cX3_changeSide 2 = .ok (.getfield 34, 3) := by decide +kernel
theorem dX3_changeSide_5 : decode cX3_changeSide 5 = .ok (.iconst 1, 1) := by decide +kernel
theorem dX3_changeSide_6 : decode cX3_changeSide 6 = .ok (.iload_n 1, 1) := by decide +kernel
theorem dX3_changeSide_7 : decode cX3_changeSide 7 = .ok (.ishl, 1) := by decide +kernel
theorem dX3_changeSide_8 : decode cX3_changeSide 8 = .ok (.ixor, 1) := by decide +kernel
theorem dX3_changeSide_9 : decode cX3_changeSide 9 = .ok (.putfield 34, 3) := by decide +kernel
theorem dX3_changeSide_12 : decode cX3_changeSide 12 = .ok (.return_, 1) := by decide +kernel
theorem dX3_leaveAshore_0 : decode cX3_leaveAshore 0 = .ok (.aload_n 0, 1) := by decide +kernel
theorem dX3_leaveAshore_1 : decode cX3_leaveAshore 1 = .ok (.dup, 1) := by decide +kernel
theorem dX3_leaveAshore_2 : decode cX3_leaveAshore 2 = .ok (.getfield 34, 3) := by decide +kernel
theorem dX3_leaveAshore_5 : decode cX3_leaveAshore 5 = .ok (.iconst 1, 1) := by decide +kernel
theorem dX3_leaveAshore_6 : decode cX3_leaveAshore 6 = .ok (.iload_n 1, 1) := by decide +kernel
theorem dX3_leaveAshore_7 : decode cX3_leaveAshore 7 = .ok (.ishl, 1) := by decide +kernel
theorem dX3_leaveAshore_8 : decode cX3_leaveAshore 8 = .ok (.iconst (-1), 1) := by decide +kernel
theorem dX3_leaveAshore_9 : decode cX3_leaveAshore 9 = .ok (.ixor, 1) := by decide +kernel
theorem dX3_leaveAshore_10 : decode cX3_leaveAshore 10 = .ok (.iand, 1) := by decide +kernel
theorem dX3_leaveAshore_11 : decode cX3_leaveAshore 11 = .ok (.putfield 34, 3) := by decide +kernel
theorem dX3_leaveAshore_14 : decode cX3_leaveAshore 14 = .ok (.return_, 1) := by decide +kernel
theorem dX3_dropLetter_0 : decode cX3_dropLetter 0 = .ok (.aload_n 0, 1) := by decide +kernel
theorem dX3_dropLetter_1 : decode cX3_dropLetter 1 = .ok (.getfield 24, 3) := by decide +kernel
theorem dX3_dropLetter_4 : decode cX3_dropLetter 4 = .ok (.iload_n 1, 1) := by decide +kernel
theorem dX3_dropLetter_5 : decode cX3_dropLetter 5 = .ok (.aload_n 0, 1) := by decide +kernel
theorem dX3_dropLetter_6 : decode cX3_dropLetter 6 = .ok (.getfield 24, 3) := by decide +kernel
theorem dX3_dropLetter_9 : decode cX3_dropLetter 9 = .ok (.iload_n 1, 1) := by decide +kernel
theorem dX3_dropLetter_10 : decode cX3_dropLetter 10 = .ok (.iaload, 1) := by decide +kernel
theorem dX3_dropLetter_11 : decode cX3_dropLetter 11 = .ok (.iconst 2, 1) := by decide +kernel
theorem dX3_dropLetter_12 : decode cX3_dropLetter 12 = .ok (.idiv, 1) := by decide +kernel
theorem dX3_dropLetter_13 : decode cX3_dropLetter 13 = .ok (.iastore, 1) := by decide +kernel
theorem dX3_dropLetter_14 : decode cX3_dropLetter 14 = .ok (.return_, 1) := by decide +kernel
set_option maxRecDepth 20000 in
theorem ggX3_dropLetters_X3_dropLetter : GoodIn wsX3_dropLetters wsX3_dropLetter := goodIn_r _ [6, 7, 8, 9, 10, 11, 12, 13, 14, 15, 16, 17, 18, 19] (by decide +kernel) (by decide +kernel)
set_option maxRecDepth 20000 in
theorem gX3_dropLetters_X3_dropLetter : GoodIn wsX3_dropLetters (wsV RX3 49 RX3 yX3_dropLetter wsX3_dropLetter) := goodIn_app (goodIn_of _ (by decide +kernel)) ggX3_dropLetters_X3_dropLetter
theorem dX3_dropLetters_0 : decode cX3_dropLetters 0 = .ok (.iconst 0, 1) := by decide +kernel
theorem dX3_dropLetters_1 : decode cX3_dropLetters 1 = .ok (.istore_n 2, 1) := by decide +kernel
theorem dX3_dropLetters_2 : decode cX3_dropLetters 2 = .ok (.iload_n 2, 1) := by decide +kernel
theorem dX3_dropLetters_3 : decode cX3_dropLetters 3 = .ok (.aload_n 0, 1) := by decide +kernel
theorem dX3_dropLetters_4 : decode cX3_dropLetters 4 = .ok (.getfield 31, 3) := by decide +kernel
theorem dX3_dropLetters_7 : decode cX3_dropLetters 7 = .ok (.if_icmp .ge 23, 3) := by decide +kernel
theorem dX3_dropLetters_10 : decode cX3_dropLetters 10 = .ok (.iload_n 1, 1) := by decide +kernel
theorem dX3_dropLetters_11 : decode cX3_dropLetters 11 = .ok (.iload_n 2, 1) := by decide +kernel
theorem dX3_dropLetters_12 : decode cX3_dropLetters 12 = .ok (.ishr, 1) := by decide +kernel
theorem dX3_dropLetters_13 : decode cX3_dropLetters 13 = .ok (.iconst 1, 1) := by decide +kernel
theorem dX3_dropLetters_14 : decode cX3_dropLetters 14 = .ok (.iand, 1) := by decide +kernel
theorem dX3_dropLetters_15 : decode cX3_dropLetters 15 = .ok (.iconst 1, 1) := by decide +kernel
theorem dX3_dropLetters_16 : decode cX3_dropLetters 16 = .ok (.if_icmp .ne 8, 3) := by decide +kernel
theorem dX3_dropLetters_19 : decode cX3_dropLetters 19 = .ok (.aload_n 0, 1) := by decide +kernel
theorem dX3_dropLetters_20 : decode cX3_dropLetters 20 = .ok (.iload_n 2, 1) := by decide +kernel
theorem dX3_dropLetters_21 : decode cX3_dropLetters 21 = .ok (.invokevirtual 49, 3) := by decide +kernel
theorem dX3_dropLetters_24 : decode cX3_dropLetters 24 = .ok (.iinc 2 1, 3) := by decide +kernel
theorem dX3_dropLetters_27 : decode cX3_dropLetters 27 = .ok (.goto (-25), 3) := by decide +kernel
theorem dX3_dropLetters_30 : decode cX3_dropLetters 30 = .ok (.return_, 1) := by decide +kernel
theorem dX3_seaOfAll_0 : decode cX3_seaOfAll 0 = .ok (.iconst 0, 1) := by decide +kernel
theorem dX3_seaOfAll_1 : decode cX3_seaOfAll 1 = .ok (.istore_n 1, 1) := by decide +kernel
theorem dX3_seaOfAll_2 : decode cX3_seaOfAll 2 = .ok (.iconst 0, 1) := by decide +kernel
theorem dX3_seaOfAll_3 : decode cX3_seaOfAll 3 = .ok (.istore_n 2, 1) := by decide +kernel
theorem dX3_seaOfAll_4 : decode cX3_seaOfAll 4 = .ok (.iload_n 2, 1) := by decide +kernel
theorem dX3_seaOfAll_5 : decode cX3_seaOfAll 5 = .ok (.aload_n 0, 1) := by decide +kernel
theorem dX3_seaOfAll_6 : decode cX3_seaOfAll 6 = .ok (.getfield 31, 3) := by decide +kernel
theorem dX3_seaOfAll_9 : decode cX3_seaOfAll 9 = .ok (.if_icmp .ge 18, 3) := by decide +kernel
theorem dX3_seaOfAll_12 : decode cX3_seaOfAll 12 = .ok (.iload_n 1, 1) := by decide +kernel
theorem dX3_seaOfAll_13 : decode cX3_seaOfAll 13 = .ok (.aload_n 0, 1) := by decide +kernel
theorem dX3_seaOfAll_14 : decode cX3_seaOfAll 14 = .ok (.getfield 24, 3) := by decide +kernel
theorem dX3_seaOfAll_17 : decode cX3_seaOfAll 17 = .ok (.iload_n 2, 1) := by decide +kernel
theorem dX3_seaOfAll_18 : decode cX3_seaOfAll 18 = .ok (.iaload, 1) := by decide +kernel
theorem dX3_seaOfAll_19 : decode cX3_seaOfAll 19 = .ok (.iadd, 1) := by decide +kernel
theorem dX3_seaOfAll_20 : decode cX3_seaOfAll 20 = .ok (.istore_n 1, 1) := by decide +kernel
theorem dX3_seaOfAll_21 : decode cX3_seaOfAll 21 = .ok (.iinc 2 1, 3) := by decide +kernel
theorem dX3_seaOfAll_24 : decode cX3_seaOfAll 24 = .ok (.goto (-20), 3) := by decide +kernel
theorem dX3_seaOfAll_27 : decode cX3_seaOfAll 27 = .ok (.iload_n 1, 1) := by decide +kernel
theorem dX3_seaOfAll_28 : decode cX3_seaOfAll 28 = .ok (.ireturn, 1) := by decide +kernel
set_option maxRecDepth 20000 in
theorem ggX3_stepsTo_X4_steps : GoodIn wsX3_stepsTo wsX4_steps := goodIn_r _ [5, 6, 7, 8, 9, 10, 11, 4, 12, 13, 14, 15] (by decide +kernel) (by decide +kernel)
set_option maxRecDepth 20000 in
theorem gX3_stepsTo_X4_steps_n53 : GoodIn wsX3_stepsTo (wsX4_steps) := ggX3_stepsTo_X4_steps
theorem dX3_stepsTo_0 : decode cX3_stepsTo 0 = .ok (.aload_n 0, 1) := by decide +kernel
theorem dX3_stepsTo_1 : decode cX3_stepsTo 1 = .ok (.getfield 37, 3) := by decide +kernel
theorem dX3_stepsTo_4 : decode cX3_stepsTo 4 = .ok (.aload_n 0, 1) := by decide +kernel
theorem dX3_stepsTo_5 : decode cX3_stepsTo 5 = .ok (.getfield 9, 3) := by decide +kernel
theorem dX3_stepsTo_8 : decode cX3_stepsTo 8 = .ok (.iload_n 1, 1) := by decide +kernel
theorem dX3_stepsTo_9 : decode cX3_stepsTo 9 = .ok (.iaload, 1) := by decide +kernel
theorem dX3_stepsTo_10 : decode cX3_stepsTo 10 = .ok (.invokestatic 53, 3) := by decide +kernel
theorem dX3_stepsTo_13 : decode cX3_stepsTo 13 = .ok (.ireturn, 1) := by decide +kernel
set_option maxRecDepth 20000 in
theorem ggX3_leanNow_X3_stepsTo : GoodIn wsX3_leanNow wsX3_stepsTo := goodIn_r _ [6, 7, 8, 9, 10, 11, 12, 13, 14, 15, 16, 17, 18, 19, 20, 21, 29, 30, 31, 32, 33, 34, 35, 36, 37, 38, 39, 40] (by decide +kernel) (by decide +kernel)
set_option maxRecDepth 20000 in
theorem gX3_leanNow_X3_stepsTo : GoodIn wsX3_leanNow (wsV RX3 57 RX3 yX3_stepsTo wsX3_stepsTo) := goodIn_app (goodIn_of _ (by decide +kernel)) ggX3_leanNow_X3_stepsTo
set_option maxRecDepth 20000 in
theorem ggX3_leanNow_X3_leanOf : GoodIn wsX3_leanNow wsX3_leanOf := goodIn_r _ [25, 26, 27, 28, 29, 30, 31, 32, 33, 34, 35, 36, 37, 38, 39, 40] (by decide +kernel) (by decide +kernel)
set_option maxRecDepth 20000 in
theorem gX3_leanNow_X3_leanOf : GoodIn wsX3_leanNow (wsV RX3 61 RX3 yX3_leanOf wsX3_leanOf) := goodIn_app (goodIn_of _ (by decide +kernel)) ggX3_leanNow_X3_leanOf
theorem dX3_leanNow_0 : decode cX3_leanNow 0 = .ok (.aload_n 0, 1) := by decide +kernel
theorem dX3_leanNow_1 : decode cX3_leanNow 1 = .ok (.iload_n 1, 1) := by decide +kernel
theorem dX3_leanNow_2 : decode cX3_leanNow 2 = .ok (.aload_n 0, 1) := by decide +kernel
theorem dX3_leanNow_3 : decode cX3_leanNow 3 = .ok (.aload_n 0, 1) := by decide +kernel
theorem dX3_leanNow_4 : decode cX3_leanNow 4 = .ok (.getfield 21, 3) := by decide +kernel
theorem dX3_leanNow_7 : decode cX3_leanNow 7 = .ok (.iload_n 1, 1) := by decide +kernel
theorem dX3_leanNow_8 : decode cX3_leanNow 8 = .ok (.iaload, 1) := by decide +kernel
theorem dX3_leanNow_9 : decode cX3_leanNow 9 = .ok (.invokevirtual 57, 3) := by decide +kernel
theorem dX3_leanNow_12 : decode cX3_leanNow 12 = .ok (.invokevirtual 61, 3) := by decide +kernel
theorem dX3_leanNow_15 : decode cX3_leanNow 15 = .ok (.ireturn, 1) := by decide +kernel
theorem dX3_leanOf_0 : decode cX3_leanOf 0 = .ok (.aload_n 0, 1) := by decide +kernel
theorem dX3_leanOf_1 : decode cX3_leanOf 1 = .ok (.getfield 24, 3) := by decide +kernel
theorem dX3_leanOf_4 : decode cX3_leanOf 4 = .ok (.iload_n 1, 1) := by decide +kernel
theorem dX3_leanOf_5 : decode cX3_leanOf 5 = .ok (.iaload, 1) := by decide +kernel
theorem dX3_leanOf_6 : decode cX3_leanOf 6 = .ok (.iconst 5, 1) := by decide +kernel
theorem dX3_leanOf_7 : decode cX3_leanOf 7 = .ok (.idiv, 1) := by decide +kernel
theorem dX3_leanOf_8 : decode cX3_leanOf 8 = .ok (.iconst 1, 1) := by decide +kernel
theorem dX3_leanOf_9 : decode cX3_leanOf 9 = .ok (.iadd, 1) := by decide +kernel
theorem dX3_leanOf_10 : decode cX3_leanOf 10 = .ok (.istore_n 3, 1) := by decide +kernel
theorem dX3_leanOf_11 : decode cX3_leanOf 11 = .ok (.aload_n 0, 1) := by decide +kernel
theorem dX3_leanOf_12 : decode cX3_leanOf 12 = .ok (.getfield 15, 3) := by decide +kernel
theorem dX3_leanOf_15 : decode cX3_leanOf 15 = .ok (.iload_n 1, 1) := by decide +kernel
theorem dX3_leanOf_16 : decode cX3_leanOf 16 = .ok (.iaload, 1) := by decide +kernel
theorem dX3_leanOf_17 : decode cX3_leanOf 17 = .ok (.tableswitch 83 0 5 #[39, 41, 45, 47, 58, 70], 39) := by decide +kernel
theorem dX3_leanOf_56 : decode cX3_leanOf 56 = .ok (.iload_n 3, 1) := by decide +kernel
theorem dX3_leanOf_57 : decode cX3_leanOf 57 = .ok (.ireturn, 1) := by decide +kernel
theorem dX3_leanOf_58 : decode cX3_leanOf 58 = .ok (.iconst 2, 1) := by decide +kernel
theorem dX3_leanOf_59 : decode cX3_leanOf 59 = .ok (.iload_n 3, 1) := by decide +kernel
theorem dX3_leanOf_60 : decode cX3_leanOf 60 = .ok (.imul, 1) := by decide +kernel
theorem dX3_leanOf_61 : decode cX3_leanOf 61 = .ok (.ireturn, 1) := by decide +kernel
theorem dX3_leanOf_62 : decode cX3_leanOf 62 = .ok (.iconst 0, 1) := by decide +kernel
theorem dX3_leanOf_63 : decode cX3_leanOf 63 = .ok (.ireturn, 1) := by decide +kernel
theorem dX3_leanOf_64 : decode cX3_leanOf 64 = .ok (.iload_n 3, 1) := by decide +kernel
theorem dX3_leanOf_65 : decode cX3_leanOf 65 = .ok (.aload_n 0, 1) := by decide +kernel
theorem dX3_leanOf_66 : decode cX3_leanOf 66 = .ok (.getfield 18, 3) := by decide +kernel
theorem dX3_leanOf_69 : decode cX3_leanOf 69 = .ok (.iload_n 1, 1) := by decide +kernel
theorem dX3_leanOf_70 : decode cX3_leanOf 70 = .ok (.iaload, 1) := by decide +kernel
theorem dX3_leanOf_71 : decode cX3_leanOf 71 = .ok (.iconst 3, 1) := by decide +kernel
theorem dX3_leanOf_72 : decode cX3_leanOf 72 = .ok (.idiv, 1) := by decide +kernel
theorem dX3_leanOf_73 : decode cX3_leanOf 73 = .ok (.iadd, 1) := by decide +kernel
theorem dX3_leanOf_74 : decode cX3_leanOf 74 = .ok (.ireturn, 1) := by decide +kernel
theorem dX3_leanOf_75 : decode cX3_leanOf 75 = .ok (.iload_n 3, 1) := by decide +kernel
theorem dX3_leanOf_76 : decode cX3_leanOf 76 = .ok (.aload_n 0, 1) := by decide +kernel
theorem dX3_leanOf_77 : decode cX3_leanOf 77 = .ok (.getfield 18, 3) := by decide +kernel
theorem dX3_leanOf_80 : decode cX3_leanOf 80 = .ok (.iload_n 1, 1) := by decide +kernel
theorem dX3_leanOf_81 : decode cX3_leanOf 81 = .ok (.iaload, 1) := by decide +kernel
theorem dX3_leanOf_82 : decode cX3_leanOf 82 = .ok (.iconst 3, 1) := by decide +kernel
theorem dX3_leanOf_83 : decode cX3_leanOf 83 = .ok (.idiv, 1) := by decide +kernel
theorem dX3_leanOf_84 : decode cX3_leanOf 84 = .ok (.iadd, 1) := by decide +kernel
theorem dX3_leanOf_85 : decode cX3_leanOf 85 = .ok (.ineg, 1) := by decide +kernel
theorem dX3_leanOf_86 : decode cX3_leanOf 86 = .ok (.ireturn, 1) := by decide +kernel
theorem dX3_leanOf_87 : decode cX3_leanOf 87 = .ok (.iload_n 2, 1) := by decide +kernel
theorem dX3_leanOf_88 : decode cX3_leanOf 88 = .ok (.iconst 4, 1) := by decide +kernel
theorem dX3_leanOf_89 : decode cX3_leanOf 89 = .ok (.if_icmp .lt 7, 3) := by decide +kernel
theorem dX3_leanOf_92 : decode cX3_leanOf 92 = .ok (.iload_n 3, 1) := by decide +kernel
theorem dX3_leanOf_93 : decode cX3_leanOf 93 = .ok (.goto 6, 3) := by decide +kernel
theorem dX3_leanOf_96 : decode cX3_leanOf 96 = .ok (.iconst 4, 1) := by decide +kernel
theorem dX3_leanOf_97 : decode cX3_leanOf 97 = .ok (.iload_n 3, 1) := by decide +kernel
theorem dX3_leanOf_98 : decode cX3_leanOf 98 = .ok (.imul, 1) := by decide +kernel
theorem dX3_leanOf_99 : decode cX3_leanOf 99 = .ok (.ireturn, 1) := by decide +kernel
theorem dX3_leanOf_100 : decode cX3_leanOf 100 = .ok (.iconst 0, 1) := by decide +kernel
theorem dX3_leanOf_101 : decode cX3_leanOf 101 = .ok (.ireturn, 1) := by decide +kernel
set_option maxRecDepth 20000 in
theorem ggX3_leansTogether_X3_isAboard : GoodIn wsX3_leansTogether wsX3_isAboard := goodIn_r _ [7, 8, 39, 40, 41, 42, 43, 44, 45, 46, 47, 48, 49, 50] (by decide +kernel) (by decide +kernel)
set_option maxRecDepth 20000 in
theorem gX3_leansTogether_X3_isAboard : GoodIn wsX3_leansTogether (wsV RX3 64 RX3 yX3_isAboard wsX3_isAboard) := goodIn_app (goodIn_of _ (by decide +kernel)) ggX3_leansTogether_X3_isAboard
set_option maxRecDepth 20000 in
theorem ggX3_leansTogether_X3_leanNow : GoodIn wsX3_leansTogether wsX3_leanNow := goodIn_r _ [12, 2, 13, 14, 15, 6, 16, 17, 18, 19, 20, 21, 22, 23, 24, 25, 26, 27, 28, 29, 30, 31, 32, 33, 34, 35, 36, 37, 38, 39, 40, 41, 42, 43, 44, 45, 46, 47, 48, 49, 50] (by decide +kernel) (by decide +kernel)
set_option maxRecDepth 20000 in
theorem gX3_leansTogether_X3_leanNow : GoodIn wsX3_leansTogether (wsV RX3 68 RX3 yX3_leanNow wsX3_leanNow) := goodIn_app (goodIn_of _ (by decide +kernel)) ggX3_leansTogether_X3_leanNow
theorem dX3_leansTogether_0 : decode cX3_leansTogether 0 = .ok (.iconst 0, 1) := by decide +kernel
theorem dX3_leansTogether_1 : decode cX3_leansTogether 1 = .ok (.istore_n 2, 1) := by decide +kernel
theorem dX3_leansTogether_2 : decode cX3_leansTogether 2 = .ok (.iconst 0, 1) := by decide +kernel
theorem dX3_leansTogether_3 : decode cX3_leansTogether 3 = .ok (.istore_n 3, 1) := by decide +kernel
theorem dX3_leansTogether_4 : decode cX3_leansTogether 4 = .ok (.iload_n 3, 1) := by decide +kernel
theorem dX3_leansTogether_5 : decode cX3_leansTogether 5 = .ok (.aload_n 0, 1) := by decide +kernel
theorem dX3_leansTogether_6 : decode cX3_leansTogether 6 = .ok (.getfield 31, 3) := by decide +kernel
theorem dX3_leansTogether_9 : decode cX3_leansTogether 9 = .ok (.if_icmp .ge 35, 3) := by decide +kernel
theorem dX3_leansTogether_12 : decode cX3_leansTogether 12 = .ok (.aload_n 0, 1) := by decide +kernel
theorem dX3_leansTogether_13 : decode cX3_leansTogether 13 = .ok (.iload_n 3, 1) := by decide +kernel
theorem dX3_leansTogether_14 : decode cX3_leansTogether 14 = .ok (.invokevirtual 64, 3) := by decide +kernel
theorem dX3_leansTogether_17 : decode cX3_leansTogether 17 = .ok (.ifCond .eq 21, 3) := by decide +kernel
theorem dX3_leansTogether_20 : decode cX3_leansTogether 20 = .ok (.aload_n 0, 1) := by decide +kernel
theorem dX3_leansTogether_21 : decode cX3_leansTogether 21 = .ok (.getfield 21, 3) := by decide +kernel
theorem dX3_leansTogether_24 : decode cX3_leansTogether 24 = .ok (.iload_n 3, 1) := by decide +kernel
theorem dX3_leansTogether_25 : decode cX3_leansTogether 25 = .ok (.iaload, 1) := by decide +kernel
theorem dX3_leansTogether_26 : decode cX3_leansTogether 26 = .ok (.iload_n 1, 1) := by decide +kernel
theorem dX3_leansTogether_27 : decode cX3_leansTogether 27 = .ok (.if_icmp .ne 11, 3) := by decide +kernel
theorem dX3_leansTogether_30 : decode cX3_leansTogether 30 = .ok (.iload_n 2, 1) := by decide +kernel
theorem dX3_leansTogether_31 : decode cX3_leansTogether 31 = .ok (.aload_n 0, 1) := by decide +kernel
theorem dX3_leansTogether_32 : decode cX3_leansTogether 32 = .ok (.iload_n 3, 1) := by decide +kernel
theorem dX3_leansTogether_33 : decode cX3_leansTogether 33 = .ok (.invokevirtual 68, 3) := by decide +kernel
theorem dX3_leansTogether_36 : decode cX3_leansTogether 36 = .ok (.iadd, 1) := by decide +kernel
theorem dX3_leansTogether_37 : decode cX3_leansTogether 37 = .ok (.istore_n 2, 1) := by decide +kernel
theorem dX3_leansTogether_38 : decode cX3_leansTogether 38 = .ok (.iinc 3 1, 3) := by decide +kernel
theorem dX3_leansTogether_41 : decode cX3_leansTogether 41 = .ok (.goto (-37), 3) := by decide +kernel
theorem dX3_leansTogether_44 : decode cX3_leansTogether 44 = .ok (.iload_n 2, 1) := by decide +kernel
theorem dX3_leansTogether_45 : decode cX3_leansTogether 45 = .ok (.ireturn, 1) := by decide +kernel
theorem dX3_rowsTo_0 : decode cX3_rowsTo 0 = .ok (.aload_n 0, 1) := by decide +kernel
theorem dX3_rowsTo_1 : decode cX3_rowsTo 1 = .ok (.getfield 9, 3) := by decide +kernel
theorem dX3_rowsTo_4 : decode cX3_rowsTo 4 = .ok (.aload_n 0, 1) := by decide +kernel
theorem dX3_rowsTo_5 : decode cX3_rowsTo 5 = .ok (.getfield 21, 3) := by decide +kernel
theorem dX3_rowsTo_8 : decode cX3_rowsTo 8 = .ok (.iload_n 1, 1) := by decide +kernel
theorem dX3_rowsTo_9 : decode cX3_rowsTo 9 = .ok (.iaload, 1) := by decide +kernel
theorem dX3_rowsTo_10 : decode cX3_rowsTo 10 = .ok (.iaload, 1) := by decide +kernel
theorem dX3_rowsTo_11 : decode cX3_rowsTo 11 = .ok (.bipush 8, 2) := by decide +kernel
theorem dX3_rowsTo_13 : decode cX3_rowsTo 13 = .ok (.idiv, 1) := by decide +kernel
theorem dX3_rowsTo_14 : decode cX3_rowsTo 14 = .ok (.aload_n 0, 1) := by decide +kernel
theorem dX3_rowsTo_15 : decode cX3_rowsTo 15 = .ok (.getfield 37, 3) := by decide +kernel
theorem dX3_rowsTo_18 : decode cX3_rowsTo 18 = .ok (.bipush 8, 2) := by decide +kernel
theorem dX3_rowsTo_20 : decode cX3_rowsTo 20 = .ok (.idiv, 1) := by decide +kernel
theorem dX3_rowsTo_21 : decode cX3_rowsTo 21 = .ok (.isub, 1) := by decide +kernel
theorem dX3_rowsTo_22 : decode cX3_rowsTo 22 = .ok (.ireturn, 1) := by decide +kernel
theorem dX3_columnsTo_0 : decode cX3_columnsTo 0 = .ok (.aload_n 0, 1) := by decide +kernel
theorem dX3_columnsTo_1 : decode cX3_columnsTo 1 = .ok (.getfield 9, 3) := by decide +kernel
theorem dX3_columnsTo_4 : decode cX3_columnsTo 4 = .ok (.aload_n 0, 1) := by decide +kernel
theorem dX3_columnsTo_5 : decode cX3_columnsTo 5 = .ok (.getfield 21, 3) := by decide +kernel
theorem dX3_columnsTo_8 : decode cX3_columnsTo 8 = .ok (.iload_n 1, 1) := by decide +kernel
theorem dX3_columnsTo_9 : decode cX3_columnsTo 9 = .ok (.iaload, 1) := by decide +kernel
theorem dX3_columnsTo_10 : decode cX3_columnsTo 10 = .ok (.iaload, 1) := by decide +kernel
theorem dX3_columnsTo_11 : decode cX3_columnsTo 11 = .ok (.bipush 8, 2) := by decide +kernel
theorem dX3_columnsTo_13 : decode cX3_columnsTo 13 = .ok (.irem, 1) := by decide +kernel
theorem dX3_columnsTo_14 : decode cX3_columnsTo 14 = .ok (.aload_n 0, 1) := by decide +kernel
theorem dX3_columnsTo_15 : decode cX3_columnsTo 15 = .ok (.getfield 37, 3) := by decide +kernel
theorem dX3_columnsTo_18 : decode cX3_columnsTo 18 = .ok (.bipush 8, 2) := by decide +kernel
theorem dX3_columnsTo_20 : decode cX3_columnsTo 20 = .ok (.irem, 1) := by decide +kernel
theorem dX3_columnsTo_21 : decode cX3_columnsTo 21 = .ok (.isub, 1) := by decide +kernel
theorem dX3_columnsTo_22 : decode cX3_columnsTo 22 = .ok (.ireturn, 1) := by decide +kernel
set_option maxRecDepth 20000 in
theorem ggX3_areOpposed_X3_rowsTo : GoodIn wsX3_areOpposed wsX3_rowsTo := goodIn_r _ [5, 6, 7, 8, 13, 14, 15, 16, 17, 18, 19, 20, 21, 22, 23, 24] (by decide +kernel) (by decide +kernel)
set_option maxRecDepth 20000 in
theorem gX3_areOpposed_X3_rowsTo : GoodIn wsX3_areOpposed (wsV RX3 71 RX3 yX3_rowsTo wsX3_rowsTo) := goodIn_app (goodIn_of _ (by decide +kernel)) ggX3_areOpposed_X3_rowsTo
set_option maxRecDepth 20000 in
theorem ggX3_areOpposed_X3_columnsTo : GoodIn wsX3_areOpposed wsX3_columnsTo := goodIn_r _ [12, 6, 7, 8, 13, 14, 15, 16, 17, 18, 19, 20, 21, 22, 23, 24] (by decide +kernel) (by decide +kernel)
set_option maxRecDepth 20000 in
theorem gX3_areOpposed_X3_columnsTo : GoodIn wsX3_areOpposed (wsV RX3 74 RX3 yX3_columnsTo wsX3_columnsTo) := goodIn_app (goodIn_of _ (by decide +kernel)) ggX3_areOpposed_X3_columnsTo
theorem dX3_areOpposed_0 : decode cX3_areOpposed 0 = .ok (.aload_n 0, 1) := by decide +kernel
theorem dX3_areOpposed_1 : decode cX3_areOpposed 1 = .ok (.iload_n 1, 1) := by decide +kernel
theorem dX3_areOpposed_2 : decode cX3_areOpposed 2 = .ok (.invokevirtual 71, 3) := by decide +kernel
theorem dX3_areOpposed_5 : decode cX3_areOpposed 5 = .ok (.aload_n 0, 1) := by decide +kernel
theorem dX3_areOpposed_6 : decode cX3_areOpposed 6 = .ok (.iload_n 2, 1) := by decide +kernel
theorem dX3_areOpposed_7 : decode cX3_areOpposed 7 = .ok (.invokevirtual 71, 3) := by decide +kernel
theorem dX3_areOpposed_10 : decode cX3_areOpposed 10 = .ok (.imul, 1) := by decide +kernel
theorem dX3_areOpposed_11 : decode cX3_areOpposed 11 = .ok (.ifCond .lt 17, 3) := by decide +kernel
theorem dX3_areOpposed_14 : decode cX3_areOpposed 14 = .ok (.aload_n 0, 1) := by decide +kernel
theorem dX3_areOpposed_15 : decode cX3_areOpposed 15 = .ok (.iload_n 1, 1) := by decide +kernel
theorem dX3_areOpposed_16 : decode cX3_areOpposed 16 = .ok (.invokevirtual 74, 3) := by decide +kernel
theorem dX3_areOpposed_19 : decode cX3_areOpposed 19 = .ok (.aload_n 0, 1) := by decide +kernel
theorem dX3_areOpposed_20 : decode cX3_areOpposed 20 = .ok (.iload_n 2, 1) := by decide +kernel
theorem dX3_areOpposed_21 : decode cX3_areOpposed 21 = .ok (.invokevirtual 74, 3) := by decide +kernel
theorem dX3_areOpposed_24 : decode cX3_areOpposed 24 = .ok (.imul, 1) := by decide +kernel
theorem dX3_areOpposed_25 : decode cX3_areOpposed 25 = .ok (.ifCond .ge 7, 3) := by decide +kernel
theorem dX3_areOpposed_28 : decode cX3_areOpposed 28 = .ok (.iconst 1, 1) := by decide +kernel
theorem dX3_areOpposed_29 : decode cX3_areOpposed 29 = .ok (.goto 4, 3) := by decide +kernel
theorem dX3_areOpposed_32 : decode cX3_areOpposed 32 = .ok (.iconst 0, 1) := by decide +kernel
theorem dX3_areOpposed_33 : decode cX3_areOpposed 33 = .ok (.ireturn, 1) := by decide +kernel
set_option maxRecDepth 20000 in
theorem ggX3_weigh_X3_isAboard : GoodIn wsX3_weigh wsX3_isAboard := goodIn_r _ [12, 13, 36, 37, 38, 39, 40, 41, 42, 43, 44, 45, 46, 47] (by decide +kernel) (by decide +kernel)
set_option maxRecDepth 20000 in
theorem gX3_weigh_X3_isAboard : GoodIn wsX3_weigh (wsV RX3 64 RX3 yX3_isAboard wsX3_isAboard) := goodIn_app (goodIn_of _ (by decide +kernel)) ggX3_weigh_X3_isAboard
set_option maxRecDepth 20000 in
theorem ggX3_weigh_X3_rowsTo : GoodIn wsX3_weigh wsX3_rowsTo := goodIn_r _ [17, 18, 19, 20, 36, 37, 38, 39, 40, 41, 42, 43, 44, 45, 46, 47] (by decide +kernel) (by decide +kernel)
set_option maxRecDepth 20000 in
theorem gX3_weigh_X3_rowsTo : GoodIn wsX3_weigh (wsV RX3 71 RX3 yX3_rowsTo wsX3_rowsTo) := goodIn_app (goodIn_of _ (by decide +kernel)) ggX3_weigh_X3_rowsTo
set_option maxRecDepth 20000 in
theorem ggX3_weigh_X3_columnsTo : GoodIn wsX3_weigh wsX3_columnsTo := goodIn_r _ [24, 18, 19, 20, 36, 37, 38, 39, 40, 41, 42, 43, 44, 45, 46, 47] (by decide +kernel) (by decide +kernel)
set_option maxRecDepth 20000 in
theorem gX3_weigh_X3_columnsTo : GoodIn wsX3_weigh (wsV RX3 74 RX3 yX3_columnsTo wsX3_columnsTo) := goodIn_app (goodIn_of _ (by decide +kernel)) ggX3_weigh_X3_columnsTo
set_option maxRecDepth 20000 in
theorem ggX3_weigh_X3_leanOf : GoodIn wsX3_weigh wsX3_leanOf := goodIn_r _ [28, 29, 30, 31, 36, 37, 38, 39, 40, 41, 42, 43, 44, 45, 46, 47] (by decide +kernel) (by decide +kernel)
set_option maxRecDepth 20000 in
theorem gX3_weigh_X3_leanOf : GoodIn wsX3_weigh (wsV RX3 61 RX3 yX3_leanOf wsX3_leanOf) := goodIn_app (goodIn_of _ (by decide +kernel)) ggX3_weigh_X3_leanOf
set_option maxRecDepth 20000 in
theorem ggX3_weigh_J6_compare_7cf53 : GoodIn wsX3_weigh wsJ6_compare_7cf53 := goodIn_r _ [35] (by decide +kernel) (by decide +kernel)
set_option maxRecDepth 20000 in
theorem gX3_weigh_J6_compare_7cf53 : GoodIn wsX3_weigh (va_wsS RX3 88 yJ6_compare_7cf53 wsJ6_compare_7cf53) := goodIn_app (goodIn_of _ (by decide +kernel)) ggX3_weigh_J6_compare_7cf53
theorem dX3_weigh_0 : decode cX3_weigh 0 = .ok (.aload_n 0, 1) := by decide +kernel
theorem dX3_weigh_1 : decode cX3_weigh 1 = .ok (.iconst 0, 1) := by decide +kernel
theorem dX3_weigh_2 : decode cX3_weigh 2 = .ok (.putfield 77, 3) := by decide +kernel
theorem dX3_weigh_5 : decode cX3_weigh 5 = .ok (.aload_n 0, 1) := by decide +kernel
theorem dX3_weigh_6 : decode cX3_weigh 6 = .ok (.iconst 0, 1) := by decide +kernel
theorem dX3_weigh_7 : decode cX3_weigh 7 = .ok (.putfield 80, 3) := by decide +kernel
theorem dX3_weigh_10 : decode cX3_weigh 10 = .ok (.iconst 0, 1) := by decide +kernel
theorem dX3_weigh_11 : decode cX3_weigh 11 = .ok (.istore_n 1, 1) := by decide +kernel
theorem dX3_weigh_12 : decode cX3_weigh 12 = .ok (.iload_n 1, 1) := by decide +kernel
theorem dX3_weigh_13 : decode cX3_weigh 13 = .ok (.aload_n 0, 1) := by decide +kernel
theorem dX3_weigh_14 : decode cX3_weigh 14 = .ok (.getfield 31, 3) := by decide +kernel
theorem dX3_weigh_17 : decode cX3_weigh 17 = .ok (.if_icmp .ge 79, 3) := by decide +kernel
theorem dX3_weigh_20 : decode cX3_weigh 20 = .ok (.aload_n 0, 1) := by decide +kernel
theorem dX3_weigh_21 : decode cX3_weigh 21 = .ok (.iload_n 1, 1) := by decide +kernel
theorem dX3_weigh_22 : decode cX3_weigh 22 = .ok (.invokevirtual 64, 3) := by decide +kernel
theorem dX3_weigh_25 : decode cX3_weigh 25 = .ok (.ifCond .eq 65, 3) := by decide +kernel
theorem dX3_weigh_28 : decode cX3_weigh 28 = .ok (.aload_n 0, 1) := by decide +kernel
theorem dX3_weigh_29 : decode cX3_weigh 29 = .ok (.iload_n 1, 1) := by decide +kernel
theorem dX3_weigh_30 : decode cX3_weigh 30 = .ok (.invokevirtual 71, 3) := by decide +kernel
theorem dX3_weigh_33 : decode cX3_weigh 33 = .ok (.istore_n 2, 1) := by decide +kernel
theorem dX3_weigh_34 : decode cX3_weigh 34 = .ok (.aload_n 0, 1) := by decide +kernel
theorem dX3_weigh_35 : decode cX3_weigh 35 = .ok (.iload_n 1, 1) := by decide +kernel
theorem dX3_weigh_36 : decode cX3_weigh 36 = .ok (.invokevirtual 74, 3) := by decide +kernel
theorem dX3_weigh_39 : decode cX3_weigh 39 = .ok (.istore_n 3, 1) := by decide +kernel
theorem dX3_weigh_40 : decode cX3_weigh 40 = .ok (.aload_n 0, 1) := by decide +kernel
theorem dX3_weigh_41 : decode cX3_weigh 41 = .ok (.iload_n 1, 1) := by decide +kernel
theorem dX3_weigh_42 : decode cX3_weigh 42 = .ok (.iload_n 2, 1) := by decide +kernel
theorem dX3_weigh_43 : decode cX3_weigh 43 = .ok (.invokestatic 83, 3) := by decide +kernel
theorem dX3_weigh_46 : decode cX3_weigh 46 = .ok (.iload_n 3, 1) := by decide +kernel
theorem dX3_weigh_47 : decode cX3_weigh 47 = .ok (.invokestatic 83, 3) := by decide +kernel
theorem dX3_weigh_50 : decode cX3_weigh 50 = .ok (.iadd, 1) := by decide +kernel
theorem dX3_weigh_51 : decode cX3_weigh 51 = .ok (.invokevirtual 61, 3) := by decide +kernel
theorem dX3_weigh_54 : decode cX3_weigh 54 = .ok (.istore 4, 2) := by decide +kernel
theorem dX3_weigh_56 : decode cX3_weigh 56 = .ok (.aload_n 0, 1) := by decide +kernel
theorem dX3_weigh_57 : decode cX3_weigh 57 = .ok (.dup, 1) := by decide +kernel
theorem dX3_weigh_58 : decode cX3_weigh 58 = .ok (.getfield 77, 3) := by decide +kernel
theorem dX3_weigh_61 : decode cX3_weigh 61 = .ok (.iload 4, 2) := by decide +kernel
theorem dX3_weigh_63 : decode cX3_weigh 63 = .ok (.iload_n 2, 1) := by decide +kernel
theorem dX3_weigh_64 : decode cX3_weigh 64 = .ok (.iconst 0, 1) := by decide +kernel
theorem dX3_weigh_65 : decode cX3_weigh 65 = .ok (.invokestatic 88, 3) := by decide +kernel
theorem dX3_weigh_68 : decode cX3_weigh 68 = .ok (.imul, 1) := by decide +kernel
theorem dX3_weigh_69 : decode cX3_weigh 69 = .ok (.iadd, 1) := by decide +kernel
theorem dX3_weigh_70 : decode cX3_weigh 70 = .ok (.putfield 77, 3) := by decide +kernel
theorem dX3_weigh_73 : decode cX3_weigh 73 = .ok (.aload_n 0, 1) := by decide +kernel
theorem dX3_weigh_74 : decode cX3_weigh 74 = .ok (.dup, 1) := by decide +kernel
theorem dX3_weigh_75 : decode cX3_weigh 75 = .ok (.getfield 80, 3) := by decide +kernel
theorem dX3_weigh_78 : decode cX3_weigh 78 = .ok (.iload 4, 2) := by decide +kernel
theorem dX3_weigh_80 : decode cX3_weigh 80 = .ok (.iload_n 3, 1) := by decide +kernel
theorem dX3_weigh_81 : decode cX3_weigh 81 = .ok (.iconst 0, 1) := by decide +kernel
theorem dX3_weigh_82 : decode cX3_weigh 82 = .ok (.invokestatic 88, 3) := by decide +kernel
theorem dX3_weigh_85 : decode cX3_weigh 85 = .ok (.imul, 1) := by decide +kernel
theorem dX3_weigh_86 : decode cX3_weigh 86 = .ok (.iadd, 1) := by decide +kernel
theorem dX3_weigh_87 : decode cX3_weigh 87 = .ok (.putfield 80, 3) := by decide +kernel
theorem dX3_weigh_90 : decode cX3_weigh 90 = .ok (.iinc 1 1, 3) := by decide +kernel
theorem dX3_weigh_93 : decode cX3_weigh 93 = .ok (.goto (-81), 3) := by decide +kernel
theorem dX3_weigh_96 : decode cX3_weigh 96 = .ok (.return_, 1) := by decide +kernel
theorem dX3_course_0 : decode cX3_course 0 = .ok (.aload_n 0, 1) := by decide +kernel
theorem dX3_course_1 : decode cX3_course 1 = .ok (.getfield 77, 3) := by decide +kernel
theorem dX3_course_4 : decode cX3_course 4 = .ok (.invokestatic 83, 3) := by decide +kernel
theorem dX3_course_7 : decode cX3_course 7 = .ok (.aload_n 0, 1) := by decide +kernel
theorem dX3_course_8 : decode cX3_course 8 = .ok (.getfield 80, 3) := by decide +kernel
theorem dX3_course_11 : decode cX3_course 11 = .ok (.invokestatic 83, 3) := by decide +kernel
theorem dX3_course_14 : decode cX3_course 14 = .ok (.if_icmp .le 16, 3) := by decide +kernel
theorem dX3_course_17 : decode cX3_course 17 = .ok (.aload_n 0, 1) := by decide +kernel
theorem dX3_course_18 : decode cX3_course 18 = .ok (.getfield 77, 3) := by decide +kernel
theorem dX3_course_21 : decode cX3_course 21 = .ok (.ifCond .ge 7, 3) := by decide +kernel
theorem dX3_course_24 : decode cX3_course 24 = .ok (.iconst 0, 1) := by decide +kernel
theorem dX3_course_25 : decode cX3_course 25 = .ok (.goto 4, 3) := by decide +kernel
theorem dX3_course_28 : decode cX3_course 28 = .ok (.iconst 2, 1) := by decide +kernel
theorem dX3_course_29 : decode cX3_course 29 = .ok (.ireturn, 1) := by decide +kernel
theorem dX3_course_30 : decode cX3_course 30 = .ok (.aload_n 0, 1) := by decide +kernel
theorem dX3_course_31 : decode cX3_course 31 = .ok (.getfield 80, 3) := by decide +kernel
theorem dX3_course_34 : decode cX3_course 34 = .ok (.ifCond .eq 16, 3) := by decide +kernel
theorem dX3_course_37 : decode cX3_course 37 = .ok (.aload_n 0, 1) := by decide +kernel
theorem dX3_course_38 : decode cX3_course 38 = .ok (.getfield 80, 3) := by decide +kernel
theorem dX3_course_41 : decode cX3_course 41 = .ok (.ifCond .le 7, 3) := by decide +kernel
theorem dX3_course_44 : decode cX3_course 44 = .ok (.iconst 1, 1) := by decide +kernel
theorem dX3_course_45 : decode cX3_course 45 = .ok (.goto 4, 3) := by decide +kernel
theorem dX3_course_48 : decode cX3_course 48 = .ok (.iconst 3, 1) := by decide +kernel
theorem dX3_course_49 : decode cX3_course 49 = .ok (.ireturn, 1) := by decide +kernel
theorem dX3_course_50 : decode cX3_course 50 = .ok (.bipush (-9), 2) := by decide +kernel
theorem dX3_course_52 : decode cX3_course 52 = .ok (.ireturn, 1) := by decide +kernel
set_option maxRecDepth 20000 in
theorem ggX3_points_X3_weigh : GoodIn wsX3_points wsX3_weigh := goodIn_r _ [5, 6, 7, 8, 9, 10, 11, 12, 13, 14, 15, 4, 16, 17, 18, 19, 20, 21, 22, 23, 24, 25, 26, 27, 28, 29, 30, 31, 32, 33, 34, 35, 36, 37, 38, 39, 44, 45, 46, 47, 48, 49, 50, 51, 52, 53, 54, 55] (by decide +kernel) (by decide +kernel)
set_option maxRecDepth 20000 in
theorem gX3_points_X3_weigh : GoodIn wsX3_points (wsV RX3 93 RX3 yX3_weigh wsX3_weigh) := goodIn_app (goodIn_of _ (by decide +kernel)) ggX3_points_X3_weigh
set_option maxRecDepth 20000 in
theorem ggX3_points_X3_course : GoodIn wsX3_points wsX3_course := goodIn_r _ [43, 6, 9, 10, 11, 12, 7, 44, 45, 46, 47, 48, 49, 50, 51, 52, 53, 54, 55] (by decide +kernel) (by decide +kernel)
set_option maxRecDepth 20000 in
theorem gX3_points_X3_course : GoodIn wsX3_points (wsV RX3 96 RX3 yX3_course wsX3_course) := goodIn_app (goodIn_of _ (by decide +kernel)) ggX3_points_X3_course
theorem dX3_points_0 : decode cX3_points 0 = .ok (.aload_n 0, 1) := by decide +kernel
theorem dX3_points_1 : decode cX3_points 1 = .ok (.invokevirtual 93, 3) := by decide +kernel
theorem dX3_points_4 : decode cX3_points 4 = .ok (.aload_n 0, 1) := by decide +kernel
theorem dX3_points_5 : decode cX3_points 5 = .ok (.invokevirtual 96, 3) := by decide +kernel
theorem dX3_points_8 : decode cX3_points 8 = .ok (.ireturn, 1) := by decide +kernel
set_option maxRecDepth 20000 in
theorem ggX3_cellOn_X4_rowOf : GoodIn wsX3_cellOn wsX4_rowOf := goodIn_r _ [4] (by decide +kernel) (by decide +kernel)
set_option maxRecDepth 20000 in
theorem gX3_cellOn_X4_rowOf_n100 : GoodIn wsX3_cellOn (wsX4_rowOf) := ggX3_cellOn_X4_rowOf
set_option maxRecDepth 20000 in
theorem ggX3_cellOn_X4_columnOf : GoodIn wsX3_cellOn wsX4_columnOf := goodIn_r _ [6] (by decide +kernel) (by decide +kernel)
set_option maxRecDepth 20000 in
theorem gX3_cellOn_X4_columnOf_n103 : GoodIn wsX3_cellOn (wsX4_columnOf) := ggX3_cellOn_X4_columnOf
theorem dX3_cellOn_0 : decode cX3_cellOn 0 = .ok (.iload_n 1, 1) := by decide +kernel
theorem dX3_cellOn_1 : decode cX3_cellOn 1 = .ok (.tableswitch 133 0 3 #[31, 56, 82, 109], 31) := by decide +kernel
theorem dX3_cellOn_32 : decode cX3_cellOn 32 = .ok (.aload_n 0, 1) := by decide +kernel
theorem dX3_cellOn_33 : decode cX3_cellOn 33 = .ok (.getfield 37, 3) := by decide +kernel
theorem dX3_cellOn_36 : decode cX3_cellOn 36 = .ok (.invokestatic 100, 3) := by decide +kernel
theorem dX3_cellOn_39 : decode cX3_cellOn 39 = .ok (.ifCond .le 13, 3) := by decide +kernel
theorem dX3_cellOn_42 : decode cX3_cellOn 42 = .ok (.aload_n 0, 1) := by decide +kernel
theorem dX3_cellOn_43 : decode cX3_cellOn 43 = .ok (.getfield 37, 3) := by decide +kernel
theorem dX3_cellOn_46 : decode cX3_cellOn 46 = .ok (.bipush 8, 2) := by decide +kernel
theorem dX3_cellOn_48 : decode cX3_cellOn 48 = .ok (.isub, 1) := by decide +kernel
theorem dX3_cellOn_49 : decode cX3_cellOn 49 = .ok (.goto 7, 3) := by decide +kernel
theorem dX3_cellOn_52 : decode cX3_cellOn 52 = .ok (.aload_n 0, 1) := by decide +kernel
theorem dX3_cellOn_53 : decode cX3_cellOn 53 = .ok (.getfield 37, 3) := by decide +kernel
theorem dX3_cellOn_56 : decode cX3_cellOn 56 = .ok (.ireturn, 1) := by decide +kernel
theorem dX3_cellOn_57 : decode cX3_cellOn 57 = .ok (.aload_n 0, 1) := by decide +kernel
theorem dX3_cellOn_58 : decode cX3_cellOn 58 = .ok (.getfield 37, 3) := by decide +kernel
theorem dX3_cellOn_61 : decode cX3_cellOn 61 = .ok (.invokestatic 103, 3) := by decide +kernel
theorem dX3_cellOn_64 : decode cX3_cellOn 64 = .ok (.bipush 7, 2) := by decide +kernel
theorem dX3_cellOn_66 : decode cX3_cellOn 66 = .ok (.if_icmp .ge 12, 3) := by decide +kernel
theorem dX3_cellOn_69 : decode cX3_cellOn 69 = .ok (.aload_n 0, 1) := by decide +kernel
theorem dX3_cellOn_70 : decode cX3_cellOn 70 = .ok (.getfield 37, 3) := by decide +kernel
theorem dX3_cellOn_73 : decode cX3_cellOn 73 = .ok (.iconst 1, 1) := by decide +kernel
theorem dX3_cellOn_74 : decode cX3_cellOn 74 = .ok (.iadd, 1) := by decide +kernel
theorem dX3_cellOn_75 : decode cX3_cellOn 75 = .ok (.goto 7, 3) := by decide +kernel
theorem dX3_cellOn_78 : decode cX3_cellOn 78 = .ok (.aload_n 0, 1) := by decide +kernel
theorem dX3_cellOn_79 : decode cX3_cellOn 79 = .ok (.getfield 37, 3) := by decide +kernel
theorem dX3_cellOn_82 : decode cX3_cellOn 82 = .ok (.ireturn, 1) := by decide +kernel
theorem dX3_cellOn_83 : decode cX3_cellOn 83 = .ok (.aload_n 0, 1) := by decide +kernel
theorem dX3_cellOn_84 : decode cX3_cellOn 84 = .ok (.getfield 37, 3) := by decide +kernel
theorem dX3_cellOn_87 : decode cX3_cellOn 87 = .ok (.invokestatic 100, 3) := by decide +kernel
theorem dX3_cellOn_90 : decode cX3_cellOn 90 = .ok (.bipush 7, 2) := by decide +kernel
theorem dX3_cellOn_92 : decode cX3_cellOn 92 = .ok (.if_icmp .ge 13, 3) := by decide +kernel
theorem dX3_cellOn_95 : decode cX3_cellOn 95 = .ok (.aload_n 0, 1) := by decide +kernel
theorem dX3_cellOn_96 : decode cX3_cellOn 96 = .ok (.getfield 37, 3) := by decide +kernel
theorem dX3_cellOn_99 : decode cX3_cellOn 99 = .ok (.bipush 8, 2) := by decide +kernel
theorem dX3_cellOn_101 : decode cX3_cellOn 101 = .ok (.iadd, 1) := by decide +kernel
theorem dX3_cellOn_102 : decode cX3_cellOn 102 = .ok (.goto 7, 3) := by decide +kernel
theorem dX3_cellOn_105 : decode cX3_cellOn 105 = .ok (.aload_n 0, 1) := by decide +kernel
theorem dX3_cellOn_106 : decode cX3_cellOn 106 = .ok (.getfield 37, 3) := by decide +kernel
theorem dX3_cellOn_109 : decode cX3_cellOn 109 = .ok (.ireturn, 1) := by decide +kernel
theorem dX3_cellOn_110 : decode cX3_cellOn 110 = .ok (.aload_n 0, 1) := by decide +kernel
theorem dX3_cellOn_111 : decode cX3_cellOn 111 = .ok (.getfield 37, 3) := by decide +kernel
theorem dX3_cellOn_114 : decode cX3_cellOn 114 = .ok (.invokestatic 103, 3) := by decide +kernel
theorem dX3_cellOn_117 : decode cX3_cellOn 117 = .ok (.ifCond .le 12, 3) := by decide +kernel
theorem dX3_cellOn_120 : decode cX3_cellOn 120 = .ok (.aload_n 0, 1) := by decide +kernel
theorem dX3_cellOn_121 : decode cX3_cellOn 121 = .ok (.getfield 37, 3) := by decide +kernel
theorem dX3_cellOn_124 : decode cX3_cellOn 124 = .ok (.iconst 1, 1) := by decide +kernel
theorem dX3_cellOn_125 : decode cX3_cellOn 125 = .ok (.isub, 1) := by decide +kernel
theorem dX3_cellOn_126 : decode cX3_cellOn 126 = .ok (.goto 7, 3) := by decide +kernel
theorem dX3_cellOn_129 : decode cX3_cellOn 129 = .ok (.aload_n 0, 1) := by decide +kernel
theorem dX3_cellOn_130 : decode cX3_cellOn 130 = .ok (.getfield 37, 3) := by decide +kernel
theorem dX3_cellOn_133 : decode cX3_cellOn 133 = .ok (.ireturn, 1) := by decide +kernel
theorem dX3_cellOn_134 : decode cX3_cellOn 134 = .ok (.aload_n 0, 1) := by decide +kernel
theorem dX3_cellOn_135 : decode cX3_cellOn 135 = .ok (.getfield 37, 3) := by decide +kernel
theorem dX3_cellOn_138 : decode cX3_cellOn 138 = .ok (.ireturn, 1) := by decide +kernel
theorem dX3_hasTimeFor_0 : decode cX3_hasTimeFor 0 = .ok (.iload_n 1, 1) := by decide +kernel
theorem dX3_hasTimeFor_1 : decode cX3_hasTimeFor 1 = .ok (.iconst 1, 1) := by decide +kernel
theorem dX3_hasTimeFor_2 : decode cX3_hasTimeFor 2 = .ok (.if_icmp .lt 25, 3) := by decide +kernel
theorem dX3_hasTimeFor_5 : decode cX3_hasTimeFor 5 = .ok (.iload_n 1, 1) := by decide +kernel
theorem dX3_hasTimeFor_6 : decode cX3_hasTimeFor 6 = .ok (.bipush 60, 2) := by decide +kernel
theorem dX3_hasTimeFor_8 : decode cX3_hasTimeFor 8 = .ok (.if_icmp .gt 19, 3) := by decide +kernel
theorem dX3_hasTimeFor_11 : decode cX3_hasTimeFor 11 = .ok (.aload_n 0, 1) := by decide +kernel
theorem dX3_hasTimeFor_12 : decode cX3_hasTimeFor 12 = .ok (.getfield 40, 3) := by decide +kernel
theorem dX3_hasTimeFor_15 : decode cX3_hasTimeFor 15 = .ok (.iload_n 1, 1) := by decide +kernel
theorem dX3_hasTimeFor_16 : decode cX3_hasTimeFor 16 = .ok (.iadd, 1) := by decide +kernel
theorem dX3_hasTimeFor_17 : decode cX3_hasTimeFor 17 = .ok (.sipush 999, 3) := by decide +kernel
theorem dX3_hasTimeFor_20 : decode cX3_hasTimeFor 20 = .ok (.if_icmp .gt 7, 3) := by decide +kernel
theorem dX3_hasTimeFor_23 : decode cX3_hasTimeFor 23 = .ok (.iconst 1, 1) := by decide +kernel
theorem dX3_hasTimeFor_24 : decode cX3_hasTimeFor 24 = .ok (.goto 4, 3) := by decide +kernel
theorem dX3_hasTimeFor_27 : decode cX3_hasTimeFor 27 = .ok (.iconst 0, 1) := by decide +kernel
theorem dX3_hasTimeFor_28 : decode cX3_hasTimeFor 28 = .ok (.ireturn, 1) := by decide +kernel
set_option maxRecDepth 20000 in
theorem ggX3_passDay_X3_isAboard : GoodIn wsX3_passDay wsX3_isAboard := goodIn_r _ [15, 16, 17, 18, 19, 20, 21, 22, 23, 24, 25, 26, 27, 28] (by decide +kernel) (by decide +kernel)
set_option maxRecDepth 20000 in
theorem gX3_passDay_X3_isAboard : GoodIn wsX3_passDay (wsV RX3 64 RX3 yX3_isAboard wsX3_isAboard) := goodIn_app (goodIn_of _ (by decide +kernel)) ggX3_passDay_X3_isAboard
theorem dX3_passDay_0 : decode cX3_passDay 0 = .ok (.aload_n 0, 1) := by decide +kernel
theorem dX3_passDay_1 : decode cX3_passDay 1 = .ok (.dup, 1) := by decide +kernel
theorem dX3_passDay_2 : decode cX3_passDay 2 = .ok (.getfield 40, 3) := by decide +kernel
theorem dX3_passDay_5 : decode cX3_passDay 5 = .ok (.iconst 1, 1) := by decide +kernel
theorem dX3_passDay_6 : decode cX3_passDay 6 = .ok (.iadd, 1) := by decide +kernel
theorem dX3_passDay_7 : decode cX3_passDay 7 = .ok (.putfield 40, 3) := by decide +kernel
theorem dX3_passDay_10 : decode cX3_passDay 10 = .ok (.iconst 0, 1) := by decide +kernel
theorem dX3_passDay_11 : decode cX3_passDay 11 = .ok (.istore_n 1, 1) := by decide +kernel
theorem dX3_passDay_12 : decode cX3_passDay 12 = .ok (.iload_n 1, 1) := by decide +kernel
theorem dX3_passDay_13 : decode cX3_passDay 13 = .ok (.aload_n 0, 1) := by decide +kernel
theorem dX3_passDay_14 : decode cX3_passDay 14 = .ok (.getfield 31, 3) := by decide +kernel
theorem dX3_passDay_17 : decode cX3_passDay 17 = .ok (.if_icmp .ge 57, 3) := by decide +kernel
theorem dX3_passDay_20 : decode cX3_passDay 20 = .ok (.aload_n 0, 1) := by decide +kernel
theorem dX3_passDay_21 : decode cX3_passDay 21 = .ok (.iload_n 1, 1) := by decide +kernel
theorem dX3_passDay_22 : decode cX3_passDay 22 = .ok (.invokevirtual 64, 3) := by decide +kernel
theorem dX3_passDay_25 : decode cX3_passDay 25 = .ok (.ifCond .eq 25, 3) := by decide +kernel
theorem dX3_passDay_28 : decode cX3_passDay 28 = .ok (.aload_n 0, 1) := by decide +kernel
theorem dX3_passDay_29 : decode cX3_passDay 29 = .ok (.getfield 24, 3) := by decide +kernel
theorem dX3_passDay_32 : decode cX3_passDay 32 = .ok (.iload_n 1, 1) := by decide +kernel
theorem dX3_passDay_33 : decode cX3_passDay 33 = .ok (.bipush 99, 2) := by decide +kernel
theorem dX3_passDay_35 : decode cX3_passDay 35 = .ok (.aload_n 0, 1) := by decide +kernel
theorem dX3_passDay_36 : decode cX3_passDay 36 = .ok (.getfield 24, 3) := by decide +kernel
theorem dX3_passDay_39 : decode cX3_passDay 39 = .ok (.iload_n 1, 1) := by decide +kernel
theorem dX3_passDay_40 : decode cX3_passDay 40 = .ok (.iaload, 1) := by decide +kernel
theorem dX3_passDay_41 : decode cX3_passDay 41 = .ok (.iconst 1, 1) := by decide +kernel
theorem dX3_passDay_42 : decode cX3_passDay 42 = .ok (.iadd, 1) := by decide +kernel
theorem dX3_passDay_43 : decode cX3_passDay 43 = .ok (.invokestatic 106, 3) := by decide +kernel
theorem dX3_passDay_46 : decode cX3_passDay 46 = .ok (.iastore, 1) := by decide +kernel
theorem dX3_passDay_47 : decode cX3_passDay 47 = .ok (.goto 21, 3) := by decide +kernel
theorem dX3_passDay_50 : decode cX3_passDay 50 = .ok (.aload_n 0, 1) := by decide +kernel
theorem dX3_passDay_51 : decode cX3_passDay 51 = .ok (.getfield 24, 3) := by decide +kernel
theorem dX3_passDay_54 : decode cX3_passDay 54 = .ok (.iload_n 1, 1) := by decide +kernel
theorem dX3_passDay_55 : decode cX3_passDay 55 = .ok (.iconst 0, 1) := by decide +kernel
theorem dX3_passDay_56 : decode cX3_passDay 56 = .ok (.aload_n 0, 1) := by decide +kernel
theorem dX3_passDay_57 : decode cX3_passDay 57 = .ok (.getfield 24, 3) := by decide +kernel
theorem dX3_passDay_60 : decode cX3_passDay 60 = .ok (.iload_n 1, 1) := by decide +kernel
theorem dX3_passDay_61 : decode cX3_passDay 61 = .ok (.iaload, 1) := by decide +kernel
theorem dX3_passDay_62 : decode cX3_passDay 62 = .ok (.iconst 1, 1) := by decide +kernel
theorem dX3_passDay_63 : decode cX3_passDay 63 = .ok (.isub, 1) := by decide +kernel
theorem dX3_passDay_64 : decode cX3_passDay 64 = .ok (.invokestatic 109, 3) := by decide +kernel
theorem dX3_passDay_67 : decode cX3_passDay 67 = .ok (.iastore, 1) := by decide +kernel
theorem dX3_passDay_68 : decode cX3_passDay 68 = .ok (.iinc 1 1, 3) := by decide +kernel
theorem dX3_passDay_71 : decode cX3_passDay 71 = .ok (.goto (-59), 3) := by decide +kernel
theorem dX3_passDay_74 : decode cX3_passDay 74 = .ok (.return_, 1) := by decide +kernel
set_option maxRecDepth 20000 in
theorem ggX3_goDay_X3_weigh : GoodIn wsX3_goDay wsX3_weigh := goodIn_r _ [6, 7, 8, 9, 10, 11, 12, 13, 14, 15, 16, 5, 17, 18, 19, 20, 21, 22, 23, 24, 1, 25, 26, 27, 28, 29, 30, 31, 32, 33, 34, 35, 36, 37, 38, 39, 64, 65, 66, 67, 68, 69, 70, 71, 72, 73, 74, 75] (by decide +kernel) (by decide +kernel)
set_option maxRecDepth 20000 in
theorem gX3_goDay_X3_weigh : GoodIn wsX3_goDay (wsV RX3 93 RX3 yX3_weigh wsX3_weigh) := goodIn_app (goodIn_of _ (by decide +kernel)) ggX3_goDay_X3_weigh
set_option maxRecDepth 20000 in
theorem ggX3_goDay_X3_course : GoodIn wsX3_goDay wsX3_course := goodIn_r _ [43, 7, 10, 11, 12, 13, 8, 64, 65, 66, 67, 68, 69, 70, 71, 72, 73, 74, 75] (by decide +kernel) (by decide +kernel)
set_option maxRecDepth 20000 in
theorem gX3_goDay_X3_course : GoodIn wsX3_goDay (wsV RX3 96 RX3 yX3_course wsX3_course) := goodIn_app (goodIn_of _ (by decide +kernel)) ggX3_goDay_X3_course
set_option maxRecDepth 20000 in
theorem ggX3_goDay_X3_cellOn : GoodIn wsX3_goDay wsX3_cellOn := goodIn_r _ [47, 1, 48, 49, 50, 51, 52, 64, 65, 66, 67, 68, 69, 70, 71, 72, 73, 74, 75] (by decide +kernel) (by decide +kernel)
set_option maxRecDepth 20000 in
theorem gX3_goDay_X3_cellOn : GoodIn wsX3_goDay (wsV RX3 112 RX3 yX3_cellOn wsX3_cellOn) := goodIn_app (goodIn_of _ (by decide +kernel)) ggX3_goDay_X3_cellOn
set_option maxRecDepth 20000 in
theorem ggX3_goDay_X3_passDay : GoodIn wsX3_goDay wsX3_passDay := goodIn_r _ [56, 57, 9, 33, 58, 59, 12, 60, 61, 62, 63, 14, 15, 16, 5, 17, 18, 64, 65, 66, 67, 68, 69, 70, 71, 72, 73, 74, 75] (by decide +kernel) (by decide +kernel)
set_option maxRecDepth 20000 in
theorem gX3_goDay_X3_passDay : GoodIn wsX3_goDay (wsV RX3 115 RX3 yX3_passDay wsX3_passDay) := goodIn_app (goodIn_of _ (by decide +kernel)) ggX3_goDay_X3_passDay
theorem dX3_goDay_0 : decode cX3_goDay 0 = .ok (.aload_n 0, 1) := by decide +kernel
theorem dX3_goDay_1 : decode cX3_goDay 1 = .ok (.invokevirtual 93, 3) := by decide +kernel
theorem dX3_goDay_4 : decode cX3_goDay 4 = .ok (.aload_n 0, 1) := by decide +kernel
theorem dX3_goDay_5 : decode cX3_goDay 5 = .ok (.aload_n 0, 1) := by decide +kernel
theorem dX3_goDay_6 : decode cX3_goDay 6 = .ok (.invokevirtual 96, 3) := by decide +kernel
theorem dX3_goDay_9 : decode cX3_goDay 9 = .ok (.invokevirtual 112, 3) := by decide +kernel
theorem dX3_goDay_12 : decode cX3_goDay 12 = .ok (.istore_n 1, 1) := by decide +kernel
theorem dX3_goDay_13 : decode cX3_goDay 13 = .ok (.iload_n 1, 1) := by decide +kernel
theorem dX3_goDay_14 : decode cX3_goDay 14 = .ok (.aload_n 0, 1) := by decide +kernel
theorem dX3_goDay_15 : decode cX3_goDay 15 = .ok (.getfield 37, 3) := by decide +kernel
theorem dX3_goDay_18 : decode cX3_goDay 18 = .ok (.if_icmp .eq 7, 3) := by decide +kernel
theorem dX3_goDay_21 : decode cX3_goDay 21 = .ok (.iconst 1, 1) := by decide +kernel
theorem dX3_goDay_22 : decode cX3_goDay 22 = .ok (.goto 4, 3) := by decide +kernel
theorem dX3_goDay_25 : decode cX3_goDay 25 = .ok (.iconst 0, 1) := by decide +kernel
theorem dX3_goDay_26 : decode cX3_goDay 26 = .ok (.istore_n 2, 1) := by decide +kernel
theorem dX3_goDay_27 : decode cX3_goDay 27 = .ok (.aload_n 0, 1) := by decide +kernel
theorem dX3_goDay_28 : decode cX3_goDay 28 = .ok (.iload_n 1, 1) := by decide +kernel
theorem dX3_goDay_29 : decode cX3_goDay 29 = .ok (.putfield 37, 3) := by decide +kernel
theorem dX3_goDay_32 : decode cX3_goDay 32 = .ok (.aload_n 0, 1) := by decide +kernel
theorem dX3_goDay_33 : decode cX3_goDay 33 = .ok (.invokevirtual 115, 3) := by decide +kernel
theorem dX3_goDay_36 : decode cX3_goDay 36 = .ok (.iload_n 2, 1) := by decide +kernel
theorem dX3_goDay_37 : decode cX3_goDay 37 = .ok (.ireturn, 1) := by decide +kernel
set_option maxRecDepth 20000 in
theorem ggX3_goDays_X3_goDay : GoodIn wsX3_goDays wsX3_goDay := goodIn_r _ [5, 6, 7, 8, 9, 4, 10, 11, 12, 13, 14, 15, 16, 17, 18, 19, 20, 21, 22, 23, 24, 25, 26, 27, 28, 29, 30, 31, 32, 33, 34, 35, 36, 37, 38, 39, 40, 41, 42, 43, 44, 45, 46, 47, 48, 49, 50, 51, 52, 53, 54, 55, 56, 57, 58, 59, 60, 61, 62, 63, 64, 65, 66, 67, 68, 69, 70, 71, 72, 73, 74, 75, 76, 77, 78, 79] (by decide +kernel) (by decide +kernel)
set_option maxRecDepth 20000 in
theorem gX3_goDays_X3_goDay : GoodIn wsX3_goDays (wsV RX3 118 RX3 yX3_goDay wsX3_goDay) := goodIn_app (goodIn_of _ (by decide +kernel)) ggX3_goDays_X3_goDay
theorem dX3_goDays_0 : decode cX3_goDays 0 = .ok (.iconst 0, 1) := by decide +kernel
theorem dX3_goDays_1 : decode cX3_goDays 1 = .ok (.istore_n 2, 1) := by decide +kernel
theorem dX3_goDays_2 : decode cX3_goDays 2 = .ok (.iconst 0, 1) := by decide +kernel
theorem dX3_goDays_3 : decode cX3_goDays 3 = .ok (.istore_n 3, 1) := by decide +kernel
theorem dX3_goDays_4 : decode cX3_goDays 4 = .ok (.iload_n 3, 1) := by decide +kernel
theorem dX3_goDays_5 : decode cX3_goDays 5 = .ok (.iload_n 1, 1) := by decide +kernel
theorem dX3_goDays_6 : decode cX3_goDays 6 = .ok (.if_icmp .ge 19, 3) := by decide +kernel
theorem dX3_goDays_9 : decode cX3_goDays 9 = .ok (.aload_n 0, 1) := by decide +kernel
theorem dX3_goDays_10 : decode cX3_goDays 10 = .ok (.invokevirtual 118, 3) := by decide +kernel
theorem dX3_goDays_13 : decode cX3_goDays 13 = .ok (.ifCond .eq 6, 3) := by decide +kernel
theorem dX3_goDays_16 : decode cX3_goDays 16 = .ok (.iinc 2 1, 3) := by decide +kernel
theorem dX3_goDays_19 : decode cX3_goDays 19 = .ok (.iinc 3 1, 3) := by decide +kernel
theorem dX3_goDays_22 : decode cX3_goDays 22 = .ok (.goto (-18), 3) := by decide +kernel
theorem dX3_goDays_25 : decode cX3_goDays 25 = .ok (.iload_n 2, 1) := by decide +kernel
theorem dX3_goDays_26 : decode cX3_goDays 26 = .ok (.ireturn, 1) := by decide +kernel
theorem dX3_placeHere_0 : decode cX3_placeHere 0 = .ok (.iconst 0, 1) := by decide +kernel
theorem dX3_placeHere_1 : decode cX3_placeHere 1 = .ok (.istore_n 1, 1) := by decide +kernel
theorem dX3_placeHere_2 : decode cX3_placeHere 2 = .ok (.iload_n 1, 1) := by decide +kernel
theorem dX3_placeHere_3 : decode cX3_placeHere 3 = .ok (.aload_n 0, 1) := by decide +kernel
theorem dX3_placeHere_4 : decode cX3_placeHere 4 = .ok (.getfield 27, 3) := by decide +kernel
theorem dX3_placeHere_7 : decode cX3_placeHere 7 = .ok (.if_icmp .ge 24, 3) := by decide +kernel
theorem dX3_placeHere_10 : decode cX3_placeHere 10 = .ok (.aload_n 0, 1) := by decide +kernel
theorem dX3_placeHere_11 : decode cX3_placeHere 11 = .ok (.getfield 9, 3) := by decide +kernel
theorem dX3_placeHere_14 : decode cX3_placeHere 14 = .ok (.iload_n 1, 1) := by decide +kernel
theorem dX3_placeHere_15 : decode cX3_placeHere 15 = .ok (.iaload, 1) := by decide +kernel
theorem dX3_placeHere_16 : decode cX3_placeHere 16 = .ok (.aload_n 0, 1) := by decide +kernel
theorem dX3_placeHere_17 : decode cX3_placeHere 17 = .ok (.getfield 37, 3) := by decide +kernel
theorem dX3_placeHere_20 : decode cX3_placeHere 20 = .ok (.if_icmp .ne 5, 3) := by decide +kernel
theorem dX3_placeHere_23 : decode cX3_placeHere 23 = .ok (.iload_n 1, 1) := by decide +kernel
theorem dX3_placeHere_24 : decode cX3_placeHere 24 = .ok (.ireturn, 1) := by decide +kernel
theorem dX3_placeHere_25 : decode cX3_placeHere 25 = .ok (.iinc 1 1, 3) := by decide +kernel
theorem dX3_placeHere_28 : decode cX3_placeHere 28 = .ok (.goto (-26), 3) := by decide +kernel
theorem dX3_placeHere_31 : decode cX3_placeHere 31 = .ok (.bipush (-9), 2) := by decide +kernel
theorem dX3_placeHere_33 : decode cX3_placeHere 33 = .ok (.ireturn, 1) := by decide +kernel
set_option maxRecDepth 20000 in
theorem ggX3_reaches_X3_goDay : GoodIn wsX3_reaches wsX3_goDay := goodIn_r _ [7, 1, 8, 9, 10, 6, 11, 12, 13, 14, 15, 16, 17, 18, 19, 20, 21, 22, 23, 24, 25, 26, 27, 2, 28, 29, 30, 31, 32, 33, 34, 35, 36, 37, 38, 39, 40, 41, 42, 43, 44, 45, 46, 47, 48, 49, 50, 51, 52, 53, 54, 55, 56, 57, 58, 59, 60, 61, 62, 63, 64, 65, 66, 67, 68, 69, 70, 71, 72, 73, 74, 75, 76, 77, 78, 79] (by decide +kernel) (by decide +kernel)
set_option maxRecDepth 20000 in
theorem gX3_reaches_X3_goDay : GoodIn wsX3_reaches (wsV RX3 118 RX3 yX3_goDay wsX3_goDay) := goodIn_app (goodIn_of _ (by decide +kernel)) ggX3_reaches_X3_goDay
theorem dX3_reaches_0 : decode cX3_reaches 0 = .ok (.iconst 0, 1) := by decide +kernel
theorem dX3_reaches_1 : decode cX3_reaches 1 = .ok (.istore_n 3, 1) := by decide +kernel
theorem dX3_reaches_2 : decode cX3_reaches 2 = .ok (.iload_n 3, 1) := by decide +kernel
theorem dX3_reaches_3 : decode cX3_reaches 3 = .ok (.iload_n 2, 1) := by decide +kernel
theorem dX3_reaches_4 : decode cX3_reaches 4 = .ok (.if_icmp .gt 29, 3) := by decide +kernel
theorem dX3_reaches_7 : decode cX3_reaches 7 = .ok (.aload_n 0, 1) := by decide +kernel
theorem dX3_reaches_8 : decode cX3_reaches 8 = .ok (.getfield 37, 3) := by decide +kernel
theorem dX3_reaches_11 : decode cX3_reaches 11 = .ok (.aload_n 0, 1) := by decide +kernel
theorem dX3_reaches_12 : decode cX3_reaches 12 = .ok (.getfield 9, 3) := by decide +kernel
theorem dX3_reaches_15 : decode cX3_reaches 15 = .ok (.iload_n 1, 1) := by decide +kernel
theorem dX3_reaches_16 : decode cX3_reaches 16 = .ok (.iaload, 1) := by decide +kernel
theorem dX3_reaches_17 : decode cX3_reaches 17 = .ok (.if_icmp .ne 5, 3) := by decide +kernel
theorem dX3_reaches_20 : decode cX3_reaches 20 = .ok (.iload_n 3, 1) := by decide +kernel
theorem dX3_reaches_21 : decode cX3_reaches 21 = .ok (.ireturn, 1) := by decide +kernel
theorem dX3_reaches_22 : decode cX3_reaches 22 = .ok (.aload_n 0, 1) := by decide +kernel
theorem dX3_reaches_23 : decode cX3_reaches 23 = .ok (.invokevirtual 118, 3) := by decide +kernel
theorem dX3_reaches_26 : decode cX3_reaches 26 = .ok (.pop, 1) := by decide +kernel
theorem dX3_reaches_27 : decode cX3_reaches 27 = .ok (.iinc 3 1, 3) := by decide +kernel
theorem dX3_reaches_30 : decode cX3_reaches 30 = .ok (.goto (-28), 3) := by decide +kernel
theorem dX3_reaches_33 : decode cX3_reaches 33 = .ok (.bipush (-9), 2) := by decide +kernel
theorem dX3_reaches_35 : decode cX3_reaches 35 = .ok (.ireturn, 1) := by decide +kernel
set_option maxRecDepth 20000 in
theorem ggX3_firstPlace_X3_placeHere : GoodIn wsX3_firstPlace wsX3_placeHere := goodIn_r _ [5, 6, 7, 8, 73, 74, 75, 76, 77, 78, 79, 80, 81, 82, 83, 84] (by decide +kernel) (by decide +kernel)
set_option maxRecDepth 20000 in
theorem gX3_firstPlace_X3_placeHere : GoodIn wsX3_firstPlace (wsV RX3 122 RX3 yX3_placeHere wsX3_placeHere) := goodIn_app (goodIn_of _ (by decide +kernel)) ggX3_firstPlace_X3_placeHere
set_option maxRecDepth 20000 in
theorem ggX3_firstPlace_X3_goDay : GoodIn wsX3_firstPlace wsX3_goDay := goodIn_r _ [12, 8, 13, 14, 15, 4, 16, 17, 18, 19, 20, 21, 22, 23, 24, 25, 26, 27, 28, 29, 30, 31, 32, 7, 33, 34, 35, 36, 37, 38, 39, 40, 41, 42, 43, 44, 45, 46, 47, 48, 49, 50, 51, 52, 53, 54, 55, 56, 57, 58, 59, 60, 61, 62, 63, 64, 65, 66, 67, 68, 69, 70, 71, 72, 73, 74, 75, 76, 77, 78, 79, 80, 81, 82, 83, 84] (by decide +kernel) (by decide +kernel)
set_option maxRecDepth 20000 in
theorem gX3_firstPlace_X3_goDay : GoodIn wsX3_firstPlace (wsV RX3 118 RX3 yX3_goDay wsX3_goDay) := goodIn_app (goodIn_of _ (by decide +kernel)) ggX3_firstPlace_X3_goDay
theorem dX3_firstPlace_0 : decode cX3_firstPlace 0 = .ok (.iconst 0, 1) := by decide +kernel
theorem dX3_firstPlace_1 : decode cX3_firstPlace 1 = .ok (.istore_n 2, 1) := by decide +kernel
theorem dX3_firstPlace_2 : decode cX3_firstPlace 2 = .ok (.iload_n 2, 1) := by decide +kernel
theorem dX3_firstPlace_3 : decode cX3_firstPlace 3 = .ok (.iload_n 1, 1) := by decide +kernel
theorem dX3_firstPlace_4 : decode cX3_firstPlace 4 = .ok (.if_icmp .gt 27, 3) := by decide +kernel
theorem dX3_firstPlace_7 : decode cX3_firstPlace 7 = .ok (.aload_n 0, 1) := by decide +kernel
theorem dX3_firstPlace_8 : decode cX3_firstPlace 8 = .ok (.invokevirtual 122, 3) := by decide +kernel
theorem dX3_firstPlace_11 : decode cX3_firstPlace 11 = .ok (.istore_n 3, 1) := by decide +kernel
theorem dX3_firstPlace_12 : decode cX3_firstPlace 12 = .ok (.iload_n 3, 1) := by decide +kernel
theorem dX3_firstPlace_13 : decode cX3_firstPlace 13 = .ok (.bipush (-9), 2) := by decide +kernel
theorem dX3_firstPlace_15 : decode cX3_firstPlace 15 = .ok (.if_icmp .eq 5, 3) := by decide +kernel
theorem dX3_firstPlace_18 : decode cX3_firstPlace 18 = .ok (.iload_n 3, 1) := by decide +kernel
theorem dX3_firstPlace_19 : decode cX3_firstPlace 19 = .ok (.ireturn, 1) := by decide +kernel
theorem dX3_firstPlace_20 : decode cX3_firstPlace 20 = .ok (.aload_n 0, 1) := by decide +kernel
theorem dX3_firstPlace_21 : decode cX3_firstPlace 21 = .ok (.invokevirtual 118, 3) := by decide +kernel
theorem dX3_firstPlace_24 : decode cX3_firstPlace 24 = .ok (.pop, 1) := by decide +kernel
theorem dX3_firstPlace_25 : decode cX3_firstPlace 25 = .ok (.iinc 2 1, 3) := by decide +kernel
theorem dX3_firstPlace_28 : decode cX3_firstPlace 28 = .ok (.goto (-26), 3) := by decide +kernel
theorem dX3_firstPlace_31 : decode cX3_firstPlace 31 = .ok (.bipush (-9), 2) := by decide +kernel
theorem dX3_firstPlace_33 : decode cX3_firstPlace 33 = .ok (.ireturn, 1) := by decide +kernel
set_option maxRecDepth 20000 in
theorem ggX3_firstSpin_X3_points : GoodIn wsX3_firstSpin wsX3_points := goodIn_r _ [5, 6, 7, 8, 4, 9, 10, 11, 12, 13, 14, 15, 16, 17, 18, 19, 20, 21, 22, 23, 24, 25, 26, 27, 28, 29, 30, 31, 32, 33, 34, 35, 36, 37, 38, 39, 40, 41, 42, 43, 44, 45, 46, 47, 72, 73, 74, 75, 76, 77, 78, 79, 80, 81, 82, 83] (by decide +kernel) (by decide +kernel)
set_option maxRecDepth 20000 in
theorem gX3_firstSpin_X3_points : GoodIn wsX3_firstSpin (wsV RX3 125 RX3 yX3_points wsX3_points) := goodIn_app (goodIn_of _ (by decide +kernel)) ggX3_firstSpin_X3_points
set_option maxRecDepth 20000 in
theorem ggX3_firstSpin_X3_goDay : GoodIn wsX3_firstSpin wsX3_goDay := goodIn_r _ [51, 28, 6, 7, 8, 4, 9, 10, 11, 12, 13, 14, 15, 16, 17, 18, 19, 20, 21, 22, 23, 24, 25, 26, 27, 29, 30, 31, 32, 33, 34, 35, 36, 37, 38, 39, 40, 41, 42, 43, 44, 45, 46, 47, 52, 53, 54, 55, 56, 57, 58, 59, 60, 61, 62, 63, 64, 65, 66, 67, 68, 69, 70, 71, 72, 73, 74, 75, 76, 77, 78, 79, 80, 81, 82, 83] (by decide +kernel) (by decide +kernel)
set_option maxRecDepth 20000 in
theorem gX3_firstSpin_X3_goDay : GoodIn wsX3_firstSpin (wsV RX3 118 RX3 yX3_goDay wsX3_goDay) := goodIn_app (goodIn_of _ (by decide +kernel)) ggX3_firstSpin_X3_goDay
theorem dX3_firstSpin_0 : decode cX3_firstSpin 0 = .ok (.iconst 0, 1) := by decide +kernel
theorem dX3_firstSpin_1 : decode cX3_firstSpin 1 = .ok (.istore_n 2, 1) := by decide +kernel
theorem dX3_firstSpin_2 : decode cX3_firstSpin 2 = .ok (.iload_n 2, 1) := by decide +kernel
theorem dX3_firstSpin_3 : decode cX3_firstSpin 3 = .ok (.iload_n 1, 1) := by decide +kernel
theorem dX3_firstSpin_4 : decode cX3_firstSpin 4 = .ok (.if_icmp .gt 25, 3) := by decide +kernel
theorem dX3_firstSpin_7 : decode cX3_firstSpin 7 = .ok (.aload_n 0, 1) := by decide +kernel
theorem dX3_firstSpin_8 : decode cX3_firstSpin 8 = .ok (.invokevirtual 125, 3) := by decide +kernel
theorem dX3_firstSpin_11 : decode cX3_firstSpin 11 = .ok (.bipush (-9), 2) := by decide +kernel
theorem dX3_firstSpin_13 : decode cX3_firstSpin 13 = .ok (.if_icmp .ne 5, 3) := by decide +kernel
theorem dX3_firstSpin_16 : decode cX3_firstSpin 16 = .ok (.iload_n 2, 1) := by decide +kernel
theorem dX3_firstSpin_17 : decode cX3_firstSpin 17 = .ok (.ireturn, 1) := by decide +kernel
theorem dX3_firstSpin_18 : decode cX3_firstSpin 18 = .ok (.aload_n 0, 1) := by decide +kernel
theorem dX3_firstSpin_19 : decode cX3_firstSpin 19 = .ok (.invokevirtual 118, 3) := by decide +kernel
theorem dX3_firstSpin_22 : decode cX3_firstSpin 22 = .ok (.pop, 1) := by decide +kernel
theorem dX3_firstSpin_23 : decode cX3_firstSpin 23 = .ok (.iinc 2 1, 3) := by decide +kernel
theorem dX3_firstSpin_26 : decode cX3_firstSpin 26 = .ok (.goto (-24), 3) := by decide +kernel
theorem dX3_firstSpin_29 : decode cX3_firstSpin 29 = .ok (.bipush (-9), 2) := by decide +kernel
theorem dX3_firstSpin_31 : decode cX3_firstSpin 31 = .ok (.ireturn, 1) := by decide +kernel
set_option maxRecDepth 20000 in
theorem ggX3_firstRest_X3_goDay : GoodIn wsX3_firstRest wsX3_goDay := goodIn_r _ [5, 6, 7, 8, 9, 4, 10, 11, 12, 13, 14, 15, 16, 17, 18, 19, 20, 21, 22, 23, 24, 25, 26, 27, 28, 29, 30, 31, 32, 33, 34, 35, 36, 37, 38, 39, 40, 41, 42, 43, 44, 45, 46, 47, 48, 49, 50, 51, 52, 53, 54, 55, 56, 57, 58, 59, 60, 61, 62, 63, 64, 65, 66, 67, 68, 69, 70, 71, 72, 73, 74, 75, 76, 77, 78, 79] (by decide +kernel) (by decide +kernel)
set_option maxRecDepth 20000 in
theorem gX3_firstRest_X3_goDay : GoodIn wsX3_firstRest (wsV RX3 118 RX3 yX3_goDay wsX3_goDay) := goodIn_app (goodIn_of _ (by decide +kernel)) ggX3_firstRest_X3_goDay
theorem dX3_firstRest_0 : decode cX3_firstRest 0 = .ok (.iconst 0, 1) := by decide +kernel
theorem dX3_firstRest_1 : decode cX3_firstRest 1 = .ok (.istore_n 2, 1) := by decide +kernel
theorem dX3_firstRest_2 : decode cX3_firstRest 2 = .ok (.iload_n 2, 1) := by decide +kernel
theorem dX3_firstRest_3 : decode cX3_firstRest 3 = .ok (.iload_n 1, 1) := by decide +kernel
theorem dX3_firstRest_4 : decode cX3_firstRest 4 = .ok (.if_icmp .gt 18, 3) := by decide +kernel
theorem dX3_firstRest_7 : decode cX3_firstRest 7 = .ok (.aload_n 0, 1) := by decide +kernel
theorem dX3_firstRest_8 : decode cX3_firstRest 8 = .ok (.invokevirtual 118, 3) := by decide +kernel
theorem dX3_firstRest_11 : decode cX3_firstRest 11 = .ok (.ifCond .ne 5, 3) := by decide +kernel
theorem dX3_firstRest_14 : decode cX3_firstRest 14 = .ok (.iload_n 2, 1) := by decide +kernel
theorem dX3_firstRest_15 : decode cX3_firstRest 15 = .ok (.ireturn, 1) := by decide +kernel
theorem dX3_firstRest_16 : decode cX3_firstRest 16 = .ok (.iinc 2 1, 3) := by decide +kernel
theorem dX3_firstRest_19 : decode cX3_firstRest 19 = .ok (.goto (-17), 3) := by decide +kernel
theorem dX3_firstRest_22 : decode cX3_firstRest 22 = .ok (.bipush (-9), 2) := by decide +kernel
theorem dX3_firstRest_24 : decode cX3_firstRest 24 = .ok (.ireturn, 1) := by decide +kernel
set_option maxRecDepth 20000 in
theorem ggX4_init_X3_init : GoodIn wsX4_init wsX3_init := goodIn_r _ [27, 28, 2, 3, 22, 29, 30, 31, 32, 33, 47, 48, 49, 50, 51, 52, 53, 54, 55, 56, 57, 58] (by decide +kernel) (by decide +kernel)
set_option maxRecDepth 20000 in
theorem gX4_init_X3_init_n9 : GoodIn wsX4_init (wsX3_init) := ggX4_init_X3_init
set_option maxRecDepth 20000 in
theorem ggX4_init_X2_init : GoodIn wsX4_init wsX2_init := goodIn_r _ [35, 36, 2, 3, 22, 37, 70, 71] (by decide +kernel) (by decide +kernel)
set_option maxRecDepth 20000 in
theorem gX4_init_X2_init_n24 : GoodIn wsX4_init (wsX2_init) := ggX4_init_X2_init
set_option maxRecDepth 20000 in
theorem ggX4_init_X1_init : GoodIn wsX4_init wsX1_init := goodIn_r _ [39, 40, 2, 3, 41, 42, 43, 72, 73, 74] (by decide +kernel) (by decide +kernel)
set_option maxRecDepth 20000 in
theorem gX4_init_X1_init_n31 : GoodIn wsX4_init (wsX1_init) := ggX4_init_X1_init
set_option maxRecDepth 20000 in
theorem ggX4_init_X0_init : GoodIn wsX4_init wsX0_init := goodIn_r _ [45, 46, 2, 3] (by decide +kernel) (by decide +kernel)
set_option maxRecDepth 20000 in
theorem gX4_init_X0_init_n38 : GoodIn wsX4_init (wsX0_init) := ggX4_init_X0_init
theorem dX4_init_0 : decode cX4_init 0 = .ok (.aload_n 0, 1) := by decide +kernel
theorem dX4_init_1 : decode cX4_init 1 = .ok (.invokespecial 1, 3) := by decide +kernel
theorem dX4_init_4 : decode cX4_init 4 = .ok (.aload_n 0, 1) := by decide +kernel
theorem dX4_init_5 : decode cX4_init 5 = .ok (.new 7, 3) := by decide +kernel
theorem dX4_init_8 : decode cX4_init 8 = .ok (.dup, 1) := by decide +kernel
theorem dX4_init_9 : decode cX4_init 9 = .ok (.invokespecial 9, 3) := by decide +kernel
theorem dX4_init_12 : decode cX4_init 12 = .ok (.putfield 10, 3) := by decide +kernel
theorem dX4_init_15 : decode cX4_init 15 = .ok (.aload_n 0, 1) := by decide +kernel
theorem dX4_init_16 : decode cX4_init 16 = .ok (.new 7, 3) := by decide +kernel
theorem dX4_init_19 : decode cX4_init 19 = .ok (.dup, 1) := by decide +kernel
theorem dX4_init_20 : decode cX4_init 20 = .ok (.invokespecial 9, 3) := by decide +kernel
theorem dX4_init_23 : decode cX4_init 23 = .ok (.putfield 16, 3) := by decide +kernel
theorem dX4_init_26 : decode cX4_init 26 = .ok (.aload_n 0, 1) := by decide +kernel
theorem dX4_init_27 : decode cX4_init 27 = .ok (.new 7, 3) := by decide +kernel
theorem dX4_init_30 : decode cX4_init 30 = .ok (.dup, 1) := by decide +kernel
theorem dX4_init_31 : decode cX4_init 31 = .ok (.invokespecial 9, 3) := by decide +kernel
theorem dX4_init_34 : decode cX4_init 34 = .ok (.putfield 19, 3) := by decide +kernel
theorem dX4_init_37 : decode cX4_init 37 = .ok (.aload_n 0, 1) := by decide +kernel
theorem dX4_init_38 : decode cX4_init 38 = .ok (.new 22, 3) := by decide +kernel
theorem dX4_init_41 : decode cX4_init 41 = .ok (.dup, 1) := by decide +kernel
theorem dX4_init_42 : decode cX4_init 42 = .ok (.invokespecial 24, 3) := by decide +kernel
theorem dX4_init_45 : decode cX4_init 45 = .ok (.putfield 25, 3) := by decide +kernel
theorem dX4_init_48 : decode cX4_init 48 = .ok (.aload_n 0, 1) := by decide +kernel
theorem dX4_init_49 : decode cX4_init 49 = .ok (.new 29, 3) := by decide +kernel
theorem dX4_init_52 : decode cX4_init 52 = .ok (.dup, 1) := by decide +kernel
theorem dX4_init_53 : decode cX4_init 53 = .ok (.invokespecial 31, 3) := by decide +kernel
theorem dX4_init_56 : decode cX4_init 56 = .ok (.putfield 32, 3) := by decide +kernel
theorem dX4_init_59 : decode cX4_init 59 = .ok (.aload_n 0, 1) := by decide +kernel
