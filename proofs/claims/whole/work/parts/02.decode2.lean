set_option maxRecDepth 20000 in
theorem ggX4_storm_X4_partOf : GoodIn wsX4_storm wsX4_partOf := goodIn_r _ [125, 126, 127, 7, 128] (by decide +kernel) (by decide +kernel)
set_option maxRecDepth 20000 in
theorem gX4_storm_X4_partOf : GoodIn wsX4_storm (va_wsS RX4 220 yX4_partOf wsX4_partOf) := goodIn_app (goodIn_of _ (by decide +kernel)) ggX4_storm_X4_partOf
theorem dX4_storm_0 : decode cX4_storm 0 = .ok (.aload_n 0, 1) := by decide +kernel
theorem dX4_storm_1 : decode cX4_storm 1 = .ok (.iload_n 1, 1) := by decide +kernel
theorem dX4_storm_2 : decode cX4_storm 2 = .ok (.invokevirtual 102, 3) := by decide +kernel
theorem dX4_storm_5 : decode cX4_storm 5 = .ok (.iload_n 2, 1) := by decide +kernel
theorem dX4_storm_6 : decode cX4_storm 6 = .ok (.iconst 0, 1) := by decide +kernel
theorem dX4_storm_7 : decode cX4_storm 7 = .ok (.invokestatic 198, 3) := by decide +kernel
theorem dX4_storm_10 : decode cX4_storm 10 = .ok (.invokestatic 61, 3) := by decide +kernel
theorem dX4_storm_13 : decode cX4_storm 13 = .ok (.istore 5, 2) := by decide +kernel
theorem dX4_storm_15 : decode cX4_storm 15 = .ok (.iload 5, 2) := by decide +kernel
theorem dX4_storm_17 : decode cX4_storm 17 = .ok (.iload_n 3, 1) := by decide +kernel
theorem dX4_storm_18 : decode cX4_storm 18 = .ok (.iconst 2, 1) := by decide +kernel
theorem dX4_storm_19 : decode cX4_storm 19 = .ok (.invokestatic 198, 3) := by decide +kernel
theorem dX4_storm_22 : decode cX4_storm 22 = .ok (.invokestatic 61, 3) := by decide +kernel
theorem dX4_storm_25 : decode cX4_storm 25 = .ok (.istore 5, 2) := by decide +kernel
theorem dX4_storm_27 : decode cX4_storm 27 = .ok (.iload 5, 2) := by decide +kernel
theorem dX4_storm_29 : decode cX4_storm 29 = .ok (.iload_n 2, 1) := by decide +kernel
theorem dX4_storm_30 : decode cX4_storm 30 = .ok (.bipush 7, 2) := by decide +kernel
theorem dX4_storm_32 : decode cX4_storm 32 = .ok (.invokestatic 201, 3) := by decide +kernel
theorem dX4_storm_35 : decode cX4_storm 35 = .ok (.invokestatic 61, 3) := by decide +kernel
theorem dX4_storm_38 : decode cX4_storm 38 = .ok (.istore 5, 2) := by decide +kernel
theorem dX4_storm_40 : decode cX4_storm 40 = .ok (.iload 5, 2) := by decide +kernel
theorem dX4_storm_42 : decode cX4_storm 42 = .ok (.iload_n 3, 1) := by decide +kernel
theorem dX4_storm_43 : decode cX4_storm 43 = .ok (.bipush 20, 2) := by decide +kernel
theorem dX4_storm_45 : decode cX4_storm 45 = .ok (.invokestatic 201, 3) := by decide +kernel
theorem dX4_storm_48 : decode cX4_storm 48 = .ok (.invokestatic 61, 3) := by decide +kernel
theorem dX4_storm_51 : decode cX4_storm 51 = .ok (.istore 5, 2) := by decide +kernel
theorem dX4_storm_53 : decode cX4_storm 53 = .ok (.iload 5, 2) := by decide +kernel
theorem dX4_storm_55 : decode cX4_storm 55 = .ok (.iload 4, 2) := by decide +kernel
theorem dX4_storm_57 : decode cX4_storm 57 = .ok (.iconst 2, 1) := by decide +kernel
theorem dX4_storm_58 : decode cX4_storm 58 = .ok (.invokestatic 83, 3) := by decide +kernel
theorem dX4_storm_61 : decode cX4_storm 61 = .ok (.invokestatic 61, 3) := by decide +kernel
theorem dX4_storm_64 : decode cX4_storm 64 = .ok (.istore 5, 2) := by decide +kernel
theorem dX4_storm_66 : decode cX4_storm 66 = .ok (.iload 5, 2) := by decide +kernel
theorem dX4_storm_68 : decode cX4_storm 68 = .ok (.ifCond .eq 10, 3) := by decide +kernel
theorem dX4_storm_71 : decode cX4_storm 71 = .ok (.aload_n 0, 1) := by decide +kernel
theorem dX4_storm_72 : decode cX4_storm 72 = .ok (.iload 5, 2) := by decide +kernel
theorem dX4_storm_74 : decode cX4_storm 74 = .ok (.invokevirtual 204, 3) := by decide +kernel
theorem dX4_storm_77 : decode cX4_storm 77 = .ok (.lreturn, 1) := by decide +kernel
theorem dX4_storm_78 : decode cX4_storm 78 = .ok (.aload_n 0, 1) := by decide +kernel
theorem dX4_storm_79 : decode cX4_storm 79 = .ok (.invokevirtual 132, 3) := by decide +kernel
theorem dX4_storm_82 : decode cX4_storm 82 = .ok (.aload_n 0, 1) := by decide +kernel
theorem dX4_storm_83 : decode cX4_storm 83 = .ok (.getfield 32, 3) := by decide +kernel
theorem dX4_storm_86 : decode cX4_storm 86 = .ok (.aload_n 0, 1) := by decide +kernel
theorem dX4_storm_87 : decode cX4_storm 87 = .ok (.getfield 16, 3) := by decide +kernel
theorem dX4_storm_90 : decode cX4_storm 90 = .ok (.iload_n 2, 1) := by decide +kernel
theorem dX4_storm_91 : decode cX4_storm 91 = .ok (.iload_n 3, 1) := by decide +kernel
theorem dX4_storm_92 : decode cX4_storm 92 = .ok (.invokevirtual 208, 3) := by decide +kernel
theorem dX4_storm_95 : decode cX4_storm 95 = .ok (.aload_n 0, 1) := by decide +kernel
theorem dX4_storm_96 : decode cX4_storm 96 = .ok (.getfield 32, 3) := by decide +kernel
theorem dX4_storm_99 : decode cX4_storm 99 = .ok (.getfield 212, 3) := by decide +kernel
theorem dX4_storm_102 : decode cX4_storm 102 = .ok (.aload_n 0, 1) := by decide +kernel
theorem dX4_storm_103 : decode cX4_storm 103 = .ok (.getfield 10, 3) := by decide +kernel
theorem dX4_storm_106 : decode cX4_storm 106 = .ok (.getfield 105, 3) := by decide +kernel
theorem dX4_storm_109 : decode cX4_storm 109 = .ok (.iload_n 1, 1) := by decide +kernel
theorem dX4_storm_110 : decode cX4_storm 110 = .ok (.iaload, 1) := by decide +kernel
theorem dX4_storm_111 : decode cX4_storm 111 = .ok (.laload, 1) := by decide +kernel
theorem dX4_storm_112 : decode cX4_storm 112 = .ok (.aload_n 0, 1) := by decide +kernel
theorem dX4_storm_113 : decode cX4_storm 113 = .ok (.getfield 32, 3) := by decide +kernel
theorem dX4_storm_116 : decode cX4_storm 116 = .ok (.getfield 216, 3) := by decide +kernel
theorem dX4_storm_119 : decode cX4_storm 119 = .ok (.iload 4, 2) := by decide +kernel
theorem dX4_storm_121 : decode cX4_storm 121 = .ok (.invokestatic 220, 3) := by decide +kernel
theorem dX4_storm_124 : decode cX4_storm 124 = .ok (.lreturn, 1) := by decide +kernel
set_option maxRecDepth 20000 in
theorem ggX4_mean_X4_noWhat : GoodIn wsX4_mean wsX4_noWhat := goodIn_r _ [5] (by decide +kernel) (by decide +kernel)
set_option maxRecDepth 20000 in
theorem gX4_mean_X4_noWhat : GoodIn wsX4_mean (va_wsS RX4 83 yX4_noWhat wsX4_noWhat) := goodIn_app (goodIn_of _ (by decide +kernel)) ggX4_mean_X4_noWhat
set_option maxRecDepth 20000 in
theorem ggX4_mean_X4_refuseLong : GoodIn wsX4_mean wsX4_refuseLong := goodIn_r _ [9, 10, 11, 12, 13, 4, 14, 15, 28, 29, 30, 31, 32, 33, 34, 35, 36, 37, 38] (by decide +kernel) (by decide +kernel)
set_option maxRecDepth 20000 in
theorem gX4_mean_X4_refuseLong : GoodIn wsX4_mean (wsV RX4 204 RX4 yX4_refuseLong wsX4_refuseLong) := goodIn_app (goodIn_of _ (by decide +kernel)) ggX4_mean_X4_refuseLong
set_option maxRecDepth 20000 in
theorem ggX4_mean_X3_isAboard : GoodIn wsX4_mean wsX3_isAboard := goodIn_r _ [20, 21, 39, 40, 41, 42, 43, 44, 45, 46, 47, 48, 49, 50] (by decide +kernel) (by decide +kernel)
set_option maxRecDepth 20000 in
theorem gX4_mean_X3_isAboard : GoodIn wsX4_mean (wsV RX4 98 RX3 yX3_isAboard wsX3_isAboard) := goodIn_app (goodIn_of _ (by decide +kernel)) ggX4_mean_X3_isAboard
set_option maxRecDepth 20000 in
theorem ggX4_mean_X4_partOf : GoodIn wsX4_mean wsX4_partOf := goodIn_r _ [24, 25, 26, 4, 27] (by decide +kernel) (by decide +kernel)
set_option maxRecDepth 20000 in
theorem gX4_mean_X4_partOf : GoodIn wsX4_mean (va_wsS RX4 220 yX4_partOf wsX4_partOf) := goodIn_app (goodIn_of _ (by decide +kernel)) ggX4_mean_X4_partOf
theorem dX4_mean_0 : decode cX4_mean 0 = .ok (.iload_n 1, 1) := by decide +kernel
theorem dX4_mean_1 : decode cX4_mean 1 = .ok (.iconst 2, 1) := by decide +kernel
theorem dX4_mean_2 : decode cX4_mean 2 = .ok (.invokestatic 83, 3) := by decide +kernel
theorem dX4_mean_5 : decode cX4_mean 5 = .ok (.istore_n 2, 1) := by decide +kernel
theorem dX4_mean_6 : decode cX4_mean 6 = .ok (.iload_n 2, 1) := by decide +kernel
theorem dX4_mean_7 : decode cX4_mean 7 = .ok (.ifCond .eq 9, 3) := by decide +kernel
theorem dX4_mean_10 : decode cX4_mean 10 = .ok (.aload_n 0, 1) := by decide +kernel
theorem dX4_mean_11 : decode cX4_mean 11 = .ok (.iload_n 2, 1) := by decide +kernel
theorem dX4_mean_12 : decode cX4_mean 12 = .ok (.invokevirtual 204, 3) := by decide +kernel
theorem dX4_mean_15 : decode cX4_mean 15 = .ok (.lreturn, 1) := by decide +kernel
theorem dX4_mean_16 : decode cX4_mean 16 = .ok (.lconst 0, 1) := by decide +kernel
theorem dX4_mean_17 : decode cX4_mean 17 = .ok (.lstore_n 3, 1) := by decide +kernel
theorem dX4_mean_18 : decode cX4_mean 18 = .ok (.lconst 0, 1) := by decide +kernel
theorem dX4_mean_19 : decode cX4_mean 19 = .ok (.lstore 5, 2) := by decide +kernel
theorem dX4_mean_21 : decode cX4_mean 21 = .ok (.iconst 0, 1) := by decide +kernel
theorem dX4_mean_22 : decode cX4_mean 22 = .ok (.istore 7, 2) := by decide +kernel
theorem dX4_mean_24 : decode cX4_mean 24 = .ok (.iload 7, 2) := by decide +kernel
theorem dX4_mean_26 : decode cX4_mean 26 = .ok (.aload_n 0, 1) := by decide +kernel
theorem dX4_mean_27 : decode cX4_mean 27 = .ok (.getfield 10, 3) := by decide +kernel
theorem dX4_mean_30 : decode cX4_mean 30 = .ok (.getfield 154, 3) := by decide +kernel
theorem dX4_mean_33 : decode cX4_mean 33 = .ok (.if_icmp .ge 41, 3) := by decide +kernel
theorem dX4_mean_36 : decode cX4_mean 36 = .ok (.aload_n 0, 1) := by decide +kernel
theorem dX4_mean_37 : decode cX4_mean 37 = .ok (.getfield 10, 3) := by decide +kernel
theorem dX4_mean_40 : decode cX4_mean 40 = .ok (.iload 7, 2) := by decide +kernel
theorem dX4_mean_42 : decode cX4_mean 42 = .ok (.invokevirtual 98, 3) := by decide +kernel
theorem dX4_mean_45 : decode cX4_mean 45 = .ok (.ifCond .eq 23, 3) := by decide +kernel
theorem dX4_mean_48 : decode cX4_mean 48 = .ok (.lload_n 3, 1) := by decide +kernel
theorem dX4_mean_49 : decode cX4_mean 49 = .ok (.aload_n 0, 1) := by decide +kernel
theorem dX4_mean_50 : decode cX4_mean 50 = .ok (.getfield 10, 3) := by decide +kernel
theorem dX4_mean_53 : decode cX4_mean 53 = .ok (.getfield 95, 3) := by decide +kernel
theorem dX4_mean_56 : decode cX4_mean 56 = .ok (.iload 7, 2) := by decide +kernel
theorem dX4_mean_58 : decode cX4_mean 58 = .ok (.iaload, 1) := by decide +kernel
theorem dX4_mean_59 : decode cX4_mean 59 = .ok (.i2l, 1) := by decide +kernel
theorem dX4_mean_60 : decode cX4_mean 60 = .ok (.ladd, 1) := by decide +kernel
theorem dX4_mean_61 : decode cX4_mean 61 = .ok (.lstore_n 3, 1) := by decide +kernel
theorem dX4_mean_62 : decode cX4_mean 62 = .ok (.lload 5, 2) := by decide +kernel
theorem dX4_mean_64 : decode cX4_mean 64 = .ok (.lconst 1, 1) := by decide +kernel
theorem dX4_mean_65 : decode cX4_mean 65 = .ok (.ladd, 1) := by decide +kernel
theorem dX4_mean_66 : decode cX4_mean 66 = .ok (.lstore 5, 2) := by decide +kernel
theorem dX4_mean_68 : decode cX4_mean 68 = .ok (.iinc 7 1, 3) := by decide +kernel
theorem dX4_mean_71 : decode cX4_mean 71 = .ok (.goto (-47), 3) := by decide +kernel
theorem dX4_mean_74 : decode cX4_mean 74 = .ok (.lload_n 3, 1) := by decide +kernel
theorem dX4_mean_75 : decode cX4_mean 75 = .ok (.lload 5, 2) := by decide +kernel
theorem dX4_mean_77 : decode cX4_mean 77 = .ok (.iload_n 1, 1) := by decide +kernel
theorem dX4_mean_78 : decode cX4_mean 78 = .ok (.invokestatic 220, 3) := by decide +kernel
theorem dX4_mean_81 : decode cX4_mean 81 = .ok (.lreturn, 1) := by decide +kernel
set_option maxRecDepth 20000 in
theorem ggX4_log_X4_noHand : GoodIn wsX4_log wsX4_noHand := goodIn_r _ [5, 6, 112, 113, 114, 115, 116, 117, 118, 119, 120, 121, 122, 123, 124, 125, 126, 127, 128, 129, 130, 131, 132, 133, 134] (by decide +kernel) (by decide +kernel)
set_option maxRecDepth 20000 in
theorem gX4_log_X4_noHand : GoodIn wsX4_log (wsV RX4 80 RX4 yX4_noHand wsX4_noHand) := goodIn_app (goodIn_of _ (by decide +kernel)) ggX4_log_X4_noHand
set_option maxRecDepth 20000 in
theorem ggX4_log_X4_noWhat : GoodIn wsX4_log wsX4_noWhat := goodIn_r _ [9] (by decide +kernel) (by decide +kernel)
set_option maxRecDepth 20000 in
theorem gX4_log_X4_noWhat : GoodIn wsX4_log (va_wsS RX4 83 yX4_noWhat wsX4_noWhat) := goodIn_app (goodIn_of _ (by decide +kernel)) ggX4_log_X4_noWhat
set_option maxRecDepth 20000 in
theorem ggX4_log_X4_firstOf : GoodIn wsX4_log wsX4_firstOf := goodIn_r _ [12] (by decide +kernel) (by decide +kernel)
set_option maxRecDepth 20000 in
theorem gX4_log_X4_firstOf : GoodIn wsX4_log (va_wsS RX4 61 yX4_firstOf wsX4_firstOf) := goodIn_app (goodIn_of _ (by decide +kernel)) ggX4_log_X4_firstOf
set_option maxRecDepth 20000 in
theorem ggX4_log_X4_refuse : GoodIn wsX4_log wsX4_refuse := goodIn_r _ [16, 17, 112, 113, 114, 115, 116, 117, 118, 119, 120, 121, 122] (by decide +kernel) (by decide +kernel)
set_option maxRecDepth 20000 in
theorem gX4_log_X4_refuse : GoodIn wsX4_log (wsV RX4 65 RX4 yX4_refuse wsX4_refuse) := goodIn_app (goodIn_of _ (by decide +kernel)) ggX4_log_X4_refuse
set_option maxRecDepth 20000 in
theorem ggX4_log_X4_placesByLog : GoodIn wsX4_log wsX4_placesByLog := goodIn_r _ [21, 6, 22, 23, 24, 25, 4, 26, 27, 28, 29, 30, 31, 32, 33, 34, 35, 36, 37, 38, 39, 40, 41, 42, 43, 44, 45, 46, 47, 48, 49, 50, 51, 52, 53, 54, 55, 56, 57, 58, 59, 60, 61, 62, 63, 64, 65, 66, 67, 68, 69, 70, 71, 72, 73, 74, 75, 76, 77, 78, 79, 80, 81, 82, 83, 84, 85, 86, 87, 88, 89, 90, 91, 92, 93, 94, 95, 96, 97, 98, 99, 100, 101, 102, 103, 104, 105, 106, 107, 112, 113, 114, 115, 116, 117, 118, 119, 120, 121, 122, 123, 124, 125, 126, 127, 128, 129, 130, 131, 132, 133, 134] (by decide +kernel) (by decide +kernel)
set_option maxRecDepth 20000 in
theorem gX4_log_X4_placesByLog : GoodIn wsX4_log (wsV RX4 224 RX4 yX4_placesByLog wsX4_placesByLog) := goodIn_app (goodIn_of _ (by decide +kernel)) ggX4_log_X4_placesByLog
set_option maxRecDepth 20000 in
theorem ggX4_log_X4_kindsByLog : GoodIn wsX4_log wsX4_kindsByLog := goodIn_r _ [111, 22, 23, 24, 25, 4, 26, 6, 27, 28, 29, 30, 31, 32, 33, 34, 35, 36, 37, 38, 39, 40, 41, 42, 43, 44, 45, 46, 47, 48, 49, 50, 51, 52, 53, 54, 55, 56, 57, 58, 59, 60, 61, 62, 63, 64, 65, 66, 67, 68, 69, 70, 71, 72, 73, 74, 75, 76, 77, 78, 79, 80, 81, 82, 83, 84, 85, 86, 87, 88, 89, 90, 91, 92, 93, 94, 95, 96, 97, 98, 99, 100, 101, 102, 103, 104, 105, 106, 107, 112, 113, 114, 115, 116, 117, 118, 119, 120, 121, 122, 123, 124, 125, 126, 127, 128, 129, 130, 131, 132, 133, 134] (by decide +kernel) (by decide +kernel)
set_option maxRecDepth 20000 in
theorem gX4_log_X4_kindsByLog : GoodIn wsX4_log (wsV RX4 227 RX4 yX4_kindsByLog wsX4_kindsByLog) := goodIn_app (goodIn_of _ (by decide +kernel)) ggX4_log_X4_kindsByLog
theorem dX4_log_0 : decode cX4_log 0 = .ok (.aload_n 0, 1) := by decide +kernel
theorem dX4_log_1 : decode cX4_log 1 = .ok (.iload_n 1, 1) := by decide +kernel
theorem dX4_log_2 : decode cX4_log 2 = .ok (.invokevirtual 80, 3) := by decide +kernel
theorem dX4_log_5 : decode cX4_log 5 = .ok (.iload_n 2, 1) := by decide +kernel
theorem dX4_log_6 : decode cX4_log 6 = .ok (.iconst 2, 1) := by decide +kernel
theorem dX4_log_7 : decode cX4_log 7 = .ok (.invokestatic 83, 3) := by decide +kernel
theorem dX4_log_10 : decode cX4_log 10 = .ok (.invokestatic 61, 3) := by decide +kernel
theorem dX4_log_13 : decode cX4_log 13 = .ok (.istore_n 3, 1) := by decide +kernel
theorem dX4_log_14 : decode cX4_log 14 = .ok (.iload_n 3, 1) := by decide +kernel
theorem dX4_log_15 : decode cX4_log 15 = .ok (.ifCond .eq 9, 3) := by decide +kernel
theorem dX4_log_18 : decode cX4_log 18 = .ok (.aload_n 0, 1) := by decide +kernel
theorem dX4_log_19 : decode cX4_log 19 = .ok (.iload_n 3, 1) := by decide +kernel
theorem dX4_log_20 : decode cX4_log 20 = .ok (.invokevirtual 65, 3) := by decide +kernel
theorem dX4_log_23 : decode cX4_log 23 = .ok (.ireturn, 1) := by decide +kernel
theorem dX4_log_24 : decode cX4_log 24 = .ok (.iload_n 2, 1) := by decide +kernel
theorem dX4_log_25 : decode cX4_log 25 = .ok (.ifCond .ne 11, 3) := by decide +kernel
theorem dX4_log_28 : decode cX4_log 28 = .ok (.aload_n 0, 1) := by decide +kernel
theorem dX4_log_29 : decode cX4_log 29 = .ok (.iload_n 1, 1) := by decide +kernel
theorem dX4_log_30 : decode cX4_log 30 = .ok (.invokevirtual 224, 3) := by decide +kernel
theorem dX4_log_33 : decode cX4_log 33 = .ok (.goto 8, 3) := by decide +kernel
theorem dX4_log_36 : decode cX4_log 36 = .ok (.aload_n 0, 1) := by decide +kernel
theorem dX4_log_37 : decode cX4_log 37 = .ok (.iload_n 1, 1) := by decide +kernel
theorem dX4_log_38 : decode cX4_log 38 = .ok (.invokevirtual 227, 3) := by decide +kernel
theorem dX4_log_41 : decode cX4_log 41 = .ok (.ireturn, 1) := by decide +kernel
set_option maxRecDepth 20000 in
theorem ggX4_row_X4_outside : GoodIn wsX4_row wsX4_outside := goodIn_r _ [6, 7, 8, 5, 9, 10, 11, 12, 13, 14, 15] (by decide +kernel) (by decide +kernel)
set_option maxRecDepth 20000 in
theorem gX4_row_X4_outside : GoodIn wsX4_row (va_wsS RX4 53 yX4_outside wsX4_outside) := goodIn_app (goodIn_of _ (by decide +kernel)) ggX4_row_X4_outside
set_option maxRecDepth 20000 in
theorem ggX4_row_X4_firstOf : GoodIn wsX4_row wsX4_firstOf := goodIn_r _ [15] (by decide +kernel) (by decide +kernel)
set_option maxRecDepth 20000 in
theorem gX4_row_X4_firstOf : GoodIn wsX4_row (va_wsS RX4 61 yX4_firstOf wsX4_firstOf) := goodIn_app (goodIn_of _ (by decide +kernel)) ggX4_row_X4_firstOf
set_option maxRecDepth 20000 in
theorem ggX4_row_X4_refuse : GoodIn wsX4_row wsX4_refuse := goodIn_r _ [19, 20, 21, 22, 23, 24, 25, 26, 27, 28, 29, 30, 31] (by decide +kernel) (by decide +kernel)
set_option maxRecDepth 20000 in
theorem gX4_row_X4_refuse : GoodIn wsX4_row (wsV RX4 65 RX4 yX4_refuse wsX4_refuse) := goodIn_app (goodIn_of _ (by decide +kernel)) ggX4_row_X4_refuse
theorem dX4_row_0 : decode cX4_row 0 = .ok (.iload_n 1, 1) := by decide +kernel
theorem dX4_row_1 : decode cX4_row 1 = .ok (.iconst 0, 1) := by decide +kernel
theorem dX4_row_2 : decode cX4_row 2 = .ok (.bipush 99, 2) := by decide +kernel
theorem dX4_row_4 : decode cX4_row 4 = .ok (.invokestatic 53, 3) := by decide +kernel
theorem dX4_row_7 : decode cX4_row 7 = .ok (.aload_n 0, 1) := by decide +kernel
theorem dX4_row_8 : decode cX4_row 8 = .ok (.getfield 230, 3) := by decide +kernel
theorem dX4_row_11 : decode cX4_row 11 = .ok (.aload_n 0, 1) := by decide +kernel
theorem dX4_row_12 : decode cX4_row 12 = .ok (.getfield 43, 3) := by decide +kernel
theorem dX4_row_15 : decode cX4_row 15 = .ok (.arraylength, 1) := by decide +kernel
theorem dX4_row_16 : decode cX4_row 16 = .ok (.if_icmp .ge 7, 3) := by decide +kernel
theorem dX4_row_19 : decode cX4_row 19 = .ok (.iconst 0, 1) := by decide +kernel
theorem dX4_row_20 : decode cX4_row 20 = .ok (.goto 5, 3) := by decide +kernel
theorem dX4_row_23 : decode cX4_row 23 = .ok (.bipush (-6), 2) := by decide +kernel
theorem dX4_row_25 : decode cX4_row 25 = .ok (.invokestatic 61, 3) := by decide +kernel
theorem dX4_row_28 : decode cX4_row 28 = .ok (.istore_n 2, 1) := by decide +kernel
theorem dX4_row_29 : decode cX4_row 29 = .ok (.iload_n 2, 1) := by decide +kernel
theorem dX4_row_30 : decode cX4_row 30 = .ok (.ifCond .eq 9, 3) := by decide +kernel
theorem dX4_row_33 : decode cX4_row 33 = .ok (.aload_n 0, 1) := by decide +kernel
theorem dX4_row_34 : decode cX4_row 34 = .ok (.iload_n 2, 1) := by decide +kernel
theorem dX4_row_35 : decode cX4_row 35 = .ok (.invokevirtual 65, 3) := by decide +kernel
theorem dX4_row_38 : decode cX4_row 38 = .ok (.ireturn, 1) := by decide +kernel
theorem dX4_row_39 : decode cX4_row 39 = .ok (.aload_n 0, 1) := by decide +kernel
theorem dX4_row_40 : decode cX4_row 40 = .ok (.getfield 43, 3) := by decide +kernel
theorem dX4_row_43 : decode cX4_row 43 = .ok (.aload_n 0, 1) := by decide +kernel
theorem dX4_row_44 : decode cX4_row 44 = .ok (.getfield 230, 3) := by decide +kernel
theorem dX4_row_47 : decode cX4_row 47 = .ok (.iload_n 1, 1) := by decide +kernel
theorem dX4_row_48 : decode cX4_row 48 = .ok (.iastore, 1) := by decide +kernel
theorem dX4_row_49 : decode cX4_row 49 = .ok (.aload_n 0, 1) := by decide +kernel
theorem dX4_row_50 : decode cX4_row 50 = .ok (.dup, 1) := by decide +kernel
theorem dX4_row_51 : decode cX4_row 51 = .ok (.getfield 230, 3) := by decide +kernel
theorem dX4_row_54 : decode cX4_row 54 = .ok (.iconst 1, 1) := by decide +kernel
theorem dX4_row_55 : decode cX4_row 55 = .ok (.iadd, 1) := by decide +kernel
theorem dX4_row_56 : decode cX4_row 56 = .ok (.putfield 230, 3) := by decide +kernel
theorem dX4_row_59 : decode cX4_row 59 = .ok (.aload_n 0, 1) := by decide +kernel
theorem dX4_row_60 : decode cX4_row 60 = .ok (.getfield 230, 3) := by decide +kernel
theorem dX4_row_63 : decode cX4_row 63 = .ok (.ireturn, 1) := by decide +kernel
set_option maxRecDepth 20000 in
theorem ggX4_judge_X4_firstWrongCourse : GoodIn wsX4_judge wsX4_firstWrongCourse := goodIn_r _ [6, 1, 7, 8, 9, 10, 11, 5, 12, 13, 14, 15, 16, 17, 18, 19, 20, 21, 22, 23, 24, 25, 26, 27, 28, 29, 30, 31, 32, 33, 34, 35, 36, 37, 38, 39, 40, 41, 42, 43, 44, 45, 46, 47, 48, 49, 50, 51, 52, 53, 54, 55, 56, 57, 58, 59, 60, 61, 62, 63, 64, 65, 66, 67, 68, 69, 70, 71, 72, 73, 74, 75, 76, 77, 78, 79, 80, 81, 82, 83, 84, 85, 86, 87, 88, 89, 90, 91, 92, 93, 94, 95, 96, 97, 98, 99, 100, 101, 102, 103, 104, 105, 106, 107, 108, 109, 110, 111, 112, 113, 114, 115] (by decide +kernel) (by decide +kernel)
set_option maxRecDepth 20000 in
theorem gX4_judge_X4_firstWrongCourse : GoodIn wsX4_judge (wsV RX4 233 RX4 yX4_firstWrongCourse wsX4_firstWrongCourse) := goodIn_app (goodIn_of _ (by decide +kernel)) ggX4_judge_X4_firstWrongCourse
theorem dX4_judge_0 : decode cX4_judge 0 = .ok (.aload_n 0, 1) := by decide +kernel
theorem dX4_judge_1 : decode cX4_judge 1 = .ok (.invokevirtual 233, 3) := by decide +kernel
theorem dX4_judge_4 : decode cX4_judge 4 = .ok (.istore_n 1, 1) := by decide +kernel
theorem dX4_judge_5 : decode cX4_judge 5 = .ok (.aload_n 0, 1) := by decide +kernel
theorem dX4_judge_6 : decode cX4_judge 6 = .ok (.iconst 0, 1) := by decide +kernel
theorem dX4_judge_7 : decode cX4_judge 7 = .ok (.putfield 230, 3) := by decide +kernel
theorem dX4_judge_10 : decode cX4_judge 10 = .ok (.iload_n 1, 1) := by decide +kernel
theorem dX4_judge_11 : decode cX4_judge 11 = .ok (.ireturn, 1) := by decide +kernel
theorem dX4_clear_0 : decode cX4_clear 0 = .ok (.aload_n 0, 1) := by decide +kernel
theorem dX4_clear_1 : decode cX4_clear 1 = .ok (.getfield 230, 3) := by decide +kernel
theorem dX4_clear_4 : decode cX4_clear 4 = .ok (.istore_n 1, 1) := by decide +kernel
theorem dX4_clear_5 : decode cX4_clear 5 = .ok (.aload_n 0, 1) := by decide +kernel
theorem dX4_clear_6 : decode cX4_clear 6 = .ok (.iconst 0, 1) := by decide +kernel
theorem dX4_clear_7 : decode cX4_clear 7 = .ok (.putfield 230, 3) := by decide +kernel
theorem dX4_clear_10 : decode cX4_clear 10 = .ok (.iload_n 1, 1) := by decide +kernel
theorem dX4_clear_11 : decode cX4_clear 11 = .ok (.ireturn, 1) := by decide +kernel
set_option maxRecDepth 20000 in
theorem ggX4_lots_X4_outside : GoodIn wsX4_lots wsX4_outside := goodIn_r _ [6, 7, 8, 5, 9, 10, 11, 12, 13, 14, 15] (by decide +kernel) (by decide +kernel)
set_option maxRecDepth 20000 in
theorem gX4_lots_X4_outside : GoodIn wsX4_lots (va_wsS RX4 53 yX4_outside wsX4_outside) := goodIn_app (goodIn_of _ (by decide +kernel)) ggX4_lots_X4_outside
set_option maxRecDepth 20000 in
theorem ggX4_lots_X4_noWhat : GoodIn wsX4_lots wsX4_noWhat := goodIn_r _ [18] (by decide +kernel) (by decide +kernel)
set_option maxRecDepth 20000 in
theorem gX4_lots_X4_noWhat : GoodIn wsX4_lots (va_wsS RX4 83 yX4_noWhat wsX4_noWhat) := goodIn_app (goodIn_of _ (by decide +kernel)) ggX4_lots_X4_noWhat
set_option maxRecDepth 20000 in
theorem ggX4_lots_X4_firstOf : GoodIn wsX4_lots wsX4_firstOf := goodIn_r _ [15] (by decide +kernel) (by decide +kernel)
set_option maxRecDepth 20000 in
theorem gX4_lots_X4_firstOf : GoodIn wsX4_lots (va_wsS RX4 61 yX4_firstOf wsX4_firstOf) := goodIn_app (goodIn_of _ (by decide +kernel)) ggX4_lots_X4_firstOf
set_option maxRecDepth 20000 in
theorem ggX4_lots_X4_refuse : GoodIn wsX4_lots wsX4_refuse := goodIn_r _ [22, 23, 125, 126, 127, 128, 129, 130, 131, 132, 133, 134, 135] (by decide +kernel) (by decide +kernel)
set_option maxRecDepth 20000 in
theorem gX4_lots_X4_refuse : GoodIn wsX4_lots (wsV RX4 65 RX4 yX4_refuse wsX4_refuse) := goodIn_app (goodIn_of _ (by decide +kernel)) ggX4_lots_X4_refuse
set_option maxRecDepth 20000 in
theorem ggX4_lots_X4_think : GoodIn wsX4_lots wsX4_think := goodIn_r _ [27, 2, 28, 29, 30, 31, 32, 33, 34, 35, 36, 37, 38, 39, 40, 41, 42, 43, 44, 45, 46, 47, 125, 126, 127, 128, 129, 130, 131, 132, 133, 134, 135, 137, 138, 139, 140, 141, 142, 143, 144, 145, 146, 147, 148] (by decide +kernel) (by decide +kernel)
set_option maxRecDepth 20000 in
theorem gX4_lots_X4_think : GoodIn wsX4_lots (wsV RX4 132 RX4 yX4_think wsX4_think) := goodIn_app (goodIn_of _ (by decide +kernel)) ggX4_lots_X4_think
set_option maxRecDepth 20000 in
theorem ggX4_lots_X0_startAnew : GoodIn wsX4_lots wsX0_startAnew := goodIn_r _ [52, 53, 54, 55, 51, 56, 57, 58, 59, 60, 137, 138, 139, 140, 141, 142, 143, 144, 145, 146, 147, 148, 136] (by decide +kernel) (by decide +kernel)
set_option maxRecDepth 20000 in
theorem gX4_lots_X0_startAnew : GoodIn wsX4_lots (wsV RX4 239 RX0 yX0_startAnew wsX0_startAnew) := goodIn_app (goodIn_of _ (by decide +kernel)) ggX4_lots_X0_startAnew
set_option maxRecDepth 20000 in
theorem ggX4_lots_X3_goDays : GoodIn wsX4_lots wsX3_goDays := goodIn_r _ [64, 65, 66, 67, 32, 68, 37, 69, 70, 71, 72, 73, 74, 35, 75, 76, 77, 78, 79, 80, 81, 82, 36, 83, 84, 85, 86, 39, 46, 87, 88, 89, 90, 91, 92, 93, 94, 47, 44, 45, 95, 96, 97, 98, 99, 100, 101, 102, 103, 104, 105, 106, 107, 5, 108, 109, 110, 111, 112, 113, 114, 38, 115, 116, 117, 118, 119, 120, 137, 138, 139, 140, 141, 142, 143, 144, 145, 146, 147, 148] (by decide +kernel) (by decide +kernel)
set_option maxRecDepth 20000 in
theorem gX4_lots_X3_goDays : GoodIn wsX4_lots (wsV RX4 126 RX3 yX3_goDays wsX3_goDays) := goodIn_app (goodIn_of _ (by decide +kernel)) ggX4_lots_X3_goDays
set_option maxRecDepth 20000 in
theorem ggX4_lots_X3_placeHere : GoodIn wsX4_lots wsX3_placeHere := goodIn_r _ [124, 34, 39, 37, 137, 138, 139, 140, 141, 142, 143, 144, 145, 146, 147, 148] (by decide +kernel) (by decide +kernel)
set_option maxRecDepth 20000 in
theorem gX4_lots_X3_placeHere : GoodIn wsX4_lots (wsV RX4 243 RX3 yX3_placeHere wsX3_placeHere) := goodIn_app (goodIn_of _ (by decide +kernel)) ggX4_lots_X3_placeHere
theorem dX4_lots_0 : decode cX4_lots 0 = .ok (.iload_n 1, 1) := by decide +kernel
theorem dX4_lots_1 : decode cX4_lots 1 = .ok (.iconst 1, 1) := by decide +kernel
theorem dX4_lots_2 : decode cX4_lots 2 = .ok (.bipush 20, 2) := by decide +kernel
theorem dX4_lots_4 : decode cX4_lots 4 = .ok (.invokestatic 53, 3) := by decide +kernel
theorem dX4_lots_7 : decode cX4_lots 7 = .ok (.iload_n 3, 1) := by decide +kernel
theorem dX4_lots_8 : decode cX4_lots 8 = .ok (.iconst 2, 1) := by decide +kernel
theorem dX4_lots_9 : decode cX4_lots 9 = .ok (.invokestatic 83, 3) := by decide +kernel
theorem dX4_lots_12 : decode cX4_lots 12 = .ok (.invokestatic 61, 3) := by decide +kernel
theorem dX4_lots_15 : decode cX4_lots 15 = .ok (.istore 4, 2) := by decide +kernel
theorem dX4_lots_17 : decode cX4_lots 17 = .ok (.iload 4, 2) := by decide +kernel
theorem dX4_lots_19 : decode cX4_lots 19 = .ok (.ifCond .eq 10, 3) := by decide +kernel
theorem dX4_lots_22 : decode cX4_lots 22 = .ok (.aload_n 0, 1) := by decide +kernel
theorem dX4_lots_23 : decode cX4_lots 23 = .ok (.iload 4, 2) := by decide +kernel
theorem dX4_lots_25 : decode cX4_lots 25 = .ok (.invokevirtual 65, 3) := by decide +kernel
theorem dX4_lots_28 : decode cX4_lots 28 = .ok (.ireturn, 1) := by decide +kernel
theorem dX4_lots_29 : decode cX4_lots 29 = .ok (.aload_n 0, 1) := by decide +kernel
theorem dX4_lots_30 : decode cX4_lots 30 = .ok (.getfield 39, 3) := by decide +kernel
theorem dX4_lots_33 : decode cX4_lots 33 = .ok (.iload_n 2, 1) := by decide +kernel
theorem dX4_lots_34 : decode cX4_lots 34 = .ok (.putfield 236, 3) := by decide +kernel
theorem dX4_lots_37 : decode cX4_lots 37 = .ok (.iconst 0, 1) := by decide +kernel
theorem dX4_lots_38 : decode cX4_lots 38 = .ok (.istore 5, 2) := by decide +kernel
theorem dX4_lots_40 : decode cX4_lots 40 = .ok (.iconst 0, 1) := by decide +kernel
theorem dX4_lots_41 : decode cX4_lots 41 = .ok (.istore 6, 2) := by decide +kernel
theorem dX4_lots_43 : decode cX4_lots 43 = .ok (.iconst 0, 1) := by decide +kernel
theorem dX4_lots_44 : decode cX4_lots 44 = .ok (.istore 7, 2) := by decide +kernel
theorem dX4_lots_46 : decode cX4_lots 46 = .ok (.iload 7, 2) := by decide +kernel
theorem dX4_lots_48 : decode cX4_lots 48 = .ok (.iload_n 1, 1) := by decide +kernel
theorem dX4_lots_49 : decode cX4_lots 49 = .ok (.if_icmp .ge 61, 3) := by decide +kernel
theorem dX4_lots_52 : decode cX4_lots 52 = .ok (.aload_n 0, 1) := by decide +kernel
theorem dX4_lots_53 : decode cX4_lots 53 = .ok (.invokevirtual 132, 3) := by decide +kernel
theorem dX4_lots_56 : decode cX4_lots 56 = .ok (.aload_n 0, 1) := by decide +kernel
theorem dX4_lots_57 : decode cX4_lots 57 = .ok (.getfield 39, 3) := by decide +kernel
theorem dX4_lots_60 : decode cX4_lots 60 = .ok (.aload_n 0, 1) := by decide +kernel
theorem dX4_lots_61 : decode cX4_lots 61 = .ok (.getfield 16, 3) := by decide +kernel
theorem dX4_lots_64 : decode cX4_lots 64 = .ok (.invokevirtual 239, 3) := by decide +kernel
theorem dX4_lots_67 : decode cX4_lots 67 = .ok (.aload_n 0, 1) := by decide +kernel
theorem dX4_lots_68 : decode cX4_lots 68 = .ok (.getfield 16, 3) := by decide +kernel
theorem dX4_lots_71 : decode cX4_lots 71 = .ok (.bipush 12, 2) := by decide +kernel
theorem dX4_lots_73 : decode cX4_lots 73 = .ok (.invokevirtual 126, 3) := by decide +kernel
theorem dX4_lots_76 : decode cX4_lots 76 = .ok (.pop, 1) := by decide +kernel
theorem dX4_lots_77 : decode cX4_lots 77 = .ok (.aload_n 0, 1) := by decide +kernel
theorem dX4_lots_78 : decode cX4_lots 78 = .ok (.getfield 16, 3) := by decide +kernel
theorem dX4_lots_81 : decode cX4_lots 81 = .ok (.invokevirtual 243, 3) := by decide +kernel
theorem dX4_lots_84 : decode cX4_lots 84 = .ok (.bipush (-9), 2) := by decide +kernel
theorem dX4_lots_86 : decode cX4_lots 86 = .ok (.if_icmp .eq 6, 3) := by decide +kernel
theorem dX4_lots_89 : decode cX4_lots 89 = .ok (.iinc 5 1, 3) := by decide +kernel
theorem dX4_lots_92 : decode cX4_lots 92 = .ok (.iload 6, 2) := by decide +kernel
theorem dX4_lots_94 : decode cX4_lots 94 = .ok (.aload_n 0, 1) := by decide +kernel
theorem dX4_lots_95 : decode cX4_lots 95 = .ok (.getfield 16, 3) := by decide +kernel
theorem dX4_lots_98 : decode cX4_lots 98 = .ok (.getfield 120, 3) := by decide +kernel
theorem dX4_lots_101 : decode cX4_lots 101 = .ok (.iadd, 1) := by decide +kernel
theorem dX4_lots_102 : decode cX4_lots 102 = .ok (.istore 6, 2) := by decide +kernel
theorem dX4_lots_104 : decode cX4_lots 104 = .ok (.iinc 7 1, 3) := by decide +kernel
theorem dX4_lots_107 : decode cX4_lots 107 = .ok (.goto (-61), 3) := by decide +kernel
theorem dX4_lots_110 : decode cX4_lots 110 = .ok (.iload_n 3, 1) := by decide +kernel
theorem dX4_lots_111 : decode cX4_lots 111 = .ok (.ifCond .ne 8, 3) := by decide +kernel
theorem dX4_lots_114 : decode cX4_lots 114 = .ok (.iload 5, 2) := by decide +kernel
theorem dX4_lots_116 : decode cX4_lots 116 = .ok (.goto 5, 3) := by decide +kernel
theorem dX4_lots_119 : decode cX4_lots 119 = .ok (.iload 6, 2) := by decide +kernel
theorem dX4_lots_121 : decode cX4_lots 121 = .ok (.ireturn, 1) := by decide +kernel
set_option maxRecDepth 20000 in
theorem ggX4_image_X3_becomeLike : GoodIn wsX4_image wsX3_becomeLike := goodIn_r _ [8, 9, 10, 11, 12, 13, 14, 15, 16, 17, 18, 19, 20, 21, 22, 34, 35, 36, 37, 38, 39, 40, 41, 42, 43, 44, 45] (by decide +kernel) (by decide +kernel)
set_option maxRecDepth 20000 in
theorem gX4_image_X3_becomeLike : GoodIn wsX4_image (wsV RX4 246 RX3 yX3_becomeLike wsX3_becomeLike) := goodIn_app (goodIn_of _ (by decide +kernel)) ggX4_image_X3_becomeLike
theorem dX4_image_0 : decode cX4_image 0 = .ok (.aload_n 0, 1) := by decide +kernel
theorem dX4_image_1 : decode cX4_image 1 = .ok (.getfield 19, 3) := by decide +kernel
theorem dX4_image_4 : decode cX4_image 4 = .ok (.aload_n 0, 1) := by decide +kernel
theorem dX4_image_5 : decode cX4_image 5 = .ok (.getfield 10, 3) := by decide +kernel
theorem dX4_image_8 : decode cX4_image 8 = .ok (.invokevirtual 246, 3) := by decide +kernel
theorem dX4_image_11 : decode cX4_image 11 = .ok (.aload_n 0, 1) := by decide +kernel
theorem dX4_image_12 : decode cX4_image 12 = .ok (.iconst 1, 1) := by decide +kernel
theorem dX4_image_13 : decode cX4_image 13 = .ok (.putfield 249, 3) := by decide +kernel
theorem dX4_image_16 : decode cX4_image 16 = .ok (.aload_n 0, 1) := by decide +kernel
theorem dX4_image_17 : decode cX4_image 17 = .ok (.getfield 10, 3) := by decide +kernel
theorem dX4_image_20 : decode cX4_image 20 = .ok (.getfield 253, 3) := by decide +kernel
theorem dX4_image_23 : decode cX4_image 23 = .ok (.ireturn, 1) := by decide +kernel
set_option maxRecDepth 20000 in
theorem ggX4_on_X4_refuse : GoodIn wsX4_on wsX4_refuse := goodIn_r _ [8, 9, 29, 30, 31, 32, 33, 34, 35, 36, 37, 38, 39] (by decide +kernel) (by decide +kernel)
set_option maxRecDepth 20000 in
theorem gX4_on_X4_refuse : GoodIn wsX4_on (wsV RX4 65 RX4 yX4_refuse wsX4_refuse) := goodIn_app (goodIn_of _ (by decide +kernel)) ggX4_on_X4_refuse
set_option maxRecDepth 20000 in
theorem ggX4_on_X3_becomeLike : GoodIn wsX4_on wsX3_becomeLike := goodIn_r _ [14, 15, 16, 17, 18, 19, 20, 21, 22, 23, 24, 25, 26, 27, 28, 40, 41, 42, 43, 44, 45, 46, 47, 48, 49, 50, 51] (by decide +kernel) (by decide +kernel)
set_option maxRecDepth 20000 in
theorem gX4_on_X3_becomeLike : GoodIn wsX4_on (wsV RX4 246 RX3 yX3_becomeLike wsX3_becomeLike) := goodIn_app (goodIn_of _ (by decide +kernel)) ggX4_on_X3_becomeLike
theorem dX4_on_0 : decode cX4_on 0 = .ok (.aload_n 0, 1) := by decide +kernel
theorem dX4_on_1 : decode cX4_on 1 = .ok (.getfield 249, 3) := by decide +kernel
theorem dX4_on_4 : decode cX4_on 4 = .ok (.ifCond .ne 10, 3) := by decide +kernel
theorem dX4_on_7 : decode cX4_on 7 = .ok (.aload_n 0, 1) := by decide +kernel
theorem dX4_on_8 : decode cX4_on 8 = .ok (.bipush (-3), 2) := by decide +kernel
theorem dX4_on_10 : decode cX4_on 10 = .ok (.invokevirtual 65, 3) := by decide +kernel
theorem dX4_on_13 : decode cX4_on 13 = .ok (.ireturn, 1) := by decide +kernel
theorem dX4_on_14 : decode cX4_on 14 = .ok (.aload_n 0, 1) := by decide +kernel
theorem dX4_on_15 : decode cX4_on 15 = .ok (.getfield 10, 3) := by decide +kernel
theorem dX4_on_18 : decode cX4_on 18 = .ok (.aload_n 0, 1) := by decide +kernel
theorem dX4_on_19 : decode cX4_on 19 = .ok (.getfield 19, 3) := by decide +kernel
theorem dX4_on_22 : decode cX4_on 22 = .ok (.invokevirtual 246, 3) := by decide +kernel
theorem dX4_on_25 : decode cX4_on 25 = .ok (.aload_n 0, 1) := by decide +kernel
theorem dX4_on_26 : decode cX4_on 26 = .ok (.getfield 10, 3) := by decide +kernel
theorem dX4_on_29 : decode cX4_on 29 = .ok (.getfield 253, 3) := by decide +kernel
theorem dX4_on_32 : decode cX4_on 32 = .ok (.ireturn, 1) := by decide +kernel
set_option maxRecDepth 20000 in
theorem ggX4_count_X3_seaOfAll : GoodIn wsX4_count wsX3_seaOfAll := goodIn_r _ [9, 10, 11, 23, 24, 25, 26, 27, 28, 29, 30, 31, 32, 33, 34] (by decide +kernel) (by decide +kernel)
set_option maxRecDepth 20000 in
theorem gX4_count_X3_seaOfAll : GoodIn wsX4_count (wsV RX4 259 RX3 yX3_seaOfAll wsX3_seaOfAll) := goodIn_app (goodIn_of _ (by decide +kernel)) ggX4_count_X3_seaOfAll
theorem dX4_count_0 : decode cX4_count 0 = .ok (.iload_n 1, 1) := by decide +kernel
theorem dX4_count_1 : decode cX4_count 1 = .ok (.bipush 11, 2) := by decide +kernel
theorem dX4_count_3 : decode cX4_count 3 = .ok (.isub, 1) := by decide +kernel
theorem dX4_count_4 : decode cX4_count 4 = .ok (.iconst 1, 1) := by decide +kernel
theorem dX4_count_5 : decode cX4_count 5 = .ok (.iadd, 1) := by decide +kernel
theorem dX4_count_6 : decode cX4_count 6 = .ok (.istore_n 2, 1) := by decide +kernel
theorem dX4_count_7 : decode cX4_count 7 = .ok (.iload_n 1, 1) := by decide +kernel
theorem dX4_count_8 : decode cX4_count 8 = .ok (.bipush 11, 2) := by decide +kernel
theorem dX4_count_10 : decode cX4_count 10 = .ok (.if_icmp .lt 19, 3) := by decide +kernel
theorem dX4_count_13 : decode cX4_count 13 = .ok (.iload_n 2, 1) := by decide +kernel
theorem dX4_count_14 : decode cX4_count 14 = .ok (.aload_n 0, 1) := by decide +kernel
theorem dX4_count_15 : decode cX4_count 15 = .ok (.getfield 50, 3) := by decide +kernel
theorem dX4_count_18 : decode cX4_count 18 = .ok (.arraylength, 1) := by decide +kernel
theorem dX4_count_19 : decode cX4_count 19 = .ok (.if_icmp .ge 10, 3) := by decide +kernel
theorem dX4_count_22 : decode cX4_count 22 = .ok (.aload_n 0, 1) := by decide +kernel
theorem dX4_count_23 : decode cX4_count 23 = .ok (.getfield 50, 3) := by decide +kernel
theorem dX4_count_26 : decode cX4_count 26 = .ok (.iload_n 2, 1) := by decide +kernel
theorem dX4_count_27 : decode cX4_count 27 = .ok (.iaload, 1) := by decide +kernel
theorem dX4_count_28 : decode cX4_count 28 = .ok (.ireturn, 1) := by decide +kernel
theorem dX4_count_29 : decode cX4_count 29 = .ok (.iload_n 1, 1) := by decide +kernel
theorem dX4_count_30 : decode cX4_count 30 = .ok (.tableswitch 107 0 7 #[46, 54, 62, 70, 78, 86, 94, 99], 46) := by decide +kernel
theorem dX4_count_76 : decode cX4_count 76 = .ok (.aload_n 0, 1) := by decide +kernel
theorem dX4_count_77 : decode cX4_count 77 = .ok (.getfield 10, 3) := by decide +kernel
theorem dX4_count_80 : decode cX4_count 80 = .ok (.getfield 177, 3) := by decide +kernel
theorem dX4_count_83 : decode cX4_count 83 = .ok (.ireturn, 1) := by decide +kernel
theorem dX4_count_84 : decode cX4_count 84 = .ok (.aload_n 0, 1) := by decide +kernel
theorem dX4_count_85 : decode cX4_count 85 = .ok (.getfield 10, 3) := by decide +kernel
theorem dX4_count_88 : decode cX4_count 88 = .ok (.getfield 154, 3) := by decide +kernel
theorem dX4_count_91 : decode cX4_count 91 = .ok (.ireturn, 1) := by decide +kernel
theorem dX4_count_92 : decode cX4_count 92 = .ok (.aload_n 0, 1) := by decide +kernel
theorem dX4_count_93 : decode cX4_count 93 = .ok (.getfield 10, 3) := by decide +kernel
theorem dX4_count_96 : decode cX4_count 96 = .ok (.getfield 253, 3) := by decide +kernel
theorem dX4_count_99 : decode cX4_count 99 = .ok (.ireturn, 1) := by decide +kernel
theorem dX4_count_100 : decode cX4_count 100 = .ok (.aload_n 0, 1) := by decide +kernel
theorem dX4_count_101 : decode cX4_count 101 = .ok (.getfield 10, 3) := by decide +kernel
theorem dX4_count_104 : decode cX4_count 104 = .ok (.getfield 120, 3) := by decide +kernel
theorem dX4_count_107 : decode cX4_count 107 = .ok (.ireturn, 1) := by decide +kernel
theorem dX4_count_108 : decode cX4_count 108 = .ok (.aload_n 0, 1) := by decide +kernel
theorem dX4_count_109 : decode cX4_count 109 = .ok (.getfield 10, 3) := by decide +kernel
theorem dX4_count_112 : decode cX4_count 112 = .ok (.getfield 256, 3) := by decide +kernel
theorem dX4_count_115 : decode cX4_count 115 = .ok (.ireturn, 1) := by decide +kernel
theorem dX4_count_116 : decode cX4_count 116 = .ok (.aload_n 0, 1) := by decide +kernel
theorem dX4_count_117 : decode cX4_count 117 = .ok (.getfield 10, 3) := by decide +kernel
theorem dX4_count_120 : decode cX4_count 120 = .ok (.invokevirtual 259, 3) := by decide +kernel
theorem dX4_count_123 : decode cX4_count 123 = .ok (.ireturn, 1) := by decide +kernel
theorem dX4_count_124 : decode cX4_count 124 = .ok (.aload_n 0, 1) := by decide +kernel
theorem dX4_count_125 : decode cX4_count 125 = .ok (.getfield 230, 3) := by decide +kernel
theorem dX4_count_128 : decode cX4_count 128 = .ok (.ireturn, 1) := by decide +kernel
theorem dX4_count_129 : decode cX4_count 129 = .ok (.aload_n 0, 1) := by decide +kernel
theorem dX4_count_130 : decode cX4_count 130 = .ok (.getfield 25, 3) := by decide +kernel
theorem dX4_count_133 : decode cX4_count 133 = .ok (.getfield 57, 3) := by decide +kernel
theorem dX4_count_136 : decode cX4_count 136 = .ok (.ireturn, 1) := by decide +kernel
theorem dX4_count_137 : decode cX4_count 137 = .ok (.bipush (-9), 2) := by decide +kernel
theorem dX4_count_139 : decode cX4_count 139 = .ok (.ireturn, 1) := by decide +kernel
theorem dX4_refuse_0 : decode cX4_refuse 0 = .ok (.iload_n 1, 1) := by decide +kernel
theorem dX4_refuse_1 : decode cX4_refuse 1 = .ok (.ineg, 1) := by decide +kernel
theorem dX4_refuse_2 : decode cX4_refuse 2 = .ok (.istore_n 2, 1) := by decide +kernel
theorem dX4_refuse_3 : decode cX4_refuse 3 = .ok (.iload_n 2, 1) := by decide +kernel
theorem dX4_refuse_4 : decode cX4_refuse 4 = .ok (.ifCond .lt 22, 3) := by decide +kernel
theorem dX4_refuse_7 : decode cX4_refuse 7 = .ok (.iload_n 2, 1) := by decide +kernel
theorem dX4_refuse_8 : decode cX4_refuse 8 = .ok (.aload_n 0, 1) := by decide +kernel
theorem dX4_refuse_9 : decode cX4_refuse 9 = .ok (.getfield 50, 3) := by decide +kernel
theorem dX4_refuse_12 : decode cX4_refuse 12 = .ok (.arraylength, 1) := by decide +kernel
theorem dX4_refuse_13 : decode cX4_refuse 13 = .ok (.if_icmp .ge 13, 3) := by decide +kernel
theorem dX4_refuse_16 : decode cX4_refuse 16 = .ok (.aload_n 0, 1) := by decide +kernel
theorem dX4_refuse_17 : decode cX4_refuse 17 = .ok (.getfield 50, 3) := by decide +kernel
theorem dX4_refuse_20 : decode cX4_refuse 20 = .ok (.iload_n 2, 1) := by decide +kernel
theorem dX4_refuse_21 : decode cX4_refuse 21 = .ok (.dup2, 1) := by decide +kernel
theorem dX4_refuse_22 : decode cX4_refuse 22 = .ok (.iaload, 1) := by decide +kernel
theorem dX4_refuse_23 : decode cX4_refuse 23 = .ok (.iconst 1, 1) := by decide +kernel
theorem dX4_refuse_24 : decode cX4_refuse 24 = .ok (.iadd, 1) := by decide +kernel
theorem dX4_refuse_25 : decode cX4_refuse 25 = .ok (.iastore, 1) := by decide +kernel
theorem dX4_refuse_26 : decode cX4_refuse 26 = .ok (.iload_n 1, 1) := by decide +kernel
theorem dX4_refuse_27 : decode cX4_refuse 27 = .ok (.ireturn, 1) := by decide +kernel
set_option maxRecDepth 20000 in
theorem ggX4_refuseSigned_X4_refuse : GoodIn wsX4_refuseSigned wsX4_refuse := goodIn_r _ [6, 7, 8, 9, 10, 11, 12, 13, 14, 15, 16, 17, 18] (by decide +kernel) (by decide +kernel)
set_option maxRecDepth 20000 in
theorem gX4_refuseSigned_X4_refuse : GoodIn wsX4_refuseSigned (wsV RX4 65 RX4 yX4_refuse wsX4_refuse) := goodIn_app (goodIn_of _ (by decide +kernel)) ggX4_refuseSigned_X4_refuse
theorem dX4_refuseSigned_0 : decode cX4_refuseSigned 0 = .ok (.ldc_w 262, 3) := by decide +kernel
theorem dX4_refuseSigned_3 : decode cX4_refuseSigned 3 = .ok (.aload_n 0, 1) := by decide +kernel
theorem dX4_refuseSigned_4 : decode cX4_refuseSigned 4 = .ok (.iload_n 1, 1) := by decide +kernel
theorem dX4_refuseSigned_5 : decode cX4_refuseSigned 5 = .ok (.invokevirtual 65, 3) := by decide +kernel
theorem dX4_refuseSigned_8 : decode cX4_refuseSigned 8 = .ok (.isub, 1) := by decide +kernel
theorem dX4_refuseSigned_9 : decode cX4_refuseSigned 9 = .ok (.ireturn, 1) := by decide +kernel
set_option maxRecDepth 20000 in
theorem ggX4_refuseLong_X4_refuse : GoodIn wsX4_refuseLong wsX4_refuse := goodIn_r _ [6, 7, 8, 9, 10, 11, 12, 13, 14, 15, 16, 17, 18] (by decide +kernel) (by decide +kernel)
set_option maxRecDepth 20000 in
theorem gX4_refuseLong_X4_refuse : GoodIn wsX4_refuseLong (wsV RX4 65 RX4 yX4_refuse wsX4_refuse) := goodIn_app (goodIn_of _ (by decide +kernel)) ggX4_refuseLong_X4_refuse
theorem dX4_refuseLong_0 : decode cX4_refuseLong 0 = .ok (.ldc2_w 263, 3) := by decide +kernel
theorem dX4_refuseLong_3 : decode cX4_refuseLong 3 = .ok (.aload_n 0, 1) := by decide +kernel
theorem dX4_refuseLong_4 : decode cX4_refuseLong 4 = .ok (.iload_n 1, 1) := by decide +kernel
theorem dX4_refuseLong_5 : decode cX4_refuseLong 5 = .ok (.invokevirtual 65, 3) := by decide +kernel
theorem dX4_refuseLong_8 : decode cX4_refuseLong 8 = .ok (.i2l, 1) := by decide +kernel
theorem dX4_refuseLong_9 : decode cX4_refuseLong 9 = .ok (.lsub, 1) := by decide +kernel
theorem dX4_refuseLong_10 : decode cX4_refuseLong 10 = .ok (.lreturn, 1) := by decide +kernel
theorem dX4_noHand_0 : decode cX4_noHand 0 = .ok (.iload_n 1, 1) := by decide +kernel
theorem dX4_noHand_1 : decode cX4_noHand 1 = .ok (.ifCond .lt 14, 3) := by decide +kernel
theorem dX4_noHand_4 : decode cX4_noHand 4 = .ok (.iload_n 1, 1) := by decide +kernel
theorem dX4_noHand_5 : decode cX4_noHand 5 = .ok (.aload_n 0, 1) := by decide +kernel
theorem dX4_noHand_6 : decode cX4_noHand 6 = .ok (.getfield 10, 3) := by decide +kernel
theorem dX4_noHand_9 : decode cX4_noHand 9 = .ok (.getfield 154, 3) := by decide +kernel
theorem dX4_noHand_12 : decode cX4_noHand 12 = .ok (.if_icmp .lt 7, 3) := by decide +kernel
theorem dX4_noHand_15 : decode cX4_noHand 15 = .ok (.iconst (-1), 1) := by decide +kernel
theorem dX4_noHand_16 : decode cX4_noHand 16 = .ok (.goto 4, 3) := by decide +kernel
theorem dX4_noHand_19 : decode cX4_noHand 19 = .ok (.iconst 0, 1) := by decide +kernel
theorem dX4_noHand_20 : decode cX4_noHand 20 = .ok (.ireturn, 1) := by decide +kernel
theorem dX4_noPlace_0 : decode cX4_noPlace 0 = .ok (.iload_n 1, 1) := by decide +kernel
theorem dX4_noPlace_1 : decode cX4_noPlace 1 = .ok (.ifCond .lt 14, 3) := by decide +kernel
theorem dX4_noPlace_4 : decode cX4_noPlace 4 = .ok (.iload_n 1, 1) := by decide +kernel
theorem dX4_noPlace_5 : decode cX4_noPlace 5 = .ok (.aload_n 0, 1) := by decide +kernel
theorem dX4_noPlace_6 : decode cX4_noPlace 6 = .ok (.getfield 10, 3) := by decide +kernel
theorem dX4_noPlace_9 : decode cX4_noPlace 9 = .ok (.getfield 177, 3) := by decide +kernel
theorem dX4_noPlace_12 : decode cX4_noPlace 12 = .ok (.if_icmp .lt 7, 3) := by decide +kernel
theorem dX4_noPlace_15 : decode cX4_noPlace 15 = .ok (.iconst (-1), 1) := by decide +kernel
theorem dX4_noPlace_16 : decode cX4_noPlace 16 = .ok (.goto 4, 3) := by decide +kernel
theorem dX4_noPlace_19 : decode cX4_noPlace 19 = .ok (.iconst 0, 1) := by decide +kernel
theorem dX4_noPlace_20 : decode cX4_noPlace 20 = .ok (.ireturn, 1) := by decide +kernel
theorem dX4_noWhat_0 : decode cX4_noWhat 0 = .ok (.iload_n 0, 1) := by decide +kernel
theorem dX4_noWhat_1 : decode cX4_noWhat 1 = .ok (.ifCond .lt 8, 3) := by decide +kernel
theorem dX4_noWhat_4 : decode cX4_noWhat 4 = .ok (.iload_n 0, 1) := by decide +kernel
theorem dX4_noWhat_5 : decode cX4_noWhat 5 = .ok (.iload_n 1, 1) := by decide +kernel
theorem dX4_noWhat_6 : decode cX4_noWhat 6 = .ok (.if_icmp .lt 8, 3) := by decide +kernel
theorem dX4_noWhat_9 : decode cX4_noWhat 9 = .ok (.bipush (-2), 2) := by decide +kernel
theorem dX4_noWhat_11 : decode cX4_noWhat 11 = .ok (.goto 4, 3) := by decide +kernel
theorem dX4_noWhat_14 : decode cX4_noWhat 14 = .ok (.iconst 0, 1) := by decide +kernel
theorem dX4_noWhat_15 : decode cX4_noWhat 15 = .ok (.ireturn, 1) := by decide +kernel
theorem dX4_below_0 : decode cX4_below 0 = .ok (.iload_n 0, 1) := by decide +kernel
theorem dX4_below_1 : decode cX4_below 1 = .ok (.iload_n 1, 1) := by decide +kernel
theorem dX4_below_2 : decode cX4_below 2 = .ok (.if_icmp .ge 8, 3) := by decide +kernel
theorem dX4_below_5 : decode cX4_below 5 = .ok (.bipush (-4), 2) := by decide +kernel
theorem dX4_below_7 : decode cX4_below 7 = .ok (.goto 4, 3) := by decide +kernel
theorem dX4_below_10 : decode cX4_below 10 = .ok (.iconst 0, 1) := by decide +kernel
theorem dX4_below_11 : decode cX4_below 11 = .ok (.ireturn, 1) := by decide +kernel
theorem dX4_above_0 : decode cX4_above 0 = .ok (.iload_n 0, 1) := by decide +kernel
theorem dX4_above_1 : decode cX4_above 1 = .ok (.iload_n 1, 1) := by decide +kernel
theorem dX4_above_2 : decode cX4_above 2 = .ok (.if_icmp .le 8, 3) := by decide +kernel
theorem dX4_above_5 : decode cX4_above 5 = .ok (.bipush (-6), 2) := by decide +kernel
theorem dX4_above_7 : decode cX4_above 7 = .ok (.goto 4, 3) := by decide +kernel
theorem dX4_above_10 : decode cX4_above 10 = .ok (.iconst 0, 1) := by decide +kernel
theorem dX4_above_11 : decode cX4_above 11 = .ok (.ireturn, 1) := by decide +kernel
set_option maxRecDepth 20000 in
theorem ggX4_outside_X4_below : GoodIn wsX4_outside wsX4_below := goodIn_r _ [4] (by decide +kernel) (by decide +kernel)
set_option maxRecDepth 20000 in
theorem gX4_outside_X4_below : GoodIn wsX4_outside (va_wsS RX4 198 yX4_below wsX4_below) := goodIn_app (goodIn_of _ (by decide +kernel)) ggX4_outside_X4_below
set_option maxRecDepth 20000 in
theorem ggX4_outside_X4_above : GoodIn wsX4_outside wsX4_above := goodIn_r _ [7] (by decide +kernel) (by decide +kernel)
set_option maxRecDepth 20000 in
theorem gX4_outside_X4_above : GoodIn wsX4_outside (va_wsS RX4 201 yX4_above wsX4_above) := goodIn_app (goodIn_of _ (by decide +kernel)) ggX4_outside_X4_above
set_option maxRecDepth 20000 in
theorem ggX4_outside_X4_firstOf : GoodIn wsX4_outside wsX4_firstOf := goodIn_r _ [10] (by decide +kernel) (by decide +kernel)
set_option maxRecDepth 20000 in
theorem gX4_outside_X4_firstOf : GoodIn wsX4_outside (va_wsS RX4 61 yX4_firstOf wsX4_firstOf) := goodIn_app (goodIn_of _ (by decide +kernel)) ggX4_outside_X4_firstOf
theorem dX4_outside_0 : decode cX4_outside 0 = .ok (.iload_n 0, 1) := by decide +kernel
theorem dX4_outside_1 : decode cX4_outside 1 = .ok (.iload_n 1, 1) := by decide +kernel
theorem dX4_outside_2 : decode cX4_outside 2 = .ok (.invokestatic 198, 3) := by decide +kernel
theorem dX4_outside_5 : decode cX4_outside 5 = .ok (.iload_n 0, 1) := by decide +kernel
theorem dX4_outside_6 : decode cX4_outside 6 = .ok (.iload_n 2, 1) := by decide +kernel
theorem dX4_outside_7 : decode cX4_outside 7 = .ok (.invokestatic 201, 3) := by decide +kernel
theorem dX4_outside_10 : decode cX4_outside 10 = .ok (.invokestatic 61, 3) := by decide +kernel
theorem dX4_outside_13 : decode cX4_outside 13 = .ok (.ireturn, 1) := by decide +kernel
theorem dX4_firstOf_0 : decode cX4_firstOf 0 = .ok (.iload_n 0, 1) := by decide +kernel
theorem dX4_firstOf_1 : decode cX4_firstOf 1 = .ok (.ifCond .eq 7, 3) := by decide +kernel
theorem dX4_firstOf_4 : decode cX4_firstOf 4 = .ok (.iload_n 0, 1) := by decide +kernel
theorem dX4_firstOf_5 : decode cX4_firstOf 5 = .ok (.goto 4, 3) := by decide +kernel
theorem dX4_firstOf_8 : decode cX4_firstOf 8 = .ok (.iload_n 1, 1) := by decide +kernel
theorem dX4_firstOf_9 : decode cX4_firstOf 9 = .ok (.ireturn, 1) := by decide +kernel
set_option maxRecDepth 20000 in
theorem ggX4_carryOutText_X4_think : GoodIn wsX4_carryOutText wsX4_think := goodIn_r _ [8, 3, 2, 9, 10, 11, 12, 13, 14, 15, 16, 17, 18, 19, 20, 21, 22, 23, 24, 25, 26, 27, 235, 236, 237, 238, 239, 240, 241, 242, 243, 244, 245, 248, 249, 250, 251, 252, 253, 254, 255, 256, 257, 258, 259] (by decide +kernel) (by decide +kernel)
set_option maxRecDepth 20000 in
theorem gX4_carryOutText_X4_think : GoodIn wsX4_carryOutText (wsV RX4 132 RX4 yX4_think wsX4_think) := goodIn_app (goodIn_of _ (by decide +kernel)) ggX4_carryOutText_X4_think
set_option maxRecDepth 20000 in
theorem ggX4_carryOutText_X4_obey : GoodIn wsX4_carryOutText wsX4_obey := goodIn_r _ [31, 1, 3, 32, 33, 34, 35, 36, 37, 38, 39, 40, 41, 42, 43, 44, 45, 46, 47, 48, 49, 50, 12, 51, 14, 19, 52, 53, 7, 54, 55, 56, 57, 58, 59, 60, 61, 62, 63, 64, 65, 66, 67, 68, 69, 70, 71, 72, 73, 74, 75, 76, 77, 78, 79, 80, 81, 82, 83, 84, 85, 86, 87, 88, 89, 90, 91, 92, 93, 94, 95, 96, 97, 98, 99, 100, 101, 102, 103, 104, 105, 106, 107, 108, 109, 110, 111, 112, 113, 114, 115, 116, 117, 118, 119, 120, 121, 122, 123, 124, 125, 126, 127, 128, 129, 130, 131, 132, 133, 134, 135, 136, 137, 138, 139, 140, 141, 142, 143, 144, 145, 146, 147, 148, 15, 24, 25, 26, 27, 16, 149, 150, 151, 152, 153, 154, 155, 156, 18, 157, 158, 159, 160, 161, 162, 163, 164, 17, 165, 166, 167, 168, 169, 170, 171, 172, 173, 174, 175, 176, 177, 178, 179, 180, 181, 182, 183, 184, 185, 186, 187, 188, 189, 190, 191, 192, 193, 194, 195, 196, 197, 198, 199, 200, 201, 202, 203, 204, 205, 206, 207, 208, 209, 210, 211, 212, 213, 214, 215, 216, 217, 218, 219, 220, 221, 222, 223, 224, 225, 226, 227, 235, 236, 237, 238, 239, 240, 241, 242, 243, 244, 245, 246, 247, 248, 249, 250, 251, 252, 253, 254, 255, 256, 257, 258, 259] (by decide +kernel) (by decide +kernel)
set_option maxRecDepth 20000 in
theorem gX4_carryOutText_X4_obey : GoodIn wsX4_carryOutText (wsV RX4 265 RX4 yX4_obey wsX4_obey) := goodIn_app (goodIn_of _ (by decide +kernel)) ggX4_carryOutText_X4_obey
set_option maxRecDepth 20000 in
theorem ggX4_carryOutText_X2_lengthOfStatement : GoodIn wsX4_carryOutText wsX2_lengthOfStatement := goodIn_r _ [231, 41, 42, 43, 35, 44, 45, 46, 232, 233, 234, 246, 247] (by decide +kernel) (by decide +kernel)
set_option maxRecDepth 20000 in
theorem gX4_carryOutText_X2_lengthOfStatement : GoodIn wsX4_carryOutText (wsV RX4 268 RX2 yX2_lengthOfStatement wsX2_lengthOfStatement) := goodIn_app (goodIn_of _ (by decide +kernel)) ggX4_carryOutText_X2_lengthOfStatement
set_option maxRecDepth 20000 in
theorem ggX4_carryOutText_X3_becomeLike : GoodIn wsX4_carryOutText wsX3_becomeLike := goodIn_r _ [13, 14, 15, 16, 17, 18, 19, 20, 21, 22, 23, 24, 25, 26, 27, 248, 249, 250, 251, 252, 253, 254, 255, 256, 257, 258, 259] (by decide +kernel) (by decide +kernel)
set_option maxRecDepth 20000 in
theorem gX4_carryOutText_X3_becomeLike : GoodIn wsX4_carryOutText (wsV RX4 246 RX3 yX3_becomeLike wsX3_becomeLike) := goodIn_app (goodIn_of _ (by decide +kernel)) ggX4_carryOutText_X3_becomeLike
theorem dX4_carryOutText_0 : decode cX4_carryOutText 0 = .ok (.aload_n 0, 1) := by decide +kernel
theorem dX4_carryOutText_1 : decode cX4_carryOutText 1 = .ok (.invokevirtual 132, 3) := by decide +kernel
theorem dX4_carryOutText_4 : decode cX4_carryOutText 4 = .ok (.iconst 0, 1) := by decide +kernel
theorem dX4_carryOutText_5 : decode cX4_carryOutText 5 = .ok (.istore_n 1, 1) := by decide +kernel
theorem dX4_carryOutText_6 : decode cX4_carryOutText 6 = .ok (.iconst 0, 1) := by decide +kernel
theorem dX4_carryOutText_7 : decode cX4_carryOutText 7 = .ok (.istore_n 2, 1) := by decide +kernel
theorem dX4_carryOutText_8 : decode cX4_carryOutText 8 = .ok (.iload_n 1, 1) := by decide +kernel
theorem dX4_carryOutText_9 : decode cX4_carryOutText 9 = .ok (.aload_n 0, 1) := by decide +kernel
theorem dX4_carryOutText_10 : decode cX4_carryOutText 10 = .ok (.getfield 25, 3) := by decide +kernel
theorem dX4_carryOutText_13 : decode cX4_carryOutText 13 = .ok (.getfield 57, 3) := by decide +kernel
theorem dX4_carryOutText_16 : decode cX4_carryOutText 16 = .ok (.if_icmp .ge 40, 3) := by decide +kernel
theorem dX4_carryOutText_19 : decode cX4_carryOutText 19 = .ok (.iload_n 2, 1) := by decide +kernel
theorem dX4_carryOutText_20 : decode cX4_carryOutText 20 = .ok (.bipush 96, 2) := by decide +kernel
theorem dX4_carryOutText_22 : decode cX4_carryOutText 22 = .ok (.if_icmp .ge 34, 3) := by decide +kernel
theorem dX4_carryOutText_25 : decode cX4_carryOutText 25 = .ok (.aload_n 0, 1) := by decide +kernel
theorem dX4_carryOutText_26 : decode cX4_carryOutText 26 = .ok (.iload_n 1, 1) := by decide +kernel
theorem dX4_carryOutText_27 : decode cX4_carryOutText 27 = .ok (.invokevirtual 265, 3) := by decide +kernel
theorem dX4_carryOutText_30 : decode cX4_carryOutText 30 = .ok (.ifCond .ne 9, 3) := by decide +kernel
theorem dX4_carryOutText_33 : decode cX4_carryOutText 33 = .ok (.sipush (-2000), 3) := by decide +kernel
theorem dX4_carryOutText_36 : decode cX4_carryOutText 36 = .ok (.iload_n 1, 1) := by decide +kernel
theorem dX4_carryOutText_37 : decode cX4_carryOutText 37 = .ok (.isub, 1) := by decide +kernel
theorem dX4_carryOutText_38 : decode cX4_carryOutText 38 = .ok (.ireturn, 1) := by decide +kernel
theorem dX4_carryOutText_39 : decode cX4_carryOutText 39 = .ok (.iload_n 1, 1) := by decide +kernel
theorem dX4_carryOutText_40 : decode cX4_carryOutText 40 = .ok (.aload_n 0, 1) := by decide +kernel
theorem dX4_carryOutText_41 : decode cX4_carryOutText 41 = .ok (.getfield 25, 3) := by decide +kernel
theorem dX4_carryOutText_44 : decode cX4_carryOutText 44 = .ok (.iload_n 1, 1) := by decide +kernel
theorem dX4_carryOutText_45 : decode cX4_carryOutText 45 = .ok (.invokevirtual 268, 3) := by decide +kernel
theorem dX4_carryOutText_48 : decode cX4_carryOutText 48 = .ok (.iadd, 1) := by decide +kernel
theorem dX4_carryOutText_49 : decode cX4_carryOutText 49 = .ok (.istore_n 1, 1) := by decide +kernel
theorem dX4_carryOutText_50 : decode cX4_carryOutText 50 = .ok (.iinc 2 1, 3) := by decide +kernel
theorem dX4_carryOutText_53 : decode cX4_carryOutText 53 = .ok (.goto (-45), 3) := by decide +kernel
theorem dX4_carryOutText_56 : decode cX4_carryOutText 56 = .ok (.aload_n 0, 1) := by decide +kernel
theorem dX4_carryOutText_57 : decode cX4_carryOutText 57 = .ok (.getfield 10, 3) := by decide +kernel
theorem dX4_carryOutText_60 : decode cX4_carryOutText 60 = .ok (.aload_n 0, 1) := by decide +kernel
theorem dX4_carryOutText_61 : decode cX4_carryOutText 61 = .ok (.getfield 16, 3) := by decide +kernel
theorem dX4_carryOutText_64 : decode cX4_carryOutText 64 = .ok (.invokevirtual 246, 3) := by decide +kernel
theorem dX4_carryOutText_67 : decode cX4_carryOutText 67 = .ok (.iload_n 2, 1) := by decide +kernel
theorem dX4_carryOutText_68 : decode cX4_carryOutText 68 = .ok (.ireturn, 1) := by decide +kernel
set_option maxRecDepth 20000 in
theorem ggX4_obey_X2_twoDigitsAt : GoodIn wsX4_obey wsX2_twoDigitsAt := goodIn_r _ [7, 8, 9, 10, 6, 11, 12, 13, 14, 15, 16, 17, 222, 223] (by decide +kernel) (by decide +kernel)
set_option maxRecDepth 20000 in
theorem gX4_obey_X2_twoDigitsAt : GoodIn wsX4_obey (wsV RX4 271 RX2 yX2_twoDigitsAt wsX2_twoDigitsAt) := goodIn_app (goodIn_of _ (by decide +kernel)) ggX4_obey_X2_twoDigitsAt
set_option maxRecDepth 20000 in
theorem ggX4_obey_X2_signAt : GoodIn wsX4_obey wsX2_signAt := goodIn_r _ [15, 16, 17, 222, 223] (by decide +kernel) (by decide +kernel)
set_option maxRecDepth 20000 in
theorem gX4_obey_X2_signAt : GoodIn wsX4_obey (wsV RX4 274 RX2 yX2_signAt wsX2_signAt) := goodIn_app (goodIn_of _ (by decide +kernel)) ggX4_obey_X2_signAt
set_option maxRecDepth 20000 in
theorem ggX4_obey_X3_addPlace : GoodIn wsX4_obey wsX3_addPlace := goodIn_r _ [23, 24, 25, 224, 225, 226, 227, 228, 229, 230, 231, 232, 233, 234, 235] (by decide +kernel) (by decide +kernel)
set_option maxRecDepth 20000 in
theorem gX4_obey_X3_addPlace : GoodIn wsX4_obey (wsV RX4 277 RX3 yX3_addPlace wsX3_addPlace) := goodIn_app (goodIn_of _ (by decide +kernel)) ggX4_obey_X3_addPlace
set_option maxRecDepth 20000 in
theorem ggX4_obey_X4_kindOf : GoodIn wsX4_obey wsX4_kindOf := goodIn_r _ [29, 30, 31, 32, 33, 34, 35, 36, 37, 38, 39, 40, 41, 42, 43, 44, 45, 46, 47, 48, 49, 50, 51, 52, 53, 54, 55, 56, 57, 58, 59, 60, 61, 62, 63, 64, 65, 66, 67, 68, 69, 70, 71, 72, 73, 74, 75, 76, 77, 78, 79, 80, 81, 82, 83, 84, 85, 86, 87, 88, 89, 90, 91, 92, 93, 94, 95, 96, 97, 98, 99, 100, 101, 102, 103, 104, 105, 106, 107, 108, 109, 110, 111, 112, 113, 114, 115, 116, 117, 118] (by decide +kernel) (by decide +kernel)
set_option maxRecDepth 20000 in
theorem gX4_obey_X4_kindOf : GoodIn wsX4_obey (va_wsS RX4 280 yX4_kindOf wsX4_kindOf) := goodIn_app (goodIn_of _ (by decide +kernel)) ggX4_obey_X4_kindOf
set_option maxRecDepth 20000 in
theorem ggX4_obey_X2_digitAt : GoodIn wsX4_obey wsX2_digitAt := goodIn_r _ [11, 12, 13, 14, 6, 15, 16, 17, 222, 223] (by decide +kernel) (by decide +kernel)
set_option maxRecDepth 20000 in
theorem gX4_obey_X2_digitAt : GoodIn wsX4_obey (wsV RX4 283 RX2 yX2_digitAt wsX2_digitAt) := goodIn_app (goodIn_of _ (by decide +kernel)) ggX4_obey_X2_digitAt
set_option maxRecDepth 20000 in
theorem ggX4_obey_X3_addHand : GoodIn wsX4_obey wsX3_addHand := goodIn_r _ [123, 124, 24, 125, 126, 127, 128, 129, 224, 225, 226, 227, 228, 229, 230, 231, 232, 233, 234, 235] (by decide +kernel) (by decide +kernel)
set_option maxRecDepth 20000 in
theorem gX4_obey_X3_addHand : GoodIn wsX4_obey (wsV RX4 286 RX3 yX3_addHand wsX3_addHand) := goodIn_app (goodIn_of _ (by decide +kernel)) ggX4_obey_X3_addHand
set_option maxRecDepth 20000 in
theorem ggX4_obey_X4_obeyShip : GoodIn wsX4_obey wsX4_obeyShip := goodIn_r _ [133, 2, 211, 212, 213, 214, 215, 216, 217, 218, 219, 220, 221, 224, 225, 226, 227, 228, 229, 230, 231, 232, 233, 234, 235] (by decide +kernel) (by decide +kernel)
set_option maxRecDepth 20000 in
theorem gX4_obey_X4_obeyShip : GoodIn wsX4_obey (wsV RX4 289 RX4 yX4_obeyShip wsX4_obeyShip) := goodIn_app (goodIn_of _ (by decide +kernel)) ggX4_obey_X4_obeyShip
set_option maxRecDepth 20000 in
theorem ggX4_obey_X3_hasTimeFor : GoodIn wsX4_obey wsX3_hasTimeFor := goodIn_r _ [137, 138, 224, 225, 226, 227, 228, 229, 230, 231, 232, 233, 234, 235] (by decide +kernel) (by decide +kernel)
set_option maxRecDepth 20000 in
theorem gX4_obey_X3_hasTimeFor : GoodIn wsX4_obey (wsV RX4 123 RX3 yX3_hasTimeFor wsX3_hasTimeFor) := goodIn_app (goodIn_of _ (by decide +kernel)) ggX4_obey_X3_hasTimeFor
set_option maxRecDepth 20000 in
theorem ggX4_obey_X3_goDays : GoodIn wsX4_obey wsX3_goDays := goodIn_r _ [142, 143, 144, 145, 22, 146, 147, 148, 149, 150, 151, 152, 153, 124, 154, 155, 60, 156, 157, 158, 159, 160, 129, 161, 162, 163, 164, 25, 127, 165, 166, 167, 168, 169, 170, 171, 172, 128, 125, 126, 173, 174, 175, 176, 177, 178, 179, 180, 181, 182, 183, 184, 185, 28, 186, 187, 188, 189, 190, 191, 192, 138, 193, 63, 64, 194, 59, 61, 224, 225, 226, 227, 228, 229, 230, 231, 232, 233, 234, 235] (by decide +kernel) (by decide +kernel)
set_option maxRecDepth 20000 in
theorem gX4_obey_X3_goDays : GoodIn wsX4_obey (wsV RX4 126 RX3 yX3_goDays wsX3_goDays) := goodIn_app (goodIn_of _ (by decide +kernel)) ggX4_obey_X3_goDays
set_option maxRecDepth 20000 in
theorem ggX4_obey_X4_obeyOfHand : GoodIn wsX4_obey wsX4_obeyOfHand := goodIn_r _ [198, 2, 1, 18, 13, 14, 6, 15, 16, 17, 199, 200, 201, 22, 202, 128, 203, 204, 205, 206, 129, 119, 9, 10, 11, 12, 207, 208, 209, 28, 210, 211, 212, 213, 214, 215, 216, 217, 218, 219, 220, 221, 224, 225, 226, 227, 228, 229, 230, 231, 232, 233, 234, 235, 222, 223] (by decide +kernel) (by decide +kernel)
set_option maxRecDepth 20000 in
theorem gX4_obey_X4_obeyOfHand : GoodIn wsX4_obey (wsV RX4 292 RX4 yX4_obeyOfHand wsX4_obeyOfHand) := goodIn_app (goodIn_of _ (by decide +kernel)) ggX4_obey_X4_obeyOfHand
theorem dX4_obey_0 : decode cX4_obey 0 = .ok (.aload_n 0, 1) := by decide +kernel
theorem dX4_obey_1 : decode cX4_obey 1 = .ok (.getfield 25, 3) := by decide +kernel
theorem dX4_obey_4 : decode cX4_obey 4 = .ok (.iload_n 1, 1) := by decide +kernel
theorem dX4_obey_5 : decode cX4_obey 5 = .ok (.iconst 1, 1) := by decide +kernel
theorem dX4_obey_6 : decode cX4_obey 6 = .ok (.iadd, 1) := by decide +kernel
theorem dX4_obey_7 : decode cX4_obey 7 = .ok (.invokevirtual 271, 3) := by decide +kernel
theorem dX4_obey_10 : decode cX4_obey 10 = .ok (.istore_n 2, 1) := by decide +kernel
theorem dX4_obey_11 : decode cX4_obey 11 = .ok (.aload_n 0, 1) := by decide +kernel
theorem dX4_obey_12 : decode cX4_obey 12 = .ok (.getfield 25, 3) := by decide +kernel
theorem dX4_obey_15 : decode cX4_obey 15 = .ok (.iload_n 1, 1) := by decide +kernel
theorem dX4_obey_16 : decode cX4_obey 16 = .ok (.invokevirtual 274, 3) := by decide +kernel
theorem dX4_obey_19 : decode cX4_obey 19 = .ok (.lookupswitch 121 #[(100, 97), (104, 50), (112, 41), (115, 91)], 41) := by decide +kernel
theorem dX4_obey_60 : decode cX4_obey 60 = .ok (.aload_n 0, 1) := by decide +kernel
theorem dX4_obey_61 : decode cX4_obey 61 = .ok (.getfield 16, 3) := by decide +kernel
theorem dX4_obey_64 : decode cX4_obey 64 = .ok (.iload_n 2, 1) := by decide +kernel
theorem dX4_obey_65 : decode cX4_obey 65 = .ok (.invokevirtual 277, 3) := by decide +kernel
theorem dX4_obey_68 : decode cX4_obey 68 = .ok (.ireturn, 1) := by decide +kernel
theorem dX4_obey_69 : decode cX4_obey 69 = .ok (.aload_n 0, 1) := by decide +kernel
theorem dX4_obey_70 : decode cX4_obey 70 = .ok (.getfield 16, 3) := by decide +kernel
theorem dX4_obey_73 : decode cX4_obey 73 = .ok (.aload_n 0, 1) := by decide +kernel
theorem dX4_obey_74 : decode cX4_obey 74 = .ok (.getfield 25, 3) := by decide +kernel
theorem dX4_obey_77 : decode cX4_obey 77 = .ok (.iload_n 1, 1) := by decide +kernel
theorem dX4_obey_78 : decode cX4_obey 78 = .ok (.iconst 1, 1) := by decide +kernel
theorem dX4_obey_79 : decode cX4_obey 79 = .ok (.iadd, 1) := by decide +kernel
theorem dX4_obey_80 : decode cX4_obey 80 = .ok (.invokevirtual 274, 3) := by decide +kernel
theorem dX4_obey_83 : decode cX4_obey 83 = .ok (.invokestatic 280, 3) := by decide +kernel
theorem dX4_obey_86 : decode cX4_obey 86 = .ok (.aload_n 0, 1) := by decide +kernel
theorem dX4_obey_87 : decode cX4_obey 87 = .ok (.getfield 25, 3) := by decide +kernel
theorem dX4_obey_90 : decode cX4_obey 90 = .ok (.iload_n 1, 1) := by decide +kernel
theorem dX4_obey_91 : decode cX4_obey 91 = .ok (.iconst 2, 1) := by decide +kernel
theorem dX4_obey_92 : decode cX4_obey 92 = .ok (.iadd, 1) := by decide +kernel
theorem dX4_obey_93 : decode cX4_obey 93 = .ok (.invokevirtual 283, 3) := by decide +kernel
theorem dX4_obey_96 : decode cX4_obey 96 = .ok (.aload_n 0, 1) := by decide +kernel
theorem dX4_obey_97 : decode cX4_obey 97 = .ok (.getfield 25, 3) := by decide +kernel
theorem dX4_obey_100 : decode cX4_obey 100 = .ok (.iload_n 1, 1) := by decide +kernel
theorem dX4_obey_101 : decode cX4_obey 101 = .ok (.iconst 3, 1) := by decide +kernel
theorem dX4_obey_102 : decode cX4_obey 102 = .ok (.iadd, 1) := by decide +kernel
theorem dX4_obey_103 : decode cX4_obey 103 = .ok (.invokevirtual 283, 3) := by decide +kernel
theorem dX4_obey_106 : decode cX4_obey 106 = .ok (.invokevirtual 286, 3) := by decide +kernel
theorem dX4_obey_109 : decode cX4_obey 109 = .ok (.ireturn, 1) := by decide +kernel
theorem dX4_obey_110 : decode cX4_obey 110 = .ok (.aload_n 0, 1) := by decide +kernel
theorem dX4_obey_111 : decode cX4_obey 111 = .ok (.iload_n 2, 1) := by decide +kernel
theorem dX4_obey_112 : decode cX4_obey 112 = .ok (.invokevirtual 289, 3) := by decide +kernel
theorem dX4_obey_115 : decode cX4_obey 115 = .ok (.ireturn, 1) := by decide +kernel
theorem dX4_obey_116 : decode cX4_obey 116 = .ok (.aload_n 0, 1) := by decide +kernel
theorem dX4_obey_117 : decode cX4_obey 117 = .ok (.getfield 16, 3) := by decide +kernel
theorem dX4_obey_120 : decode cX4_obey 120 = .ok (.iload_n 2, 1) := by decide +kernel
theorem dX4_obey_121 : decode cX4_obey 121 = .ok (.invokevirtual 123, 3) := by decide +kernel
theorem dX4_obey_124 : decode cX4_obey 124 = .ok (.ifCond .ne 5, 3) := by decide +kernel
theorem dX4_obey_127 : decode cX4_obey 127 = .ok (.iconst 0, 1) := by decide +kernel
theorem dX4_obey_128 : decode cX4_obey 128 = .ok (.ireturn, 1) := by decide +kernel
theorem dX4_obey_129 : decode cX4_obey 129 = .ok (.aload_n 0, 1) := by decide +kernel
theorem dX4_obey_130 : decode cX4_obey 130 = .ok (.getfield 16, 3) := by decide +kernel
theorem dX4_obey_133 : decode cX4_obey 133 = .ok (.iload_n 2, 1) := by decide +kernel
theorem dX4_obey_134 : decode cX4_obey 134 = .ok (.invokevirtual 126, 3) := by decide +kernel
theorem dX4_obey_137 : decode cX4_obey 137 = .ok (.pop, 1) := by decide +kernel
theorem dX4_obey_138 : decode cX4_obey 138 = .ok (.iconst 1, 1) := by decide +kernel
theorem dX4_obey_139 : decode cX4_obey 139 = .ok (.ireturn, 1) := by decide +kernel
theorem dX4_obey_140 : decode cX4_obey 140 = .ok (.aload_n 0, 1) := by decide +kernel
theorem dX4_obey_141 : decode cX4_obey 141 = .ok (.iload_n 1, 1) := by decide +kernel
theorem dX4_obey_142 : decode cX4_obey 142 = .ok (.aload_n 0, 1) := by decide +kernel
theorem dX4_obey_143 : decode cX4_obey 143 = .ok (.getfield 25, 3) := by decide +kernel
theorem dX4_obey_146 : decode cX4_obey 146 = .ok (.iload_n 1, 1) := by decide +kernel
theorem dX4_obey_147 : decode cX4_obey 147 = .ok (.iconst 1, 1) := by decide +kernel
theorem dX4_obey_148 : decode cX4_obey 148 = .ok (.iadd, 1) := by decide +kernel
theorem dX4_obey_149 : decode cX4_obey 149 = .ok (.invokevirtual 283, 3) := by decide +kernel
theorem dX4_obey_152 : decode cX4_obey 152 = .ok (.invokevirtual 292, 3) := by decide +kernel
theorem dX4_obey_155 : decode cX4_obey 155 = .ok (.ireturn, 1) := by decide +kernel
theorem dX4_obeyShip_0 : decode cX4_obeyShip 0 = .ok (.iload_n 1, 1) := by decide +kernel
theorem dX4_obeyShip_1 : decode cX4_obeyShip 1 = .ok (.ifCond .lt 9, 3) := by decide +kernel
theorem dX4_obeyShip_4 : decode cX4_obeyShip 4 = .ok (.iload_n 1, 1) := by decide +kernel
theorem dX4_obeyShip_5 : decode cX4_obeyShip 5 = .ok (.bipush 64, 2) := by decide +kernel
theorem dX4_obeyShip_7 : decode cX4_obeyShip 7 = .ok (.if_icmp .lt 5, 3) := by decide +kernel
theorem dX4_obeyShip_10 : decode cX4_obeyShip 10 = .ok (.iconst 0, 1) := by decide +kernel
theorem dX4_obeyShip_11 : decode cX4_obeyShip 11 = .ok (.ireturn, 1) := by decide +kernel
theorem dX4_obeyShip_12 : decode cX4_obeyShip 12 = .ok (.aload_n 0, 1) := by decide +kernel
theorem dX4_obeyShip_13 : decode cX4_obeyShip 13 = .ok (.getfield 16, 3) := by decide +kernel
theorem dX4_obeyShip_16 : decode cX4_obeyShip 16 = .ok (.iload_n 1, 1) := by decide +kernel
theorem dX4_obeyShip_17 : decode cX4_obeyShip 17 = .ok (.putfield 120, 3) := by decide +kernel
theorem dX4_obeyShip_20 : decode cX4_obeyShip 20 = .ok (.iconst 1, 1) := by decide +kernel
theorem dX4_obeyShip_21 : decode cX4_obeyShip 21 = .ok (.ireturn, 1) := by decide +kernel
set_option maxRecDepth 20000 in
theorem ggX4_obeyOfHand_X2_signAt : GoodIn wsX4_obeyOfHand wsX2_signAt := goodIn_r _ [7, 8, 9, 54, 55] (by decide +kernel) (by decide +kernel)
set_option maxRecDepth 20000 in
theorem gX4_obeyOfHand_X2_signAt : GoodIn wsX4_obeyOfHand (wsV RX4 274 RX2 yX2_signAt wsX2_signAt) := goodIn_app (goodIn_of _ (by decide +kernel)) ggX4_obeyOfHand_X2_signAt
set_option maxRecDepth 20000 in
theorem ggX4_obeyOfHand_X3_dropLetter : GoodIn wsX4_obeyOfHand wsX3_dropLetter := goodIn_r _ [14, 15, 42, 43, 44, 45, 46, 47, 48, 49, 50, 51, 52, 53] (by decide +kernel) (by decide +kernel)
set_option maxRecDepth 20000 in
theorem gX4_obeyOfHand_X3_dropLetter : GoodIn wsX4_obeyOfHand (wsV RX4 114 RX3 yX3_dropLetter wsX3_dropLetter) := goodIn_app (goodIn_of _ (by decide +kernel)) ggX4_obeyOfHand_X3_dropLetter
set_option maxRecDepth 20000 in
theorem ggX4_obeyOfHand_X3_changeSide : GoodIn wsX4_obeyOfHand wsX3_changeSide := goodIn_r _ [19, 20, 42, 43, 44, 45, 46, 47, 48, 49, 50, 51, 52, 53] (by decide +kernel) (by decide +kernel)
set_option maxRecDepth 20000 in
theorem gX4_obeyOfHand_X3_changeSide : GoodIn wsX4_obeyOfHand (wsV RX4 117 RX3 yX3_changeSide wsX3_changeSide) := goodIn_app (goodIn_of _ (by decide +kernel)) ggX4_obeyOfHand_X3_changeSide
set_option maxRecDepth 20000 in
theorem ggX4_obeyOfHand_X2_digitAt : GoodIn wsX4_obeyOfHand wsX2_digitAt := goodIn_r _ [24, 25, 4, 5, 6, 7, 8, 9, 54, 55] (by decide +kernel) (by decide +kernel)
set_option maxRecDepth 20000 in
theorem gX4_obeyOfHand_X2_digitAt : GoodIn wsX4_obeyOfHand (wsV RX4 283 RX2 yX2_digitAt wsX2_digitAt) := goodIn_app (goodIn_of _ (by decide +kernel)) ggX4_obeyOfHand_X2_digitAt
set_option maxRecDepth 20000 in
theorem ggX4_obeyOfHand_X4_obeyLonging : GoodIn wsX4_obeyOfHand wsX4_obeyLonging := goodIn_r _ [30, 1, 31, 32, 33, 34, 35, 36, 37, 38, 39, 40, 41, 42, 43, 44, 45, 46, 47, 48, 49, 50, 51, 52, 53] (by decide +kernel) (by decide +kernel)
set_option maxRecDepth 20000 in
theorem gX4_obeyOfHand_X4_obeyLonging : GoodIn wsX4_obeyOfHand (wsV RX4 295 RX4 yX4_obeyLonging wsX4_obeyLonging) := goodIn_app (goodIn_of _ (by decide +kernel)) ggX4_obeyOfHand_X4_obeyLonging
theorem dX4_obeyOfHand_0 : decode cX4_obeyOfHand 0 = .ok (.iload_n 2, 1) := by decide +kernel
theorem dX4_obeyOfHand_1 : decode cX4_obeyOfHand 1 = .ok (.ifCond .lt 14, 3) := by decide +kernel
theorem dX4_obeyOfHand_4 : decode cX4_obeyOfHand 4 = .ok (.iload_n 2, 1) := by decide +kernel
theorem dX4_obeyOfHand_5 : decode cX4_obeyOfHand 5 = .ok (.aload_n 0, 1) := by decide +kernel
theorem dX4_obeyOfHand_6 : decode cX4_obeyOfHand 6 = .ok (.getfield 16, 3) := by decide +kernel
theorem dX4_obeyOfHand_9 : decode cX4_obeyOfHand 9 = .ok (.getfield 154, 3) := by decide +kernel
theorem dX4_obeyOfHand_12 : decode cX4_obeyOfHand 12 = .ok (.if_icmp .lt 5, 3) := by decide +kernel
theorem dX4_obeyOfHand_15 : decode cX4_obeyOfHand 15 = .ok (.iconst 0, 1) := by decide +kernel
theorem dX4_obeyOfHand_16 : decode cX4_obeyOfHand 16 = .ok (.ireturn, 1) := by decide +kernel
theorem dX4_obeyOfHand_17 : decode cX4_obeyOfHand 17 = .ok (.aload_n 0, 1) := by decide +kernel
theorem dX4_obeyOfHand_18 : decode cX4_obeyOfHand 18 = .ok (.getfield 25, 3) := by decide +kernel
theorem dX4_obeyOfHand_21 : decode cX4_obeyOfHand 21 = .ok (.iload_n 1, 1) := by decide +kernel
theorem dX4_obeyOfHand_22 : decode cX4_obeyOfHand 22 = .ok (.invokevirtual 274, 3) := by decide +kernel
theorem dX4_obeyOfHand_25 : decode cX4_obeyOfHand 25 = .ok (.lookupswitch 71 #[(97, 45), (108, 35), (109, 55)], 35) := by decide +kernel
theorem dX4_obeyOfHand_60 : decode cX4_obeyOfHand 60 = .ok (.aload_n 0, 1) := by decide +kernel
theorem dX4_obeyOfHand_61 : decode cX4_obeyOfHand 61 = .ok (.getfield 16, 3) := by decide +kernel
theorem dX4_obeyOfHand_64 : decode cX4_obeyOfHand 64 = .ok (.iload_n 2, 1) := by decide +kernel
theorem dX4_obeyOfHand_65 : decode cX4_obeyOfHand 65 = .ok (.invokevirtual 114, 3) := by decide +kernel
theorem dX4_obeyOfHand_68 : decode cX4_obeyOfHand 68 = .ok (.iconst 1, 1) := by decide +kernel
theorem dX4_obeyOfHand_69 : decode cX4_obeyOfHand 69 = .ok (.ireturn, 1) := by decide +kernel
theorem dX4_obeyOfHand_70 : decode cX4_obeyOfHand 70 = .ok (.aload_n 0, 1) := by decide +kernel
theorem dX4_obeyOfHand_71 : decode cX4_obeyOfHand 71 = .ok (.getfield 16, 3) := by decide +kernel
theorem dX4_obeyOfHand_74 : decode cX4_obeyOfHand 74 = .ok (.iload_n 2, 1) := by decide +kernel
theorem dX4_obeyOfHand_75 : decode cX4_obeyOfHand 75 = .ok (.invokevirtual 117, 3) := by decide +kernel
theorem dX4_obeyOfHand_78 : decode cX4_obeyOfHand 78 = .ok (.iconst 1, 1) := by decide +kernel
theorem dX4_obeyOfHand_79 : decode cX4_obeyOfHand 79 = .ok (.ireturn, 1) := by decide +kernel
theorem dX4_obeyOfHand_80 : decode cX4_obeyOfHand 80 = .ok (.aload_n 0, 1) := by decide +kernel
theorem dX4_obeyOfHand_81 : decode cX4_obeyOfHand 81 = .ok (.iload_n 2, 1) := by decide +kernel
theorem dX4_obeyOfHand_82 : decode cX4_obeyOfHand 82 = .ok (.aload_n 0, 1) := by decide +kernel
theorem dX4_obeyOfHand_83 : decode cX4_obeyOfHand 83 = .ok (.getfield 25, 3) := by decide +kernel
theorem dX4_obeyOfHand_86 : decode cX4_obeyOfHand 86 = .ok (.iload_n 1, 1) := by decide +kernel
theorem dX4_obeyOfHand_87 : decode cX4_obeyOfHand 87 = .ok (.iconst 2, 1) := by decide +kernel
theorem dX4_obeyOfHand_88 : decode cX4_obeyOfHand 88 = .ok (.iadd, 1) := by decide +kernel
theorem dX4_obeyOfHand_89 : decode cX4_obeyOfHand 89 = .ok (.invokevirtual 283, 3) := by decide +kernel
theorem dX4_obeyOfHand_92 : decode cX4_obeyOfHand 92 = .ok (.invokevirtual 295, 3) := by decide +kernel
theorem dX4_obeyOfHand_95 : decode cX4_obeyOfHand 95 = .ok (.ireturn, 1) := by decide +kernel
theorem dX4_obeyOfHand_96 : decode cX4_obeyOfHand 96 = .ok (.iconst 0, 1) := by decide +kernel
theorem dX4_obeyOfHand_97 : decode cX4_obeyOfHand 97 = .ok (.ireturn, 1) := by decide +kernel
theorem dX4_obeyLonging_0 : decode cX4_obeyLonging 0 = .ok (.iload_n 2, 1) := by decide +kernel
theorem dX4_obeyLonging_1 : decode cX4_obeyLonging 1 = .ok (.ifCond .lt 14, 3) := by decide +kernel
theorem dX4_obeyLonging_4 : decode cX4_obeyLonging 4 = .ok (.iload_n 2, 1) := by decide +kernel
theorem dX4_obeyLonging_5 : decode cX4_obeyLonging 5 = .ok (.aload_n 0, 1) := by decide +kernel
theorem dX4_obeyLonging_6 : decode cX4_obeyLonging 6 = .ok (.getfield 16, 3) := by decide +kernel
theorem dX4_obeyLonging_9 : decode cX4_obeyLonging 9 = .ok (.getfield 177, 3) := by decide +kernel
theorem dX4_obeyLonging_12 : decode cX4_obeyLonging 12 = .ok (.if_icmp .lt 5, 3) := by decide +kernel
theorem dX4_obeyLonging_15 : decode cX4_obeyLonging 15 = .ok (.iconst 0, 1) := by decide +kernel
theorem dX4_obeyLonging_16 : decode cX4_obeyLonging 16 = .ok (.ireturn, 1) := by decide +kernel
theorem dX4_obeyLonging_17 : decode cX4_obeyLonging 17 = .ok (.aload_n 0, 1) := by decide +kernel
theorem dX4_obeyLonging_18 : decode cX4_obeyLonging 18 = .ok (.getfield 16, 3) := by decide +kernel
theorem dX4_obeyLonging_21 : decode cX4_obeyLonging 21 = .ok (.getfield 92, 3) := by decide +kernel
theorem dX4_obeyLonging_24 : decode cX4_obeyLonging 24 = .ok (.iload_n 1, 1) := by decide +kernel
theorem dX4_obeyLonging_25 : decode cX4_obeyLonging 25 = .ok (.iload_n 2, 1) := by decide +kernel
theorem dX4_obeyLonging_26 : decode cX4_obeyLonging 26 = .ok (.iastore, 1) := by decide +kernel
theorem dX4_obeyLonging_27 : decode cX4_obeyLonging 27 = .ok (.iconst 1, 1) := by decide +kernel
theorem dX4_obeyLonging_28 : decode cX4_obeyLonging 28 = .ok (.ireturn, 1) := by decide +kernel
set_option maxRecDepth 20000 in
theorem ggX4_kindOf_J0_indexOf_0f7a4 : GoodIn wsX4_kindOf wsJ0_indexOf_0f7a4 := goodIn_r _ [5, 6, 7, 8, 4, 9, 10, 11, 12, 13, 14, 15, 16, 17, 18, 19, 20, 21, 22, 23, 24, 25, 26, 27, 28, 29, 30, 31, 32, 33, 34, 35, 36, 37, 38, 39, 40, 41, 42, 43, 44, 45, 46, 47, 48, 49, 50, 51, 52, 53, 54, 55, 56, 57, 58, 59, 60, 61, 62, 63, 64, 65, 66, 67, 68, 69, 70, 71, 72, 73, 74, 75, 76, 77, 78, 79, 80, 81, 82, 83, 84, 85, 86, 87, 88, 89] (by decide +kernel) (by decide +kernel)
set_option maxRecDepth 20000 in
theorem gX4_kindOf_J0_indexOf_0f7a4 : GoodIn wsX4_kindOf (wsV RX4 300 RJ0 yJ0_indexOf_0f7a4 wsJ0_indexOf_0f7a4) := goodIn_app (goodIn_of _ (by decide +kernel)) ggX4_kindOf_J0_indexOf_0f7a4
theorem dX4_kindOf_0 : decode cX4_kindOf 0 = .ok (.ldc_w 298, 3) := by decide +kernel
theorem dX4_kindOf_3 : decode cX4_kindOf 3 = .ok (.iload_n 0, 1) := by decide +kernel
theorem dX4_kindOf_4 : decode cX4_kindOf 4 = .ok (.i2c, 1) := by decide +kernel
theorem dX4_kindOf_5 : decode cX4_kindOf 5 = .ok (.invokevirtual 300, 3) := by decide +kernel
theorem dX4_kindOf_8 : decode cX4_kindOf 8 = .ok (.ireturn, 1) := by decide +kernel
set_option maxRecDepth 20000 in
theorem ggX4_think_X3_becomeLike : GoodIn wsX4_think wsX3_becomeLike := goodIn_r _ [7, 8, 9, 10, 11, 12, 13, 14, 15, 16, 17, 18, 19, 20, 21, 33, 34, 35, 36, 37, 38, 39, 40, 41, 42, 43, 44] (by decide +kernel) (by decide +kernel)
set_option maxRecDepth 20000 in
theorem gX4_think_X3_becomeLike : GoodIn wsX4_think (wsV RX4 246 RX3 yX3_becomeLike wsX3_becomeLike) := goodIn_app (goodIn_of _ (by decide +kernel)) ggX4_think_X3_becomeLike
theorem dX4_think_0 : decode cX4_think 0 = .ok (.aload_n 0, 1) := by decide +kernel
theorem dX4_think_1 : decode cX4_think 1 = .ok (.getfield 16, 3) := by decide +kernel
theorem dX4_think_4 : decode cX4_think 4 = .ok (.aload_n 0, 1) := by decide +kernel
theorem dX4_think_5 : decode cX4_think 5 = .ok (.getfield 10, 3) := by decide +kernel
theorem dX4_think_8 : decode cX4_think 8 = .ok (.invokevirtual 246, 3) := by decide +kernel
theorem dX4_think_11 : decode cX4_think 11 = .ok (.return_, 1) := by decide +kernel
theorem dX4_orLate_0 : decode cX4_orLate 0 = .ok (.iload_n 0, 1) := by decide +kernel
theorem dX4_orLate_1 : decode cX4_orLate 1 = .ok (.bipush (-9), 2) := by decide +kernel
theorem dX4_orLate_3 : decode cX4_orLate 3 = .ok (.if_icmp .ne 8, 3) := by decide +kernel
theorem dX4_orLate_6 : decode cX4_orLate 6 = .ok (.bipush 61, 2) := by decide +kernel
theorem dX4_orLate_8 : decode cX4_orLate 8 = .ok (.goto 4, 3) := by decide +kernel
theorem dX4_orLate_11 : decode cX4_orLate 11 = .ok (.iload_n 0, 1) := by decide +kernel
theorem dX4_orLate_12 : decode cX4_orLate 12 = .ok (.ireturn, 1) := by decide +kernel
set_option maxRecDepth 20000 in
theorem ggX4_fewestHands_J6_bitCount_0f7a4 : GoodIn wsX4_fewestHands wsJ6_bitCount_0f7a4 := goodIn_r _ [5, 6, 7, 8] (by decide +kernel) (by decide +kernel)
set_option maxRecDepth 20000 in
theorem gX4_fewestHands_J6_bitCount_0f7a4 : GoodIn wsX4_fewestHands (va_wsS RX4 305 yJ6_bitCount_0f7a4 wsJ6_bitCount_0f7a4) := goodIn_app (goodIn_of _ (by decide +kernel)) ggX4_fewestHands_J6_bitCount_0f7a4
set_option maxRecDepth 20000 in
theorem ggX4_fewestHands_X4_bringsThere : GoodIn wsX4_fewestHands wsX4_bringsThere := goodIn_r _ [13, 14, 15, 16, 17, 12, 18, 1, 19, 20, 21, 22, 23, 24, 25, 26, 27, 28, 29, 30, 31, 32, 33, 34, 35, 36, 37, 38, 39, 40, 41, 42, 43, 44, 45, 46, 47, 48, 49, 50, 51, 52, 53, 54, 55, 56, 57, 58, 59, 60, 61, 62, 63, 64, 65, 66, 67, 68, 69, 70, 71, 72, 73, 74, 75, 76, 77, 78, 79, 80, 81, 4, 82, 83, 84, 85, 86, 87, 88, 89, 90, 91, 92, 93, 94, 95, 96, 97, 98, 99, 100, 101, 102, 103, 104, 105, 106, 107, 108, 109, 110, 111, 112, 113, 114, 115, 116, 117, 118, 119, 120, 121, 122, 123, 124, 125, 126, 127] (by decide +kernel) (by decide +kernel)
set_option maxRecDepth 20000 in
theorem gX4_fewestHands_X4_bringsThere : GoodIn wsX4_fewestHands (wsV RX4 310 RX4 yX4_bringsThere wsX4_bringsThere) := goodIn_app (goodIn_of _ (by decide +kernel)) ggX4_fewestHands_X4_bringsThere
theorem dX4_fewestHands_0 : decode cX4_fewestHands 0 = .ok (.iconst 1, 1) := by decide +kernel
theorem dX4_fewestHands_1 : decode cX4_fewestHands 1 = .ok (.aload_n 0, 1) := by decide +kernel
theorem dX4_fewestHands_2 : decode cX4_fewestHands 2 = .ok (.getfield 10, 3) := by decide +kernel
theorem dX4_fewestHands_5 : decode cX4_fewestHands 5 = .ok (.getfield 154, 3) := by decide +kernel
theorem dX4_fewestHands_8 : decode cX4_fewestHands 8 = .ok (.ishl, 1) := by decide +kernel
theorem dX4_fewestHands_9 : decode cX4_fewestHands 9 = .ok (.istore 4, 2) := by decide +kernel
theorem dX4_fewestHands_11 : decode cX4_fewestHands 11 = .ok (.iconst 0, 1) := by decide +kernel
theorem dX4_fewestHands_12 : decode cX4_fewestHands 12 = .ok (.istore 5, 2) := by decide +kernel
theorem dX4_fewestHands_14 : decode cX4_fewestHands 14 = .ok (.iload 5, 2) := by decide +kernel
theorem dX4_fewestHands_16 : decode cX4_fewestHands 16 = .ok (.aload_n 0, 1) := by decide +kernel
theorem dX4_fewestHands_17 : decode cX4_fewestHands 17 = .ok (.getfield 10, 3) := by decide +kernel
theorem dX4_fewestHands_20 : decode cX4_fewestHands 20 = .ok (.getfield 154, 3) := by decide +kernel
theorem dX4_fewestHands_23 : decode cX4_fewestHands 23 = .ok (.if_icmp .gt 50, 3) := by decide +kernel
theorem dX4_fewestHands_26 : decode cX4_fewestHands 26 = .ok (.iconst 0, 1) := by decide +kernel
theorem dX4_fewestHands_27 : decode cX4_fewestHands 27 = .ok (.istore 6, 2) := by decide +kernel
theorem dX4_fewestHands_29 : decode cX4_fewestHands 29 = .ok (.iload 6, 2) := by decide +kernel
theorem dX4_fewestHands_31 : decode cX4_fewestHands 31 = .ok (.iload 4, 2) := by decide +kernel
theorem dX4_fewestHands_33 : decode cX4_fewestHands 33 = .ok (.if_icmp .ge 34, 3) := by decide +kernel
theorem dX4_fewestHands_36 : decode cX4_fewestHands 36 = .ok (.iload 6, 2) := by decide +kernel
theorem dX4_fewestHands_38 : decode cX4_fewestHands 38 = .ok (.invokestatic 305, 3) := by decide +kernel
theorem dX4_fewestHands_41 : decode cX4_fewestHands 41 = .ok (.iload 5, 2) := by decide +kernel
theorem dX4_fewestHands_43 : decode cX4_fewestHands 43 = .ok (.if_icmp .ne 18, 3) := by decide +kernel
theorem dX4_fewestHands_46 : decode cX4_fewestHands 46 = .ok (.aload_n 0, 1) := by decide +kernel
theorem dX4_fewestHands_47 : decode cX4_fewestHands 47 = .ok (.iload 6, 2) := by decide +kernel
theorem dX4_fewestHands_49 : decode cX4_fewestHands 49 = .ok (.iload_n 1, 1) := by decide +kernel
theorem dX4_fewestHands_50 : decode cX4_fewestHands 50 = .ok (.iload_n 2, 1) := by decide +kernel
theorem dX4_fewestHands_51 : decode cX4_fewestHands 51 = .ok (.iload_n 3, 1) := by decide +kernel
theorem dX4_fewestHands_52 : decode cX4_fewestHands 52 = .ok (.invokevirtual 310, 3) := by decide +kernel
theorem dX4_fewestHands_55 : decode cX4_fewestHands 55 = .ok (.ifCond .eq 6, 3) := by decide +kernel
theorem dX4_fewestHands_58 : decode cX4_fewestHands 58 = .ok (.iload 6, 2) := by decide +kernel
theorem dX4_fewestHands_60 : decode cX4_fewestHands 60 = .ok (.ireturn, 1) := by decide +kernel
theorem dX4_fewestHands_61 : decode cX4_fewestHands 61 = .ok (.iinc 6 1, 3) := by decide +kernel
theorem dX4_fewestHands_64 : decode cX4_fewestHands 64 = .ok (.goto (-35), 3) := by decide +kernel
theorem dX4_fewestHands_67 : decode cX4_fewestHands 67 = .ok (.iinc 5 1, 3) := by decide +kernel
theorem dX4_fewestHands_70 : decode cX4_fewestHands 70 = .ok (.goto (-56), 3) := by decide +kernel
theorem dX4_fewestHands_73 : decode cX4_fewestHands 73 = .ok (.bipush (-9), 2) := by decide +kernel
theorem dX4_fewestHands_75 : decode cX4_fewestHands 75 = .ok (.ireturn, 1) := by decide +kernel
set_option maxRecDepth 20000 in
theorem ggX4_bringsThere_X4_think : GoodIn wsX4_bringsThere wsX4_think := goodIn_r _ [6, 1, 7, 8, 9, 10, 11, 12, 13, 14, 15, 16, 17, 18, 19, 20, 21, 22, 23, 24, 25, 26, 95, 96, 97, 98, 99, 100, 101, 102, 103, 104, 105, 106, 107, 108, 109, 110, 111, 112, 113, 114, 115, 116, 117] (by decide +kernel) (by decide +kernel)
set_option maxRecDepth 20000 in
theorem gX4_bringsThere_X4_think : GoodIn wsX4_bringsThere (wsV RX4 132 RX4 yX4_think wsX4_think) := goodIn_app (goodIn_of _ (by decide +kernel)) ggX4_bringsThere_X4_think
set_option maxRecDepth 20000 in
theorem ggX4_bringsThere_X3_dropLetters : GoodIn wsX4_bringsThere wsX3_dropLetters := goodIn_r _ [30, 14, 31, 32, 33, 11, 34, 26, 106, 107, 108, 109, 110, 111, 112, 113, 114, 115, 116, 117] (by decide +kernel) (by decide +kernel)
set_option maxRecDepth 20000 in
theorem gX4_bringsThere_X3_dropLetters : GoodIn wsX4_bringsThere (wsV RX4 314 RX3 yX3_dropLetters wsX3_dropLetters) := goodIn_app (goodIn_of _ (by decide +kernel)) ggX4_bringsThere_X3_dropLetters
set_option maxRecDepth 20000 in
theorem ggX4_bringsThere_X3_reaches : GoodIn wsX4_bringsThere wsX3_reaches := goodIn_r _ [38, 16, 18, 39, 40, 41, 11, 42, 43, 44, 45, 46, 47, 48, 14, 49, 50, 51, 52, 53, 54, 55, 56, 15, 57, 58, 59, 60, 25, 61, 62, 63, 64, 65, 66, 67, 68, 26, 23, 24, 69, 70, 71, 72, 73, 74, 75, 76, 77, 78, 79, 80, 81, 5, 82, 83, 84, 85, 86, 87, 88, 17, 89, 90, 91, 92, 93, 94, 106, 107, 108, 109, 110, 111, 112, 113, 114, 115, 116, 117] (by decide +kernel) (by decide +kernel)
set_option maxRecDepth 20000 in
theorem gX4_bringsThere_X3_reaches : GoodIn wsX4_bringsThere (wsV RX4 135 RX3 yX3_reaches wsX3_reaches) := goodIn_app (goodIn_of _ (by decide +kernel)) ggX4_bringsThere_X3_reaches
theorem dX4_bringsThere_0 : decode cX4_bringsThere 0 = .ok (.aload_n 0, 1) := by decide +kernel
theorem dX4_bringsThere_1 : decode cX4_bringsThere 1 = .ok (.invokevirtual 132, 3) := by decide +kernel
theorem dX4_bringsThere_4 : decode cX4_bringsThere 4 = .ok (.iload 4, 2) := by decide +kernel
theorem dX4_bringsThere_6 : decode cX4_bringsThere 6 = .ok (.ifCond .eq 14, 3) := by decide +kernel
theorem dX4_bringsThere_9 : decode cX4_bringsThere 9 = .ok (.aload_n 0, 1) := by decide +kernel
theorem dX4_bringsThere_10 : decode cX4_bringsThere 10 = .ok (.getfield 16, 3) := by decide +kernel
theorem dX4_bringsThere_13 : decode cX4_bringsThere 13 = .ok (.iload_n 1, 1) := by decide +kernel
theorem dX4_bringsThere_14 : decode cX4_bringsThere 14 = .ok (.invokevirtual 314, 3) := by decide +kernel
theorem dX4_bringsThere_17 : decode cX4_bringsThere 17 = .ok (.goto 11, 3) := by decide +kernel
theorem dX4_bringsThere_20 : decode cX4_bringsThere 20 = .ok (.aload_n 0, 1) := by decide +kernel
theorem dX4_bringsThere_21 : decode cX4_bringsThere 21 = .ok (.getfield 16, 3) := by decide +kernel
theorem dX4_bringsThere_24 : decode cX4_bringsThere 24 = .ok (.iload_n 1, 1) := by decide +kernel
theorem dX4_bringsThere_25 : decode cX4_bringsThere 25 = .ok (.putfield 256, 3) := by decide +kernel
theorem dX4_bringsThere_28 : decode cX4_bringsThere 28 = .ok (.aload_n 0, 1) := by decide +kernel
theorem dX4_bringsThere_29 : decode cX4_bringsThere 29 = .ok (.getfield 16, 3) := by decide +kernel
theorem dX4_bringsThere_32 : decode cX4_bringsThere 32 = .ok (.iload_n 2, 1) := by decide +kernel
theorem dX4_bringsThere_33 : decode cX4_bringsThere 33 = .ok (.iload_n 3, 1) := by decide +kernel
theorem dX4_bringsThere_34 : decode cX4_bringsThere 34 = .ok (.invokevirtual 135, 3) := by decide +kernel
theorem dX4_bringsThere_37 : decode cX4_bringsThere 37 = .ok (.bipush (-9), 2) := by decide +kernel
theorem dX4_bringsThere_39 : decode cX4_bringsThere 39 = .ok (.if_icmp .eq 7, 3) := by decide +kernel
theorem dX4_bringsThere_42 : decode cX4_bringsThere 42 = .ok (.iconst 1, 1) := by decide +kernel
theorem dX4_bringsThere_43 : decode cX4_bringsThere 43 = .ok (.goto 4, 3) := by decide +kernel
theorem dX4_bringsThere_46 : decode cX4_bringsThere 46 = .ok (.iconst 0, 1) := by decide +kernel
theorem dX4_bringsThere_47 : decode cX4_bringsThere 47 = .ok (.ireturn, 1) := by decide +kernel
set_option maxRecDepth 20000 in
theorem ggX4_comesWithSigned_X4_think : GoodIn wsX4_comesWithSigned wsX4_think := goodIn_r _ [6, 1, 7, 8, 9, 10, 11, 12, 13, 14, 15, 16, 17, 18, 19, 20, 21, 22, 23, 24, 25, 26, 91, 92, 93, 94, 95, 96, 97, 98, 99, 100, 101, 102, 103, 104, 105, 106, 107, 108, 109, 110, 111, 112, 113] (by decide +kernel) (by decide +kernel)
set_option maxRecDepth 20000 in
theorem gX4_comesWithSigned_X4_think : GoodIn wsX4_comesWithSigned (wsV RX4 132 RX4 yX4_think wsX4_think) := goodIn_app (goodIn_of _ (by decide +kernel)) ggX4_comesWithSigned_X4_think
set_option maxRecDepth 20000 in
theorem ggX4_comesWithSigned_X3_addHand : GoodIn wsX4_comesWithSigned wsX3_addHand := goodIn_r _ [30, 14, 13, 23, 24, 25, 26, 15, 102, 103, 104, 105, 106, 107, 108, 109, 110, 111, 112, 113] (by decide +kernel) (by decide +kernel)
set_option maxRecDepth 20000 in
theorem gX4_comesWithSigned_X3_addHand : GoodIn wsX4_comesWithSigned (wsV RX4 286 RX3 yX3_addHand wsX3_addHand) := goodIn_app (goodIn_of _ (by decide +kernel)) ggX4_comesWithSigned_X3_addHand
set_option maxRecDepth 20000 in
theorem ggX4_comesWithSigned_X3_reaches : GoodIn wsX4_comesWithSigned wsX3_reaches := goodIn_r _ [34, 16, 18, 35, 36, 37, 11, 38, 39, 40, 41, 42, 43, 44, 14, 45, 46, 47, 48, 49, 50, 51, 52, 15, 53, 54, 55, 56, 25, 57, 58, 59, 60, 61, 62, 63, 64, 26, 23, 24, 65, 66, 67, 68, 69, 70, 71, 72, 73, 74, 75, 76, 77, 5, 78, 79, 80, 81, 82, 83, 84, 17, 85, 86, 87, 88, 89, 90, 102, 103, 104, 105, 106, 107, 108, 109, 110, 111, 112, 113] (by decide +kernel) (by decide +kernel)
set_option maxRecDepth 20000 in
theorem gX4_comesWithSigned_X3_reaches : GoodIn wsX4_comesWithSigned (wsV RX4 135 RX3 yX3_reaches wsX3_reaches) := goodIn_app (goodIn_of _ (by decide +kernel)) ggX4_comesWithSigned_X3_reaches
theorem dX4_comesWithSigned_0 : decode cX4_comesWithSigned 0 = .ok (.aload_n 0, 1) := by decide +kernel
theorem dX4_comesWithSigned_1 : decode cX4_comesWithSigned 1 = .ok (.invokevirtual 132, 3) := by decide +kernel
theorem dX4_comesWithSigned_4 : decode cX4_comesWithSigned 4 = .ok (.aload_n 0, 1) := by decide +kernel
theorem dX4_comesWithSigned_5 : decode cX4_comesWithSigned 5 = .ok (.getfield 16, 3) := by decide +kernel
theorem dX4_comesWithSigned_8 : decode cX4_comesWithSigned 8 = .ok (.iload_n 1, 1) := by decide +kernel
theorem dX4_comesWithSigned_9 : decode cX4_comesWithSigned 9 = .ok (.iconst 5, 1) := by decide +kernel
theorem dX4_comesWithSigned_10 : decode cX4_comesWithSigned 10 = .ok (.iload_n 2, 1) := by decide +kernel
theorem dX4_comesWithSigned_11 : decode cX4_comesWithSigned 11 = .ok (.invokevirtual 286, 3) := by decide +kernel
theorem dX4_comesWithSigned_14 : decode cX4_comesWithSigned 14 = .ok (.ifCond .ne 6, 3) := by decide +kernel
theorem dX4_comesWithSigned_17 : decode cX4_comesWithSigned 17 = .ok (.bipush (-9), 2) := by decide +kernel
theorem dX4_comesWithSigned_19 : decode cX4_comesWithSigned 19 = .ok (.ireturn, 1) := by decide +kernel
theorem dX4_comesWithSigned_20 : decode cX4_comesWithSigned 20 = .ok (.aload_n 0, 1) := by decide +kernel
theorem dX4_comesWithSigned_21 : decode cX4_comesWithSigned 21 = .ok (.getfield 16, 3) := by decide +kernel
theorem dX4_comesWithSigned_24 : decode cX4_comesWithSigned 24 = .ok (.iload_n 2, 1) := by decide +kernel
theorem dX4_comesWithSigned_25 : decode cX4_comesWithSigned 25 = .ok (.bipush 60, 2) := by decide +kernel
theorem dX4_comesWithSigned_27 : decode cX4_comesWithSigned 27 = .ok (.invokevirtual 135, 3) := by decide +kernel
theorem dX4_comesWithSigned_30 : decode cX4_comesWithSigned 30 = .ok (.ireturn, 1) := by decide +kernel
set_option maxRecDepth 20000 in
theorem ggX4_endOfBids_X4_think : GoodIn wsX4_endOfBids wsX4_think := goodIn_r _ [6, 1, 7, 8, 9, 10, 11, 12, 13, 14, 15, 16, 17, 18, 19, 20, 21, 22, 23, 24, 25, 26, 95, 96, 97, 98, 99, 100, 101, 102, 103, 104, 105, 106, 107, 108, 109, 110, 111, 112, 113, 114, 115, 116, 117] (by decide +kernel) (by decide +kernel)
set_option maxRecDepth 20000 in
theorem gX4_endOfBids_X4_think : GoodIn wsX4_endOfBids (wsV RX4 132 RX4 yX4_think wsX4_think) := goodIn_app (goodIn_of _ (by decide +kernel)) ggX4_endOfBids_X4_think
set_option maxRecDepth 20000 in
theorem ggX4_endOfBids_X3_dropLetters : GoodIn wsX4_endOfBids wsX3_dropLetters := goodIn_r _ [30, 14, 31, 32, 33, 11, 34, 26, 106, 107, 108, 109, 110, 111, 112, 113, 114, 115, 116, 117] (by decide +kernel) (by decide +kernel)
set_option maxRecDepth 20000 in
theorem gX4_endOfBids_X3_dropLetters : GoodIn wsX4_endOfBids (wsV RX4 314 RX3 yX3_dropLetters wsX3_dropLetters) := goodIn_app (goodIn_of _ (by decide +kernel)) ggX4_endOfBids_X3_dropLetters
set_option maxRecDepth 20000 in
theorem ggX4_endOfBids_X3_goDays : GoodIn wsX4_endOfBids wsX3_goDays := goodIn_r _ [38, 39, 40, 41, 11, 42, 16, 43, 44, 45, 46, 47, 48, 14, 49, 50, 51, 52, 53, 54, 55, 56, 15, 57, 58, 59, 60, 18, 25, 61, 62, 63, 64, 65, 66, 67, 68, 26, 23, 24, 69, 70, 71, 72, 73, 74, 75, 76, 77, 78, 79, 80, 81, 5, 82, 83, 84, 85, 86, 87, 88, 17, 89, 90, 91, 92, 93, 94, 106, 107, 108, 109, 110, 111, 112, 113, 114, 115, 116, 117] (by decide +kernel) (by decide +kernel)
set_option maxRecDepth 20000 in
theorem gX4_endOfBids_X3_goDays : GoodIn wsX4_endOfBids (wsV RX4 126 RX3 yX3_goDays wsX3_goDays) := goodIn_app (goodIn_of _ (by decide +kernel)) ggX4_endOfBids_X3_goDays
theorem dX4_endOfBids_0 : decode cX4_endOfBids 0 = .ok (.aload_n 0, 1) := by decide +kernel
theorem dX4_endOfBids_1 : decode cX4_endOfBids 1 = .ok (.invokevirtual 132, 3) := by decide +kernel
theorem dX4_endOfBids_4 : decode cX4_endOfBids 4 = .ok (.aload_n 0, 1) := by decide +kernel
theorem dX4_endOfBids_5 : decode cX4_endOfBids 5 = .ok (.getfield 16, 3) := by decide +kernel
theorem dX4_endOfBids_8 : decode cX4_endOfBids 8 = .ok (.iload_n 3, 1) := by decide +kernel
theorem dX4_endOfBids_9 : decode cX4_endOfBids 9 = .ok (.iconst 1, 1) := by decide +kernel
theorem dX4_endOfBids_10 : decode cX4_endOfBids 10 = .ok (.ishr, 1) := by decide +kernel
theorem dX4_endOfBids_11 : decode cX4_endOfBids 11 = .ok (.iload_n 1, 1) := by decide +kernel
theorem dX4_endOfBids_12 : decode cX4_endOfBids 12 = .ok (.ishl, 1) := by decide +kernel
theorem dX4_endOfBids_13 : decode cX4_endOfBids 13 = .ok (.iload_n 3, 1) := by decide +kernel
theorem dX4_endOfBids_14 : decode cX4_endOfBids 14 = .ok (.iconst 1, 1) := by decide +kernel
theorem dX4_endOfBids_15 : decode cX4_endOfBids 15 = .ok (.iand, 1) := by decide +kernel
theorem dX4_endOfBids_16 : decode cX4_endOfBids 16 = .ok (.iload_n 2, 1) := by decide +kernel
theorem dX4_endOfBids_17 : decode cX4_endOfBids 17 = .ok (.ishl, 1) := by decide +kernel
theorem dX4_endOfBids_18 : decode cX4_endOfBids 18 = .ok (.ior, 1) := by decide +kernel
theorem dX4_endOfBids_19 : decode cX4_endOfBids 19 = .ok (.invokevirtual 314, 3) := by decide +kernel
theorem dX4_endOfBids_22 : decode cX4_endOfBids 22 = .ok (.aload_n 0, 1) := by decide +kernel
theorem dX4_endOfBids_23 : decode cX4_endOfBids 23 = .ok (.getfield 16, 3) := by decide +kernel
theorem dX4_endOfBids_26 : decode cX4_endOfBids 26 = .ok (.iload 4, 2) := by decide +kernel
theorem dX4_endOfBids_28 : decode cX4_endOfBids 28 = .ok (.invokevirtual 126, 3) := by decide +kernel
theorem dX4_endOfBids_31 : decode cX4_endOfBids 31 = .ok (.pop, 1) := by decide +kernel
theorem dX4_endOfBids_32 : decode cX4_endOfBids 32 = .ok (.aload_n 0, 1) := by decide +kernel
theorem dX4_endOfBids_33 : decode cX4_endOfBids 33 = .ok (.getfield 16, 3) := by decide +kernel
theorem dX4_endOfBids_36 : decode cX4_endOfBids 36 = .ok (.getfield 120, 3) := by decide +kernel
theorem dX4_endOfBids_39 : decode cX4_endOfBids 39 = .ok (.ireturn, 1) := by decide +kernel
set_option maxRecDepth 20000 in
theorem ggX4_keepsBid_X4_steps : GoodIn wsX4_keepsBid wsX4_steps := goodIn_r _ [6, 7, 8, 9, 10, 11, 12, 5, 13, 14, 15, 16] (by decide +kernel) (by decide +kernel)
set_option maxRecDepth 20000 in
theorem gX4_keepsBid_X4_steps : GoodIn wsX4_keepsBid (va_wsS RX4 317 yX4_steps wsX4_steps) := goodIn_app (goodIn_of _ (by decide +kernel)) ggX4_keepsBid_X4_steps
theorem dX4_keepsBid_0 : decode cX4_keepsBid 0 = .ok (.aload_n 0, 1) := by decide +kernel
theorem dX4_keepsBid_1 : decode cX4_keepsBid 1 = .ok (.getfield 10, 3) := by decide +kernel
theorem dX4_keepsBid_4 : decode cX4_keepsBid 4 = .ok (.getfield 105, 3) := by decide +kernel
theorem dX4_keepsBid_7 : decode cX4_keepsBid 7 = .ok (.aload_n 0, 1) := by decide +kernel
theorem dX4_keepsBid_8 : decode cX4_keepsBid 8 = .ok (.getfield 10, 3) := by decide +kernel
theorem dX4_keepsBid_11 : decode cX4_keepsBid 11 = .ok (.getfield 92, 3) := by decide +kernel
theorem dX4_keepsBid_14 : decode cX4_keepsBid 14 = .ok (.iload_n 1, 1) := by decide +kernel
theorem dX4_keepsBid_15 : decode cX4_keepsBid 15 = .ok (.iaload, 1) := by decide +kernel
theorem dX4_keepsBid_16 : decode cX4_keepsBid 16 = .ok (.iaload, 1) := by decide +kernel
theorem dX4_keepsBid_17 : decode cX4_keepsBid 17 = .ok (.istore 4, 2) := by decide +kernel
theorem dX4_keepsBid_19 : decode cX4_keepsBid 19 = .ok (.aload_n 0, 1) := by decide +kernel
theorem dX4_keepsBid_20 : decode cX4_keepsBid 20 = .ok (.getfield 47, 3) := by decide +kernel
theorem dX4_keepsBid_23 : decode cX4_keepsBid 23 = .ok (.iload_n 2, 1) := by decide +kernel
theorem dX4_keepsBid_24 : decode cX4_keepsBid 24 = .ok (.iaload, 1) := by decide +kernel
theorem dX4_keepsBid_25 : decode cX4_keepsBid 25 = .ok (.iload 4, 2) := by decide +kernel
theorem dX4_keepsBid_27 : decode cX4_keepsBid 27 = .ok (.invokestatic 317, 3) := by decide +kernel
theorem dX4_keepsBid_30 : decode cX4_keepsBid 30 = .ok (.aload_n 0, 1) := by decide +kernel
theorem dX4_keepsBid_31 : decode cX4_keepsBid 31 = .ok (.getfield 47, 3) := by decide +kernel
theorem dX4_keepsBid_34 : decode cX4_keepsBid 34 = .ok (.iload_n 2, 1) := by decide +kernel
theorem dX4_keepsBid_35 : decode cX4_keepsBid 35 = .ok (.iload_n 3, 1) := by decide +kernel
theorem dX4_keepsBid_36 : decode cX4_keepsBid 36 = .ok (.ixor, 1) := by decide +kernel
theorem dX4_keepsBid_37 : decode cX4_keepsBid 37 = .ok (.iaload, 1) := by decide +kernel
theorem dX4_keepsBid_38 : decode cX4_keepsBid 38 = .ok (.iload 4, 2) := by decide +kernel
theorem dX4_keepsBid_40 : decode cX4_keepsBid 40 = .ok (.invokestatic 317, 3) := by decide +kernel
theorem dX4_keepsBid_43 : decode cX4_keepsBid 43 = .ok (.if_icmp .gt 7, 3) := by decide +kernel
theorem dX4_keepsBid_46 : decode cX4_keepsBid 46 = .ok (.iconst 1, 1) := by decide +kernel
theorem dX4_keepsBid_47 : decode cX4_keepsBid 47 = .ok (.goto 4, 3) := by decide +kernel
theorem dX4_keepsBid_50 : decode cX4_keepsBid 50 = .ok (.iconst 0, 1) := by decide +kernel
theorem dX4_keepsBid_51 : decode cX4_keepsBid 51 = .ok (.ireturn, 1) := by decide +kernel
set_option maxRecDepth 20000 in
theorem ggX4_placesByLog_X4_think : GoodIn wsX4_placesByLog wsX4_think := goodIn_r _ [7, 2, 1, 8, 9, 10, 11, 12, 13, 14, 15, 16, 17, 18, 19, 20, 21, 22, 23, 24, 25, 26, 89, 90, 91, 92, 93, 94, 95, 96, 97, 98, 99, 100, 101, 102, 103, 104, 105, 106, 107, 108, 109, 110, 111] (by decide +kernel) (by decide +kernel)
set_option maxRecDepth 20000 in
theorem gX4_placesByLog_X4_think : GoodIn wsX4_placesByLog (wsV RX4 132 RX4 yX4_think wsX4_think) := goodIn_app (goodIn_of _ (by decide +kernel)) ggX4_placesByLog_X4_think
set_option maxRecDepth 20000 in
theorem ggX4_placesByLog_X4_thoughtFollowsRow : GoodIn wsX4_placesByLog wsX4_thoughtFollowsRow := goodIn_r _ [30, 31, 2, 32, 33, 34, 35, 11, 36, 16, 37, 38, 39, 40, 41, 42, 14, 43, 44, 45, 46, 47, 48, 49, 50, 15, 51, 52, 53, 54, 18, 25, 55, 56, 57, 58, 59, 60, 61, 62, 26, 23, 24, 63, 64, 65, 66, 67, 68, 69, 70, 71, 72, 73, 74, 75, 6, 76, 77, 78, 79, 80, 81, 82, 17, 83, 84, 85, 86, 87, 88, 89, 90, 91, 92, 93, 94, 95, 96, 97, 98, 99, 100, 101, 102, 103, 104, 105, 106, 107, 108, 109, 110, 111] (by decide +kernel) (by decide +kernel)
set_option maxRecDepth 20000 in
theorem gX4_placesByLog_X4_thoughtFollowsRow : GoodIn wsX4_placesByLog (wsV RX4 320 RX4 yX4_thoughtFollowsRow wsX4_thoughtFollowsRow) := goodIn_app (goodIn_of _ (by decide +kernel)) ggX4_placesByLog_X4_thoughtFollowsRow
theorem dX4_placesByLog_0 : decode cX4_placesByLog 0 = .ok (.iconst 0, 1) := by decide +kernel
theorem dX4_placesByLog_1 : decode cX4_placesByLog 1 = .ok (.istore_n 2, 1) := by decide +kernel
theorem dX4_placesByLog_2 : decode cX4_placesByLog 2 = .ok (.iconst 0, 1) := by decide +kernel
theorem dX4_placesByLog_3 : decode cX4_placesByLog 3 = .ok (.istore_n 3, 1) := by decide +kernel
theorem dX4_placesByLog_4 : decode cX4_placesByLog 4 = .ok (.iload_n 3, 1) := by decide +kernel
theorem dX4_placesByLog_5 : decode cX4_placesByLog 5 = .ok (.aload_n 0, 1) := by decide +kernel
theorem dX4_placesByLog_6 : decode cX4_placesByLog 6 = .ok (.getfield 10, 3) := by decide +kernel
theorem dX4_placesByLog_9 : decode cX4_placesByLog 9 = .ok (.getfield 177, 3) := by decide +kernel
theorem dX4_placesByLog_12 : decode cX4_placesByLog 12 = .ok (.if_icmp .ge 36, 3) := by decide +kernel
theorem dX4_placesByLog_15 : decode cX4_placesByLog 15 = .ok (.aload_n 0, 1) := by decide +kernel
theorem dX4_placesByLog_16 : decode cX4_placesByLog 16 = .ok (.invokevirtual 132, 3) := by decide +kernel
theorem dX4_placesByLog_19 : decode cX4_placesByLog 19 = .ok (.aload_n 0, 1) := by decide +kernel
theorem dX4_placesByLog_20 : decode cX4_placesByLog 20 = .ok (.getfield 16, 3) := by decide +kernel
theorem dX4_placesByLog_23 : decode cX4_placesByLog 23 = .ok (.getfield 92, 3) := by decide +kernel
theorem dX4_placesByLog_26 : decode cX4_placesByLog 26 = .ok (.iload_n 1, 1) := by decide +kernel
theorem dX4_placesByLog_27 : decode cX4_placesByLog 27 = .ok (.iload_n 3, 1) := by decide +kernel
theorem dX4_placesByLog_28 : decode cX4_placesByLog 28 = .ok (.iastore, 1) := by decide +kernel
theorem dX4_placesByLog_29 : decode cX4_placesByLog 29 = .ok (.aload_n 0, 1) := by decide +kernel
theorem dX4_placesByLog_30 : decode cX4_placesByLog 30 = .ok (.invokevirtual 320, 3) := by decide +kernel
theorem dX4_placesByLog_33 : decode cX4_placesByLog 33 = .ok (.ifCond .eq 9, 3) := by decide +kernel
theorem dX4_placesByLog_36 : decode cX4_placesByLog 36 = .ok (.iload_n 2, 1) := by decide +kernel
theorem dX4_placesByLog_37 : decode cX4_placesByLog 37 = .ok (.iconst 1, 1) := by decide +kernel
theorem dX4_placesByLog_38 : decode cX4_placesByLog 38 = .ok (.iload_n 3, 1) := by decide +kernel
theorem dX4_placesByLog_39 : decode cX4_placesByLog 39 = .ok (.ishl, 1) := by decide +kernel
theorem dX4_placesByLog_40 : decode cX4_placesByLog 40 = .ok (.ior, 1) := by decide +kernel
theorem dX4_placesByLog_41 : decode cX4_placesByLog 41 = .ok (.istore_n 2, 1) := by decide +kernel
theorem dX4_placesByLog_42 : decode cX4_placesByLog 42 = .ok (.iinc 3 1, 3) := by decide +kernel
theorem dX4_placesByLog_45 : decode cX4_placesByLog 45 = .ok (.goto (-41), 3) := by decide +kernel
theorem dX4_placesByLog_48 : decode cX4_placesByLog 48 = .ok (.iload_n 2, 1) := by decide +kernel
theorem dX4_placesByLog_49 : decode cX4_placesByLog 49 = .ok (.ireturn, 1) := by decide +kernel
set_option maxRecDepth 20000 in
theorem ggX4_kindsByLog_X4_think : GoodIn wsX4_kindsByLog wsX4_think := goodIn_r _ [6, 1, 7, 8, 9, 10, 11, 12, 13, 14, 15, 16, 17, 18, 19, 20, 21, 22, 23, 24, 25, 26, 89, 90, 91, 92, 93, 94, 95, 96, 97, 98, 99, 100, 101, 102, 103, 104, 105, 106, 107, 108, 109, 110, 111] (by decide +kernel) (by decide +kernel)
set_option maxRecDepth 20000 in
theorem gX4_kindsByLog_X4_think : GoodIn wsX4_kindsByLog (wsV RX4 132 RX4 yX4_think wsX4_think) := goodIn_app (goodIn_of _ (by decide +kernel)) ggX4_kindsByLog_X4_think
set_option maxRecDepth 20000 in
theorem ggX4_kindsByLog_X4_thoughtFollowsRow : GoodIn wsX4_kindsByLog wsX4_thoughtFollowsRow := goodIn_r _ [30, 31, 1, 32, 33, 34, 35, 11, 36, 16, 37, 38, 39, 40, 41, 42, 14, 43, 44, 45, 46, 47, 48, 49, 50, 15, 51, 52, 53, 54, 18, 25, 55, 56, 57, 58, 59, 60, 61, 62, 26, 23, 24, 63, 64, 65, 66, 67, 68, 69, 70, 71, 72, 73, 74, 75, 5, 76, 77, 78, 79, 80, 81, 82, 17, 83, 84, 85, 86, 87, 88, 89, 90, 91, 92, 93, 94, 95, 96, 97, 98, 99, 100, 101, 102, 103, 104, 105, 106, 107, 108, 109, 110, 111] (by decide +kernel) (by decide +kernel)
set_option maxRecDepth 20000 in
theorem gX4_kindsByLog_X4_thoughtFollowsRow : GoodIn wsX4_kindsByLog (wsV RX4 320 RX4 yX4_thoughtFollowsRow wsX4_thoughtFollowsRow) := goodIn_app (goodIn_of _ (by decide +kernel)) ggX4_kindsByLog_X4_thoughtFollowsRow
theorem dX4_kindsByLog_0 : decode cX4_kindsByLog 0 = .ok (.iconst 0, 1) := by decide +kernel
theorem dX4_kindsByLog_1 : decode cX4_kindsByLog 1 = .ok (.istore_n 2, 1) := by decide +kernel
theorem dX4_kindsByLog_2 : decode cX4_kindsByLog 2 = .ok (.iconst 0, 1) := by decide +kernel
theorem dX4_kindsByLog_3 : decode cX4_kindsByLog 3 = .ok (.istore_n 3, 1) := by decide +kernel
theorem dX4_kindsByLog_4 : decode cX4_kindsByLog 4 = .ok (.iload_n 3, 1) := by decide +kernel
theorem dX4_kindsByLog_5 : decode cX4_kindsByLog 5 = .ok (.bipush 6, 2) := by decide +kernel
theorem dX4_kindsByLog_7 : decode cX4_kindsByLog 7 = .ok (.if_icmp .ge 36, 3) := by decide +kernel
theorem dX4_kindsByLog_10 : decode cX4_kindsByLog 10 = .ok (.aload_n 0, 1) := by decide +kernel
theorem dX4_kindsByLog_11 : decode cX4_kindsByLog 11 = .ok (.invokevirtual 132, 3) := by decide +kernel
theorem dX4_kindsByLog_14 : decode cX4_kindsByLog 14 = .ok (.aload_n 0, 1) := by decide +kernel
theorem dX4_kindsByLog_15 : decode cX4_kindsByLog 15 = .ok (.getfield 16, 3) := by decide +kernel
theorem dX4_kindsByLog_18 : decode cX4_kindsByLog 18 = .ok (.getfield 86, 3) := by decide +kernel
theorem dX4_kindsByLog_21 : decode cX4_kindsByLog 21 = .ok (.iload_n 1, 1) := by decide +kernel
theorem dX4_kindsByLog_22 : decode cX4_kindsByLog 22 = .ok (.iload_n 3, 1) := by decide +kernel
theorem dX4_kindsByLog_23 : decode cX4_kindsByLog 23 = .ok (.iastore, 1) := by decide +kernel
theorem dX4_kindsByLog_24 : decode cX4_kindsByLog 24 = .ok (.aload_n 0, 1) := by decide +kernel
theorem dX4_kindsByLog_25 : decode cX4_kindsByLog 25 = .ok (.invokevirtual 320, 3) := by decide +kernel
theorem dX4_kindsByLog_28 : decode cX4_kindsByLog 28 = .ok (.ifCond .eq 9, 3) := by decide +kernel
theorem dX4_kindsByLog_31 : decode cX4_kindsByLog 31 = .ok (.iload_n 2, 1) := by decide +kernel
theorem dX4_kindsByLog_32 : decode cX4_kindsByLog 32 = .ok (.iconst 1, 1) := by decide +kernel
theorem dX4_kindsByLog_33 : decode cX4_kindsByLog 33 = .ok (.iload_n 3, 1) := by decide +kernel
theorem dX4_kindsByLog_34 : decode cX4_kindsByLog 34 = .ok (.ishl, 1) := by decide +kernel
theorem dX4_kindsByLog_35 : decode cX4_kindsByLog 35 = .ok (.ior, 1) := by decide +kernel
theorem dX4_kindsByLog_36 : decode cX4_kindsByLog 36 = .ok (.istore_n 2, 1) := by decide +kernel
theorem dX4_kindsByLog_37 : decode cX4_kindsByLog 37 = .ok (.iinc 3 1, 3) := by decide +kernel
theorem dX4_kindsByLog_40 : decode cX4_kindsByLog 40 = .ok (.goto (-36), 3) := by decide +kernel
theorem dX4_kindsByLog_43 : decode cX4_kindsByLog 43 = .ok (.iload_n 2, 1) := by decide +kernel
theorem dX4_kindsByLog_44 : decode cX4_kindsByLog 44 = .ok (.ireturn, 1) := by decide +kernel
set_option maxRecDepth 20000 in
theorem ggX4_thoughtFollowsRow_X3_goDay : GoodIn wsX4_thoughtFollowsRow wsX3_goDay := goodIn_r _ [8, 9, 10, 11, 12, 7, 13, 14, 15, 16, 17, 18, 19, 20, 21, 22, 23, 24, 25, 26, 27, 28, 29, 30, 31, 32, 33, 34, 35, 36, 37, 38, 39, 40, 41, 42, 43, 44, 45, 46, 47, 48, 49, 50, 51, 52, 53, 54, 55, 56, 57, 58, 59, 60, 61, 62, 63, 64, 65, 66, 67, 68, 69, 70, 82, 83, 84, 85, 86, 87, 88, 89, 90, 91, 92, 93] (by decide +kernel) (by decide +kernel)
set_option maxRecDepth 20000 in
theorem gX4_thoughtFollowsRow_X3_goDay : GoodIn wsX4_thoughtFollowsRow (wsV RX4 324 RX3 yX3_goDay wsX3_goDay) := goodIn_app (goodIn_of _ (by decide +kernel)) ggX4_thoughtFollowsRow_X3_goDay
theorem dX4_thoughtFollowsRow_0 : decode cX4_thoughtFollowsRow 0 = .ok (.iconst 0, 1) := by decide +kernel
theorem dX4_thoughtFollowsRow_1 : decode cX4_thoughtFollowsRow 1 = .ok (.istore_n 1, 1) := by decide +kernel
theorem dX4_thoughtFollowsRow_2 : decode cX4_thoughtFollowsRow 2 = .ok (.iload_n 1, 1) := by decide +kernel
theorem dX4_thoughtFollowsRow_3 : decode cX4_thoughtFollowsRow 3 = .ok (.aload_n 0, 1) := by decide +kernel
theorem dX4_thoughtFollowsRow_4 : decode cX4_thoughtFollowsRow 4 = .ok (.getfield 230, 3) := by decide +kernel
theorem dX4_thoughtFollowsRow_7 : decode cX4_thoughtFollowsRow 7 = .ok (.if_icmp .ge 35, 3) := by decide +kernel
theorem dX4_thoughtFollowsRow_10 : decode cX4_thoughtFollowsRow 10 = .ok (.aload_n 0, 1) := by decide +kernel
theorem dX4_thoughtFollowsRow_11 : decode cX4_thoughtFollowsRow 11 = .ok (.getfield 16, 3) := by decide +kernel
theorem dX4_thoughtFollowsRow_14 : decode cX4_thoughtFollowsRow 14 = .ok (.getfield 120, 3) := by decide +kernel
theorem dX4_thoughtFollowsRow_17 : decode cX4_thoughtFollowsRow 17 = .ok (.aload_n 0, 1) := by decide +kernel
theorem dX4_thoughtFollowsRow_18 : decode cX4_thoughtFollowsRow 18 = .ok (.getfield 43, 3) := by decide +kernel
theorem dX4_thoughtFollowsRow_21 : decode cX4_thoughtFollowsRow 21 = .ok (.iload_n 1, 1) := by decide +kernel
theorem dX4_thoughtFollowsRow_22 : decode cX4_thoughtFollowsRow 22 = .ok (.iaload, 1) := by decide +kernel
theorem dX4_thoughtFollowsRow_23 : decode cX4_thoughtFollowsRow 23 = .ok (.if_icmp .eq 5, 3) := by decide +kernel
theorem dX4_thoughtFollowsRow_26 : decode cX4_thoughtFollowsRow 26 = .ok (.iconst 0, 1) := by decide +kernel
theorem dX4_thoughtFollowsRow_27 : decode cX4_thoughtFollowsRow 27 = .ok (.ireturn, 1) := by decide +kernel
theorem dX4_thoughtFollowsRow_28 : decode cX4_thoughtFollowsRow 28 = .ok (.aload_n 0, 1) := by decide +kernel
theorem dX4_thoughtFollowsRow_29 : decode cX4_thoughtFollowsRow 29 = .ok (.getfield 16, 3) := by decide +kernel
theorem dX4_thoughtFollowsRow_32 : decode cX4_thoughtFollowsRow 32 = .ok (.invokevirtual 324, 3) := by decide +kernel
theorem dX4_thoughtFollowsRow_35 : decode cX4_thoughtFollowsRow 35 = .ok (.pop, 1) := by decide +kernel
theorem dX4_thoughtFollowsRow_36 : decode cX4_thoughtFollowsRow 36 = .ok (.iinc 1 1, 3) := by decide +kernel
theorem dX4_thoughtFollowsRow_39 : decode cX4_thoughtFollowsRow 39 = .ok (.goto (-37), 3) := by decide +kernel
theorem dX4_thoughtFollowsRow_42 : decode cX4_thoughtFollowsRow 42 = .ok (.iconst 1, 1) := by decide +kernel
theorem dX4_thoughtFollowsRow_43 : decode cX4_thoughtFollowsRow 43 = .ok (.ireturn, 1) := by decide +kernel
set_option maxRecDepth 20000 in
theorem ggX4_firstWrongCourse_X4_think : GoodIn wsX4_firstWrongCourse wsX4_think := goodIn_r _ [8, 2, 9, 10, 11, 12, 13, 14, 15, 16, 17, 18, 19, 20, 21, 22, 23, 24, 25, 26, 27, 28, 89, 90, 91, 92, 93, 94, 95, 96, 97, 98, 99, 100, 101, 102, 103, 104, 105, 106, 107, 108, 109, 110, 111] (by decide +kernel) (by decide +kernel)
set_option maxRecDepth 20000 in
theorem gX4_firstWrongCourse_X4_think : GoodIn wsX4_firstWrongCourse (wsV RX4 132 RX4 yX4_think wsX4_think) := goodIn_app (goodIn_of _ (by decide +kernel)) ggX4_firstWrongCourse_X4_think
set_option maxRecDepth 20000 in
theorem ggX4_firstWrongCourse_X3_points : GoodIn wsX4_firstWrongCourse wsX3_points := goodIn_r _ [32, 33, 34, 35, 13, 36, 37, 38, 16, 39, 40, 41, 42, 43, 44, 45, 46, 17, 47, 48, 49, 50, 20, 27, 18, 51, 52, 53, 54, 55, 56, 57, 58, 28, 25, 26, 59, 60, 61, 62, 63, 64, 65, 66, 100, 101, 102, 103, 104, 105, 106, 107, 108, 109, 110, 111] (by decide +kernel) (by decide +kernel)
set_option maxRecDepth 20000 in
theorem gX4_firstWrongCourse_X3_points : GoodIn wsX4_firstWrongCourse (wsV RX4 129 RX3 yX3_points wsX3_points) := goodIn_app (goodIn_of _ (by decide +kernel)) ggX4_firstWrongCourse_X3_points
set_option maxRecDepth 20000 in
theorem ggX4_firstWrongCourse_X3_goDay : GoodIn wsX4_firstWrongCourse wsX3_goDay := goodIn_r _ [70, 18, 33, 34, 35, 13, 36, 37, 38, 16, 39, 40, 41, 42, 43, 44, 45, 46, 17, 47, 48, 49, 50, 20, 27, 51, 52, 53, 54, 55, 56, 57, 58, 28, 25, 26, 59, 60, 61, 62, 63, 64, 65, 66, 71, 72, 73, 74, 75, 7, 76, 77, 78, 79, 80, 81, 82, 19, 83, 84, 85, 86, 87, 88, 100, 101, 102, 103, 104, 105, 106, 107, 108, 109, 110, 111] (by decide +kernel) (by decide +kernel)
set_option maxRecDepth 20000 in
theorem gX4_firstWrongCourse_X3_goDay : GoodIn wsX4_firstWrongCourse (wsV RX4 324 RX3 yX3_goDay wsX3_goDay) := goodIn_app (goodIn_of _ (by decide +kernel)) ggX4_firstWrongCourse_X3_goDay
theorem dX4_firstWrongCourse_0 : decode cX4_firstWrongCourse 0 = .ok (.aload_n 0, 1) := by decide +kernel
theorem dX4_firstWrongCourse_1 : decode cX4_firstWrongCourse 1 = .ok (.invokevirtual 132, 3) := by decide +kernel
theorem dX4_firstWrongCourse_4 : decode cX4_firstWrongCourse 4 = .ok (.iconst 0, 1) := by decide +kernel
theorem dX4_firstWrongCourse_5 : decode cX4_firstWrongCourse 5 = .ok (.istore_n 1, 1) := by decide +kernel
theorem dX4_firstWrongCourse_6 : decode cX4_firstWrongCourse 6 = .ok (.iload_n 1, 1) := by decide +kernel
theorem dX4_firstWrongCourse_7 : decode cX4_firstWrongCourse 7 = .ok (.aload_n 0, 1) := by decide +kernel
theorem dX4_firstWrongCourse_8 : decode cX4_firstWrongCourse 8 = .ok (.getfield 230, 3) := by decide +kernel
theorem dX4_firstWrongCourse_11 : decode cX4_firstWrongCourse 11 = .ok (.if_icmp .ge 48, 3) := by decide +kernel
theorem dX4_firstWrongCourse_14 : decode cX4_firstWrongCourse 14 = .ok (.aload_n 0, 1) := by decide +kernel
theorem dX4_firstWrongCourse_15 : decode cX4_firstWrongCourse 15 = .ok (.getfield 16, 3) := by decide +kernel
theorem dX4_firstWrongCourse_18 : decode cX4_firstWrongCourse 18 = .ok (.invokevirtual 129, 3) := by decide +kernel
theorem dX4_firstWrongCourse_21 : decode cX4_firstWrongCourse 21 = .ok (.istore_n 2, 1) := by decide +kernel
theorem dX4_firstWrongCourse_22 : decode cX4_firstWrongCourse 22 = .ok (.aload_n 0, 1) := by decide +kernel
theorem dX4_firstWrongCourse_23 : decode cX4_firstWrongCourse 23 = .ok (.getfield 43, 3) := by decide +kernel
theorem dX4_firstWrongCourse_26 : decode cX4_firstWrongCourse 26 = .ok (.iload_n 1, 1) := by decide +kernel
theorem dX4_firstWrongCourse_27 : decode cX4_firstWrongCourse 27 = .ok (.iaload, 1) := by decide +kernel
theorem dX4_firstWrongCourse_28 : decode cX4_firstWrongCourse 28 = .ok (.iload_n 2, 1) := by decide +kernel
theorem dX4_firstWrongCourse_29 : decode cX4_firstWrongCourse 29 = .ok (.bipush (-9), 2) := by decide +kernel
theorem dX4_firstWrongCourse_31 : decode cX4_firstWrongCourse 31 = .ok (.if_icmp .ne 8, 3) := by decide +kernel
theorem dX4_firstWrongCourse_34 : decode cX4_firstWrongCourse 34 = .ok (.bipush 9, 2) := by decide +kernel
theorem dX4_firstWrongCourse_36 : decode cX4_firstWrongCourse 36 = .ok (.goto 4, 3) := by decide +kernel
theorem dX4_firstWrongCourse_39 : decode cX4_firstWrongCourse 39 = .ok (.iload_n 2, 1) := by decide +kernel
theorem dX4_firstWrongCourse_40 : decode cX4_firstWrongCourse 40 = .ok (.if_icmp .eq 5, 3) := by decide +kernel
theorem dX4_firstWrongCourse_43 : decode cX4_firstWrongCourse 43 = .ok (.iload_n 1, 1) := by decide +kernel
theorem dX4_firstWrongCourse_44 : decode cX4_firstWrongCourse 44 = .ok (.ireturn, 1) := by decide +kernel
theorem dX4_firstWrongCourse_45 : decode cX4_firstWrongCourse 45 = .ok (.aload_n 0, 1) := by decide +kernel
theorem dX4_firstWrongCourse_46 : decode cX4_firstWrongCourse 46 = .ok (.getfield 16, 3) := by decide +kernel
theorem dX4_firstWrongCourse_49 : decode cX4_firstWrongCourse 49 = .ok (.invokevirtual 324, 3) := by decide +kernel
theorem dX4_firstWrongCourse_52 : decode cX4_firstWrongCourse 52 = .ok (.pop, 1) := by decide +kernel
theorem dX4_firstWrongCourse_53 : decode cX4_firstWrongCourse 53 = .ok (.iinc 1 1, 3) := by decide +kernel
theorem dX4_firstWrongCourse_56 : decode cX4_firstWrongCourse 56 = .ok (.goto (-50), 3) := by decide +kernel
theorem dX4_firstWrongCourse_59 : decode cX4_firstWrongCourse 59 = .ok (.bipush (-9), 2) := by decide +kernel
theorem dX4_firstWrongCourse_61 : decode cX4_firstWrongCourse 61 = .ok (.ireturn, 1) := by decide +kernel
theorem dX4_rowOf_0 : decode cX4_rowOf 0 = .ok (.iload_n 0, 1) := by decide +kernel
theorem dX4_rowOf_1 : decode cX4_rowOf 1 = .ok (.bipush 8, 2) := by decide +kernel
theorem dX4_rowOf_3 : decode cX4_rowOf 3 = .ok (.idiv, 1) := by decide +kernel
theorem dX4_rowOf_4 : decode cX4_rowOf 4 = .ok (.ireturn, 1) := by decide +kernel
theorem dX4_columnOf_0 : decode cX4_columnOf 0 = .ok (.iload_n 0, 1) := by decide +kernel
theorem dX4_columnOf_1 : decode cX4_columnOf 1 = .ok (.bipush 8, 2) := by decide +kernel
theorem dX4_columnOf_3 : decode cX4_columnOf 3 = .ok (.irem, 1) := by decide +kernel
theorem dX4_columnOf_4 : decode cX4_columnOf 4 = .ok (.ireturn, 1) := by decide +kernel
set_option maxRecDepth 20000 in
theorem ggX4_steps_X4_rowOf : GoodIn wsX4_steps wsX4_rowOf := goodIn_r _ [8] (by decide +kernel) (by decide +kernel)
set_option maxRecDepth 20000 in
theorem gX4_steps_X4_rowOf : GoodIn wsX4_steps (va_wsS RX4 327 yX4_rowOf wsX4_rowOf) := goodIn_app (goodIn_of _ (by decide +kernel)) ggX4_steps_X4_rowOf
set_option maxRecDepth 20000 in
theorem ggX4_steps_X4_columnOf : GoodIn wsX4_steps wsX4_columnOf := goodIn_r _ [11] (by decide +kernel) (by decide +kernel)
set_option maxRecDepth 20000 in
theorem gX4_steps_X4_columnOf : GoodIn wsX4_steps (va_wsS RX4 330 yX4_columnOf wsX4_columnOf) := goodIn_app (goodIn_of _ (by decide +kernel)) ggX4_steps_X4_columnOf
theorem dX4_steps_0 : decode cX4_steps 0 = .ok (.iload_n 0, 1) := by decide +kernel
theorem dX4_steps_1 : decode cX4_steps 1 = .ok (.invokestatic 327, 3) := by decide +kernel
theorem dX4_steps_4 : decode cX4_steps 4 = .ok (.iload_n 1, 1) := by decide +kernel
theorem dX4_steps_5 : decode cX4_steps 5 = .ok (.invokestatic 327, 3) := by decide +kernel
theorem dX4_steps_8 : decode cX4_steps 8 = .ok (.isub, 1) := by decide +kernel
theorem dX4_steps_9 : decode cX4_steps 9 = .ok (.invokestatic 172, 3) := by decide +kernel
theorem dX4_steps_12 : decode cX4_steps 12 = .ok (.iload_n 0, 1) := by decide +kernel
theorem dX4_steps_13 : decode cX4_steps 13 = .ok (.invokestatic 330, 3) := by decide +kernel
theorem dX4_steps_16 : decode cX4_steps 16 = .ok (.iload_n 1, 1) := by decide +kernel
theorem dX4_steps_17 : decode cX4_steps 17 = .ok (.invokestatic 330, 3) := by decide +kernel
theorem dX4_steps_20 : decode cX4_steps 20 = .ok (.isub, 1) := by decide +kernel
theorem dX4_steps_21 : decode cX4_steps 21 = .ok (.invokestatic 172, 3) := by decide +kernel
theorem dX4_steps_24 : decode cX4_steps 24 = .ok (.iadd, 1) := by decide +kernel
theorem dX4_steps_25 : decode cX4_steps 25 = .ok (.ireturn, 1) := by decide +kernel
set_option maxRecDepth 20000 in
theorem ggX4_partOf_X4_commonDivisor : GoodIn wsX4_partOf wsX4_commonDivisor := goodIn_r _ [4] (by decide +kernel) (by decide +kernel)
set_option maxRecDepth 20000 in
theorem gX4_partOf_X4_commonDivisor : GoodIn wsX4_partOf (va_wsS RX4 333 yX4_commonDivisor wsX4_commonDivisor) := goodIn_app (goodIn_of _ (by decide +kernel)) ggX4_partOf_X4_commonDivisor
theorem dX4_partOf_0 : decode cX4_partOf 0 = .ok (.lload_n 0, 1) := by decide +kernel
theorem dX4_partOf_1 : decode cX4_partOf 1 = .ok (.lconst 0, 1) := by decide +kernel
theorem dX4_partOf_2 : decode cX4_partOf 2 = .ok (.lcmp, 1) := by decide +kernel
theorem dX4_partOf_3 : decode cX4_partOf 3 = .ok (.ifCond .eq 9, 3) := by decide +kernel
theorem dX4_partOf_6 : decode cX4_partOf 6 = .ok (.lload_n 2, 1) := by decide +kernel
theorem dX4_partOf_7 : decode cX4_partOf 7 = .ok (.lconst 0, 1) := by decide +kernel
theorem dX4_partOf_8 : decode cX4_partOf 8 = .ok (.lcmp, 1) := by decide +kernel
theorem dX4_partOf_9 : decode cX4_partOf 9 = .ok (.ifCond .ne 7, 3) := by decide +kernel
theorem dX4_partOf_12 : decode cX4_partOf 12 = .ok (.iload 4, 2) := by decide +kernel
theorem dX4_partOf_14 : decode cX4_partOf 14 = .ok (.i2l, 1) := by decide +kernel
theorem dX4_partOf_15 : decode cX4_partOf 15 = .ok (.lreturn, 1) := by decide +kernel
theorem dX4_partOf_16 : decode cX4_partOf 16 = .ok (.lload_n 0, 1) := by decide +kernel
theorem dX4_partOf_17 : decode cX4_partOf 17 = .ok (.lload_n 2, 1) := by decide +kernel
theorem dX4_partOf_18 : decode cX4_partOf 18 = .ok (.invokestatic 333, 3) := by decide +kernel
theorem dX4_partOf_21 : decode cX4_partOf 21 = .ok (.lstore 5, 2) := by decide +kernel
theorem dX4_partOf_23 : decode cX4_partOf 23 = .ok (.lload 5, 2) := by decide +kernel
theorem dX4_partOf_25 : decode cX4_partOf 25 = .ok (.lconst 0, 1) := by decide +kernel
theorem dX4_partOf_26 : decode cX4_partOf 26 = .ok (.lcmp, 1) := by decide +kernel
theorem dX4_partOf_27 : decode cX4_partOf 27 = .ok (.ifCond .ne 7, 3) := by decide +kernel
theorem dX4_partOf_30 : decode cX4_partOf 30 = .ok (.iload 4, 2) := by decide +kernel
theorem dX4_partOf_32 : decode cX4_partOf 32 = .ok (.i2l, 1) := by decide +kernel
theorem dX4_partOf_33 : decode cX4_partOf 33 = .ok (.lreturn, 1) := by decide +kernel
theorem dX4_partOf_34 : decode cX4_partOf 34 = .ok (.iload 4, 2) := by decide +kernel
theorem dX4_partOf_36 : decode cX4_partOf 36 = .ok (.ifCond .ne 7, 3) := by decide +kernel
theorem dX4_partOf_39 : decode cX4_partOf 39 = .ok (.lload_n 0, 1) := by decide +kernel
theorem dX4_partOf_40 : decode cX4_partOf 40 = .ok (.goto 4, 3) := by decide +kernel
theorem dX4_partOf_43 : decode cX4_partOf 43 = .ok (.lload_n 2, 1) := by decide +kernel
theorem dX4_partOf_44 : decode cX4_partOf 44 = .ok (.lload 5, 2) := by decide +kernel
theorem dX4_partOf_46 : decode cX4_partOf 46 = .ok (.ldiv, 1) := by decide +kernel
theorem dX4_partOf_47 : decode cX4_partOf 47 = .ok (.lreturn, 1) := by decide +kernel
theorem dX4_commonDivisor_0 : decode cX4_commonDivisor 0 = .ok (.lload_n 0, 1) := by decide +kernel
theorem dX4_commonDivisor_1 : decode cX4_commonDivisor 1 = .ok (.lstore 4, 2) := by decide +kernel
theorem dX4_commonDivisor_3 : decode cX4_commonDivisor 3 = .ok (.lload_n 2, 1) := by decide +kernel
theorem dX4_commonDivisor_4 : decode cX4_commonDivisor 4 = .ok (.lstore 6, 2) := by decide +kernel
theorem dX4_commonDivisor_6 : decode cX4_commonDivisor 6 = .ok (.iconst 0, 1) := by decide +kernel
theorem dX4_commonDivisor_7 : decode cX4_commonDivisor 7 = .ok (.istore 8, 2) := by decide +kernel
theorem dX4_commonDivisor_9 : decode cX4_commonDivisor 9 = .ok (.iload 8, 2) := by decide +kernel
theorem dX4_commonDivisor_11 : decode cX4_commonDivisor 11 = .ok (.sipush 200, 3) := by decide +kernel
theorem dX4_commonDivisor_14 : decode cX4_commonDivisor 14 = .ok (.if_icmp .ge 31, 3) := by decide +kernel
theorem dX4_commonDivisor_17 : decode cX4_commonDivisor 17 = .ok (.lload 6, 2) := by decide +kernel
theorem dX4_commonDivisor_19 : decode cX4_commonDivisor 19 = .ok (.lconst 0, 1) := by decide +kernel
theorem dX4_commonDivisor_20 : decode cX4_commonDivisor 20 = .ok (.lcmp, 1) := by decide +kernel
theorem dX4_commonDivisor_21 : decode cX4_commonDivisor 21 = .ok (.ifCond .eq 24, 3) := by decide +kernel
theorem dX4_commonDivisor_24 : decode cX4_commonDivisor 24 = .ok (.lload 4, 2) := by decide +kernel
theorem dX4_commonDivisor_26 : decode cX4_commonDivisor 26 = .ok (.lload 6, 2) := by decide +kernel
theorem dX4_commonDivisor_28 : decode cX4_commonDivisor 28 = .ok (.lrem, 1) := by decide +kernel
theorem dX4_commonDivisor_29 : decode cX4_commonDivisor 29 = .ok (.lstore 9, 2) := by decide +kernel
theorem dX4_commonDivisor_31 : decode cX4_commonDivisor 31 = .ok (.lload 6, 2) := by decide +kernel
theorem dX4_commonDivisor_33 : decode cX4_commonDivisor 33 = .ok (.lstore 4, 2) := by decide +kernel
theorem dX4_commonDivisor_35 : decode cX4_commonDivisor 35 = .ok (.lload 9, 2) := by decide +kernel
theorem dX4_commonDivisor_37 : decode cX4_commonDivisor 37 = .ok (.lstore 6, 2) := by decide +kernel
theorem dX4_commonDivisor_39 : decode cX4_commonDivisor 39 = .ok (.iinc 8 1, 3) := by decide +kernel
theorem dX4_commonDivisor_42 : decode cX4_commonDivisor 42 = .ok (.goto (-33), 3) := by decide +kernel
theorem dX4_commonDivisor_45 : decode cX4_commonDivisor 45 = .ok (.lload 4, 2) := by decide +kernel
theorem dX4_commonDivisor_47 : decode cX4_commonDivisor 47 = .ok (.lreturn, 1) := by decide +kernel
theorem dX5_init_0 : decode cX5_init 0 = .ok (.aload_n 0, 1) := by decide +kernel
theorem dX5_init_1 : decode cX5_init 1 = .ok (.invokespecial 1, 3) := by decide +kernel
theorem dX5_init_4 : decode cX5_init 4 = .ok (.aload_n 0, 1) := by decide +kernel
theorem dX5_init_5 : decode cX5_init 5 = .ok (.bipush 45, 2) := by decide +kernel
theorem dX5_init_7 : decode cX5_init 7 = .ok (.newarray .int, 2) := by decide +kernel
theorem dX5_init_9 : decode cX5_init 9 = .ok (.putfield 9, 3) := by decide +kernel
theorem dX5_init_12 : decode cX5_init 12 = .ok (.aload_n 0, 1) := by decide +kernel
theorem dX5_init_13 : decode cX5_init 13 = .ok (.bipush 45, 2) := by decide +kernel
theorem dX5_init_15 : decode cX5_init 15 = .ok (.newarray .int, 2) := by decide +kernel
theorem dX5_init_17 : decode cX5_init 17 = .ok (.putfield 13, 3) := by decide +kernel
theorem dX5_init_20 : decode cX5_init 20 = .ok (.aload_n 0, 1) := by decide +kernel
theorem dX5_init_21 : decode cX5_init 21 = .ok (.bipush 45, 2) := by decide +kernel
theorem dX5_init_23 : decode cX5_init 23 = .ok (.newarray .int, 2) := by decide +kernel
theorem dX5_init_25 : decode cX5_init 25 = .ok (.putfield 16, 3) := by decide +kernel
theorem dX5_init_28 : decode cX5_init 28 = .ok (.aload_n 0, 1) := by decide +kernel
theorem dX5_init_29 : decode cX5_init 29 = .ok (.bipush 45, 2) := by decide +kernel
theorem dX5_init_31 : decode cX5_init 31 = .ok (.newarray .int, 2) := by decide +kernel
theorem dX5_init_33 : decode cX5_init 33 = .ok (.putfield 19, 3) := by decide +kernel
theorem dX5_init_36 : decode cX5_init 36 = .ok (.aload_n 0, 1) := by decide +kernel
theorem dX5_init_37 : decode cX5_init 37 = .ok (.bipush 96, 2) := by decide +kernel
theorem dX5_init_39 : decode cX5_init 39 = .ok (.newarray .int, 2) := by decide +kernel
theorem dX5_init_41 : decode cX5_init 41 = .ok (.putfield 22, 3) := by decide +kernel
theorem dX5_init_44 : decode cX5_init 44 = .ok (.aload_n 0, 1) := by decide +kernel
theorem dX5_init_45 : decode cX5_init 45 = .ok (.bipush 16, 2) := by decide +kernel
theorem dX5_init_47 : decode cX5_init 47 = .ok (.newarray .int, 2) := by decide +kernel
theorem dX5_init_49 : decode cX5_init 49 = .ok (.putfield 25, 3) := by decide +kernel
theorem dX5_init_52 : decode cX5_init 52 = .ok (.aload_n 0, 1) := by decide +kernel
theorem dX5_init_53 : decode cX5_init 53 = .ok (.bipush 7, 2) := by decide +kernel
theorem dX5_init_55 : decode cX5_init 55 = .ok (.newarray .int, 2) := by decide +kernel
theorem dX5_init_57 : decode cX5_init 57 = .ok (.putfield 28, 3) := by decide +kernel
theorem dX5_init_60 : decode cX5_init 60 = .ok (.aload_n 0, 1) := by decide +kernel
theorem dX5_init_61 : decode cX5_init 61 = .ok (.iconst 3, 1) := by decide +kernel
theorem dX5_init_62 : decode cX5_init 62 = .ok (.newarray .int, 2) := by decide +kernel
theorem dX5_init_64 : decode cX5_init 64 = .ok (.putfield 31, 3) := by decide +kernel
theorem dX5_init_67 : decode cX5_init 67 = .ok (.return_, 1) := by decide +kernel
theorem dX5_isIn_0 : decode cX5_isIn 0 = .ok (.iload_n 0, 1) := by decide +kernel
theorem dX5_isIn_1 : decode cX5_isIn 1 = .ok (.iload_n 1, 1) := by decide +kernel
theorem dX5_isIn_2 : decode cX5_isIn 2 = .ok (.if_icmp .lt 12, 3) := by decide +kernel
theorem dX5_isIn_5 : decode cX5_isIn 5 = .ok (.iload_n 0, 1) := by decide +kernel
theorem dX5_isIn_6 : decode cX5_isIn 6 = .ok (.iload_n 2, 1) := by decide +kernel
theorem dX5_isIn_7 : decode cX5_isIn 7 = .ok (.if_icmp .gt 7, 3) := by decide +kernel
theorem dX5_isIn_10 : decode cX5_isIn 10 = .ok (.iconst 1, 1) := by decide +kernel
theorem dX5_isIn_11 : decode cX5_isIn 11 = .ok (.goto 4, 3) := by decide +kernel
theorem dX5_isIn_14 : decode cX5_isIn 14 = .ok (.iconst 0, 1) := by decide +kernel
theorem dX5_isIn_15 : decode cX5_isIn 15 = .ok (.ireturn, 1) := by decide +kernel
theorem dX5_far_0 : decode cX5_far 0 = .ok (.iload_n 0, 1) := by decide +kernel
theorem dX5_far_1 : decode cX5_far 1 = .ok (.ifCond .ge 8, 3) := by decide +kernel
theorem dX5_far_4 : decode cX5_far 4 = .ok (.iload_n 0, 1) := by decide +kernel
theorem dX5_far_5 : decode cX5_far 5 = .ok (.ineg, 1) := by decide +kernel
theorem dX5_far_6 : decode cX5_far 6 = .ok (.goto 4, 3) := by decide +kernel
theorem dX5_far_9 : decode cX5_far 9 = .ok (.iload_n 0, 1) := by decide +kernel
theorem dX5_far_10 : decode cX5_far 10 = .ok (.ireturn, 1) := by decide +kernel
theorem dX5_copies_0 : decode cX5_copies 0 = .ok (.iconst 0, 1) := by decide +kernel
theorem dX5_copies_1 : decode cX5_copies 1 = .ok (.istore_n 2, 1) := by decide +kernel
theorem dX5_copies_2 : decode cX5_copies 2 = .ok (.iload_n 2, 1) := by decide +kernel
theorem dX5_copies_3 : decode cX5_copies 3 = .ok (.bipush 45, 2) := by decide +kernel
theorem dX5_copies_5 : decode cX5_copies 5 = .ok (.if_icmp .ge 15, 3) := by decide +kernel
theorem dX5_copies_8 : decode cX5_copies 8 = .ok (.aload_n 1, 1) := by decide +kernel
theorem dX5_copies_9 : decode cX5_copies 9 = .ok (.iload_n 2, 1) := by decide +kernel
theorem dX5_copies_10 : decode cX5_copies 10 = .ok (.aload_n 0, 1) := by decide +kernel
theorem dX5_copies_11 : decode cX5_copies 11 = .ok (.iload_n 2, 1) := by decide +kernel
theorem dX5_copies_12 : decode cX5_copies 12 = .ok (.iaload, 1) := by decide +kernel
theorem dX5_copies_13 : decode cX5_copies 13 = .ok (.iastore, 1) := by decide +kernel
theorem dX5_copies_14 : decode cX5_copies 14 = .ok (.iinc 2 1, 3) := by decide +kernel
theorem dX5_copies_17 : decode cX5_copies 17 = .ok (.goto (-15), 3) := by decide +kernel
theorem dX5_copies_20 : decode cX5_copies 20 = .ok (.return_, 1) := by decide +kernel
theorem dX5_no_0 : decode cX5_no 0 = .ok (.aload_n 0, 1) := by decide +kernel
theorem dX5_no_1 : decode cX5_no 1 = .ok (.getfield 28, 3) := by decide +kernel
theorem dX5_no_4 : decode cX5_no 4 = .ok (.iload_n 1, 1) := by decide +kernel
theorem dX5_no_5 : decode cX5_no 5 = .ok (.ineg, 1) := by decide +kernel
theorem dX5_no_6 : decode cX5_no 6 = .ok (.dup2, 1) := by decide +kernel
theorem dX5_no_7 : decode cX5_no 7 = .ok (.iaload, 1) := by decide +kernel
theorem dX5_no_8 : decode cX5_no 8 = .ok (.iconst 1, 1) := by decide +kernel
theorem dX5_no_9 : decode cX5_no 9 = .ok (.iadd, 1) := by decide +kernel
