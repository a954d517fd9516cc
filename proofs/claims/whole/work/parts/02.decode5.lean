theorem dX5_offBy_16 : decode cX5_offBy 16 = .ok (.aload_n 0, 1) := by decide +kernel
theorem dX5_offBy_17 : decode cX5_offBy 17 = .ok (.getfield 13, 3) := by decide +kernel
theorem dX5_offBy_20 : decode cX5_offBy 20 = .ok (.iload_n 2, 1) := by decide +kernel
theorem dX5_offBy_21 : decode cX5_offBy 21 = .ok (.invokestatic 125, 3) := by decide +kernel
theorem dX5_offBy_24 : decode cX5_offBy 24 = .ok (.iload 5, 2) := by decide +kernel
theorem dX5_offBy_26 : decode cX5_offBy 26 = .ok (.iconst 1, 1) := by decide +kernel
theorem dX5_offBy_27 : decode cX5_offBy 27 = .ok (.if_icmp .ne 12, 3) := by decide +kernel
theorem dX5_offBy_30 : decode cX5_offBy 30 = .ok (.aload_n 0, 1) := by decide +kernel
theorem dX5_offBy_31 : decode cX5_offBy 31 = .ok (.getfield 13, 3) := by decide +kernel
theorem dX5_offBy_34 : decode cX5_offBy 34 = .ok (.iload 4, 2) := by decide +kernel
theorem dX5_offBy_36 : decode cX5_offBy 36 = .ok (.invokestatic 125, 3) := by decide +kernel
theorem dX5_offBy_39 : decode cX5_offBy 39 = .ok (.aload_n 0, 1) := by decide +kernel
theorem dX5_offBy_40 : decode cX5_offBy 40 = .ok (.getfield 13, 3) := by decide +kernel
theorem dX5_offBy_43 : decode cX5_offBy 43 = .ok (.iload 6, 2) := by decide +kernel
theorem dX5_offBy_45 : decode cX5_offBy 45 = .ok (.invokestatic 129, 3) := by decide +kernel
theorem dX5_offBy_48 : decode cX5_offBy 48 = .ok (.aload_n 0, 1) := by decide +kernel
theorem dX5_offBy_49 : decode cX5_offBy 49 = .ok (.getfield 13, 3) := by decide +kernel
theorem dX5_offBy_52 : decode cX5_offBy 52 = .ok (.iconst 3, 1) := by decide +kernel
theorem dX5_offBy_53 : decode cX5_offBy 53 = .ok (.iaload, 1) := by decide +kernel
theorem dX5_offBy_54 : decode cX5_offBy 54 = .ok (.aload_n 0, 1) := by decide +kernel
theorem dX5_offBy_55 : decode cX5_offBy 55 = .ok (.getfield 13, 3) := by decide +kernel
theorem dX5_offBy_58 : decode cX5_offBy 58 = .ok (.iload_n 1, 1) := by decide +kernel
theorem dX5_offBy_59 : decode cX5_offBy 59 = .ok (.invokestatic 52, 3) := by decide +kernel
theorem dX5_offBy_62 : decode cX5_offBy 62 = .ok (.invokestatic 56, 3) := by decide +kernel
theorem dX5_offBy_65 : decode cX5_offBy 65 = .ok (.ireturn, 1) := by decide +kernel
set_option maxRecDepth 20000 in
theorem ggX5_two_X5_isHand : GoodIn wsX5_two wsX5_isHand := goodIn_r _ [5, 6, 7, 8, 4, 9, 71, 72, 73, 74, 75, 76, 77, 78, 79, 80, 81, 82, 83] (by decide +kernel) (by decide +kernel)
set_option maxRecDepth 20000 in
theorem gX5_two_X5_isHand : GoodIn wsX5_two (wsV RX5 122 RX5 yX5_isHand wsX5_isHand) := goodIn_app (goodIn_of _ (by decide +kernel)) ggX5_two_X5_isHand
set_option maxRecDepth 20000 in
theorem ggX5_two_X5_wrongBy : GoodIn wsX5_two wsX5_wrongBy := goodIn_r _ [12] (by decide +kernel) (by decide +kernel)
set_option maxRecDepth 20000 in
theorem gX5_two_X5_wrongBy : GoodIn wsX5_two (va_wsS RX5 145 yX5_wrongBy wsX5_wrongBy) := goodIn_app (goodIn_of _ (by decide +kernel)) ggX5_two_X5_wrongBy
set_option maxRecDepth 20000 in
theorem ggX5_two_X5_no : GoodIn wsX5_two wsX5_no := goodIn_r _ [16, 17, 71, 72, 73, 74, 75, 76, 77, 78, 79, 80, 81, 82, 83] (by decide +kernel) (by decide +kernel)
set_option maxRecDepth 20000 in
theorem gX5_two_X5_no : GoodIn wsX5_two (wsV RX5 35 RX5 yX5_no wsX5_no) := goodIn_app (goodIn_of _ (by decide +kernel)) ggX5_two_X5_no
set_option maxRecDepth 20000 in
theorem ggX5_two_X5_offBy : GoodIn wsX5_two wsX5_offBy := goodIn_r _ [21, 6, 22, 23, 24, 4, 25, 26, 27, 28, 29, 30, 31, 32, 33, 34, 35, 36, 37, 38, 39, 40, 41, 42, 43, 44, 45, 46, 47, 48, 49, 50, 51, 52, 53, 54, 55, 56, 57, 58, 59, 60, 61, 62, 63, 64, 65, 66, 67, 68, 69, 70, 71, 72, 73, 74, 75, 76, 77, 78, 79, 80, 81, 82, 83] (by decide +kernel) (by decide +kernel)
set_option maxRecDepth 20000 in
theorem gX5_two_X5_offBy : GoodIn wsX5_two (wsV RX5 178 RX5 yX5_offBy wsX5_offBy) := goodIn_app (goodIn_of _ (by decide +kernel)) ggX5_two_X5_offBy
theorem dX5_two_0 : decode cX5_two 0 = .ok (.aload_n 0, 1) := by decide +kernel
theorem dX5_two_1 : decode cX5_two 1 = .ok (.iload_n 1, 1) := by decide +kernel
theorem dX5_two_2 : decode cX5_two 2 = .ok (.invokevirtual 122, 3) := by decide +kernel
theorem dX5_two_5 : decode cX5_two 5 = .ok (.ifCond .eq 26, 3) := by decide +kernel
theorem dX5_two_8 : decode cX5_two 8 = .ok (.aload_n 0, 1) := by decide +kernel
theorem dX5_two_9 : decode cX5_two 9 = .ok (.iload_n 2, 1) := by decide +kernel
theorem dX5_two_10 : decode cX5_two 10 = .ok (.invokevirtual 122, 3) := by decide +kernel
theorem dX5_two_13 : decode cX5_two 13 = .ok (.ifCond .eq 18, 3) := by decide +kernel
theorem dX5_two_16 : decode cX5_two 16 = .ok (.iload_n 1, 1) := by decide +kernel
theorem dX5_two_17 : decode cX5_two 17 = .ok (.iload_n 2, 1) := by decide +kernel
theorem dX5_two_18 : decode cX5_two 18 = .ok (.if_icmp .eq 13, 3) := by decide +kernel
theorem dX5_two_21 : decode cX5_two 21 = .ok (.iload_n 3, 1) := by decide +kernel
theorem dX5_two_22 : decode cX5_two 22 = .ok (.iconst 0, 1) := by decide +kernel
theorem dX5_two_23 : decode cX5_two 23 = .ok (.bipush 30, 2) := by decide +kernel
theorem dX5_two_25 : decode cX5_two 25 = .ok (.invokestatic 145, 3) := by decide +kernel
theorem dX5_two_28 : decode cX5_two 28 = .ok (.goto 4, 3) := by decide +kernel
theorem dX5_two_31 : decode cX5_two 31 = .ok (.iconst (-1), 1) := by decide +kernel
theorem dX5_two_32 : decode cX5_two 32 = .ok (.istore 4, 2) := by decide +kernel
theorem dX5_two_34 : decode cX5_two 34 = .ok (.iload 4, 2) := by decide +kernel
theorem dX5_two_36 : decode cX5_two 36 = .ok (.ifCond .eq 10, 3) := by decide +kernel
theorem dX5_two_39 : decode cX5_two 39 = .ok (.aload_n 0, 1) := by decide +kernel
theorem dX5_two_40 : decode cX5_two 40 = .ok (.iload 4, 2) := by decide +kernel
theorem dX5_two_42 : decode cX5_two 42 = .ok (.invokevirtual 35, 3) := by decide +kernel
theorem dX5_two_45 : decode cX5_two 45 = .ok (.ireturn, 1) := by decide +kernel
theorem dX5_two_46 : decode cX5_two 46 = .ok (.iconst 0, 1) := by decide +kernel
theorem dX5_two_47 : decode cX5_two 47 = .ok (.istore 5, 2) := by decide +kernel
theorem dX5_two_49 : decode cX5_two 49 = .ok (.iload 5, 2) := by decide +kernel
theorem dX5_two_51 : decode cX5_two 51 = .ok (.iconst 4, 1) := by decide +kernel
theorem dX5_two_52 : decode cX5_two 52 = .ok (.if_icmp .ge 88, 3) := by decide +kernel
theorem dX5_two_55 : decode cX5_two 55 = .ok (.iload 5, 2) := by decide +kernel
theorem dX5_two_57 : decode cX5_two 57 = .ok (.iconst 2, 1) := by decide +kernel
theorem dX5_two_58 : decode cX5_two 58 = .ok (.idiv, 1) := by decide +kernel
theorem dX5_two_59 : decode cX5_two 59 = .ok (.istore 6, 2) := by decide +kernel
theorem dX5_two_61 : decode cX5_two 61 = .ok (.iload 5, 2) := by decide +kernel
theorem dX5_two_63 : decode cX5_two 63 = .ok (.iconst 2, 1) := by decide +kernel
theorem dX5_two_64 : decode cX5_two 64 = .ok (.irem, 1) := by decide +kernel
theorem dX5_two_65 : decode cX5_two 65 = .ok (.istore 7, 2) := by decide +kernel
theorem dX5_two_67 : decode cX5_two 67 = .ok (.aload_n 0, 1) := by decide +kernel
theorem dX5_two_68 : decode cX5_two 68 = .ok (.iload_n 1, 1) := by decide +kernel
theorem dX5_two_69 : decode cX5_two 69 = .ok (.iload_n 1, 1) := by decide +kernel
theorem dX5_two_70 : decode cX5_two 70 = .ok (.iconst 1, 1) := by decide +kernel
theorem dX5_two_71 : decode cX5_two 71 = .ok (.iload 6, 2) := by decide +kernel
theorem dX5_two_73 : decode cX5_two 73 = .ok (.isub, 1) := by decide +kernel
theorem dX5_two_74 : decode cX5_two 74 = .ok (.iload_n 2, 1) := by decide +kernel
theorem dX5_two_75 : decode cX5_two 75 = .ok (.iload 7, 2) := by decide +kernel
theorem dX5_two_77 : decode cX5_two 77 = .ok (.iload_n 3, 1) := by decide +kernel
theorem dX5_two_78 : decode cX5_two 78 = .ok (.invokevirtual 178, 3) := by decide +kernel
theorem dX5_two_81 : decode cX5_two 81 = .ok (.aload_n 0, 1) := by decide +kernel
theorem dX5_two_82 : decode cX5_two 82 = .ok (.iload_n 1, 1) := by decide +kernel
theorem dX5_two_83 : decode cX5_two 83 = .ok (.iload_n 1, 1) := by decide +kernel
theorem dX5_two_84 : decode cX5_two 84 = .ok (.iload 6, 2) := by decide +kernel
theorem dX5_two_86 : decode cX5_two 86 = .ok (.iload_n 2, 1) := by decide +kernel
theorem dX5_two_87 : decode cX5_two 87 = .ok (.iload 7, 2) := by decide +kernel
theorem dX5_two_89 : decode cX5_two 89 = .ok (.iload_n 3, 1) := by decide +kernel
theorem dX5_two_90 : decode cX5_two 90 = .ok (.invokevirtual 178, 3) := by decide +kernel
theorem dX5_two_93 : decode cX5_two 93 = .ok (.if_icmp .lt 41, 3) := by decide +kernel
theorem dX5_two_96 : decode cX5_two 96 = .ok (.aload_n 0, 1) := by decide +kernel
theorem dX5_two_97 : decode cX5_two 97 = .ok (.iload_n 2, 1) := by decide +kernel
theorem dX5_two_98 : decode cX5_two 98 = .ok (.iload_n 1, 1) := by decide +kernel
theorem dX5_two_99 : decode cX5_two 99 = .ok (.iload 6, 2) := by decide +kernel
theorem dX5_two_101 : decode cX5_two 101 = .ok (.iload_n 2, 1) := by decide +kernel
theorem dX5_two_102 : decode cX5_two 102 = .ok (.iconst 1, 1) := by decide +kernel
theorem dX5_two_103 : decode cX5_two 103 = .ok (.iload 7, 2) := by decide +kernel
theorem dX5_two_105 : decode cX5_two 105 = .ok (.isub, 1) := by decide +kernel
theorem dX5_two_106 : decode cX5_two 106 = .ok (.iload_n 3, 1) := by decide +kernel
theorem dX5_two_107 : decode cX5_two 107 = .ok (.invokevirtual 178, 3) := by decide +kernel
theorem dX5_two_110 : decode cX5_two 110 = .ok (.aload_n 0, 1) := by decide +kernel
theorem dX5_two_111 : decode cX5_two 111 = .ok (.iload_n 2, 1) := by decide +kernel
theorem dX5_two_112 : decode cX5_two 112 = .ok (.iload_n 1, 1) := by decide +kernel
theorem dX5_two_113 : decode cX5_two 113 = .ok (.iload 6, 2) := by decide +kernel
theorem dX5_two_115 : decode cX5_two 115 = .ok (.iload_n 2, 1) := by decide +kernel
theorem dX5_two_116 : decode cX5_two 116 = .ok (.iload 7, 2) := by decide +kernel
theorem dX5_two_118 : decode cX5_two 118 = .ok (.iload_n 3, 1) := by decide +kernel
theorem dX5_two_119 : decode cX5_two 119 = .ok (.invokevirtual 178, 3) := by decide +kernel
theorem dX5_two_122 : decode cX5_two 122 = .ok (.if_icmp .lt 12, 3) := by decide +kernel
theorem dX5_two_125 : decode cX5_two 125 = .ok (.bipush 10, 2) := by decide +kernel
theorem dX5_two_127 : decode cX5_two 127 = .ok (.iload 6, 2) := by decide +kernel
theorem dX5_two_129 : decode cX5_two 129 = .ok (.imul, 1) := by decide +kernel
theorem dX5_two_130 : decode cX5_two 130 = .ok (.iload 7, 2) := by decide +kernel
theorem dX5_two_132 : decode cX5_two 132 = .ok (.iadd, 1) := by decide +kernel
theorem dX5_two_133 : decode cX5_two 133 = .ok (.ireturn, 1) := by decide +kernel
theorem dX5_two_134 : decode cX5_two 134 = .ok (.iinc 5 1, 3) := by decide +kernel
theorem dX5_two_137 : decode cX5_two 137 = .ok (.goto (-88), 3) := by decide +kernel
theorem dX5_two_140 : decode cX5_two 140 = .ok (.bipush (-9), 2) := by decide +kernel
theorem dX5_two_142 : decode cX5_two 142 = .ok (.ireturn, 1) := by decide +kernel
theorem dX5_gcd_0 : decode cX5_gcd 0 = .ok (.lload_n 0, 1) := by decide +kernel
theorem dX5_gcd_1 : decode cX5_gcd 1 = .ok (.lstore 4, 2) := by decide +kernel
theorem dX5_gcd_3 : decode cX5_gcd 3 = .ok (.lload_n 2, 1) := by decide +kernel
theorem dX5_gcd_4 : decode cX5_gcd 4 = .ok (.lstore 6, 2) := by decide +kernel
theorem dX5_gcd_6 : decode cX5_gcd 6 = .ok (.lload 6, 2) := by decide +kernel
theorem dX5_gcd_8 : decode cX5_gcd 8 = .ok (.lconst 0, 1) := by decide +kernel
theorem dX5_gcd_9 : decode cX5_gcd 9 = .ok (.lcmp, 1) := by decide +kernel
theorem dX5_gcd_10 : decode cX5_gcd 10 = .ok (.ifCond .eq 21, 3) := by decide +kernel
theorem dX5_gcd_13 : decode cX5_gcd 13 = .ok (.lload 4, 2) := by decide +kernel
theorem dX5_gcd_15 : decode cX5_gcd 15 = .ok (.lload 6, 2) := by decide +kernel
theorem dX5_gcd_17 : decode cX5_gcd 17 = .ok (.lrem, 1) := by decide +kernel
theorem dX5_gcd_18 : decode cX5_gcd 18 = .ok (.lstore 8, 2) := by decide +kernel
theorem dX5_gcd_20 : decode cX5_gcd 20 = .ok (.lload 6, 2) := by decide +kernel
theorem dX5_gcd_22 : decode cX5_gcd 22 = .ok (.lstore 4, 2) := by decide +kernel
theorem dX5_gcd_24 : decode cX5_gcd 24 = .ok (.lload 8, 2) := by decide +kernel
theorem dX5_gcd_26 : decode cX5_gcd 26 = .ok (.lstore 6, 2) := by decide +kernel
theorem dX5_gcd_28 : decode cX5_gcd 28 = .ok (.goto (-22), 3) := by decide +kernel
theorem dX5_gcd_31 : decode cX5_gcd 31 = .ok (.lload 4, 2) := by decide +kernel
theorem dX5_gcd_33 : decode cX5_gcd 33 = .ok (.lreturn, 1) := by decide +kernel
set_option maxRecDepth 20000 in
theorem ggX5_partOf_X5_gcd : GoodIn wsX5_partOf wsX5_gcd := goodIn_r _ [4] (by decide +kernel) (by decide +kernel)
set_option maxRecDepth 20000 in
theorem gX5_partOf_X5_gcd : GoodIn wsX5_partOf (va_wsS RX5 182 yX5_gcd wsX5_gcd) := goodIn_app (goodIn_of _ (by decide +kernel)) ggX5_partOf_X5_gcd
theorem dX5_partOf_0 : decode cX5_partOf 0 = .ok (.lload_n 0, 1) := by decide +kernel
theorem dX5_partOf_1 : decode cX5_partOf 1 = .ok (.lconst 0, 1) := by decide +kernel
theorem dX5_partOf_2 : decode cX5_partOf 2 = .ok (.lcmp, 1) := by decide +kernel
theorem dX5_partOf_3 : decode cX5_partOf 3 = .ok (.ifCond .ne 7, 3) := by decide +kernel
theorem dX5_partOf_6 : decode cX5_partOf 6 = .ok (.iload 4, 2) := by decide +kernel
theorem dX5_partOf_8 : decode cX5_partOf 8 = .ok (.i2l, 1) := by decide +kernel
theorem dX5_partOf_9 : decode cX5_partOf 9 = .ok (.lreturn, 1) := by decide +kernel
theorem dX5_partOf_10 : decode cX5_partOf 10 = .ok (.iload 4, 2) := by decide +kernel
theorem dX5_partOf_12 : decode cX5_partOf 12 = .ok (.ifCond .ne 7, 3) := by decide +kernel
theorem dX5_partOf_15 : decode cX5_partOf 15 = .ok (.lload_n 0, 1) := by decide +kernel
theorem dX5_partOf_16 : decode cX5_partOf 16 = .ok (.goto 4, 3) := by decide +kernel
theorem dX5_partOf_19 : decode cX5_partOf 19 = .ok (.lload_n 2, 1) := by decide +kernel
theorem dX5_partOf_20 : decode cX5_partOf 20 = .ok (.lload_n 0, 1) := by decide +kernel
theorem dX5_partOf_21 : decode cX5_partOf 21 = .ok (.lload_n 2, 1) := by decide +kernel
theorem dX5_partOf_22 : decode cX5_partOf 22 = .ok (.invokestatic 182, 3) := by decide +kernel
theorem dX5_partOf_25 : decode cX5_partOf 25 = .ok (.ldiv, 1) := by decide +kernel
theorem dX5_partOf_26 : decode cX5_partOf 26 = .ok (.lreturn, 1) := by decide +kernel
set_option maxRecDepth 20000 in
theorem ggX5_storm_X5_isPlace : GoodIn wsX5_storm wsX5_isPlace := goodIn_r _ [7, 1, 8, 9, 6, 10, 72, 73, 74, 75, 76, 77, 78, 79, 80, 81, 82, 83, 84] (by decide +kernel) (by decide +kernel)
set_option maxRecDepth 20000 in
theorem gX5_storm_X5_isPlace : GoodIn wsX5_storm (wsV RX5 115 RX5 yX5_isPlace wsX5_isPlace) := goodIn_app (goodIn_of _ (by decide +kernel)) ggX5_storm_X5_isPlace
set_option maxRecDepth 20000 in
theorem ggX5_storm_X5_noWide : GoodIn wsX5_storm wsX5_noWide := goodIn_r _ [14, 15, 16, 17, 18, 6, 19, 20, 72, 73, 74, 75, 76, 77, 78, 79, 80, 81, 82, 83, 84] (by decide +kernel) (by decide +kernel)
set_option maxRecDepth 20000 in
theorem gX5_storm_X5_noWide : GoodIn wsX5_storm (wsV RX5 186 RX5 yX5_noWide wsX5_noWide) := goodIn_app (goodIn_of _ (by decide +kernel)) ggX5_storm_X5_noWide
set_option maxRecDepth 20000 in
theorem ggX5_storm_X5_isIn : GoodIn wsX5_storm wsX5_isIn := goodIn_r _ [10] (by decide +kernel) (by decide +kernel)
set_option maxRecDepth 20000 in
theorem gX5_storm_X5_isIn : GoodIn wsX5_storm (va_wsS RX5 41 yX5_isIn wsX5_isIn) := goodIn_app (goodIn_of _ (by decide +kernel)) ggX5_storm_X5_isIn
set_option maxRecDepth 20000 in
theorem ggX5_storm_X5_copies : GoodIn wsX5_storm wsX5_copies := goodIn_r _ [23] (by decide +kernel) (by decide +kernel)
set_option maxRecDepth 20000 in
theorem gX5_storm_X5_copies : GoodIn wsX5_storm (va_wsS RX5 135 yX5_copies wsX5_copies) := goodIn_app (goodIn_of _ (by decide +kernel)) ggX5_storm_X5_copies
set_option maxRecDepth 20000 in
theorem ggX5_storm_X5_has : GoodIn wsX5_storm wsX5_has := goodIn_r _ [26] (by decide +kernel) (by decide +kernel)
set_option maxRecDepth 20000 in
theorem gX5_storm_X5_has : GoodIn wsX5_storm (va_wsS RX5 172 yX5_has wsX5_has) := goodIn_app (goodIn_of _ (by decide +kernel)) ggX5_storm_X5_has
set_option maxRecDepth 20000 in
theorem ggX5_storm_X5_day : GoodIn wsX5_storm wsX5_day := goodIn_r _ [29, 30, 31, 6, 32, 33, 34, 35, 36, 37, 38, 39, 40, 41, 42, 43, 44, 45, 46, 47, 48, 49, 50, 51, 52, 53, 54, 55, 56, 57, 58, 59, 60, 61, 62, 63, 64, 65] (by decide +kernel) (by decide +kernel)
set_option maxRecDepth 20000 in
theorem gX5_storm_X5_day : GoodIn wsX5_storm (va_wsS RX5 85 yX5_day wsX5_day) := goodIn_app (goodIn_of _ (by decide +kernel)) ggX5_storm_X5_day
set_option maxRecDepth 20000 in
theorem ggX5_storm_X5_partOf : GoodIn wsX5_storm wsX5_partOf := goodIn_r _ [68, 69, 70, 6, 71] (by decide +kernel) (by decide +kernel)
set_option maxRecDepth 20000 in
theorem gX5_storm_X5_partOf : GoodIn wsX5_storm (va_wsS RX5 190 yX5_partOf wsX5_partOf) := goodIn_app (goodIn_of _ (by decide +kernel)) ggX5_storm_X5_partOf
theorem dX5_storm_0 : decode cX5_storm 0 = .ok (.aload_n 0, 1) := by decide +kernel
theorem dX5_storm_1 : decode cX5_storm 1 = .ok (.iload_n 1, 1) := by decide +kernel
theorem dX5_storm_2 : decode cX5_storm 2 = .ok (.invokevirtual 115, 3) := by decide +kernel
theorem dX5_storm_5 : decode cX5_storm 5 = .ok (.ifCond .ne 9, 3) := by decide +kernel
theorem dX5_storm_8 : decode cX5_storm 8 = .ok (.aload_n 0, 1) := by decide +kernel
theorem dX5_storm_9 : decode cX5_storm 9 = .ok (.iconst (-1), 1) := by decide +kernel
theorem dX5_storm_10 : decode cX5_storm 10 = .ok (.invokevirtual 186, 3) := by decide +kernel
theorem dX5_storm_13 : decode cX5_storm 13 = .ok (.lreturn, 1) := by decide +kernel
theorem dX5_storm_14 : decode cX5_storm 14 = .ok (.iload_n 2, 1) := by decide +kernel
theorem dX5_storm_15 : decode cX5_storm 15 = .ok (.ifCond .lt 8, 3) := by decide +kernel
theorem dX5_storm_18 : decode cX5_storm 18 = .ok (.iload_n 3, 1) := by decide +kernel
theorem dX5_storm_19 : decode cX5_storm 19 = .ok (.iconst 2, 1) := by decide +kernel
theorem dX5_storm_20 : decode cX5_storm 20 = .ok (.if_icmp .ge 10, 3) := by decide +kernel
theorem dX5_storm_23 : decode cX5_storm 23 = .ok (.aload_n 0, 1) := by decide +kernel
theorem dX5_storm_24 : decode cX5_storm 24 = .ok (.bipush (-4), 2) := by decide +kernel
theorem dX5_storm_26 : decode cX5_storm 26 = .ok (.invokevirtual 186, 3) := by decide +kernel
theorem dX5_storm_29 : decode cX5_storm 29 = .ok (.lreturn, 1) := by decide +kernel
theorem dX5_storm_30 : decode cX5_storm 30 = .ok (.iload_n 2, 1) := by decide +kernel
theorem dX5_storm_31 : decode cX5_storm 31 = .ok (.bipush 7, 2) := by decide +kernel
theorem dX5_storm_33 : decode cX5_storm 33 = .ok (.if_icmp .gt 9, 3) := by decide +kernel
theorem dX5_storm_36 : decode cX5_storm 36 = .ok (.iload_n 3, 1) := by decide +kernel
theorem dX5_storm_37 : decode cX5_storm 37 = .ok (.bipush 20, 2) := by decide +kernel
theorem dX5_storm_39 : decode cX5_storm 39 = .ok (.if_icmp .le 10, 3) := by decide +kernel
theorem dX5_storm_42 : decode cX5_storm 42 = .ok (.aload_n 0, 1) := by decide +kernel
theorem dX5_storm_43 : decode cX5_storm 43 = .ok (.bipush (-6), 2) := by decide +kernel
theorem dX5_storm_45 : decode cX5_storm 45 = .ok (.invokevirtual 186, 3) := by decide +kernel
theorem dX5_storm_48 : decode cX5_storm 48 = .ok (.lreturn, 1) := by decide +kernel
theorem dX5_storm_49 : decode cX5_storm 49 = .ok (.iload 4, 2) := by decide +kernel
theorem dX5_storm_51 : decode cX5_storm 51 = .ok (.iconst 0, 1) := by decide +kernel
theorem dX5_storm_52 : decode cX5_storm 52 = .ok (.iconst 1, 1) := by decide +kernel
theorem dX5_storm_53 : decode cX5_storm 53 = .ok (.invokestatic 41, 3) := by decide +kernel
theorem dX5_storm_56 : decode cX5_storm 56 = .ok (.ifCond .ne 10, 3) := by decide +kernel
theorem dX5_storm_59 : decode cX5_storm 59 = .ok (.aload_n 0, 1) := by decide +kernel
theorem dX5_storm_60 : decode cX5_storm 60 = .ok (.bipush (-2), 2) := by decide +kernel
theorem dX5_storm_62 : decode cX5_storm 62 = .ok (.invokevirtual 186, 3) := by decide +kernel
theorem dX5_storm_65 : decode cX5_storm 65 = .ok (.lreturn, 1) := by decide +kernel
theorem dX5_storm_66 : decode cX5_storm 66 = .ok (.lconst 0, 1) := by decide +kernel
theorem dX5_storm_67 : decode cX5_storm 67 = .ok (.lstore 5, 2) := by decide +kernel
theorem dX5_storm_69 : decode cX5_storm 69 = .ok (.lconst 1, 1) := by decide +kernel
theorem dX5_storm_70 : decode cX5_storm 70 = .ok (.lstore 7, 2) := by decide +kernel
theorem dX5_storm_72 : decode cX5_storm 72 = .ok (.iconst 0, 1) := by decide +kernel
theorem dX5_storm_73 : decode cX5_storm 73 = .ok (.istore 9, 2) := by decide +kernel
theorem dX5_storm_75 : decode cX5_storm 75 = .ok (.iload 9, 2) := by decide +kernel
theorem dX5_storm_77 : decode cX5_storm 77 = .ok (.iload_n 2, 1) := by decide +kernel
theorem dX5_storm_78 : decode cX5_storm 78 = .ok (.if_icmp .ge 16, 3) := by decide +kernel
theorem dX5_storm_81 : decode cX5_storm 81 = .ok (.lload 7, 2) := by decide +kernel
theorem dX5_storm_83 : decode cX5_storm 83 = .ok (.iload_n 3, 1) := by decide +kernel
theorem dX5_storm_84 : decode cX5_storm 84 = .ok (.i2l, 1) := by decide +kernel
theorem dX5_storm_85 : decode cX5_storm 85 = .ok (.lmul, 1) := by decide +kernel
theorem dX5_storm_86 : decode cX5_storm 86 = .ok (.lstore 7, 2) := by decide +kernel
theorem dX5_storm_88 : decode cX5_storm 88 = .ok (.iinc 9 1, 3) := by decide +kernel
theorem dX5_storm_91 : decode cX5_storm 91 = .ok (.goto (-16), 3) := by decide +kernel
theorem dX5_storm_94 : decode cX5_storm 94 = .ok (.iconst 0, 1) := by decide +kernel
theorem dX5_storm_95 : decode cX5_storm 95 = .ok (.istore 9, 2) := by decide +kernel
theorem dX5_storm_97 : decode cX5_storm 97 = .ok (.iload 9, 2) := by decide +kernel
theorem dX5_storm_99 : decode cX5_storm 99 = .ok (.iconst 1, 1) := by decide +kernel
theorem dX5_storm_100 : decode cX5_storm 100 = .ok (.iload_n 2, 1) := by decide +kernel
theorem dX5_storm_101 : decode cX5_storm 101 = .ok (.ishl, 1) := by decide +kernel
theorem dX5_storm_102 : decode cX5_storm 102 = .ok (.if_icmp .ge 103, 3) := by decide +kernel
theorem dX5_storm_105 : decode cX5_storm 105 = .ok (.lconst 1, 1) := by decide +kernel
theorem dX5_storm_106 : decode cX5_storm 106 = .ok (.lstore 10, 2) := by decide +kernel
theorem dX5_storm_108 : decode cX5_storm 108 = .ok (.aload_n 0, 1) := by decide +kernel
theorem dX5_storm_109 : decode cX5_storm 109 = .ok (.getfield 9, 3) := by decide +kernel
theorem dX5_storm_112 : decode cX5_storm 112 = .ok (.aload_n 0, 1) := by decide +kernel
theorem dX5_storm_113 : decode cX5_storm 113 = .ok (.getfield 13, 3) := by decide +kernel
theorem dX5_storm_116 : decode cX5_storm 116 = .ok (.invokestatic 135, 3) := by decide +kernel
theorem dX5_storm_119 : decode cX5_storm 119 = .ok (.iconst 0, 1) := by decide +kernel
theorem dX5_storm_120 : decode cX5_storm 120 = .ok (.istore 12, 2) := by decide +kernel
theorem dX5_storm_122 : decode cX5_storm 122 = .ok (.iload 12, 2) := by decide +kernel
theorem dX5_storm_124 : decode cX5_storm 124 = .ok (.iload_n 2, 1) := by decide +kernel
theorem dX5_storm_125 : decode cX5_storm 125 = .ok (.if_icmp .ge 46, 3) := by decide +kernel
theorem dX5_storm_128 : decode cX5_storm 128 = .ok (.lload 10, 2) := by decide +kernel
theorem dX5_storm_130 : decode cX5_storm 130 = .ok (.iload 9, 2) := by decide +kernel
theorem dX5_storm_132 : decode cX5_storm 132 = .ok (.iload 12, 2) := by decide +kernel
theorem dX5_storm_134 : decode cX5_storm 134 = .ok (.invokestatic 172, 3) := by decide +kernel
theorem dX5_storm_137 : decode cX5_storm 137 = .ok (.ifCond .eq 7, 3) := by decide +kernel
theorem dX5_storm_140 : decode cX5_storm 140 = .ok (.lconst 1, 1) := by decide +kernel
theorem dX5_storm_141 : decode cX5_storm 141 = .ok (.goto 7, 3) := by decide +kernel
theorem dX5_storm_144 : decode cX5_storm 144 = .ok (.iload_n 3, 1) := by decide +kernel
theorem dX5_storm_145 : decode cX5_storm 145 = .ok (.iconst 1, 1) := by decide +kernel
theorem dX5_storm_146 : decode cX5_storm 146 = .ok (.isub, 1) := by decide +kernel
theorem dX5_storm_147 : decode cX5_storm 147 = .ok (.i2l, 1) := by decide +kernel
theorem dX5_storm_148 : decode cX5_storm 148 = .ok (.lmul, 1) := by decide +kernel
theorem dX5_storm_149 : decode cX5_storm 149 = .ok (.lstore 10, 2) := by decide +kernel
theorem dX5_storm_151 : decode cX5_storm 151 = .ok (.aload_n 0, 1) := by decide +kernel
theorem dX5_storm_152 : decode cX5_storm 152 = .ok (.getfield 13, 3) := by decide +kernel
theorem dX5_storm_155 : decode cX5_storm 155 = .ok (.iload 9, 2) := by decide +kernel
theorem dX5_storm_157 : decode cX5_storm 157 = .ok (.iload 12, 2) := by decide +kernel
theorem dX5_storm_159 : decode cX5_storm 159 = .ok (.invokestatic 172, 3) := by decide +kernel
theorem dX5_storm_162 : decode cX5_storm 162 = .ok (.invokestatic 85, 3) := by decide +kernel
theorem dX5_storm_165 : decode cX5_storm 165 = .ok (.iinc 12 1, 3) := by decide +kernel
theorem dX5_storm_168 : decode cX5_storm 168 = .ok (.goto (-46), 3) := by decide +kernel
theorem dX5_storm_171 : decode cX5_storm 171 = .ok (.lload 5, 2) := by decide +kernel
theorem dX5_storm_173 : decode cX5_storm 173 = .ok (.aload_n 0, 1) := by decide +kernel
theorem dX5_storm_174 : decode cX5_storm 174 = .ok (.getfield 13, 3) := by decide +kernel
theorem dX5_storm_177 : decode cX5_storm 177 = .ok (.iconst 3, 1) := by decide +kernel
theorem dX5_storm_178 : decode cX5_storm 178 = .ok (.iaload, 1) := by decide +kernel
theorem dX5_storm_179 : decode cX5_storm 179 = .ok (.aload_n 0, 1) := by decide +kernel
theorem dX5_storm_180 : decode cX5_storm 180 = .ok (.getfield 9, 3) := by decide +kernel
theorem dX5_storm_183 : decode cX5_storm 183 = .ok (.iconst 4, 1) := by decide +kernel
theorem dX5_storm_184 : decode cX5_storm 184 = .ok (.iload_n 1, 1) := by decide +kernel
theorem dX5_storm_185 : decode cX5_storm 185 = .ok (.iadd, 1) := by decide +kernel
theorem dX5_storm_186 : decode cX5_storm 186 = .ok (.iaload, 1) := by decide +kernel
theorem dX5_storm_187 : decode cX5_storm 187 = .ok (.if_icmp .ne 8, 3) := by decide +kernel
theorem dX5_storm_190 : decode cX5_storm 190 = .ok (.lload 10, 2) := by decide +kernel
theorem dX5_storm_192 : decode cX5_storm 192 = .ok (.goto 4, 3) := by decide +kernel
theorem dX5_storm_195 : decode cX5_storm 195 = .ok (.lconst 0, 1) := by decide +kernel
theorem dX5_storm_196 : decode cX5_storm 196 = .ok (.ladd, 1) := by decide +kernel
theorem dX5_storm_197 : decode cX5_storm 197 = .ok (.lstore 5, 2) := by decide +kernel
theorem dX5_storm_199 : decode cX5_storm 199 = .ok (.iinc 9 1, 3) := by decide +kernel
theorem dX5_storm_202 : decode cX5_storm 202 = .ok (.goto (-105), 3) := by decide +kernel
theorem dX5_storm_205 : decode cX5_storm 205 = .ok (.lload 5, 2) := by decide +kernel
theorem dX5_storm_207 : decode cX5_storm 207 = .ok (.lload 7, 2) := by decide +kernel
theorem dX5_storm_209 : decode cX5_storm 209 = .ok (.iload 4, 2) := by decide +kernel
theorem dX5_storm_211 : decode cX5_storm 211 = .ok (.invokestatic 190, 3) := by decide +kernel
theorem dX5_storm_214 : decode cX5_storm 214 = .ok (.lreturn, 1) := by decide +kernel
set_option maxRecDepth 20000 in
theorem ggX5_seaAll_X5_isAboard : GoodIn wsX5_seaAll wsX5_isAboard := goodIn_r _ [5, 6, 7, 4, 8] (by decide +kernel) (by decide +kernel)
set_option maxRecDepth 20000 in
theorem gX5_seaAll_X5_isAboard : GoodIn wsX5_seaAll (va_wsS RX5 62 yX5_isAboard wsX5_isAboard) := goodIn_app (goodIn_of _ (by decide +kernel)) ggX5_seaAll_X5_isAboard
set_option maxRecDepth 20000 in
theorem ggX5_seaAll_X5_of : GoodIn wsX5_seaAll wsX5_of := goodIn_r _ [8] (by decide +kernel) (by decide +kernel)
set_option maxRecDepth 20000 in
theorem gX5_seaAll_X5_of : GoodIn wsX5_seaAll (va_wsS RX5 48 yX5_of wsX5_of) := goodIn_app (goodIn_of _ (by decide +kernel)) ggX5_seaAll_X5_of
theorem dX5_seaAll_0 : decode cX5_seaAll 0 = .ok (.iconst 0, 1) := by decide +kernel
theorem dX5_seaAll_1 : decode cX5_seaAll 1 = .ok (.istore_n 2, 1) := by decide +kernel
theorem dX5_seaAll_2 : decode cX5_seaAll 2 = .ok (.iconst 0, 1) := by decide +kernel
theorem dX5_seaAll_3 : decode cX5_seaAll 3 = .ok (.istore_n 3, 1) := by decide +kernel
theorem dX5_seaAll_4 : decode cX5_seaAll 4 = .ok (.iload_n 3, 1) := by decide +kernel
theorem dX5_seaAll_5 : decode cX5_seaAll 5 = .ok (.aload_n 0, 1) := by decide +kernel
theorem dX5_seaAll_6 : decode cX5_seaAll 6 = .ok (.getfield 9, 3) := by decide +kernel
theorem dX5_seaAll_9 : decode cX5_seaAll 9 = .ok (.iconst 1, 1) := by decide +kernel
theorem dX5_seaAll_10 : decode cX5_seaAll 10 = .ok (.iaload, 1) := by decide +kernel
theorem dX5_seaAll_11 : decode cX5_seaAll 11 = .ok (.if_icmp .ge 41, 3) := by decide +kernel
theorem dX5_seaAll_14 : decode cX5_seaAll 14 = .ok (.iload_n 2, 1) := by decide +kernel
theorem dX5_seaAll_15 : decode cX5_seaAll 15 = .ok (.iload_n 1, 1) := by decide +kernel
theorem dX5_seaAll_16 : decode cX5_seaAll 16 = .ok (.ifCond .eq 14, 3) := by decide +kernel
theorem dX5_seaAll_19 : decode cX5_seaAll 19 = .ok (.aload_n 0, 1) := by decide +kernel
theorem dX5_seaAll_20 : decode cX5_seaAll 20 = .ok (.getfield 9, 3) := by decide +kernel
theorem dX5_seaAll_23 : decode cX5_seaAll 23 = .ok (.iload_n 3, 1) := by decide +kernel
theorem dX5_seaAll_24 : decode cX5_seaAll 24 = .ok (.invokestatic 62, 3) := by decide +kernel
theorem dX5_seaAll_27 : decode cX5_seaAll 27 = .ok (.ifCond .eq 16, 3) := by decide +kernel
theorem dX5_seaAll_30 : decode cX5_seaAll 30 = .ok (.aload_n 0, 1) := by decide +kernel
theorem dX5_seaAll_31 : decode cX5_seaAll 31 = .ok (.getfield 9, 3) := by decide +kernel
theorem dX5_seaAll_34 : decode cX5_seaAll 34 = .ok (.iload_n 3, 1) := by decide +kernel
theorem dX5_seaAll_35 : decode cX5_seaAll 35 = .ok (.iconst 3, 1) := by decide +kernel
theorem dX5_seaAll_36 : decode cX5_seaAll 36 = .ok (.invokestatic 48, 3) := by decide +kernel
theorem dX5_seaAll_39 : decode cX5_seaAll 39 = .ok (.iaload, 1) := by decide +kernel
theorem dX5_seaAll_40 : decode cX5_seaAll 40 = .ok (.goto 4, 3) := by decide +kernel
theorem dX5_seaAll_43 : decode cX5_seaAll 43 = .ok (.iconst 0, 1) := by decide +kernel
theorem dX5_seaAll_44 : decode cX5_seaAll 44 = .ok (.iadd, 1) := by decide +kernel
theorem dX5_seaAll_45 : decode cX5_seaAll 45 = .ok (.istore_n 2, 1) := by decide +kernel
theorem dX5_seaAll_46 : decode cX5_seaAll 46 = .ok (.iinc 3 1, 3) := by decide +kernel
theorem dX5_seaAll_49 : decode cX5_seaAll 49 = .ok (.goto (-45), 3) := by decide +kernel
theorem dX5_seaAll_52 : decode cX5_seaAll 52 = .ok (.iload_n 2, 1) := by decide +kernel
theorem dX5_seaAll_53 : decode cX5_seaAll 53 = .ok (.ireturn, 1) := by decide +kernel
set_option maxRecDepth 20000 in
theorem ggX5_mean_X5_isIn : GoodIn wsX5_mean wsX5_isIn := goodIn_r _ [5] (by decide +kernel) (by decide +kernel)
set_option maxRecDepth 20000 in
theorem gX5_mean_X5_isIn : GoodIn wsX5_mean (va_wsS RX5 41 yX5_isIn wsX5_isIn) := goodIn_app (goodIn_of _ (by decide +kernel)) ggX5_mean_X5_isIn
set_option maxRecDepth 20000 in
theorem ggX5_mean_X5_seaAll : GoodIn wsX5_mean wsX5_seaAll := goodIn_r _ [9, 1, 10, 11, 4, 12, 13, 14, 15, 38, 39, 40, 41, 42, 43, 44, 45, 46, 47, 48, 49, 50] (by decide +kernel) (by decide +kernel)
set_option maxRecDepth 20000 in
theorem gX5_mean_X5_seaAll : GoodIn wsX5_mean (wsV RX5 194 RX5 yX5_seaAll wsX5_seaAll) := goodIn_app (goodIn_of _ (by decide +kernel)) ggX5_mean_X5_seaAll
set_option maxRecDepth 20000 in
theorem ggX5_mean_X5_aboardIn : GoodIn wsX5_mean wsX5_aboardIn := goodIn_r _ [18, 13, 14, 4, 15] (by decide +kernel) (by decide +kernel)
set_option maxRecDepth 20000 in
theorem gX5_mean_X5_aboardIn : GoodIn wsX5_mean (va_wsS RX5 198 yX5_aboardIn wsX5_aboardIn) := goodIn_app (goodIn_of _ (by decide +kernel)) ggX5_mean_X5_aboardIn
set_option maxRecDepth 20000 in
theorem ggX5_mean_X5_bits : GoodIn wsX5_mean wsX5_bits := goodIn_r _ [21] (by decide +kernel) (by decide +kernel)
set_option maxRecDepth 20000 in
theorem gX5_mean_X5_bits : GoodIn wsX5_mean (va_wsS RX5 166 yX5_bits wsX5_bits) := goodIn_app (goodIn_of _ (by decide +kernel)) ggX5_mean_X5_bits
set_option maxRecDepth 20000 in
theorem ggX5_mean_X5_partOf : GoodIn wsX5_mean wsX5_partOf := goodIn_r _ [24, 25, 26, 4, 27] (by decide +kernel) (by decide +kernel)
set_option maxRecDepth 20000 in
theorem gX5_mean_X5_partOf : GoodIn wsX5_mean (va_wsS RX5 190 yX5_partOf wsX5_partOf) := goodIn_app (goodIn_of _ (by decide +kernel)) ggX5_mean_X5_partOf
set_option maxRecDepth 20000 in
theorem ggX5_mean_X5_noWide : GoodIn wsX5_mean wsX5_noWide := goodIn_r _ [31, 32, 33, 34, 35, 4, 36, 37, 38, 39, 40, 41, 42, 43, 44, 45, 46, 47, 48, 49, 50] (by decide +kernel) (by decide +kernel)
set_option maxRecDepth 20000 in
theorem gX5_mean_X5_noWide : GoodIn wsX5_mean (wsV RX5 186 RX5 yX5_noWide wsX5_noWide) := goodIn_app (goodIn_of _ (by decide +kernel)) ggX5_mean_X5_noWide
theorem dX5_mean_0 : decode cX5_mean 0 = .ok (.iload_n 1, 1) := by decide +kernel
theorem dX5_mean_1 : decode cX5_mean 1 = .ok (.iconst 0, 1) := by decide +kernel
theorem dX5_mean_2 : decode cX5_mean 2 = .ok (.iconst 1, 1) := by decide +kernel
theorem dX5_mean_3 : decode cX5_mean 3 = .ok (.invokestatic 41, 3) := by decide +kernel
theorem dX5_mean_6 : decode cX5_mean 6 = .ok (.ifCond .eq 27, 3) := by decide +kernel
theorem dX5_mean_9 : decode cX5_mean 9 = .ok (.aload_n 0, 1) := by decide +kernel
theorem dX5_mean_10 : decode cX5_mean 10 = .ok (.iconst 1, 1) := by decide +kernel
theorem dX5_mean_11 : decode cX5_mean 11 = .ok (.invokevirtual 194, 3) := by decide +kernel
theorem dX5_mean_14 : decode cX5_mean 14 = .ok (.i2l, 1) := by decide +kernel
theorem dX5_mean_15 : decode cX5_mean 15 = .ok (.aload_n 0, 1) := by decide +kernel
theorem dX5_mean_16 : decode cX5_mean 16 = .ok (.getfield 9, 3) := by decide +kernel
theorem dX5_mean_19 : decode cX5_mean 19 = .ok (.invokestatic 198, 3) := by decide +kernel
theorem dX5_mean_22 : decode cX5_mean 22 = .ok (.invokestatic 166, 3) := by decide +kernel
theorem dX5_mean_25 : decode cX5_mean 25 = .ok (.i2l, 1) := by decide +kernel
theorem dX5_mean_26 : decode cX5_mean 26 = .ok (.iload_n 1, 1) := by decide +kernel
theorem dX5_mean_27 : decode cX5_mean 27 = .ok (.invokestatic 190, 3) := by decide +kernel
theorem dX5_mean_30 : decode cX5_mean 30 = .ok (.goto 9, 3) := by decide +kernel
theorem dX5_mean_33 : decode cX5_mean 33 = .ok (.aload_n 0, 1) := by decide +kernel
theorem dX5_mean_34 : decode cX5_mean 34 = .ok (.bipush (-2), 2) := by decide +kernel
theorem dX5_mean_36 : decode cX5_mean 36 = .ok (.invokevirtual 186, 3) := by decide +kernel
theorem dX5_mean_39 : decode cX5_mean 39 = .ok (.lreturn, 1) := by decide +kernel
set_option maxRecDepth 20000 in
theorem ggX5_log_X5_isHand : GoodIn wsX5_log wsX5_isHand := goodIn_r _ [9, 1, 10, 11, 8, 12, 60, 61, 62, 63, 64, 65, 66, 67, 68, 69, 70, 71, 72] (by decide +kernel) (by decide +kernel)
set_option maxRecDepth 20000 in
theorem gX5_log_X5_isHand : GoodIn wsX5_log (wsV RX5 122 RX5 yX5_isHand wsX5_isHand) := goodIn_app (goodIn_of _ (by decide +kernel)) ggX5_log_X5_isHand
set_option maxRecDepth 20000 in
theorem ggX5_log_X5_no : GoodIn wsX5_log wsX5_no := goodIn_r _ [16, 17, 60, 61, 62, 63, 64, 65, 66, 67, 68, 69, 70, 71, 72] (by decide +kernel) (by decide +kernel)
set_option maxRecDepth 20000 in
theorem gX5_log_X5_no : GoodIn wsX5_log (wsV RX5 35 RX5 yX5_no wsX5_no) := goodIn_app (goodIn_of _ (by decide +kernel)) ggX5_log_X5_no
set_option maxRecDepth 20000 in
theorem ggX5_log_X5_isIn : GoodIn wsX5_log wsX5_isIn := goodIn_r _ [12] (by decide +kernel) (by decide +kernel)
set_option maxRecDepth 20000 in
theorem gX5_log_X5_isIn : GoodIn wsX5_log (va_wsS RX5 41 yX5_isIn wsX5_isIn) := goodIn_app (goodIn_of _ (by decide +kernel)) ggX5_log_X5_isIn
set_option maxRecDepth 20000 in
theorem ggX5_log_X5_copies : GoodIn wsX5_log wsX5_copies := goodIn_r _ [20] (by decide +kernel) (by decide +kernel)
set_option maxRecDepth 20000 in
theorem gX5_log_X5_copies : GoodIn wsX5_log (va_wsS RX5 135 yX5_copies wsX5_copies) := goodIn_app (goodIn_of _ (by decide +kernel)) ggX5_log_X5_copies
set_option maxRecDepth 20000 in
theorem ggX5_log_X5_of : GoodIn wsX5_log wsX5_of := goodIn_r _ [23] (by decide +kernel) (by decide +kernel)
set_option maxRecDepth 20000 in
theorem gX5_log_X5_of : GoodIn wsX5_log (va_wsS RX5 48 yX5_of wsX5_of) := goodIn_app (goodIn_of _ (by decide +kernel)) ggX5_log_X5_of
set_option maxRecDepth 20000 in
theorem ggX5_log_X5_day : GoodIn wsX5_log wsX5_day := goodIn_r _ [26, 27, 28, 8, 29, 30, 31, 32, 33, 34, 35, 21, 22, 23, 36, 37, 38, 39, 40, 41, 42, 43, 44, 45, 46, 47, 48, 49, 50, 51, 52, 53, 54, 55, 56, 57, 58, 59] (by decide +kernel) (by decide +kernel)
set_option maxRecDepth 20000 in
theorem gX5_log_X5_day : GoodIn wsX5_log (va_wsS RX5 85 yX5_day wsX5_day) := goodIn_app (goodIn_of _ (by decide +kernel)) ggX5_log_X5_day
theorem dX5_log_0 : decode cX5_log 0 = .ok (.aload_n 0, 1) := by decide +kernel
theorem dX5_log_1 : decode cX5_log 1 = .ok (.iload_n 1, 1) := by decide +kernel
theorem dX5_log_2 : decode cX5_log 2 = .ok (.invokevirtual 122, 3) := by decide +kernel
theorem dX5_log_5 : decode cX5_log 5 = .ok (.ifCond .ne 9, 3) := by decide +kernel
theorem dX5_log_8 : decode cX5_log 8 = .ok (.aload_n 0, 1) := by decide +kernel
theorem dX5_log_9 : decode cX5_log 9 = .ok (.iconst (-1), 1) := by decide +kernel
theorem dX5_log_10 : decode cX5_log 10 = .ok (.invokevirtual 35, 3) := by decide +kernel
theorem dX5_log_13 : decode cX5_log 13 = .ok (.ireturn, 1) := by decide +kernel
theorem dX5_log_14 : decode cX5_log 14 = .ok (.iload_n 2, 1) := by decide +kernel
theorem dX5_log_15 : decode cX5_log 15 = .ok (.iconst 0, 1) := by decide +kernel
theorem dX5_log_16 : decode cX5_log 16 = .ok (.iconst 1, 1) := by decide +kernel
theorem dX5_log_17 : decode cX5_log 17 = .ok (.invokestatic 41, 3) := by decide +kernel
theorem dX5_log_20 : decode cX5_log 20 = .ok (.ifCond .ne 10, 3) := by decide +kernel
theorem dX5_log_23 : decode cX5_log 23 = .ok (.aload_n 0, 1) := by decide +kernel
theorem dX5_log_24 : decode cX5_log 24 = .ok (.bipush (-2), 2) := by decide +kernel
theorem dX5_log_26 : decode cX5_log 26 = .ok (.invokevirtual 35, 3) := by decide +kernel
theorem dX5_log_29 : decode cX5_log 29 = .ok (.ireturn, 1) := by decide +kernel
theorem dX5_log_30 : decode cX5_log 30 = .ok (.iconst 0, 1) := by decide +kernel
theorem dX5_log_31 : decode cX5_log 31 = .ok (.istore_n 3, 1) := by decide +kernel
theorem dX5_log_32 : decode cX5_log 32 = .ok (.iconst 0, 1) := by decide +kernel
theorem dX5_log_33 : decode cX5_log 33 = .ok (.istore 4, 2) := by decide +kernel
theorem dX5_log_35 : decode cX5_log 35 = .ok (.iload 4, 2) := by decide +kernel
theorem dX5_log_37 : decode cX5_log 37 = .ok (.iload_n 2, 1) := by decide +kernel
theorem dX5_log_38 : decode cX5_log 38 = .ok (.ifCond .ne 12, 3) := by decide +kernel
theorem dX5_log_41 : decode cX5_log 41 = .ok (.aload_n 0, 1) := by decide +kernel
theorem dX5_log_42 : decode cX5_log 42 = .ok (.getfield 9, 3) := by decide +kernel
theorem dX5_log_45 : decode cX5_log 45 = .ok (.iconst 0, 1) := by decide +kernel
theorem dX5_log_46 : decode cX5_log 46 = .ok (.iaload, 1) := by decide +kernel
theorem dX5_log_47 : decode cX5_log 47 = .ok (.goto 5, 3) := by decide +kernel
theorem dX5_log_50 : decode cX5_log 50 = .ok (.bipush 6, 2) := by decide +kernel
theorem dX5_log_52 : decode cX5_log 52 = .ok (.if_icmp .ge 111, 3) := by decide +kernel
theorem dX5_log_55 : decode cX5_log 55 = .ok (.iconst 1, 1) := by decide +kernel
theorem dX5_log_56 : decode cX5_log 56 = .ok (.istore 5, 2) := by decide +kernel
theorem dX5_log_58 : decode cX5_log 58 = .ok (.aload_n 0, 1) := by decide +kernel
theorem dX5_log_59 : decode cX5_log 59 = .ok (.getfield 9, 3) := by decide +kernel
theorem dX5_log_62 : decode cX5_log 62 = .ok (.aload_n 0, 1) := by decide +kernel
theorem dX5_log_63 : decode cX5_log 63 = .ok (.getfield 13, 3) := by decide +kernel
theorem dX5_log_66 : decode cX5_log 66 = .ok (.invokestatic 135, 3) := by decide +kernel
theorem dX5_log_69 : decode cX5_log 69 = .ok (.aload_n 0, 1) := by decide +kernel
theorem dX5_log_70 : decode cX5_log 70 = .ok (.getfield 13, 3) := by decide +kernel
theorem dX5_log_73 : decode cX5_log 73 = .ok (.iload_n 1, 1) := by decide +kernel
theorem dX5_log_74 : decode cX5_log 74 = .ok (.iload_n 2, 1) := by decide +kernel
theorem dX5_log_75 : decode cX5_log 75 = .ok (.ifCond .ne 7, 3) := by decide +kernel
theorem dX5_log_78 : decode cX5_log 78 = .ok (.iconst 2, 1) := by decide +kernel
theorem dX5_log_79 : decode cX5_log 79 = .ok (.goto 4, 3) := by decide +kernel
theorem dX5_log_82 : decode cX5_log 82 = .ok (.iconst 0, 1) := by decide +kernel
theorem dX5_log_83 : decode cX5_log 83 = .ok (.invokestatic 48, 3) := by decide +kernel
theorem dX5_log_86 : decode cX5_log 86 = .ok (.iload 4, 2) := by decide +kernel
theorem dX5_log_88 : decode cX5_log 88 = .ok (.iastore, 1) := by decide +kernel
theorem dX5_log_89 : decode cX5_log 89 = .ok (.iconst 0, 1) := by decide +kernel
theorem dX5_log_90 : decode cX5_log 90 = .ok (.istore 6, 2) := by decide +kernel
theorem dX5_log_92 : decode cX5_log 92 = .ok (.iload 6, 2) := by decide +kernel
theorem dX5_log_94 : decode cX5_log 94 = .ok (.aload_n 0, 1) := by decide +kernel
theorem dX5_log_95 : decode cX5_log 95 = .ok (.getfield 201, 3) := by decide +kernel
theorem dX5_log_98 : decode cX5_log 98 = .ok (.if_icmp .ge 43, 3) := by decide +kernel
theorem dX5_log_101 : decode cX5_log 101 = .ok (.iload 5, 2) := by decide +kernel
theorem dX5_log_103 : decode cX5_log 103 = .ok (.aload_n 0, 1) := by decide +kernel
theorem dX5_log_104 : decode cX5_log 104 = .ok (.getfield 13, 3) := by decide +kernel
theorem dX5_log_107 : decode cX5_log 107 = .ok (.iconst 3, 1) := by decide +kernel
theorem dX5_log_108 : decode cX5_log 108 = .ok (.iaload, 1) := by decide +kernel
theorem dX5_log_109 : decode cX5_log 109 = .ok (.aload_n 0, 1) := by decide +kernel
theorem dX5_log_110 : decode cX5_log 110 = .ok (.getfield 25, 3) := by decide +kernel
theorem dX5_log_113 : decode cX5_log 113 = .ok (.iload 6, 2) := by decide +kernel
theorem dX5_log_115 : decode cX5_log 115 = .ok (.iaload, 1) := by decide +kernel
theorem dX5_log_116 : decode cX5_log 116 = .ok (.if_icmp .ne 7, 3) := by decide +kernel
theorem dX5_log_119 : decode cX5_log 119 = .ok (.iconst 1, 1) := by decide +kernel
theorem dX5_log_120 : decode cX5_log 120 = .ok (.goto 4, 3) := by decide +kernel
theorem dX5_log_123 : decode cX5_log 123 = .ok (.iconst 0, 1) := by decide +kernel
theorem dX5_log_124 : decode cX5_log 124 = .ok (.iand, 1) := by decide +kernel
theorem dX5_log_125 : decode cX5_log 125 = .ok (.istore 5, 2) := by decide +kernel
theorem dX5_log_127 : decode cX5_log 127 = .ok (.aload_n 0, 1) := by decide +kernel
theorem dX5_log_128 : decode cX5_log 128 = .ok (.getfield 13, 3) := by decide +kernel
theorem dX5_log_131 : decode cX5_log 131 = .ok (.iconst 0, 1) := by decide +kernel
theorem dX5_log_132 : decode cX5_log 132 = .ok (.invokestatic 85, 3) := by decide +kernel
theorem dX5_log_135 : decode cX5_log 135 = .ok (.iinc 6 1, 3) := by decide +kernel
theorem dX5_log_138 : decode cX5_log 138 = .ok (.goto (-46), 3) := by decide +kernel
theorem dX5_log_141 : decode cX5_log 141 = .ok (.iload_n 3, 1) := by decide +kernel
theorem dX5_log_142 : decode cX5_log 142 = .ok (.iload 5, 2) := by decide +kernel
theorem dX5_log_144 : decode cX5_log 144 = .ok (.ifCond .eq 10, 3) := by decide +kernel
theorem dX5_log_147 : decode cX5_log 147 = .ok (.iconst 1, 1) := by decide +kernel
theorem dX5_log_148 : decode cX5_log 148 = .ok (.iload 4, 2) := by decide +kernel
theorem dX5_log_150 : decode cX5_log 150 = .ok (.ishl, 1) := by decide +kernel
theorem dX5_log_151 : decode cX5_log 151 = .ok (.goto 4, 3) := by decide +kernel
theorem dX5_log_154 : decode cX5_log 154 = .ok (.iconst 0, 1) := by decide +kernel
theorem dX5_log_155 : decode cX5_log 155 = .ok (.ior, 1) := by decide +kernel
theorem dX5_log_156 : decode cX5_log 156 = .ok (.istore_n 3, 1) := by decide +kernel
theorem dX5_log_157 : decode cX5_log 157 = .ok (.iinc 4 1, 3) := by decide +kernel
theorem dX5_log_160 : decode cX5_log 160 = .ok (.goto (-125), 3) := by decide +kernel
theorem dX5_log_163 : decode cX5_log 163 = .ok (.iload_n 3, 1) := by decide +kernel
theorem dX5_log_164 : decode cX5_log 164 = .ok (.ireturn, 1) := by decide +kernel
set_option maxRecDepth 20000 in
theorem ggX5_row_X5_wrongBy : GoodIn wsX5_row wsX5_wrongBy := goodIn_r _ [6] (by decide +kernel) (by decide +kernel)
set_option maxRecDepth 20000 in
theorem gX5_row_X5_wrongBy : GoodIn wsX5_row (va_wsS RX5 145 yX5_wrongBy wsX5_wrongBy) := goodIn_app (goodIn_of _ (by decide +kernel)) ggX5_row_X5_wrongBy
set_option maxRecDepth 20000 in
theorem ggX5_row_X5_no : GoodIn wsX5_row wsX5_no := goodIn_r _ [10, 11, 12, 13, 14, 15, 16, 17, 18, 19, 20, 21, 22, 23, 24] (by decide +kernel) (by decide +kernel)
set_option maxRecDepth 20000 in
theorem gX5_row_X5_no : GoodIn wsX5_row (wsV RX5 35 RX5 yX5_no wsX5_no) := goodIn_app (goodIn_of _ (by decide +kernel)) ggX5_row_X5_no
theorem dX5_row_0 : decode cX5_row 0 = .ok (.iload_n 1, 1) := by decide +kernel
theorem dX5_row_1 : decode cX5_row 1 = .ok (.iconst 0, 1) := by decide +kernel
theorem dX5_row_2 : decode cX5_row 2 = .ok (.bipush 99, 2) := by decide +kernel
theorem dX5_row_4 : decode cX5_row 4 = .ok (.invokestatic 145, 3) := by decide +kernel
theorem dX5_row_7 : decode cX5_row 7 = .ok (.istore_n 2, 1) := by decide +kernel
theorem dX5_row_8 : decode cX5_row 8 = .ok (.iload_n 2, 1) := by decide +kernel
theorem dX5_row_9 : decode cX5_row 9 = .ok (.ifCond .ne 15, 3) := by decide +kernel
theorem dX5_row_12 : decode cX5_row 12 = .ok (.aload_n 0, 1) := by decide +kernel
theorem dX5_row_13 : decode cX5_row 13 = .ok (.getfield 201, 3) := by decide +kernel
theorem dX5_row_16 : decode cX5_row 16 = .ok (.bipush 16, 2) := by decide +kernel
theorem dX5_row_18 : decode cX5_row 18 = .ok (.if_icmp .ne 6, 3) := by decide +kernel
theorem dX5_row_21 : decode cX5_row 21 = .ok (.bipush (-6), 2) := by decide +kernel
theorem dX5_row_23 : decode cX5_row 23 = .ok (.istore_n 2, 1) := by decide +kernel
theorem dX5_row_24 : decode cX5_row 24 = .ok (.iload_n 2, 1) := by decide +kernel
theorem dX5_row_25 : decode cX5_row 25 = .ok (.ifCond .eq 9, 3) := by decide +kernel
theorem dX5_row_28 : decode cX5_row 28 = .ok (.aload_n 0, 1) := by decide +kernel
theorem dX5_row_29 : decode cX5_row 29 = .ok (.iload_n 2, 1) := by decide +kernel
theorem dX5_row_30 : decode cX5_row 30 = .ok (.invokevirtual 35, 3) := by decide +kernel
theorem dX5_row_33 : decode cX5_row 33 = .ok (.ireturn, 1) := by decide +kernel
theorem dX5_row_34 : decode cX5_row 34 = .ok (.aload_n 0, 1) := by decide +kernel
theorem dX5_row_35 : decode cX5_row 35 = .ok (.getfield 25, 3) := by decide +kernel
theorem dX5_row_38 : decode cX5_row 38 = .ok (.aload_n 0, 1) := by decide +kernel
theorem dX5_row_39 : decode cX5_row 39 = .ok (.getfield 201, 3) := by decide +kernel
theorem dX5_row_42 : decode cX5_row 42 = .ok (.iload_n 1, 1) := by decide +kernel
theorem dX5_row_43 : decode cX5_row 43 = .ok (.iastore, 1) := by decide +kernel
theorem dX5_row_44 : decode cX5_row 44 = .ok (.aload_n 0, 1) := by decide +kernel
theorem dX5_row_45 : decode cX5_row 45 = .ok (.dup, 1) := by decide +kernel
theorem dX5_row_46 : decode cX5_row 46 = .ok (.getfield 201, 3) := by decide +kernel
theorem dX5_row_49 : decode cX5_row 49 = .ok (.iconst 1, 1) := by decide +kernel
theorem dX5_row_50 : decode cX5_row 50 = .ok (.iadd, 1) := by decide +kernel
theorem dX5_row_51 : decode cX5_row 51 = .ok (.putfield 201, 3) := by decide +kernel
theorem dX5_row_54 : decode cX5_row 54 = .ok (.aload_n 0, 1) := by decide +kernel
theorem dX5_row_55 : decode cX5_row 55 = .ok (.getfield 201, 3) := by decide +kernel
theorem dX5_row_58 : decode cX5_row 58 = .ok (.ireturn, 1) := by decide +kernel
set_option maxRecDepth 20000 in
theorem ggX5_judge_X5_copies : GoodIn wsX5_judge wsX5_copies := goodIn_r _ [8] (by decide +kernel) (by decide +kernel)
set_option maxRecDepth 20000 in
theorem gX5_judge_X5_copies : GoodIn wsX5_judge (va_wsS RX5 135 yX5_copies wsX5_copies) := goodIn_app (goodIn_of _ (by decide +kernel)) ggX5_judge_X5_copies
set_option maxRecDepth 20000 in
theorem ggX5_judge_X5_needleIn : GoodIn wsX5_judge wsX5_needleIn := goodIn_r _ [11, 12, 13, 7, 14, 15, 16, 17, 18, 19, 20, 21, 22, 23, 24, 25, 26, 27, 28, 29, 30, 31, 32, 33, 34, 35, 36, 37, 38, 39, 40, 41] (by decide +kernel) (by decide +kernel)
set_option maxRecDepth 20000 in
theorem gX5_judge_X5_needleIn : GoodIn wsX5_judge (va_wsS RX5 79 yX5_needleIn wsX5_needleIn) := goodIn_app (goodIn_of _ (by decide +kernel)) ggX5_judge_X5_needleIn
set_option maxRecDepth 20000 in
theorem ggX5_judge_X5_day : GoodIn wsX5_judge wsX5_day := goodIn_r _ [44, 9, 10, 7, 11, 12, 13, 14, 15, 16, 17, 18, 19, 20, 21, 22, 23, 24, 25, 26, 27, 28, 29, 30, 31, 32, 33, 34, 35, 36, 37, 38, 39, 40, 41, 45, 46, 47] (by decide +kernel) (by decide +kernel)
set_option maxRecDepth 20000 in
theorem gX5_judge_X5_day : GoodIn wsX5_judge (va_wsS RX5 85 yX5_day wsX5_day) := goodIn_app (goodIn_of _ (by decide +kernel)) ggX5_judge_X5_day
theorem dX5_judge_0 : decode cX5_judge 0 = .ok (.aload_n 0, 1) := by decide +kernel
theorem dX5_judge_1 : decode cX5_judge 1 = .ok (.getfield 201, 3) := by decide +kernel
theorem dX5_judge_4 : decode cX5_judge 4 = .ok (.istore_n 1, 1) := by decide +kernel
theorem dX5_judge_5 : decode cX5_judge 5 = .ok (.aload_n 0, 1) := by decide +kernel
theorem dX5_judge_6 : decode cX5_judge 6 = .ok (.iconst 0, 1) := by decide +kernel
theorem dX5_judge_7 : decode cX5_judge 7 = .ok (.putfield 201, 3) := by decide +kernel
theorem dX5_judge_10 : decode cX5_judge 10 = .ok (.aload_n 0, 1) := by decide +kernel
theorem dX5_judge_11 : decode cX5_judge 11 = .ok (.getfield 9, 3) := by decide +kernel
theorem dX5_judge_14 : decode cX5_judge 14 = .ok (.aload_n 0, 1) := by decide +kernel
theorem dX5_judge_15 : decode cX5_judge 15 = .ok (.getfield 13, 3) := by decide +kernel
theorem dX5_judge_18 : decode cX5_judge 18 = .ok (.invokestatic 135, 3) := by decide +kernel
theorem dX5_judge_21 : decode cX5_judge 21 = .ok (.iconst 0, 1) := by decide +kernel
theorem dX5_judge_22 : decode cX5_judge 22 = .ok (.istore_n 2, 1) := by decide +kernel
theorem dX5_judge_23 : decode cX5_judge 23 = .ok (.iload_n 2, 1) := by decide +kernel
theorem dX5_judge_24 : decode cX5_judge 24 = .ok (.iload_n 1, 1) := by decide +kernel
theorem dX5_judge_25 : decode cX5_judge 25 = .ok (.if_icmp .ge 48, 3) := by decide +kernel
theorem dX5_judge_28 : decode cX5_judge 28 = .ok (.aload_n 0, 1) := by decide +kernel
theorem dX5_judge_29 : decode cX5_judge 29 = .ok (.getfield 13, 3) := by decide +kernel
theorem dX5_judge_32 : decode cX5_judge 32 = .ok (.bipush (-9), 2) := by decide +kernel
theorem dX5_judge_34 : decode cX5_judge 34 = .ok (.invokestatic 79, 3) := by decide +kernel
theorem dX5_judge_37 : decode cX5_judge 37 = .ok (.istore_n 3, 1) := by decide +kernel
theorem dX5_judge_38 : decode cX5_judge 38 = .ok (.iload_n 3, 1) := by decide +kernel
theorem dX5_judge_39 : decode cX5_judge 39 = .ok (.ifCond .ge 8, 3) := by decide +kernel
theorem dX5_judge_42 : decode cX5_judge 42 = .ok (.bipush 9, 2) := by decide +kernel
theorem dX5_judge_44 : decode cX5_judge 44 = .ok (.goto 4, 3) := by decide +kernel
theorem dX5_judge_47 : decode cX5_judge 47 = .ok (.iload_n 3, 1) := by decide +kernel
theorem dX5_judge_48 : decode cX5_judge 48 = .ok (.aload_n 0, 1) := by decide +kernel
theorem dX5_judge_49 : decode cX5_judge 49 = .ok (.getfield 25, 3) := by decide +kernel
theorem dX5_judge_52 : decode cX5_judge 52 = .ok (.iload_n 2, 1) := by decide +kernel
theorem dX5_judge_53 : decode cX5_judge 53 = .ok (.iaload, 1) := by decide +kernel
theorem dX5_judge_54 : decode cX5_judge 54 = .ok (.if_icmp .eq 5, 3) := by decide +kernel
theorem dX5_judge_57 : decode cX5_judge 57 = .ok (.iload_n 2, 1) := by decide +kernel
theorem dX5_judge_58 : decode cX5_judge 58 = .ok (.ireturn, 1) := by decide +kernel
theorem dX5_judge_59 : decode cX5_judge 59 = .ok (.aload_n 0, 1) := by decide +kernel
theorem dX5_judge_60 : decode cX5_judge 60 = .ok (.getfield 13, 3) := by decide +kernel
theorem dX5_judge_63 : decode cX5_judge 63 = .ok (.iconst 0, 1) := by decide +kernel
theorem dX5_judge_64 : decode cX5_judge 64 = .ok (.invokestatic 85, 3) := by decide +kernel
theorem dX5_judge_67 : decode cX5_judge 67 = .ok (.iinc 2 1, 3) := by decide +kernel
theorem dX5_judge_70 : decode cX5_judge 70 = .ok (.goto (-47), 3) := by decide +kernel
theorem dX5_judge_73 : decode cX5_judge 73 = .ok (.bipush (-9), 2) := by decide +kernel
theorem dX5_judge_75 : decode cX5_judge 75 = .ok (.ireturn, 1) := by decide +kernel
theorem dX5_clear_0 : decode cX5_clear 0 = .ok (.aload_n 0, 1) := by decide +kernel
theorem dX5_clear_1 : decode cX5_clear 1 = .ok (.getfield 201, 3) := by decide +kernel
theorem dX5_clear_4 : decode cX5_clear 4 = .ok (.istore_n 1, 1) := by decide +kernel
theorem dX5_clear_5 : decode cX5_clear 5 = .ok (.aload_n 0, 1) := by decide +kernel
theorem dX5_clear_6 : decode cX5_clear 6 = .ok (.iconst 0, 1) := by decide +kernel
theorem dX5_clear_7 : decode cX5_clear 7 = .ok (.putfield 201, 3) := by decide +kernel
theorem dX5_clear_10 : decode cX5_clear 10 = .ok (.iload_n 1, 1) := by decide +kernel
theorem dX5_clear_11 : decode cX5_clear 11 = .ok (.ireturn, 1) := by decide +kernel
theorem dX5_drawn_0 : decode cX5_drawn 0 = .ok (.aload_n 0, 1) := by decide +kernel
theorem dX5_drawn_1 : decode cX5_drawn 1 = .ok (.aload_n 0, 1) := by decide +kernel
theorem dX5_drawn_2 : decode cX5_drawn 2 = .ok (.getfield 204, 3) := by decide +kernel
theorem dX5_drawn_5 : decode cX5_drawn 5 = .ok (.ldc 207, 2) := by decide +kernel
theorem dX5_drawn_7 : decode cX5_drawn 7 = .ok (.imul, 1) := by decide +kernel
theorem dX5_drawn_8 : decode cX5_drawn 8 = .ok (.ldc 208, 2) := by decide +kernel
theorem dX5_drawn_10 : decode cX5_drawn 10 = .ok (.iadd, 1) := by decide +kernel
theorem dX5_drawn_11 : decode cX5_drawn 11 = .ok (.putfield 204, 3) := by decide +kernel
theorem dX5_drawn_14 : decode cX5_drawn 14 = .ok (.aload_n 0, 1) := by decide +kernel
theorem dX5_drawn_15 : decode cX5_drawn 15 = .ok (.getfield 204, 3) := by decide +kernel
theorem dX5_drawn_18 : decode cX5_drawn 18 = .ok (.ldc 209, 2) := by decide +kernel
theorem dX5_drawn_20 : decode cX5_drawn 20 = .ok (.iand, 1) := by decide +kernel
theorem dX5_drawn_21 : decode cX5_drawn 21 = .ok (.sipush 256, 3) := by decide +kernel
theorem dX5_drawn_24 : decode cX5_drawn 24 = .ok (.idiv, 1) := by decide +kernel
theorem dX5_drawn_25 : decode cX5_drawn 25 = .ok (.iload_n 1, 1) := by decide +kernel
theorem dX5_drawn_26 : decode cX5_drawn 26 = .ok (.irem, 1) := by decide +kernel
theorem dX5_drawn_27 : decode cX5_drawn 27 = .ok (.ireturn, 1) := by decide +kernel
set_option maxRecDepth 20000 in
theorem ggX5_lots_X5_no : GoodIn wsX5_lots wsX5_no := goodIn_r _ [8, 9, 68, 69, 70, 71, 72, 73, 74, 75, 76, 77, 78, 79, 80] (by decide +kernel) (by decide +kernel)
set_option maxRecDepth 20000 in
theorem gX5_lots_X5_no : GoodIn wsX5_lots (wsV RX5 35 RX5 yX5_no wsX5_no) := goodIn_app (goodIn_of _ (by decide +kernel)) ggX5_lots_X5_no
set_option maxRecDepth 20000 in
theorem ggX5_lots_X5_isIn : GoodIn wsX5_lots wsX5_isIn := goodIn_r _ [12] (by decide +kernel) (by decide +kernel)
set_option maxRecDepth 20000 in
theorem gX5_lots_X5_isIn : GoodIn wsX5_lots (va_wsS RX5 41 yX5_isIn wsX5_isIn) := goodIn_app (goodIn_of _ (by decide +kernel)) ggX5_lots_X5_isIn
set_option maxRecDepth 20000 in
theorem ggX5_lots_X5_copies : GoodIn wsX5_lots wsX5_copies := goodIn_r _ [15] (by decide +kernel) (by decide +kernel)
set_option maxRecDepth 20000 in
theorem gX5_lots_X5_copies : GoodIn wsX5_lots (va_wsS RX5 135 yX5_copies wsX5_copies) := goodIn_app (goodIn_of _ (by decide +kernel)) ggX5_lots_X5_copies
set_option maxRecDepth 20000 in
theorem ggX5_lots_X5_drawn : GoodIn wsX5_lots wsX5_drawn := goodIn_r _ [19, 1, 20, 21, 22, 68, 69, 70, 71, 72, 73, 74, 75, 76, 77, 78, 79, 80] (by decide +kernel) (by decide +kernel)
set_option maxRecDepth 20000 in
theorem gX5_lots_X5_drawn : GoodIn wsX5_lots (wsV RX5 210 RX5 yX5_drawn wsX5_drawn) := goodIn_app (goodIn_of _ (by decide +kernel)) ggX5_lots_X5_drawn
set_option maxRecDepth 20000 in
theorem ggX5_lots_X5_of : GoodIn wsX5_lots wsX5_of := goodIn_r _ [25] (by decide +kernel) (by decide +kernel)
set_option maxRecDepth 20000 in
theorem gX5_lots_X5_of : GoodIn wsX5_lots (va_wsS RX5 48 yX5_of wsX5_of) := goodIn_app (goodIn_of _ (by decide +kernel)) ggX5_lots_X5_of
set_option maxRecDepth 20000 in
theorem ggX5_lots_X5_daysOn : GoodIn wsX5_lots wsX5_daysOn := goodIn_r _ [28, 29, 30, 7, 31, 32, 33, 34, 35, 36, 37, 38, 39, 40, 23, 24, 25, 41, 42, 43, 44, 45, 46, 47, 48, 49, 50, 51, 52, 53, 54, 55, 56, 57, 58, 59, 60, 61, 62, 63, 64] (by decide +kernel) (by decide +kernel)
set_option maxRecDepth 20000 in
theorem gX5_lots_X5_daysOn : GoodIn wsX5_lots (va_wsS RX5 129 yX5_daysOn wsX5_daysOn) := goodIn_app (goodIn_of _ (by decide +kernel)) ggX5_lots_X5_daysOn
set_option maxRecDepth 20000 in
theorem ggX5_lots_X5_placeAt : GoodIn wsX5_lots wsX5_placeAt := goodIn_r _ [67] (by decide +kernel) (by decide +kernel)
set_option maxRecDepth 20000 in
theorem gX5_lots_X5_placeAt : GoodIn wsX5_lots (va_wsS RX5 159 yX5_placeAt wsX5_placeAt) := goodIn_app (goodIn_of _ (by decide +kernel)) ggX5_lots_X5_placeAt
theorem dX5_lots_0 : decode cX5_lots 0 = .ok (.iload_n 1, 1) := by decide +kernel
theorem dX5_lots_1 : decode cX5_lots 1 = .ok (.iconst 1, 1) := by decide +kernel
theorem dX5_lots_2 : decode cX5_lots 2 = .ok (.if_icmp .ge 10, 3) := by decide +kernel
theorem dX5_lots_5 : decode cX5_lots 5 = .ok (.aload_n 0, 1) := by decide +kernel
theorem dX5_lots_6 : decode cX5_lots 6 = .ok (.bipush (-4), 2) := by decide +kernel
theorem dX5_lots_8 : decode cX5_lots 8 = .ok (.invokevirtual 35, 3) := by decide +kernel
theorem dX5_lots_11 : decode cX5_lots 11 = .ok (.ireturn, 1) := by decide +kernel
theorem dX5_lots_12 : decode cX5_lots 12 = .ok (.iload_n 1, 1) := by decide +kernel
theorem dX5_lots_13 : decode cX5_lots 13 = .ok (.bipush 20, 2) := by decide +kernel
theorem dX5_lots_15 : decode cX5_lots 15 = .ok (.if_icmp .le 10, 3) := by decide +kernel
theorem dX5_lots_18 : decode cX5_lots 18 = .ok (.aload_n 0, 1) := by decide +kernel
theorem dX5_lots_19 : decode cX5_lots 19 = .ok (.bipush (-6), 2) := by decide +kernel
theorem dX5_lots_21 : decode cX5_lots 21 = .ok (.invokevirtual 35, 3) := by decide +kernel
theorem dX5_lots_24 : decode cX5_lots 24 = .ok (.ireturn, 1) := by decide +kernel
theorem dX5_lots_25 : decode cX5_lots 25 = .ok (.iload_n 3, 1) := by decide +kernel
theorem dX5_lots_26 : decode cX5_lots 26 = .ok (.iconst 0, 1) := by decide +kernel
theorem dX5_lots_27 : decode cX5_lots 27 = .ok (.iconst 1, 1) := by decide +kernel
theorem dX5_lots_28 : decode cX5_lots 28 = .ok (.invokestatic 41, 3) := by decide +kernel
theorem dX5_lots_31 : decode cX5_lots 31 = .ok (.ifCond .ne 10, 3) := by decide +kernel
theorem dX5_lots_34 : decode cX5_lots 34 = .ok (.aload_n 0, 1) := by decide +kernel
theorem dX5_lots_35 : decode cX5_lots 35 = .ok (.bipush (-2), 2) := by decide +kernel
theorem dX5_lots_37 : decode cX5_lots 37 = .ok (.invokevirtual 35, 3) := by decide +kernel
theorem dX5_lots_40 : decode cX5_lots 40 = .ok (.ireturn, 1) := by decide +kernel
theorem dX5_lots_41 : decode cX5_lots 41 = .ok (.aload_n 0, 1) := by decide +kernel
theorem dX5_lots_42 : decode cX5_lots 42 = .ok (.iload_n 2, 1) := by decide +kernel
theorem dX5_lots_43 : decode cX5_lots 43 = .ok (.putfield 204, 3) := by decide +kernel
theorem dX5_lots_46 : decode cX5_lots 46 = .ok (.iconst 0, 1) := by decide +kernel
theorem dX5_lots_47 : decode cX5_lots 47 = .ok (.istore 4, 2) := by decide +kernel
theorem dX5_lots_49 : decode cX5_lots 49 = .ok (.iconst 0, 1) := by decide +kernel
theorem dX5_lots_50 : decode cX5_lots 50 = .ok (.istore 5, 2) := by decide +kernel
theorem dX5_lots_52 : decode cX5_lots 52 = .ok (.iload 5, 2) := by decide +kernel
theorem dX5_lots_54 : decode cX5_lots 54 = .ok (.iload_n 1, 1) := by decide +kernel
theorem dX5_lots_55 : decode cX5_lots 55 = .ok (.if_icmp .ge 112, 3) := by decide +kernel
theorem dX5_lots_58 : decode cX5_lots 58 = .ok (.aload_n 0, 1) := by decide +kernel
theorem dX5_lots_59 : decode cX5_lots 59 = .ok (.getfield 9, 3) := by decide +kernel
theorem dX5_lots_62 : decode cX5_lots 62 = .ok (.aload_n 0, 1) := by decide +kernel
theorem dX5_lots_63 : decode cX5_lots 63 = .ok (.getfield 13, 3) := by decide +kernel
theorem dX5_lots_66 : decode cX5_lots 66 = .ok (.invokestatic 135, 3) := by decide +kernel
theorem dX5_lots_69 : decode cX5_lots 69 = .ok (.aload_n 0, 1) := by decide +kernel
theorem dX5_lots_70 : decode cX5_lots 70 = .ok (.getfield 13, 3) := by decide +kernel
theorem dX5_lots_73 : decode cX5_lots 73 = .ok (.iconst 3, 1) := by decide +kernel
theorem dX5_lots_74 : decode cX5_lots 74 = .ok (.aload_n 0, 1) := by decide +kernel
theorem dX5_lots_75 : decode cX5_lots 75 = .ok (.bipush 64, 2) := by decide +kernel
theorem dX5_lots_77 : decode cX5_lots 77 = .ok (.invokevirtual 210, 3) := by decide +kernel
theorem dX5_lots_80 : decode cX5_lots 80 = .ok (.iastore, 1) := by decide +kernel
theorem dX5_lots_81 : decode cX5_lots 81 = .ok (.iconst 0, 1) := by decide +kernel
theorem dX5_lots_82 : decode cX5_lots 82 = .ok (.istore 6, 2) := by decide +kernel
theorem dX5_lots_84 : decode cX5_lots 84 = .ok (.iload 6, 2) := by decide +kernel
theorem dX5_lots_86 : decode cX5_lots 86 = .ok (.aload_n 0, 1) := by decide +kernel
theorem dX5_lots_87 : decode cX5_lots 87 = .ok (.getfield 9, 3) := by decide +kernel
theorem dX5_lots_90 : decode cX5_lots 90 = .ok (.iconst 1, 1) := by decide +kernel
theorem dX5_lots_91 : decode cX5_lots 91 = .ok (.iaload, 1) := by decide +kernel
theorem dX5_lots_92 : decode cX5_lots 92 = .ok (.if_icmp .ge 26, 3) := by decide +kernel
theorem dX5_lots_95 : decode cX5_lots 95 = .ok (.aload_n 0, 1) := by decide +kernel
theorem dX5_lots_96 : decode cX5_lots 96 = .ok (.getfield 13, 3) := by decide +kernel
theorem dX5_lots_99 : decode cX5_lots 99 = .ok (.iload 6, 2) := by decide +kernel
theorem dX5_lots_101 : decode cX5_lots 101 = .ok (.iconst 3, 1) := by decide +kernel
theorem dX5_lots_102 : decode cX5_lots 102 = .ok (.invokestatic 48, 3) := by decide +kernel
theorem dX5_lots_105 : decode cX5_lots 105 = .ok (.aload_n 0, 1) := by decide +kernel
theorem dX5_lots_106 : decode cX5_lots 106 = .ok (.bipush 40, 2) := by decide +kernel
theorem dX5_lots_108 : decode cX5_lots 108 = .ok (.invokevirtual 210, 3) := by decide +kernel
theorem dX5_lots_111 : decode cX5_lots 111 = .ok (.iastore, 1) := by decide +kernel
theorem dX5_lots_112 : decode cX5_lots 112 = .ok (.iinc 6 1, 3) := by decide +kernel
theorem dX5_lots_115 : decode cX5_lots 115 = .ok (.goto (-31), 3) := by decide +kernel
theorem dX5_lots_118 : decode cX5_lots 118 = .ok (.aload_n 0, 1) := by decide +kernel
theorem dX5_lots_119 : decode cX5_lots 119 = .ok (.getfield 13, 3) := by decide +kernel
theorem dX5_lots_122 : decode cX5_lots 122 = .ok (.bipush 12, 2) := by decide +kernel
theorem dX5_lots_124 : decode cX5_lots 124 = .ok (.invokestatic 129, 3) := by decide +kernel
theorem dX5_lots_127 : decode cX5_lots 127 = .ok (.iload 4, 2) := by decide +kernel
theorem dX5_lots_129 : decode cX5_lots 129 = .ok (.iload_n 3, 1) := by decide +kernel
theorem dX5_lots_130 : decode cX5_lots 130 = .ok (.iconst 1, 1) := by decide +kernel
theorem dX5_lots_131 : decode cX5_lots 131 = .ok (.if_icmp .ne 12, 3) := by decide +kernel
theorem dX5_lots_134 : decode cX5_lots 134 = .ok (.aload_n 0, 1) := by decide +kernel
theorem dX5_lots_135 : decode cX5_lots 135 = .ok (.getfield 13, 3) := by decide +kernel
theorem dX5_lots_138 : decode cX5_lots 138 = .ok (.iconst 3, 1) := by decide +kernel
theorem dX5_lots_139 : decode cX5_lots 139 = .ok (.iaload, 1) := by decide +kernel
theorem dX5_lots_140 : decode cX5_lots 140 = .ok (.goto 18, 3) := by decide +kernel
theorem dX5_lots_143 : decode cX5_lots 143 = .ok (.aload_n 0, 1) := by decide +kernel
theorem dX5_lots_144 : decode cX5_lots 144 = .ok (.getfield 13, 3) := by decide +kernel
theorem dX5_lots_147 : decode cX5_lots 147 = .ok (.invokestatic 159, 3) := by decide +kernel
theorem dX5_lots_150 : decode cX5_lots 150 = .ok (.ifCond .lt 7, 3) := by decide +kernel
theorem dX5_lots_153 : decode cX5_lots 153 = .ok (.iconst 1, 1) := by decide +kernel
theorem dX5_lots_154 : decode cX5_lots 154 = .ok (.goto 4, 3) := by decide +kernel
theorem dX5_lots_157 : decode cX5_lots 157 = .ok (.iconst 0, 1) := by decide +kernel
theorem dX5_lots_158 : decode cX5_lots 158 = .ok (.iadd, 1) := by decide +kernel
theorem dX5_lots_159 : decode cX5_lots 159 = .ok (.istore 4, 2) := by decide +kernel
theorem dX5_lots_161 : decode cX5_lots 161 = .ok (.iinc 5 1, 3) := by decide +kernel
theorem dX5_lots_164 : decode cX5_lots 164 = .ok (.goto (-112), 3) := by decide +kernel
theorem dX5_lots_167 : decode cX5_lots 167 = .ok (.iload 4, 2) := by decide +kernel
theorem dX5_lots_169 : decode cX5_lots 169 = .ok (.ireturn, 1) := by decide +kernel
set_option maxRecDepth 20000 in
theorem ggX5_image_X5_copies : GoodIn wsX5_image wsX5_copies := goodIn_r _ [7] (by decide +kernel) (by decide +kernel)
set_option maxRecDepth 20000 in
theorem gX5_image_X5_copies : GoodIn wsX5_image (va_wsS RX5 135 yX5_copies wsX5_copies) := goodIn_app (goodIn_of _ (by decide +kernel)) ggX5_image_X5_copies
theorem dX5_image_0 : decode cX5_image 0 = .ok (.aload_n 0, 1) := by decide +kernel
theorem dX5_image_1 : decode cX5_image 1 = .ok (.getfield 9, 3) := by decide +kernel
theorem dX5_image_4 : decode cX5_image 4 = .ok (.aload_n 0, 1) := by decide +kernel
theorem dX5_image_5 : decode cX5_image 5 = .ok (.getfield 16, 3) := by decide +kernel
theorem dX5_image_8 : decode cX5_image 8 = .ok (.invokestatic 135, 3) := by decide +kernel
theorem dX5_image_11 : decode cX5_image 11 = .ok (.aload_n 0, 1) := by decide +kernel
theorem dX5_image_12 : decode cX5_image 12 = .ok (.iconst 1, 1) := by decide +kernel
theorem dX5_image_13 : decode cX5_image 13 = .ok (.putfield 213, 3) := by decide +kernel
theorem dX5_image_16 : decode cX5_image 16 = .ok (.aload_n 0, 1) := by decide +kernel
theorem dX5_image_17 : decode cX5_image 17 = .ok (.getfield 9, 3) := by decide +kernel
theorem dX5_image_20 : decode cX5_image 20 = .ok (.iconst 2, 1) := by decide +kernel
theorem dX5_image_21 : decode cX5_image 21 = .ok (.iaload, 1) := by decide +kernel
theorem dX5_image_22 : decode cX5_image 22 = .ok (.ireturn, 1) := by decide +kernel
set_option maxRecDepth 20000 in
theorem ggX5_on_X5_no : GoodIn wsX5_on wsX5_no := goodIn_r _ [8, 9, 13, 14, 15, 16, 17, 18, 19, 20, 21, 22, 23, 24, 25] (by decide +kernel) (by decide +kernel)
set_option maxRecDepth 20000 in
theorem gX5_on_X5_no : GoodIn wsX5_on (wsV RX5 35 RX5 yX5_no wsX5_no) := goodIn_app (goodIn_of _ (by decide +kernel)) ggX5_on_X5_no
set_option maxRecDepth 20000 in
theorem ggX5_on_X5_copies : GoodIn wsX5_on wsX5_copies := goodIn_r _ [12] (by decide +kernel) (by decide +kernel)
set_option maxRecDepth 20000 in
theorem gX5_on_X5_copies : GoodIn wsX5_on (va_wsS RX5 135 yX5_copies wsX5_copies) := goodIn_app (goodIn_of _ (by decide +kernel)) ggX5_on_X5_copies
theorem dX5_on_0 : decode cX5_on 0 = .ok (.aload_n 0, 1) := by decide +kernel
theorem dX5_on_1 : decode cX5_on 1 = .ok (.getfield 213, 3) := by decide +kernel
theorem dX5_on_4 : decode cX5_on 4 = .ok (.ifCond .ne 10, 3) := by decide +kernel
theorem dX5_on_7 : decode cX5_on 7 = .ok (.aload_n 0, 1) := by decide +kernel
theorem dX5_on_8 : decode cX5_on 8 = .ok (.bipush (-3), 2) := by decide +kernel
theorem dX5_on_10 : decode cX5_on 10 = .ok (.invokevirtual 35, 3) := by decide +kernel
theorem dX5_on_13 : decode cX5_on 13 = .ok (.ireturn, 1) := by decide +kernel
theorem dX5_on_14 : decode cX5_on 14 = .ok (.aload_n 0, 1) := by decide +kernel
theorem dX5_on_15 : decode cX5_on 15 = .ok (.getfield 16, 3) := by decide +kernel
theorem dX5_on_18 : decode cX5_on 18 = .ok (.aload_n 0, 1) := by decide +kernel
theorem dX5_on_19 : decode cX5_on 19 = .ok (.getfield 9, 3) := by decide +kernel
theorem dX5_on_22 : decode cX5_on 22 = .ok (.invokestatic 135, 3) := by decide +kernel
theorem dX5_on_25 : decode cX5_on 25 = .ok (.aload_n 0, 1) := by decide +kernel
theorem dX5_on_26 : decode cX5_on 26 = .ok (.getfield 9, 3) := by decide +kernel
theorem dX5_on_29 : decode cX5_on 29 = .ok (.iconst 2, 1) := by decide +kernel
theorem dX5_on_30 : decode cX5_on 30 = .ok (.iaload, 1) := by decide +kernel
theorem dX5_on_31 : decode cX5_on 31 = .ok (.ireturn, 1) := by decide +kernel
set_option maxRecDepth 20000 in
theorem ggX5_count_X5_isIn : GoodIn wsX5_count wsX5_isIn := goodIn_r _ [8] (by decide +kernel) (by decide +kernel)
set_option maxRecDepth 20000 in
theorem gX5_count_X5_isIn : GoodIn wsX5_count (va_wsS RX5 41 yX5_isIn wsX5_isIn) := goodIn_app (goodIn_of _ (by decide +kernel)) ggX5_count_X5_isIn
set_option maxRecDepth 20000 in
theorem ggX5_count_X5_aboardIn : GoodIn wsX5_count wsX5_aboardIn := goodIn_r _ [11, 12, 13, 7, 14] (by decide +kernel) (by decide +kernel)
set_option maxRecDepth 20000 in
theorem gX5_count_X5_aboardIn : GoodIn wsX5_count (va_wsS RX5 198 yX5_aboardIn wsX5_aboardIn) := goodIn_app (goodIn_of _ (by decide +kernel)) ggX5_count_X5_aboardIn
set_option maxRecDepth 20000 in
theorem ggX5_count_X5_seaAll : GoodIn wsX5_count wsX5_seaAll := goodIn_r _ [18, 2, 19, 20, 7, 21, 12, 13, 14, 22, 23, 24, 25, 26, 27, 28, 29, 30, 31, 32, 33, 34] (by decide +kernel) (by decide +kernel)
set_option maxRecDepth 20000 in
theorem gX5_count_X5_seaAll : GoodIn wsX5_count (wsV RX5 194 RX5 yX5_seaAll wsX5_seaAll) := goodIn_app (goodIn_of _ (by decide +kernel)) ggX5_count_X5_seaAll
theorem dX5_count_0 : decode cX5_count 0 = .ok (.iload_n 1, 1) := by decide +kernel
theorem dX5_count_1 : decode cX5_count 1 = .ok (.bipush 11, 2) := by decide +kernel
theorem dX5_count_3 : decode cX5_count 3 = .ok (.bipush 16, 2) := by decide +kernel
theorem dX5_count_5 : decode cX5_count 5 = .ok (.invokestatic 41, 3) := by decide +kernel
theorem dX5_count_8 : decode cX5_count 8 = .ok (.ifCond .eq 13, 3) := by decide +kernel
theorem dX5_count_11 : decode cX5_count 11 = .ok (.aload_n 0, 1) := by decide +kernel
theorem dX5_count_12 : decode cX5_count 12 = .ok (.getfield 28, 3) := by decide +kernel
theorem dX5_count_15 : decode cX5_count 15 = .ok (.iload_n 1, 1) := by decide +kernel
theorem dX5_count_16 : decode cX5_count 16 = .ok (.bipush 10, 2) := by decide +kernel
theorem dX5_count_18 : decode cX5_count 18 = .ok (.isub, 1) := by decide +kernel
theorem dX5_count_19 : decode cX5_count 19 = .ok (.iaload, 1) := by decide +kernel
theorem dX5_count_20 : decode cX5_count 20 = .ok (.ireturn, 1) := by decide +kernel
theorem dX5_count_21 : decode cX5_count 21 = .ok (.iload_n 1, 1) := by decide +kernel
theorem dX5_count_22 : decode cX5_count 22 = .ok (.tableswitch 77 0 7 #[46, 46, 46, 46, 53, 61, 67, 72], 46) := by decide +kernel
theorem dX5_count_68 : decode cX5_count 68 = .ok (.aload_n 0, 1) := by decide +kernel
theorem dX5_count_69 : decode cX5_count 69 = .ok (.getfield 9, 3) := by decide +kernel
theorem dX5_count_72 : decode cX5_count 72 = .ok (.iload_n 1, 1) := by decide +kernel
theorem dX5_count_73 : decode cX5_count 73 = .ok (.iaload, 1) := by decide +kernel
theorem dX5_count_74 : decode cX5_count 74 = .ok (.ireturn, 1) := by decide +kernel
theorem dX5_count_75 : decode cX5_count 75 = .ok (.aload_n 0, 1) := by decide +kernel
theorem dX5_count_76 : decode cX5_count 76 = .ok (.getfield 9, 3) := by decide +kernel
theorem dX5_count_79 : decode cX5_count 79 = .ok (.invokestatic 198, 3) := by decide +kernel
theorem dX5_count_82 : decode cX5_count 82 = .ok (.ireturn, 1) := by decide +kernel
theorem dX5_count_83 : decode cX5_count 83 = .ok (.aload_n 0, 1) := by decide +kernel
theorem dX5_count_84 : decode cX5_count 84 = .ok (.iconst 0, 1) := by decide +kernel
theorem dX5_count_85 : decode cX5_count 85 = .ok (.invokevirtual 194, 3) := by decide +kernel
theorem dX5_count_88 : decode cX5_count 88 = .ok (.ireturn, 1) := by decide +kernel
theorem dX5_count_89 : decode cX5_count 89 = .ok (.aload_n 0, 1) := by decide +kernel
theorem dX5_count_90 : decode cX5_count 90 = .ok (.getfield 201, 3) := by decide +kernel
theorem dX5_count_93 : decode cX5_count 93 = .ok (.ireturn, 1) := by decide +kernel
theorem dX5_count_94 : decode cX5_count 94 = .ok (.aload_n 0, 1) := by decide +kernel
theorem dX5_count_95 : decode cX5_count 95 = .ok (.getfield 89, 3) := by decide +kernel
theorem dX5_count_98 : decode cX5_count 98 = .ok (.ireturn, 1) := by decide +kernel
theorem dX5_count_99 : decode cX5_count 99 = .ok (.bipush (-9), 2) := by decide +kernel
theorem dX5_count_101 : decode cX5_count 101 = .ok (.ireturn, 1) := by decide +kernel
theorem dJ11_isValidCodePoint_9a6ad_0 : decode cJ11_isValidCodePoint_9a6ad 0 = .ok (.iload_n 0, 1) := by decide +kernel
theorem dJ11_isValidCodePoint_9a6ad_1 : decode cJ11_isValidCodePoint_9a6ad 1 = .ok (.bipush 16, 2) := by decide +kernel
theorem dJ11_isValidCodePoint_9a6ad_3 : decode cJ11_isValidCodePoint_9a6ad 3 = .ok (.iushr, 1) := by decide +kernel
theorem dJ11_isValidCodePoint_9a6ad_4 : decode cJ11_isValidCodePoint_9a6ad 4 = .ok (.istore_n 1, 1) := by decide +kernel
theorem dJ11_isValidCodePoint_9a6ad_5 : decode cJ11_isValidCodePoint_9a6ad 5 = .ok (.iload_n 1, 1) := by decide +kernel
theorem dJ11_isValidCodePoint_9a6ad_6 : decode cJ11_isValidCodePoint_9a6ad 6 = .ok (.bipush 17, 2) := by decide +kernel
theorem dJ11_isValidCodePoint_9a6ad_8 : decode cJ11_isValidCodePoint_9a6ad 8 = .ok (.if_icmp .ge 7, 3) := by decide +kernel
theorem dJ11_isValidCodePoint_9a6ad_11 : decode cJ11_isValidCodePoint_9a6ad 11 = .ok (.iconst 1, 1) := by decide +kernel
theorem dJ11_isValidCodePoint_9a6ad_12 : decode cJ11_isValidCodePoint_9a6ad 12 = .ok (.goto 4, 3) := by decide +kernel
theorem dJ11_isValidCodePoint_9a6ad_15 : decode cJ11_isValidCodePoint_9a6ad 15 = .ok (.iconst 0, 1) := by decide +kernel
theorem dJ11_isValidCodePoint_9a6ad_16 : decode cJ11_isValidCodePoint_9a6ad 16 = .ok (.ireturn, 1) := by decide +kernel
theorem dJ11_highSurrogate_5068e_0 : decode cJ11_highSurrogate_5068e 0 = .ok (.iload_n 0, 1) := by decide +kernel
theorem dJ11_highSurrogate_5068e_1 : decode cJ11_highSurrogate_5068e 1 = .ok (.bipush 10, 2) := by decide +kernel
theorem dJ11_highSurrogate_5068e_3 : decode cJ11_highSurrogate_5068e 3 = .ok (.iushr, 1) := by decide +kernel
theorem dJ11_highSurrogate_5068e_4 : decode cJ11_highSurrogate_5068e 4 = .ok (.ldc 110, 2) := by decide +kernel
theorem dJ11_highSurrogate_5068e_6 : decode cJ11_highSurrogate_5068e 6 = .ok (.iadd, 1) := by decide +kernel
theorem dJ11_highSurrogate_5068e_7 : decode cJ11_highSurrogate_5068e 7 = .ok (.i2c, 1) := by decide +kernel
theorem dJ11_highSurrogate_5068e_8 : decode cJ11_highSurrogate_5068e 8 = .ok (.ireturn, 1) := by decide +kernel
theorem dJ11_lowSurrogate_5068e_0 : decode cJ11_lowSurrogate_5068e 0 = .ok (.iload_n 0, 1) := by decide +kernel
theorem dJ11_lowSurrogate_5068e_1 : decode cJ11_lowSurrogate_5068e 1 = .ok (.sipush 1023, 3) := by decide +kernel
theorem dJ11_lowSurrogate_5068e_4 : decode cJ11_lowSurrogate_5068e 4 = .ok (.iand, 1) := by decide +kernel
theorem dJ11_lowSurrogate_5068e_5 : decode cJ11_lowSurrogate_5068e 5 = .ok (.ldc 76, 2) := by decide +kernel
theorem dJ11_lowSurrogate_5068e_7 : decode cJ11_lowSurrogate_5068e 7 = .ok (.iadd, 1) := by decide +kernel
theorem dJ11_lowSurrogate_5068e_8 : decode cJ11_lowSurrogate_5068e 8 = .ok (.i2c, 1) := by decide +kernel
theorem dJ11_lowSurrogate_5068e_9 : decode cJ11_lowSurrogate_5068e 9 = .ok (.ireturn, 1) := by decide +kernel
theorem dJ6_compare_7cf53_0 : decode cJ6_compare_7cf53 0 = .ok (.iload_n 0, 1) := by decide +kernel
theorem dJ6_compare_7cf53_1 : decode cJ6_compare_7cf53 1 = .ok (.iload_n 1, 1) := by decide +kernel
theorem dJ6_compare_7cf53_2 : decode cJ6_compare_7cf53 2 = .ok (.if_icmp .ge 7, 3) := by decide +kernel
theorem dJ6_compare_7cf53_5 : decode cJ6_compare_7cf53 5 = .ok (.iconst (-1), 1) := by decide +kernel
theorem dJ6_compare_7cf53_6 : decode cJ6_compare_7cf53 6 = .ok (.goto 13, 3) := by decide +kernel
theorem dJ6_compare_7cf53_9 : decode cJ6_compare_7cf53 9 = .ok (.iload_n 0, 1) := by decide +kernel
theorem dJ6_compare_7cf53_10 : decode cJ6_compare_7cf53 10 = .ok (.iload_n 1, 1) := by decide +kernel
theorem dJ6_compare_7cf53_11 : decode cJ6_compare_7cf53 11 = .ok (.if_icmp .ne 7, 3) := by decide +kernel
theorem dJ6_compare_7cf53_14 : decode cJ6_compare_7cf53 14 = .ok (.iconst 0, 1) := by decide +kernel
theorem dJ6_compare_7cf53_15 : decode cJ6_compare_7cf53 15 = .ok (.goto 4, 3) := by decide +kernel
theorem dJ6_compare_7cf53_18 : decode cJ6_compare_7cf53 18 = .ok (.iconst 1, 1) := by decide +kernel
theorem dJ6_compare_7cf53_19 : decode cJ6_compare_7cf53 19 = .ok (.ireturn, 1) := by decide +kernel
theorem dJ6_bitCount_0f7a4_0 : decode cJ6_bitCount_0f7a4 0 = .ok (.iload_n 0, 1) := by decide +kernel
theorem dJ6_bitCount_0f7a4_1 : decode cJ6_bitCount_0f7a4 1 = .ok (.iload_n 0, 1) := by decide +kernel
theorem dJ6_bitCount_0f7a4_2 : decode cJ6_bitCount_0f7a4 2 = .ok (.iconst 1, 1) := by decide +kernel
theorem dJ6_bitCount_0f7a4_3 : decode cJ6_bitCount_0f7a4 3 = .ok (.iushr, 1) := by decide +kernel
theorem dJ6_bitCount_0f7a4_4 : decode cJ6_bitCount_0f7a4 4 = .ok (.ldc_w 265, 3) := by decide +kernel
theorem dJ6_bitCount_0f7a4_7 : decode cJ6_bitCount_0f7a4 7 = .ok (.iand, 1) := by decide +kernel
theorem dJ6_bitCount_0f7a4_8 : decode cJ6_bitCount_0f7a4 8 = .ok (.isub, 1) := by decide +kernel
theorem dJ6_bitCount_0f7a4_9 : decode cJ6_bitCount_0f7a4 9 = .ok (.istore_n 0, 1) := by decide +kernel
theorem dJ6_bitCount_0f7a4_10 : decode cJ6_bitCount_0f7a4 10 = .ok (.iload_n 0, 1) := by decide +kernel
theorem dJ6_bitCount_0f7a4_11 : decode cJ6_bitCount_0f7a4 11 = .ok (.ldc_w 266, 3) := by decide +kernel
theorem dJ6_bitCount_0f7a4_14 : decode cJ6_bitCount_0f7a4 14 = .ok (.iand, 1) := by decide +kernel
theorem dJ6_bitCount_0f7a4_15 : decode cJ6_bitCount_0f7a4 15 = .ok (.iload_n 0, 1) := by decide +kernel
theorem dJ6_bitCount_0f7a4_16 : decode cJ6_bitCount_0f7a4 16 = .ok (.iconst 2, 1) := by decide +kernel
theorem dJ6_bitCount_0f7a4_17 : decode cJ6_bitCount_0f7a4 17 = .ok (.iushr, 1) := by decide +kernel
theorem dJ6_bitCount_0f7a4_18 : decode cJ6_bitCount_0f7a4 18 = .ok (.ldc_w 266, 3) := by decide +kernel
theorem dJ6_bitCount_0f7a4_21 : decode cJ6_bitCount_0f7a4 21 = .ok (.iand, 1) := by decide +kernel
theorem dJ6_bitCount_0f7a4_22 : decode cJ6_bitCount_0f7a4 22 = .ok (.iadd, 1) := by decide +kernel
theorem dJ6_bitCount_0f7a4_23 : decode cJ6_bitCount_0f7a4 23 = .ok (.istore_n 0, 1) := by decide +kernel
theorem dJ6_bitCount_0f7a4_24 : decode cJ6_bitCount_0f7a4 24 = .ok (.iload_n 0, 1) := by decide +kernel
theorem dJ6_bitCount_0f7a4_25 : decode cJ6_bitCount_0f7a4 25 = .ok (.iload_n 0, 1) := by decide +kernel
theorem dJ6_bitCount_0f7a4_26 : decode cJ6_bitCount_0f7a4 26 = .ok (.iconst 4, 1) := by decide +kernel
theorem dJ6_bitCount_0f7a4_27 : decode cJ6_bitCount_0f7a4 27 = .ok (.iushr, 1) := by decide +kernel
theorem dJ6_bitCount_0f7a4_28 : decode cJ6_bitCount_0f7a4 28 = .ok (.iadd, 1) := by decide +kernel
theorem dJ6_bitCount_0f7a4_29 : decode cJ6_bitCount_0f7a4 29 = .ok (.ldc_w 267, 3) := by decide +kernel
theorem dJ6_bitCount_0f7a4_32 : decode cJ6_bitCount_0f7a4 32 = .ok (.iand, 1) := by decide +kernel
theorem dJ6_bitCount_0f7a4_33 : decode cJ6_bitCount_0f7a4 33 = .ok (.istore_n 0, 1) := by decide +kernel
theorem dJ6_bitCount_0f7a4_34 : decode cJ6_bitCount_0f7a4 34 = .ok (.iload_n 0, 1) := by decide +kernel
theorem dJ6_bitCount_0f7a4_35 : decode cJ6_bitCount_0f7a4 35 = .ok (.iload_n 0, 1) := by decide +kernel
theorem dJ6_bitCount_0f7a4_36 : decode cJ6_bitCount_0f7a4 36 = .ok (.bipush 8, 2) := by decide +kernel
theorem dJ6_bitCount_0f7a4_38 : decode cJ6_bitCount_0f7a4 38 = .ok (.iushr, 1) := by decide +kernel
theorem dJ6_bitCount_0f7a4_39 : decode cJ6_bitCount_0f7a4 39 = .ok (.iadd, 1) := by decide +kernel
theorem dJ6_bitCount_0f7a4_40 : decode cJ6_bitCount_0f7a4 40 = .ok (.istore_n 0, 1) := by decide +kernel
theorem dJ6_bitCount_0f7a4_41 : decode cJ6_bitCount_0f7a4 41 = .ok (.iload_n 0, 1) := by decide +kernel
theorem dJ6_bitCount_0f7a4_42 : decode cJ6_bitCount_0f7a4 42 = .ok (.iload_n 0, 1) := by decide +kernel
theorem dJ6_bitCount_0f7a4_43 : decode cJ6_bitCount_0f7a4 43 = .ok (.bipush 16, 2) := by decide +kernel
theorem dJ6_bitCount_0f7a4_45 : decode cJ6_bitCount_0f7a4 45 = .ok (.iushr, 1) := by decide +kernel
theorem dJ6_bitCount_0f7a4_46 : decode cJ6_bitCount_0f7a4 46 = .ok (.iadd, 1) := by decide +kernel
theorem dJ6_bitCount_0f7a4_47 : decode cJ6_bitCount_0f7a4 47 = .ok (.istore_n 0, 1) := by decide +kernel
theorem dJ6_bitCount_0f7a4_48 : decode cJ6_bitCount_0f7a4 48 = .ok (.iload_n 0, 1) := by decide +kernel
theorem dJ6_bitCount_0f7a4_49 : decode cJ6_bitCount_0f7a4 49 = .ok (.bipush 63, 2) := by decide +kernel
theorem dJ6_bitCount_0f7a4_51 : decode cJ6_bitCount_0f7a4 51 = .ok (.iand, 1) := by decide +kernel
theorem dJ6_bitCount_0f7a4_52 : decode cJ6_bitCount_0f7a4 52 = .ok (.ireturn, 1) := by decide +kernel
theorem dJ9_abs_0f7a4_0 : decode cJ9_abs_0f7a4 0 = .ok (.iload_n 0, 1) := by decide +kernel
theorem dJ9_abs_0f7a4_1 : decode cJ9_abs_0f7a4 1 = .ok (.ifCond .ge 8, 3) := by decide +kernel
theorem dJ9_abs_0f7a4_4 : decode cJ9_abs_0f7a4 4 = .ok (.iload_n 0, 1) := by decide +kernel
theorem dJ9_abs_0f7a4_5 : decode cJ9_abs_0f7a4 5 = .ok (.ineg, 1) := by decide +kernel
theorem dJ9_abs_0f7a4_6 : decode cJ9_abs_0f7a4 6 = .ok (.goto 4, 3) := by decide +kernel
theorem dJ9_abs_0f7a4_9 : decode cJ9_abs_0f7a4 9 = .ok (.iload_n 0, 1) := by decide +kernel
theorem dJ9_abs_0f7a4_10 : decode cJ9_abs_0f7a4 10 = .ok (.ireturn, 1) := by decide +kernel
theorem dJ9_max_7cf53_0 : decode cJ9_max_7cf53 0 = .ok (.iload_n 0, 1) := by decide +kernel
theorem dJ9_max_7cf53_1 : decode cJ9_max_7cf53 1 = .ok (.iload_n 1, 1) := by decide +kernel
theorem dJ9_max_7cf53_2 : decode cJ9_max_7cf53 2 = .ok (.if_icmp .lt 7, 3) := by decide +kernel
theorem dJ9_max_7cf53_5 : decode cJ9_max_7cf53 5 = .ok (.iload_n 0, 1) := by decide +kernel
theorem dJ9_max_7cf53_6 : decode cJ9_max_7cf53 6 = .ok (.goto 4, 3) := by decide +kernel
theorem dJ9_max_7cf53_9 : decode cJ9_max_7cf53 9 = .ok (.iload_n 1, 1) := by decide +kernel
theorem dJ9_max_7cf53_10 : decode cJ9_max_7cf53 10 = .ok (.ireturn, 1) := by decide +kernel
theorem dJ9_min_7cf53_0 : decode cJ9_min_7cf53 0 = .ok (.iload_n 0, 1) := by decide +kernel
theorem dJ9_min_7cf53_1 : decode cJ9_min_7cf53 1 = .ok (.iload_n 1, 1) := by decide +kernel
theorem dJ9_min_7cf53_2 : decode cJ9_min_7cf53 2 = .ok (.if_icmp .gt 7, 3) := by decide +kernel
theorem dJ9_min_7cf53_5 : decode cJ9_min_7cf53 5 = .ok (.iload_n 0, 1) := by decide +kernel
theorem dJ9_min_7cf53_6 : decode cJ9_min_7cf53 6 = .ok (.goto 4, 3) := by decide +kernel
theorem dJ9_min_7cf53_9 : decode cJ9_min_7cf53 9 = .ok (.iload_n 1, 1) := by decide +kernel
theorem dJ9_min_7cf53_10 : decode cJ9_min_7cf53 10 = .ok (.ireturn, 1) := by decide +kernel
set_option maxRecDepth 20000 in
theorem ggJ0_length_8abf5_J0_coder_7d493 : GoodIn wsJ0_length_8abf5 wsJ0_coder_7d493 := goodIn_r _ [6, 7, 8] (by decide +kernel) (by decide +kernel)
set_option maxRecDepth 20000 in
theorem gJ0_length_8abf5_J0_coder_7d493 : GoodIn wsJ0_length_8abf5 (wsV RJ0 335 RJ0 yJ0_coder_7d493 wsJ0_coder_7d493) := goodIn_app (goodIn_of _ (by decide +kernel)) ggJ0_length_8abf5_J0_coder_7d493
theorem dJ0_length_8abf5_0 : decode cJ0_length_8abf5 0 = .ok (.aload_n 0, 1) := by decide +kernel
theorem dJ0_length_8abf5_1 : decode cJ0_length_8abf5 1 = .ok (.getfield 9, 3) := by decide +kernel
theorem dJ0_length_8abf5_4 : decode cJ0_length_8abf5 4 = .ok (.arraylength, 1) := by decide +kernel
theorem dJ0_length_8abf5_5 : decode cJ0_length_8abf5 5 = .ok (.aload_n 0, 1) := by decide +kernel
theorem dJ0_length_8abf5_6 : decode cJ0_length_8abf5 6 = .ok (.invokevirtual 335, 3) := by decide +kernel
theorem dJ0_length_8abf5_9 : decode cJ0_length_8abf5 9 = .ok (.ishr, 1) := by decide +kernel
theorem dJ0_length_8abf5_10 : decode cJ0_length_8abf5 10 = .ok (.ireturn, 1) := by decide +kernel
set_option maxRecDepth 20000 in
theorem ggJ0_indexOf_0f7a4_J0_indexOf_7cf53 : GoodIn wsJ0_indexOf_0f7a4 wsJ0_indexOf_7cf53 := goodIn_r _ [5, 6, 7, 8, 9, 4, 10, 11, 12, 13, 14, 15, 16, 17, 18, 19, 20, 21, 22, 23, 24, 25, 26, 27, 28, 29, 30, 31, 32, 33, 34, 35, 36, 37, 38, 39, 40, 41, 42, 43, 44, 45, 46, 47, 48, 49, 50, 51, 52, 53, 54, 55, 56, 57, 58, 59, 60, 61, 62, 63, 64, 65, 66, 67, 68, 69, 70, 71, 72, 73, 74, 75, 76, 77, 78, 79, 80, 81, 82, 83, 84, 85] (by decide +kernel) (by decide +kernel)
set_option maxRecDepth 20000 in
theorem gJ0_indexOf_0f7a4_J0_indexOf_7cf53 : GoodIn wsJ0_indexOf_0f7a4 (wsV RJ0 633 RJ0 yJ0_indexOf_7cf53 wsJ0_indexOf_7cf53) := goodIn_app (goodIn_of _ (by decide +kernel)) ggJ0_indexOf_0f7a4_J0_indexOf_7cf53
theorem dJ0_indexOf_0f7a4_0 : decode cJ0_indexOf_0f7a4 0 = .ok (.aload_n 0, 1) := by decide +kernel
theorem dJ0_indexOf_0f7a4_1 : decode cJ0_indexOf_0f7a4 1 = .ok (.iload_n 1, 1) := by decide +kernel
theorem dJ0_indexOf_0f7a4_2 : decode cJ0_indexOf_0f7a4 2 = .ok (.iconst 0, 1) := by decide +kernel
theorem dJ0_indexOf_0f7a4_3 : decode cJ0_indexOf_0f7a4 3 = .ok (.invokevirtual 633, 3) := by decide +kernel
theorem dJ0_indexOf_0f7a4_6 : decode cJ0_indexOf_0f7a4 6 = .ok (.ireturn, 1) := by decide +kernel
set_option maxRecDepth 20000 in
theorem ggJ0_indexOf_7cf53_J0_isLatin1_aae02 : GoodIn wsJ0_indexOf_7cf53 wsJ0_isLatin1_aae02 := goodIn_r _ [6, 7, 8] (by decide +kernel) (by decide +kernel)
set_option maxRecDepth 20000 in
theorem gJ0_indexOf_7cf53_J0_isLatin1_aae02 : GoodIn wsJ0_indexOf_7cf53 (wsV RJ0 492 RJ0 yJ0_isLatin1_aae02 wsJ0_isLatin1_aae02) := goodIn_app (goodIn_of _ (by decide +kernel)) ggJ0_indexOf_7cf53_J0_isLatin1_aae02
set_option maxRecDepth 20000 in
theorem ggJ0_indexOf_7cf53_J0_length_8abf5 : GoodIn wsJ0_indexOf_7cf53 wsJ0_length_8abf5 := goodIn_r _ [12, 1, 13, 14, 15, 5, 16, 7, 8] (by decide +kernel) (by decide +kernel)
set_option maxRecDepth 20000 in
theorem gJ0_indexOf_7cf53_J0_length_8abf5 : GoodIn wsJ0_indexOf_7cf53 (wsV RJ0 505 RJ0 yJ0_length_8abf5 wsJ0_length_8abf5) := goodIn_app (goodIn_of _ (by decide +kernel)) ggJ0_indexOf_7cf53_J0_length_8abf5
set_option maxRecDepth 20000 in
theorem ggJ0_indexOf_7cf53_J1_indexOf_4cfef : GoodIn wsJ0_indexOf_7cf53 wsJ1_indexOf_4cfef := goodIn_r _ [20, 21, 22, 23, 24, 25, 26, 27, 28, 29, 19, 30, 31, 32, 33] (by decide +kernel) (by decide +kernel)
set_option maxRecDepth 20000 in
theorem gJ0_indexOf_7cf53_J1_indexOf_4cfef : GoodIn wsJ0_indexOf_7cf53 (va_wsS RJ0 637 yJ1_indexOf_4cfef wsJ1_indexOf_4cfef) := goodIn_app (goodIn_of _ (by decide +kernel)) ggJ0_indexOf_7cf53_J1_indexOf_4cfef
set_option maxRecDepth 20000 in
theorem ggJ0_indexOf_7cf53_J2_indexOf_4cfef : GoodIn wsJ0_indexOf_7cf53 wsJ2_indexOf_4cfef := goodIn_r _ [37, 38, 22, 23, 24, 39, 26, 27, 40, 41, 42, 36, 43, 44, 45, 46, 47, 48, 49, 50, 51, 5, 52, 53, 54, 55, 56, 57, 58, 59, 60, 61, 62, 63, 64, 65, 66, 67, 68, 69, 70, 71, 72, 73, 74, 75, 76, 77, 78, 79, 80, 81] (by decide +kernel) (by decide +kernel)
set_option maxRecDepth 20000 in
theorem gJ0_indexOf_7cf53_J2_indexOf_4cfef : GoodIn wsJ0_indexOf_7cf53 (va_wsS RJ0 640 yJ2_indexOf_4cfef wsJ2_indexOf_4cfef) := goodIn_app (goodIn_of _ (by decide +kernel)) ggJ0_indexOf_7cf53_J2_indexOf_4cfef
theorem dJ0_indexOf_7cf53_0 : decode cJ0_indexOf_7cf53 0 = .ok (.aload_n 0, 1) := by decide +kernel
theorem dJ0_indexOf_7cf53_1 : decode cJ0_indexOf_7cf53 1 = .ok (.invokevirtual 492, 3) := by decide +kernel
theorem dJ0_indexOf_7cf53_4 : decode cJ0_indexOf_7cf53 4 = .ok (.ifCond .eq 19, 3) := by decide +kernel
theorem dJ0_indexOf_7cf53_7 : decode cJ0_indexOf_7cf53 7 = .ok (.aload_n 0, 1) := by decide +kernel
theorem dJ0_indexOf_7cf53_8 : decode cJ0_indexOf_7cf53 8 = .ok (.getfield 9, 3) := by decide +kernel
theorem dJ0_indexOf_7cf53_11 : decode cJ0_indexOf_7cf53 11 = .ok (.iload_n 1, 1) := by decide +kernel
theorem dJ0_indexOf_7cf53_12 : decode cJ0_indexOf_7cf53 12 = .ok (.iload_n 2, 1) := by decide +kernel
theorem dJ0_indexOf_7cf53_13 : decode cJ0_indexOf_7cf53 13 = .ok (.aload_n 0, 1) := by decide +kernel
theorem dJ0_indexOf_7cf53_14 : decode cJ0_indexOf_7cf53 14 = .ok (.invokevirtual 505, 3) := by decide +kernel
theorem dJ0_indexOf_7cf53_17 : decode cJ0_indexOf_7cf53 17 = .ok (.invokestatic 637, 3) := by decide +kernel
theorem dJ0_indexOf_7cf53_20 : decode cJ0_indexOf_7cf53 20 = .ok (.goto 16, 3) := by decide +kernel
theorem dJ0_indexOf_7cf53_23 : decode cJ0_indexOf_7cf53 23 = .ok (.aload_n 0, 1) := by decide +kernel
theorem dJ0_indexOf_7cf53_24 : decode cJ0_indexOf_7cf53 24 = .ok (.getfield 9, 3) := by decide +kernel
theorem dJ0_indexOf_7cf53_27 : decode cJ0_indexOf_7cf53 27 = .ok (.iload_n 1, 1) := by decide +kernel
theorem dJ0_indexOf_7cf53_28 : decode cJ0_indexOf_7cf53 28 = .ok (.iload_n 2, 1) := by decide +kernel
theorem dJ0_indexOf_7cf53_29 : decode cJ0_indexOf_7cf53 29 = .ok (.aload_n 0, 1) := by decide +kernel
theorem dJ0_indexOf_7cf53_30 : decode cJ0_indexOf_7cf53 30 = .ok (.invokevirtual 505, 3) := by decide +kernel
theorem dJ0_indexOf_7cf53_33 : decode cJ0_indexOf_7cf53 33 = .ok (.invokestatic 640, 3) := by decide +kernel
theorem dJ0_indexOf_7cf53_36 : decode cJ0_indexOf_7cf53 36 = .ok (.ireturn, 1) := by decide +kernel
theorem dJ0_coder_7d493_0 : decode cJ0_coder_7d493 0 = .ok (.getstatic 38, 3) := by decide +kernel
theorem dJ0_coder_7d493_3 : decode cJ0_coder_7d493 3 = .ok (.ifCond .eq 10, 3) := by decide +kernel
theorem dJ0_coder_7d493_6 : decode cJ0_coder_7d493 6 = .ok (.aload_n 0, 1) := by decide +kernel
theorem dJ0_coder_7d493_7 : decode cJ0_coder_7d493 7 = .ok (.getfield 15, 3) := by decide +kernel
theorem dJ0_coder_7d493_10 : decode cJ0_coder_7d493 10 = .ok (.goto 4, 3) := by decide +kernel
theorem dJ0_coder_7d493_13 : decode cJ0_coder_7d493 13 = .ok (.iconst 1, 1) := by decide +kernel
theorem dJ0_coder_7d493_14 : decode cJ0_coder_7d493 14 = .ok (.ireturn, 1) := by decide +kernel
theorem dJ0_isLatin1_aae02_0 : decode cJ0_isLatin1_aae02 0 = .ok (.getstatic 38, 3) := by decide +kernel
theorem dJ0_isLatin1_aae02_3 : decode cJ0_isLatin1_aae02 3 = .ok (.ifCond .eq 14, 3) := by decide +kernel
theorem dJ0_isLatin1_aae02_6 : decode cJ0_isLatin1_aae02 6 = .ok (.aload_n 0, 1) := by decide +kernel
theorem dJ0_isLatin1_aae02_7 : decode cJ0_isLatin1_aae02 7 = .ok (.getfield 15, 3) := by decide +kernel
theorem dJ0_isLatin1_aae02_10 : decode cJ0_isLatin1_aae02 10 = .ok (.ifCond .ne 7, 3) := by decide +kernel
theorem dJ0_isLatin1_aae02_13 : decode cJ0_isLatin1_aae02 13 = .ok (.iconst 1, 1) := by decide +kernel
theorem dJ0_isLatin1_aae02_14 : decode cJ0_isLatin1_aae02 14 = .ok (.goto 4, 3) := by decide +kernel
theorem dJ0_isLatin1_aae02_17 : decode cJ0_isLatin1_aae02 17 = .ok (.iconst 0, 1) := by decide +kernel
theorem dJ0_isLatin1_aae02_18 : decode cJ0_isLatin1_aae02 18 = .ok (.ireturn, 1) := by decide +kernel
set_option maxRecDepth 20000 in
theorem ggJ0_checkBoundsBeginEnd_23922_J3_checkFromToIndex_8c36e : GoodIn wsJ0_checkBoundsBeginEnd_23922 wsJ3_checkFromToIndex_8c36e := goodIn_r _ [5] (by decide +kernel) (by decide +kernel)
set_option maxRecDepth 20000 in
theorem gJ0_checkBoundsBeginEnd_23922_J3_checkFromToIndex_8c36e : GoodIn wsJ0_checkBoundsBeginEnd_23922 (va_wsS RJ0 1062 yJ3_checkFromToIndex_8c36e wsJ3_checkFromToIndex_8c36e) := goodIn_app (goodIn_of _ (by decide +kernel)) ggJ0_checkBoundsBeginEnd_23922_J3_checkFromToIndex_8c36e
theorem dJ0_checkBoundsBeginEnd_23922_0 : decode cJ0_checkBoundsBeginEnd_23922 0 = .ok (.iload_n 0, 1) := by decide +kernel
theorem dJ0_checkBoundsBeginEnd_23922_1 : decode cJ0_checkBoundsBeginEnd_23922 1 = .ok (.iload_n 1, 1) := by decide +kernel
theorem dJ0_checkBoundsBeginEnd_23922_2 : decode cJ0_checkBoundsBeginEnd_23922 2 = .ok (.iload_n 2, 1) := by decide +kernel
theorem dJ0_checkBoundsBeginEnd_23922_3 : decode cJ0_checkBoundsBeginEnd_23922 3 = .ok (.getstatic 1053, 3) := by decide +kernel
theorem dJ0_checkBoundsBeginEnd_23922_6 : decode cJ0_checkBoundsBeginEnd_23922 6 = .ok (.invokestatic 1062, 3) := by decide +kernel
theorem dJ0_checkBoundsBeginEnd_23922_9 : decode cJ0_checkBoundsBeginEnd_23922 9 = .ok (.pop, 1) := by decide +kernel
theorem dJ0_checkBoundsBeginEnd_23922_10 : decode cJ0_checkBoundsBeginEnd_23922 10 = .ok (.return_, 1) := by decide +kernel
theorem dJ1_canEncode_9a6ad_0 : decode cJ1_canEncode_9a6ad 0 = .ok (.iload_n 0, 1) := by decide +kernel
theorem dJ1_canEncode_9a6ad_1 : decode cJ1_canEncode_9a6ad 1 = .ok (.ifCond .lt 14, 3) := by decide +kernel
theorem dJ1_canEncode_9a6ad_4 : decode cJ1_canEncode_9a6ad 4 = .ok (.iload_n 0, 1) := by decide +kernel
theorem dJ1_canEncode_9a6ad_5 : decode cJ1_canEncode_9a6ad 5 = .ok (.sipush 255, 3) := by decide +kernel
theorem dJ1_canEncode_9a6ad_8 : decode cJ1_canEncode_9a6ad 8 = .ok (.if_icmp .gt 7, 3) := by decide +kernel
theorem dJ1_canEncode_9a6ad_11 : decode cJ1_canEncode_9a6ad 11 = .ok (.iconst 1, 1) := by decide +kernel
theorem dJ1_canEncode_9a6ad_12 : decode cJ1_canEncode_9a6ad 12 = .ok (.goto 4, 3) := by decide +kernel
theorem dJ1_canEncode_9a6ad_15 : decode cJ1_canEncode_9a6ad 15 = .ok (.iconst 0, 1) := by decide +kernel
theorem dJ1_canEncode_9a6ad_16 : decode cJ1_canEncode_9a6ad 16 = .ok (.ireturn, 1) := by decide +kernel
set_option maxRecDepth 20000 in
theorem ggJ1_indexOf_4cfef_J1_canEncode_9a6ad : GoodIn wsJ1_indexOf_4cfef wsJ1_canEncode_9a6ad := goodIn_r _ [11] (by decide +kernel) (by decide +kernel)
set_option maxRecDepth 20000 in
theorem gJ1_indexOf_4cfef_J1_canEncode_9a6ad : GoodIn wsJ1_indexOf_4cfef (va_wsS RJ1 88 yJ1_canEncode_9a6ad wsJ1_canEncode_9a6ad) := goodIn_app (goodIn_of _ (by decide +kernel)) ggJ1_indexOf_4cfef_J1_canEncode_9a6ad
set_option maxRecDepth 20000 in
theorem ggJ1_indexOf_4cfef_J1_indexOfChar_4cfef : GoodIn wsJ1_indexOf_4cfef wsJ1_indexOfChar_4cfef := goodIn_r _ [14] (by decide +kernel) (by decide +kernel)
set_option maxRecDepth 20000 in
theorem gJ1_indexOf_4cfef_J1_indexOfChar_4cfef : GoodIn wsJ1_indexOf_4cfef (va_wsS RJ1 95 yJ1_indexOfChar_4cfef wsJ1_indexOfChar_4cfef) := goodIn_app (goodIn_of _ (by decide +kernel)) ggJ1_indexOf_4cfef_J1_indexOfChar_4cfef
theorem dJ1_indexOf_4cfef_0 : decode cJ1_indexOf_4cfef 0 = .ok (.iload_n 1, 1) := by decide +kernel
theorem dJ1_indexOf_4cfef_1 : decode cJ1_indexOf_4cfef 1 = .ok (.invokestatic 88, 3) := by decide +kernel
theorem dJ1_indexOf_4cfef_4 : decode cJ1_indexOf_4cfef 4 = .ok (.ifCond .ne 5, 3) := by decide +kernel
theorem dJ1_indexOf_4cfef_7 : decode cJ1_indexOf_4cfef 7 = .ok (.iconst (-1), 1) := by decide +kernel
theorem dJ1_indexOf_4cfef_8 : decode cJ1_indexOf_4cfef 8 = .ok (.ireturn, 1) := by decide +kernel
theorem dJ1_indexOf_4cfef_9 : decode cJ1_indexOf_4cfef 9 = .ok (.iload_n 2, 1) := by decide +kernel
theorem dJ1_indexOf_4cfef_10 : decode cJ1_indexOf_4cfef 10 = .ok (.iconst 0, 1) := by decide +kernel
theorem dJ1_indexOf_4cfef_11 : decode cJ1_indexOf_4cfef 11 = .ok (.invokestatic 92, 3) := by decide +kernel
theorem dJ1_indexOf_4cfef_14 : decode cJ1_indexOf_4cfef 14 = .ok (.istore_n 2, 1) := by decide +kernel
theorem dJ1_indexOf_4cfef_15 : decode cJ1_indexOf_4cfef 15 = .ok (.iload_n 3, 1) := by decide +kernel
theorem dJ1_indexOf_4cfef_16 : decode cJ1_indexOf_4cfef 16 = .ok (.aload_n 0, 1) := by decide +kernel
theorem dJ1_indexOf_4cfef_17 : decode cJ1_indexOf_4cfef 17 = .ok (.arraylength, 1) := by decide +kernel
theorem dJ1_indexOf_4cfef_18 : decode cJ1_indexOf_4cfef 18 = .ok (.invokestatic 38, 3) := by decide +kernel
theorem dJ1_indexOf_4cfef_21 : decode cJ1_indexOf_4cfef 21 = .ok (.istore_n 3, 1) := by decide +kernel
theorem dJ1_indexOf_4cfef_22 : decode cJ1_indexOf_4cfef 22 = .ok (.iload_n 2, 1) := by decide +kernel
theorem dJ1_indexOf_4cfef_23 : decode cJ1_indexOf_4cfef 23 = .ok (.iload_n 3, 1) := by decide +kernel
theorem dJ1_indexOf_4cfef_24 : decode cJ1_indexOf_4cfef 24 = .ok (.if_icmp .lt 5, 3) := by decide +kernel
theorem dJ1_indexOf_4cfef_27 : decode cJ1_indexOf_4cfef 27 = .ok (.iconst (-1), 1) := by decide +kernel
theorem dJ1_indexOf_4cfef_28 : decode cJ1_indexOf_4cfef 28 = .ok (.ireturn, 1) := by decide +kernel
theorem dJ1_indexOf_4cfef_29 : decode cJ1_indexOf_4cfef 29 = .ok (.aload_n 0, 1) := by decide +kernel
theorem dJ1_indexOf_4cfef_30 : decode cJ1_indexOf_4cfef 30 = .ok (.iload_n 1, 1) := by decide +kernel
theorem dJ1_indexOf_4cfef_31 : decode cJ1_indexOf_4cfef 31 = .ok (.iload_n 2, 1) := by decide +kernel
theorem dJ1_indexOf_4cfef_32 : decode cJ1_indexOf_4cfef 32 = .ok (.iload_n 3, 1) := by decide +kernel
theorem dJ1_indexOf_4cfef_33 : decode cJ1_indexOf_4cfef 33 = .ok (.invokestatic 95, 3) := by decide +kernel
theorem dJ1_indexOf_4cfef_36 : decode cJ1_indexOf_4cfef 36 = .ok (.ireturn, 1) := by decide +kernel
theorem dJ1_indexOfChar_4cfef_0 : decode cJ1_indexOfChar_4cfef 0 = .ok (.iload_n 1, 1) := by decide +kernel
theorem dJ1_indexOfChar_4cfef_1 : decode cJ1_indexOfChar_4cfef 1 = .ok (.i2b, 1) := by decide +kernel
theorem dJ1_indexOfChar_4cfef_2 : decode cJ1_indexOfChar_4cfef 2 = .ok (.istore 4, 2) := by decide +kernel
theorem dJ1_indexOfChar_4cfef_4 : decode cJ1_indexOfChar_4cfef 4 = .ok (.iload_n 2, 1) := by decide +kernel
theorem dJ1_indexOfChar_4cfef_5 : decode cJ1_indexOfChar_4cfef 5 = .ok (.istore 5, 2) := by decide +kernel
theorem dJ1_indexOfChar_4cfef_7 : decode cJ1_indexOfChar_4cfef 7 = .ok (.iload 5, 2) := by decide +kernel
theorem dJ1_indexOfChar_4cfef_9 : decode cJ1_indexOfChar_4cfef 9 = .ok (.iload_n 3, 1) := by decide +kernel
theorem dJ1_indexOfChar_4cfef_10 : decode cJ1_indexOfChar_4cfef 10 = .ok (.if_icmp .ge 21, 3) := by decide +kernel
theorem dJ1_indexOfChar_4cfef_13 : decode cJ1_indexOfChar_4cfef 13 = .ok (.aload_n 0, 1) := by decide +kernel
theorem dJ1_indexOfChar_4cfef_14 : decode cJ1_indexOfChar_4cfef 14 = .ok (.iload 5, 2) := by decide +kernel
theorem dJ1_indexOfChar_4cfef_16 : decode cJ1_indexOfChar_4cfef 16 = .ok (.baload, 1) := by decide +kernel
theorem dJ1_indexOfChar_4cfef_17 : decode cJ1_indexOfChar_4cfef 17 = .ok (.iload 4, 2) := by decide +kernel
theorem dJ1_indexOfChar_4cfef_19 : decode cJ1_indexOfChar_4cfef 19 = .ok (.if_icmp .ne 6, 3) := by decide +kernel
theorem dJ1_indexOfChar_4cfef_22 : decode cJ1_indexOfChar_4cfef 22 = .ok (.iload 5, 2) := by decide +kernel
theorem dJ1_indexOfChar_4cfef_24 : decode cJ1_indexOfChar_4cfef 24 = .ok (.ireturn, 1) := by decide +kernel
theorem dJ1_indexOfChar_4cfef_25 : decode cJ1_indexOfChar_4cfef 25 = .ok (.iinc 5 1, 3) := by decide +kernel
theorem dJ1_indexOfChar_4cfef_28 : decode cJ1_indexOfChar_4cfef 28 = .ok (.goto (-21), 3) := by decide +kernel
theorem dJ1_indexOfChar_4cfef_31 : decode cJ1_indexOfChar_4cfef 31 = .ok (.iconst (-1), 1) := by decide +kernel
theorem dJ1_indexOfChar_4cfef_32 : decode cJ1_indexOfChar_4cfef 32 = .ok (.ireturn, 1) := by decide +kernel
set_option maxRecDepth 20000 in
theorem ggJ2_getChar_3b067_J2_length_9d52b : GoodIn wsJ2_getChar_3b067 wsJ2_length_9d52b := goodIn_r _ [7] (by decide +kernel) (by decide +kernel)
set_option maxRecDepth 20000 in
theorem gJ2_getChar_3b067_J2_length_9d52b : GoodIn wsJ2_getChar_3b067 (va_wsS RJ2 48 yJ2_length_9d52b wsJ2_length_9d52b) := goodIn_app (goodIn_of _ (by decide +kernel)) ggJ2_getChar_3b067_J2_length_9d52b
theorem dJ2_getChar_3b067_0 : decode cJ2_getChar_3b067 0 = .ok (.getstatic 44, 3) := by decide +kernel
theorem dJ2_getChar_3b067_3 : decode cJ2_getChar_3b067 3 = .ok (.ifCond .ne 25, 3) := by decide +kernel
theorem dJ2_getChar_3b067_6 : decode cJ2_getChar_3b067 6 = .ok (.iload_n 1, 1) := by decide +kernel
theorem dJ2_getChar_3b067_7 : decode cJ2_getChar_3b067 7 = .ok (.ifCond .lt 11, 3) := by decide +kernel
theorem dJ2_getChar_3b067_10 : decode cJ2_getChar_3b067 10 = .ok (.iload_n 1, 1) := by decide +kernel
theorem dJ2_getChar_3b067_11 : decode cJ2_getChar_3b067 11 = .ok (.aload_n 0, 1) := by decide +kernel
theorem dJ2_getChar_3b067_12 : decode cJ2_getChar_3b067 12 = .ok (.invokestatic 48, 3) := by decide +kernel
theorem dJ2_getChar_3b067_15 : decode cJ2_getChar_3b067 15 = .ok (.if_icmp .lt 13, 3) := by decide +kernel
theorem dJ2_getChar_3b067_18 : decode cJ2_getChar_3b067 18 = .ok (.new 52, 3) := by decide +kernel
theorem dJ2_getChar_3b067_21 : decode cJ2_getChar_3b067 21 = .ok (.dup, 1) := by decide +kernel
theorem dJ2_getChar_3b067_22 : decode cJ2_getChar_3b067 22 = .ok (.ldc 54, 2) := by decide +kernel
theorem dJ2_getChar_3b067_24 : decode cJ2_getChar_3b067 24 = .ok (.invokespecial 56, 3) := by decide +kernel
theorem dJ2_getChar_3b067_27 : decode cJ2_getChar_3b067 27 = .ok (.athrow, 1) := by decide +kernel
theorem dJ2_getChar_3b067_28 : decode cJ2_getChar_3b067 28 = .ok (.iload_n 1, 1) := by decide +kernel
theorem dJ2_getChar_3b067_29 : decode cJ2_getChar_3b067 29 = .ok (.iconst 1, 1) := by decide +kernel
theorem dJ2_getChar_3b067_30 : decode cJ2_getChar_3b067 30 = .ok (.ishl, 1) := by decide +kernel
theorem dJ2_getChar_3b067_31 : decode cJ2_getChar_3b067 31 = .ok (.istore_n 1, 1) := by decide +kernel
theorem dJ2_getChar_3b067_32 : decode cJ2_getChar_3b067 32 = .ok (.aload_n 0, 1) := by decide +kernel
theorem dJ2_getChar_3b067_33 : decode cJ2_getChar_3b067 33 = .ok (.iload_n 1, 1) := by decide +kernel
theorem dJ2_getChar_3b067_34 : decode cJ2_getChar_3b067 34 = .ok (.iinc 1 1, 3) := by decide +kernel
theorem dJ2_getChar_3b067_37 : decode cJ2_getChar_3b067 37 = .ok (.baload, 1) := by decide +kernel
theorem dJ2_getChar_3b067_38 : decode cJ2_getChar_3b067 38 = .ok (.sipush 255, 3) := by decide +kernel
theorem dJ2_getChar_3b067_41 : decode cJ2_getChar_3b067 41 = .ok (.iand, 1) := by decide +kernel
theorem dJ2_getChar_3b067_42 : decode cJ2_getChar_3b067 42 = .ok (.getstatic 59, 3) := by decide +kernel
theorem dJ2_getChar_3b067_45 : decode cJ2_getChar_3b067 45 = .ok (.ishl, 1) := by decide +kernel
theorem dJ2_getChar_3b067_46 : decode cJ2_getChar_3b067 46 = .ok (.aload_n 0, 1) := by decide +kernel
theorem dJ2_getChar_3b067_47 : decode cJ2_getChar_3b067 47 = .ok (.iload_n 1, 1) := by decide +kernel
theorem dJ2_getChar_3b067_48 : decode cJ2_getChar_3b067 48 = .ok (.baload, 1) := by decide +kernel
theorem dJ2_getChar_3b067_49 : decode cJ2_getChar_3b067 49 = .ok (.sipush 255, 3) := by decide +kernel
theorem dJ2_getChar_3b067_52 : decode cJ2_getChar_3b067 52 = .ok (.iand, 1) := by decide +kernel
theorem dJ2_getChar_3b067_53 : decode cJ2_getChar_3b067 53 = .ok (.getstatic 63, 3) := by decide +kernel
theorem dJ2_getChar_3b067_56 : decode cJ2_getChar_3b067 56 = .ok (.ishl, 1) := by decide +kernel
theorem dJ2_getChar_3b067_57 : decode cJ2_getChar_3b067 57 = .ok (.ior, 1) := by decide +kernel
theorem dJ2_getChar_3b067_58 : decode cJ2_getChar_3b067 58 = .ok (.i2c, 1) := by decide +kernel
theorem dJ2_getChar_3b067_59 : decode cJ2_getChar_3b067 59 = .ok (.ireturn, 1) := by decide +kernel
theorem dJ2_length_9d52b_0 : decode cJ2_length_9d52b 0 = .ok (.aload_n 0, 1) := by decide +kernel
theorem dJ2_length_9d52b_1 : decode cJ2_length_9d52b 1 = .ok (.arraylength, 1) := by decide +kernel
theorem dJ2_length_9d52b_2 : decode cJ2_length_9d52b 2 = .ok (.iconst 1, 1) := by decide +kernel
theorem dJ2_length_9d52b_3 : decode cJ2_length_9d52b 3 = .ok (.ishr, 1) := by decide +kernel
theorem dJ2_length_9d52b_4 : decode cJ2_length_9d52b 4 = .ok (.ireturn, 1) := by decide +kernel
set_option maxRecDepth 20000 in
theorem ggJ2_indexOf_4cfef_J2_indexOfChar_4cfef : GoodIn wsJ2_indexOf_4cfef wsJ2_indexOfChar_4cfef := goodIn_r _ [12, 13, 14, 11, 15, 16, 17, 18, 19, 20, 21, 22, 23, 24, 25, 26, 27, 28, 29, 30, 31, 32, 33, 34, 35, 36] (by decide +kernel) (by decide +kernel)
set_option maxRecDepth 20000 in
theorem gJ2_indexOf_4cfef_J2_indexOfChar_4cfef : GoodIn wsJ2_indexOf_4cfef (va_wsS RJ2 228 yJ2_indexOfChar_4cfef wsJ2_indexOfChar_4cfef) := goodIn_app (goodIn_of _ (by decide +kernel)) ggJ2_indexOf_4cfef_J2_indexOfChar_4cfef
set_option maxRecDepth 20000 in
theorem ggJ2_indexOf_4cfef_J2_indexOfSupplementary_4cfef : GoodIn wsJ2_indexOf_4cfef wsJ2_indexOfSupplementary_4cfef := goodIn_r _ [39, 40, 41, 42, 43, 44, 45, 46, 47, 48, 49, 50, 51, 13, 14, 11, 15, 16, 17, 18, 19, 20, 21, 22, 23, 24, 25, 26, 27, 31, 32, 33, 34, 35, 36] (by decide +kernel) (by decide +kernel)
set_option maxRecDepth 20000 in
theorem gJ2_indexOf_4cfef_J2_indexOfSupplementary_4cfef : GoodIn wsJ2_indexOf_4cfef (va_wsS RJ2 232 yJ2_indexOfSupplementary_4cfef wsJ2_indexOfSupplementary_4cfef) := goodIn_app (goodIn_of _ (by decide +kernel)) ggJ2_indexOf_4cfef_J2_indexOfSupplementary_4cfef
theorem dJ2_indexOf_4cfef_0 : decode cJ2_indexOf_4cfef 0 = .ok (.iload_n 2, 1) := by decide +kernel
theorem dJ2_indexOf_4cfef_1 : decode cJ2_indexOf_4cfef 1 = .ok (.iconst 0, 1) := by decide +kernel
theorem dJ2_indexOf_4cfef_2 : decode cJ2_indexOf_4cfef 2 = .ok (.invokestatic 224, 3) := by decide +kernel
theorem dJ2_indexOf_4cfef_5 : decode cJ2_indexOf_4cfef 5 = .ok (.istore_n 2, 1) := by decide +kernel
theorem dJ2_indexOf_4cfef_6 : decode cJ2_indexOf_4cfef 6 = .ok (.iload_n 3, 1) := by decide +kernel
theorem dJ2_indexOf_4cfef_7 : decode cJ2_indexOf_4cfef 7 = .ok (.aload_n 0, 1) := by decide +kernel
theorem dJ2_indexOf_4cfef_8 : decode cJ2_indexOf_4cfef 8 = .ok (.arraylength, 1) := by decide +kernel
theorem dJ2_indexOf_4cfef_9 : decode cJ2_indexOf_4cfef 9 = .ok (.iconst 1, 1) := by decide +kernel
theorem dJ2_indexOf_4cfef_10 : decode cJ2_indexOf_4cfef 10 = .ok (.ishr, 1) := by decide +kernel
theorem dJ2_indexOf_4cfef_11 : decode cJ2_indexOf_4cfef 11 = .ok (.invokestatic 183, 3) := by decide +kernel
theorem dJ2_indexOf_4cfef_14 : decode cJ2_indexOf_4cfef 14 = .ok (.istore_n 3, 1) := by decide +kernel
theorem dJ2_indexOf_4cfef_15 : decode cJ2_indexOf_4cfef 15 = .ok (.iload_n 2, 1) := by decide +kernel
theorem dJ2_indexOf_4cfef_16 : decode cJ2_indexOf_4cfef 16 = .ok (.iload_n 3, 1) := by decide +kernel
theorem dJ2_indexOf_4cfef_17 : decode cJ2_indexOf_4cfef 17 = .ok (.if_icmp .lt 5, 3) := by decide +kernel
theorem dJ2_indexOf_4cfef_20 : decode cJ2_indexOf_4cfef 20 = .ok (.iconst (-1), 1) := by decide +kernel
theorem dJ2_indexOf_4cfef_21 : decode cJ2_indexOf_4cfef 21 = .ok (.ireturn, 1) := by decide +kernel
theorem dJ2_indexOf_4cfef_22 : decode cJ2_indexOf_4cfef 22 = .ok (.iload_n 1, 1) := by decide +kernel
theorem dJ2_indexOf_4cfef_23 : decode cJ2_indexOf_4cfef 23 = .ok (.ldc 227, 2) := by decide +kernel
theorem dJ2_indexOf_4cfef_25 : decode cJ2_indexOf_4cfef 25 = .ok (.if_icmp .ge 11, 3) := by decide +kernel
theorem dJ2_indexOf_4cfef_28 : decode cJ2_indexOf_4cfef 28 = .ok (.aload_n 0, 1) := by decide +kernel
theorem dJ2_indexOf_4cfef_29 : decode cJ2_indexOf_4cfef 29 = .ok (.iload_n 1, 1) := by decide +kernel
theorem dJ2_indexOf_4cfef_30 : decode cJ2_indexOf_4cfef 30 = .ok (.iload_n 2, 1) := by decide +kernel
theorem dJ2_indexOf_4cfef_31 : decode cJ2_indexOf_4cfef 31 = .ok (.iload_n 3, 1) := by decide +kernel
theorem dJ2_indexOf_4cfef_32 : decode cJ2_indexOf_4cfef 32 = .ok (.invokestatic 228, 3) := by decide +kernel
theorem dJ2_indexOf_4cfef_35 : decode cJ2_indexOf_4cfef 35 = .ok (.ireturn, 1) := by decide +kernel
theorem dJ2_indexOf_4cfef_36 : decode cJ2_indexOf_4cfef 36 = .ok (.aload_n 0, 1) := by decide +kernel
theorem dJ2_indexOf_4cfef_37 : decode cJ2_indexOf_4cfef 37 = .ok (.iload_n 1, 1) := by decide +kernel
theorem dJ2_indexOf_4cfef_38 : decode cJ2_indexOf_4cfef 38 = .ok (.iload_n 2, 1) := by decide +kernel
theorem dJ2_indexOf_4cfef_39 : decode cJ2_indexOf_4cfef 39 = .ok (.iload_n 3, 1) := by decide +kernel
theorem dJ2_indexOf_4cfef_40 : decode cJ2_indexOf_4cfef 40 = .ok (.invokestatic 232, 3) := by decide +kernel
theorem dJ2_indexOf_4cfef_43 : decode cJ2_indexOf_4cfef 43 = .ok (.ireturn, 1) := by decide +kernel
set_option maxRecDepth 20000 in
theorem ggJ2_indexOfChar_4cfef_J2_checkBoundsBeginEnd_d044e : GoodIn wsJ2_indexOfChar_4cfef wsJ2_checkBoundsBeginEnd_d044e := goodIn_r _ [4, 5, 6, 3, 7, 8, 9, 10, 11, 12, 13, 14, 15, 16] (by decide +kernel) (by decide +kernel)
set_option maxRecDepth 20000 in
theorem gJ2_indexOfChar_4cfef_J2_checkBoundsBeginEnd_d044e : GoodIn wsJ2_indexOfChar_4cfef (va_wsS RJ2 96 yJ2_checkBoundsBeginEnd_d044e wsJ2_checkBoundsBeginEnd_d044e) := goodIn_app (goodIn_of _ (by decide +kernel)) ggJ2_indexOfChar_4cfef_J2_checkBoundsBeginEnd_d044e
set_option maxRecDepth 20000 in
theorem ggJ2_indexOfChar_4cfef_J2_indexOfCharUnsafe_4cfef : GoodIn wsJ2_indexOfChar_4cfef wsJ2_indexOfCharUnsafe_4cfef := goodIn_r _ [19, 20, 21, 3, 22, 23, 24, 25, 5, 6, 7] (by decide +kernel) (by decide +kernel)
set_option maxRecDepth 20000 in
theorem gJ2_indexOfChar_4cfef_J2_indexOfCharUnsafe_4cfef : GoodIn wsJ2_indexOfChar_4cfef (va_wsS RJ2 244 yJ2_indexOfCharUnsafe_4cfef wsJ2_indexOfCharUnsafe_4cfef) := goodIn_app (goodIn_of _ (by decide +kernel)) ggJ2_indexOfChar_4cfef_J2_indexOfCharUnsafe_4cfef
theorem dJ2_indexOfChar_4cfef_0 : decode cJ2_indexOfChar_4cfef 0 = .ok (.iload_n 2, 1) := by decide +kernel
theorem dJ2_indexOfChar_4cfef_1 : decode cJ2_indexOfChar_4cfef 1 = .ok (.iload_n 3, 1) := by decide +kernel
theorem dJ2_indexOfChar_4cfef_2 : decode cJ2_indexOfChar_4cfef 2 = .ok (.aload_n 0, 1) := by decide +kernel
theorem dJ2_indexOfChar_4cfef_3 : decode cJ2_indexOfChar_4cfef 3 = .ok (.invokestatic 96, 3) := by decide +kernel
theorem dJ2_indexOfChar_4cfef_6 : decode cJ2_indexOfChar_4cfef 6 = .ok (.aload_n 0, 1) := by decide +kernel
theorem dJ2_indexOfChar_4cfef_7 : decode cJ2_indexOfChar_4cfef 7 = .ok (.iload_n 1, 1) := by decide +kernel
theorem dJ2_indexOfChar_4cfef_8 : decode cJ2_indexOfChar_4cfef 8 = .ok (.iload_n 2, 1) := by decide +kernel
theorem dJ2_indexOfChar_4cfef_9 : decode cJ2_indexOfChar_4cfef 9 = .ok (.iload_n 3, 1) := by decide +kernel
theorem dJ2_indexOfChar_4cfef_10 : decode cJ2_indexOfChar_4cfef 10 = .ok (.invokestatic 244, 3) := by decide +kernel
theorem dJ2_indexOfChar_4cfef_13 : decode cJ2_indexOfChar_4cfef 13 = .ok (.ireturn, 1) := by decide +kernel
set_option maxRecDepth 20000 in
theorem ggJ2_indexOfCharUnsafe_4cfef_J2_getChar_3b067 : GoodIn wsJ2_indexOfCharUnsafe_4cfef wsJ2_getChar_3b067 := goodIn_r _ [4, 5, 6, 7, 8, 9, 3, 10] (by decide +kernel) (by decide +kernel)
set_option maxRecDepth 20000 in
theorem gJ2_indexOfCharUnsafe_4cfef_J2_getChar_3b067 : GoodIn wsJ2_indexOfCharUnsafe_4cfef (va_wsS RJ2 71 yJ2_getChar_3b067 wsJ2_getChar_3b067) := goodIn_app (goodIn_of _ (by decide +kernel)) ggJ2_indexOfCharUnsafe_4cfef_J2_getChar_3b067
theorem dJ2_indexOfCharUnsafe_4cfef_0 : decode cJ2_indexOfCharUnsafe_4cfef 0 = .ok (.iload_n 2, 1) := by decide +kernel
theorem dJ2_indexOfCharUnsafe_4cfef_1 : decode cJ2_indexOfCharUnsafe_4cfef 1 = .ok (.istore 4, 2) := by decide +kernel
theorem dJ2_indexOfCharUnsafe_4cfef_3 : decode cJ2_indexOfCharUnsafe_4cfef 3 = .ok (.iload 4, 2) := by decide +kernel
theorem dJ2_indexOfCharUnsafe_4cfef_5 : decode cJ2_indexOfCharUnsafe_4cfef 5 = .ok (.iload_n 3, 1) := by decide +kernel
theorem dJ2_indexOfCharUnsafe_4cfef_6 : decode cJ2_indexOfCharUnsafe_4cfef 6 = .ok (.if_icmp .ge 22, 3) := by decide +kernel
theorem dJ2_indexOfCharUnsafe_4cfef_9 : decode cJ2_indexOfCharUnsafe_4cfef 9 = .ok (.aload_n 0, 1) := by decide +kernel
theorem dJ2_indexOfCharUnsafe_4cfef_10 : decode cJ2_indexOfCharUnsafe_4cfef 10 = .ok (.iload 4, 2) := by decide +kernel
theorem dJ2_indexOfCharUnsafe_4cfef_12 : decode cJ2_indexOfCharUnsafe_4cfef 12 = .ok (.invokestatic 71, 3) := by decide +kernel
theorem dJ2_indexOfCharUnsafe_4cfef_15 : decode cJ2_indexOfCharUnsafe_4cfef 15 = .ok (.iload_n 1, 1) := by decide +kernel
theorem dJ2_indexOfCharUnsafe_4cfef_16 : decode cJ2_indexOfCharUnsafe_4cfef 16 = .ok (.if_icmp .ne 6, 3) := by decide +kernel
theorem dJ2_indexOfCharUnsafe_4cfef_19 : decode cJ2_indexOfCharUnsafe_4cfef 19 = .ok (.iload 4, 2) := by decide +kernel
theorem dJ2_indexOfCharUnsafe_4cfef_21 : decode cJ2_indexOfCharUnsafe_4cfef 21 = .ok (.ireturn, 1) := by decide +kernel
theorem dJ2_indexOfCharUnsafe_4cfef_22 : decode cJ2_indexOfCharUnsafe_4cfef 22 = .ok (.iinc 4 1, 3) := by decide +kernel
theorem dJ2_indexOfCharUnsafe_4cfef_25 : decode cJ2_indexOfCharUnsafe_4cfef 25 = .ok (.goto (-22), 3) := by decide +kernel
theorem dJ2_indexOfCharUnsafe_4cfef_28 : decode cJ2_indexOfCharUnsafe_4cfef 28 = .ok (.iconst (-1), 1) := by decide +kernel
theorem dJ2_indexOfCharUnsafe_4cfef_29 : decode cJ2_indexOfCharUnsafe_4cfef 29 = .ok (.ireturn, 1) := by decide +kernel
set_option maxRecDepth 20000 in
theorem ggJ2_indexOfSupplementary_4cfef_J11_isValidCodePoint_9a6ad : GoodIn wsJ2_indexOfSupplementary_4cfef wsJ11_isValidCodePoint_9a6ad := goodIn_r _ [4] (by decide +kernel) (by decide +kernel)
set_option maxRecDepth 20000 in
theorem gJ2_indexOfSupplementary_4cfef_J11_isValidCodePoint_9a6ad : GoodIn wsJ2_indexOfSupplementary_4cfef (va_wsS RJ2 164 yJ11_isValidCodePoint_9a6ad wsJ11_isValidCodePoint_9a6ad) := goodIn_app (goodIn_of _ (by decide +kernel)) ggJ2_indexOfSupplementary_4cfef_J11_isValidCodePoint_9a6ad
set_option maxRecDepth 20000 in
theorem ggJ2_indexOfSupplementary_4cfef_J11_highSurrogate_5068e : GoodIn wsJ2_indexOfSupplementary_4cfef wsJ11_highSurrogate_5068e := goodIn_r _ [7, 8] (by decide +kernel) (by decide +kernel)
set_option maxRecDepth 20000 in
theorem gJ2_indexOfSupplementary_4cfef_J11_highSurrogate_5068e : GoodIn wsJ2_indexOfSupplementary_4cfef (va_wsS RJ2 157 yJ11_highSurrogate_5068e wsJ11_highSurrogate_5068e) := goodIn_app (goodIn_of _ (by decide +kernel)) ggJ2_indexOfSupplementary_4cfef_J11_highSurrogate_5068e
set_option maxRecDepth 20000 in
theorem ggJ2_indexOfSupplementary_4cfef_J11_lowSurrogate_5068e : GoodIn wsJ2_indexOfSupplementary_4cfef wsJ11_lowSurrogate_5068e := goodIn_r _ [11, 12] (by decide +kernel) (by decide +kernel)
set_option maxRecDepth 20000 in
theorem gJ2_indexOfSupplementary_4cfef_J11_lowSurrogate_5068e : GoodIn wsJ2_indexOfSupplementary_4cfef (va_wsS RJ2 161 yJ11_lowSurrogate_5068e wsJ11_lowSurrogate_5068e) := goodIn_app (goodIn_of _ (by decide +kernel)) ggJ2_indexOfSupplementary_4cfef_J11_lowSurrogate_5068e
set_option maxRecDepth 20000 in
theorem ggJ2_indexOfSupplementary_4cfef_J2_checkBoundsBeginEnd_d044e : GoodIn wsJ2_indexOfSupplementary_4cfef wsJ2_checkBoundsBeginEnd_d044e := goodIn_r _ [16, 17, 18, 15, 19, 20, 21, 22, 23, 24, 25, 26, 27, 28] (by decide +kernel) (by decide +kernel)
set_option maxRecDepth 20000 in
theorem gJ2_indexOfSupplementary_4cfef_J2_checkBoundsBeginEnd_d044e : GoodIn wsJ2_indexOfSupplementary_4cfef (va_wsS RJ2 96 yJ2_checkBoundsBeginEnd_d044e wsJ2_checkBoundsBeginEnd_d044e) := goodIn_app (goodIn_of _ (by decide +kernel)) ggJ2_indexOfSupplementary_4cfef_J2_checkBoundsBeginEnd_d044e
set_option maxRecDepth 20000 in
theorem ggJ2_indexOfSupplementary_4cfef_J2_getChar_3b067 : GoodIn wsJ2_indexOfSupplementary_4cfef wsJ2_getChar_3b067 := goodIn_r _ [31, 32, 33, 34, 17, 18, 15, 19] (by decide +kernel) (by decide +kernel)
set_option maxRecDepth 20000 in
theorem gJ2_indexOfSupplementary_4cfef_J2_getChar_3b067 : GoodIn wsJ2_indexOfSupplementary_4cfef (va_wsS RJ2 71 yJ2_getChar_3b067 wsJ2_getChar_3b067) := goodIn_app (goodIn_of _ (by decide +kernel)) ggJ2_indexOfSupplementary_4cfef_J2_getChar_3b067
theorem dJ2_indexOfSupplementary_4cfef_0 : decode cJ2_indexOfSupplementary_4cfef 0 = .ok (.iload_n 1, 1) := by decide +kernel
theorem dJ2_indexOfSupplementary_4cfef_1 : decode cJ2_indexOfSupplementary_4cfef 1 = .ok (.invokestatic 164, 3) := by decide +kernel
theorem dJ2_indexOfSupplementary_4cfef_4 : decode cJ2_indexOfSupplementary_4cfef 4 = .ok (.ifCond .eq 65, 3) := by decide +kernel
theorem dJ2_indexOfSupplementary_4cfef_7 : decode cJ2_indexOfSupplementary_4cfef 7 = .ok (.iload_n 1, 1) := by decide +kernel
theorem dJ2_indexOfSupplementary_4cfef_8 : decode cJ2_indexOfSupplementary_4cfef 8 = .ok (.invokestatic 157, 3) := by decide +kernel
theorem dJ2_indexOfSupplementary_4cfef_11 : decode cJ2_indexOfSupplementary_4cfef 11 = .ok (.istore 4, 2) := by decide +kernel
theorem dJ2_indexOfSupplementary_4cfef_13 : decode cJ2_indexOfSupplementary_4cfef 13 = .ok (.iload_n 1, 1) := by decide +kernel
theorem dJ2_indexOfSupplementary_4cfef_14 : decode cJ2_indexOfSupplementary_4cfef 14 = .ok (.invokestatic 161, 3) := by decide +kernel
theorem dJ2_indexOfSupplementary_4cfef_17 : decode cJ2_indexOfSupplementary_4cfef 17 = .ok (.istore 5, 2) := by decide +kernel
theorem dJ2_indexOfSupplementary_4cfef_19 : decode cJ2_indexOfSupplementary_4cfef 19 = .ok (.iload_n 2, 1) := by decide +kernel
theorem dJ2_indexOfSupplementary_4cfef_20 : decode cJ2_indexOfSupplementary_4cfef 20 = .ok (.iload_n 3, 1) := by decide +kernel
theorem dJ2_indexOfSupplementary_4cfef_21 : decode cJ2_indexOfSupplementary_4cfef 21 = .ok (.aload_n 0, 1) := by decide +kernel
theorem dJ2_indexOfSupplementary_4cfef_22 : decode cJ2_indexOfSupplementary_4cfef 22 = .ok (.invokestatic 96, 3) := by decide +kernel
theorem dJ2_indexOfSupplementary_4cfef_25 : decode cJ2_indexOfSupplementary_4cfef 25 = .ok (.iload_n 2, 1) := by decide +kernel
theorem dJ2_indexOfSupplementary_4cfef_26 : decode cJ2_indexOfSupplementary_4cfef 26 = .ok (.istore 6, 2) := by decide +kernel
theorem dJ2_indexOfSupplementary_4cfef_28 : decode cJ2_indexOfSupplementary_4cfef 28 = .ok (.iload 6, 2) := by decide +kernel
theorem dJ2_indexOfSupplementary_4cfef_30 : decode cJ2_indexOfSupplementary_4cfef 30 = .ok (.iload_n 3, 1) := by decide +kernel
theorem dJ2_indexOfSupplementary_4cfef_31 : decode cJ2_indexOfSupplementary_4cfef 31 = .ok (.iconst 1, 1) := by decide +kernel
theorem dJ2_indexOfSupplementary_4cfef_32 : decode cJ2_indexOfSupplementary_4cfef 32 = .ok (.isub, 1) := by decide +kernel
theorem dJ2_indexOfSupplementary_4cfef_33 : decode cJ2_indexOfSupplementary_4cfef 33 = .ok (.if_icmp .ge 36, 3) := by decide +kernel
theorem dJ2_indexOfSupplementary_4cfef_36 : decode cJ2_indexOfSupplementary_4cfef 36 = .ok (.aload_n 0, 1) := by decide +kernel
theorem dJ2_indexOfSupplementary_4cfef_37 : decode cJ2_indexOfSupplementary_4cfef 37 = .ok (.iload 6, 2) := by decide +kernel
theorem dJ2_indexOfSupplementary_4cfef_39 : decode cJ2_indexOfSupplementary_4cfef 39 = .ok (.invokestatic 71, 3) := by decide +kernel
theorem dJ2_indexOfSupplementary_4cfef_42 : decode cJ2_indexOfSupplementary_4cfef 42 = .ok (.iload 4, 2) := by decide +kernel
theorem dJ2_indexOfSupplementary_4cfef_44 : decode cJ2_indexOfSupplementary_4cfef 44 = .ok (.if_icmp .ne 19, 3) := by decide +kernel
theorem dJ2_indexOfSupplementary_4cfef_47 : decode cJ2_indexOfSupplementary_4cfef 47 = .ok (.aload_n 0, 1) := by decide +kernel
theorem dJ2_indexOfSupplementary_4cfef_48 : decode cJ2_indexOfSupplementary_4cfef 48 = .ok (.iload 6, 2) := by decide +kernel
theorem dJ2_indexOfSupplementary_4cfef_50 : decode cJ2_indexOfSupplementary_4cfef 50 = .ok (.iconst 1, 1) := by decide +kernel
theorem dJ2_indexOfSupplementary_4cfef_51 : decode cJ2_indexOfSupplementary_4cfef 51 = .ok (.iadd, 1) := by decide +kernel
theorem dJ2_indexOfSupplementary_4cfef_52 : decode cJ2_indexOfSupplementary_4cfef 52 = .ok (.invokestatic 71, 3) := by decide +kernel
theorem dJ2_indexOfSupplementary_4cfef_55 : decode cJ2_indexOfSupplementary_4cfef 55 = .ok (.iload 5, 2) := by decide +kernel
theorem dJ2_indexOfSupplementary_4cfef_57 : decode cJ2_indexOfSupplementary_4cfef 57 = .ok (.if_icmp .ne 6, 3) := by decide +kernel
theorem dJ2_indexOfSupplementary_4cfef_60 : decode cJ2_indexOfSupplementary_4cfef 60 = .ok (.iload 6, 2) := by decide +kernel
theorem dJ2_indexOfSupplementary_4cfef_62 : decode cJ2_indexOfSupplementary_4cfef 62 = .ok (.ireturn, 1) := by decide +kernel
theorem dJ2_indexOfSupplementary_4cfef_63 : decode cJ2_indexOfSupplementary_4cfef 63 = .ok (.iinc 6 1, 3) := by decide +kernel
theorem dJ2_indexOfSupplementary_4cfef_66 : decode cJ2_indexOfSupplementary_4cfef 66 = .ok (.goto (-38), 3) := by decide +kernel
theorem dJ2_indexOfSupplementary_4cfef_69 : decode cJ2_indexOfSupplementary_4cfef 69 = .ok (.iconst (-1), 1) := by decide +kernel
theorem dJ2_indexOfSupplementary_4cfef_70 : decode cJ2_indexOfSupplementary_4cfef 70 = .ok (.ireturn, 1) := by decide +kernel
set_option maxRecDepth 20000 in
theorem ggJ2_checkBoundsBeginEnd_d044e_J2_length_9d52b : GoodIn wsJ2_checkBoundsBeginEnd_d044e wsJ2_length_9d52b := goodIn_r _ [4] (by decide +kernel) (by decide +kernel)
set_option maxRecDepth 20000 in
theorem gJ2_checkBoundsBeginEnd_d044e_J2_length_9d52b : GoodIn wsJ2_checkBoundsBeginEnd_d044e (va_wsS RJ2 48 yJ2_length_9d52b wsJ2_length_9d52b) := goodIn_app (goodIn_of _ (by decide +kernel)) ggJ2_checkBoundsBeginEnd_d044e_J2_length_9d52b
set_option maxRecDepth 20000 in
theorem ggJ2_checkBoundsBeginEnd_d044e_J0_checkBoundsBeginEnd_23922 : GoodIn wsJ2_checkBoundsBeginEnd_d044e wsJ0_checkBoundsBeginEnd_23922 := goodIn_r _ [8, 9, 10, 11, 12, 13] (by decide +kernel) (by decide +kernel)
set_option maxRecDepth 20000 in
theorem gJ2_checkBoundsBeginEnd_d044e_J0_checkBoundsBeginEnd_23922 : GoodIn wsJ2_checkBoundsBeginEnd_d044e (va_wsS RJ2 241 yJ0_checkBoundsBeginEnd_23922 wsJ0_checkBoundsBeginEnd_23922) := goodIn_app (goodIn_of _ (by decide +kernel)) ggJ2_checkBoundsBeginEnd_d044e_J0_checkBoundsBeginEnd_23922
theorem dJ2_checkBoundsBeginEnd_d044e_0 : decode cJ2_checkBoundsBeginEnd_d044e 0 = .ok (.iload_n 0, 1) := by decide +kernel
theorem dJ2_checkBoundsBeginEnd_d044e_1 : decode cJ2_checkBoundsBeginEnd_d044e 1 = .ok (.iload_n 1, 1) := by decide +kernel
theorem dJ2_checkBoundsBeginEnd_d044e_2 : decode cJ2_checkBoundsBeginEnd_d044e 2 = .ok (.aload_n 2, 1) := by decide +kernel
theorem dJ2_checkBoundsBeginEnd_d044e_3 : decode cJ2_checkBoundsBeginEnd_d044e 3 = .ok (.invokestatic 48, 3) := by decide +kernel
theorem dJ2_checkBoundsBeginEnd_d044e_6 : decode cJ2_checkBoundsBeginEnd_d044e 6 = .ok (.invokestatic 241, 3) := by decide +kernel
theorem dJ2_checkBoundsBeginEnd_d044e_9 : decode cJ2_checkBoundsBeginEnd_d044e 9 = .ok (.return_, 1) := by decide +kernel
theorem dJ3_checkFromToIndex_8c36e_0 : decode cJ3_checkFromToIndex_8c36e 0 = .ok (.iload_n 0, 1) := by decide +kernel
theorem dJ3_checkFromToIndex_8c36e_1 : decode cJ3_checkFromToIndex_8c36e 1 = .ok (.ifCond .lt 13, 3) := by decide +kernel
theorem dJ3_checkFromToIndex_8c36e_4 : decode cJ3_checkFromToIndex_8c36e 4 = .ok (.iload_n 0, 1) := by decide +kernel
theorem dJ3_checkFromToIndex_8c36e_5 : decode cJ3_checkFromToIndex_8c36e 5 = .ok (.iload_n 1, 1) := by decide +kernel
theorem dJ3_checkFromToIndex_8c36e_6 : decode cJ3_checkFromToIndex_8c36e 6 = .ok (.if_icmp .gt 8, 3) := by decide +kernel
theorem dJ3_checkFromToIndex_8c36e_9 : decode cJ3_checkFromToIndex_8c36e 9 = .ok (.iload_n 1, 1) := by decide +kernel
theorem dJ3_checkFromToIndex_8c36e_10 : decode cJ3_checkFromToIndex_8c36e 10 = .ok (.iload_n 2, 1) := by decide +kernel
theorem dJ3_checkFromToIndex_8c36e_11 : decode cJ3_checkFromToIndex_8c36e 11 = .ok (.if_icmp .le 11, 3) := by decide +kernel
theorem dJ3_checkFromToIndex_8c36e_14 : decode cJ3_checkFromToIndex_8c36e 14 = .ok (.aload_n 3, 1) := by decide +kernel
theorem dJ3_checkFromToIndex_8c36e_15 : decode cJ3_checkFromToIndex_8c36e 15 = .ok (.iload_n 0, 1) := by decide +kernel
theorem dJ3_checkFromToIndex_8c36e_16 : decode cJ3_checkFromToIndex_8c36e 16 = .ok (.iload_n 1, 1) := by decide +kernel
theorem dJ3_checkFromToIndex_8c36e_17 : decode cJ3_checkFromToIndex_8c36e 17 = .ok (.iload_n 2, 1) := by decide +kernel
theorem dJ3_checkFromToIndex_8c36e_18 : decode cJ3_checkFromToIndex_8c36e 18 = .ok (.invokestatic 99, 3) := by decide +kernel
theorem dJ3_checkFromToIndex_8c36e_21 : decode cJ3_checkFromToIndex_8c36e 21 = .ok (.athrow, 1) := by decide +kernel
theorem dJ3_checkFromToIndex_8c36e_22 : decode cJ3_checkFromToIndex_8c36e 22 = .ok (.iload_n 0, 1) := by decide +kernel
theorem dJ3_checkFromToIndex_8c36e_23 : decode cJ3_checkFromToIndex_8c36e 23 = .ok (.ireturn, 1) := by decide +kernel
