theorem dX5_misses_1 : decode cX5_misses 1 = .ok (.iload_n 1, 1) := by decide +kernel
theorem dX5_misses_2 : decode cX5_misses 2 = .ok (.invokevirtual 122, 3) := by decide +kernel
theorem dX5_misses_5 : decode cX5_misses 5 = .ok (.ifCond .eq 11, 3) := by decide +kernel
theorem dX5_misses_8 : decode cX5_misses 8 = .ok (.aload_n 0, 1) := by decide +kernel
theorem dX5_misses_9 : decode cX5_misses 9 = .ok (.iload_n 2, 1) := by decide +kernel
theorem dX5_misses_10 : decode cX5_misses 10 = .ok (.invokevirtual 115, 3) := by decide +kernel
theorem dX5_misses_13 : decode cX5_misses 13 = .ok (.ifCond .ne 9, 3) := by decide +kernel
theorem dX5_misses_16 : decode cX5_misses 16 = .ok (.aload_n 0, 1) := by decide +kernel
theorem dX5_misses_17 : decode cX5_misses 17 = .ok (.iconst (-1), 1) := by decide +kernel
theorem dX5_misses_18 : decode cX5_misses 18 = .ok (.invokevirtual 35, 3) := by decide +kernel
theorem dX5_misses_21 : decode cX5_misses 21 = .ok (.ireturn, 1) := by decide +kernel
theorem dX5_misses_22 : decode cX5_misses 22 = .ok (.aload_n 0, 1) := by decide +kernel
theorem dX5_misses_23 : decode cX5_misses 23 = .ok (.getfield 9, 3) := by decide +kernel
theorem dX5_misses_26 : decode cX5_misses 26 = .ok (.iload_n 1, 1) := by decide +kernel
theorem dX5_misses_27 : decode cX5_misses 27 = .ok (.iconst 2, 1) := by decide +kernel
theorem dX5_misses_28 : decode cX5_misses 28 = .ok (.invokestatic 48, 3) := by decide +kernel
theorem dX5_misses_31 : decode cX5_misses 31 = .ok (.iaload, 1) := by decide +kernel
theorem dX5_misses_32 : decode cX5_misses 32 = .ok (.istore_n 3, 1) := by decide +kernel
theorem dX5_misses_33 : decode cX5_misses 33 = .ok (.aload_n 0, 1) := by decide +kernel
theorem dX5_misses_34 : decode cX5_misses 34 = .ok (.getfield 9, 3) := by decide +kernel
theorem dX5_misses_37 : decode cX5_misses 37 = .ok (.iload_n 1, 1) := by decide +kernel
theorem dX5_misses_38 : decode cX5_misses 38 = .ok (.iconst 2, 1) := by decide +kernel
theorem dX5_misses_39 : decode cX5_misses 39 = .ok (.invokestatic 48, 3) := by decide +kernel
theorem dX5_misses_42 : decode cX5_misses 42 = .ok (.iload_n 2, 1) := by decide +kernel
theorem dX5_misses_43 : decode cX5_misses 43 = .ok (.iastore, 1) := by decide +kernel
theorem dX5_misses_44 : decode cX5_misses 44 = .ok (.iload_n 3, 1) := by decide +kernel
theorem dX5_misses_45 : decode cX5_misses 45 = .ok (.ireturn, 1) := by decide +kernel
theorem dX5_wrongBy_0 : decode cX5_wrongBy 0 = .ok (.iload_n 0, 1) := by decide +kernel
theorem dX5_wrongBy_1 : decode cX5_wrongBy 1 = .ok (.iload_n 1, 1) := by decide +kernel
theorem dX5_wrongBy_2 : decode cX5_wrongBy 2 = .ok (.if_icmp .ge 8, 3) := by decide +kernel
theorem dX5_wrongBy_5 : decode cX5_wrongBy 5 = .ok (.bipush (-4), 2) := by decide +kernel
theorem dX5_wrongBy_7 : decode cX5_wrongBy 7 = .ok (.goto 14, 3) := by decide +kernel
theorem dX5_wrongBy_10 : decode cX5_wrongBy 10 = .ok (.iload_n 0, 1) := by decide +kernel
theorem dX5_wrongBy_11 : decode cX5_wrongBy 11 = .ok (.iload_n 2, 1) := by decide +kernel
theorem dX5_wrongBy_12 : decode cX5_wrongBy 12 = .ok (.if_icmp .le 8, 3) := by decide +kernel
theorem dX5_wrongBy_15 : decode cX5_wrongBy 15 = .ok (.bipush (-6), 2) := by decide +kernel
theorem dX5_wrongBy_17 : decode cX5_wrongBy 17 = .ok (.goto 4, 3) := by decide +kernel
theorem dX5_wrongBy_20 : decode cX5_wrongBy 20 = .ok (.iconst 0, 1) := by decide +kernel
theorem dX5_wrongBy_21 : decode cX5_wrongBy 21 = .ok (.ireturn, 1) := by decide +kernel
set_option maxRecDepth 20000 in
theorem ggX5_turn_X5_isHand : GoodIn wsX5_turn wsX5_isHand := goodIn_r _ [6, 1, 7, 8, 5, 9, 21, 22, 23, 24, 25, 26, 27, 28, 29, 30, 31, 32, 33] (by decide +kernel) (by decide +kernel)
set_option maxRecDepth 20000 in
theorem gX5_turn_X5_isHand : GoodIn wsX5_turn (wsV RX5 122 RX5 yX5_isHand wsX5_isHand) := goodIn_app (goodIn_of _ (by decide +kernel)) ggX5_turn_X5_isHand
set_option maxRecDepth 20000 in
theorem ggX5_turn_X5_isIn : GoodIn wsX5_turn wsX5_isIn := goodIn_r _ [9] (by decide +kernel) (by decide +kernel)
set_option maxRecDepth 20000 in
theorem gX5_turn_X5_isIn : GoodIn wsX5_turn (va_wsS RX5 41 yX5_isIn wsX5_isIn) := goodIn_app (goodIn_of _ (by decide +kernel)) ggX5_turn_X5_isIn
set_option maxRecDepth 20000 in
theorem ggX5_turn_X5_wrongBy : GoodIn wsX5_turn wsX5_wrongBy := goodIn_r _ [12] (by decide +kernel) (by decide +kernel)
set_option maxRecDepth 20000 in
theorem gX5_turn_X5_wrongBy : GoodIn wsX5_turn (va_wsS RX5 145 yX5_wrongBy wsX5_wrongBy) := goodIn_app (goodIn_of _ (by decide +kernel)) ggX5_turn_X5_wrongBy
set_option maxRecDepth 20000 in
theorem ggX5_turn_X5_no : GoodIn wsX5_turn wsX5_no := goodIn_r _ [16, 17, 21, 22, 23, 24, 25, 26, 27, 28, 29, 30, 31, 32, 33] (by decide +kernel) (by decide +kernel)
set_option maxRecDepth 20000 in
theorem gX5_turn_X5_no : GoodIn wsX5_turn (wsV RX5 35 RX5 yX5_no wsX5_no) := goodIn_app (goodIn_of _ (by decide +kernel)) ggX5_turn_X5_no
set_option maxRecDepth 20000 in
theorem ggX5_turn_X5_of : GoodIn wsX5_turn wsX5_of := goodIn_r _ [20] (by decide +kernel) (by decide +kernel)
set_option maxRecDepth 20000 in
theorem gX5_turn_X5_of : GoodIn wsX5_turn (va_wsS RX5 48 yX5_of wsX5_of) := goodIn_app (goodIn_of _ (by decide +kernel)) ggX5_turn_X5_of
theorem dX5_turn_0 : decode cX5_turn 0 = .ok (.aload_n 0, 1) := by decide +kernel
theorem dX5_turn_1 : decode cX5_turn 1 = .ok (.iload_n 1, 1) := by decide +kernel
theorem dX5_turn_2 : decode cX5_turn 2 = .ok (.invokevirtual 122, 3) := by decide +kernel
theorem dX5_turn_5 : decode cX5_turn 5 = .ok (.ifCond .ne 7, 3) := by decide +kernel
theorem dX5_turn_8 : decode cX5_turn 8 = .ok (.iconst (-1), 1) := by decide +kernel
theorem dX5_turn_9 : decode cX5_turn 9 = .ok (.goto 24, 3) := by decide +kernel
theorem dX5_turn_12 : decode cX5_turn 12 = .ok (.iload_n 2, 1) := by decide +kernel
theorem dX5_turn_13 : decode cX5_turn 13 = .ok (.iconst 0, 1) := by decide +kernel
theorem dX5_turn_14 : decode cX5_turn 14 = .ok (.iconst 5, 1) := by decide +kernel
theorem dX5_turn_15 : decode cX5_turn 15 = .ok (.invokestatic 41, 3) := by decide +kernel
theorem dX5_turn_18 : decode cX5_turn 18 = .ok (.ifCond .ne 8, 3) := by decide +kernel
theorem dX5_turn_21 : decode cX5_turn 21 = .ok (.bipush (-2), 2) := by decide +kernel
theorem dX5_turn_23 : decode cX5_turn 23 = .ok (.goto 10, 3) := by decide +kernel
theorem dX5_turn_26 : decode cX5_turn 26 = .ok (.iload_n 3, 1) := by decide +kernel
theorem dX5_turn_27 : decode cX5_turn 27 = .ok (.iconst 0, 1) := by decide +kernel
theorem dX5_turn_28 : decode cX5_turn 28 = .ok (.bipush 9, 2) := by decide +kernel
theorem dX5_turn_30 : decode cX5_turn 30 = .ok (.invokestatic 145, 3) := by decide +kernel
theorem dX5_turn_33 : decode cX5_turn 33 = .ok (.istore 4, 2) := by decide +kernel
theorem dX5_turn_35 : decode cX5_turn 35 = .ok (.iload 4, 2) := by decide +kernel
theorem dX5_turn_37 : decode cX5_turn 37 = .ok (.ifCond .eq 10, 3) := by decide +kernel
theorem dX5_turn_40 : decode cX5_turn 40 = .ok (.aload_n 0, 1) := by decide +kernel
theorem dX5_turn_41 : decode cX5_turn 41 = .ok (.iload 4, 2) := by decide +kernel
theorem dX5_turn_43 : decode cX5_turn 43 = .ok (.invokevirtual 35, 3) := by decide +kernel
theorem dX5_turn_46 : decode cX5_turn 46 = .ok (.ireturn, 1) := by decide +kernel
theorem dX5_turn_47 : decode cX5_turn 47 = .ok (.bipush 10, 2) := by decide +kernel
theorem dX5_turn_49 : decode cX5_turn 49 = .ok (.aload_n 0, 1) := by decide +kernel
theorem dX5_turn_50 : decode cX5_turn 50 = .ok (.getfield 9, 3) := by decide +kernel
theorem dX5_turn_53 : decode cX5_turn 53 = .ok (.iload_n 1, 1) := by decide +kernel
theorem dX5_turn_54 : decode cX5_turn 54 = .ok (.iconst 0, 1) := by decide +kernel
theorem dX5_turn_55 : decode cX5_turn 55 = .ok (.invokestatic 48, 3) := by decide +kernel
theorem dX5_turn_58 : decode cX5_turn 58 = .ok (.iaload, 1) := by decide +kernel
theorem dX5_turn_59 : decode cX5_turn 59 = .ok (.imul, 1) := by decide +kernel
theorem dX5_turn_60 : decode cX5_turn 60 = .ok (.aload_n 0, 1) := by decide +kernel
theorem dX5_turn_61 : decode cX5_turn 61 = .ok (.getfield 9, 3) := by decide +kernel
theorem dX5_turn_64 : decode cX5_turn 64 = .ok (.iload_n 1, 1) := by decide +kernel
theorem dX5_turn_65 : decode cX5_turn 65 = .ok (.iconst 1, 1) := by decide +kernel
theorem dX5_turn_66 : decode cX5_turn 66 = .ok (.invokestatic 48, 3) := by decide +kernel
theorem dX5_turn_69 : decode cX5_turn 69 = .ok (.iaload, 1) := by decide +kernel
theorem dX5_turn_70 : decode cX5_turn 70 = .ok (.iadd, 1) := by decide +kernel
theorem dX5_turn_71 : decode cX5_turn 71 = .ok (.istore 5, 2) := by decide +kernel
theorem dX5_turn_73 : decode cX5_turn 73 = .ok (.aload_n 0, 1) := by decide +kernel
theorem dX5_turn_74 : decode cX5_turn 74 = .ok (.getfield 9, 3) := by decide +kernel
theorem dX5_turn_77 : decode cX5_turn 77 = .ok (.iload_n 1, 1) := by decide +kernel
theorem dX5_turn_78 : decode cX5_turn 78 = .ok (.iconst 0, 1) := by decide +kernel
theorem dX5_turn_79 : decode cX5_turn 79 = .ok (.invokestatic 48, 3) := by decide +kernel
theorem dX5_turn_82 : decode cX5_turn 82 = .ok (.iload_n 2, 1) := by decide +kernel
theorem dX5_turn_83 : decode cX5_turn 83 = .ok (.iastore, 1) := by decide +kernel
theorem dX5_turn_84 : decode cX5_turn 84 = .ok (.aload_n 0, 1) := by decide +kernel
theorem dX5_turn_85 : decode cX5_turn 85 = .ok (.getfield 9, 3) := by decide +kernel
theorem dX5_turn_88 : decode cX5_turn 88 = .ok (.iload_n 1, 1) := by decide +kernel
theorem dX5_turn_89 : decode cX5_turn 89 = .ok (.iconst 1, 1) := by decide +kernel
theorem dX5_turn_90 : decode cX5_turn 90 = .ok (.invokestatic 48, 3) := by decide +kernel
theorem dX5_turn_93 : decode cX5_turn 93 = .ok (.iload_n 3, 1) := by decide +kernel
theorem dX5_turn_94 : decode cX5_turn 94 = .ok (.iastore, 1) := by decide +kernel
theorem dX5_turn_95 : decode cX5_turn 95 = .ok (.iload 5, 2) := by decide +kernel
theorem dX5_turn_97 : decode cX5_turn 97 = .ok (.ireturn, 1) := by decide +kernel
set_option maxRecDepth 20000 in
theorem ggX5_days_X5_no : GoodIn wsX5_days wsX5_no := goodIn_r _ [6, 7, 50, 51, 52, 53, 54, 55, 56, 57, 58, 59, 60, 61, 62] (by decide +kernel) (by decide +kernel)
set_option maxRecDepth 20000 in
theorem gX5_days_X5_no : GoodIn wsX5_days (wsV RX5 35 RX5 yX5_no wsX5_no) := goodIn_app (goodIn_of _ (by decide +kernel)) ggX5_days_X5_no
set_option maxRecDepth 20000 in
theorem ggX5_days_X5_daysOn : GoodIn wsX5_days wsX5_daysOn := goodIn_r _ [10, 11, 12, 5, 13, 14, 15, 16, 17, 18, 19, 20, 21, 22, 23, 24, 25, 26, 27, 28, 29, 30, 31, 32, 33, 34, 35, 36, 37, 38, 39, 40, 41, 42, 43, 44, 45, 46, 47, 48, 49] (by decide +kernel) (by decide +kernel)
set_option maxRecDepth 20000 in
theorem gX5_days_X5_daysOn : GoodIn wsX5_days (va_wsS RX5 129 yX5_daysOn wsX5_daysOn) := goodIn_app (goodIn_of _ (by decide +kernel)) ggX5_days_X5_daysOn
theorem dX5_days_0 : decode cX5_days 0 = .ok (.iload_n 1, 1) := by decide +kernel
theorem dX5_days_1 : decode cX5_days 1 = .ok (.iconst 1, 1) := by decide +kernel
theorem dX5_days_2 : decode cX5_days 2 = .ok (.if_icmp .ge 10, 3) := by decide +kernel
theorem dX5_days_5 : decode cX5_days 5 = .ok (.aload_n 0, 1) := by decide +kernel
theorem dX5_days_6 : decode cX5_days 6 = .ok (.bipush (-4), 2) := by decide +kernel
theorem dX5_days_8 : decode cX5_days 8 = .ok (.invokevirtual 35, 3) := by decide +kernel
theorem dX5_days_11 : decode cX5_days 11 = .ok (.ireturn, 1) := by decide +kernel
theorem dX5_days_12 : decode cX5_days 12 = .ok (.iload_n 1, 1) := by decide +kernel
theorem dX5_days_13 : decode cX5_days 13 = .ok (.bipush 60, 2) := by decide +kernel
theorem dX5_days_15 : decode cX5_days 15 = .ok (.if_icmp .gt 17, 3) := by decide +kernel
theorem dX5_days_18 : decode cX5_days 18 = .ok (.aload_n 0, 1) := by decide +kernel
theorem dX5_days_19 : decode cX5_days 19 = .ok (.getfield 9, 3) := by decide +kernel
theorem dX5_days_22 : decode cX5_days 22 = .ok (.iconst 2, 1) := by decide +kernel
theorem dX5_days_23 : decode cX5_days 23 = .ok (.iaload, 1) := by decide +kernel
theorem dX5_days_24 : decode cX5_days 24 = .ok (.iload_n 1, 1) := by decide +kernel
theorem dX5_days_25 : decode cX5_days 25 = .ok (.iadd, 1) := by decide +kernel
theorem dX5_days_26 : decode cX5_days 26 = .ok (.sipush 999, 3) := by decide +kernel
theorem dX5_days_29 : decode cX5_days 29 = .ok (.if_icmp .le 10, 3) := by decide +kernel
theorem dX5_days_32 : decode cX5_days 32 = .ok (.aload_n 0, 1) := by decide +kernel
theorem dX5_days_33 : decode cX5_days 33 = .ok (.bipush (-6), 2) := by decide +kernel
theorem dX5_days_35 : decode cX5_days 35 = .ok (.invokevirtual 35, 3) := by decide +kernel
theorem dX5_days_38 : decode cX5_days 38 = .ok (.ireturn, 1) := by decide +kernel
theorem dX5_days_39 : decode cX5_days 39 = .ok (.aload_n 0, 1) := by decide +kernel
theorem dX5_days_40 : decode cX5_days 40 = .ok (.getfield 9, 3) := by decide +kernel
theorem dX5_days_43 : decode cX5_days 43 = .ok (.iload_n 1, 1) := by decide +kernel
theorem dX5_days_44 : decode cX5_days 44 = .ok (.invokestatic 129, 3) := by decide +kernel
theorem dX5_days_47 : decode cX5_days 47 = .ok (.aload_n 0, 1) := by decide +kernel
theorem dX5_days_48 : decode cX5_days 48 = .ok (.getfield 9, 3) := by decide +kernel
theorem dX5_days_51 : decode cX5_days 51 = .ok (.iconst 3, 1) := by decide +kernel
theorem dX5_days_52 : decode cX5_days 52 = .ok (.iaload, 1) := by decide +kernel
theorem dX5_days_53 : decode cX5_days 53 = .ok (.ireturn, 1) := by decide +kernel
set_option maxRecDepth 20000 in
theorem ggX5_needle_X5_needleIn : GoodIn wsX5_needle wsX5_needleIn := goodIn_r _ [5, 6, 7, 4, 8, 9, 10, 11, 12, 13, 14, 15, 16, 17, 18, 19, 20, 21, 22, 23, 24, 25, 26, 27, 28, 29, 30, 31, 32, 33, 34, 35] (by decide +kernel) (by decide +kernel)
set_option maxRecDepth 20000 in
theorem gX5_needle_X5_needleIn : GoodIn wsX5_needle (va_wsS RX5 79 yX5_needleIn wsX5_needleIn) := goodIn_app (goodIn_of _ (by decide +kernel)) ggX5_needle_X5_needleIn
theorem dX5_needle_0 : decode cX5_needle 0 = .ok (.aload_n 0, 1) := by decide +kernel
theorem dX5_needle_1 : decode cX5_needle 1 = .ok (.getfield 9, 3) := by decide +kernel
theorem dX5_needle_4 : decode cX5_needle 4 = .ok (.bipush (-9), 2) := by decide +kernel
theorem dX5_needle_6 : decode cX5_needle 6 = .ok (.invokestatic 79, 3) := by decide +kernel
theorem dX5_needle_9 : decode cX5_needle 9 = .ok (.ireturn, 1) := by decide +kernel
set_option maxRecDepth 20000 in
theorem ggX5_takes_X5_copies : GoodIn wsX5_takes wsX5_copies := goodIn_r _ [6] (by decide +kernel) (by decide +kernel)
set_option maxRecDepth 20000 in
theorem gX5_takes_X5_copies : GoodIn wsX5_takes (va_wsS RX5 135 yX5_copies wsX5_copies) := goodIn_app (goodIn_of _ (by decide +kernel)) ggX5_takes_X5_copies
set_option maxRecDepth 20000 in
theorem ggX5_takes_X5_daysOn : GoodIn wsX5_takes wsX5_daysOn := goodIn_r _ [9, 10, 11, 5, 12, 13, 14, 15, 16, 17, 18, 19, 20, 21, 22, 23, 24, 25, 26, 27, 28, 29, 30, 31, 32, 33, 34, 35, 36, 37, 38, 39, 40, 41, 42, 43, 44, 45, 46, 47, 48] (by decide +kernel) (by decide +kernel)
set_option maxRecDepth 20000 in
theorem gX5_takes_X5_daysOn : GoodIn wsX5_takes (va_wsS RX5 129 yX5_daysOn wsX5_daysOn) := goodIn_app (goodIn_of _ (by decide +kernel)) ggX5_takes_X5_daysOn
theorem dX5_takes_0 : decode cX5_takes 0 = .ok (.aload_n 0, 1) := by decide +kernel
theorem dX5_takes_1 : decode cX5_takes 1 = .ok (.getfield 9, 3) := by decide +kernel
theorem dX5_takes_4 : decode cX5_takes 4 = .ok (.aload_n 0, 1) := by decide +kernel
theorem dX5_takes_5 : decode cX5_takes 5 = .ok (.getfield 13, 3) := by decide +kernel
theorem dX5_takes_8 : decode cX5_takes 8 = .ok (.invokestatic 135, 3) := by decide +kernel
theorem dX5_takes_11 : decode cX5_takes 11 = .ok (.aload_n 0, 1) := by decide +kernel
theorem dX5_takes_12 : decode cX5_takes 12 = .ok (.getfield 13, 3) := by decide +kernel
theorem dX5_takes_15 : decode cX5_takes 15 = .ok (.iload_n 1, 1) := by decide +kernel
theorem dX5_takes_16 : decode cX5_takes 16 = .ok (.invokestatic 129, 3) := by decide +kernel
theorem dX5_takes_19 : decode cX5_takes 19 = .ok (.return_, 1) := by decide +kernel
set_option maxRecDepth 20000 in
theorem ggX5_shipThen_X5_wrongBy : GoodIn wsX5_shipThen wsX5_wrongBy := goodIn_r _ [5] (by decide +kernel) (by decide +kernel)
set_option maxRecDepth 20000 in
theorem gX5_shipThen_X5_wrongBy : GoodIn wsX5_shipThen (va_wsS RX5 145 yX5_wrongBy wsX5_wrongBy) := goodIn_app (goodIn_of _ (by decide +kernel)) ggX5_shipThen_X5_wrongBy
set_option maxRecDepth 20000 in
theorem ggX5_shipThen_X5_no : GoodIn wsX5_shipThen wsX5_no := goodIn_r _ [9, 10, 61, 62, 63, 64, 65, 66, 67, 68, 69, 70, 71, 72, 73] (by decide +kernel) (by decide +kernel)
set_option maxRecDepth 20000 in
theorem gX5_shipThen_X5_no : GoodIn wsX5_shipThen (wsV RX5 35 RX5 yX5_no wsX5_no) := goodIn_app (goodIn_of _ (by decide +kernel)) ggX5_shipThen_X5_no
set_option maxRecDepth 20000 in
theorem ggX5_shipThen_X5_takes : GoodIn wsX5_shipThen wsX5_takes := goodIn_r _ [14, 15, 1, 16, 17, 4, 18, 19, 20, 21, 22, 23, 24, 25, 26, 27, 28, 29, 30, 31, 32, 33, 34, 35, 36, 37, 38, 39, 40, 41, 42, 43, 44, 45, 46, 47, 48, 49, 50, 51, 52, 53, 54, 55, 56, 57, 58, 59, 60, 61, 62, 63, 64, 65, 66, 67, 68, 69, 70, 71, 72, 73] (by decide +kernel) (by decide +kernel)
set_option maxRecDepth 20000 in
theorem gX5_shipThen_X5_takes : GoodIn wsX5_shipThen (wsV RX5 149 RX5 yX5_takes wsX5_takes) := goodIn_app (goodIn_of _ (by decide +kernel)) ggX5_shipThen_X5_takes
theorem dX5_shipThen_0 : decode cX5_shipThen 0 = .ok (.iload_n 1, 1) := by decide +kernel
theorem dX5_shipThen_1 : decode cX5_shipThen 1 = .ok (.iconst 0, 1) := by decide +kernel
theorem dX5_shipThen_2 : decode cX5_shipThen 2 = .ok (.bipush 60, 2) := by decide +kernel
theorem dX5_shipThen_4 : decode cX5_shipThen 4 = .ok (.invokestatic 145, 3) := by decide +kernel
theorem dX5_shipThen_7 : decode cX5_shipThen 7 = .ok (.istore_n 2, 1) := by decide +kernel
theorem dX5_shipThen_8 : decode cX5_shipThen 8 = .ok (.iload_n 2, 1) := by decide +kernel
theorem dX5_shipThen_9 : decode cX5_shipThen 9 = .ok (.ifCond .eq 9, 3) := by decide +kernel
theorem dX5_shipThen_12 : decode cX5_shipThen 12 = .ok (.aload_n 0, 1) := by decide +kernel
theorem dX5_shipThen_13 : decode cX5_shipThen 13 = .ok (.iload_n 2, 1) := by decide +kernel
theorem dX5_shipThen_14 : decode cX5_shipThen 14 = .ok (.invokevirtual 35, 3) := by decide +kernel
theorem dX5_shipThen_17 : decode cX5_shipThen 17 = .ok (.ireturn, 1) := by decide +kernel
theorem dX5_shipThen_18 : decode cX5_shipThen 18 = .ok (.aload_n 0, 1) := by decide +kernel
theorem dX5_shipThen_19 : decode cX5_shipThen 19 = .ok (.iload_n 1, 1) := by decide +kernel
theorem dX5_shipThen_20 : decode cX5_shipThen 20 = .ok (.invokevirtual 149, 3) := by decide +kernel
theorem dX5_shipThen_23 : decode cX5_shipThen 23 = .ok (.aload_n 0, 1) := by decide +kernel
theorem dX5_shipThen_24 : decode cX5_shipThen 24 = .ok (.getfield 13, 3) := by decide +kernel
theorem dX5_shipThen_27 : decode cX5_shipThen 27 = .ok (.iconst 3, 1) := by decide +kernel
theorem dX5_shipThen_28 : decode cX5_shipThen 28 = .ok (.iaload, 1) := by decide +kernel
theorem dX5_shipThen_29 : decode cX5_shipThen 29 = .ok (.ireturn, 1) := by decide +kernel
set_option maxRecDepth 20000 in
theorem ggX5_needleThen_X5_wrongBy : GoodIn wsX5_needleThen wsX5_wrongBy := goodIn_r _ [5] (by decide +kernel) (by decide +kernel)
set_option maxRecDepth 20000 in
theorem gX5_needleThen_X5_wrongBy : GoodIn wsX5_needleThen (va_wsS RX5 145 yX5_wrongBy wsX5_wrongBy) := goodIn_app (goodIn_of _ (by decide +kernel)) ggX5_needleThen_X5_wrongBy
set_option maxRecDepth 20000 in
theorem ggX5_needleThen_X5_no : GoodIn wsX5_needleThen wsX5_no := goodIn_r _ [9, 10, 61, 62, 63, 64, 65, 66, 67, 68, 69, 70, 71, 72, 73] (by decide +kernel) (by decide +kernel)
set_option maxRecDepth 20000 in
theorem gX5_needleThen_X5_no : GoodIn wsX5_needleThen (wsV RX5 35 RX5 yX5_no wsX5_no) := goodIn_app (goodIn_of _ (by decide +kernel)) ggX5_needleThen_X5_no
set_option maxRecDepth 20000 in
theorem ggX5_needleThen_X5_takes : GoodIn wsX5_needleThen wsX5_takes := goodIn_r _ [14, 15, 1, 16, 17, 4, 18, 19, 20, 21, 22, 23, 24, 25, 26, 27, 28, 29, 30, 31, 32, 33, 34, 35, 36, 37, 38, 39, 40, 41, 42, 43, 44, 45, 46, 47, 48, 49, 50, 51, 52, 53, 54, 55, 56, 57, 58, 59, 60, 61, 62, 63, 64, 65, 66, 67, 68, 69, 70, 71, 72, 73] (by decide +kernel) (by decide +kernel)
set_option maxRecDepth 20000 in
theorem gX5_needleThen_X5_takes : GoodIn wsX5_needleThen (wsV RX5 149 RX5 yX5_takes wsX5_takes) := goodIn_app (goodIn_of _ (by decide +kernel)) ggX5_needleThen_X5_takes
set_option maxRecDepth 20000 in
theorem ggX5_needleThen_X5_needleIn : GoodIn wsX5_needleThen wsX5_needleIn := goodIn_r _ [27, 28, 29, 4, 30, 31, 32, 33, 34, 35, 36, 37, 38, 39, 40, 41, 42, 43, 44, 45, 46, 47, 48, 49, 50, 51, 52, 53, 54, 55, 56, 57] (by decide +kernel) (by decide +kernel)
set_option maxRecDepth 20000 in
theorem gX5_needleThen_X5_needleIn : GoodIn wsX5_needleThen (va_wsS RX5 79 yX5_needleIn wsX5_needleIn) := goodIn_app (goodIn_of _ (by decide +kernel)) ggX5_needleThen_X5_needleIn
theorem dX5_needleThen_0 : decode cX5_needleThen 0 = .ok (.iload_n 1, 1) := by decide +kernel
theorem dX5_needleThen_1 : decode cX5_needleThen 1 = .ok (.iconst 0, 1) := by decide +kernel
theorem dX5_needleThen_2 : decode cX5_needleThen 2 = .ok (.bipush 60, 2) := by decide +kernel
theorem dX5_needleThen_4 : decode cX5_needleThen 4 = .ok (.invokestatic 145, 3) := by decide +kernel
theorem dX5_needleThen_7 : decode cX5_needleThen 7 = .ok (.istore_n 2, 1) := by decide +kernel
theorem dX5_needleThen_8 : decode cX5_needleThen 8 = .ok (.iload_n 2, 1) := by decide +kernel
theorem dX5_needleThen_9 : decode cX5_needleThen 9 = .ok (.ifCond .eq 9, 3) := by decide +kernel
theorem dX5_needleThen_12 : decode cX5_needleThen 12 = .ok (.aload_n 0, 1) := by decide +kernel
theorem dX5_needleThen_13 : decode cX5_needleThen 13 = .ok (.iload_n 2, 1) := by decide +kernel
theorem dX5_needleThen_14 : decode cX5_needleThen 14 = .ok (.invokevirtual 35, 3) := by decide +kernel
theorem dX5_needleThen_17 : decode cX5_needleThen 17 = .ok (.ireturn, 1) := by decide +kernel
theorem dX5_needleThen_18 : decode cX5_needleThen 18 = .ok (.aload_n 0, 1) := by decide +kernel
theorem dX5_needleThen_19 : decode cX5_needleThen 19 = .ok (.iload_n 1, 1) := by decide +kernel
theorem dX5_needleThen_20 : decode cX5_needleThen 20 = .ok (.invokevirtual 149, 3) := by decide +kernel
theorem dX5_needleThen_23 : decode cX5_needleThen 23 = .ok (.aload_n 0, 1) := by decide +kernel
theorem dX5_needleThen_24 : decode cX5_needleThen 24 = .ok (.getfield 13, 3) := by decide +kernel
theorem dX5_needleThen_27 : decode cX5_needleThen 27 = .ok (.bipush (-9), 2) := by decide +kernel
theorem dX5_needleThen_29 : decode cX5_needleThen 29 = .ok (.invokestatic 79, 3) := by decide +kernel
theorem dX5_needleThen_32 : decode cX5_needleThen 32 = .ok (.ireturn, 1) := by decide +kernel
set_option maxRecDepth 20000 in
theorem ggX5_seaThen_X5_isHand : GoodIn wsX5_seaThen wsX5_isHand := goodIn_r _ [6, 7, 8, 9, 5, 10, 68, 69, 70, 71, 72, 73, 74, 75, 76, 77, 78, 79, 80] (by decide +kernel) (by decide +kernel)
set_option maxRecDepth 20000 in
theorem gX5_seaThen_X5_isHand : GoodIn wsX5_seaThen (wsV RX5 122 RX5 yX5_isHand wsX5_isHand) := goodIn_app (goodIn_of _ (by decide +kernel)) ggX5_seaThen_X5_isHand
set_option maxRecDepth 20000 in
theorem ggX5_seaThen_X5_wrongBy : GoodIn wsX5_seaThen wsX5_wrongBy := goodIn_r _ [13] (by decide +kernel) (by decide +kernel)
set_option maxRecDepth 20000 in
theorem gX5_seaThen_X5_wrongBy : GoodIn wsX5_seaThen (va_wsS RX5 145 yX5_wrongBy wsX5_wrongBy) := goodIn_app (goodIn_of _ (by decide +kernel)) ggX5_seaThen_X5_wrongBy
set_option maxRecDepth 20000 in
theorem ggX5_seaThen_X5_no : GoodIn wsX5_seaThen wsX5_no := goodIn_r _ [17, 18, 68, 69, 70, 71, 72, 73, 74, 75, 76, 77, 78, 79, 80] (by decide +kernel) (by decide +kernel)
set_option maxRecDepth 20000 in
theorem gX5_seaThen_X5_no : GoodIn wsX5_seaThen (wsV RX5 35 RX5 yX5_no wsX5_no) := goodIn_app (goodIn_of _ (by decide +kernel)) ggX5_seaThen_X5_no
set_option maxRecDepth 20000 in
theorem ggX5_seaThen_X5_takes : GoodIn wsX5_seaThen wsX5_takes := goodIn_r _ [22, 7, 1, 23, 24, 5, 25, 26, 27, 28, 29, 30, 31, 32, 33, 34, 35, 36, 37, 38, 39, 40, 41, 42, 43, 44, 45, 46, 47, 48, 49, 50, 51, 52, 53, 54, 55, 56, 57, 58, 59, 60, 61, 62, 63, 64, 65, 66, 67, 68, 69, 70, 71, 72, 73, 74, 75, 76, 77, 78, 79, 80] (by decide +kernel) (by decide +kernel)
set_option maxRecDepth 20000 in
theorem gX5_seaThen_X5_takes : GoodIn wsX5_seaThen (wsV RX5 149 RX5 yX5_takes wsX5_takes) := goodIn_app (goodIn_of _ (by decide +kernel)) ggX5_seaThen_X5_takes
set_option maxRecDepth 20000 in
theorem ggX5_seaThen_X5_of : GoodIn wsX5_seaThen wsX5_of := goodIn_r _ [43] (by decide +kernel) (by decide +kernel)
set_option maxRecDepth 20000 in
theorem gX5_seaThen_X5_of : GoodIn wsX5_seaThen (va_wsS RX5 48 yX5_of wsX5_of) := goodIn_app (goodIn_of _ (by decide +kernel)) ggX5_seaThen_X5_of
theorem dX5_seaThen_0 : decode cX5_seaThen 0 = .ok (.aload_n 0, 1) := by decide +kernel
theorem dX5_seaThen_1 : decode cX5_seaThen 1 = .ok (.iload_n 1, 1) := by decide +kernel
theorem dX5_seaThen_2 : decode cX5_seaThen 2 = .ok (.invokevirtual 122, 3) := by decide +kernel
theorem dX5_seaThen_5 : decode cX5_seaThen 5 = .ok (.ifCond .eq 13, 3) := by decide +kernel
theorem dX5_seaThen_8 : decode cX5_seaThen 8 = .ok (.iload_n 2, 1) := by decide +kernel
theorem dX5_seaThen_9 : decode cX5_seaThen 9 = .ok (.iconst 0, 1) := by decide +kernel
theorem dX5_seaThen_10 : decode cX5_seaThen 10 = .ok (.bipush 60, 2) := by decide +kernel
theorem dX5_seaThen_12 : decode cX5_seaThen 12 = .ok (.invokestatic 145, 3) := by decide +kernel
theorem dX5_seaThen_15 : decode cX5_seaThen 15 = .ok (.goto 4, 3) := by decide +kernel
theorem dX5_seaThen_18 : decode cX5_seaThen 18 = .ok (.iconst (-1), 1) := by decide +kernel
theorem dX5_seaThen_19 : decode cX5_seaThen 19 = .ok (.istore_n 3, 1) := by decide +kernel
theorem dX5_seaThen_20 : decode cX5_seaThen 20 = .ok (.iload_n 3, 1) := by decide +kernel
theorem dX5_seaThen_21 : decode cX5_seaThen 21 = .ok (.ifCond .eq 9, 3) := by decide +kernel
theorem dX5_seaThen_24 : decode cX5_seaThen 24 = .ok (.aload_n 0, 1) := by decide +kernel
theorem dX5_seaThen_25 : decode cX5_seaThen 25 = .ok (.iload_n 3, 1) := by decide +kernel
theorem dX5_seaThen_26 : decode cX5_seaThen 26 = .ok (.invokevirtual 35, 3) := by decide +kernel
theorem dX5_seaThen_29 : decode cX5_seaThen 29 = .ok (.ireturn, 1) := by decide +kernel
theorem dX5_seaThen_30 : decode cX5_seaThen 30 = .ok (.aload_n 0, 1) := by decide +kernel
theorem dX5_seaThen_31 : decode cX5_seaThen 31 = .ok (.iload_n 2, 1) := by decide +kernel
theorem dX5_seaThen_32 : decode cX5_seaThen 32 = .ok (.invokevirtual 149, 3) := by decide +kernel
theorem dX5_seaThen_35 : decode cX5_seaThen 35 = .ok (.aload_n 0, 1) := by decide +kernel
theorem dX5_seaThen_36 : decode cX5_seaThen 36 = .ok (.getfield 13, 3) := by decide +kernel
theorem dX5_seaThen_39 : decode cX5_seaThen 39 = .ok (.iload_n 1, 1) := by decide +kernel
theorem dX5_seaThen_40 : decode cX5_seaThen 40 = .ok (.iconst 3, 1) := by decide +kernel
theorem dX5_seaThen_41 : decode cX5_seaThen 41 = .ok (.invokestatic 48, 3) := by decide +kernel
theorem dX5_seaThen_44 : decode cX5_seaThen 44 = .ok (.iaload, 1) := by decide +kernel
theorem dX5_seaThen_45 : decode cX5_seaThen 45 = .ok (.ireturn, 1) := by decide +kernel
set_option maxRecDepth 20000 in
theorem ggX5_comesIn_X5_day : GoodIn wsX5_comesIn wsX5_day := goodIn_r _ [5, 6, 7, 4, 8, 9, 10, 11, 12, 13, 14, 15, 16, 17, 18, 19, 20, 21, 22, 23, 24, 25, 26, 27, 28, 29, 30, 31, 32, 33, 34, 35, 36, 37, 38, 39, 40, 41] (by decide +kernel) (by decide +kernel)
set_option maxRecDepth 20000 in
theorem gX5_comesIn_X5_day : GoodIn wsX5_comesIn (va_wsS RX5 85 yX5_day wsX5_day) := goodIn_app (goodIn_of _ (by decide +kernel)) ggX5_comesIn_X5_day
theorem dX5_comesIn_0 : decode cX5_comesIn 0 = .ok (.iconst 0, 1) := by decide +kernel
theorem dX5_comesIn_1 : decode cX5_comesIn 1 = .ok (.istore_n 3, 1) := by decide +kernel
theorem dX5_comesIn_2 : decode cX5_comesIn 2 = .ok (.iload_n 3, 1) := by decide +kernel
theorem dX5_comesIn_3 : decode cX5_comesIn 3 = .ok (.iload_n 2, 1) := by decide +kernel
theorem dX5_comesIn_4 : decode cX5_comesIn 4 = .ok (.if_icmp .gt 29, 3) := by decide +kernel
theorem dX5_comesIn_7 : decode cX5_comesIn 7 = .ok (.aload_n 0, 1) := by decide +kernel
theorem dX5_comesIn_8 : decode cX5_comesIn 8 = .ok (.getfield 13, 3) := by decide +kernel
theorem dX5_comesIn_11 : decode cX5_comesIn 11 = .ok (.iconst 3, 1) := by decide +kernel
theorem dX5_comesIn_12 : decode cX5_comesIn 12 = .ok (.iaload, 1) := by decide +kernel
theorem dX5_comesIn_13 : decode cX5_comesIn 13 = .ok (.iload_n 1, 1) := by decide +kernel
theorem dX5_comesIn_14 : decode cX5_comesIn 14 = .ok (.if_icmp .ne 5, 3) := by decide +kernel
theorem dX5_comesIn_17 : decode cX5_comesIn 17 = .ok (.iload_n 3, 1) := by decide +kernel
theorem dX5_comesIn_18 : decode cX5_comesIn 18 = .ok (.ireturn, 1) := by decide +kernel
theorem dX5_comesIn_19 : decode cX5_comesIn 19 = .ok (.aload_n 0, 1) := by decide +kernel
theorem dX5_comesIn_20 : decode cX5_comesIn 20 = .ok (.getfield 13, 3) := by decide +kernel
theorem dX5_comesIn_23 : decode cX5_comesIn 23 = .ok (.iconst 0, 1) := by decide +kernel
theorem dX5_comesIn_24 : decode cX5_comesIn 24 = .ok (.invokestatic 85, 3) := by decide +kernel
theorem dX5_comesIn_27 : decode cX5_comesIn 27 = .ok (.iinc 3 1, 3) := by decide +kernel
theorem dX5_comesIn_30 : decode cX5_comesIn 30 = .ok (.goto (-28), 3) := by decide +kernel
theorem dX5_comesIn_33 : decode cX5_comesIn 33 = .ok (.bipush (-9), 2) := by decide +kernel
theorem dX5_comesIn_35 : decode cX5_comesIn 35 = .ok (.ireturn, 1) := by decide +kernel
set_option maxRecDepth 20000 in
theorem ggX5_comesTo_X5_copies : GoodIn wsX5_comesTo wsX5_copies := goodIn_r _ [6] (by decide +kernel) (by decide +kernel)
set_option maxRecDepth 20000 in
theorem gX5_comesTo_X5_copies : GoodIn wsX5_comesTo (va_wsS RX5 135 yX5_copies wsX5_copies) := goodIn_app (goodIn_of _ (by decide +kernel)) ggX5_comesTo_X5_copies
set_option maxRecDepth 20000 in
theorem ggX5_comesTo_X5_comesIn : GoodIn wsX5_comesTo wsX5_comesIn := goodIn_r _ [10, 2, 11, 12, 5, 13, 14, 15, 16, 17, 18, 19, 20, 21, 22, 23, 24, 25, 26, 27, 28, 29, 30, 31, 32, 33, 34, 35, 36, 37, 38, 39, 40, 41, 42, 43, 44, 45, 46, 47, 48, 49, 50, 51, 52, 53, 54, 55, 56, 57, 58, 59, 60, 61, 62] (by decide +kernel) (by decide +kernel)
set_option maxRecDepth 20000 in
theorem gX5_comesTo_X5_comesIn : GoodIn wsX5_comesTo (wsV RX5 153 RX5 yX5_comesIn wsX5_comesIn) := goodIn_app (goodIn_of _ (by decide +kernel)) ggX5_comesTo_X5_comesIn
theorem dX5_comesTo_0 : decode cX5_comesTo 0 = .ok (.aload_n 0, 1) := by decide +kernel
theorem dX5_comesTo_1 : decode cX5_comesTo 1 = .ok (.getfield 9, 3) := by decide +kernel
theorem dX5_comesTo_4 : decode cX5_comesTo 4 = .ok (.aload_n 0, 1) := by decide +kernel
theorem dX5_comesTo_5 : decode cX5_comesTo 5 = .ok (.getfield 13, 3) := by decide +kernel
theorem dX5_comesTo_8 : decode cX5_comesTo 8 = .ok (.invokestatic 135, 3) := by decide +kernel
theorem dX5_comesTo_11 : decode cX5_comesTo 11 = .ok (.aload_n 0, 1) := by decide +kernel
theorem dX5_comesTo_12 : decode cX5_comesTo 12 = .ok (.aload_n 0, 1) := by decide +kernel
theorem dX5_comesTo_13 : decode cX5_comesTo 13 = .ok (.getfield 9, 3) := by decide +kernel
theorem dX5_comesTo_16 : decode cX5_comesTo 16 = .ok (.iconst 4, 1) := by decide +kernel
theorem dX5_comesTo_17 : decode cX5_comesTo 17 = .ok (.iload_n 1, 1) := by decide +kernel
theorem dX5_comesTo_18 : decode cX5_comesTo 18 = .ok (.iadd, 1) := by decide +kernel
theorem dX5_comesTo_19 : decode cX5_comesTo 19 = .ok (.iaload, 1) := by decide +kernel
theorem dX5_comesTo_20 : decode cX5_comesTo 20 = .ok (.bipush 60, 2) := by decide +kernel
theorem dX5_comesTo_22 : decode cX5_comesTo 22 = .ok (.invokevirtual 153, 3) := by decide +kernel
theorem dX5_comesTo_25 : decode cX5_comesTo 25 = .ok (.ireturn, 1) := by decide +kernel
set_option maxRecDepth 20000 in
theorem ggX5_comes_X5_isPlace : GoodIn wsX5_comes wsX5_isPlace := goodIn_r _ [5, 6, 7, 8, 4, 9, 66, 67, 68, 69, 70, 71, 72, 73, 74, 75, 76, 77, 78] (by decide +kernel) (by decide +kernel)
set_option maxRecDepth 20000 in
theorem gX5_comes_X5_isPlace : GoodIn wsX5_comes (wsV RX5 115 RX5 yX5_isPlace wsX5_isPlace) := goodIn_app (goodIn_of _ (by decide +kernel)) ggX5_comes_X5_isPlace
set_option maxRecDepth 20000 in
theorem ggX5_comes_X5_comesTo : GoodIn wsX5_comes wsX5_comesTo := goodIn_r _ [13, 6, 14, 15, 16, 4, 17, 18, 19, 20, 21, 22, 23, 24, 25, 26, 27, 28, 29, 30, 31, 32, 33, 34, 35, 36, 37, 38, 39, 40, 41, 42, 43, 44, 45, 46, 47, 48, 49, 50, 51, 52, 53, 54, 55, 56, 57, 58, 59, 60, 66, 67, 68, 69, 70, 71, 72, 73, 74, 75, 76, 77, 78] (by decide +kernel) (by decide +kernel)
set_option maxRecDepth 20000 in
theorem gX5_comes_X5_comesTo : GoodIn wsX5_comes (wsV RX5 156 RX5 yX5_comesTo wsX5_comesTo) := goodIn_app (goodIn_of _ (by decide +kernel)) ggX5_comes_X5_comesTo
set_option maxRecDepth 20000 in
theorem ggX5_comes_X5_no : GoodIn wsX5_comes wsX5_no := goodIn_r _ [64, 65, 66, 67, 68, 69, 70, 71, 72, 73, 74, 75, 76, 77, 78] (by decide +kernel) (by decide +kernel)
set_option maxRecDepth 20000 in
theorem gX5_comes_X5_no : GoodIn wsX5_comes (wsV RX5 35 RX5 yX5_no wsX5_no) := goodIn_app (goodIn_of _ (by decide +kernel)) ggX5_comes_X5_no
theorem dX5_comes_0 : decode cX5_comes 0 = .ok (.aload_n 0, 1) := by decide +kernel
theorem dX5_comes_1 : decode cX5_comes 1 = .ok (.iload_n 1, 1) := by decide +kernel
theorem dX5_comes_2 : decode cX5_comes 2 = .ok (.invokevirtual 115, 3) := by decide +kernel
theorem dX5_comes_5 : decode cX5_comes 5 = .ok (.ifCond .eq 11, 3) := by decide +kernel
theorem dX5_comes_8 : decode cX5_comes 8 = .ok (.aload_n 0, 1) := by decide +kernel
theorem dX5_comes_9 : decode cX5_comes 9 = .ok (.iload_n 1, 1) := by decide +kernel
theorem dX5_comes_10 : decode cX5_comes 10 = .ok (.invokevirtual 156, 3) := by decide +kernel
theorem dX5_comes_13 : decode cX5_comes 13 = .ok (.goto 8, 3) := by decide +kernel
theorem dX5_comes_16 : decode cX5_comes 16 = .ok (.aload_n 0, 1) := by decide +kernel
theorem dX5_comes_17 : decode cX5_comes 17 = .ok (.iconst (-1), 1) := by decide +kernel
theorem dX5_comes_18 : decode cX5_comes 18 = .ok (.invokevirtual 35, 3) := by decide +kernel
theorem dX5_comes_21 : decode cX5_comes 21 = .ok (.ireturn, 1) := by decide +kernel
theorem dX5_placeAt_0 : decode cX5_placeAt 0 = .ok (.iconst 0, 1) := by decide +kernel
theorem dX5_placeAt_1 : decode cX5_placeAt 1 = .ok (.istore_n 1, 1) := by decide +kernel
theorem dX5_placeAt_2 : decode cX5_placeAt 2 = .ok (.iload_n 1, 1) := by decide +kernel
theorem dX5_placeAt_3 : decode cX5_placeAt 3 = .ok (.aload_n 0, 1) := by decide +kernel
theorem dX5_placeAt_4 : decode cX5_placeAt 4 = .ok (.iconst 0, 1) := by decide +kernel
theorem dX5_placeAt_5 : decode cX5_placeAt 5 = .ok (.iaload, 1) := by decide +kernel
theorem dX5_placeAt_6 : decode cX5_placeAt 6 = .ok (.if_icmp .ge 22, 3) := by decide +kernel
theorem dX5_placeAt_9 : decode cX5_placeAt 9 = .ok (.aload_n 0, 1) := by decide +kernel
theorem dX5_placeAt_10 : decode cX5_placeAt 10 = .ok (.iconst 4, 1) := by decide +kernel
theorem dX5_placeAt_11 : decode cX5_placeAt 11 = .ok (.iload_n 1, 1) := by decide +kernel
theorem dX5_placeAt_12 : decode cX5_placeAt 12 = .ok (.iadd, 1) := by decide +kernel
theorem dX5_placeAt_13 : decode cX5_placeAt 13 = .ok (.iaload, 1) := by decide +kernel
theorem dX5_placeAt_14 : decode cX5_placeAt 14 = .ok (.aload_n 0, 1) := by decide +kernel
theorem dX5_placeAt_15 : decode cX5_placeAt 15 = .ok (.iconst 3, 1) := by decide +kernel
theorem dX5_placeAt_16 : decode cX5_placeAt 16 = .ok (.iaload, 1) := by decide +kernel
theorem dX5_placeAt_17 : decode cX5_placeAt 17 = .ok (.if_icmp .ne 5, 3) := by decide +kernel
theorem dX5_placeAt_20 : decode cX5_placeAt 20 = .ok (.iload_n 1, 1) := by decide +kernel
theorem dX5_placeAt_21 : decode cX5_placeAt 21 = .ok (.ireturn, 1) := by decide +kernel
theorem dX5_placeAt_22 : decode cX5_placeAt 22 = .ok (.iinc 1 1, 3) := by decide +kernel
theorem dX5_placeAt_25 : decode cX5_placeAt 25 = .ok (.goto (-23), 3) := by decide +kernel
theorem dX5_placeAt_28 : decode cX5_placeAt 28 = .ok (.bipush (-9), 2) := by decide +kernel
theorem dX5_placeAt_30 : decode cX5_placeAt 30 = .ok (.ireturn, 1) := by decide +kernel
set_option maxRecDepth 20000 in
theorem ggX5_door_X5_isIn : GoodIn wsX5_door wsX5_isIn := goodIn_r _ [6] (by decide +kernel) (by decide +kernel)
set_option maxRecDepth 20000 in
theorem gX5_door_X5_isIn : GoodIn wsX5_door (va_wsS RX5 41 yX5_isIn wsX5_isIn) := goodIn_app (goodIn_of _ (by decide +kernel)) ggX5_door_X5_isIn
set_option maxRecDepth 20000 in
theorem ggX5_door_X5_no : GoodIn wsX5_door wsX5_no := goodIn_r _ [10, 11, 57, 58, 59, 60, 61, 62, 63, 64, 65, 66, 67, 68, 69] (by decide +kernel) (by decide +kernel)
set_option maxRecDepth 20000 in
theorem gX5_door_X5_no : GoodIn wsX5_door (wsV RX5 35 RX5 yX5_no wsX5_no) := goodIn_app (goodIn_of _ (by decide +kernel)) ggX5_door_X5_no
set_option maxRecDepth 20000 in
theorem ggX5_door_X5_copies : GoodIn wsX5_door wsX5_copies := goodIn_r _ [14] (by decide +kernel) (by decide +kernel)
set_option maxRecDepth 20000 in
theorem gX5_door_X5_copies : GoodIn wsX5_door (va_wsS RX5 135 yX5_copies wsX5_copies) := goodIn_app (goodIn_of _ (by decide +kernel)) ggX5_door_X5_copies
set_option maxRecDepth 20000 in
theorem ggX5_door_X5_needleIn : GoodIn wsX5_door wsX5_needleIn := goodIn_r _ [17, 18, 19, 5, 20, 21, 22, 23, 24, 25, 26, 27, 28, 29, 30, 31, 32, 33, 34, 35, 36, 37, 38, 39, 40, 41, 42, 43, 44, 45, 46, 47] (by decide +kernel) (by decide +kernel)
set_option maxRecDepth 20000 in
theorem gX5_door_X5_needleIn : GoodIn wsX5_door (va_wsS RX5 79 yX5_needleIn wsX5_needleIn) := goodIn_app (goodIn_of _ (by decide +kernel)) ggX5_door_X5_needleIn
set_option maxRecDepth 20000 in
theorem ggX5_door_X5_placeAt : GoodIn wsX5_door wsX5_placeAt := goodIn_r _ [50] (by decide +kernel) (by decide +kernel)
set_option maxRecDepth 20000 in
theorem gX5_door_X5_placeAt : GoodIn wsX5_door (va_wsS RX5 159 yX5_placeAt wsX5_placeAt) := goodIn_app (goodIn_of _ (by decide +kernel)) ggX5_door_X5_placeAt
set_option maxRecDepth 20000 in
theorem ggX5_door_X5_wayFrom : GoodIn wsX5_door wsX5_wayFrom := goodIn_r _ [53] (by decide +kernel) (by decide +kernel)
set_option maxRecDepth 20000 in
theorem gX5_door_X5_wayFrom : GoodIn wsX5_door (va_wsS RX5 82 yX5_wayFrom wsX5_wayFrom) := goodIn_app (goodIn_of _ (by decide +kernel)) ggX5_door_X5_wayFrom
set_option maxRecDepth 20000 in
theorem ggX5_door_X5_day : GoodIn wsX5_door wsX5_day := goodIn_r _ [56, 15, 16, 5, 17, 18, 19, 20, 21, 22, 23, 24, 25, 26, 27, 28, 29, 30, 31, 32, 33, 34, 35, 36, 37, 38, 39, 40, 41, 42, 43, 44, 45, 46, 47, 51, 52, 53] (by decide +kernel) (by decide +kernel)
set_option maxRecDepth 20000 in
theorem gX5_door_X5_day : GoodIn wsX5_door (va_wsS RX5 85 yX5_day wsX5_day) := goodIn_app (goodIn_of _ (by decide +kernel)) ggX5_door_X5_day
theorem dX5_door_0 : decode cX5_door 0 = .ok (.iload_n 1, 1) := by decide +kernel
theorem dX5_door_1 : decode cX5_door 1 = .ok (.iconst 0, 1) := by decide +kernel
theorem dX5_door_2 : decode cX5_door 2 = .ok (.iconst 2, 1) := by decide +kernel
theorem dX5_door_3 : decode cX5_door 3 = .ok (.invokestatic 41, 3) := by decide +kernel
theorem dX5_door_6 : decode cX5_door 6 = .ok (.ifCond .ne 10, 3) := by decide +kernel
theorem dX5_door_9 : decode cX5_door 9 = .ok (.aload_n 0, 1) := by decide +kernel
theorem dX5_door_10 : decode cX5_door 10 = .ok (.bipush (-2), 2) := by decide +kernel
theorem dX5_door_12 : decode cX5_door 12 = .ok (.invokevirtual 35, 3) := by decide +kernel
theorem dX5_door_15 : decode cX5_door 15 = .ok (.ireturn, 1) := by decide +kernel
theorem dX5_door_16 : decode cX5_door 16 = .ok (.aload_n 0, 1) := by decide +kernel
theorem dX5_door_17 : decode cX5_door 17 = .ok (.getfield 9, 3) := by decide +kernel
theorem dX5_door_20 : decode cX5_door 20 = .ok (.aload_n 0, 1) := by decide +kernel
theorem dX5_door_21 : decode cX5_door 21 = .ok (.getfield 13, 3) := by decide +kernel
theorem dX5_door_24 : decode cX5_door 24 = .ok (.invokestatic 135, 3) := by decide +kernel
theorem dX5_door_27 : decode cX5_door 27 = .ok (.iconst 0, 1) := by decide +kernel
theorem dX5_door_28 : decode cX5_door 28 = .ok (.istore_n 2, 1) := by decide +kernel
theorem dX5_door_29 : decode cX5_door 29 = .ok (.iload_n 2, 1) := by decide +kernel
theorem dX5_door_30 : decode cX5_door 30 = .ok (.bipush 60, 2) := by decide +kernel
theorem dX5_door_32 : decode cX5_door 32 = .ok (.if_icmp .gt 84, 3) := by decide +kernel
theorem dX5_door_35 : decode cX5_door 35 = .ok (.aload_n 0, 1) := by decide +kernel
theorem dX5_door_36 : decode cX5_door 36 = .ok (.getfield 13, 3) := by decide +kernel
theorem dX5_door_39 : decode cX5_door 39 = .ok (.bipush (-9), 2) := by decide +kernel
theorem dX5_door_41 : decode cX5_door 41 = .ok (.invokestatic 79, 3) := by decide +kernel
theorem dX5_door_44 : decode cX5_door 44 = .ok (.istore_n 3, 1) := by decide +kernel
theorem dX5_door_45 : decode cX5_door 45 = .ok (.iload_n 1, 1) := by decide +kernel
theorem dX5_door_46 : decode cX5_door 46 = .ok (.ifCond .ne 21, 3) := by decide +kernel
theorem dX5_door_49 : decode cX5_door 49 = .ok (.aload_n 0, 1) := by decide +kernel
theorem dX5_door_50 : decode cX5_door 50 = .ok (.getfield 13, 3) := by decide +kernel
theorem dX5_door_53 : decode cX5_door 53 = .ok (.invokestatic 159, 3) := by decide +kernel
theorem dX5_door_56 : decode cX5_door 56 = .ok (.ifCond .lt 11, 3) := by decide +kernel
theorem dX5_door_59 : decode cX5_door 59 = .ok (.aload_n 0, 1) := by decide +kernel
theorem dX5_door_60 : decode cX5_door 60 = .ok (.getfield 13, 3) := by decide +kernel
theorem dX5_door_63 : decode cX5_door 63 = .ok (.invokestatic 159, 3) := by decide +kernel
theorem dX5_door_66 : decode cX5_door 66 = .ok (.ireturn, 1) := by decide +kernel
theorem dX5_door_67 : decode cX5_door 67 = .ok (.iload_n 1, 1) := by decide +kernel
theorem dX5_door_68 : decode cX5_door 68 = .ok (.iconst 1, 1) := by decide +kernel
theorem dX5_door_69 : decode cX5_door 69 = .ok (.if_icmp .ne 7, 3) := by decide +kernel
theorem dX5_door_72 : decode cX5_door 72 = .ok (.iload_n 3, 1) := by decide +kernel
theorem dX5_door_73 : decode cX5_door 73 = .ok (.ifCond .lt 27, 3) := by decide +kernel
theorem dX5_door_76 : decode cX5_door 76 = .ok (.iload_n 1, 1) := by decide +kernel
theorem dX5_door_77 : decode cX5_door 77 = .ok (.iconst 2, 1) := by decide +kernel
theorem dX5_door_78 : decode cX5_door 78 = .ok (.if_icmp .ne 24, 3) := by decide +kernel
theorem dX5_door_81 : decode cX5_door 81 = .ok (.aload_n 0, 1) := by decide +kernel
theorem dX5_door_82 : decode cX5_door 82 = .ok (.getfield 13, 3) := by decide +kernel
theorem dX5_door_85 : decode cX5_door 85 = .ok (.iconst 3, 1) := by decide +kernel
theorem dX5_door_86 : decode cX5_door 86 = .ok (.iaload, 1) := by decide +kernel
theorem dX5_door_87 : decode cX5_door 87 = .ok (.iload_n 3, 1) := by decide +kernel
theorem dX5_door_88 : decode cX5_door 88 = .ok (.invokestatic 82, 3) := by decide +kernel
theorem dX5_door_91 : decode cX5_door 91 = .ok (.aload_n 0, 1) := by decide +kernel
theorem dX5_door_92 : decode cX5_door 92 = .ok (.getfield 13, 3) := by decide +kernel
theorem dX5_door_95 : decode cX5_door 95 = .ok (.iconst 3, 1) := by decide +kernel
theorem dX5_door_96 : decode cX5_door 96 = .ok (.iaload, 1) := by decide +kernel
theorem dX5_door_97 : decode cX5_door 97 = .ok (.if_icmp .ne 5, 3) := by decide +kernel
theorem dX5_door_100 : decode cX5_door 100 = .ok (.iload_n 2, 1) := by decide +kernel
theorem dX5_door_101 : decode cX5_door 101 = .ok (.ireturn, 1) := by decide +kernel
theorem dX5_door_102 : decode cX5_door 102 = .ok (.aload_n 0, 1) := by decide +kernel
theorem dX5_door_103 : decode cX5_door 103 = .ok (.getfield 13, 3) := by decide +kernel
theorem dX5_door_106 : decode cX5_door 106 = .ok (.iconst 0, 1) := by decide +kernel
theorem dX5_door_107 : decode cX5_door 107 = .ok (.invokestatic 85, 3) := by decide +kernel
theorem dX5_door_110 : decode cX5_door 110 = .ok (.iinc 2 1, 3) := by decide +kernel
theorem dX5_door_113 : decode cX5_door 113 = .ok (.goto (-84), 3) := by decide +kernel
theorem dX5_door_116 : decode cX5_door 116 = .ok (.bipush (-9), 2) := by decide +kernel
theorem dX5_door_118 : decode cX5_door 118 = .ok (.ireturn, 1) := by decide +kernel
set_option maxRecDepth 20000 in
theorem ggX5_wrongFor_X5_isPlace : GoodIn wsX5_wrongFor wsX5_isPlace := goodIn_r _ [5, 6, 7, 8, 4, 9, 13, 14, 15, 16, 17, 18, 19, 20, 21, 22, 23, 24, 25] (by decide +kernel) (by decide +kernel)
set_option maxRecDepth 20000 in
theorem gX5_wrongFor_X5_isPlace : GoodIn wsX5_wrongFor (wsV RX5 115 RX5 yX5_isPlace wsX5_isPlace) := goodIn_app (goodIn_of _ (by decide +kernel)) ggX5_wrongFor_X5_isPlace
set_option maxRecDepth 20000 in
theorem ggX5_wrongFor_X5_wrongBy : GoodIn wsX5_wrongFor wsX5_wrongBy := goodIn_r _ [12] (by decide +kernel) (by decide +kernel)
set_option maxRecDepth 20000 in
theorem gX5_wrongFor_X5_wrongBy : GoodIn wsX5_wrongFor (va_wsS RX5 145 yX5_wrongBy wsX5_wrongBy) := goodIn_app (goodIn_of _ (by decide +kernel)) ggX5_wrongFor_X5_wrongBy
theorem dX5_wrongFor_0 : decode cX5_wrongFor 0 = .ok (.aload_n 0, 1) := by decide +kernel
theorem dX5_wrongFor_1 : decode cX5_wrongFor 1 = .ok (.iload_n 1, 1) := by decide +kernel
theorem dX5_wrongFor_2 : decode cX5_wrongFor 2 = .ok (.invokevirtual 115, 3) := by decide +kernel
theorem dX5_wrongFor_5 : decode cX5_wrongFor 5 = .ok (.ifCond .eq 13, 3) := by decide +kernel
theorem dX5_wrongFor_8 : decode cX5_wrongFor 8 = .ok (.iload_n 2, 1) := by decide +kernel
theorem dX5_wrongFor_9 : decode cX5_wrongFor 9 = .ok (.iconst 0, 1) := by decide +kernel
theorem dX5_wrongFor_10 : decode cX5_wrongFor 10 = .ok (.bipush 30, 2) := by decide +kernel
theorem dX5_wrongFor_12 : decode cX5_wrongFor 12 = .ok (.invokestatic 145, 3) := by decide +kernel
theorem dX5_wrongFor_15 : decode cX5_wrongFor 15 = .ok (.goto 4, 3) := by decide +kernel
theorem dX5_wrongFor_18 : decode cX5_wrongFor 18 = .ok (.iconst (-1), 1) := by decide +kernel
theorem dX5_wrongFor_19 : decode cX5_wrongFor 19 = .ok (.ireturn, 1) := by decide +kernel
set_option maxRecDepth 20000 in
theorem ggX5_crew_X5_wrongFor : GoodIn wsX5_crew wsX5_wrongFor := goodIn_r _ [7, 8, 9, 10, 6, 11, 1, 12, 13, 14, 15, 16, 17, 72, 73, 74, 75, 76, 77, 78, 79, 80, 81, 82, 83, 84] (by decide +kernel) (by decide +kernel)
set_option maxRecDepth 20000 in
theorem gX5_crew_X5_wrongFor : GoodIn wsX5_crew (wsV RX5 163 RX5 yX5_wrongFor wsX5_wrongFor) := goodIn_app (goodIn_of _ (by decide +kernel)) ggX5_crew_X5_wrongFor
set_option maxRecDepth 20000 in
theorem ggX5_crew_X5_no : GoodIn wsX5_crew wsX5_no := goodIn_r _ [21, 22, 72, 73, 74, 75, 76, 77, 78, 79, 80, 81, 82, 83, 84] (by decide +kernel) (by decide +kernel)
set_option maxRecDepth 20000 in
theorem gX5_crew_X5_no : GoodIn wsX5_crew (wsV RX5 35 RX5 yX5_no wsX5_no) := goodIn_app (goodIn_of _ (by decide +kernel)) ggX5_crew_X5_no
set_option maxRecDepth 20000 in
theorem ggX5_crew_X5_bits : GoodIn wsX5_crew wsX5_bits := goodIn_r _ [25] (by decide +kernel) (by decide +kernel)
set_option maxRecDepth 20000 in
theorem gX5_crew_X5_bits : GoodIn wsX5_crew (va_wsS RX5 166 yX5_bits wsX5_bits) := goodIn_app (goodIn_of _ (by decide +kernel)) ggX5_crew_X5_bits
set_option maxRecDepth 20000 in
theorem ggX5_crew_X5_copies : GoodIn wsX5_crew wsX5_copies := goodIn_r _ [28] (by decide +kernel) (by decide +kernel)
set_option maxRecDepth 20000 in
theorem gX5_crew_X5_copies : GoodIn wsX5_crew (va_wsS RX5 135 yX5_copies wsX5_copies) := goodIn_app (goodIn_of _ (by decide +kernel)) ggX5_crew_X5_copies
set_option maxRecDepth 20000 in
theorem ggX5_crew_X5_of : GoodIn wsX5_crew wsX5_of := goodIn_r _ [31] (by decide +kernel) (by decide +kernel)
set_option maxRecDepth 20000 in
theorem gX5_crew_X5_of : GoodIn wsX5_crew (va_wsS RX5 48 yX5_of wsX5_of) := goodIn_app (goodIn_of _ (by decide +kernel)) ggX5_crew_X5_of
set_option maxRecDepth 20000 in
theorem ggX5_crew_X5_comesIn : GoodIn wsX5_crew wsX5_comesIn := goodIn_r _ [35, 2, 36, 37, 6, 38, 39, 40, 41, 42, 43, 44, 45, 46, 47, 29, 30, 31, 48, 49, 50, 51, 52, 53, 54, 55, 56, 57, 58, 59, 60, 61, 62, 63, 64, 65, 66, 67, 68, 69, 70, 71, 72, 73, 74, 75, 76, 77, 78, 79, 80, 81, 82, 83, 84] (by decide +kernel) (by decide +kernel)
set_option maxRecDepth 20000 in
theorem gX5_crew_X5_comesIn : GoodIn wsX5_crew (wsV RX5 153 RX5 yX5_comesIn wsX5_comesIn) := goodIn_app (goodIn_of _ (by decide +kernel)) ggX5_crew_X5_comesIn
theorem dX5_crew_0 : decode cX5_crew 0 = .ok (.aload_n 0, 1) := by decide +kernel
theorem dX5_crew_1 : decode cX5_crew 1 = .ok (.iload_n 1, 1) := by decide +kernel
theorem dX5_crew_2 : decode cX5_crew 2 = .ok (.iload_n 2, 1) := by decide +kernel
theorem dX5_crew_3 : decode cX5_crew 3 = .ok (.invokevirtual 163, 3) := by decide +kernel
theorem dX5_crew_6 : decode cX5_crew 6 = .ok (.istore_n 3, 1) := by decide +kernel
theorem dX5_crew_7 : decode cX5_crew 7 = .ok (.iload_n 3, 1) := by decide +kernel
theorem dX5_crew_8 : decode cX5_crew 8 = .ok (.ifCond .eq 9, 3) := by decide +kernel
theorem dX5_crew_11 : decode cX5_crew 11 = .ok (.aload_n 0, 1) := by decide +kernel
theorem dX5_crew_12 : decode cX5_crew 12 = .ok (.iload_n 3, 1) := by decide +kernel
theorem dX5_crew_13 : decode cX5_crew 13 = .ok (.invokevirtual 35, 3) := by decide +kernel
theorem dX5_crew_16 : decode cX5_crew 16 = .ok (.ireturn, 1) := by decide +kernel
theorem dX5_crew_17 : decode cX5_crew 17 = .ok (.bipush (-9), 2) := by decide +kernel
theorem dX5_crew_19 : decode cX5_crew 19 = .ok (.istore 4, 2) := by decide +kernel
theorem dX5_crew_21 : decode cX5_crew 21 = .ok (.iconst 0, 1) := by decide +kernel
theorem dX5_crew_22 : decode cX5_crew 22 = .ok (.istore 5, 2) := by decide +kernel
theorem dX5_crew_24 : decode cX5_crew 24 = .ok (.iload 5, 2) := by decide +kernel
theorem dX5_crew_26 : decode cX5_crew 26 = .ok (.iconst 1, 1) := by decide +kernel
theorem dX5_crew_27 : decode cX5_crew 27 = .ok (.aload_n 0, 1) := by decide +kernel
theorem dX5_crew_28 : decode cX5_crew 28 = .ok (.getfield 9, 3) := by decide +kernel
theorem dX5_crew_31 : decode cX5_crew 31 = .ok (.iconst 1, 1) := by decide +kernel
theorem dX5_crew_32 : decode cX5_crew 32 = .ok (.iaload, 1) := by decide +kernel
theorem dX5_crew_33 : decode cX5_crew 33 = .ok (.ishl, 1) := by decide +kernel
theorem dX5_crew_34 : decode cX5_crew 34 = .ok (.if_icmp .ge 99, 3) := by decide +kernel
theorem dX5_crew_37 : decode cX5_crew 37 = .ok (.iload 4, 2) := by decide +kernel
theorem dX5_crew_39 : decode cX5_crew 39 = .ok (.ifCond .lt 19, 3) := by decide +kernel
theorem dX5_crew_42 : decode cX5_crew 42 = .ok (.iload 5, 2) := by decide +kernel
theorem dX5_crew_44 : decode cX5_crew 44 = .ok (.invokestatic 166, 3) := by decide +kernel
theorem dX5_crew_47 : decode cX5_crew 47 = .ok (.iload 4, 2) := by decide +kernel
theorem dX5_crew_49 : decode cX5_crew 49 = .ok (.invokestatic 166, 3) := by decide +kernel
theorem dX5_crew_52 : decode cX5_crew 52 = .ok (.if_icmp .lt 6, 3) := by decide +kernel
theorem dX5_crew_55 : decode cX5_crew 55 = .ok (.goto 72, 3) := by decide +kernel
theorem dX5_crew_58 : decode cX5_crew 58 = .ok (.aload_n 0, 1) := by decide +kernel
theorem dX5_crew_59 : decode cX5_crew 59 = .ok (.getfield 9, 3) := by decide +kernel
theorem dX5_crew_62 : decode cX5_crew 62 = .ok (.aload_n 0, 1) := by decide +kernel
theorem dX5_crew_63 : decode cX5_crew 63 = .ok (.getfield 13, 3) := by decide +kernel
theorem dX5_crew_66 : decode cX5_crew 66 = .ok (.invokestatic 135, 3) := by decide +kernel
theorem dX5_crew_69 : decode cX5_crew 69 = .ok (.iconst 0, 1) := by decide +kernel
theorem dX5_crew_70 : decode cX5_crew 70 = .ok (.istore 6, 2) := by decide +kernel
theorem dX5_crew_72 : decode cX5_crew 72 = .ok (.iload 6, 2) := by decide +kernel
theorem dX5_crew_74 : decode cX5_crew 74 = .ok (.aload_n 0, 1) := by decide +kernel
theorem dX5_crew_75 : decode cX5_crew 75 = .ok (.getfield 9, 3) := by decide +kernel
theorem dX5_crew_78 : decode cX5_crew 78 = .ok (.iconst 1, 1) := by decide +kernel
theorem dX5_crew_79 : decode cX5_crew 79 = .ok (.iaload, 1) := by decide +kernel
theorem dX5_crew_80 : decode cX5_crew 80 = .ok (.if_icmp .ge 27, 3) := by decide +kernel
theorem dX5_crew_83 : decode cX5_crew 83 = .ok (.aload_n 0, 1) := by decide +kernel
theorem dX5_crew_84 : decode cX5_crew 84 = .ok (.getfield 13, 3) := by decide +kernel
theorem dX5_crew_87 : decode cX5_crew 87 = .ok (.iload 6, 2) := by decide +kernel
theorem dX5_crew_89 : decode cX5_crew 89 = .ok (.iconst 4, 1) := by decide +kernel
theorem dX5_crew_90 : decode cX5_crew 90 = .ok (.invokestatic 48, 3) := by decide +kernel
theorem dX5_crew_93 : decode cX5_crew 93 = .ok (.iload 5, 2) := by decide +kernel
theorem dX5_crew_95 : decode cX5_crew 95 = .ok (.iload 6, 2) := by decide +kernel
theorem dX5_crew_97 : decode cX5_crew 97 = .ok (.ishr, 1) := by decide +kernel
theorem dX5_crew_98 : decode cX5_crew 98 = .ok (.iconst 1, 1) := by decide +kernel
theorem dX5_crew_99 : decode cX5_crew 99 = .ok (.iand, 1) := by decide +kernel
theorem dX5_crew_100 : decode cX5_crew 100 = .ok (.iastore, 1) := by decide +kernel
theorem dX5_crew_101 : decode cX5_crew 101 = .ok (.iinc 6 1, 3) := by decide +kernel
theorem dX5_crew_104 : decode cX5_crew 104 = .ok (.goto (-32), 3) := by decide +kernel
theorem dX5_crew_107 : decode cX5_crew 107 = .ok (.aload_n 0, 1) := by decide +kernel
theorem dX5_crew_108 : decode cX5_crew 108 = .ok (.aload_n 0, 1) := by decide +kernel
theorem dX5_crew_109 : decode cX5_crew 109 = .ok (.getfield 9, 3) := by decide +kernel
theorem dX5_crew_112 : decode cX5_crew 112 = .ok (.iconst 4, 1) := by decide +kernel
theorem dX5_crew_113 : decode cX5_crew 113 = .ok (.iload_n 1, 1) := by decide +kernel
theorem dX5_crew_114 : decode cX5_crew 114 = .ok (.iadd, 1) := by decide +kernel
theorem dX5_crew_115 : decode cX5_crew 115 = .ok (.iaload, 1) := by decide +kernel
theorem dX5_crew_116 : decode cX5_crew 116 = .ok (.iload_n 2, 1) := by decide +kernel
theorem dX5_crew_117 : decode cX5_crew 117 = .ok (.invokevirtual 153, 3) := by decide +kernel
theorem dX5_crew_120 : decode cX5_crew 120 = .ok (.ifCond .lt 7, 3) := by decide +kernel
theorem dX5_crew_123 : decode cX5_crew 123 = .ok (.iload 5, 2) := by decide +kernel
theorem dX5_crew_125 : decode cX5_crew 125 = .ok (.istore 4, 2) := by decide +kernel
theorem dX5_crew_127 : decode cX5_crew 127 = .ok (.iinc 5 1, 3) := by decide +kernel
theorem dX5_crew_130 : decode cX5_crew 130 = .ok (.goto (-106), 3) := by decide +kernel
theorem dX5_crew_133 : decode cX5_crew 133 = .ok (.iload 4, 2) := by decide +kernel
theorem dX5_crew_135 : decode cX5_crew 135 = .ok (.ireturn, 1) := by decide +kernel
theorem dX5_orNever_0 : decode cX5_orNever 0 = .ok (.iload_n 0, 1) := by decide +kernel
theorem dX5_orNever_1 : decode cX5_orNever 1 = .ok (.ifCond .ge 8, 3) := by decide +kernel
theorem dX5_orNever_4 : decode cX5_orNever 4 = .ok (.bipush 61, 2) := by decide +kernel
theorem dX5_orNever_6 : decode cX5_orNever 6 = .ok (.goto 4, 3) := by decide +kernel
theorem dX5_orNever_9 : decode cX5_orNever 9 = .ok (.iload_n 0, 1) := by decide +kernel
theorem dX5_orNever_10 : decode cX5_orNever 10 = .ok (.ireturn, 1) := by decide +kernel
set_option maxRecDepth 20000 in
theorem ggX5_ashore_X5_isPlace : GoodIn wsX5_ashore wsX5_isPlace := goodIn_r _ [7, 1, 8, 9, 6, 10, 69, 70, 71, 72, 73, 74, 75, 76, 77, 78, 79, 80, 81] (by decide +kernel) (by decide +kernel)
set_option maxRecDepth 20000 in
theorem gX5_ashore_X5_isPlace : GoodIn wsX5_ashore (wsV RX5 115 RX5 yX5_isPlace wsX5_isPlace) := goodIn_app (goodIn_of _ (by decide +kernel)) ggX5_ashore_X5_isPlace
set_option maxRecDepth 20000 in
theorem ggX5_ashore_X5_no : GoodIn wsX5_ashore wsX5_no := goodIn_r _ [14, 15, 69, 70, 71, 72, 73, 74, 75, 76, 77, 78, 79, 80, 81] (by decide +kernel) (by decide +kernel)
set_option maxRecDepth 20000 in
theorem gX5_ashore_X5_no : GoodIn wsX5_ashore (wsV RX5 35 RX5 yX5_no wsX5_no) := goodIn_app (goodIn_of _ (by decide +kernel)) ggX5_ashore_X5_no
set_option maxRecDepth 20000 in
theorem ggX5_ashore_X5_comesTo : GoodIn wsX5_ashore wsX5_comesTo := goodIn_r _ [19, 1, 2, 20, 21, 6, 22, 23, 24, 25, 26, 27, 28, 29, 30, 31, 32, 33, 34, 35, 36, 37, 38, 39, 40, 41, 42, 43, 44, 45, 46, 47, 48, 49, 50, 51, 52, 53, 54, 55, 56, 57, 58, 59, 60, 61, 62, 63, 64, 65, 69, 70, 71, 72, 73, 74, 75, 76, 77, 78, 79, 80, 81] (by decide +kernel) (by decide +kernel)
set_option maxRecDepth 20000 in
theorem gX5_ashore_X5_comesTo : GoodIn wsX5_ashore (wsV RX5 156 RX5 yX5_comesTo wsX5_comesTo) := goodIn_app (goodIn_of _ (by decide +kernel)) ggX5_ashore_X5_comesTo
set_option maxRecDepth 20000 in
theorem ggX5_ashore_X5_orNever : GoodIn wsX5_ashore wsX5_orNever := goodIn_r _ [68] (by decide +kernel) (by decide +kernel)
set_option maxRecDepth 20000 in
theorem gX5_ashore_X5_orNever : GoodIn wsX5_ashore (va_wsS RX5 169 yX5_orNever wsX5_orNever) := goodIn_app (goodIn_of _ (by decide +kernel)) ggX5_ashore_X5_orNever
set_option maxRecDepth 20000 in
theorem ggX5_ashore_X5_copies : GoodIn wsX5_ashore wsX5_copies := goodIn_r _ [22] (by decide +kernel) (by decide +kernel)
set_option maxRecDepth 20000 in
theorem gX5_ashore_X5_copies : GoodIn wsX5_ashore (va_wsS RX5 135 yX5_copies wsX5_copies) := goodIn_app (goodIn_of _ (by decide +kernel)) ggX5_ashore_X5_copies
set_option maxRecDepth 20000 in
theorem ggX5_ashore_X5_of : GoodIn wsX5_ashore wsX5_of := goodIn_r _ [41] (by decide +kernel) (by decide +kernel)
set_option maxRecDepth 20000 in
theorem gX5_ashore_X5_of : GoodIn wsX5_ashore (va_wsS RX5 48 yX5_of wsX5_of) := goodIn_app (goodIn_of _ (by decide +kernel)) ggX5_ashore_X5_of
set_option maxRecDepth 20000 in
theorem ggX5_ashore_X5_comesIn : GoodIn wsX5_ashore wsX5_comesIn := goodIn_r _ [26, 2, 27, 28, 6, 29, 30, 31, 32, 33, 34, 35, 36, 37, 38, 39, 40, 41, 42, 43, 44, 45, 46, 47, 48, 49, 50, 51, 52, 53, 54, 55, 56, 57, 58, 59, 60, 61, 62, 63, 64, 65, 69, 70, 71, 72, 73, 74, 75, 76, 77, 78, 79, 80, 81] (by decide +kernel) (by decide +kernel)
set_option maxRecDepth 20000 in
theorem gX5_ashore_X5_comesIn : GoodIn wsX5_ashore (wsV RX5 153 RX5 yX5_comesIn wsX5_comesIn) := goodIn_app (goodIn_of _ (by decide +kernel)) ggX5_ashore_X5_comesIn
theorem dX5_ashore_0 : decode cX5_ashore 0 = .ok (.aload_n 0, 1) := by decide +kernel
theorem dX5_ashore_1 : decode cX5_ashore 1 = .ok (.iload_n 1, 1) := by decide +kernel
theorem dX5_ashore_2 : decode cX5_ashore 2 = .ok (.invokevirtual 115, 3) := by decide +kernel
theorem dX5_ashore_5 : decode cX5_ashore 5 = .ok (.ifCond .ne 9, 3) := by decide +kernel
theorem dX5_ashore_8 : decode cX5_ashore 8 = .ok (.aload_n 0, 1) := by decide +kernel
theorem dX5_ashore_9 : decode cX5_ashore 9 = .ok (.iconst (-1), 1) := by decide +kernel
theorem dX5_ashore_10 : decode cX5_ashore 10 = .ok (.invokevirtual 35, 3) := by decide +kernel
theorem dX5_ashore_13 : decode cX5_ashore 13 = .ok (.ireturn, 1) := by decide +kernel
theorem dX5_ashore_14 : decode cX5_ashore 14 = .ok (.aload_n 0, 1) := by decide +kernel
theorem dX5_ashore_15 : decode cX5_ashore 15 = .ok (.iload_n 1, 1) := by decide +kernel
theorem dX5_ashore_16 : decode cX5_ashore 16 = .ok (.invokevirtual 156, 3) := by decide +kernel
theorem dX5_ashore_19 : decode cX5_ashore 19 = .ok (.invokestatic 169, 3) := by decide +kernel
theorem dX5_ashore_22 : decode cX5_ashore 22 = .ok (.istore_n 2, 1) := by decide +kernel
theorem dX5_ashore_23 : decode cX5_ashore 23 = .ok (.bipush (-9), 2) := by decide +kernel
theorem dX5_ashore_25 : decode cX5_ashore 25 = .ok (.istore_n 3, 1) := by decide +kernel
theorem dX5_ashore_26 : decode cX5_ashore 26 = .ok (.iconst 0, 1) := by decide +kernel
theorem dX5_ashore_27 : decode cX5_ashore 27 = .ok (.istore 4, 2) := by decide +kernel
theorem dX5_ashore_29 : decode cX5_ashore 29 = .ok (.iload 4, 2) := by decide +kernel
theorem dX5_ashore_31 : decode cX5_ashore 31 = .ok (.aload_n 0, 1) := by decide +kernel
theorem dX5_ashore_32 : decode cX5_ashore 32 = .ok (.getfield 9, 3) := by decide +kernel
theorem dX5_ashore_35 : decode cX5_ashore 35 = .ok (.iconst 1, 1) := by decide +kernel
theorem dX5_ashore_36 : decode cX5_ashore 36 = .ok (.iaload, 1) := by decide +kernel
theorem dX5_ashore_37 : decode cX5_ashore 37 = .ok (.if_icmp .ge 66, 3) := by decide +kernel
theorem dX5_ashore_40 : decode cX5_ashore 40 = .ok (.aload_n 0, 1) := by decide +kernel
theorem dX5_ashore_41 : decode cX5_ashore 41 = .ok (.getfield 9, 3) := by decide +kernel
theorem dX5_ashore_44 : decode cX5_ashore 44 = .ok (.aload_n 0, 1) := by decide +kernel
theorem dX5_ashore_45 : decode cX5_ashore 45 = .ok (.getfield 13, 3) := by decide +kernel
theorem dX5_ashore_48 : decode cX5_ashore 48 = .ok (.invokestatic 135, 3) := by decide +kernel
theorem dX5_ashore_51 : decode cX5_ashore 51 = .ok (.aload_n 0, 1) := by decide +kernel
theorem dX5_ashore_52 : decode cX5_ashore 52 = .ok (.getfield 13, 3) := by decide +kernel
theorem dX5_ashore_55 : decode cX5_ashore 55 = .ok (.iload 4, 2) := by decide +kernel
theorem dX5_ashore_57 : decode cX5_ashore 57 = .ok (.iconst 4, 1) := by decide +kernel
theorem dX5_ashore_58 : decode cX5_ashore 58 = .ok (.invokestatic 48, 3) := by decide +kernel
theorem dX5_ashore_61 : decode cX5_ashore 61 = .ok (.iconst 0, 1) := by decide +kernel
theorem dX5_ashore_62 : decode cX5_ashore 62 = .ok (.iastore, 1) := by decide +kernel
theorem dX5_ashore_63 : decode cX5_ashore 63 = .ok (.aload_n 0, 1) := by decide +kernel
theorem dX5_ashore_64 : decode cX5_ashore 64 = .ok (.aload_n 0, 1) := by decide +kernel
theorem dX5_ashore_65 : decode cX5_ashore 65 = .ok (.getfield 9, 3) := by decide +kernel
theorem dX5_ashore_68 : decode cX5_ashore 68 = .ok (.iconst 4, 1) := by decide +kernel
theorem dX5_ashore_69 : decode cX5_ashore 69 = .ok (.iload_n 1, 1) := by decide +kernel
theorem dX5_ashore_70 : decode cX5_ashore 70 = .ok (.iadd, 1) := by decide +kernel
theorem dX5_ashore_71 : decode cX5_ashore 71 = .ok (.iaload, 1) := by decide +kernel
theorem dX5_ashore_72 : decode cX5_ashore 72 = .ok (.bipush 60, 2) := by decide +kernel
theorem dX5_ashore_74 : decode cX5_ashore 74 = .ok (.invokevirtual 153, 3) := by decide +kernel
theorem dX5_ashore_77 : decode cX5_ashore 77 = .ok (.invokestatic 169, 3) := by decide +kernel
theorem dX5_ashore_80 : decode cX5_ashore 80 = .ok (.istore 5, 2) := by decide +kernel
theorem dX5_ashore_82 : decode cX5_ashore 82 = .ok (.iload 5, 2) := by decide +kernel
theorem dX5_ashore_84 : decode cX5_ashore 84 = .ok (.iload_n 2, 1) := by decide +kernel
theorem dX5_ashore_85 : decode cX5_ashore 85 = .ok (.if_icmp .lt 6, 3) := by decide +kernel
theorem dX5_ashore_88 : decode cX5_ashore 88 = .ok (.goto 9, 3) := by decide +kernel
theorem dX5_ashore_91 : decode cX5_ashore 91 = .ok (.iload 4, 2) := by decide +kernel
theorem dX5_ashore_93 : decode cX5_ashore 93 = .ok (.istore_n 3, 1) := by decide +kernel
theorem dX5_ashore_94 : decode cX5_ashore 94 = .ok (.iload 5, 2) := by decide +kernel
theorem dX5_ashore_96 : decode cX5_ashore 96 = .ok (.istore_n 2, 1) := by decide +kernel
theorem dX5_ashore_97 : decode cX5_ashore 97 = .ok (.iinc 4 1, 3) := by decide +kernel
theorem dX5_ashore_100 : decode cX5_ashore 100 = .ok (.goto (-71), 3) := by decide +kernel
theorem dX5_ashore_103 : decode cX5_ashore 103 = .ok (.iload_n 3, 1) := by decide +kernel
theorem dX5_ashore_104 : decode cX5_ashore 104 = .ok (.ireturn, 1) := by decide +kernel
set_option maxRecDepth 20000 in
theorem ggX5_letters_X5_wrongFor : GoodIn wsX5_letters wsX5_wrongFor := goodIn_r _ [7, 8, 9, 10, 6, 11, 1, 12, 13, 14, 15, 16, 17, 78, 79, 80, 81, 82, 83, 84, 85, 86, 87, 88, 89, 90] (by decide +kernel) (by decide +kernel)
set_option maxRecDepth 20000 in
theorem gX5_letters_X5_wrongFor : GoodIn wsX5_letters (wsV RX5 163 RX5 yX5_wrongFor wsX5_wrongFor) := goodIn_app (goodIn_of _ (by decide +kernel)) ggX5_letters_X5_wrongFor
set_option maxRecDepth 20000 in
theorem ggX5_letters_X5_no : GoodIn wsX5_letters wsX5_no := goodIn_r _ [21, 22, 78, 79, 80, 81, 82, 83, 84, 85, 86, 87, 88, 89, 90] (by decide +kernel) (by decide +kernel)
set_option maxRecDepth 20000 in
theorem gX5_letters_X5_no : GoodIn wsX5_letters (wsV RX5 35 RX5 yX5_no wsX5_no) := goodIn_app (goodIn_of _ (by decide +kernel)) ggX5_letters_X5_no
set_option maxRecDepth 20000 in
theorem ggX5_letters_X5_bits : GoodIn wsX5_letters wsX5_bits := goodIn_r _ [25] (by decide +kernel) (by decide +kernel)
set_option maxRecDepth 20000 in
theorem gX5_letters_X5_bits : GoodIn wsX5_letters (va_wsS RX5 166 yX5_bits wsX5_bits) := goodIn_app (goodIn_of _ (by decide +kernel)) ggX5_letters_X5_bits
set_option maxRecDepth 20000 in
theorem ggX5_letters_X5_copies : GoodIn wsX5_letters wsX5_copies := goodIn_r _ [28] (by decide +kernel) (by decide +kernel)
set_option maxRecDepth 20000 in
theorem gX5_letters_X5_copies : GoodIn wsX5_letters (va_wsS RX5 135 yX5_copies wsX5_copies) := goodIn_app (goodIn_of _ (by decide +kernel)) ggX5_letters_X5_copies
set_option maxRecDepth 20000 in
theorem ggX5_letters_X5_has : GoodIn wsX5_letters wsX5_has := goodIn_r _ [31] (by decide +kernel) (by decide +kernel)
set_option maxRecDepth 20000 in
theorem gX5_letters_X5_has : GoodIn wsX5_letters (va_wsS RX5 172 yX5_has wsX5_has) := goodIn_app (goodIn_of _ (by decide +kernel)) ggX5_letters_X5_has
set_option maxRecDepth 20000 in
theorem ggX5_letters_X5_dropsIn : GoodIn wsX5_letters wsX5_dropsIn := goodIn_r _ [34, 35, 36, 6, 37] (by decide +kernel) (by decide +kernel)
set_option maxRecDepth 20000 in
theorem gX5_letters_X5_dropsIn : GoodIn wsX5_letters (va_wsS RX5 125 yX5_dropsIn wsX5_dropsIn) := goodIn_app (goodIn_of _ (by decide +kernel)) ggX5_letters_X5_dropsIn
set_option maxRecDepth 20000 in
theorem ggX5_letters_X5_comesIn : GoodIn wsX5_letters wsX5_comesIn := goodIn_r _ [41, 2, 42, 43, 6, 44, 45, 46, 47, 48, 49, 50, 51, 52, 53, 35, 36, 37, 54, 55, 56, 57, 58, 59, 60, 61, 62, 63, 64, 65, 66, 67, 68, 69, 70, 71, 72, 73, 74, 75, 76, 77, 78, 79, 80, 81, 82, 83, 84, 85, 86, 87, 88, 89, 90] (by decide +kernel) (by decide +kernel)
set_option maxRecDepth 20000 in
theorem gX5_letters_X5_comesIn : GoodIn wsX5_letters (wsV RX5 153 RX5 yX5_comesIn wsX5_comesIn) := goodIn_app (goodIn_of _ (by decide +kernel)) ggX5_letters_X5_comesIn
theorem dX5_letters_0 : decode cX5_letters 0 = .ok (.aload_n 0, 1) := by decide +kernel
theorem dX5_letters_1 : decode cX5_letters 1 = .ok (.iload_n 1, 1) := by decide +kernel
theorem dX5_letters_2 : decode cX5_letters 2 = .ok (.iload_n 2, 1) := by decide +kernel
theorem dX5_letters_3 : decode cX5_letters 3 = .ok (.invokevirtual 163, 3) := by decide +kernel
theorem dX5_letters_6 : decode cX5_letters 6 = .ok (.istore_n 3, 1) := by decide +kernel
theorem dX5_letters_7 : decode cX5_letters 7 = .ok (.iload_n 3, 1) := by decide +kernel
theorem dX5_letters_8 : decode cX5_letters 8 = .ok (.ifCond .eq 9, 3) := by decide +kernel
theorem dX5_letters_11 : decode cX5_letters 11 = .ok (.aload_n 0, 1) := by decide +kernel
theorem dX5_letters_12 : decode cX5_letters 12 = .ok (.iload_n 3, 1) := by decide +kernel
theorem dX5_letters_13 : decode cX5_letters 13 = .ok (.invokevirtual 35, 3) := by decide +kernel
theorem dX5_letters_16 : decode cX5_letters 16 = .ok (.ireturn, 1) := by decide +kernel
theorem dX5_letters_17 : decode cX5_letters 17 = .ok (.bipush (-9), 2) := by decide +kernel
theorem dX5_letters_19 : decode cX5_letters 19 = .ok (.istore 4, 2) := by decide +kernel
theorem dX5_letters_21 : decode cX5_letters 21 = .ok (.iconst 0, 1) := by decide +kernel
theorem dX5_letters_22 : decode cX5_letters 22 = .ok (.istore 5, 2) := by decide +kernel
theorem dX5_letters_24 : decode cX5_letters 24 = .ok (.iload 5, 2) := by decide +kernel
theorem dX5_letters_26 : decode cX5_letters 26 = .ok (.iconst 1, 1) := by decide +kernel
theorem dX5_letters_27 : decode cX5_letters 27 = .ok (.aload_n 0, 1) := by decide +kernel
theorem dX5_letters_28 : decode cX5_letters 28 = .ok (.getfield 9, 3) := by decide +kernel
theorem dX5_letters_31 : decode cX5_letters 31 = .ok (.iconst 1, 1) := by decide +kernel
theorem dX5_letters_32 : decode cX5_letters 32 = .ok (.iaload, 1) := by decide +kernel
theorem dX5_letters_33 : decode cX5_letters 33 = .ok (.ishl, 1) := by decide +kernel
theorem dX5_letters_34 : decode cX5_letters 34 = .ok (.if_icmp .ge 100, 3) := by decide +kernel
theorem dX5_letters_37 : decode cX5_letters 37 = .ok (.iload 4, 2) := by decide +kernel
theorem dX5_letters_39 : decode cX5_letters 39 = .ok (.ifCond .lt 19, 3) := by decide +kernel
theorem dX5_letters_42 : decode cX5_letters 42 = .ok (.iload 5, 2) := by decide +kernel
theorem dX5_letters_44 : decode cX5_letters 44 = .ok (.invokestatic 166, 3) := by decide +kernel
theorem dX5_letters_47 : decode cX5_letters 47 = .ok (.iload 4, 2) := by decide +kernel
theorem dX5_letters_49 : decode cX5_letters 49 = .ok (.invokestatic 166, 3) := by decide +kernel
theorem dX5_letters_52 : decode cX5_letters 52 = .ok (.if_icmp .lt 6, 3) := by decide +kernel
theorem dX5_letters_55 : decode cX5_letters 55 = .ok (.goto 73, 3) := by decide +kernel
theorem dX5_letters_58 : decode cX5_letters 58 = .ok (.aload_n 0, 1) := by decide +kernel
theorem dX5_letters_59 : decode cX5_letters 59 = .ok (.getfield 9, 3) := by decide +kernel
theorem dX5_letters_62 : decode cX5_letters 62 = .ok (.aload_n 0, 1) := by decide +kernel
theorem dX5_letters_63 : decode cX5_letters 63 = .ok (.getfield 13, 3) := by decide +kernel
theorem dX5_letters_66 : decode cX5_letters 66 = .ok (.invokestatic 135, 3) := by decide +kernel
theorem dX5_letters_69 : decode cX5_letters 69 = .ok (.iconst 0, 1) := by decide +kernel
theorem dX5_letters_70 : decode cX5_letters 70 = .ok (.istore 6, 2) := by decide +kernel
theorem dX5_letters_72 : decode cX5_letters 72 = .ok (.iload 6, 2) := by decide +kernel
theorem dX5_letters_74 : decode cX5_letters 74 = .ok (.aload_n 0, 1) := by decide +kernel
theorem dX5_letters_75 : decode cX5_letters 75 = .ok (.getfield 9, 3) := by decide +kernel
theorem dX5_letters_78 : decode cX5_letters 78 = .ok (.iconst 1, 1) := by decide +kernel
theorem dX5_letters_79 : decode cX5_letters 79 = .ok (.iaload, 1) := by decide +kernel
theorem dX5_letters_80 : decode cX5_letters 80 = .ok (.if_icmp .ge 28, 3) := by decide +kernel
theorem dX5_letters_83 : decode cX5_letters 83 = .ok (.iload 5, 2) := by decide +kernel
theorem dX5_letters_85 : decode cX5_letters 85 = .ok (.iload 6, 2) := by decide +kernel
theorem dX5_letters_87 : decode cX5_letters 87 = .ok (.invokestatic 172, 3) := by decide +kernel
theorem dX5_letters_90 : decode cX5_letters 90 = .ok (.ifCond .eq 12, 3) := by decide +kernel
theorem dX5_letters_93 : decode cX5_letters 93 = .ok (.aload_n 0, 1) := by decide +kernel
theorem dX5_letters_94 : decode cX5_letters 94 = .ok (.getfield 13, 3) := by decide +kernel
theorem dX5_letters_97 : decode cX5_letters 97 = .ok (.iload 6, 2) := by decide +kernel
theorem dX5_letters_99 : decode cX5_letters 99 = .ok (.invokestatic 125, 3) := by decide +kernel
theorem dX5_letters_102 : decode cX5_letters 102 = .ok (.iinc 6 1, 3) := by decide +kernel
theorem dX5_letters_105 : decode cX5_letters 105 = .ok (.goto (-33), 3) := by decide +kernel
theorem dX5_letters_108 : decode cX5_letters 108 = .ok (.aload_n 0, 1) := by decide +kernel
theorem dX5_letters_109 : decode cX5_letters 109 = .ok (.aload_n 0, 1) := by decide +kernel
theorem dX5_letters_110 : decode cX5_letters 110 = .ok (.getfield 9, 3) := by decide +kernel
theorem dX5_letters_113 : decode cX5_letters 113 = .ok (.iconst 4, 1) := by decide +kernel
theorem dX5_letters_114 : decode cX5_letters 114 = .ok (.iload_n 1, 1) := by decide +kernel
theorem dX5_letters_115 : decode cX5_letters 115 = .ok (.iadd, 1) := by decide +kernel
theorem dX5_letters_116 : decode cX5_letters 116 = .ok (.iaload, 1) := by decide +kernel
theorem dX5_letters_117 : decode cX5_letters 117 = .ok (.iload_n 2, 1) := by decide +kernel
theorem dX5_letters_118 : decode cX5_letters 118 = .ok (.invokevirtual 153, 3) := by decide +kernel
theorem dX5_letters_121 : decode cX5_letters 121 = .ok (.ifCond .lt 7, 3) := by decide +kernel
theorem dX5_letters_124 : decode cX5_letters 124 = .ok (.iload 5, 2) := by decide +kernel
theorem dX5_letters_126 : decode cX5_letters 126 = .ok (.istore 4, 2) := by decide +kernel
theorem dX5_letters_128 : decode cX5_letters 128 = .ok (.iinc 5 1, 3) := by decide +kernel
theorem dX5_letters_131 : decode cX5_letters 131 = .ok (.goto (-107), 3) := by decide +kernel
theorem dX5_letters_134 : decode cX5_letters 134 = .ok (.iload 4, 2) := by decide +kernel
theorem dX5_letters_136 : decode cX5_letters 136 = .ok (.ireturn, 1) := by decide +kernel
set_option maxRecDepth 20000 in
theorem ggX5_turners_X5_isAboard : GoodIn wsX5_turners wsX5_isAboard := goodIn_r _ [5, 6, 7, 4, 8] (by decide +kernel) (by decide +kernel)
set_option maxRecDepth 20000 in
theorem gX5_turners_X5_isAboard : GoodIn wsX5_turners (va_wsS RX5 62 yX5_isAboard wsX5_isAboard) := goodIn_app (goodIn_of _ (by decide +kernel)) ggX5_turners_X5_isAboard
set_option maxRecDepth 20000 in
theorem ggX5_turners_X5_needleIn : GoodIn wsX5_turners wsX5_needleIn := goodIn_r _ [11, 12, 13, 4, 14, 2, 3, 5, 6, 7, 8, 15, 16, 17, 18, 19, 20, 21, 22, 23, 24, 25, 26, 27, 28, 29, 30, 31, 32, 33, 34, 35] (by decide +kernel) (by decide +kernel)
set_option maxRecDepth 20000 in
theorem gX5_turners_X5_needleIn : GoodIn wsX5_turners (va_wsS RX5 79 yX5_needleIn wsX5_needleIn) := goodIn_app (goodIn_of _ (by decide +kernel)) ggX5_turners_X5_needleIn
theorem dX5_turners_0 : decode cX5_turners 0 = .ok (.iconst 0, 1) := by decide +kernel
theorem dX5_turners_1 : decode cX5_turners 1 = .ok (.istore_n 1, 1) := by decide +kernel
theorem dX5_turners_2 : decode cX5_turners 2 = .ok (.iconst 0, 1) := by decide +kernel
theorem dX5_turners_3 : decode cX5_turners 3 = .ok (.istore_n 2, 1) := by decide +kernel
theorem dX5_turners_4 : decode cX5_turners 4 = .ok (.iload_n 2, 1) := by decide +kernel
theorem dX5_turners_5 : decode cX5_turners 5 = .ok (.aload_n 0, 1) := by decide +kernel
theorem dX5_turners_6 : decode cX5_turners 6 = .ok (.getfield 9, 3) := by decide +kernel
theorem dX5_turners_9 : decode cX5_turners 9 = .ok (.iconst 1, 1) := by decide +kernel
theorem dX5_turners_10 : decode cX5_turners 10 = .ok (.iaload, 1) := by decide +kernel
theorem dX5_turners_11 : decode cX5_turners 11 = .ok (.if_icmp .ge 50, 3) := by decide +kernel
theorem dX5_turners_14 : decode cX5_turners 14 = .ok (.iload_n 1, 1) := by decide +kernel
theorem dX5_turners_15 : decode cX5_turners 15 = .ok (.aload_n 0, 1) := by decide +kernel
theorem dX5_turners_16 : decode cX5_turners 16 = .ok (.getfield 9, 3) := by decide +kernel
theorem dX5_turners_19 : decode cX5_turners 19 = .ok (.iload_n 2, 1) := by decide +kernel
theorem dX5_turners_20 : decode cX5_turners 20 = .ok (.invokestatic 62, 3) := by decide +kernel
theorem dX5_turners_23 : decode cX5_turners 23 = .ok (.ifCond .eq 29, 3) := by decide +kernel
theorem dX5_turners_26 : decode cX5_turners 26 = .ok (.aload_n 0, 1) := by decide +kernel
theorem dX5_turners_27 : decode cX5_turners 27 = .ok (.getfield 9, 3) := by decide +kernel
theorem dX5_turners_30 : decode cX5_turners 30 = .ok (.iload_n 2, 1) := by decide +kernel
theorem dX5_turners_31 : decode cX5_turners 31 = .ok (.invokestatic 79, 3) := by decide +kernel
theorem dX5_turners_34 : decode cX5_turners 34 = .ok (.aload_n 0, 1) := by decide +kernel
theorem dX5_turners_35 : decode cX5_turners 35 = .ok (.getfield 9, 3) := by decide +kernel
theorem dX5_turners_38 : decode cX5_turners 38 = .ok (.bipush (-9), 2) := by decide +kernel
theorem dX5_turners_40 : decode cX5_turners 40 = .ok (.invokestatic 79, 3) := by decide +kernel
theorem dX5_turners_43 : decode cX5_turners 43 = .ok (.if_icmp .eq 9, 3) := by decide +kernel
theorem dX5_turners_46 : decode cX5_turners 46 = .ok (.iconst 1, 1) := by decide +kernel
theorem dX5_turners_47 : decode cX5_turners 47 = .ok (.iload_n 2, 1) := by decide +kernel
theorem dX5_turners_48 : decode cX5_turners 48 = .ok (.ishl, 1) := by decide +kernel
theorem dX5_turners_49 : decode cX5_turners 49 = .ok (.goto 4, 3) := by decide +kernel
theorem dX5_turners_52 : decode cX5_turners 52 = .ok (.iconst 0, 1) := by decide +kernel
theorem dX5_turners_53 : decode cX5_turners 53 = .ok (.ior, 1) := by decide +kernel
theorem dX5_turners_54 : decode cX5_turners 54 = .ok (.istore_n 1, 1) := by decide +kernel
theorem dX5_turners_55 : decode cX5_turners 55 = .ok (.iinc 2 1, 3) := by decide +kernel
theorem dX5_turners_58 : decode cX5_turners 58 = .ok (.goto (-54), 3) := by decide +kernel
theorem dX5_turners_61 : decode cX5_turners 61 = .ok (.iload_n 1, 1) := by decide +kernel
theorem dX5_turners_62 : decode cX5_turners 62 = .ok (.ireturn, 1) := by decide +kernel
set_option maxRecDepth 20000 in
theorem ggX5_pull_X5_isIn : GoodIn wsX5_pull wsX5_isIn := goodIn_r _ [5] (by decide +kernel) (by decide +kernel)
set_option maxRecDepth 20000 in
theorem gX5_pull_X5_isIn : GoodIn wsX5_pull (va_wsS RX5 41 yX5_isIn wsX5_isIn) := goodIn_app (goodIn_of _ (by decide +kernel)) ggX5_pull_X5_isIn
set_option maxRecDepth 20000 in
theorem ggX5_pull_X5_pullIn : GoodIn wsX5_pull wsX5_pullIn := goodIn_r _ [8, 9, 10, 4, 11, 12, 13, 14, 15, 16, 17, 18, 19, 20, 21, 22, 23, 24, 25, 26, 27, 28, 29, 30, 31, 32, 33, 34, 35] (by decide +kernel) (by decide +kernel)
set_option maxRecDepth 20000 in
theorem gX5_pull_X5_pullIn : GoodIn wsX5_pull (va_wsS RX5 75 yX5_pullIn wsX5_pullIn) := goodIn_app (goodIn_of _ (by decide +kernel)) ggX5_pull_X5_pullIn
set_option maxRecDepth 20000 in
theorem ggX5_pull_X5_noFar : GoodIn wsX5_pull wsX5_noFar := goodIn_r _ [39, 40, 41, 42, 43, 4, 44, 45, 46, 47, 48, 49, 50, 51, 52, 53, 54, 55, 56, 57, 58] (by decide +kernel) (by decide +kernel)
set_option maxRecDepth 20000 in
theorem gX5_pull_X5_noFar : GoodIn wsX5_pull (wsV RX5 142 RX5 yX5_noFar wsX5_noFar) := goodIn_app (goodIn_of _ (by decide +kernel)) ggX5_pull_X5_noFar
theorem dX5_pull_0 : decode cX5_pull 0 = .ok (.iload_n 1, 1) := by decide +kernel
theorem dX5_pull_1 : decode cX5_pull 1 = .ok (.iconst 0, 1) := by decide +kernel
theorem dX5_pull_2 : decode cX5_pull 2 = .ok (.iconst 1, 1) := by decide +kernel
theorem dX5_pull_3 : decode cX5_pull 3 = .ok (.invokestatic 41, 3) := by decide +kernel
theorem dX5_pull_6 : decode cX5_pull 6 = .ok (.ifCond .eq 16, 3) := by decide +kernel
theorem dX5_pull_9 : decode cX5_pull 9 = .ok (.aload_n 0, 1) := by decide +kernel
theorem dX5_pull_10 : decode cX5_pull 10 = .ok (.getfield 9, 3) := by decide +kernel
theorem dX5_pull_13 : decode cX5_pull 13 = .ok (.iload_n 1, 1) := by decide +kernel
theorem dX5_pull_14 : decode cX5_pull 14 = .ok (.bipush (-9), 2) := by decide +kernel
theorem dX5_pull_16 : decode cX5_pull 16 = .ok (.invokestatic 75, 3) := by decide +kernel
theorem dX5_pull_19 : decode cX5_pull 19 = .ok (.goto 9, 3) := by decide +kernel
theorem dX5_pull_22 : decode cX5_pull 22 = .ok (.aload_n 0, 1) := by decide +kernel
theorem dX5_pull_23 : decode cX5_pull 23 = .ok (.bipush (-2), 2) := by decide +kernel
theorem dX5_pull_25 : decode cX5_pull 25 = .ok (.invokevirtual 142, 3) := by decide +kernel
theorem dX5_pull_28 : decode cX5_pull 28 = .ok (.ireturn, 1) := by decide +kernel
set_option maxRecDepth 20000 in
theorem ggX5_strongest_X5_isAboard : GoodIn wsX5_strongest wsX5_isAboard := goodIn_r _ [5, 6, 7, 4, 8] (by decide +kernel) (by decide +kernel)
set_option maxRecDepth 20000 in
theorem gX5_strongest_X5_isAboard : GoodIn wsX5_strongest (va_wsS RX5 62 yX5_isAboard wsX5_isAboard) := goodIn_app (goodIn_of _ (by decide +kernel)) ggX5_strongest_X5_isAboard
set_option maxRecDepth 20000 in
theorem ggX5_strongest_X5_leansIn : GoodIn wsX5_strongest wsX5_leansIn := goodIn_r _ [11, 6, 7, 4, 8, 12, 13, 14, 15, 16, 17, 18, 19, 20] (by decide +kernel) (by decide +kernel)
set_option maxRecDepth 20000 in
theorem gX5_strongest_X5_leansIn : GoodIn wsX5_strongest (va_wsS RX5 66 yX5_leansIn wsX5_leansIn) := goodIn_app (goodIn_of _ (by decide +kernel)) ggX5_strongest_X5_leansIn
set_option maxRecDepth 20000 in
theorem ggX5_strongest_X5_far : GoodIn wsX5_strongest wsX5_far := goodIn_r _ [20] (by decide +kernel) (by decide +kernel)
set_option maxRecDepth 20000 in
theorem gX5_strongest_X5_far : GoodIn wsX5_strongest (va_wsS RX5 45 yX5_far wsX5_far) := goodIn_app (goodIn_of _ (by decide +kernel)) ggX5_strongest_X5_far
theorem dX5_strongest_0 : decode cX5_strongest 0 = .ok (.bipush (-9), 2) := by decide +kernel
theorem dX5_strongest_2 : decode cX5_strongest 2 = .ok (.istore_n 1, 1) := by decide +kernel
theorem dX5_strongest_3 : decode cX5_strongest 3 = .ok (.iconst 0, 1) := by decide +kernel
theorem dX5_strongest_4 : decode cX5_strongest 4 = .ok (.istore_n 2, 1) := by decide +kernel
theorem dX5_strongest_5 : decode cX5_strongest 5 = .ok (.iload_n 2, 1) := by decide +kernel
theorem dX5_strongest_6 : decode cX5_strongest 6 = .ok (.aload_n 0, 1) := by decide +kernel
theorem dX5_strongest_7 : decode cX5_strongest 7 = .ok (.getfield 9, 3) := by decide +kernel
theorem dX5_strongest_10 : decode cX5_strongest 10 = .ok (.iconst 1, 1) := by decide +kernel
theorem dX5_strongest_11 : decode cX5_strongest 11 = .ok (.iaload, 1) := by decide +kernel
theorem dX5_strongest_12 : decode cX5_strongest 12 = .ok (.if_icmp .ge 51, 3) := by decide +kernel
theorem dX5_strongest_15 : decode cX5_strongest 15 = .ok (.aload_n 0, 1) := by decide +kernel
theorem dX5_strongest_16 : decode cX5_strongest 16 = .ok (.getfield 9, 3) := by decide +kernel
theorem dX5_strongest_19 : decode cX5_strongest 19 = .ok (.iload_n 2, 1) := by decide +kernel
theorem dX5_strongest_20 : decode cX5_strongest 20 = .ok (.invokestatic 62, 3) := by decide +kernel
theorem dX5_strongest_23 : decode cX5_strongest 23 = .ok (.ifCond .eq 34, 3) := by decide +kernel
theorem dX5_strongest_26 : decode cX5_strongest 26 = .ok (.iload_n 1, 1) := by decide +kernel
theorem dX5_strongest_27 : decode cX5_strongest 27 = .ok (.ifCond .lt 28, 3) := by decide +kernel
theorem dX5_strongest_30 : decode cX5_strongest 30 = .ok (.aload_n 0, 1) := by decide +kernel
theorem dX5_strongest_31 : decode cX5_strongest 31 = .ok (.getfield 9, 3) := by decide +kernel
theorem dX5_strongest_34 : decode cX5_strongest 34 = .ok (.iload_n 2, 1) := by decide +kernel
theorem dX5_strongest_35 : decode cX5_strongest 35 = .ok (.invokestatic 66, 3) := by decide +kernel
theorem dX5_strongest_38 : decode cX5_strongest 38 = .ok (.invokestatic 45, 3) := by decide +kernel
theorem dX5_strongest_41 : decode cX5_strongest 41 = .ok (.aload_n 0, 1) := by decide +kernel
theorem dX5_strongest_42 : decode cX5_strongest 42 = .ok (.getfield 9, 3) := by decide +kernel
theorem dX5_strongest_45 : decode cX5_strongest 45 = .ok (.iload_n 1, 1) := by decide +kernel
theorem dX5_strongest_46 : decode cX5_strongest 46 = .ok (.invokestatic 66, 3) := by decide +kernel
theorem dX5_strongest_49 : decode cX5_strongest 49 = .ok (.invokestatic 45, 3) := by decide +kernel
theorem dX5_strongest_52 : decode cX5_strongest 52 = .ok (.if_icmp .le 5, 3) := by decide +kernel
theorem dX5_strongest_55 : decode cX5_strongest 55 = .ok (.iload_n 2, 1) := by decide +kernel
theorem dX5_strongest_56 : decode cX5_strongest 56 = .ok (.istore_n 1, 1) := by decide +kernel
theorem dX5_strongest_57 : decode cX5_strongest 57 = .ok (.iinc 2 1, 3) := by decide +kernel
theorem dX5_strongest_60 : decode cX5_strongest 60 = .ok (.goto (-55), 3) := by decide +kernel
theorem dX5_strongest_63 : decode cX5_strongest 63 = .ok (.iload_n 1, 1) := by decide +kernel
theorem dX5_strongest_64 : decode cX5_strongest 64 = .ok (.ireturn, 1) := by decide +kernel
set_option maxRecDepth 20000 in
theorem ggX5_missedBy_X5_isAboard : GoodIn wsX5_missedBy wsX5_isAboard := goodIn_r _ [5, 6, 7, 4, 8] (by decide +kernel) (by decide +kernel)
set_option maxRecDepth 20000 in
theorem gX5_missedBy_X5_isAboard : GoodIn wsX5_missedBy (va_wsS RX5 62 yX5_isAboard wsX5_isAboard) := goodIn_app (goodIn_of _ (by decide +kernel)) ggX5_missedBy_X5_isAboard
set_option maxRecDepth 20000 in
theorem ggX5_missedBy_X5_of : GoodIn wsX5_missedBy wsX5_of := goodIn_r _ [8] (by decide +kernel) (by decide +kernel)
set_option maxRecDepth 20000 in
theorem gX5_missedBy_X5_of : GoodIn wsX5_missedBy (va_wsS RX5 48 yX5_of wsX5_of) := goodIn_app (goodIn_of _ (by decide +kernel)) ggX5_missedBy_X5_of
set_option maxRecDepth 20000 in
theorem ggX5_missedBy_X5_leansIn : GoodIn wsX5_missedBy wsX5_leansIn := goodIn_r _ [11, 6, 7, 4, 8, 12, 13, 14, 15, 16, 17, 18, 19, 20] (by decide +kernel) (by decide +kernel)
set_option maxRecDepth 20000 in
theorem gX5_missedBy_X5_leansIn : GoodIn wsX5_missedBy (va_wsS RX5 66 yX5_leansIn wsX5_leansIn) := goodIn_app (goodIn_of _ (by decide +kernel)) ggX5_missedBy_X5_leansIn
theorem dX5_missedBy_0 : decode cX5_missedBy 0 = .ok (.iconst 0, 1) := by decide +kernel
theorem dX5_missedBy_1 : decode cX5_missedBy 1 = .ok (.istore_n 2, 1) := by decide +kernel
theorem dX5_missedBy_2 : decode cX5_missedBy 2 = .ok (.iconst 0, 1) := by decide +kernel
theorem dX5_missedBy_3 : decode cX5_missedBy 3 = .ok (.istore_n 3, 1) := by decide +kernel
theorem dX5_missedBy_4 : decode cX5_missedBy 4 = .ok (.iload_n 3, 1) := by decide +kernel
theorem dX5_missedBy_5 : decode cX5_missedBy 5 = .ok (.aload_n 0, 1) := by decide +kernel
theorem dX5_missedBy_6 : decode cX5_missedBy 6 = .ok (.getfield 9, 3) := by decide +kernel
theorem dX5_missedBy_9 : decode cX5_missedBy 9 = .ok (.iconst 1, 1) := by decide +kernel
theorem dX5_missedBy_10 : decode cX5_missedBy 10 = .ok (.iaload, 1) := by decide +kernel
theorem dX5_missedBy_11 : decode cX5_missedBy 11 = .ok (.if_icmp .ge 49, 3) := by decide +kernel
theorem dX5_missedBy_14 : decode cX5_missedBy 14 = .ok (.iload_n 2, 1) := by decide +kernel
theorem dX5_missedBy_15 : decode cX5_missedBy 15 = .ok (.aload_n 0, 1) := by decide +kernel
theorem dX5_missedBy_16 : decode cX5_missedBy 16 = .ok (.getfield 9, 3) := by decide +kernel
theorem dX5_missedBy_19 : decode cX5_missedBy 19 = .ok (.iload_n 3, 1) := by decide +kernel
theorem dX5_missedBy_20 : decode cX5_missedBy 20 = .ok (.invokestatic 62, 3) := by decide +kernel
theorem dX5_missedBy_23 : decode cX5_missedBy 23 = .ok (.ifCond .eq 28, 3) := by decide +kernel
theorem dX5_missedBy_26 : decode cX5_missedBy 26 = .ok (.aload_n 0, 1) := by decide +kernel
theorem dX5_missedBy_27 : decode cX5_missedBy 27 = .ok (.getfield 9, 3) := by decide +kernel
theorem dX5_missedBy_30 : decode cX5_missedBy 30 = .ok (.iload_n 3, 1) := by decide +kernel
theorem dX5_missedBy_31 : decode cX5_missedBy 31 = .ok (.iconst 2, 1) := by decide +kernel
theorem dX5_missedBy_32 : decode cX5_missedBy 32 = .ok (.invokestatic 48, 3) := by decide +kernel
theorem dX5_missedBy_35 : decode cX5_missedBy 35 = .ok (.iaload, 1) := by decide +kernel
theorem dX5_missedBy_36 : decode cX5_missedBy 36 = .ok (.iload_n 1, 1) := by decide +kernel
theorem dX5_missedBy_37 : decode cX5_missedBy 37 = .ok (.if_icmp .ne 14, 3) := by decide +kernel
theorem dX5_missedBy_40 : decode cX5_missedBy 40 = .ok (.aload_n 0, 1) := by decide +kernel
theorem dX5_missedBy_41 : decode cX5_missedBy 41 = .ok (.getfield 9, 3) := by decide +kernel
theorem dX5_missedBy_44 : decode cX5_missedBy 44 = .ok (.iload_n 3, 1) := by decide +kernel
theorem dX5_missedBy_45 : decode cX5_missedBy 45 = .ok (.invokestatic 66, 3) := by decide +kernel
theorem dX5_missedBy_48 : decode cX5_missedBy 48 = .ok (.goto 4, 3) := by decide +kernel
theorem dX5_missedBy_51 : decode cX5_missedBy 51 = .ok (.iconst 0, 1) := by decide +kernel
theorem dX5_missedBy_52 : decode cX5_missedBy 52 = .ok (.iadd, 1) := by decide +kernel
theorem dX5_missedBy_53 : decode cX5_missedBy 53 = .ok (.istore_n 2, 1) := by decide +kernel
theorem dX5_missedBy_54 : decode cX5_missedBy 54 = .ok (.iinc 3 1, 3) := by decide +kernel
theorem dX5_missedBy_57 : decode cX5_missedBy 57 = .ok (.goto (-53), 3) := by decide +kernel
theorem dX5_missedBy_60 : decode cX5_missedBy 60 = .ok (.iload_n 2, 1) := by decide +kernel
theorem dX5_missedBy_61 : decode cX5_missedBy 61 = .ok (.ireturn, 1) := by decide +kernel
set_option maxRecDepth 20000 in
theorem ggX5_missed_X5_isIn : GoodIn wsX5_missed wsX5_isIn := goodIn_r _ [5] (by decide +kernel) (by decide +kernel)
set_option maxRecDepth 20000 in
theorem gX5_missed_X5_isIn : GoodIn wsX5_missed (va_wsS RX5 41 yX5_isIn wsX5_isIn) := goodIn_app (goodIn_of _ (by decide +kernel)) ggX5_missed_X5_isIn
set_option maxRecDepth 20000 in
theorem ggX5_missed_X5_noFar : GoodIn wsX5_missed wsX5_noFar := goodIn_r _ [9, 10, 11, 12, 13, 4, 14, 15, 38, 39, 40, 41, 42, 43, 44, 45, 46, 47, 48, 49, 50] (by decide +kernel) (by decide +kernel)
set_option maxRecDepth 20000 in
theorem gX5_missed_X5_noFar : GoodIn wsX5_missed (wsV RX5 142 RX5 yX5_noFar wsX5_noFar) := goodIn_app (goodIn_of _ (by decide +kernel)) ggX5_missed_X5_noFar
set_option maxRecDepth 20000 in
theorem ggX5_missed_X5_missedBy : GoodIn wsX5_missed wsX5_missedBy := goodIn_r _ [19, 1, 20, 21, 4, 22, 23, 24, 25, 26, 27, 28, 29, 30, 31, 32, 33, 34, 35, 36, 37, 38, 39, 40, 41, 42, 43, 44, 45, 46, 47, 48, 49, 50] (by decide +kernel) (by decide +kernel)
set_option maxRecDepth 20000 in
theorem gX5_missed_X5_missedBy : GoodIn wsX5_missed (wsV RX5 175 RX5 yX5_missedBy wsX5_missedBy) := goodIn_app (goodIn_of _ (by decide +kernel)) ggX5_missed_X5_missedBy
theorem dX5_missed_0 : decode cX5_missed 0 = .ok (.iload_n 1, 1) := by decide +kernel
theorem dX5_missed_1 : decode cX5_missed 1 = .ok (.iconst 0, 1) := by decide +kernel
theorem dX5_missed_2 : decode cX5_missed 2 = .ok (.iconst 1, 1) := by decide +kernel
theorem dX5_missed_3 : decode cX5_missed 3 = .ok (.invokestatic 41, 3) := by decide +kernel
theorem dX5_missed_6 : decode cX5_missed 6 = .ok (.ifCond .ne 10, 3) := by decide +kernel
theorem dX5_missed_9 : decode cX5_missed 9 = .ok (.aload_n 0, 1) := by decide +kernel
theorem dX5_missed_10 : decode cX5_missed 10 = .ok (.bipush (-2), 2) := by decide +kernel
theorem dX5_missed_12 : decode cX5_missed 12 = .ok (.invokevirtual 142, 3) := by decide +kernel
theorem dX5_missed_15 : decode cX5_missed 15 = .ok (.ireturn, 1) := by decide +kernel
theorem dX5_missed_16 : decode cX5_missed 16 = .ok (.bipush (-9), 2) := by decide +kernel
theorem dX5_missed_18 : decode cX5_missed 18 = .ok (.istore_n 2, 1) := by decide +kernel
theorem dX5_missed_19 : decode cX5_missed 19 = .ok (.iconst 0, 1) := by decide +kernel
theorem dX5_missed_20 : decode cX5_missed 20 = .ok (.istore_n 3, 1) := by decide +kernel
theorem dX5_missed_21 : decode cX5_missed 21 = .ok (.iload_n 3, 1) := by decide +kernel
theorem dX5_missed_22 : decode cX5_missed 22 = .ok (.aload_n 0, 1) := by decide +kernel
theorem dX5_missed_23 : decode cX5_missed 23 = .ok (.getfield 9, 3) := by decide +kernel
theorem dX5_missed_26 : decode cX5_missed 26 = .ok (.iconst 0, 1) := by decide +kernel
theorem dX5_missed_27 : decode cX5_missed 27 = .ok (.iaload, 1) := by decide +kernel
theorem dX5_missed_28 : decode cX5_missed 28 = .ok (.if_icmp .ge 28, 3) := by decide +kernel
theorem dX5_missed_31 : decode cX5_missed 31 = .ok (.iload_n 2, 1) := by decide +kernel
theorem dX5_missed_32 : decode cX5_missed 32 = .ok (.ifCond .lt 16, 3) := by decide +kernel
theorem dX5_missed_35 : decode cX5_missed 35 = .ok (.aload_n 0, 1) := by decide +kernel
theorem dX5_missed_36 : decode cX5_missed 36 = .ok (.iload_n 3, 1) := by decide +kernel
theorem dX5_missed_37 : decode cX5_missed 37 = .ok (.invokevirtual 175, 3) := by decide +kernel
theorem dX5_missed_40 : decode cX5_missed 40 = .ok (.aload_n 0, 1) := by decide +kernel
theorem dX5_missed_41 : decode cX5_missed 41 = .ok (.iload_n 2, 1) := by decide +kernel
theorem dX5_missed_42 : decode cX5_missed 42 = .ok (.invokevirtual 175, 3) := by decide +kernel
theorem dX5_missed_45 : decode cX5_missed 45 = .ok (.if_icmp .le 5, 3) := by decide +kernel
theorem dX5_missed_48 : decode cX5_missed 48 = .ok (.iload_n 3, 1) := by decide +kernel
theorem dX5_missed_49 : decode cX5_missed 49 = .ok (.istore_n 2, 1) := by decide +kernel
theorem dX5_missed_50 : decode cX5_missed 50 = .ok (.iinc 3 1, 3) := by decide +kernel
theorem dX5_missed_53 : decode cX5_missed 53 = .ok (.goto (-32), 3) := by decide +kernel
theorem dX5_missed_56 : decode cX5_missed 56 = .ok (.iload_n 1, 1) := by decide +kernel
theorem dX5_missed_57 : decode cX5_missed 57 = .ok (.ifCond .ne 7, 3) := by decide +kernel
theorem dX5_missed_60 : decode cX5_missed 60 = .ok (.iload_n 2, 1) := by decide +kernel
theorem dX5_missed_61 : decode cX5_missed 61 = .ok (.goto 16, 3) := by decide +kernel
theorem dX5_missed_64 : decode cX5_missed 64 = .ok (.iload_n 2, 1) := by decide +kernel
theorem dX5_missed_65 : decode cX5_missed 65 = .ok (.ifCond .ge 7, 3) := by decide +kernel
theorem dX5_missed_68 : decode cX5_missed 68 = .ok (.iconst 0, 1) := by decide +kernel
theorem dX5_missed_69 : decode cX5_missed 69 = .ok (.goto 8, 3) := by decide +kernel
theorem dX5_missed_72 : decode cX5_missed 72 = .ok (.aload_n 0, 1) := by decide +kernel
theorem dX5_missed_73 : decode cX5_missed 73 = .ok (.iload_n 2, 1) := by decide +kernel
theorem dX5_missed_74 : decode cX5_missed 74 = .ok (.invokevirtual 175, 3) := by decide +kernel
theorem dX5_missed_77 : decode cX5_missed 77 = .ok (.ireturn, 1) := by decide +kernel
set_option maxRecDepth 20000 in
theorem ggX5_opposed_X5_isAboard : GoodIn wsX5_opposed wsX5_isAboard := goodIn_r _ [5, 6, 7, 4, 8] (by decide +kernel) (by decide +kernel)
set_option maxRecDepth 20000 in
theorem gX5_opposed_X5_isAboard : GoodIn wsX5_opposed (va_wsS RX5 62 yX5_isAboard wsX5_isAboard) := goodIn_app (goodIn_of _ (by decide +kernel)) ggX5_opposed_X5_isAboard
set_option maxRecDepth 20000 in
theorem ggX5_opposed_X5_rowsOff : GoodIn wsX5_opposed wsX5_rowsOff := goodIn_r _ [11, 12, 13, 4, 14, 6, 7, 8, 15, 16, 17] (by decide +kernel) (by decide +kernel)
set_option maxRecDepth 20000 in
theorem gX5_opposed_X5_rowsOff : GoodIn wsX5_opposed (va_wsS RX5 69 yX5_rowsOff wsX5_rowsOff) := goodIn_app (goodIn_of _ (by decide +kernel)) ggX5_opposed_X5_rowsOff
set_option maxRecDepth 20000 in
theorem ggX5_opposed_X5_columnsOff : GoodIn wsX5_opposed wsX5_columnsOff := goodIn_r _ [20, 12, 13, 4, 14, 6, 7, 8, 15, 16, 17] (by decide +kernel) (by decide +kernel)
set_option maxRecDepth 20000 in
theorem gX5_opposed_X5_columnsOff : GoodIn wsX5_opposed (va_wsS RX5 72 yX5_columnsOff wsX5_columnsOff) := goodIn_app (goodIn_of _ (by decide +kernel)) ggX5_opposed_X5_columnsOff
theorem dX5_opposed_0 : decode cX5_opposed 0 = .ok (.iconst 0, 1) := by decide +kernel
theorem dX5_opposed_1 : decode cX5_opposed 1 = .ok (.istore_n 1, 1) := by decide +kernel
theorem dX5_opposed_2 : decode cX5_opposed 2 = .ok (.iconst 0, 1) := by decide +kernel
theorem dX5_opposed_3 : decode cX5_opposed 3 = .ok (.istore_n 2, 1) := by decide +kernel
theorem dX5_opposed_4 : decode cX5_opposed 4 = .ok (.iload_n 2, 1) := by decide +kernel
theorem dX5_opposed_5 : decode cX5_opposed 5 = .ok (.aload_n 0, 1) := by decide +kernel
theorem dX5_opposed_6 : decode cX5_opposed 6 = .ok (.getfield 9, 3) := by decide +kernel
theorem dX5_opposed_9 : decode cX5_opposed 9 = .ok (.iconst 1, 1) := by decide +kernel
theorem dX5_opposed_10 : decode cX5_opposed 10 = .ok (.iaload, 1) := by decide +kernel
theorem dX5_opposed_11 : decode cX5_opposed 11 = .ok (.if_icmp .ge 99, 3) := by decide +kernel
theorem dX5_opposed_14 : decode cX5_opposed 14 = .ok (.iload_n 2, 1) := by decide +kernel
theorem dX5_opposed_15 : decode cX5_opposed 15 = .ok (.iconst 1, 1) := by decide +kernel
theorem dX5_opposed_16 : decode cX5_opposed 16 = .ok (.iadd, 1) := by decide +kernel
theorem dX5_opposed_17 : decode cX5_opposed 17 = .ok (.istore_n 3, 1) := by decide +kernel
theorem dX5_opposed_18 : decode cX5_opposed 18 = .ok (.iload_n 3, 1) := by decide +kernel
theorem dX5_opposed_19 : decode cX5_opposed 19 = .ok (.aload_n 0, 1) := by decide +kernel
theorem dX5_opposed_20 : decode cX5_opposed 20 = .ok (.getfield 9, 3) := by decide +kernel
theorem dX5_opposed_23 : decode cX5_opposed 23 = .ok (.iconst 1, 1) := by decide +kernel
theorem dX5_opposed_24 : decode cX5_opposed 24 = .ok (.iaload, 1) := by decide +kernel
theorem dX5_opposed_25 : decode cX5_opposed 25 = .ok (.if_icmp .ge 79, 3) := by decide +kernel
theorem dX5_opposed_28 : decode cX5_opposed 28 = .ok (.iload_n 1, 1) := by decide +kernel
theorem dX5_opposed_29 : decode cX5_opposed 29 = .ok (.aload_n 0, 1) := by decide +kernel
theorem dX5_opposed_30 : decode cX5_opposed 30 = .ok (.getfield 9, 3) := by decide +kernel
theorem dX5_opposed_33 : decode cX5_opposed 33 = .ok (.iload_n 2, 1) := by decide +kernel
theorem dX5_opposed_34 : decode cX5_opposed 34 = .ok (.invokestatic 62, 3) := by decide +kernel
theorem dX5_opposed_37 : decode cX5_opposed 37 = .ok (.ifCond .eq 58, 3) := by decide +kernel
theorem dX5_opposed_40 : decode cX5_opposed 40 = .ok (.aload_n 0, 1) := by decide +kernel
theorem dX5_opposed_41 : decode cX5_opposed 41 = .ok (.getfield 9, 3) := by decide +kernel
theorem dX5_opposed_44 : decode cX5_opposed 44 = .ok (.iload_n 3, 1) := by decide +kernel
theorem dX5_opposed_45 : decode cX5_opposed 45 = .ok (.invokestatic 62, 3) := by decide +kernel
theorem dX5_opposed_48 : decode cX5_opposed 48 = .ok (.ifCond .eq 47, 3) := by decide +kernel
theorem dX5_opposed_51 : decode cX5_opposed 51 = .ok (.aload_n 0, 1) := by decide +kernel
theorem dX5_opposed_52 : decode cX5_opposed 52 = .ok (.getfield 9, 3) := by decide +kernel
theorem dX5_opposed_55 : decode cX5_opposed 55 = .ok (.iload_n 2, 1) := by decide +kernel
theorem dX5_opposed_56 : decode cX5_opposed 56 = .ok (.invokestatic 69, 3) := by decide +kernel
theorem dX5_opposed_59 : decode cX5_opposed 59 = .ok (.aload_n 0, 1) := by decide +kernel
theorem dX5_opposed_60 : decode cX5_opposed 60 = .ok (.getfield 9, 3) := by decide +kernel
theorem dX5_opposed_63 : decode cX5_opposed 63 = .ok (.iload_n 3, 1) := by decide +kernel
theorem dX5_opposed_64 : decode cX5_opposed 64 = .ok (.invokestatic 69, 3) := by decide +kernel
theorem dX5_opposed_67 : decode cX5_opposed 67 = .ok (.imul, 1) := by decide +kernel
theorem dX5_opposed_68 : decode cX5_opposed 68 = .ok (.ifCond .lt 23, 3) := by decide +kernel
theorem dX5_opposed_71 : decode cX5_opposed 71 = .ok (.aload_n 0, 1) := by decide +kernel
theorem dX5_opposed_72 : decode cX5_opposed 72 = .ok (.getfield 9, 3) := by decide +kernel
theorem dX5_opposed_75 : decode cX5_opposed 75 = .ok (.iload_n 2, 1) := by decide +kernel
theorem dX5_opposed_76 : decode cX5_opposed 76 = .ok (.invokestatic 72, 3) := by decide +kernel
theorem dX5_opposed_79 : decode cX5_opposed 79 = .ok (.aload_n 0, 1) := by decide +kernel
theorem dX5_opposed_80 : decode cX5_opposed 80 = .ok (.getfield 9, 3) := by decide +kernel
theorem dX5_opposed_83 : decode cX5_opposed 83 = .ok (.iload_n 3, 1) := by decide +kernel
theorem dX5_opposed_84 : decode cX5_opposed 84 = .ok (.invokestatic 72, 3) := by decide +kernel
theorem dX5_opposed_87 : decode cX5_opposed 87 = .ok (.imul, 1) := by decide +kernel
theorem dX5_opposed_88 : decode cX5_opposed 88 = .ok (.ifCond .ge 7, 3) := by decide +kernel
theorem dX5_opposed_91 : decode cX5_opposed 91 = .ok (.iconst 1, 1) := by decide +kernel
theorem dX5_opposed_92 : decode cX5_opposed 92 = .ok (.goto 4, 3) := by decide +kernel
theorem dX5_opposed_95 : decode cX5_opposed 95 = .ok (.iconst 0, 1) := by decide +kernel
theorem dX5_opposed_96 : decode cX5_opposed 96 = .ok (.iadd, 1) := by decide +kernel
theorem dX5_opposed_97 : decode cX5_opposed 97 = .ok (.istore_n 1, 1) := by decide +kernel
theorem dX5_opposed_98 : decode cX5_opposed 98 = .ok (.iinc 3 1, 3) := by decide +kernel
theorem dX5_opposed_101 : decode cX5_opposed 101 = .ok (.goto (-83), 3) := by decide +kernel
theorem dX5_opposed_104 : decode cX5_opposed 104 = .ok (.iinc 2 1, 3) := by decide +kernel
theorem dX5_opposed_107 : decode cX5_opposed 107 = .ok (.goto (-103), 3) := by decide +kernel
theorem dX5_opposed_110 : decode cX5_opposed 110 = .ok (.iload_n 1, 1) := by decide +kernel
theorem dX5_opposed_111 : decode cX5_opposed 111 = .ok (.ireturn, 1) := by decide +kernel
set_option maxRecDepth 20000 in
theorem ggX5_sign_X5_isPlace : GoodIn wsX5_sign wsX5_isPlace := goodIn_r _ [8, 2, 9, 10, 7, 11, 66, 67, 68, 69, 70, 71, 72, 73, 74, 75, 76, 77, 78] (by decide +kernel) (by decide +kernel)
set_option maxRecDepth 20000 in
theorem gX5_sign_X5_isPlace : GoodIn wsX5_sign (wsV RX5 115 RX5 yX5_isPlace wsX5_isPlace) := goodIn_app (goodIn_of _ (by decide +kernel)) ggX5_sign_X5_isPlace
set_option maxRecDepth 20000 in
theorem ggX5_sign_X5_no : GoodIn wsX5_sign wsX5_no := goodIn_r _ [15, 16, 66, 67, 68, 69, 70, 71, 72, 73, 74, 75, 76, 77, 78] (by decide +kernel) (by decide +kernel)
set_option maxRecDepth 20000 in
theorem gX5_sign_X5_no : GoodIn wsX5_sign (wsV RX5 35 RX5 yX5_no wsX5_no) := goodIn_app (goodIn_of _ (by decide +kernel)) ggX5_sign_X5_no
set_option maxRecDepth 20000 in
theorem ggX5_sign_X5_isIn : GoodIn wsX5_sign wsX5_isIn := goodIn_r _ [11] (by decide +kernel) (by decide +kernel)
set_option maxRecDepth 20000 in
theorem gX5_sign_X5_isIn : GoodIn wsX5_sign (va_wsS RX5 41 yX5_isIn wsX5_isIn) := goodIn_app (goodIn_of _ (by decide +kernel)) ggX5_sign_X5_isIn
set_option maxRecDepth 20000 in
theorem ggX5_sign_X5_copies : GoodIn wsX5_sign wsX5_copies := goodIn_r _ [19] (by decide +kernel) (by decide +kernel)
set_option maxRecDepth 20000 in
theorem gX5_sign_X5_copies : GoodIn wsX5_sign (va_wsS RX5 135 yX5_copies wsX5_copies) := goodIn_app (goodIn_of _ (by decide +kernel)) ggX5_sign_X5_copies
set_option maxRecDepth 20000 in
theorem ggX5_sign_X5_adds : GoodIn wsX5_sign wsX5_adds := goodIn_r _ [22, 23, 24, 7, 25] (by decide +kernel) (by decide +kernel)
set_option maxRecDepth 20000 in
theorem gX5_sign_X5_adds : GoodIn wsX5_sign (va_wsS RX5 118 yX5_adds wsX5_adds) := goodIn_app (goodIn_of _ (by decide +kernel)) ggX5_sign_X5_adds
set_option maxRecDepth 20000 in
theorem ggX5_sign_X5_comesIn : GoodIn wsX5_sign wsX5_comesIn := goodIn_r _ [29, 3, 30, 31, 7, 32, 33, 34, 35, 36, 37, 38, 39, 40, 41, 23, 24, 25, 42, 43, 44, 45, 46, 47, 48, 49, 50, 51, 52, 53, 54, 55, 56, 57, 58, 59, 60, 61, 62, 63, 64, 65, 66, 67, 68, 69, 70, 71, 72, 73, 74, 75, 76, 77, 78] (by decide +kernel) (by decide +kernel)
set_option maxRecDepth 20000 in
theorem gX5_sign_X5_comesIn : GoodIn wsX5_sign (wsV RX5 153 RX5 yX5_comesIn wsX5_comesIn) := goodIn_app (goodIn_of _ (by decide +kernel)) ggX5_sign_X5_comesIn
theorem dX5_sign_0 : decode cX5_sign 0 = .ok (.aload_n 0, 1) := by decide +kernel
theorem dX5_sign_1 : decode cX5_sign 1 = .ok (.iload_n 1, 1) := by decide +kernel
theorem dX5_sign_2 : decode cX5_sign 2 = .ok (.invokevirtual 115, 3) := by decide +kernel
theorem dX5_sign_5 : decode cX5_sign 5 = .ok (.ifCond .ne 9, 3) := by decide +kernel
theorem dX5_sign_8 : decode cX5_sign 8 = .ok (.aload_n 0, 1) := by decide +kernel
theorem dX5_sign_9 : decode cX5_sign 9 = .ok (.iconst (-1), 1) := by decide +kernel
theorem dX5_sign_10 : decode cX5_sign 10 = .ok (.invokevirtual 35, 3) := by decide +kernel
theorem dX5_sign_13 : decode cX5_sign 13 = .ok (.ireturn, 1) := by decide +kernel
theorem dX5_sign_14 : decode cX5_sign 14 = .ok (.iload_n 2, 1) := by decide +kernel
theorem dX5_sign_15 : decode cX5_sign 15 = .ok (.iconst 0, 1) := by decide +kernel
theorem dX5_sign_16 : decode cX5_sign 16 = .ok (.iconst 1, 1) := by decide +kernel
theorem dX5_sign_17 : decode cX5_sign 17 = .ok (.invokestatic 41, 3) := by decide +kernel
theorem dX5_sign_20 : decode cX5_sign 20 = .ok (.ifCond .ne 10, 3) := by decide +kernel
theorem dX5_sign_23 : decode cX5_sign 23 = .ok (.aload_n 0, 1) := by decide +kernel
theorem dX5_sign_24 : decode cX5_sign 24 = .ok (.bipush (-2), 2) := by decide +kernel
theorem dX5_sign_26 : decode cX5_sign 26 = .ok (.invokevirtual 35, 3) := by decide +kernel
theorem dX5_sign_29 : decode cX5_sign 29 = .ok (.ireturn, 1) := by decide +kernel
theorem dX5_sign_30 : decode cX5_sign 30 = .ok (.bipush (-9), 2) := by decide +kernel
theorem dX5_sign_32 : decode cX5_sign 32 = .ok (.istore_n 3, 1) := by decide +kernel
theorem dX5_sign_33 : decode cX5_sign 33 = .ok (.ldc 34, 2) := by decide +kernel
theorem dX5_sign_35 : decode cX5_sign 35 = .ok (.istore 4, 2) := by decide +kernel
theorem dX5_sign_37 : decode cX5_sign 37 = .ok (.iconst 0, 1) := by decide +kernel
theorem dX5_sign_38 : decode cX5_sign 38 = .ok (.istore 5, 2) := by decide +kernel
theorem dX5_sign_40 : decode cX5_sign 40 = .ok (.iload 5, 2) := by decide +kernel
theorem dX5_sign_42 : decode cX5_sign 42 = .ok (.bipush 6, 2) := by decide +kernel
theorem dX5_sign_44 : decode cX5_sign 44 = .ok (.if_icmp .ge 80, 3) := by decide +kernel
theorem dX5_sign_47 : decode cX5_sign 47 = .ok (.aload_n 0, 1) := by decide +kernel
theorem dX5_sign_48 : decode cX5_sign 48 = .ok (.getfield 9, 3) := by decide +kernel
theorem dX5_sign_51 : decode cX5_sign 51 = .ok (.iconst 1, 1) := by decide +kernel
theorem dX5_sign_52 : decode cX5_sign 52 = .ok (.iaload, 1) := by decide +kernel
theorem dX5_sign_53 : decode cX5_sign 53 = .ok (.bipush 7, 2) := by decide +kernel
theorem dX5_sign_55 : decode cX5_sign 55 = .ok (.if_icmp .ge 69, 3) := by decide +kernel
theorem dX5_sign_58 : decode cX5_sign 58 = .ok (.aload_n 0, 1) := by decide +kernel
theorem dX5_sign_59 : decode cX5_sign 59 = .ok (.getfield 9, 3) := by decide +kernel
theorem dX5_sign_62 : decode cX5_sign 62 = .ok (.aload_n 0, 1) := by decide +kernel
theorem dX5_sign_63 : decode cX5_sign 63 = .ok (.getfield 13, 3) := by decide +kernel
theorem dX5_sign_66 : decode cX5_sign 66 = .ok (.invokestatic 135, 3) := by decide +kernel
theorem dX5_sign_69 : decode cX5_sign 69 = .ok (.aload_n 0, 1) := by decide +kernel
theorem dX5_sign_70 : decode cX5_sign 70 = .ok (.getfield 13, 3) := by decide +kernel
theorem dX5_sign_73 : decode cX5_sign 73 = .ok (.iload 5, 2) := by decide +kernel
theorem dX5_sign_75 : decode cX5_sign 75 = .ok (.iconst 5, 1) := by decide +kernel
theorem dX5_sign_76 : decode cX5_sign 76 = .ok (.iload_n 1, 1) := by decide +kernel
theorem dX5_sign_77 : decode cX5_sign 77 = .ok (.invokestatic 118, 3) := by decide +kernel
theorem dX5_sign_80 : decode cX5_sign 80 = .ok (.aload_n 0, 1) := by decide +kernel
theorem dX5_sign_81 : decode cX5_sign 81 = .ok (.aload_n 0, 1) := by decide +kernel
theorem dX5_sign_82 : decode cX5_sign 82 = .ok (.getfield 9, 3) := by decide +kernel
theorem dX5_sign_85 : decode cX5_sign 85 = .ok (.iconst 4, 1) := by decide +kernel
theorem dX5_sign_86 : decode cX5_sign 86 = .ok (.iload_n 1, 1) := by decide +kernel
theorem dX5_sign_87 : decode cX5_sign 87 = .ok (.iadd, 1) := by decide +kernel
theorem dX5_sign_88 : decode cX5_sign 88 = .ok (.iaload, 1) := by decide +kernel
theorem dX5_sign_89 : decode cX5_sign 89 = .ok (.bipush 60, 2) := by decide +kernel
theorem dX5_sign_91 : decode cX5_sign 91 = .ok (.invokevirtual 153, 3) := by decide +kernel
theorem dX5_sign_94 : decode cX5_sign 94 = .ok (.istore 6, 2) := by decide +kernel
theorem dX5_sign_96 : decode cX5_sign 96 = .ok (.iload 6, 2) := by decide +kernel
theorem dX5_sign_98 : decode cX5_sign 98 = .ok (.ifCond .lt 20, 3) := by decide +kernel
theorem dX5_sign_101 : decode cX5_sign 101 = .ok (.iload 6, 2) := by decide +kernel
theorem dX5_sign_103 : decode cX5_sign 103 = .ok (.iload 4, 2) := by decide +kernel
theorem dX5_sign_105 : decode cX5_sign 105 = .ok (.if_icmp .lt 6, 3) := by decide +kernel
theorem dX5_sign_108 : decode cX5_sign 108 = .ok (.goto 10, 3) := by decide +kernel
theorem dX5_sign_111 : decode cX5_sign 111 = .ok (.iload 5, 2) := by decide +kernel
theorem dX5_sign_113 : decode cX5_sign 113 = .ok (.istore_n 3, 1) := by decide +kernel
theorem dX5_sign_114 : decode cX5_sign 114 = .ok (.iload 6, 2) := by decide +kernel
theorem dX5_sign_116 : decode cX5_sign 116 = .ok (.istore 4, 2) := by decide +kernel
theorem dX5_sign_118 : decode cX5_sign 118 = .ok (.iinc 5 1, 3) := by decide +kernel
theorem dX5_sign_121 : decode cX5_sign 121 = .ok (.goto (-81), 3) := by decide +kernel
theorem dX5_sign_124 : decode cX5_sign 124 = .ok (.iload_n 3, 1) := by decide +kernel
theorem dX5_sign_125 : decode cX5_sign 125 = .ok (.ifCond .lt 7, 3) := by decide +kernel
theorem dX5_sign_128 : decode cX5_sign 128 = .ok (.iload_n 2, 1) := by decide +kernel
theorem dX5_sign_129 : decode cX5_sign 129 = .ok (.ifCond .ne 7, 3) := by decide +kernel
theorem dX5_sign_132 : decode cX5_sign 132 = .ok (.iload_n 3, 1) := by decide +kernel
theorem dX5_sign_133 : decode cX5_sign 133 = .ok (.goto 5, 3) := by decide +kernel
theorem dX5_sign_136 : decode cX5_sign 136 = .ok (.iload 4, 2) := by decide +kernel
theorem dX5_sign_138 : decode cX5_sign 138 = .ok (.ireturn, 1) := by decide +kernel
set_option maxRecDepth 20000 in
theorem ggX5_home_X5_isHand : GoodIn wsX5_home wsX5_isHand := goodIn_r _ [6, 1, 7, 8, 5, 9, 27, 28, 29, 30, 31, 32, 33, 34, 35, 36, 37, 38, 39] (by decide +kernel) (by decide +kernel)
set_option maxRecDepth 20000 in
theorem gX5_home_X5_isHand : GoodIn wsX5_home (wsV RX5 122 RX5 yX5_isHand wsX5_isHand) := goodIn_app (goodIn_of _ (by decide +kernel)) ggX5_home_X5_isHand
set_option maxRecDepth 20000 in
theorem ggX5_home_X5_cellOf : GoodIn wsX5_home wsX5_cellOf := goodIn_r _ [12, 13, 14, 5, 15] (by decide +kernel) (by decide +kernel)
set_option maxRecDepth 20000 in
theorem gX5_home_X5_cellOf : GoodIn wsX5_home (va_wsS RX5 52 yX5_cellOf wsX5_cellOf) := goodIn_app (goodIn_of _ (by decide +kernel)) ggX5_home_X5_cellOf
set_option maxRecDepth 20000 in
theorem ggX5_home_X5_steps : GoodIn wsX5_home wsX5_steps := goodIn_r _ [18, 19, 20, 5, 21] (by decide +kernel) (by decide +kernel)
set_option maxRecDepth 20000 in
theorem gX5_home_X5_steps : GoodIn wsX5_home (va_wsS RX5 56 yX5_steps wsX5_steps) := goodIn_app (goodIn_of _ (by decide +kernel)) ggX5_home_X5_steps
set_option maxRecDepth 20000 in
theorem ggX5_home_X5_no : GoodIn wsX5_home wsX5_no := goodIn_r _ [25, 26, 27, 28, 29, 30, 31, 32, 33, 34, 35, 36, 37, 38, 39] (by decide +kernel) (by decide +kernel)
set_option maxRecDepth 20000 in
theorem gX5_home_X5_no : GoodIn wsX5_home (wsV RX5 35 RX5 yX5_no wsX5_no) := goodIn_app (goodIn_of _ (by decide +kernel)) ggX5_home_X5_no
theorem dX5_home_0 : decode cX5_home 0 = .ok (.aload_n 0, 1) := by decide +kernel
theorem dX5_home_1 : decode cX5_home 1 = .ok (.iload_n 1, 1) := by decide +kernel
theorem dX5_home_2 : decode cX5_home 2 = .ok (.invokevirtual 122, 3) := by decide +kernel
theorem dX5_home_5 : decode cX5_home 5 = .ok (.ifCond .eq 23, 3) := by decide +kernel
theorem dX5_home_8 : decode cX5_home 8 = .ok (.aload_n 0, 1) := by decide +kernel
theorem dX5_home_9 : decode cX5_home 9 = .ok (.getfield 9, 3) := by decide +kernel
theorem dX5_home_12 : decode cX5_home 12 = .ok (.iconst 3, 1) := by decide +kernel
theorem dX5_home_13 : decode cX5_home 13 = .ok (.iaload, 1) := by decide +kernel
theorem dX5_home_14 : decode cX5_home 14 = .ok (.aload_n 0, 1) := by decide +kernel
theorem dX5_home_15 : decode cX5_home 15 = .ok (.getfield 9, 3) := by decide +kernel
theorem dX5_home_18 : decode cX5_home 18 = .ok (.iload_n 1, 1) := by decide +kernel
theorem dX5_home_19 : decode cX5_home 19 = .ok (.invokestatic 52, 3) := by decide +kernel
theorem dX5_home_22 : decode cX5_home 22 = .ok (.invokestatic 56, 3) := by decide +kernel
theorem dX5_home_25 : decode cX5_home 25 = .ok (.goto 8, 3) := by decide +kernel
theorem dX5_home_28 : decode cX5_home 28 = .ok (.aload_n 0, 1) := by decide +kernel
theorem dX5_home_29 : decode cX5_home 29 = .ok (.iconst (-1), 1) := by decide +kernel
theorem dX5_home_30 : decode cX5_home 30 = .ok (.invokevirtual 35, 3) := by decide +kernel
theorem dX5_home_33 : decode cX5_home 33 = .ok (.ireturn, 1) := by decide +kernel
set_option maxRecDepth 20000 in
theorem ggX5_nearest_X5_steps : GoodIn wsX5_nearest wsX5_steps := goodIn_r _ [5, 6, 7, 4, 8] (by decide +kernel) (by decide +kernel)
set_option maxRecDepth 20000 in
theorem gX5_nearest_X5_steps : GoodIn wsX5_nearest (va_wsS RX5 56 yX5_steps wsX5_steps) := goodIn_app (goodIn_of _ (by decide +kernel)) ggX5_nearest_X5_steps
theorem dX5_nearest_0 : decode cX5_nearest 0 = .ok (.bipush (-9), 2) := by decide +kernel
theorem dX5_nearest_2 : decode cX5_nearest 2 = .ok (.istore_n 1, 1) := by decide +kernel
theorem dX5_nearest_3 : decode cX5_nearest 3 = .ok (.iconst 0, 1) := by decide +kernel
theorem dX5_nearest_4 : decode cX5_nearest 4 = .ok (.istore_n 2, 1) := by decide +kernel
theorem dX5_nearest_5 : decode cX5_nearest 5 = .ok (.iload_n 2, 1) := by decide +kernel
theorem dX5_nearest_6 : decode cX5_nearest 6 = .ok (.aload_n 0, 1) := by decide +kernel
theorem dX5_nearest_7 : decode cX5_nearest 7 = .ok (.getfield 9, 3) := by decide +kernel
theorem dX5_nearest_10 : decode cX5_nearest 10 = .ok (.iconst 0, 1) := by decide +kernel
theorem dX5_nearest_11 : decode cX5_nearest 11 = .ok (.iaload, 1) := by decide +kernel
theorem dX5_nearest_12 : decode cX5_nearest 12 = .ok (.if_icmp .ge 52, 3) := by decide +kernel
theorem dX5_nearest_15 : decode cX5_nearest 15 = .ok (.iload_n 1, 1) := by decide +kernel
theorem dX5_nearest_16 : decode cX5_nearest 16 = .ok (.ifCond .lt 40, 3) := by decide +kernel
theorem dX5_nearest_19 : decode cX5_nearest 19 = .ok (.aload_n 0, 1) := by decide +kernel
theorem dX5_nearest_20 : decode cX5_nearest 20 = .ok (.getfield 9, 3) := by decide +kernel
theorem dX5_nearest_23 : decode cX5_nearest 23 = .ok (.iconst 3, 1) := by decide +kernel
theorem dX5_nearest_24 : decode cX5_nearest 24 = .ok (.iaload, 1) := by decide +kernel
theorem dX5_nearest_25 : decode cX5_nearest 25 = .ok (.aload_n 0, 1) := by decide +kernel
theorem dX5_nearest_26 : decode cX5_nearest 26 = .ok (.getfield 9, 3) := by decide +kernel
theorem dX5_nearest_29 : decode cX5_nearest 29 = .ok (.iconst 4, 1) := by decide +kernel
theorem dX5_nearest_30 : decode cX5_nearest 30 = .ok (.iload_n 2, 1) := by decide +kernel
theorem dX5_nearest_31 : decode cX5_nearest 31 = .ok (.iadd, 1) := by decide +kernel
theorem dX5_nearest_32 : decode cX5_nearest 32 = .ok (.iaload, 1) := by decide +kernel
theorem dX5_nearest_33 : decode cX5_nearest 33 = .ok (.invokestatic 56, 3) := by decide +kernel
theorem dX5_nearest_36 : decode cX5_nearest 36 = .ok (.aload_n 0, 1) := by decide +kernel
theorem dX5_nearest_37 : decode cX5_nearest 37 = .ok (.getfield 9, 3) := by decide +kernel
theorem dX5_nearest_40 : decode cX5_nearest 40 = .ok (.iconst 3, 1) := by decide +kernel
theorem dX5_nearest_41 : decode cX5_nearest 41 = .ok (.iaload, 1) := by decide +kernel
theorem dX5_nearest_42 : decode cX5_nearest 42 = .ok (.aload_n 0, 1) := by decide +kernel
theorem dX5_nearest_43 : decode cX5_nearest 43 = .ok (.getfield 9, 3) := by decide +kernel
theorem dX5_nearest_46 : decode cX5_nearest 46 = .ok (.iconst 4, 1) := by decide +kernel
theorem dX5_nearest_47 : decode cX5_nearest 47 = .ok (.iload_n 1, 1) := by decide +kernel
theorem dX5_nearest_48 : decode cX5_nearest 48 = .ok (.iadd, 1) := by decide +kernel
theorem dX5_nearest_49 : decode cX5_nearest 49 = .ok (.iaload, 1) := by decide +kernel
theorem dX5_nearest_50 : decode cX5_nearest 50 = .ok (.invokestatic 56, 3) := by decide +kernel
theorem dX5_nearest_53 : decode cX5_nearest 53 = .ok (.if_icmp .ge 5, 3) := by decide +kernel
theorem dX5_nearest_56 : decode cX5_nearest 56 = .ok (.iload_n 2, 1) := by decide +kernel
theorem dX5_nearest_57 : decode cX5_nearest 57 = .ok (.istore_n 1, 1) := by decide +kernel
theorem dX5_nearest_58 : decode cX5_nearest 58 = .ok (.iinc 2 1, 3) := by decide +kernel
theorem dX5_nearest_61 : decode cX5_nearest 61 = .ok (.goto (-56), 3) := by decide +kernel
theorem dX5_nearest_64 : decode cX5_nearest 64 = .ok (.iload_n 1, 1) := by decide +kernel
theorem dX5_nearest_65 : decode cX5_nearest 65 = .ok (.ireturn, 1) := by decide +kernel
set_option maxRecDepth 20000 in
theorem ggX5_way_X5_wrongBy : GoodIn wsX5_way wsX5_wrongBy := goodIn_r _ [6] (by decide +kernel) (by decide +kernel)
set_option maxRecDepth 20000 in
theorem gX5_way_X5_wrongBy : GoodIn wsX5_way (va_wsS RX5 145 yX5_wrongBy wsX5_wrongBy) := goodIn_app (goodIn_of _ (by decide +kernel)) ggX5_way_X5_wrongBy
set_option maxRecDepth 20000 in
theorem ggX5_way_X5_no : GoodIn wsX5_way wsX5_no := goodIn_r _ [10, 11, 54, 55, 56, 57, 58, 59, 60, 61, 62, 63, 64, 65, 66] (by decide +kernel) (by decide +kernel)
set_option maxRecDepth 20000 in
theorem gX5_way_X5_no : GoodIn wsX5_way (wsV RX5 35 RX5 yX5_no wsX5_no) := goodIn_app (goodIn_of _ (by decide +kernel)) ggX5_way_X5_no
set_option maxRecDepth 20000 in
theorem ggX5_way_X5_copies : GoodIn wsX5_way wsX5_copies := goodIn_r _ [14] (by decide +kernel) (by decide +kernel)
set_option maxRecDepth 20000 in
theorem gX5_way_X5_copies : GoodIn wsX5_way (va_wsS RX5 135 yX5_copies wsX5_copies) := goodIn_app (goodIn_of _ (by decide +kernel)) ggX5_way_X5_copies
set_option maxRecDepth 20000 in
theorem ggX5_way_X5_day : GoodIn wsX5_way wsX5_day := goodIn_r _ [17, 18, 19, 5, 20, 21, 22, 23, 24, 25, 26, 27, 28, 29, 30, 31, 32, 33, 34, 35, 36, 37, 38, 39, 40, 41, 42, 43, 44, 45, 46, 47, 48, 49, 50, 51, 52, 53] (by decide +kernel) (by decide +kernel)
set_option maxRecDepth 20000 in
theorem gX5_way_X5_day : GoodIn wsX5_way (va_wsS RX5 85 yX5_day wsX5_day) := goodIn_app (goodIn_of _ (by decide +kernel)) ggX5_way_X5_day
theorem dX5_way_0 : decode cX5_way 0 = .ok (.iload_n 1, 1) := by decide +kernel
theorem dX5_way_1 : decode cX5_way 1 = .ok (.iconst 1, 1) := by decide +kernel
theorem dX5_way_2 : decode cX5_way 2 = .ok (.bipush 60, 2) := by decide +kernel
theorem dX5_way_4 : decode cX5_way 4 = .ok (.invokestatic 145, 3) := by decide +kernel
theorem dX5_way_7 : decode cX5_way 7 = .ok (.istore_n 2, 1) := by decide +kernel
theorem dX5_way_8 : decode cX5_way 8 = .ok (.iload_n 2, 1) := by decide +kernel
theorem dX5_way_9 : decode cX5_way 9 = .ok (.ifCond .eq 9, 3) := by decide +kernel
theorem dX5_way_12 : decode cX5_way 12 = .ok (.aload_n 0, 1) := by decide +kernel
theorem dX5_way_13 : decode cX5_way 13 = .ok (.iload_n 2, 1) := by decide +kernel
theorem dX5_way_14 : decode cX5_way 14 = .ok (.invokevirtual 35, 3) := by decide +kernel
theorem dX5_way_17 : decode cX5_way 17 = .ok (.ireturn, 1) := by decide +kernel
theorem dX5_way_18 : decode cX5_way 18 = .ok (.aload_n 0, 1) := by decide +kernel
theorem dX5_way_19 : decode cX5_way 19 = .ok (.getfield 9, 3) := by decide +kernel
theorem dX5_way_22 : decode cX5_way 22 = .ok (.aload_n 0, 1) := by decide +kernel
theorem dX5_way_23 : decode cX5_way 23 = .ok (.getfield 13, 3) := by decide +kernel
theorem dX5_way_26 : decode cX5_way 26 = .ok (.invokestatic 135, 3) := by decide +kernel
theorem dX5_way_29 : decode cX5_way 29 = .ok (.iconst 0, 1) := by decide +kernel
theorem dX5_way_30 : decode cX5_way 30 = .ok (.istore_n 3, 1) := by decide +kernel
theorem dX5_way_31 : decode cX5_way 31 = .ok (.iconst 0, 1) := by decide +kernel
theorem dX5_way_32 : decode cX5_way 32 = .ok (.istore 4, 2) := by decide +kernel
theorem dX5_way_34 : decode cX5_way 34 = .ok (.iload 4, 2) := by decide +kernel
theorem dX5_way_36 : decode cX5_way 36 = .ok (.iload_n 1, 1) := by decide +kernel
theorem dX5_way_37 : decode cX5_way 37 = .ok (.if_icmp .ge 44, 3) := by decide +kernel
theorem dX5_way_40 : decode cX5_way 40 = .ok (.aload_n 0, 1) := by decide +kernel
theorem dX5_way_41 : decode cX5_way 41 = .ok (.getfield 13, 3) := by decide +kernel
theorem dX5_way_44 : decode cX5_way 44 = .ok (.iconst 3, 1) := by decide +kernel
theorem dX5_way_45 : decode cX5_way 45 = .ok (.iaload, 1) := by decide +kernel
theorem dX5_way_46 : decode cX5_way 46 = .ok (.istore 5, 2) := by decide +kernel
theorem dX5_way_48 : decode cX5_way 48 = .ok (.aload_n 0, 1) := by decide +kernel
theorem dX5_way_49 : decode cX5_way 49 = .ok (.getfield 13, 3) := by decide +kernel
theorem dX5_way_52 : decode cX5_way 52 = .ok (.iconst 0, 1) := by decide +kernel
theorem dX5_way_53 : decode cX5_way 53 = .ok (.invokestatic 85, 3) := by decide +kernel
theorem dX5_way_56 : decode cX5_way 56 = .ok (.iload_n 3, 1) := by decide +kernel
theorem dX5_way_57 : decode cX5_way 57 = .ok (.aload_n 0, 1) := by decide +kernel
theorem dX5_way_58 : decode cX5_way 58 = .ok (.getfield 13, 3) := by decide +kernel
theorem dX5_way_61 : decode cX5_way 61 = .ok (.iconst 3, 1) := by decide +kernel
theorem dX5_way_62 : decode cX5_way 62 = .ok (.iaload, 1) := by decide +kernel
theorem dX5_way_63 : decode cX5_way 63 = .ok (.iload 5, 2) := by decide +kernel
theorem dX5_way_65 : decode cX5_way 65 = .ok (.if_icmp .ne 7, 3) := by decide +kernel
theorem dX5_way_68 : decode cX5_way 68 = .ok (.iconst 0, 1) := by decide +kernel
theorem dX5_way_69 : decode cX5_way 69 = .ok (.goto 4, 3) := by decide +kernel
theorem dX5_way_72 : decode cX5_way 72 = .ok (.iconst 1, 1) := by decide +kernel
theorem dX5_way_73 : decode cX5_way 73 = .ok (.iadd, 1) := by decide +kernel
theorem dX5_way_74 : decode cX5_way 74 = .ok (.istore_n 3, 1) := by decide +kernel
theorem dX5_way_75 : decode cX5_way 75 = .ok (.iinc 4 1, 3) := by decide +kernel
theorem dX5_way_78 : decode cX5_way 78 = .ok (.goto (-44), 3) := by decide +kernel
theorem dX5_way_81 : decode cX5_way 81 = .ok (.iload_n 3, 1) := by decide +kernel
theorem dX5_way_82 : decode cX5_way 82 = .ok (.ireturn, 1) := by decide +kernel
set_option maxRecDepth 20000 in
theorem ggX5_offBy_X5_copies : GoodIn wsX5_offBy wsX5_copies := goodIn_r _ [6] (by decide +kernel) (by decide +kernel)
set_option maxRecDepth 20000 in
theorem gX5_offBy_X5_copies : GoodIn wsX5_offBy (va_wsS RX5 135 yX5_copies wsX5_copies) := goodIn_app (goodIn_of _ (by decide +kernel)) ggX5_offBy_X5_copies
set_option maxRecDepth 20000 in
theorem ggX5_offBy_X5_dropsIn : GoodIn wsX5_offBy wsX5_dropsIn := goodIn_r _ [9, 10, 11, 5, 12] (by decide +kernel) (by decide +kernel)
set_option maxRecDepth 20000 in
theorem gX5_offBy_X5_dropsIn : GoodIn wsX5_offBy (va_wsS RX5 125 yX5_dropsIn wsX5_dropsIn) := goodIn_app (goodIn_of _ (by decide +kernel)) ggX5_offBy_X5_dropsIn
set_option maxRecDepth 20000 in
theorem ggX5_offBy_X5_daysOn : GoodIn wsX5_offBy wsX5_daysOn := goodIn_r _ [15, 16, 17, 5, 18, 19, 20, 21, 22, 23, 24, 25, 26, 27, 10, 11, 12, 28, 29, 30, 31, 32, 33, 34, 35, 36, 37, 38, 39, 40, 41, 42, 43, 44, 45, 46, 47, 48, 49, 50, 51] (by decide +kernel) (by decide +kernel)
set_option maxRecDepth 20000 in
theorem gX5_offBy_X5_daysOn : GoodIn wsX5_offBy (va_wsS RX5 129 yX5_daysOn wsX5_daysOn) := goodIn_app (goodIn_of _ (by decide +kernel)) ggX5_offBy_X5_daysOn
set_option maxRecDepth 20000 in
theorem ggX5_offBy_X5_cellOf : GoodIn wsX5_offBy wsX5_cellOf := goodIn_r _ [33, 10, 11, 5, 12] (by decide +kernel) (by decide +kernel)
set_option maxRecDepth 20000 in
theorem gX5_offBy_X5_cellOf : GoodIn wsX5_offBy (va_wsS RX5 52 yX5_cellOf wsX5_cellOf) := goodIn_app (goodIn_of _ (by decide +kernel)) ggX5_offBy_X5_cellOf
set_option maxRecDepth 20000 in
theorem ggX5_offBy_X5_steps : GoodIn wsX5_offBy wsX5_steps := goodIn_r _ [36, 37, 38, 5, 39] (by decide +kernel) (by decide +kernel)
set_option maxRecDepth 20000 in
theorem gX5_offBy_X5_steps : GoodIn wsX5_offBy (va_wsS RX5 56 yX5_steps wsX5_steps) := goodIn_app (goodIn_of _ (by decide +kernel)) ggX5_offBy_X5_steps
theorem dX5_offBy_0 : decode cX5_offBy 0 = .ok (.aload_n 0, 1) := by decide +kernel
theorem dX5_offBy_1 : decode cX5_offBy 1 = .ok (.getfield 9, 3) := by decide +kernel
theorem dX5_offBy_4 : decode cX5_offBy 4 = .ok (.aload_n 0, 1) := by decide +kernel
theorem dX5_offBy_5 : decode cX5_offBy 5 = .ok (.getfield 13, 3) := by decide +kernel
theorem dX5_offBy_8 : decode cX5_offBy 8 = .ok (.invokestatic 135, 3) := by decide +kernel
theorem dX5_offBy_11 : decode cX5_offBy 11 = .ok (.iload_n 3, 1) := by decide +kernel
theorem dX5_offBy_12 : decode cX5_offBy 12 = .ok (.iconst 1, 1) := by decide +kernel
theorem dX5_offBy_13 : decode cX5_offBy 13 = .ok (.if_icmp .ne 11, 3) := by decide +kernel
