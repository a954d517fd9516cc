theorem dX4_init_60 : decode cX4_init 60 = .ok (.new 36, 3) := by decide +kernel
theorem dX4_init_63 : decode cX4_init 63 = .ok (.dup, 1) := by decide +kernel
theorem dX4_init_64 : decode cX4_init 64 = .ok (.invokespecial 38, 3) := by decide +kernel
theorem dX4_init_67 : decode cX4_init 67 = .ok (.putfield 39, 3) := by decide +kernel
theorem dX4_init_70 : decode cX4_init 70 = .ok (.aload_n 0, 1) := by decide +kernel
theorem dX4_init_71 : decode cX4_init 71 = .ok (.bipush 16, 2) := by decide +kernel
theorem dX4_init_73 : decode cX4_init 73 = .ok (.newarray .int, 2) := by decide +kernel
theorem dX4_init_75 : decode cX4_init 75 = .ok (.putfield 43, 3) := by decide +kernel
theorem dX4_init_78 : decode cX4_init 78 = .ok (.aload_n 0, 1) := by decide +kernel
theorem dX4_init_79 : decode cX4_init 79 = .ok (.iconst 4, 1) := by decide +kernel
theorem dX4_init_80 : decode cX4_init 80 = .ok (.newarray .int, 2) := by decide +kernel
theorem dX4_init_82 : decode cX4_init 82 = .ok (.putfield 47, 3) := by decide +kernel
theorem dX4_init_85 : decode cX4_init 85 = .ok (.aload_n 0, 1) := by decide +kernel
theorem dX4_init_86 : decode cX4_init 86 = .ok (.bipush 7, 2) := by decide +kernel
theorem dX4_init_88 : decode cX4_init 88 = .ok (.newarray .int, 2) := by decide +kernel
theorem dX4_init_90 : decode cX4_init 90 = .ok (.putfield 50, 3) := by decide +kernel
theorem dX4_init_93 : decode cX4_init 93 = .ok (.return_, 1) := by decide +kernel
set_option maxRecDepth 20000 in
theorem ggX4_letter_X4_outside : GoodIn wsX4_letter wsX4_outside := goodIn_r _ [5, 6, 7, 4, 8, 9, 10, 11, 12, 13, 14] (by decide +kernel) (by decide +kernel)
set_option maxRecDepth 20000 in
theorem gX4_letter_X4_outside : GoodIn wsX4_letter (va_wsS RX4 53 yX4_outside wsX4_outside) := goodIn_app (goodIn_of _ (by decide +kernel)) ggX4_letter_X4_outside
set_option maxRecDepth 20000 in
theorem ggX4_letter_X4_firstOf : GoodIn wsX4_letter wsX4_firstOf := goodIn_r _ [14] (by decide +kernel) (by decide +kernel)
set_option maxRecDepth 20000 in
theorem gX4_letter_X4_firstOf : GoodIn wsX4_letter (va_wsS RX4 61 yX4_firstOf wsX4_firstOf) := goodIn_app (goodIn_of _ (by decide +kernel)) ggX4_letter_X4_firstOf
set_option maxRecDepth 20000 in
theorem ggX4_letter_X4_refuse : GoodIn wsX4_letter wsX4_refuse := goodIn_r _ [18, 19, 27, 28, 29, 30, 31, 32, 33, 34, 35, 36, 37] (by decide +kernel) (by decide +kernel)
set_option maxRecDepth 20000 in
theorem gX4_letter_X4_refuse : GoodIn wsX4_letter (wsV RX4 65 RX4 yX4_refuse wsX4_refuse) := goodIn_app (goodIn_of _ (by decide +kernel)) ggX4_letter_X4_refuse
set_option maxRecDepth 20000 in
theorem ggX4_letter_X2_take : GoodIn wsX4_letter wsX2_take := goodIn_r _ [24, 25, 26, 38, 39] (by decide +kernel) (by decide +kernel)
set_option maxRecDepth 20000 in
theorem gX4_letter_X2_take : GoodIn wsX4_letter (wsV RX4 69 RX2 yX2_take wsX2_take) := goodIn_app (goodIn_of _ (by decide +kernel)) ggX4_letter_X2_take
theorem dX4_letter_0 : decode cX4_letter 0 = .ok (.iload_n 1, 1) := by decide +kernel
theorem dX4_letter_1 : decode cX4_letter 1 = .ok (.iconst 0, 1) := by decide +kernel
theorem dX4_letter_2 : decode cX4_letter 2 = .ok (.sipush 255, 3) := by decide +kernel
theorem dX4_letter_5 : decode cX4_letter 5 = .ok (.invokestatic 53, 3) := by decide +kernel
theorem dX4_letter_8 : decode cX4_letter 8 = .ok (.aload_n 0, 1) := by decide +kernel
theorem dX4_letter_9 : decode cX4_letter 9 = .ok (.getfield 25, 3) := by decide +kernel
theorem dX4_letter_12 : decode cX4_letter 12 = .ok (.getfield 57, 3) := by decide +kernel
theorem dX4_letter_15 : decode cX4_letter 15 = .ok (.bipush 96, 2) := by decide +kernel
theorem dX4_letter_17 : decode cX4_letter 17 = .ok (.if_icmp .ge 7, 3) := by decide +kernel
theorem dX4_letter_20 : decode cX4_letter 20 = .ok (.iconst 0, 1) := by decide +kernel
theorem dX4_letter_21 : decode cX4_letter 21 = .ok (.goto 5, 3) := by decide +kernel
theorem dX4_letter_24 : decode cX4_letter 24 = .ok (.bipush (-6), 2) := by decide +kernel
theorem dX4_letter_26 : decode cX4_letter 26 = .ok (.invokestatic 61, 3) := by decide +kernel
theorem dX4_letter_29 : decode cX4_letter 29 = .ok (.istore_n 2, 1) := by decide +kernel
theorem dX4_letter_30 : decode cX4_letter 30 = .ok (.iload_n 2, 1) := by decide +kernel
theorem dX4_letter_31 : decode cX4_letter 31 = .ok (.ifCond .eq 9, 3) := by decide +kernel
theorem dX4_letter_34 : decode cX4_letter 34 = .ok (.aload_n 0, 1) := by decide +kernel
theorem dX4_letter_35 : decode cX4_letter 35 = .ok (.iload_n 2, 1) := by decide +kernel
theorem dX4_letter_36 : decode cX4_letter 36 = .ok (.invokevirtual 65, 3) := by decide +kernel
theorem dX4_letter_39 : decode cX4_letter 39 = .ok (.ireturn, 1) := by decide +kernel
theorem dX4_letter_40 : decode cX4_letter 40 = .ok (.aload_n 0, 1) := by decide +kernel
theorem dX4_letter_41 : decode cX4_letter 41 = .ok (.getfield 25, 3) := by decide +kernel
theorem dX4_letter_44 : decode cX4_letter 44 = .ok (.iload_n 1, 1) := by decide +kernel
theorem dX4_letter_45 : decode cX4_letter 45 = .ok (.invokevirtual 69, 3) := by decide +kernel
theorem dX4_letter_48 : decode cX4_letter 48 = .ok (.aload_n 0, 1) := by decide +kernel
theorem dX4_letter_49 : decode cX4_letter 49 = .ok (.getfield 25, 3) := by decide +kernel
theorem dX4_letter_52 : decode cX4_letter 52 = .ok (.getfield 57, 3) := by decide +kernel
theorem dX4_letter_55 : decode cX4_letter 55 = .ok (.ireturn, 1) := by decide +kernel
set_option maxRecDepth 20000 in
theorem ggX4_sea_X2_firstMisfit : GoodIn wsX4_sea wsX2_firstMisfit := goodIn_r _ [6, 7, 8, 9, 10, 5, 11, 12, 13, 14, 15, 16, 17, 18, 19, 20, 21, 22, 23, 24, 25, 26, 27, 28, 29, 30, 31, 32, 33, 34, 35, 36, 37, 38, 39, 40, 41, 42, 43, 44, 45, 46, 47, 48, 49, 50, 51, 52, 53, 54, 55, 56, 57, 58, 59, 60, 61, 62, 63, 64, 65, 66, 67, 68, 69, 70, 71, 72, 73, 74, 75, 76, 77, 78, 79, 80, 81, 82, 83, 84, 85, 86, 87, 88, 89, 90, 91, 92, 93, 94, 95, 96, 97, 98, 99, 100, 101, 102, 103, 104, 105, 106, 257, 258] (by decide +kernel) (by decide +kernel)
set_option maxRecDepth 20000 in
theorem gX4_sea_X2_firstMisfit : GoodIn wsX4_sea (wsV RX4 73 RX2 yX2_firstMisfit wsX2_firstMisfit) := goodIn_app (goodIn_of _ (by decide +kernel)) ggX4_sea_X2_firstMisfit
set_option maxRecDepth 20000 in
theorem ggX4_sea_X4_carryOutText : GoodIn wsX4_sea wsX4_carryOutText := goodIn_r _ [110, 1, 111, 112, 113, 114, 115, 16, 116, 117, 118, 119, 120, 121, 122, 123, 124, 125, 126, 127, 128, 129, 130, 131, 132, 133, 134, 135, 136, 137, 138, 139, 140, 141, 142, 5, 143, 144, 145, 146, 147, 148, 149, 150, 151, 7, 8, 152, 153, 154, 155, 156, 157, 15, 17, 18, 19, 20, 21, 22, 23, 24, 25, 26, 27, 28, 29, 30, 31, 32, 33, 34, 35, 36, 37, 38, 39, 40, 41, 42, 43, 44, 45, 46, 47, 48, 49, 50, 51, 52, 53, 54, 55, 56, 57, 58, 59, 60, 61, 62, 63, 64, 65, 66, 67, 68, 69, 70, 71, 72, 73, 74, 75, 76, 77, 78, 79, 80, 81, 82, 83, 84, 85, 86, 87, 88, 89, 90, 91, 92, 93, 94, 95, 96, 97, 98, 99, 100, 101, 102, 103, 104, 105, 106, 158, 159, 160, 161, 162, 163, 164, 165, 166, 167, 168, 169, 170, 171, 172, 173, 174, 175, 176, 177, 178, 179, 180, 181, 182, 183, 184, 185, 186, 187, 188, 189, 190, 191, 192, 193, 194, 195, 196, 197, 198, 199, 200, 201, 202, 203, 204, 205, 206, 207, 208, 209, 210, 211, 212, 213, 214, 215, 216, 217, 218, 219, 220, 221, 222, 223, 224, 225, 226, 227, 228, 229, 230, 231, 232, 233, 234, 235, 236, 237, 238, 239, 240, 241, 242, 243, 244, 245, 9, 10, 11, 246, 247, 248, 249, 250, 251, 252, 253, 254, 255, 256, 257, 258, 259, 260, 261, 262, 263, 264, 265, 266, 267, 268, 269, 270] (by decide +kernel) (by decide +kernel)
set_option maxRecDepth 20000 in
theorem gX4_sea_X4_carryOutText : GoodIn wsX4_sea (wsV RX4 77 RX4 yX4_carryOutText wsX4_carryOutText) := goodIn_app (goodIn_of _ (by decide +kernel)) ggX4_sea_X4_carryOutText
theorem dX4_sea_0 : decode cX4_sea 0 = .ok (.aload_n 0, 1) := by decide +kernel
theorem dX4_sea_1 : decode cX4_sea 1 = .ok (.getfield 25, 3) := by decide +kernel
theorem dX4_sea_4 : decode cX4_sea 4 = .ok (.invokevirtual 73, 3) := by decide +kernel
theorem dX4_sea_7 : decode cX4_sea 7 = .ok (.istore_n 1, 1) := by decide +kernel
theorem dX4_sea_8 : decode cX4_sea 8 = .ok (.iload_n 1, 1) := by decide +kernel
theorem dX4_sea_9 : decode cX4_sea 9 = .ok (.bipush (-9), 2) := by decide +kernel
theorem dX4_sea_11 : decode cX4_sea 11 = .ok (.if_icmp .ne 10, 3) := by decide +kernel
theorem dX4_sea_14 : decode cX4_sea 14 = .ok (.aload_n 0, 1) := by decide +kernel
theorem dX4_sea_15 : decode cX4_sea 15 = .ok (.invokevirtual 77, 3) := by decide +kernel
theorem dX4_sea_18 : decode cX4_sea 18 = .ok (.goto 8, 3) := by decide +kernel
theorem dX4_sea_21 : decode cX4_sea 21 = .ok (.sipush (-1000), 3) := by decide +kernel
theorem dX4_sea_24 : decode cX4_sea 24 = .ok (.iload_n 1, 1) := by decide +kernel
theorem dX4_sea_25 : decode cX4_sea 25 = .ok (.isub, 1) := by decide +kernel
theorem dX4_sea_26 : decode cX4_sea 26 = .ok (.istore_n 2, 1) := by decide +kernel
theorem dX4_sea_27 : decode cX4_sea 27 = .ok (.aload_n 0, 1) := by decide +kernel
theorem dX4_sea_28 : decode cX4_sea 28 = .ok (.getfield 25, 3) := by decide +kernel
theorem dX4_sea_31 : decode cX4_sea 31 = .ok (.iconst 0, 1) := by decide +kernel
theorem dX4_sea_32 : decode cX4_sea 32 = .ok (.putfield 57, 3) := by decide +kernel
theorem dX4_sea_35 : decode cX4_sea 35 = .ok (.iload_n 2, 1) := by decide +kernel
theorem dX4_sea_36 : decode cX4_sea 36 = .ok (.ireturn, 1) := by decide +kernel
set_option maxRecDepth 20000 in
theorem ggX4_hand_X4_noHand : GoodIn wsX4_hand wsX4_noHand := goodIn_r _ [6, 1, 24, 25, 26, 27, 28, 29, 30, 31, 32, 33, 34, 35, 36, 37, 38, 39, 40, 41, 42, 43, 44, 45, 46] (by decide +kernel) (by decide +kernel)
set_option maxRecDepth 20000 in
theorem gX4_hand_X4_noHand : GoodIn wsX4_hand (wsV RX4 80 RX4 yX4_noHand wsX4_noHand) := goodIn_app (goodIn_of _ (by decide +kernel)) ggX4_hand_X4_noHand
set_option maxRecDepth 20000 in
theorem ggX4_hand_X4_noWhat : GoodIn wsX4_hand wsX4_noWhat := goodIn_r _ [9] (by decide +kernel) (by decide +kernel)
set_option maxRecDepth 20000 in
theorem gX4_hand_X4_noWhat : GoodIn wsX4_hand (va_wsS RX4 83 yX4_noWhat wsX4_noWhat) := goodIn_app (goodIn_of _ (by decide +kernel)) ggX4_hand_X4_noWhat
set_option maxRecDepth 20000 in
theorem ggX4_hand_X4_firstOf : GoodIn wsX4_hand wsX4_firstOf := goodIn_r _ [12] (by decide +kernel) (by decide +kernel)
set_option maxRecDepth 20000 in
theorem gX4_hand_X4_firstOf : GoodIn wsX4_hand (va_wsS RX4 61 yX4_firstOf wsX4_firstOf) := goodIn_app (goodIn_of _ (by decide +kernel)) ggX4_hand_X4_firstOf
set_option maxRecDepth 20000 in
theorem ggX4_hand_X4_refuse : GoodIn wsX4_hand wsX4_refuse := goodIn_r _ [16, 17, 24, 25, 26, 27, 28, 29, 30, 31, 32, 33, 34] (by decide +kernel) (by decide +kernel)
set_option maxRecDepth 20000 in
theorem gX4_hand_X4_refuse : GoodIn wsX4_hand (wsV RX4 65 RX4 yX4_refuse wsX4_refuse) := goodIn_app (goodIn_of _ (by decide +kernel)) ggX4_hand_X4_refuse
set_option maxRecDepth 20000 in
theorem ggX4_hand_X3_isAboard : GoodIn wsX4_hand wsX3_isAboard := goodIn_r _ [22, 23, 35, 36, 37, 38, 39, 40, 41, 42, 43, 44, 45, 46] (by decide +kernel) (by decide +kernel)
set_option maxRecDepth 20000 in
theorem gX4_hand_X3_isAboard : GoodIn wsX4_hand (wsV RX4 98 RX3 yX3_isAboard wsX3_isAboard) := goodIn_app (goodIn_of _ (by decide +kernel)) ggX4_hand_X3_isAboard
theorem dX4_hand_0 : decode cX4_hand 0 = .ok (.aload_n 0, 1) := by decide +kernel
theorem dX4_hand_1 : decode cX4_hand 1 = .ok (.iload_n 1, 1) := by decide +kernel
theorem dX4_hand_2 : decode cX4_hand 2 = .ok (.invokevirtual 80, 3) := by decide +kernel
theorem dX4_hand_5 : decode cX4_hand 5 = .ok (.iload_n 2, 1) := by decide +kernel
theorem dX4_hand_6 : decode cX4_hand 6 = .ok (.iconst 5, 1) := by decide +kernel
theorem dX4_hand_7 : decode cX4_hand 7 = .ok (.invokestatic 83, 3) := by decide +kernel
theorem dX4_hand_10 : decode cX4_hand 10 = .ok (.invokestatic 61, 3) := by decide +kernel
theorem dX4_hand_13 : decode cX4_hand 13 = .ok (.istore_n 3, 1) := by decide +kernel
theorem dX4_hand_14 : decode cX4_hand 14 = .ok (.iload_n 3, 1) := by decide +kernel
theorem dX4_hand_15 : decode cX4_hand 15 = .ok (.ifCond .eq 9, 3) := by decide +kernel
theorem dX4_hand_18 : decode cX4_hand 18 = .ok (.aload_n 0, 1) := by decide +kernel
theorem dX4_hand_19 : decode cX4_hand 19 = .ok (.iload_n 3, 1) := by decide +kernel
theorem dX4_hand_20 : decode cX4_hand 20 = .ok (.invokevirtual 65, 3) := by decide +kernel
theorem dX4_hand_23 : decode cX4_hand 23 = .ok (.ireturn, 1) := by decide +kernel
theorem dX4_hand_24 : decode cX4_hand 24 = .ok (.iload_n 2, 1) := by decide +kernel
theorem dX4_hand_25 : decode cX4_hand 25 = .ok (.tableswitch 71 0 3 #[31, 41, 51, 61], 31) := by decide +kernel
theorem dX4_hand_56 : decode cX4_hand 56 = .ok (.aload_n 0, 1) := by decide +kernel
theorem dX4_hand_57 : decode cX4_hand 57 = .ok (.getfield 10, 3) := by decide +kernel
theorem dX4_hand_60 : decode cX4_hand 60 = .ok (.getfield 86, 3) := by decide +kernel
theorem dX4_hand_63 : decode cX4_hand 63 = .ok (.iload_n 1, 1) := by decide +kernel
theorem dX4_hand_64 : decode cX4_hand 64 = .ok (.iaload, 1) := by decide +kernel
theorem dX4_hand_65 : decode cX4_hand 65 = .ok (.ireturn, 1) := by decide +kernel
theorem dX4_hand_66 : decode cX4_hand 66 = .ok (.aload_n 0, 1) := by decide +kernel
theorem dX4_hand_67 : decode cX4_hand 67 = .ok (.getfield 10, 3) := by decide +kernel
theorem dX4_hand_70 : decode cX4_hand 70 = .ok (.getfield 89, 3) := by decide +kernel
theorem dX4_hand_73 : decode cX4_hand 73 = .ok (.iload_n 1, 1) := by decide +kernel
theorem dX4_hand_74 : decode cX4_hand 74 = .ok (.iaload, 1) := by decide +kernel
theorem dX4_hand_75 : decode cX4_hand 75 = .ok (.ireturn, 1) := by decide +kernel
theorem dX4_hand_76 : decode cX4_hand 76 = .ok (.aload_n 0, 1) := by decide +kernel
theorem dX4_hand_77 : decode cX4_hand 77 = .ok (.getfield 10, 3) := by decide +kernel
theorem dX4_hand_80 : decode cX4_hand 80 = .ok (.getfield 92, 3) := by decide +kernel
theorem dX4_hand_83 : decode cX4_hand 83 = .ok (.iload_n 1, 1) := by decide +kernel
theorem dX4_hand_84 : decode cX4_hand 84 = .ok (.iaload, 1) := by decide +kernel
theorem dX4_hand_85 : decode cX4_hand 85 = .ok (.ireturn, 1) := by decide +kernel
theorem dX4_hand_86 : decode cX4_hand 86 = .ok (.aload_n 0, 1) := by decide +kernel
theorem dX4_hand_87 : decode cX4_hand 87 = .ok (.getfield 10, 3) := by decide +kernel
theorem dX4_hand_90 : decode cX4_hand 90 = .ok (.getfield 95, 3) := by decide +kernel
theorem dX4_hand_93 : decode cX4_hand 93 = .ok (.iload_n 1, 1) := by decide +kernel
theorem dX4_hand_94 : decode cX4_hand 94 = .ok (.iaload, 1) := by decide +kernel
theorem dX4_hand_95 : decode cX4_hand 95 = .ok (.ireturn, 1) := by decide +kernel
theorem dX4_hand_96 : decode cX4_hand 96 = .ok (.aload_n 0, 1) := by decide +kernel
theorem dX4_hand_97 : decode cX4_hand 97 = .ok (.getfield 10, 3) := by decide +kernel
theorem dX4_hand_100 : decode cX4_hand 100 = .ok (.iload_n 1, 1) := by decide +kernel
theorem dX4_hand_101 : decode cX4_hand 101 = .ok (.invokevirtual 98, 3) := by decide +kernel
theorem dX4_hand_104 : decode cX4_hand 104 = .ok (.ifCond .eq 7, 3) := by decide +kernel
theorem dX4_hand_107 : decode cX4_hand 107 = .ok (.iconst 1, 1) := by decide +kernel
theorem dX4_hand_108 : decode cX4_hand 108 = .ok (.goto 4, 3) := by decide +kernel
theorem dX4_hand_111 : decode cX4_hand 111 = .ok (.iconst 0, 1) := by decide +kernel
theorem dX4_hand_112 : decode cX4_hand 112 = .ok (.ireturn, 1) := by decide +kernel
set_option maxRecDepth 20000 in
theorem ggX4_place_X4_noPlace : GoodIn wsX4_place wsX4_noPlace := goodIn_r _ [6, 1, 12, 13, 14, 15, 16, 17, 18, 19, 20, 21, 22, 23, 24, 25, 26, 27, 28, 29, 30, 31, 32, 33, 34] (by decide +kernel) (by decide +kernel)
set_option maxRecDepth 20000 in
theorem gX4_place_X4_noPlace : GoodIn wsX4_place (wsV RX4 102 RX4 yX4_noPlace wsX4_noPlace) := goodIn_app (goodIn_of _ (by decide +kernel)) ggX4_place_X4_noPlace
set_option maxRecDepth 20000 in
theorem ggX4_place_X4_refuse : GoodIn wsX4_place wsX4_refuse := goodIn_r _ [10, 11, 12, 13, 14, 15, 16, 17, 18, 19, 20, 21, 22] (by decide +kernel) (by decide +kernel)
set_option maxRecDepth 20000 in
theorem gX4_place_X4_refuse : GoodIn wsX4_place (wsV RX4 65 RX4 yX4_refuse wsX4_refuse) := goodIn_app (goodIn_of _ (by decide +kernel)) ggX4_place_X4_refuse
theorem dX4_place_0 : decode cX4_place 0 = .ok (.aload_n 0, 1) := by decide +kernel
theorem dX4_place_1 : decode cX4_place 1 = .ok (.iload_n 1, 1) := by decide +kernel
theorem dX4_place_2 : decode cX4_place 2 = .ok (.invokevirtual 102, 3) := by decide +kernel
theorem dX4_place_5 : decode cX4_place 5 = .ok (.istore_n 2, 1) := by decide +kernel
theorem dX4_place_6 : decode cX4_place 6 = .ok (.iload_n 2, 1) := by decide +kernel
theorem dX4_place_7 : decode cX4_place 7 = .ok (.ifCond .eq 11, 3) := by decide +kernel
theorem dX4_place_10 : decode cX4_place 10 = .ok (.aload_n 0, 1) := by decide +kernel
theorem dX4_place_11 : decode cX4_place 11 = .ok (.iload_n 2, 1) := by decide +kernel
theorem dX4_place_12 : decode cX4_place 12 = .ok (.invokevirtual 65, 3) := by decide +kernel
theorem dX4_place_15 : decode cX4_place 15 = .ok (.goto 12, 3) := by decide +kernel
theorem dX4_place_18 : decode cX4_place 18 = .ok (.aload_n 0, 1) := by decide +kernel
theorem dX4_place_19 : decode cX4_place 19 = .ok (.getfield 10, 3) := by decide +kernel
theorem dX4_place_22 : decode cX4_place 22 = .ok (.getfield 105, 3) := by decide +kernel
theorem dX4_place_25 : decode cX4_place 25 = .ok (.iload_n 1, 1) := by decide +kernel
theorem dX4_place_26 : decode cX4_place 26 = .ok (.iaload, 1) := by decide +kernel
theorem dX4_place_27 : decode cX4_place 27 = .ok (.ireturn, 1) := by decide +kernel
set_option maxRecDepth 20000 in
theorem ggX4_leans_X4_noHand : GoodIn wsX4_leans wsX4_noHand := goodIn_r _ [6, 1, 48, 49, 50, 51, 52, 53, 54, 55, 56, 57, 58, 59, 60, 61, 62, 63, 64, 65, 66, 67, 68, 69, 70] (by decide +kernel) (by decide +kernel)
set_option maxRecDepth 20000 in
theorem gX4_leans_X4_noHand : GoodIn wsX4_leans (wsV RX4 80 RX4 yX4_noHand wsX4_noHand) := goodIn_app (goodIn_of _ (by decide +kernel)) ggX4_leans_X4_noHand
set_option maxRecDepth 20000 in
theorem ggX4_leans_X4_refuseSigned : GoodIn wsX4_leans wsX4_refuseSigned := goodIn_r _ [10, 11, 12, 13, 14, 5, 15, 16, 48, 49, 50, 51, 52, 53, 54, 55, 56, 57, 58] (by decide +kernel) (by decide +kernel)
set_option maxRecDepth 20000 in
theorem gX4_leans_X4_refuseSigned : GoodIn wsX4_leans (wsV RX4 108 RX4 yX4_refuseSigned wsX4_refuseSigned) := goodIn_app (goodIn_of _ (by decide +kernel)) ggX4_leans_X4_refuseSigned
set_option maxRecDepth 20000 in
theorem ggX4_leans_X3_leanNow : GoodIn wsX4_leans wsX3_leanNow := goodIn_r _ [21, 22, 23, 24, 25, 20, 26, 27, 28, 29, 5, 30, 31, 32, 33, 34, 35, 36, 37, 38, 39, 40, 41, 42, 43, 44, 45, 46, 47, 59, 60, 61, 62, 63, 64, 65, 66, 67, 68, 69, 70] (by decide +kernel) (by decide +kernel)
set_option maxRecDepth 20000 in
theorem gX4_leans_X3_leanNow : GoodIn wsX4_leans (wsV RX4 111 RX3 yX3_leanNow wsX3_leanNow) := goodIn_app (goodIn_of _ (by decide +kernel)) ggX4_leans_X3_leanNow
theorem dX4_leans_0 : decode cX4_leans 0 = .ok (.aload_n 0, 1) := by decide +kernel
theorem dX4_leans_1 : decode cX4_leans 1 = .ok (.iload_n 1, 1) := by decide +kernel
theorem dX4_leans_2 : decode cX4_leans 2 = .ok (.invokevirtual 80, 3) := by decide +kernel
theorem dX4_leans_5 : decode cX4_leans 5 = .ok (.istore_n 2, 1) := by decide +kernel
theorem dX4_leans_6 : decode cX4_leans 6 = .ok (.iload_n 2, 1) := by decide +kernel
theorem dX4_leans_7 : decode cX4_leans 7 = .ok (.ifCond .eq 11, 3) := by decide +kernel
theorem dX4_leans_10 : decode cX4_leans 10 = .ok (.aload_n 0, 1) := by decide +kernel
theorem dX4_leans_11 : decode cX4_leans 11 = .ok (.iload_n 2, 1) := by decide +kernel
theorem dX4_leans_12 : decode cX4_leans 12 = .ok (.invokevirtual 108, 3) := by decide +kernel
theorem dX4_leans_15 : decode cX4_leans 15 = .ok (.goto 11, 3) := by decide +kernel
theorem dX4_leans_18 : decode cX4_leans 18 = .ok (.aload_n 0, 1) := by decide +kernel
theorem dX4_leans_19 : decode cX4_leans 19 = .ok (.getfield 10, 3) := by decide +kernel
theorem dX4_leans_22 : decode cX4_leans 22 = .ok (.iload_n 1, 1) := by decide +kernel
theorem dX4_leans_23 : decode cX4_leans 23 = .ok (.invokevirtual 111, 3) := by decide +kernel
theorem dX4_leans_26 : decode cX4_leans 26 = .ok (.ireturn, 1) := by decide +kernel
set_option maxRecDepth 20000 in
theorem ggX4_drops_X4_noHand : GoodIn wsX4_drops wsX4_noHand := goodIn_r _ [6, 1, 18, 19, 20, 21, 22, 23, 24, 25, 26, 27, 28, 29, 30, 31, 32, 33, 34, 35, 36, 37, 38, 39, 40] (by decide +kernel) (by decide +kernel)
set_option maxRecDepth 20000 in
theorem gX4_drops_X4_noHand : GoodIn wsX4_drops (wsV RX4 80 RX4 yX4_noHand wsX4_noHand) := goodIn_app (goodIn_of _ (by decide +kernel)) ggX4_drops_X4_noHand
set_option maxRecDepth 20000 in
theorem ggX4_drops_X4_refuse : GoodIn wsX4_drops wsX4_refuse := goodIn_r _ [10, 11, 18, 19, 20, 21, 22, 23, 24, 25, 26, 27, 28] (by decide +kernel) (by decide +kernel)
set_option maxRecDepth 20000 in
theorem gX4_drops_X4_refuse : GoodIn wsX4_drops (wsV RX4 65 RX4 yX4_refuse wsX4_refuse) := goodIn_app (goodIn_of _ (by decide +kernel)) ggX4_drops_X4_refuse
set_option maxRecDepth 20000 in
theorem ggX4_drops_X3_dropLetter : GoodIn wsX4_drops wsX3_dropLetter := goodIn_r _ [16, 17, 29, 30, 31, 32, 33, 34, 35, 36, 37, 38, 39, 40] (by decide +kernel) (by decide +kernel)
set_option maxRecDepth 20000 in
theorem gX4_drops_X3_dropLetter : GoodIn wsX4_drops (wsV RX4 114 RX3 yX3_dropLetter wsX3_dropLetter) := goodIn_app (goodIn_of _ (by decide +kernel)) ggX4_drops_X3_dropLetter
theorem dX4_drops_0 : decode cX4_drops 0 = .ok (.aload_n 0, 1) := by decide +kernel
theorem dX4_drops_1 : decode cX4_drops 1 = .ok (.iload_n 1, 1) := by decide +kernel
theorem dX4_drops_2 : decode cX4_drops 2 = .ok (.invokevirtual 80, 3) := by decide +kernel
theorem dX4_drops_5 : decode cX4_drops 5 = .ok (.istore_n 2, 1) := by decide +kernel
theorem dX4_drops_6 : decode cX4_drops 6 = .ok (.iload_n 2, 1) := by decide +kernel
theorem dX4_drops_7 : decode cX4_drops 7 = .ok (.ifCond .eq 9, 3) := by decide +kernel
theorem dX4_drops_10 : decode cX4_drops 10 = .ok (.aload_n 0, 1) := by decide +kernel
theorem dX4_drops_11 : decode cX4_drops 11 = .ok (.iload_n 2, 1) := by decide +kernel
theorem dX4_drops_12 : decode cX4_drops 12 = .ok (.invokevirtual 65, 3) := by decide +kernel
theorem dX4_drops_15 : decode cX4_drops 15 = .ok (.ireturn, 1) := by decide +kernel
theorem dX4_drops_16 : decode cX4_drops 16 = .ok (.aload_n 0, 1) := by decide +kernel
theorem dX4_drops_17 : decode cX4_drops 17 = .ok (.getfield 10, 3) := by decide +kernel
theorem dX4_drops_20 : decode cX4_drops 20 = .ok (.iload_n 1, 1) := by decide +kernel
theorem dX4_drops_21 : decode cX4_drops 21 = .ok (.invokevirtual 114, 3) := by decide +kernel
theorem dX4_drops_24 : decode cX4_drops 24 = .ok (.aload_n 0, 1) := by decide +kernel
theorem dX4_drops_25 : decode cX4_drops 25 = .ok (.getfield 10, 3) := by decide +kernel
theorem dX4_drops_28 : decode cX4_drops 28 = .ok (.getfield 95, 3) := by decide +kernel
theorem dX4_drops_31 : decode cX4_drops 31 = .ok (.iload_n 1, 1) := by decide +kernel
theorem dX4_drops_32 : decode cX4_drops 32 = .ok (.iaload, 1) := by decide +kernel
theorem dX4_drops_33 : decode cX4_drops 33 = .ok (.ireturn, 1) := by decide +kernel
set_option maxRecDepth 20000 in
theorem ggX4_boards_X4_noHand : GoodIn wsX4_boards wsX4_noHand := goodIn_r _ [6, 1, 22, 23, 24, 25, 26, 27, 28, 29, 30, 31, 32, 33, 34, 35, 36, 37, 38, 39, 40, 41, 42, 43, 44] (by decide +kernel) (by decide +kernel)
set_option maxRecDepth 20000 in
theorem gX4_boards_X4_noHand : GoodIn wsX4_boards (wsV RX4 80 RX4 yX4_noHand wsX4_noHand) := goodIn_app (goodIn_of _ (by decide +kernel)) ggX4_boards_X4_noHand
set_option maxRecDepth 20000 in
theorem ggX4_boards_X4_refuse : GoodIn wsX4_boards wsX4_refuse := goodIn_r _ [10, 11, 22, 23, 24, 25, 26, 27, 28, 29, 30, 31, 32] (by decide +kernel) (by decide +kernel)
set_option maxRecDepth 20000 in
theorem gX4_boards_X4_refuse : GoodIn wsX4_boards (wsV RX4 65 RX4 yX4_refuse wsX4_refuse) := goodIn_app (goodIn_of _ (by decide +kernel)) ggX4_boards_X4_refuse
set_option maxRecDepth 20000 in
theorem ggX4_boards_X3_changeSide : GoodIn wsX4_boards wsX3_changeSide := goodIn_r _ [16, 17, 33, 34, 35, 36, 37, 38, 39, 40, 41, 42, 43, 44] (by decide +kernel) (by decide +kernel)
set_option maxRecDepth 20000 in
theorem gX4_boards_X3_changeSide : GoodIn wsX4_boards (wsV RX4 117 RX3 yX3_changeSide wsX3_changeSide) := goodIn_app (goodIn_of _ (by decide +kernel)) ggX4_boards_X3_changeSide
set_option maxRecDepth 20000 in
theorem ggX4_boards_X3_isAboard : GoodIn wsX4_boards wsX3_isAboard := goodIn_r _ [21, 17, 33, 34, 35, 36, 37, 38, 39, 40, 41, 42, 43, 44] (by decide +kernel) (by decide +kernel)
set_option maxRecDepth 20000 in
theorem gX4_boards_X3_isAboard : GoodIn wsX4_boards (wsV RX4 98 RX3 yX3_isAboard wsX3_isAboard) := goodIn_app (goodIn_of _ (by decide +kernel)) ggX4_boards_X3_isAboard
theorem dX4_boards_0 : decode cX4_boards 0 = .ok (.aload_n 0, 1) := by decide +kernel
theorem dX4_boards_1 : decode cX4_boards 1 = .ok (.iload_n 1, 1) := by decide +kernel
theorem dX4_boards_2 : decode cX4_boards 2 = .ok (.invokevirtual 80, 3) := by decide +kernel
theorem dX4_boards_5 : decode cX4_boards 5 = .ok (.istore_n 2, 1) := by decide +kernel
theorem dX4_boards_6 : decode cX4_boards 6 = .ok (.iload_n 2, 1) := by decide +kernel
theorem dX4_boards_7 : decode cX4_boards 7 = .ok (.ifCond .eq 9, 3) := by decide +kernel
theorem dX4_boards_10 : decode cX4_boards 10 = .ok (.aload_n 0, 1) := by decide +kernel
theorem dX4_boards_11 : decode cX4_boards 11 = .ok (.iload_n 2, 1) := by decide +kernel
theorem dX4_boards_12 : decode cX4_boards 12 = .ok (.invokevirtual 65, 3) := by decide +kernel
theorem dX4_boards_15 : decode cX4_boards 15 = .ok (.ireturn, 1) := by decide +kernel
theorem dX4_boards_16 : decode cX4_boards 16 = .ok (.aload_n 0, 1) := by decide +kernel
theorem dX4_boards_17 : decode cX4_boards 17 = .ok (.getfield 10, 3) := by decide +kernel
theorem dX4_boards_20 : decode cX4_boards 20 = .ok (.iload_n 1, 1) := by decide +kernel
theorem dX4_boards_21 : decode cX4_boards 21 = .ok (.invokevirtual 117, 3) := by decide +kernel
theorem dX4_boards_24 : decode cX4_boards 24 = .ok (.aload_n 0, 1) := by decide +kernel
theorem dX4_boards_25 : decode cX4_boards 25 = .ok (.getfield 10, 3) := by decide +kernel
theorem dX4_boards_28 : decode cX4_boards 28 = .ok (.iload_n 1, 1) := by decide +kernel
theorem dX4_boards_29 : decode cX4_boards 29 = .ok (.invokevirtual 98, 3) := by decide +kernel
theorem dX4_boards_32 : decode cX4_boards 32 = .ok (.ifCond .eq 7, 3) := by decide +kernel
theorem dX4_boards_35 : decode cX4_boards 35 = .ok (.iconst 1, 1) := by decide +kernel
theorem dX4_boards_36 : decode cX4_boards 36 = .ok (.goto 4, 3) := by decide +kernel
theorem dX4_boards_39 : decode cX4_boards 39 = .ok (.iconst 0, 1) := by decide +kernel
theorem dX4_boards_40 : decode cX4_boards 40 = .ok (.ireturn, 1) := by decide +kernel
set_option maxRecDepth 20000 in
theorem ggX4_sails_X4_refuse : GoodIn wsX4_sails wsX4_refuse := goodIn_r _ [6, 7, 8, 9, 10, 11, 12, 13, 14, 15, 16, 17, 18] (by decide +kernel) (by decide +kernel)
set_option maxRecDepth 20000 in
theorem gX4_sails_X4_refuse : GoodIn wsX4_sails (wsV RX4 65 RX4 yX4_refuse wsX4_refuse) := goodIn_app (goodIn_of _ (by decide +kernel)) ggX4_sails_X4_refuse
theorem dX4_sails_0 : decode cX4_sails 0 = .ok (.iload_n 1, 1) := by decide +kernel
theorem dX4_sails_1 : decode cX4_sails 1 = .ok (.ifCond .lt 9, 3) := by decide +kernel
theorem dX4_sails_4 : decode cX4_sails 4 = .ok (.iload_n 1, 1) := by decide +kernel
theorem dX4_sails_5 : decode cX4_sails 5 = .ok (.bipush 64, 2) := by decide +kernel
theorem dX4_sails_7 : decode cX4_sails 7 = .ok (.if_icmp .lt 9, 3) := by decide +kernel
theorem dX4_sails_10 : decode cX4_sails 10 = .ok (.aload_n 0, 1) := by decide +kernel
theorem dX4_sails_11 : decode cX4_sails 11 = .ok (.iconst (-1), 1) := by decide +kernel
theorem dX4_sails_12 : decode cX4_sails 12 = .ok (.invokevirtual 65, 3) := by decide +kernel
theorem dX4_sails_15 : decode cX4_sails 15 = .ok (.ireturn, 1) := by decide +kernel
theorem dX4_sails_16 : decode cX4_sails 16 = .ok (.aload_n 0, 1) := by decide +kernel
theorem dX4_sails_17 : decode cX4_sails 17 = .ok (.getfield 10, 3) := by decide +kernel
theorem dX4_sails_20 : decode cX4_sails 20 = .ok (.getfield 120, 3) := by decide +kernel
theorem dX4_sails_23 : decode cX4_sails 23 = .ok (.istore_n 2, 1) := by decide +kernel
theorem dX4_sails_24 : decode cX4_sails 24 = .ok (.aload_n 0, 1) := by decide +kernel
theorem dX4_sails_25 : decode cX4_sails 25 = .ok (.getfield 10, 3) := by decide +kernel
theorem dX4_sails_28 : decode cX4_sails 28 = .ok (.iload_n 1, 1) := by decide +kernel
theorem dX4_sails_29 : decode cX4_sails 29 = .ok (.putfield 120, 3) := by decide +kernel
theorem dX4_sails_32 : decode cX4_sails 32 = .ok (.iload_n 2, 1) := by decide +kernel
theorem dX4_sails_33 : decode cX4_sails 33 = .ok (.ireturn, 1) := by decide +kernel
set_option maxRecDepth 20000 in
theorem ggX4_misses_X4_noHand : GoodIn wsX4_misses wsX4_noHand := goodIn_r _ [6, 1, 19, 20, 21, 22, 23, 24, 25, 26, 27, 28, 29, 30, 31, 32, 33, 34, 35, 36, 37, 38, 39, 40, 41] (by decide +kernel) (by decide +kernel)
set_option maxRecDepth 20000 in
theorem gX4_misses_X4_noHand : GoodIn wsX4_misses (wsV RX4 80 RX4 yX4_noHand wsX4_noHand) := goodIn_app (goodIn_of _ (by decide +kernel)) ggX4_misses_X4_noHand
set_option maxRecDepth 20000 in
theorem ggX4_misses_X4_noPlace : GoodIn wsX4_misses wsX4_noPlace := goodIn_r _ [10, 1, 19, 20, 21, 22, 23, 24, 25, 26, 27, 28, 29, 30, 31, 32, 33, 34, 35, 36, 37, 38, 39, 40, 41] (by decide +kernel) (by decide +kernel)
set_option maxRecDepth 20000 in
theorem gX4_misses_X4_noPlace : GoodIn wsX4_misses (wsV RX4 102 RX4 yX4_noPlace wsX4_noPlace) := goodIn_app (goodIn_of _ (by decide +kernel)) ggX4_misses_X4_noPlace
set_option maxRecDepth 20000 in
theorem ggX4_misses_X4_firstOf : GoodIn wsX4_misses wsX4_firstOf := goodIn_r _ [13] (by decide +kernel) (by decide +kernel)
set_option maxRecDepth 20000 in
theorem gX4_misses_X4_firstOf : GoodIn wsX4_misses (va_wsS RX4 61 yX4_firstOf wsX4_firstOf) := goodIn_app (goodIn_of _ (by decide +kernel)) ggX4_misses_X4_firstOf
set_option maxRecDepth 20000 in
theorem ggX4_misses_X4_refuse : GoodIn wsX4_misses wsX4_refuse := goodIn_r _ [17, 18, 19, 20, 21, 22, 23, 24, 25, 26, 27, 28, 29] (by decide +kernel) (by decide +kernel)
set_option maxRecDepth 20000 in
theorem gX4_misses_X4_refuse : GoodIn wsX4_misses (wsV RX4 65 RX4 yX4_refuse wsX4_refuse) := goodIn_app (goodIn_of _ (by decide +kernel)) ggX4_misses_X4_refuse
theorem dX4_misses_0 : decode cX4_misses 0 = .ok (.aload_n 0, 1) := by decide +kernel
theorem dX4_misses_1 : decode cX4_misses 1 = .ok (.iload_n 1, 1) := by decide +kernel
theorem dX4_misses_2 : decode cX4_misses 2 = .ok (.invokevirtual 80, 3) := by decide +kernel
theorem dX4_misses_5 : decode cX4_misses 5 = .ok (.aload_n 0, 1) := by decide +kernel
theorem dX4_misses_6 : decode cX4_misses 6 = .ok (.iload_n 2, 1) := by decide +kernel
theorem dX4_misses_7 : decode cX4_misses 7 = .ok (.invokevirtual 102, 3) := by decide +kernel
theorem dX4_misses_10 : decode cX4_misses 10 = .ok (.invokestatic 61, 3) := by decide +kernel
theorem dX4_misses_13 : decode cX4_misses 13 = .ok (.istore_n 3, 1) := by decide +kernel
theorem dX4_misses_14 : decode cX4_misses 14 = .ok (.iload_n 3, 1) := by decide +kernel
theorem dX4_misses_15 : decode cX4_misses 15 = .ok (.ifCond .eq 9, 3) := by decide +kernel
theorem dX4_misses_18 : decode cX4_misses 18 = .ok (.aload_n 0, 1) := by decide +kernel
theorem dX4_misses_19 : decode cX4_misses 19 = .ok (.iload_n 3, 1) := by decide +kernel
theorem dX4_misses_20 : decode cX4_misses 20 = .ok (.invokevirtual 65, 3) := by decide +kernel
theorem dX4_misses_23 : decode cX4_misses 23 = .ok (.ireturn, 1) := by decide +kernel
theorem dX4_misses_24 : decode cX4_misses 24 = .ok (.aload_n 0, 1) := by decide +kernel
theorem dX4_misses_25 : decode cX4_misses 25 = .ok (.getfield 10, 3) := by decide +kernel
theorem dX4_misses_28 : decode cX4_misses 28 = .ok (.getfield 92, 3) := by decide +kernel
theorem dX4_misses_31 : decode cX4_misses 31 = .ok (.iload_n 1, 1) := by decide +kernel
theorem dX4_misses_32 : decode cX4_misses 32 = .ok (.iaload, 1) := by decide +kernel
theorem dX4_misses_33 : decode cX4_misses 33 = .ok (.istore 4, 2) := by decide +kernel
theorem dX4_misses_35 : decode cX4_misses 35 = .ok (.aload_n 0, 1) := by decide +kernel
theorem dX4_misses_36 : decode cX4_misses 36 = .ok (.getfield 10, 3) := by decide +kernel
theorem dX4_misses_39 : decode cX4_misses 39 = .ok (.getfield 92, 3) := by decide +kernel
theorem dX4_misses_42 : decode cX4_misses 42 = .ok (.iload_n 1, 1) := by decide +kernel
theorem dX4_misses_43 : decode cX4_misses 43 = .ok (.iload_n 2, 1) := by decide +kernel
theorem dX4_misses_44 : decode cX4_misses 44 = .ok (.iastore, 1) := by decide +kernel
theorem dX4_misses_45 : decode cX4_misses 45 = .ok (.iload 4, 2) := by decide +kernel
theorem dX4_misses_47 : decode cX4_misses 47 = .ok (.ireturn, 1) := by decide +kernel
set_option maxRecDepth 20000 in
theorem ggX4_turn_X4_noHand : GoodIn wsX4_turn wsX4_noHand := goodIn_r _ [6, 1, 27, 28, 29, 30, 31, 32, 33, 34, 35, 36, 37, 38, 39, 40, 41, 42, 43, 44, 45, 46, 47, 48, 49] (by decide +kernel) (by decide +kernel)
set_option maxRecDepth 20000 in
theorem gX4_turn_X4_noHand : GoodIn wsX4_turn (wsV RX4 80 RX4 yX4_noHand wsX4_noHand) := goodIn_app (goodIn_of _ (by decide +kernel)) ggX4_turn_X4_noHand
set_option maxRecDepth 20000 in
theorem ggX4_turn_X4_noWhat : GoodIn wsX4_turn wsX4_noWhat := goodIn_r _ [9] (by decide +kernel) (by decide +kernel)
set_option maxRecDepth 20000 in
theorem gX4_turn_X4_noWhat : GoodIn wsX4_turn (va_wsS RX4 83 yX4_noWhat wsX4_noWhat) := goodIn_app (goodIn_of _ (by decide +kernel)) ggX4_turn_X4_noWhat
set_option maxRecDepth 20000 in
theorem ggX4_turn_X4_firstOf : GoodIn wsX4_turn wsX4_firstOf := goodIn_r _ [12] (by decide +kernel) (by decide +kernel)
set_option maxRecDepth 20000 in
theorem gX4_turn_X4_firstOf : GoodIn wsX4_turn (va_wsS RX4 61 yX4_firstOf wsX4_firstOf) := goodIn_app (goodIn_of _ (by decide +kernel)) ggX4_turn_X4_firstOf
set_option maxRecDepth 20000 in
theorem ggX4_turn_X4_outside : GoodIn wsX4_turn wsX4_outside := goodIn_r _ [15, 16, 17, 5, 18, 19, 20, 21, 10, 11, 12] (by decide +kernel) (by decide +kernel)
set_option maxRecDepth 20000 in
theorem gX4_turn_X4_outside : GoodIn wsX4_turn (va_wsS RX4 53 yX4_outside wsX4_outside) := goodIn_app (goodIn_of _ (by decide +kernel)) ggX4_turn_X4_outside
set_option maxRecDepth 20000 in
theorem ggX4_turn_X4_refuse : GoodIn wsX4_turn wsX4_refuse := goodIn_r _ [25, 26, 27, 28, 29, 30, 31, 32, 33, 34, 35, 36, 37] (by decide +kernel) (by decide +kernel)
set_option maxRecDepth 20000 in
theorem gX4_turn_X4_refuse : GoodIn wsX4_turn (wsV RX4 65 RX4 yX4_refuse wsX4_refuse) := goodIn_app (goodIn_of _ (by decide +kernel)) ggX4_turn_X4_refuse
theorem dX4_turn_0 : decode cX4_turn 0 = .ok (.aload_n 0, 1) := by decide +kernel
theorem dX4_turn_1 : decode cX4_turn 1 = .ok (.iload_n 1, 1) := by decide +kernel
theorem dX4_turn_2 : decode cX4_turn 2 = .ok (.invokevirtual 80, 3) := by decide +kernel
theorem dX4_turn_5 : decode cX4_turn 5 = .ok (.iload_n 2, 1) := by decide +kernel
theorem dX4_turn_6 : decode cX4_turn 6 = .ok (.bipush 6, 2) := by decide +kernel
theorem dX4_turn_8 : decode cX4_turn 8 = .ok (.invokestatic 83, 3) := by decide +kernel
theorem dX4_turn_11 : decode cX4_turn 11 = .ok (.invokestatic 61, 3) := by decide +kernel
theorem dX4_turn_14 : decode cX4_turn 14 = .ok (.istore 4, 2) := by decide +kernel
theorem dX4_turn_16 : decode cX4_turn 16 = .ok (.iload 4, 2) := by decide +kernel
theorem dX4_turn_18 : decode cX4_turn 18 = .ok (.iload_n 3, 1) := by decide +kernel
theorem dX4_turn_19 : decode cX4_turn 19 = .ok (.iconst 0, 1) := by decide +kernel
theorem dX4_turn_20 : decode cX4_turn 20 = .ok (.bipush 9, 2) := by decide +kernel
theorem dX4_turn_22 : decode cX4_turn 22 = .ok (.invokestatic 53, 3) := by decide +kernel
theorem dX4_turn_25 : decode cX4_turn 25 = .ok (.invokestatic 61, 3) := by decide +kernel
theorem dX4_turn_28 : decode cX4_turn 28 = .ok (.istore 4, 2) := by decide +kernel
theorem dX4_turn_30 : decode cX4_turn 30 = .ok (.iload 4, 2) := by decide +kernel
theorem dX4_turn_32 : decode cX4_turn 32 = .ok (.ifCond .eq 10, 3) := by decide +kernel
theorem dX4_turn_35 : decode cX4_turn 35 = .ok (.aload_n 0, 1) := by decide +kernel
theorem dX4_turn_36 : decode cX4_turn 36 = .ok (.iload 4, 2) := by decide +kernel
theorem dX4_turn_38 : decode cX4_turn 38 = .ok (.invokevirtual 65, 3) := by decide +kernel
theorem dX4_turn_41 : decode cX4_turn 41 = .ok (.ireturn, 1) := by decide +kernel
theorem dX4_turn_42 : decode cX4_turn 42 = .ok (.bipush 10, 2) := by decide +kernel
theorem dX4_turn_44 : decode cX4_turn 44 = .ok (.aload_n 0, 1) := by decide +kernel
theorem dX4_turn_45 : decode cX4_turn 45 = .ok (.getfield 10, 3) := by decide +kernel
theorem dX4_turn_48 : decode cX4_turn 48 = .ok (.getfield 86, 3) := by decide +kernel
theorem dX4_turn_51 : decode cX4_turn 51 = .ok (.iload_n 1, 1) := by decide +kernel
theorem dX4_turn_52 : decode cX4_turn 52 = .ok (.iaload, 1) := by decide +kernel
theorem dX4_turn_53 : decode cX4_turn 53 = .ok (.imul, 1) := by decide +kernel
theorem dX4_turn_54 : decode cX4_turn 54 = .ok (.aload_n 0, 1) := by decide +kernel
theorem dX4_turn_55 : decode cX4_turn 55 = .ok (.getfield 10, 3) := by decide +kernel
theorem dX4_turn_58 : decode cX4_turn 58 = .ok (.getfield 89, 3) := by decide +kernel
theorem dX4_turn_61 : decode cX4_turn 61 = .ok (.iload_n 1, 1) := by decide +kernel
theorem dX4_turn_62 : decode cX4_turn 62 = .ok (.iaload, 1) := by decide +kernel
theorem dX4_turn_63 : decode cX4_turn 63 = .ok (.iadd, 1) := by decide +kernel
theorem dX4_turn_64 : decode cX4_turn 64 = .ok (.istore 5, 2) := by decide +kernel
theorem dX4_turn_66 : decode cX4_turn 66 = .ok (.aload_n 0, 1) := by decide +kernel
theorem dX4_turn_67 : decode cX4_turn 67 = .ok (.getfield 10, 3) := by decide +kernel
theorem dX4_turn_70 : decode cX4_turn 70 = .ok (.getfield 86, 3) := by decide +kernel
theorem dX4_turn_73 : decode cX4_turn 73 = .ok (.iload_n 1, 1) := by decide +kernel
theorem dX4_turn_74 : decode cX4_turn 74 = .ok (.iload_n 2, 1) := by decide +kernel
theorem dX4_turn_75 : decode cX4_turn 75 = .ok (.iastore, 1) := by decide +kernel
theorem dX4_turn_76 : decode cX4_turn 76 = .ok (.aload_n 0, 1) := by decide +kernel
theorem dX4_turn_77 : decode cX4_turn 77 = .ok (.getfield 10, 3) := by decide +kernel
theorem dX4_turn_80 : decode cX4_turn 80 = .ok (.getfield 89, 3) := by decide +kernel
theorem dX4_turn_83 : decode cX4_turn 83 = .ok (.iload_n 1, 1) := by decide +kernel
theorem dX4_turn_84 : decode cX4_turn 84 = .ok (.iload_n 3, 1) := by decide +kernel
theorem dX4_turn_85 : decode cX4_turn 85 = .ok (.iastore, 1) := by decide +kernel
theorem dX4_turn_86 : decode cX4_turn 86 = .ok (.iload 5, 2) := by decide +kernel
theorem dX4_turn_88 : decode cX4_turn 88 = .ok (.ireturn, 1) := by decide +kernel
set_option maxRecDepth 20000 in
theorem ggX4_days_X4_outside : GoodIn wsX4_days wsX4_outside := goodIn_r _ [5, 6, 7, 4, 8, 9, 10, 11, 12, 13, 14] (by decide +kernel) (by decide +kernel)
set_option maxRecDepth 20000 in
theorem gX4_days_X4_outside : GoodIn wsX4_days (va_wsS RX4 53 yX4_outside wsX4_outside) := goodIn_app (goodIn_of _ (by decide +kernel)) ggX4_days_X4_outside
set_option maxRecDepth 20000 in
theorem ggX4_days_X3_hasTimeFor : GoodIn wsX4_days wsX3_hasTimeFor := goodIn_r _ [19, 20, 105, 106, 107, 108, 109, 110, 111, 112, 113, 114, 115, 116] (by decide +kernel) (by decide +kernel)
set_option maxRecDepth 20000 in
theorem gX4_days_X3_hasTimeFor : GoodIn wsX4_days (wsV RX4 123 RX3 yX3_hasTimeFor wsX3_hasTimeFor) := goodIn_app (goodIn_of _ (by decide +kernel)) ggX4_days_X3_hasTimeFor
set_option maxRecDepth 20000 in
theorem ggX4_days_X4_firstOf : GoodIn wsX4_days wsX4_firstOf := goodIn_r _ [14] (by decide +kernel) (by decide +kernel)
set_option maxRecDepth 20000 in
theorem gX4_days_X4_firstOf : GoodIn wsX4_days (va_wsS RX4 61 yX4_firstOf wsX4_firstOf) := goodIn_app (goodIn_of _ (by decide +kernel)) ggX4_days_X4_firstOf
set_option maxRecDepth 20000 in
theorem ggX4_days_X4_refuse : GoodIn wsX4_days wsX4_refuse := goodIn_r _ [24, 25, 94, 95, 96, 97, 98, 99, 100, 101, 102, 103, 104] (by decide +kernel) (by decide +kernel)
set_option maxRecDepth 20000 in
theorem gX4_days_X4_refuse : GoodIn wsX4_days (wsV RX4 65 RX4 yX4_refuse wsX4_refuse) := goodIn_app (goodIn_of _ (by decide +kernel)) ggX4_days_X4_refuse
set_option maxRecDepth 20000 in
theorem ggX4_days_X3_goDays : GoodIn wsX4_days wsX3_goDays := goodIn_r _ [29, 30, 31, 32, 18, 33, 34, 35, 36, 37, 38, 39, 40, 41, 42, 43, 44, 45, 46, 47, 48, 49, 50, 51, 52, 53, 54, 55, 56, 57, 58, 59, 60, 61, 62, 63, 64, 65, 66, 67, 68, 69, 70, 71, 72, 73, 74, 75, 76, 77, 78, 79, 80, 4, 81, 82, 83, 84, 85, 86, 87, 20, 88, 89, 90, 91, 92, 93, 105, 106, 107, 108, 109, 110, 111, 112, 113, 114, 115, 116] (by decide +kernel) (by decide +kernel)
set_option maxRecDepth 20000 in
theorem gX4_days_X3_goDays : GoodIn wsX4_days (wsV RX4 126 RX3 yX3_goDays wsX3_goDays) := goodIn_app (goodIn_of _ (by decide +kernel)) ggX4_days_X3_goDays
theorem dX4_days_0 : decode cX4_days 0 = .ok (.iload_n 1, 1) := by decide +kernel
theorem dX4_days_1 : decode cX4_days 1 = .ok (.iconst 1, 1) := by decide +kernel
theorem dX4_days_2 : decode cX4_days 2 = .ok (.bipush 60, 2) := by decide +kernel
theorem dX4_days_4 : decode cX4_days 4 = .ok (.invokestatic 53, 3) := by decide +kernel
theorem dX4_days_7 : decode cX4_days 7 = .ok (.aload_n 0, 1) := by decide +kernel
theorem dX4_days_8 : decode cX4_days 8 = .ok (.getfield 10, 3) := by decide +kernel
theorem dX4_days_11 : decode cX4_days 11 = .ok (.iload_n 1, 1) := by decide +kernel
theorem dX4_days_12 : decode cX4_days 12 = .ok (.invokevirtual 123, 3) := by decide +kernel
theorem dX4_days_15 : decode cX4_days 15 = .ok (.ifCond .eq 7, 3) := by decide +kernel
theorem dX4_days_18 : decode cX4_days 18 = .ok (.iconst 0, 1) := by decide +kernel
theorem dX4_days_19 : decode cX4_days 19 = .ok (.goto 5, 3) := by decide +kernel
theorem dX4_days_22 : decode cX4_days 22 = .ok (.bipush (-6), 2) := by decide +kernel
theorem dX4_days_24 : decode cX4_days 24 = .ok (.invokestatic 61, 3) := by decide +kernel
theorem dX4_days_27 : decode cX4_days 27 = .ok (.istore_n 2, 1) := by decide +kernel
theorem dX4_days_28 : decode cX4_days 28 = .ok (.iload_n 2, 1) := by decide +kernel
theorem dX4_days_29 : decode cX4_days 29 = .ok (.ifCond .eq 9, 3) := by decide +kernel
theorem dX4_days_32 : decode cX4_days 32 = .ok (.aload_n 0, 1) := by decide +kernel
theorem dX4_days_33 : decode cX4_days 33 = .ok (.iload_n 2, 1) := by decide +kernel
theorem dX4_days_34 : decode cX4_days 34 = .ok (.invokevirtual 65, 3) := by decide +kernel
theorem dX4_days_37 : decode cX4_days 37 = .ok (.ireturn, 1) := by decide +kernel
theorem dX4_days_38 : decode cX4_days 38 = .ok (.aload_n 0, 1) := by decide +kernel
theorem dX4_days_39 : decode cX4_days 39 = .ok (.getfield 10, 3) := by decide +kernel
theorem dX4_days_42 : decode cX4_days 42 = .ok (.iload_n 1, 1) := by decide +kernel
theorem dX4_days_43 : decode cX4_days 43 = .ok (.invokevirtual 126, 3) := by decide +kernel
theorem dX4_days_46 : decode cX4_days 46 = .ok (.pop, 1) := by decide +kernel
theorem dX4_days_47 : decode cX4_days 47 = .ok (.aload_n 0, 1) := by decide +kernel
theorem dX4_days_48 : decode cX4_days 48 = .ok (.getfield 10, 3) := by decide +kernel
theorem dX4_days_51 : decode cX4_days 51 = .ok (.getfield 120, 3) := by decide +kernel
theorem dX4_days_54 : decode cX4_days 54 = .ok (.ireturn, 1) := by decide +kernel
set_option maxRecDepth 20000 in
theorem ggX4_needle_X3_points : GoodIn wsX4_needle wsX3_points := goodIn_r _ [6, 7, 8, 9, 5, 10, 11, 12, 13, 14, 15, 16, 17, 18, 19, 20, 21, 22, 23, 24, 25, 26, 27, 28, 29, 30, 31, 32, 33, 34, 35, 36, 37, 38, 39, 40, 41, 42, 43, 44, 45, 46, 47, 48, 60, 61, 62, 63, 64, 65, 66, 67, 68, 69, 70, 71] (by decide +kernel) (by decide +kernel)
set_option maxRecDepth 20000 in
theorem gX4_needle_X3_points : GoodIn wsX4_needle (wsV RX4 129 RX3 yX3_points wsX3_points) := goodIn_app (goodIn_of _ (by decide +kernel)) ggX4_needle_X3_points
theorem dX4_needle_0 : decode cX4_needle 0 = .ok (.aload_n 0, 1) := by decide +kernel
theorem dX4_needle_1 : decode cX4_needle 1 = .ok (.getfield 10, 3) := by decide +kernel
theorem dX4_needle_4 : decode cX4_needle 4 = .ok (.invokevirtual 129, 3) := by decide +kernel
theorem dX4_needle_7 : decode cX4_needle 7 = .ok (.ireturn, 1) := by decide +kernel
set_option maxRecDepth 20000 in
theorem ggX4_shipThen_X4_outside : GoodIn wsX4_shipThen wsX4_outside := goodIn_r _ [5, 6, 7, 4, 8, 9, 10, 11, 12, 13, 14] (by decide +kernel) (by decide +kernel)
set_option maxRecDepth 20000 in
theorem gX4_shipThen_X4_outside : GoodIn wsX4_shipThen (va_wsS RX4 53 yX4_outside wsX4_outside) := goodIn_app (goodIn_of _ (by decide +kernel)) ggX4_shipThen_X4_outside
set_option maxRecDepth 20000 in
theorem ggX4_shipThen_X4_refuse : GoodIn wsX4_shipThen wsX4_refuse := goodIn_r _ [18, 19, 104, 105, 106, 107, 108, 109, 110, 111, 112, 113, 114] (by decide +kernel) (by decide +kernel)
set_option maxRecDepth 20000 in
theorem gX4_shipThen_X4_refuse : GoodIn wsX4_shipThen (wsV RX4 65 RX4 yX4_refuse wsX4_refuse) := goodIn_app (goodIn_of _ (by decide +kernel)) ggX4_shipThen_X4_refuse
set_option maxRecDepth 20000 in
theorem ggX4_shipThen_X4_think : GoodIn wsX4_shipThen wsX4_think := goodIn_r _ [23, 1, 24, 25, 26, 27, 28, 29, 30, 31, 32, 33, 34, 35, 36, 37, 38, 39, 40, 41, 42, 43, 104, 105, 106, 107, 108, 109, 110, 111, 112, 113, 114, 115, 116, 117, 118, 119, 120, 121, 122, 123, 124, 125, 126] (by decide +kernel) (by decide +kernel)
set_option maxRecDepth 20000 in
theorem gX4_shipThen_X4_think : GoodIn wsX4_shipThen (wsV RX4 132 RX4 yX4_think wsX4_think) := goodIn_app (goodIn_of _ (by decide +kernel)) ggX4_shipThen_X4_think
set_option maxRecDepth 20000 in
theorem ggX4_shipThen_X3_goDays : GoodIn wsX4_shipThen wsX3_goDays := goodIn_r _ [47, 48, 49, 50, 28, 51, 33, 52, 53, 54, 55, 56, 57, 31, 58, 59, 60, 61, 62, 63, 64, 65, 32, 66, 67, 68, 69, 35, 42, 70, 71, 72, 73, 74, 75, 76, 77, 43, 40, 41, 78, 79, 80, 81, 82, 83, 84, 85, 86, 87, 88, 89, 90, 4, 91, 92, 93, 94, 95, 96, 97, 34, 98, 99, 100, 101, 102, 103, 115, 116, 117, 118, 119, 120, 121, 122, 123, 124, 125, 126] (by decide +kernel) (by decide +kernel)
set_option maxRecDepth 20000 in
theorem gX4_shipThen_X3_goDays : GoodIn wsX4_shipThen (wsV RX4 126 RX3 yX3_goDays wsX3_goDays) := goodIn_app (goodIn_of _ (by decide +kernel)) ggX4_shipThen_X3_goDays
theorem dX4_shipThen_0 : decode cX4_shipThen 0 = .ok (.iload_n 1, 1) := by decide +kernel
theorem dX4_shipThen_1 : decode cX4_shipThen 1 = .ok (.iconst 0, 1) := by decide +kernel
theorem dX4_shipThen_2 : decode cX4_shipThen 2 = .ok (.bipush 60, 2) := by decide +kernel
theorem dX4_shipThen_4 : decode cX4_shipThen 4 = .ok (.invokestatic 53, 3) := by decide +kernel
theorem dX4_shipThen_7 : decode cX4_shipThen 7 = .ok (.istore_n 2, 1) := by decide +kernel
theorem dX4_shipThen_8 : decode cX4_shipThen 8 = .ok (.iload_n 2, 1) := by decide +kernel
theorem dX4_shipThen_9 : decode cX4_shipThen 9 = .ok (.ifCond .eq 9, 3) := by decide +kernel
theorem dX4_shipThen_12 : decode cX4_shipThen 12 = .ok (.aload_n 0, 1) := by decide +kernel
theorem dX4_shipThen_13 : decode cX4_shipThen 13 = .ok (.iload_n 2, 1) := by decide +kernel
theorem dX4_shipThen_14 : decode cX4_shipThen 14 = .ok (.invokevirtual 65, 3) := by decide +kernel
theorem dX4_shipThen_17 : decode cX4_shipThen 17 = .ok (.ireturn, 1) := by decide +kernel
theorem dX4_shipThen_18 : decode cX4_shipThen 18 = .ok (.aload_n 0, 1) := by decide +kernel
theorem dX4_shipThen_19 : decode cX4_shipThen 19 = .ok (.invokevirtual 132, 3) := by decide +kernel
theorem dX4_shipThen_22 : decode cX4_shipThen 22 = .ok (.aload_n 0, 1) := by decide +kernel
theorem dX4_shipThen_23 : decode cX4_shipThen 23 = .ok (.getfield 16, 3) := by decide +kernel
theorem dX4_shipThen_26 : decode cX4_shipThen 26 = .ok (.iload_n 1, 1) := by decide +kernel
theorem dX4_shipThen_27 : decode cX4_shipThen 27 = .ok (.invokevirtual 126, 3) := by decide +kernel
theorem dX4_shipThen_30 : decode cX4_shipThen 30 = .ok (.pop, 1) := by decide +kernel
theorem dX4_shipThen_31 : decode cX4_shipThen 31 = .ok (.aload_n 0, 1) := by decide +kernel
theorem dX4_shipThen_32 : decode cX4_shipThen 32 = .ok (.getfield 16, 3) := by decide +kernel
theorem dX4_shipThen_35 : decode cX4_shipThen 35 = .ok (.getfield 120, 3) := by decide +kernel
theorem dX4_shipThen_38 : decode cX4_shipThen 38 = .ok (.ireturn, 1) := by decide +kernel
set_option maxRecDepth 20000 in
theorem ggX4_needleThen_X4_outside : GoodIn wsX4_needleThen wsX4_outside := goodIn_r _ [5, 6, 7, 4, 8, 9, 10, 11, 12, 13, 14] (by decide +kernel) (by decide +kernel)
set_option maxRecDepth 20000 in
theorem gX4_needleThen_X4_outside : GoodIn wsX4_needleThen (va_wsS RX4 53 yX4_outside wsX4_outside) := goodIn_app (goodIn_of _ (by decide +kernel)) ggX4_needleThen_X4_outside
set_option maxRecDepth 20000 in
theorem ggX4_needleThen_X4_refuse : GoodIn wsX4_needleThen wsX4_refuse := goodIn_r _ [18, 19, 108, 109, 110, 111, 112, 113, 114, 115, 116, 117, 118] (by decide +kernel) (by decide +kernel)
set_option maxRecDepth 20000 in
theorem gX4_needleThen_X4_refuse : GoodIn wsX4_needleThen (wsV RX4 65 RX4 yX4_refuse wsX4_refuse) := goodIn_app (goodIn_of _ (by decide +kernel)) ggX4_needleThen_X4_refuse
set_option maxRecDepth 20000 in
theorem ggX4_needleThen_X4_think : GoodIn wsX4_needleThen wsX4_think := goodIn_r _ [23, 1, 24, 25, 26, 27, 28, 29, 30, 31, 32, 33, 34, 35, 36, 37, 38, 39, 40, 41, 42, 43, 108, 109, 110, 111, 112, 113, 114, 115, 116, 117, 118, 119, 120, 121, 122, 123, 124, 125, 126, 127, 128, 129, 130] (by decide +kernel) (by decide +kernel)
set_option maxRecDepth 20000 in
theorem gX4_needleThen_X4_think : GoodIn wsX4_needleThen (wsV RX4 132 RX4 yX4_think wsX4_think) := goodIn_app (goodIn_of _ (by decide +kernel)) ggX4_needleThen_X4_think
set_option maxRecDepth 20000 in
theorem ggX4_needleThen_X3_goDays : GoodIn wsX4_needleThen wsX3_goDays := goodIn_r _ [47, 48, 49, 50, 28, 51, 33, 52, 53, 54, 55, 56, 57, 31, 58, 59, 60, 61, 62, 63, 64, 65, 32, 66, 67, 68, 69, 35, 42, 70, 71, 72, 73, 74, 75, 76, 77, 43, 40, 41, 78, 79, 80, 81, 82, 83, 84, 85, 86, 87, 88, 89, 90, 4, 91, 92, 93, 94, 95, 96, 97, 34, 98, 99, 100, 101, 102, 103, 119, 120, 121, 122, 123, 124, 125, 126, 127, 128, 129, 130] (by decide +kernel) (by decide +kernel)
set_option maxRecDepth 20000 in
theorem gX4_needleThen_X3_goDays : GoodIn wsX4_needleThen (wsV RX4 126 RX3 yX3_goDays wsX3_goDays) := goodIn_app (goodIn_of _ (by decide +kernel)) ggX4_needleThen_X3_goDays
set_option maxRecDepth 20000 in
theorem ggX4_needleThen_X3_points : GoodIn wsX4_needleThen wsX3_points := goodIn_r _ [107, 52, 53, 54, 28, 55, 56, 57, 31, 58, 59, 60, 61, 62, 63, 64, 65, 32, 66, 67, 68, 69, 35, 42, 33, 70, 71, 72, 73, 74, 75, 76, 77, 43, 40, 41, 78, 79, 80, 81, 82, 83, 84, 85, 119, 120, 121, 122, 123, 124, 125, 126, 127, 128, 129, 130] (by decide +kernel) (by decide +kernel)
set_option maxRecDepth 20000 in
theorem gX4_needleThen_X3_points : GoodIn wsX4_needleThen (wsV RX4 129 RX3 yX3_points wsX3_points) := goodIn_app (goodIn_of _ (by decide +kernel)) ggX4_needleThen_X3_points
theorem dX4_needleThen_0 : decode cX4_needleThen 0 = .ok (.iload_n 1, 1) := by decide +kernel
theorem dX4_needleThen_1 : decode cX4_needleThen 1 = .ok (.iconst 0, 1) := by decide +kernel
theorem dX4_needleThen_2 : decode cX4_needleThen 2 = .ok (.bipush 60, 2) := by decide +kernel
theorem dX4_needleThen_4 : decode cX4_needleThen 4 = .ok (.invokestatic 53, 3) := by decide +kernel
theorem dX4_needleThen_7 : decode cX4_needleThen 7 = .ok (.istore_n 2, 1) := by decide +kernel
theorem dX4_needleThen_8 : decode cX4_needleThen 8 = .ok (.iload_n 2, 1) := by decide +kernel
theorem dX4_needleThen_9 : decode cX4_needleThen 9 = .ok (.ifCond .eq 9, 3) := by decide +kernel
theorem dX4_needleThen_12 : decode cX4_needleThen 12 = .ok (.aload_n 0, 1) := by decide +kernel
theorem dX4_needleThen_13 : decode cX4_needleThen 13 = .ok (.iload_n 2, 1) := by decide +kernel
theorem dX4_needleThen_14 : decode cX4_needleThen 14 = .ok (.invokevirtual 65, 3) := by decide +kernel
theorem dX4_needleThen_17 : decode cX4_needleThen 17 = .ok (.ireturn, 1) := by decide +kernel
theorem dX4_needleThen_18 : decode cX4_needleThen 18 = .ok (.aload_n 0, 1) := by decide +kernel
theorem dX4_needleThen_19 : decode cX4_needleThen 19 = .ok (.invokevirtual 132, 3) := by decide +kernel
theorem dX4_needleThen_22 : decode cX4_needleThen 22 = .ok (.aload_n 0, 1) := by decide +kernel
theorem dX4_needleThen_23 : decode cX4_needleThen 23 = .ok (.getfield 16, 3) := by decide +kernel
theorem dX4_needleThen_26 : decode cX4_needleThen 26 = .ok (.iload_n 1, 1) := by decide +kernel
theorem dX4_needleThen_27 : decode cX4_needleThen 27 = .ok (.invokevirtual 126, 3) := by decide +kernel
theorem dX4_needleThen_30 : decode cX4_needleThen 30 = .ok (.pop, 1) := by decide +kernel
theorem dX4_needleThen_31 : decode cX4_needleThen 31 = .ok (.aload_n 0, 1) := by decide +kernel
theorem dX4_needleThen_32 : decode cX4_needleThen 32 = .ok (.getfield 16, 3) := by decide +kernel
theorem dX4_needleThen_35 : decode cX4_needleThen 35 = .ok (.invokevirtual 129, 3) := by decide +kernel
theorem dX4_needleThen_38 : decode cX4_needleThen 38 = .ok (.ireturn, 1) := by decide +kernel
set_option maxRecDepth 20000 in
theorem ggX4_seaThen_X4_noHand : GoodIn wsX4_seaThen wsX4_noHand := goodIn_r _ [6, 7, 108, 109, 110, 111, 112, 113, 114, 115, 116, 117, 118, 119, 120, 121, 122, 123, 124, 125, 126, 127, 128, 129, 130] (by decide +kernel) (by decide +kernel)
set_option maxRecDepth 20000 in
theorem gX4_seaThen_X4_noHand : GoodIn wsX4_seaThen (wsV RX4 80 RX4 yX4_noHand wsX4_noHand) := goodIn_app (goodIn_of _ (by decide +kernel)) ggX4_seaThen_X4_noHand
set_option maxRecDepth 20000 in
theorem ggX4_seaThen_X4_outside : GoodIn wsX4_seaThen wsX4_outside := goodIn_r _ [10, 11, 12, 5, 13, 14, 15, 16, 17, 18, 19] (by decide +kernel) (by decide +kernel)
set_option maxRecDepth 20000 in
theorem gX4_seaThen_X4_outside : GoodIn wsX4_seaThen (va_wsS RX4 53 yX4_outside wsX4_outside) := goodIn_app (goodIn_of _ (by decide +kernel)) ggX4_seaThen_X4_outside
set_option maxRecDepth 20000 in
theorem ggX4_seaThen_X4_firstOf : GoodIn wsX4_seaThen wsX4_firstOf := goodIn_r _ [19] (by decide +kernel) (by decide +kernel)
set_option maxRecDepth 20000 in
theorem gX4_seaThen_X4_firstOf : GoodIn wsX4_seaThen (va_wsS RX4 61 yX4_firstOf wsX4_firstOf) := goodIn_app (goodIn_of _ (by decide +kernel)) ggX4_seaThen_X4_firstOf
set_option maxRecDepth 20000 in
theorem ggX4_seaThen_X4_refuse : GoodIn wsX4_seaThen wsX4_refuse := goodIn_r _ [23, 24, 108, 109, 110, 111, 112, 113, 114, 115, 116, 117, 118] (by decide +kernel) (by decide +kernel)
set_option maxRecDepth 20000 in
theorem gX4_seaThen_X4_refuse : GoodIn wsX4_seaThen (wsV RX4 65 RX4 yX4_refuse wsX4_refuse) := goodIn_app (goodIn_of _ (by decide +kernel)) ggX4_seaThen_X4_refuse
set_option maxRecDepth 20000 in
theorem ggX4_seaThen_X4_think : GoodIn wsX4_seaThen wsX4_think := goodIn_r _ [28, 1, 7, 29, 30, 31, 32, 33, 34, 35, 36, 37, 38, 39, 40, 41, 42, 43, 44, 45, 46, 47, 108, 109, 110, 111, 112, 113, 114, 115, 116, 117, 118, 119, 120, 121, 122, 123, 124, 125, 126, 127, 128, 129, 130] (by decide +kernel) (by decide +kernel)
set_option maxRecDepth 20000 in
theorem gX4_seaThen_X4_think : GoodIn wsX4_seaThen (wsV RX4 132 RX4 yX4_think wsX4_think) := goodIn_app (goodIn_of _ (by decide +kernel)) ggX4_seaThen_X4_think
set_option maxRecDepth 20000 in
theorem ggX4_seaThen_X3_goDays : GoodIn wsX4_seaThen wsX3_goDays := goodIn_r _ [51, 52, 53, 54, 32, 55, 37, 56, 57, 58, 59, 60, 61, 35, 62, 63, 64, 65, 66, 67, 68, 69, 36, 70, 71, 72, 73, 39, 46, 74, 75, 76, 77, 78, 79, 80, 81, 47, 44, 45, 82, 83, 84, 85, 86, 87, 88, 89, 90, 91, 92, 93, 94, 5, 95, 96, 97, 98, 99, 100, 101, 38, 102, 103, 104, 105, 106, 107, 119, 120, 121, 122, 123, 124, 125, 126, 127, 128, 129, 130] (by decide +kernel) (by decide +kernel)
set_option maxRecDepth 20000 in
theorem gX4_seaThen_X3_goDays : GoodIn wsX4_seaThen (wsV RX4 126 RX3 yX3_goDays wsX3_goDays) := goodIn_app (goodIn_of _ (by decide +kernel)) ggX4_seaThen_X3_goDays
theorem dX4_seaThen_0 : decode cX4_seaThen 0 = .ok (.aload_n 0, 1) := by decide +kernel
theorem dX4_seaThen_1 : decode cX4_seaThen 1 = .ok (.iload_n 1, 1) := by decide +kernel
theorem dX4_seaThen_2 : decode cX4_seaThen 2 = .ok (.invokevirtual 80, 3) := by decide +kernel
theorem dX4_seaThen_5 : decode cX4_seaThen 5 = .ok (.iload_n 2, 1) := by decide +kernel
theorem dX4_seaThen_6 : decode cX4_seaThen 6 = .ok (.iconst 0, 1) := by decide +kernel
theorem dX4_seaThen_7 : decode cX4_seaThen 7 = .ok (.bipush 60, 2) := by decide +kernel
theorem dX4_seaThen_9 : decode cX4_seaThen 9 = .ok (.invokestatic 53, 3) := by decide +kernel
theorem dX4_seaThen_12 : decode cX4_seaThen 12 = .ok (.invokestatic 61, 3) := by decide +kernel
theorem dX4_seaThen_15 : decode cX4_seaThen 15 = .ok (.istore_n 3, 1) := by decide +kernel
theorem dX4_seaThen_16 : decode cX4_seaThen 16 = .ok (.iload_n 3, 1) := by decide +kernel
theorem dX4_seaThen_17 : decode cX4_seaThen 17 = .ok (.ifCond .eq 9, 3) := by decide +kernel
theorem dX4_seaThen_20 : decode cX4_seaThen 20 = .ok (.aload_n 0, 1) := by decide +kernel
theorem dX4_seaThen_21 : decode cX4_seaThen 21 = .ok (.iload_n 3, 1) := by decide +kernel
theorem dX4_seaThen_22 : decode cX4_seaThen 22 = .ok (.invokevirtual 65, 3) := by decide +kernel
theorem dX4_seaThen_25 : decode cX4_seaThen 25 = .ok (.ireturn, 1) := by decide +kernel
theorem dX4_seaThen_26 : decode cX4_seaThen 26 = .ok (.aload_n 0, 1) := by decide +kernel
theorem dX4_seaThen_27 : decode cX4_seaThen 27 = .ok (.invokevirtual 132, 3) := by decide +kernel
theorem dX4_seaThen_30 : decode cX4_seaThen 30 = .ok (.aload_n 0, 1) := by decide +kernel
theorem dX4_seaThen_31 : decode cX4_seaThen 31 = .ok (.getfield 16, 3) := by decide +kernel
theorem dX4_seaThen_34 : decode cX4_seaThen 34 = .ok (.iload_n 2, 1) := by decide +kernel
theorem dX4_seaThen_35 : decode cX4_seaThen 35 = .ok (.invokevirtual 126, 3) := by decide +kernel
theorem dX4_seaThen_38 : decode cX4_seaThen 38 = .ok (.pop, 1) := by decide +kernel
theorem dX4_seaThen_39 : decode cX4_seaThen 39 = .ok (.aload_n 0, 1) := by decide +kernel
theorem dX4_seaThen_40 : decode cX4_seaThen 40 = .ok (.getfield 16, 3) := by decide +kernel
theorem dX4_seaThen_43 : decode cX4_seaThen 43 = .ok (.getfield 95, 3) := by decide +kernel
theorem dX4_seaThen_46 : decode cX4_seaThen 46 = .ok (.iload_n 1, 1) := by decide +kernel
theorem dX4_seaThen_47 : decode cX4_seaThen 47 = .ok (.iaload, 1) := by decide +kernel
theorem dX4_seaThen_48 : decode cX4_seaThen 48 = .ok (.ireturn, 1) := by decide +kernel
set_option maxRecDepth 20000 in
theorem ggX4_comes_X4_noPlace : GoodIn wsX4_comes wsX4_noPlace := goodIn_r _ [6, 7, 96, 97, 98, 99, 100, 101, 102, 103, 104, 105, 106, 107, 108, 109, 110, 111, 112, 113, 114, 115, 116, 117, 118] (by decide +kernel) (by decide +kernel)
set_option maxRecDepth 20000 in
theorem gX4_comes_X4_noPlace : GoodIn wsX4_comes (wsV RX4 102 RX4 yX4_noPlace wsX4_noPlace) := goodIn_app (goodIn_of _ (by decide +kernel)) ggX4_comes_X4_noPlace
set_option maxRecDepth 20000 in
theorem ggX4_comes_X4_refuse : GoodIn wsX4_comes wsX4_refuse := goodIn_r _ [11, 12, 96, 97, 98, 99, 100, 101, 102, 103, 104, 105, 106] (by decide +kernel) (by decide +kernel)
set_option maxRecDepth 20000 in
theorem gX4_comes_X4_refuse : GoodIn wsX4_comes (wsV RX4 65 RX4 yX4_refuse wsX4_refuse) := goodIn_app (goodIn_of _ (by decide +kernel)) ggX4_comes_X4_refuse
set_option maxRecDepth 20000 in
theorem ggX4_comes_X4_think : GoodIn wsX4_comes wsX4_think := goodIn_r _ [16, 1, 7, 17, 18, 19, 20, 21, 22, 23, 24, 25, 26, 27, 28, 29, 30, 31, 32, 33, 34, 35, 96, 97, 98, 99, 100, 101, 102, 103, 104, 105, 106, 107, 108, 109, 110, 111, 112, 113, 114, 115, 116, 117, 118] (by decide +kernel) (by decide +kernel)
set_option maxRecDepth 20000 in
theorem gX4_comes_X4_think : GoodIn wsX4_comes (wsV RX4 132 RX4 yX4_think wsX4_think) := goodIn_app (goodIn_of _ (by decide +kernel)) ggX4_comes_X4_think
set_option maxRecDepth 20000 in
theorem ggX4_comes_X3_reaches : GoodIn wsX4_comes wsX3_reaches := goodIn_r _ [39, 25, 27, 40, 41, 42, 20, 43, 44, 45, 46, 47, 48, 49, 23, 50, 51, 52, 53, 54, 55, 56, 57, 24, 58, 59, 60, 61, 34, 62, 63, 64, 65, 66, 67, 68, 69, 35, 32, 33, 70, 71, 72, 73, 74, 75, 76, 77, 78, 79, 80, 81, 82, 5, 83, 84, 85, 86, 87, 88, 89, 26, 90, 91, 92, 93, 94, 95, 107, 108, 109, 110, 111, 112, 113, 114, 115, 116, 117, 118] (by decide +kernel) (by decide +kernel)
set_option maxRecDepth 20000 in
theorem gX4_comes_X3_reaches : GoodIn wsX4_comes (wsV RX4 135 RX3 yX3_reaches wsX3_reaches) := goodIn_app (goodIn_of _ (by decide +kernel)) ggX4_comes_X3_reaches
theorem dX4_comes_0 : decode cX4_comes 0 = .ok (.aload_n 0, 1) := by decide +kernel
theorem dX4_comes_1 : decode cX4_comes 1 = .ok (.iload_n 1, 1) := by decide +kernel
theorem dX4_comes_2 : decode cX4_comes 2 = .ok (.invokevirtual 102, 3) := by decide +kernel
theorem dX4_comes_5 : decode cX4_comes 5 = .ok (.istore_n 2, 1) := by decide +kernel
theorem dX4_comes_6 : decode cX4_comes 6 = .ok (.iload_n 2, 1) := by decide +kernel
theorem dX4_comes_7 : decode cX4_comes 7 = .ok (.ifCond .eq 9, 3) := by decide +kernel
theorem dX4_comes_10 : decode cX4_comes 10 = .ok (.aload_n 0, 1) := by decide +kernel
theorem dX4_comes_11 : decode cX4_comes 11 = .ok (.iload_n 2, 1) := by decide +kernel
theorem dX4_comes_12 : decode cX4_comes 12 = .ok (.invokevirtual 65, 3) := by decide +kernel
theorem dX4_comes_15 : decode cX4_comes 15 = .ok (.ireturn, 1) := by decide +kernel
theorem dX4_comes_16 : decode cX4_comes 16 = .ok (.aload_n 0, 1) := by decide +kernel
theorem dX4_comes_17 : decode cX4_comes 17 = .ok (.invokevirtual 132, 3) := by decide +kernel
theorem dX4_comes_20 : decode cX4_comes 20 = .ok (.aload_n 0, 1) := by decide +kernel
theorem dX4_comes_21 : decode cX4_comes 21 = .ok (.getfield 16, 3) := by decide +kernel
theorem dX4_comes_24 : decode cX4_comes 24 = .ok (.iload_n 1, 1) := by decide +kernel
theorem dX4_comes_25 : decode cX4_comes 25 = .ok (.bipush 60, 2) := by decide +kernel
theorem dX4_comes_27 : decode cX4_comes 27 = .ok (.invokevirtual 135, 3) := by decide +kernel
theorem dX4_comes_30 : decode cX4_comes 30 = .ok (.ireturn, 1) := by decide +kernel
set_option maxRecDepth 20000 in
theorem ggX4_door_X4_noWhat : GoodIn wsX4_door wsX4_noWhat := goodIn_r _ [5] (by decide +kernel) (by decide +kernel)
set_option maxRecDepth 20000 in
theorem gX4_door_X4_noWhat : GoodIn wsX4_door (va_wsS RX4 83 yX4_noWhat wsX4_noWhat) := goodIn_app (goodIn_of _ (by decide +kernel)) ggX4_door_X4_noWhat
set_option maxRecDepth 20000 in
theorem ggX4_door_X4_refuse : GoodIn wsX4_door wsX4_refuse := goodIn_r _ [9, 10, 111, 112, 113, 114, 115, 116, 117, 118, 119, 120, 121] (by decide +kernel) (by decide +kernel)
set_option maxRecDepth 20000 in
theorem gX4_door_X4_refuse : GoodIn wsX4_door (wsV RX4 65 RX4 yX4_refuse wsX4_refuse) := goodIn_app (goodIn_of _ (by decide +kernel)) ggX4_door_X4_refuse
set_option maxRecDepth 20000 in
theorem ggX4_door_X4_think : GoodIn wsX4_door wsX4_think := goodIn_r _ [14, 1, 15, 16, 17, 18, 19, 20, 21, 22, 23, 24, 25, 26, 27, 28, 29, 30, 31, 32, 33, 34, 111, 112, 113, 114, 115, 116, 117, 118, 119, 120, 121, 122, 123, 124, 125, 126, 127, 128, 129, 130, 131, 132, 133] (by decide +kernel) (by decide +kernel)
set_option maxRecDepth 20000 in
theorem gX4_door_X4_think : GoodIn wsX4_door (wsV RX4 132 RX4 yX4_think wsX4_think) := goodIn_app (goodIn_of _ (by decide +kernel)) ggX4_door_X4_think
set_option maxRecDepth 20000 in
theorem ggX4_door_X3_firstPlace : GoodIn wsX4_door wsX3_firstPlace := goodIn_r _ [38, 39, 40, 41, 19, 42, 21, 26, 24, 43, 44, 45, 46, 47, 48, 49, 50, 51, 52, 22, 53, 54, 55, 56, 57, 58, 59, 60, 23, 61, 62, 63, 64, 33, 65, 66, 67, 68, 69, 70, 71, 72, 34, 31, 32, 73, 74, 75, 76, 77, 78, 79, 80, 81, 82, 83, 84, 85, 4, 86, 87, 88, 89, 90, 91, 92, 25, 93, 94, 95, 96, 97, 98, 122, 123, 124, 125, 126, 127, 128, 129, 130, 131, 132, 133] (by decide +kernel) (by decide +kernel)
set_option maxRecDepth 20000 in
theorem gX4_door_X3_firstPlace : GoodIn wsX4_door (wsV RX4 138 RX3 yX3_firstPlace wsX3_firstPlace) := goodIn_app (goodIn_of _ (by decide +kernel)) ggX4_door_X3_firstPlace
set_option maxRecDepth 20000 in
theorem ggX4_door_X3_firstSpin : GoodIn wsX4_door wsX3_firstSpin := goodIn_r _ [102, 103, 104, 105, 19, 106, 47, 48, 49, 50, 51, 52, 22, 53, 54, 55, 56, 57, 58, 59, 60, 23, 61, 62, 63, 64, 26, 33, 24, 65, 66, 67, 68, 69, 70, 71, 72, 34, 31, 32, 73, 74, 75, 76, 77, 78, 79, 80, 43, 44, 45, 46, 81, 82, 83, 84, 85, 4, 86, 87, 88, 89, 90, 91, 92, 25, 93, 94, 95, 96, 97, 98, 122, 123, 124, 125, 126, 127, 128, 129, 130, 131, 132, 133] (by decide +kernel) (by decide +kernel)
set_option maxRecDepth 20000 in
theorem gX4_door_X3_firstSpin : GoodIn wsX4_door (wsV RX4 141 RX3 yX3_firstSpin wsX3_firstSpin) := goodIn_app (goodIn_of _ (by decide +kernel)) ggX4_door_X3_firstSpin
set_option maxRecDepth 20000 in
theorem ggX4_door_X3_firstRest : GoodIn wsX4_door wsX3_firstRest := goodIn_r _ [110, 43, 44, 45, 19, 46, 24, 47, 48, 49, 50, 51, 52, 22, 53, 54, 55, 56, 57, 58, 59, 60, 23, 61, 62, 63, 64, 26, 33, 65, 66, 67, 68, 69, 70, 71, 72, 34, 31, 32, 73, 74, 75, 76, 77, 78, 79, 80, 81, 82, 83, 84, 85, 4, 86, 87, 88, 89, 90, 91, 92, 25, 93, 94, 95, 96, 97, 98, 122, 123, 124, 125, 126, 127, 128, 129, 130, 131, 132, 133] (by decide +kernel) (by decide +kernel)
set_option maxRecDepth 20000 in
theorem gX4_door_X3_firstRest : GoodIn wsX4_door (wsV RX4 144 RX3 yX3_firstRest wsX3_firstRest) := goodIn_app (goodIn_of _ (by decide +kernel)) ggX4_door_X3_firstRest
theorem dX4_door_0 : decode cX4_door 0 = .ok (.iload_n 1, 1) := by decide +kernel
theorem dX4_door_1 : decode cX4_door 1 = .ok (.iconst 3, 1) := by decide +kernel
theorem dX4_door_2 : decode cX4_door 2 = .ok (.invokestatic 83, 3) := by decide +kernel
theorem dX4_door_5 : decode cX4_door 5 = .ok (.istore_n 2, 1) := by decide +kernel
theorem dX4_door_6 : decode cX4_door 6 = .ok (.iload_n 2, 1) := by decide +kernel
theorem dX4_door_7 : decode cX4_door 7 = .ok (.ifCond .eq 9, 3) := by decide +kernel
theorem dX4_door_10 : decode cX4_door 10 = .ok (.aload_n 0, 1) := by decide +kernel
theorem dX4_door_11 : decode cX4_door 11 = .ok (.iload_n 2, 1) := by decide +kernel
theorem dX4_door_12 : decode cX4_door 12 = .ok (.invokevirtual 65, 3) := by decide +kernel
theorem dX4_door_15 : decode cX4_door 15 = .ok (.ireturn, 1) := by decide +kernel
theorem dX4_door_16 : decode cX4_door 16 = .ok (.aload_n 0, 1) := by decide +kernel
theorem dX4_door_17 : decode cX4_door 17 = .ok (.invokevirtual 132, 3) := by decide +kernel
theorem dX4_door_20 : decode cX4_door 20 = .ok (.iload_n 1, 1) := by decide +kernel
theorem dX4_door_21 : decode cX4_door 21 = .ok (.lookupswitch 47 #[(0, 27), (1, 37)], 27) := by decide +kernel
theorem dX4_door_48 : decode cX4_door 48 = .ok (.aload_n 0, 1) := by decide +kernel
theorem dX4_door_49 : decode cX4_door 49 = .ok (.getfield 16, 3) := by decide +kernel
theorem dX4_door_52 : decode cX4_door 52 = .ok (.bipush 60, 2) := by decide +kernel
theorem dX4_door_54 : decode cX4_door 54 = .ok (.invokevirtual 138, 3) := by decide +kernel
theorem dX4_door_57 : decode cX4_door 57 = .ok (.ireturn, 1) := by decide +kernel
theorem dX4_door_58 : decode cX4_door 58 = .ok (.aload_n 0, 1) := by decide +kernel
theorem dX4_door_59 : decode cX4_door 59 = .ok (.getfield 16, 3) := by decide +kernel
theorem dX4_door_62 : decode cX4_door 62 = .ok (.bipush 60, 2) := by decide +kernel
theorem dX4_door_64 : decode cX4_door 64 = .ok (.invokevirtual 141, 3) := by decide +kernel
theorem dX4_door_67 : decode cX4_door 67 = .ok (.ireturn, 1) := by decide +kernel
theorem dX4_door_68 : decode cX4_door 68 = .ok (.aload_n 0, 1) := by decide +kernel
theorem dX4_door_69 : decode cX4_door 69 = .ok (.getfield 16, 3) := by decide +kernel
theorem dX4_door_72 : decode cX4_door 72 = .ok (.bipush 60, 2) := by decide +kernel
theorem dX4_door_74 : decode cX4_door 74 = .ok (.invokevirtual 144, 3) := by decide +kernel
theorem dX4_door_77 : decode cX4_door 77 = .ok (.ireturn, 1) := by decide +kernel
set_option maxRecDepth 20000 in
theorem ggX4_crew_X4_noPlace : GoodIn wsX4_crew wsX4_noPlace := goodIn_r _ [5, 6, 130, 131, 132, 133, 134, 135, 136, 137, 138, 139, 140, 141, 142, 143, 144, 145, 146, 147, 148, 149, 150, 151, 152] (by decide +kernel) (by decide +kernel)
set_option maxRecDepth 20000 in
theorem gX4_crew_X4_noPlace : GoodIn wsX4_crew (wsV RX4 102 RX4 yX4_noPlace wsX4_noPlace) := goodIn_app (goodIn_of _ (by decide +kernel)) ggX4_crew_X4_noPlace
set_option maxRecDepth 20000 in
theorem ggX4_crew_X4_outside : GoodIn wsX4_crew wsX4_outside := goodIn_r _ [9, 10, 11, 4, 12, 13, 14, 15, 16, 17, 18] (by decide +kernel) (by decide +kernel)
set_option maxRecDepth 20000 in
theorem gX4_crew_X4_outside : GoodIn wsX4_crew (va_wsS RX4 53 yX4_outside wsX4_outside) := goodIn_app (goodIn_of _ (by decide +kernel)) ggX4_crew_X4_outside
set_option maxRecDepth 20000 in
theorem ggX4_crew_X4_firstOf : GoodIn wsX4_crew wsX4_firstOf := goodIn_r _ [18] (by decide +kernel) (by decide +kernel)
set_option maxRecDepth 20000 in
theorem gX4_crew_X4_firstOf : GoodIn wsX4_crew (va_wsS RX4 61 yX4_firstOf wsX4_firstOf) := goodIn_app (goodIn_of _ (by decide +kernel)) ggX4_crew_X4_firstOf
set_option maxRecDepth 20000 in
theorem ggX4_crew_X4_refuse : GoodIn wsX4_crew wsX4_refuse := goodIn_r _ [22, 23, 130, 131, 132, 133, 134, 135, 136, 137, 138, 139, 140] (by decide +kernel) (by decide +kernel)
set_option maxRecDepth 20000 in
theorem gX4_crew_X4_refuse : GoodIn wsX4_crew (wsV RX4 65 RX4 yX4_refuse wsX4_refuse) := goodIn_app (goodIn_of _ (by decide +kernel)) ggX4_crew_X4_refuse
set_option maxRecDepth 20000 in
theorem ggX4_crew_X4_fewestHands : GoodIn wsX4_crew wsX4_fewestHands := goodIn_r _ [27, 6, 28, 29, 30, 31, 32, 33, 34, 35, 36, 37, 4, 38, 39, 40, 41, 42, 43, 44, 45, 46, 47, 48, 49, 50, 51, 52, 53, 54, 55, 56, 57, 58, 59, 60, 61, 62, 63, 64, 65, 66, 67, 68, 69, 70, 71, 72, 73, 74, 75, 76, 77, 78, 79, 80, 81, 82, 83, 84, 85, 86, 87, 88, 89, 90, 91, 92, 93, 94, 95, 96, 97, 98, 99, 100, 101, 102, 103, 104, 105, 106, 107, 108, 109, 110, 111, 112, 113, 114, 115, 116, 117, 118, 119, 120, 121, 122, 123, 124, 125, 126, 127, 128, 129, 130, 131, 132, 133, 134, 135, 136, 137, 138, 139, 140, 141, 142, 143, 144, 145, 146, 147, 148, 149, 150, 151, 152] (by decide +kernel) (by decide +kernel)
set_option maxRecDepth 20000 in
theorem gX4_crew_X4_fewestHands : GoodIn wsX4_crew (wsV RX4 147 RX4 yX4_fewestHands wsX4_fewestHands) := goodIn_app (goodIn_of _ (by decide +kernel)) ggX4_crew_X4_fewestHands
theorem dX4_crew_0 : decode cX4_crew 0 = .ok (.aload_n 0, 1) := by decide +kernel
theorem dX4_crew_1 : decode cX4_crew 1 = .ok (.iload_n 1, 1) := by decide +kernel
theorem dX4_crew_2 : decode cX4_crew 2 = .ok (.invokevirtual 102, 3) := by decide +kernel
theorem dX4_crew_5 : decode cX4_crew 5 = .ok (.iload_n 2, 1) := by decide +kernel
theorem dX4_crew_6 : decode cX4_crew 6 = .ok (.iconst 0, 1) := by decide +kernel
theorem dX4_crew_7 : decode cX4_crew 7 = .ok (.bipush 30, 2) := by decide +kernel
theorem dX4_crew_9 : decode cX4_crew 9 = .ok (.invokestatic 53, 3) := by decide +kernel
theorem dX4_crew_12 : decode cX4_crew 12 = .ok (.invokestatic 61, 3) := by decide +kernel
theorem dX4_crew_15 : decode cX4_crew 15 = .ok (.istore_n 3, 1) := by decide +kernel
theorem dX4_crew_16 : decode cX4_crew 16 = .ok (.iload_n 3, 1) := by decide +kernel
theorem dX4_crew_17 : decode cX4_crew 17 = .ok (.ifCond .eq 9, 3) := by decide +kernel
theorem dX4_crew_20 : decode cX4_crew 20 = .ok (.aload_n 0, 1) := by decide +kernel
theorem dX4_crew_21 : decode cX4_crew 21 = .ok (.iload_n 3, 1) := by decide +kernel
theorem dX4_crew_22 : decode cX4_crew 22 = .ok (.invokevirtual 65, 3) := by decide +kernel
theorem dX4_crew_25 : decode cX4_crew 25 = .ok (.ireturn, 1) := by decide +kernel
theorem dX4_crew_26 : decode cX4_crew 26 = .ok (.aload_n 0, 1) := by decide +kernel
theorem dX4_crew_27 : decode cX4_crew 27 = .ok (.iload_n 1, 1) := by decide +kernel
theorem dX4_crew_28 : decode cX4_crew 28 = .ok (.iload_n 2, 1) := by decide +kernel
theorem dX4_crew_29 : decode cX4_crew 29 = .ok (.iconst 0, 1) := by decide +kernel
theorem dX4_crew_30 : decode cX4_crew 30 = .ok (.invokevirtual 147, 3) := by decide +kernel
theorem dX4_crew_33 : decode cX4_crew 33 = .ok (.ireturn, 1) := by decide +kernel
set_option maxRecDepth 20000 in
theorem ggX4_ashore_X4_noPlace : GoodIn wsX4_ashore wsX4_noPlace := goodIn_r _ [7, 2, 103, 104, 105, 106, 107, 108, 109, 110, 111, 112, 113, 114, 115, 116, 117, 118, 119, 120, 121, 122, 123, 124, 125] (by decide +kernel) (by decide +kernel)
set_option maxRecDepth 20000 in
theorem gX4_ashore_X4_noPlace : GoodIn wsX4_ashore (wsV RX4 102 RX4 yX4_noPlace wsX4_noPlace) := goodIn_app (goodIn_of _ (by decide +kernel)) ggX4_ashore_X4_noPlace
set_option maxRecDepth 20000 in
theorem ggX4_ashore_X4_refuse : GoodIn wsX4_ashore wsX4_refuse := goodIn_r _ [11, 12, 103, 104, 105, 106, 107, 108, 109, 110, 111, 112, 113] (by decide +kernel) (by decide +kernel)
set_option maxRecDepth 20000 in
theorem gX4_ashore_X4_refuse : GoodIn wsX4_ashore (wsV RX4 65 RX4 yX4_refuse wsX4_refuse) := goodIn_app (goodIn_of _ (by decide +kernel)) ggX4_ashore_X4_refuse
set_option maxRecDepth 20000 in
theorem ggX4_ashore_X4_think : GoodIn wsX4_ashore wsX4_think := goodIn_r _ [16, 1, 2, 17, 18, 19, 20, 21, 22, 23, 24, 25, 26, 27, 28, 29, 30, 31, 32, 33, 34, 35, 103, 104, 105, 106, 107, 108, 109, 110, 111, 112, 113, 114, 115, 116, 117, 118, 119, 120, 121, 122, 123, 124, 125] (by decide +kernel) (by decide +kernel)
set_option maxRecDepth 20000 in
theorem gX4_ashore_X4_think : GoodIn wsX4_ashore (wsV RX4 132 RX4 yX4_think wsX4_think) := goodIn_app (goodIn_of _ (by decide +kernel)) ggX4_ashore_X4_think
set_option maxRecDepth 20000 in
theorem ggX4_ashore_X3_reaches : GoodIn wsX4_ashore wsX3_reaches := goodIn_r _ [39, 25, 27, 40, 41, 42, 20, 43, 44, 45, 46, 47, 48, 49, 23, 50, 51, 52, 53, 54, 55, 56, 57, 24, 58, 59, 60, 61, 34, 62, 63, 64, 65, 66, 67, 68, 69, 35, 32, 33, 70, 71, 72, 73, 74, 75, 76, 77, 78, 79, 80, 81, 82, 6, 83, 84, 85, 86, 87, 88, 89, 26, 90, 91, 92, 93, 94, 95, 114, 115, 116, 117, 118, 119, 120, 121, 122, 123, 124, 125] (by decide +kernel) (by decide +kernel)
set_option maxRecDepth 20000 in
theorem gX4_ashore_X3_reaches : GoodIn wsX4_ashore (wsV RX4 135 RX3 yX3_reaches wsX3_reaches) := goodIn_app (goodIn_of _ (by decide +kernel)) ggX4_ashore_X3_reaches
set_option maxRecDepth 20000 in
theorem ggX4_ashore_X4_orLate : GoodIn wsX4_ashore wsX4_orLate := goodIn_r _ [98] (by decide +kernel) (by decide +kernel)
set_option maxRecDepth 20000 in
theorem gX4_ashore_X4_orLate : GoodIn wsX4_ashore (va_wsS RX4 151 yX4_orLate wsX4_orLate) := goodIn_app (goodIn_of _ (by decide +kernel)) ggX4_ashore_X4_orLate
set_option maxRecDepth 20000 in
theorem ggX4_ashore_X3_leaveAshore : GoodIn wsX4_ashore wsX3_leaveAshore := goodIn_r _ [102, 24, 114, 115, 116, 117, 118, 119, 120, 121, 122, 123, 124, 125] (by decide +kernel) (by decide +kernel)
set_option maxRecDepth 20000 in
theorem gX4_ashore_X3_leaveAshore : GoodIn wsX4_ashore (wsV RX4 157 RX3 yX3_leaveAshore wsX3_leaveAshore) := goodIn_app (goodIn_of _ (by decide +kernel)) ggX4_ashore_X3_leaveAshore
theorem dX4_ashore_0 : decode cX4_ashore 0 = .ok (.aload_n 0, 1) := by decide +kernel
theorem dX4_ashore_1 : decode cX4_ashore 1 = .ok (.iload_n 1, 1) := by decide +kernel
theorem dX4_ashore_2 : decode cX4_ashore 2 = .ok (.invokevirtual 102, 3) := by decide +kernel
theorem dX4_ashore_5 : decode cX4_ashore 5 = .ok (.istore_n 2, 1) := by decide +kernel
theorem dX4_ashore_6 : decode cX4_ashore 6 = .ok (.iload_n 2, 1) := by decide +kernel
theorem dX4_ashore_7 : decode cX4_ashore 7 = .ok (.ifCond .eq 9, 3) := by decide +kernel
theorem dX4_ashore_10 : decode cX4_ashore 10 = .ok (.aload_n 0, 1) := by decide +kernel
theorem dX4_ashore_11 : decode cX4_ashore 11 = .ok (.iload_n 2, 1) := by decide +kernel
theorem dX4_ashore_12 : decode cX4_ashore 12 = .ok (.invokevirtual 65, 3) := by decide +kernel
theorem dX4_ashore_15 : decode cX4_ashore 15 = .ok (.ireturn, 1) := by decide +kernel
theorem dX4_ashore_16 : decode cX4_ashore 16 = .ok (.aload_n 0, 1) := by decide +kernel
theorem dX4_ashore_17 : decode cX4_ashore 17 = .ok (.invokevirtual 132, 3) := by decide +kernel
theorem dX4_ashore_20 : decode cX4_ashore 20 = .ok (.aload_n 0, 1) := by decide +kernel
theorem dX4_ashore_21 : decode cX4_ashore 21 = .ok (.getfield 16, 3) := by decide +kernel
theorem dX4_ashore_24 : decode cX4_ashore 24 = .ok (.iload_n 1, 1) := by decide +kernel
theorem dX4_ashore_25 : decode cX4_ashore 25 = .ok (.bipush 60, 2) := by decide +kernel
theorem dX4_ashore_27 : decode cX4_ashore 27 = .ok (.invokevirtual 135, 3) := by decide +kernel
theorem dX4_ashore_30 : decode cX4_ashore 30 = .ok (.invokestatic 151, 3) := by decide +kernel
theorem dX4_ashore_33 : decode cX4_ashore 33 = .ok (.istore_n 3, 1) := by decide +kernel
theorem dX4_ashore_34 : decode cX4_ashore 34 = .ok (.bipush (-9), 2) := by decide +kernel
theorem dX4_ashore_36 : decode cX4_ashore 36 = .ok (.istore 4, 2) := by decide +kernel
theorem dX4_ashore_38 : decode cX4_ashore 38 = .ok (.iconst 0, 1) := by decide +kernel
theorem dX4_ashore_39 : decode cX4_ashore 39 = .ok (.istore 5, 2) := by decide +kernel
theorem dX4_ashore_41 : decode cX4_ashore 41 = .ok (.iload 5, 2) := by decide +kernel
theorem dX4_ashore_43 : decode cX4_ashore 43 = .ok (.aload_n 0, 1) := by decide +kernel
theorem dX4_ashore_44 : decode cX4_ashore 44 = .ok (.getfield 10, 3) := by decide +kernel
theorem dX4_ashore_47 : decode cX4_ashore 47 = .ok (.getfield 154, 3) := by decide +kernel
theorem dX4_ashore_50 : decode cX4_ashore 50 = .ok (.if_icmp .ge 50, 3) := by decide +kernel
theorem dX4_ashore_53 : decode cX4_ashore 53 = .ok (.aload_n 0, 1) := by decide +kernel
theorem dX4_ashore_54 : decode cX4_ashore 54 = .ok (.invokevirtual 132, 3) := by decide +kernel
theorem dX4_ashore_57 : decode cX4_ashore 57 = .ok (.aload_n 0, 1) := by decide +kernel
theorem dX4_ashore_58 : decode cX4_ashore 58 = .ok (.getfield 16, 3) := by decide +kernel
theorem dX4_ashore_61 : decode cX4_ashore 61 = .ok (.iload 5, 2) := by decide +kernel
theorem dX4_ashore_63 : decode cX4_ashore 63 = .ok (.invokevirtual 157, 3) := by decide +kernel
theorem dX4_ashore_66 : decode cX4_ashore 66 = .ok (.aload_n 0, 1) := by decide +kernel
theorem dX4_ashore_67 : decode cX4_ashore 67 = .ok (.getfield 16, 3) := by decide +kernel
theorem dX4_ashore_70 : decode cX4_ashore 70 = .ok (.iload_n 1, 1) := by decide +kernel
theorem dX4_ashore_71 : decode cX4_ashore 71 = .ok (.bipush 60, 2) := by decide +kernel
theorem dX4_ashore_73 : decode cX4_ashore 73 = .ok (.invokevirtual 135, 3) := by decide +kernel
theorem dX4_ashore_76 : decode cX4_ashore 76 = .ok (.invokestatic 151, 3) := by decide +kernel
theorem dX4_ashore_79 : decode cX4_ashore 79 = .ok (.istore 6, 2) := by decide +kernel
theorem dX4_ashore_81 : decode cX4_ashore 81 = .ok (.iload 6, 2) := by decide +kernel
theorem dX4_ashore_83 : decode cX4_ashore 83 = .ok (.iload_n 3, 1) := by decide +kernel
theorem dX4_ashore_84 : decode cX4_ashore 84 = .ok (.if_icmp .ge 10, 3) := by decide +kernel
theorem dX4_ashore_87 : decode cX4_ashore 87 = .ok (.iload 6, 2) := by decide +kernel
theorem dX4_ashore_89 : decode cX4_ashore 89 = .ok (.istore_n 3, 1) := by decide +kernel
theorem dX4_ashore_90 : decode cX4_ashore 90 = .ok (.iload 5, 2) := by decide +kernel
theorem dX4_ashore_92 : decode cX4_ashore 92 = .ok (.istore 4, 2) := by decide +kernel
theorem dX4_ashore_94 : decode cX4_ashore 94 = .ok (.iinc 5 1, 3) := by decide +kernel
theorem dX4_ashore_97 : decode cX4_ashore 97 = .ok (.goto (-56), 3) := by decide +kernel
theorem dX4_ashore_100 : decode cX4_ashore 100 = .ok (.iload 4, 2) := by decide +kernel
theorem dX4_ashore_102 : decode cX4_ashore 102 = .ok (.ireturn, 1) := by decide +kernel
set_option maxRecDepth 20000 in
theorem ggX4_letters_X4_noPlace : GoodIn wsX4_letters wsX4_noPlace := goodIn_r _ [5, 6, 130, 131, 132, 133, 134, 135, 136, 137, 138, 139, 140, 141, 142, 143, 144, 145, 146, 147, 148, 149, 150, 151, 152] (by decide +kernel) (by decide +kernel)
set_option maxRecDepth 20000 in
theorem gX4_letters_X4_noPlace : GoodIn wsX4_letters (wsV RX4 102 RX4 yX4_noPlace wsX4_noPlace) := goodIn_app (goodIn_of _ (by decide +kernel)) ggX4_letters_X4_noPlace
set_option maxRecDepth 20000 in
theorem ggX4_letters_X4_outside : GoodIn wsX4_letters wsX4_outside := goodIn_r _ [9, 10, 11, 4, 12, 13, 14, 15, 16, 17, 18] (by decide +kernel) (by decide +kernel)
set_option maxRecDepth 20000 in
theorem gX4_letters_X4_outside : GoodIn wsX4_letters (va_wsS RX4 53 yX4_outside wsX4_outside) := goodIn_app (goodIn_of _ (by decide +kernel)) ggX4_letters_X4_outside
set_option maxRecDepth 20000 in
theorem ggX4_letters_X4_firstOf : GoodIn wsX4_letters wsX4_firstOf := goodIn_r _ [18] (by decide +kernel) (by decide +kernel)
set_option maxRecDepth 20000 in
theorem gX4_letters_X4_firstOf : GoodIn wsX4_letters (va_wsS RX4 61 yX4_firstOf wsX4_firstOf) := goodIn_app (goodIn_of _ (by decide +kernel)) ggX4_letters_X4_firstOf
set_option maxRecDepth 20000 in
theorem ggX4_letters_X4_refuse : GoodIn wsX4_letters wsX4_refuse := goodIn_r _ [22, 23, 130, 131, 132, 133, 134, 135, 136, 137, 138, 139, 140] (by decide +kernel) (by decide +kernel)
set_option maxRecDepth 20000 in
theorem gX4_letters_X4_refuse : GoodIn wsX4_letters (wsV RX4 65 RX4 yX4_refuse wsX4_refuse) := goodIn_app (goodIn_of _ (by decide +kernel)) ggX4_letters_X4_refuse
set_option maxRecDepth 20000 in
theorem ggX4_letters_X4_fewestHands : GoodIn wsX4_letters wsX4_fewestHands := goodIn_r _ [27, 6, 28, 29, 30, 31, 32, 33, 34, 35, 36, 37, 4, 38, 39, 40, 41, 42, 43, 44, 45, 46, 47, 48, 49, 50, 51, 52, 53, 54, 55, 56, 57, 58, 59, 60, 61, 62, 63, 64, 65, 66, 67, 68, 69, 70, 71, 72, 73, 74, 75, 76, 77, 78, 79, 80, 81, 82, 83, 84, 85, 86, 87, 88, 89, 90, 91, 92, 93, 94, 95, 96, 97, 98, 99, 100, 101, 102, 103, 104, 105, 106, 107, 108, 109, 110, 111, 112, 113, 114, 115, 116, 117, 118, 119, 120, 121, 122, 123, 124, 125, 126, 127, 128, 129, 130, 131, 132, 133, 134, 135, 136, 137, 138, 139, 140, 141, 142, 143, 144, 145, 146, 147, 148, 149, 150, 151, 152] (by decide +kernel) (by decide +kernel)
set_option maxRecDepth 20000 in
theorem gX4_letters_X4_fewestHands : GoodIn wsX4_letters (wsV RX4 147 RX4 yX4_fewestHands wsX4_fewestHands) := goodIn_app (goodIn_of _ (by decide +kernel)) ggX4_letters_X4_fewestHands
theorem dX4_letters_0 : decode cX4_letters 0 = .ok (.aload_n 0, 1) := by decide +kernel
theorem dX4_letters_1 : decode cX4_letters 1 = .ok (.iload_n 1, 1) := by decide +kernel
theorem dX4_letters_2 : decode cX4_letters 2 = .ok (.invokevirtual 102, 3) := by decide +kernel
theorem dX4_letters_5 : decode cX4_letters 5 = .ok (.iload_n 2, 1) := by decide +kernel
theorem dX4_letters_6 : decode cX4_letters 6 = .ok (.iconst 0, 1) := by decide +kernel
theorem dX4_letters_7 : decode cX4_letters 7 = .ok (.bipush 30, 2) := by decide +kernel
theorem dX4_letters_9 : decode cX4_letters 9 = .ok (.invokestatic 53, 3) := by decide +kernel
theorem dX4_letters_12 : decode cX4_letters 12 = .ok (.invokestatic 61, 3) := by decide +kernel
theorem dX4_letters_15 : decode cX4_letters 15 = .ok (.istore_n 3, 1) := by decide +kernel
theorem dX4_letters_16 : decode cX4_letters 16 = .ok (.iload_n 3, 1) := by decide +kernel
theorem dX4_letters_17 : decode cX4_letters 17 = .ok (.ifCond .eq 9, 3) := by decide +kernel
theorem dX4_letters_20 : decode cX4_letters 20 = .ok (.aload_n 0, 1) := by decide +kernel
theorem dX4_letters_21 : decode cX4_letters 21 = .ok (.iload_n 3, 1) := by decide +kernel
theorem dX4_letters_22 : decode cX4_letters 22 = .ok (.invokevirtual 65, 3) := by decide +kernel
theorem dX4_letters_25 : decode cX4_letters 25 = .ok (.ireturn, 1) := by decide +kernel
theorem dX4_letters_26 : decode cX4_letters 26 = .ok (.aload_n 0, 1) := by decide +kernel
theorem dX4_letters_27 : decode cX4_letters 27 = .ok (.iload_n 1, 1) := by decide +kernel
theorem dX4_letters_28 : decode cX4_letters 28 = .ok (.iload_n 2, 1) := by decide +kernel
theorem dX4_letters_29 : decode cX4_letters 29 = .ok (.iconst 1, 1) := by decide +kernel
theorem dX4_letters_30 : decode cX4_letters 30 = .ok (.invokevirtual 147, 3) := by decide +kernel
theorem dX4_letters_33 : decode cX4_letters 33 = .ok (.ireturn, 1) := by decide +kernel
set_option maxRecDepth 20000 in
theorem ggX4_sign_X4_noPlace : GoodIn wsX4_sign wsX4_noPlace := goodIn_r _ [5, 6, 113, 114, 115, 116, 117, 118, 119, 120, 121, 122, 123, 124, 125, 126, 127, 128, 129, 130, 131, 132, 133, 134, 135] (by decide +kernel) (by decide +kernel)
set_option maxRecDepth 20000 in
theorem gX4_sign_X4_noPlace : GoodIn wsX4_sign (wsV RX4 102 RX4 yX4_noPlace wsX4_noPlace) := goodIn_app (goodIn_of _ (by decide +kernel)) ggX4_sign_X4_noPlace
set_option maxRecDepth 20000 in
theorem ggX4_sign_X4_noWhat : GoodIn wsX4_sign wsX4_noWhat := goodIn_r _ [9] (by decide +kernel) (by decide +kernel)
set_option maxRecDepth 20000 in
theorem gX4_sign_X4_noWhat : GoodIn wsX4_sign (va_wsS RX4 83 yX4_noWhat wsX4_noWhat) := goodIn_app (goodIn_of _ (by decide +kernel)) ggX4_sign_X4_noWhat
set_option maxRecDepth 20000 in
theorem ggX4_sign_X4_firstOf : GoodIn wsX4_sign wsX4_firstOf := goodIn_r _ [12] (by decide +kernel) (by decide +kernel)
set_option maxRecDepth 20000 in
theorem gX4_sign_X4_firstOf : GoodIn wsX4_sign (va_wsS RX4 61 yX4_firstOf wsX4_firstOf) := goodIn_app (goodIn_of _ (by decide +kernel)) ggX4_sign_X4_firstOf
set_option maxRecDepth 20000 in
theorem ggX4_sign_X4_refuse : GoodIn wsX4_sign wsX4_refuse := goodIn_r _ [16, 17, 113, 114, 115, 116, 117, 118, 119, 120, 121, 122, 123] (by decide +kernel) (by decide +kernel)
set_option maxRecDepth 20000 in
theorem gX4_sign_X4_refuse : GoodIn wsX4_sign (wsV RX4 65 RX4 yX4_refuse wsX4_refuse) := goodIn_app (goodIn_of _ (by decide +kernel)) ggX4_sign_X4_refuse
set_option maxRecDepth 20000 in
theorem ggX4_sign_X4_orLate : GoodIn wsX4_sign wsX4_orLate := goodIn_r _ [20] (by decide +kernel) (by decide +kernel)
set_option maxRecDepth 20000 in
theorem gX4_sign_X4_orLate : GoodIn wsX4_sign (va_wsS RX4 151 yX4_orLate wsX4_orLate) := goodIn_app (goodIn_of _ (by decide +kernel)) ggX4_sign_X4_orLate
set_option maxRecDepth 20000 in
theorem ggX4_sign_X4_comesWithSigned : GoodIn wsX4_sign wsX4_comesWithSigned := goodIn_r _ [24, 25, 26, 27, 28, 4, 29, 6, 30, 31, 32, 33, 34, 35, 36, 37, 38, 39, 40, 41, 42, 43, 44, 45, 46, 47, 48, 49, 50, 51, 52, 53, 54, 55, 56, 57, 58, 59, 60, 61, 62, 63, 64, 65, 66, 67, 68, 69, 70, 71, 72, 73, 74, 75, 76, 77, 78, 79, 80, 81, 82, 83, 84, 85, 86, 87, 88, 89, 90, 91, 92, 93, 94, 95, 96, 97, 98, 99, 100, 101, 102, 103, 104, 105, 106, 107, 108, 109, 110, 111, 112, 113, 114, 115, 116, 117, 118, 119, 120, 121, 122, 123, 124, 125, 126, 127, 128, 129, 130, 131, 132, 133, 134, 135] (by decide +kernel) (by decide +kernel)
set_option maxRecDepth 20000 in
theorem gX4_sign_X4_comesWithSigned : GoodIn wsX4_sign (wsV RX4 160 RX4 yX4_comesWithSigned wsX4_comesWithSigned) := goodIn_app (goodIn_of _ (by decide +kernel)) ggX4_sign_X4_comesWithSigned
theorem dX4_sign_0 : decode cX4_sign 0 = .ok (.aload_n 0, 1) := by decide +kernel
theorem dX4_sign_1 : decode cX4_sign 1 = .ok (.iload_n 1, 1) := by decide +kernel
theorem dX4_sign_2 : decode cX4_sign 2 = .ok (.invokevirtual 102, 3) := by decide +kernel
theorem dX4_sign_5 : decode cX4_sign 5 = .ok (.iload_n 2, 1) := by decide +kernel
theorem dX4_sign_6 : decode cX4_sign 6 = .ok (.iconst 2, 1) := by decide +kernel
theorem dX4_sign_7 : decode cX4_sign 7 = .ok (.invokestatic 83, 3) := by decide +kernel
theorem dX4_sign_10 : decode cX4_sign 10 = .ok (.invokestatic 61, 3) := by decide +kernel
theorem dX4_sign_13 : decode cX4_sign 13 = .ok (.istore_n 3, 1) := by decide +kernel
theorem dX4_sign_14 : decode cX4_sign 14 = .ok (.iload_n 3, 1) := by decide +kernel
theorem dX4_sign_15 : decode cX4_sign 15 = .ok (.ifCond .eq 9, 3) := by decide +kernel
theorem dX4_sign_18 : decode cX4_sign 18 = .ok (.aload_n 0, 1) := by decide +kernel
theorem dX4_sign_19 : decode cX4_sign 19 = .ok (.iload_n 3, 1) := by decide +kernel
theorem dX4_sign_20 : decode cX4_sign 20 = .ok (.invokevirtual 65, 3) := by decide +kernel
theorem dX4_sign_23 : decode cX4_sign 23 = .ok (.ireturn, 1) := by decide +kernel
theorem dX4_sign_24 : decode cX4_sign 24 = .ok (.bipush (-9), 2) := by decide +kernel
theorem dX4_sign_26 : decode cX4_sign 26 = .ok (.invokestatic 151, 3) := by decide +kernel
theorem dX4_sign_29 : decode cX4_sign 29 = .ok (.istore 4, 2) := by decide +kernel
theorem dX4_sign_31 : decode cX4_sign 31 = .ok (.bipush (-9), 2) := by decide +kernel
theorem dX4_sign_33 : decode cX4_sign 33 = .ok (.istore 5, 2) := by decide +kernel
theorem dX4_sign_35 : decode cX4_sign 35 = .ok (.iconst 0, 1) := by decide +kernel
theorem dX4_sign_36 : decode cX4_sign 36 = .ok (.istore 6, 2) := by decide +kernel
theorem dX4_sign_38 : decode cX4_sign 38 = .ok (.iload 6, 2) := by decide +kernel
theorem dX4_sign_40 : decode cX4_sign 40 = .ok (.bipush 6, 2) := by decide +kernel
theorem dX4_sign_42 : decode cX4_sign 42 = .ok (.if_icmp .ge 36, 3) := by decide +kernel
theorem dX4_sign_45 : decode cX4_sign 45 = .ok (.aload_n 0, 1) := by decide +kernel
theorem dX4_sign_46 : decode cX4_sign 46 = .ok (.iload 6, 2) := by decide +kernel
theorem dX4_sign_48 : decode cX4_sign 48 = .ok (.iload_n 1, 1) := by decide +kernel
theorem dX4_sign_49 : decode cX4_sign 49 = .ok (.invokevirtual 160, 3) := by decide +kernel
theorem dX4_sign_52 : decode cX4_sign 52 = .ok (.invokestatic 151, 3) := by decide +kernel
theorem dX4_sign_55 : decode cX4_sign 55 = .ok (.istore 7, 2) := by decide +kernel
theorem dX4_sign_57 : decode cX4_sign 57 = .ok (.iload 7, 2) := by decide +kernel
theorem dX4_sign_59 : decode cX4_sign 59 = .ok (.iload 4, 2) := by decide +kernel
theorem dX4_sign_61 : decode cX4_sign 61 = .ok (.if_icmp .ge 11, 3) := by decide +kernel
theorem dX4_sign_64 : decode cX4_sign 64 = .ok (.iload 7, 2) := by decide +kernel
theorem dX4_sign_66 : decode cX4_sign 66 = .ok (.istore 4, 2) := by decide +kernel
theorem dX4_sign_68 : decode cX4_sign 68 = .ok (.iload 6, 2) := by decide +kernel
theorem dX4_sign_70 : decode cX4_sign 70 = .ok (.istore 5, 2) := by decide +kernel
theorem dX4_sign_72 : decode cX4_sign 72 = .ok (.iinc 6 1, 3) := by decide +kernel
theorem dX4_sign_75 : decode cX4_sign 75 = .ok (.goto (-37), 3) := by decide +kernel
theorem dX4_sign_78 : decode cX4_sign 78 = .ok (.iload 5, 2) := by decide +kernel
theorem dX4_sign_80 : decode cX4_sign 80 = .ok (.bipush (-9), 2) := by decide +kernel
theorem dX4_sign_82 : decode cX4_sign 82 = .ok (.if_icmp .ne 6, 3) := by decide +kernel
theorem dX4_sign_85 : decode cX4_sign 85 = .ok (.bipush (-9), 2) := by decide +kernel
theorem dX4_sign_87 : decode cX4_sign 87 = .ok (.ireturn, 1) := by decide +kernel
theorem dX4_sign_88 : decode cX4_sign 88 = .ok (.iload_n 2, 1) := by decide +kernel
theorem dX4_sign_89 : decode cX4_sign 89 = .ok (.ifCond .ne 8, 3) := by decide +kernel
theorem dX4_sign_92 : decode cX4_sign 92 = .ok (.iload 5, 2) := by decide +kernel
theorem dX4_sign_94 : decode cX4_sign 94 = .ok (.goto 5, 3) := by decide +kernel
theorem dX4_sign_97 : decode cX4_sign 97 = .ok (.iload 4, 2) := by decide +kernel
theorem dX4_sign_99 : decode cX4_sign 99 = .ok (.ireturn, 1) := by decide +kernel
set_option maxRecDepth 20000 in
theorem ggX4_turners_X3_points : GoodIn wsX4_turners wsX3_points := goodIn_r _ [7, 8, 9, 10, 6, 11, 12, 13, 14, 15, 16, 17, 18, 19, 20, 21, 22, 23, 24, 25, 26, 27, 28, 29, 30, 31, 32, 33, 34, 35, 36, 37, 38, 39, 40, 41, 42, 43, 44, 45, 46, 47, 48, 49, 81, 82, 83, 84, 85, 86, 87, 88, 89, 90, 91, 92] (by decide +kernel) (by decide +kernel)
set_option maxRecDepth 20000 in
theorem gX4_turners_X3_points : GoodIn wsX4_turners (wsV RX4 129 RX3 yX3_points wsX3_points) := goodIn_app (goodIn_of _ (by decide +kernel)) ggX4_turners_X3_points
set_option maxRecDepth 20000 in
theorem ggX4_turners_X3_isAboard : GoodIn wsX4_turners wsX3_isAboard := goodIn_r _ [22, 23, 81, 82, 83, 84, 85, 86, 87, 88, 89, 90, 91, 92] (by decide +kernel) (by decide +kernel)
set_option maxRecDepth 20000 in
theorem gX4_turners_X3_isAboard : GoodIn wsX4_turners (wsV RX4 98 RX3 yX3_isAboard wsX3_isAboard) := goodIn_app (goodIn_of _ (by decide +kernel)) ggX4_turners_X3_isAboard
set_option maxRecDepth 20000 in
theorem ggX4_turners_X4_think : GoodIn wsX4_turners wsX4_think := goodIn_r _ [55, 2, 1, 56, 57, 58, 6, 59, 60, 14, 23, 30, 61, 28, 62, 63, 64, 65, 40, 41, 29, 39, 70, 71, 72, 73, 74, 75, 76, 77, 78, 79, 80, 81, 82, 83, 84, 85, 86, 87, 88, 89, 90, 91, 92] (by decide +kernel) (by decide +kernel)
set_option maxRecDepth 20000 in
theorem gX4_turners_X4_think : GoodIn wsX4_turners (wsV RX4 132 RX4 yX4_think wsX4_think) := goodIn_app (goodIn_of _ (by decide +kernel)) ggX4_turners_X4_think
set_option maxRecDepth 20000 in
theorem ggX4_turners_X3_leaveAshore : GoodIn wsX4_turners wsX3_leaveAshore := goodIn_r _ [69, 23, 81, 82, 83, 84, 85, 86, 87, 88, 89, 90, 91, 92] (by decide +kernel) (by decide +kernel)
set_option maxRecDepth 20000 in
theorem gX4_turners_X3_leaveAshore : GoodIn wsX4_turners (wsV RX4 157 RX3 yX3_leaveAshore wsX3_leaveAshore) := goodIn_app (goodIn_of _ (by decide +kernel)) ggX4_turners_X3_leaveAshore
theorem dX4_turners_0 : decode cX4_turners 0 = .ok (.aload_n 0, 1) := by decide +kernel
theorem dX4_turners_1 : decode cX4_turners 1 = .ok (.getfield 10, 3) := by decide +kernel
theorem dX4_turners_4 : decode cX4_turners 4 = .ok (.invokevirtual 129, 3) := by decide +kernel
theorem dX4_turners_7 : decode cX4_turners 7 = .ok (.istore_n 1, 1) := by decide +kernel
theorem dX4_turners_8 : decode cX4_turners 8 = .ok (.iconst 0, 1) := by decide +kernel
theorem dX4_turners_9 : decode cX4_turners 9 = .ok (.istore_n 2, 1) := by decide +kernel
theorem dX4_turners_10 : decode cX4_turners 10 = .ok (.iconst 0, 1) := by decide +kernel
theorem dX4_turners_11 : decode cX4_turners 11 = .ok (.istore_n 3, 1) := by decide +kernel
theorem dX4_turners_12 : decode cX4_turners 12 = .ok (.iload_n 3, 1) := by decide +kernel
theorem dX4_turners_13 : decode cX4_turners 13 = .ok (.aload_n 0, 1) := by decide +kernel
theorem dX4_turners_14 : decode cX4_turners 14 = .ok (.getfield 10, 3) := by decide +kernel
theorem dX4_turners_17 : decode cX4_turners 17 = .ok (.getfield 154, 3) := by decide +kernel
theorem dX4_turners_20 : decode cX4_turners 20 = .ok (.if_icmp .ge 49, 3) := by decide +kernel
theorem dX4_turners_23 : decode cX4_turners 23 = .ok (.aload_n 0, 1) := by decide +kernel
theorem dX4_turners_24 : decode cX4_turners 24 = .ok (.getfield 10, 3) := by decide +kernel
theorem dX4_turners_27 : decode cX4_turners 27 = .ok (.iload_n 3, 1) := by decide +kernel
theorem dX4_turners_28 : decode cX4_turners 28 = .ok (.invokevirtual 98, 3) := by decide +kernel
theorem dX4_turners_31 : decode cX4_turners 31 = .ok (.ifCond .eq 32, 3) := by decide +kernel
theorem dX4_turners_34 : decode cX4_turners 34 = .ok (.aload_n 0, 1) := by decide +kernel
theorem dX4_turners_35 : decode cX4_turners 35 = .ok (.invokevirtual 132, 3) := by decide +kernel
theorem dX4_turners_38 : decode cX4_turners 38 = .ok (.aload_n 0, 1) := by decide +kernel
theorem dX4_turners_39 : decode cX4_turners 39 = .ok (.getfield 16, 3) := by decide +kernel
theorem dX4_turners_42 : decode cX4_turners 42 = .ok (.iload_n 3, 1) := by decide +kernel
theorem dX4_turners_43 : decode cX4_turners 43 = .ok (.invokevirtual 157, 3) := by decide +kernel
theorem dX4_turners_46 : decode cX4_turners 46 = .ok (.aload_n 0, 1) := by decide +kernel
theorem dX4_turners_47 : decode cX4_turners 47 = .ok (.getfield 16, 3) := by decide +kernel
theorem dX4_turners_50 : decode cX4_turners 50 = .ok (.invokevirtual 129, 3) := by decide +kernel
theorem dX4_turners_53 : decode cX4_turners 53 = .ok (.iload_n 1, 1) := by decide +kernel
theorem dX4_turners_54 : decode cX4_turners 54 = .ok (.if_icmp .eq 9, 3) := by decide +kernel
theorem dX4_turners_57 : decode cX4_turners 57 = .ok (.iload_n 2, 1) := by decide +kernel
theorem dX4_turners_58 : decode cX4_turners 58 = .ok (.iconst 1, 1) := by decide +kernel
theorem dX4_turners_59 : decode cX4_turners 59 = .ok (.iload_n 3, 1) := by decide +kernel
theorem dX4_turners_60 : decode cX4_turners 60 = .ok (.ishl, 1) := by decide +kernel
theorem dX4_turners_61 : decode cX4_turners 61 = .ok (.ior, 1) := by decide +kernel
theorem dX4_turners_62 : decode cX4_turners 62 = .ok (.istore_n 2, 1) := by decide +kernel
theorem dX4_turners_63 : decode cX4_turners 63 = .ok (.iinc 3 1, 3) := by decide +kernel
theorem dX4_turners_66 : decode cX4_turners 66 = .ok (.goto (-54), 3) := by decide +kernel
theorem dX4_turners_69 : decode cX4_turners 69 = .ok (.iload_n 2, 1) := by decide +kernel
theorem dX4_turners_70 : decode cX4_turners 70 = .ok (.ireturn, 1) := by decide +kernel
set_option maxRecDepth 20000 in
theorem ggX4_pull_X4_noWhat : GoodIn wsX4_pull wsX4_noWhat := goodIn_r _ [5] (by decide +kernel) (by decide +kernel)
set_option maxRecDepth 20000 in
theorem gX4_pull_X4_noWhat : GoodIn wsX4_pull (va_wsS RX4 83 yX4_noWhat wsX4_noWhat) := goodIn_app (goodIn_of _ (by decide +kernel)) ggX4_pull_X4_noWhat
set_option maxRecDepth 20000 in
theorem ggX4_pull_X4_refuseSigned : GoodIn wsX4_pull wsX4_refuseSigned := goodIn_r _ [9, 10, 11, 12, 13, 4, 14, 15, 55, 56, 57, 58, 59, 60, 61, 62, 63, 64, 65] (by decide +kernel) (by decide +kernel)
set_option maxRecDepth 20000 in
theorem gX4_pull_X4_refuseSigned : GoodIn wsX4_pull (wsV RX4 108 RX4 yX4_refuseSigned wsX4_refuseSigned) := goodIn_app (goodIn_of _ (by decide +kernel)) ggX4_pull_X4_refuseSigned
set_option maxRecDepth 20000 in
theorem ggX4_pull_X3_weigh : GoodIn wsX4_pull wsX3_weigh := goodIn_r _ [20, 21, 22, 23, 24, 25, 26, 27, 28, 29, 30, 19, 31, 32, 33, 34, 35, 36, 37, 38, 39, 40, 41, 42, 43, 44, 45, 46, 47, 48, 49, 50, 51, 52, 53, 54, 66, 67, 68, 69, 70, 71, 72, 73, 74, 75, 76, 77] (by decide +kernel) (by decide +kernel)
set_option maxRecDepth 20000 in
theorem gX4_pull_X3_weigh : GoodIn wsX4_pull (wsV RX4 163 RX3 yX3_weigh wsX3_weigh) := goodIn_app (goodIn_of _ (by decide +kernel)) ggX4_pull_X3_weigh
theorem dX4_pull_0 : decode cX4_pull 0 = .ok (.iload_n 1, 1) := by decide +kernel
theorem dX4_pull_1 : decode cX4_pull 1 = .ok (.iconst 2, 1) := by decide +kernel
theorem dX4_pull_2 : decode cX4_pull 2 = .ok (.invokestatic 83, 3) := by decide +kernel
theorem dX4_pull_5 : decode cX4_pull 5 = .ok (.istore_n 2, 1) := by decide +kernel
theorem dX4_pull_6 : decode cX4_pull 6 = .ok (.iload_n 2, 1) := by decide +kernel
theorem dX4_pull_7 : decode cX4_pull 7 = .ok (.ifCond .eq 9, 3) := by decide +kernel
theorem dX4_pull_10 : decode cX4_pull 10 = .ok (.aload_n 0, 1) := by decide +kernel
theorem dX4_pull_11 : decode cX4_pull 11 = .ok (.iload_n 2, 1) := by decide +kernel
theorem dX4_pull_12 : decode cX4_pull 12 = .ok (.invokevirtual 108, 3) := by decide +kernel
theorem dX4_pull_15 : decode cX4_pull 15 = .ok (.ireturn, 1) := by decide +kernel
theorem dX4_pull_16 : decode cX4_pull 16 = .ok (.aload_n 0, 1) := by decide +kernel
theorem dX4_pull_17 : decode cX4_pull 17 = .ok (.getfield 10, 3) := by decide +kernel
theorem dX4_pull_20 : decode cX4_pull 20 = .ok (.invokevirtual 163, 3) := by decide +kernel
theorem dX4_pull_23 : decode cX4_pull 23 = .ok (.iload_n 1, 1) := by decide +kernel
theorem dX4_pull_24 : decode cX4_pull 24 = .ok (.ifCond .ne 13, 3) := by decide +kernel
theorem dX4_pull_27 : decode cX4_pull 27 = .ok (.aload_n 0, 1) := by decide +kernel
theorem dX4_pull_28 : decode cX4_pull 28 = .ok (.getfield 10, 3) := by decide +kernel
theorem dX4_pull_31 : decode cX4_pull 31 = .ok (.getfield 166, 3) := by decide +kernel
theorem dX4_pull_34 : decode cX4_pull 34 = .ok (.goto 10, 3) := by decide +kernel
theorem dX4_pull_37 : decode cX4_pull 37 = .ok (.aload_n 0, 1) := by decide +kernel
theorem dX4_pull_38 : decode cX4_pull 38 = .ok (.getfield 10, 3) := by decide +kernel
theorem dX4_pull_41 : decode cX4_pull 41 = .ok (.getfield 169, 3) := by decide +kernel
theorem dX4_pull_44 : decode cX4_pull 44 = .ok (.ireturn, 1) := by decide +kernel
set_option maxRecDepth 20000 in
theorem ggX4_strongest_X3_leanNow : GoodIn wsX4_strongest wsX3_leanNow := goodIn_r _ [10, 11, 12, 13, 14, 9, 15, 16, 17, 18, 19, 20, 2, 3, 4, 5, 21, 22, 23, 24, 25, 26, 27, 28, 29, 30, 31, 32, 33, 50, 51, 52, 53, 54, 55, 56, 57, 58, 59, 60, 61] (by decide +kernel) (by decide +kernel)
set_option maxRecDepth 20000 in
theorem gX4_strongest_X3_leanNow : GoodIn wsX4_strongest (wsV RX4 111 RX3 yX3_leanNow wsX3_leanNow) := goodIn_app (goodIn_of _ (by decide +kernel)) ggX4_strongest_X3_leanNow
set_option maxRecDepth 20000 in
theorem ggX4_strongest_X3_isAboard : GoodIn wsX4_strongest wsX3_isAboard := goodIn_r _ [37, 38, 50, 51, 52, 53, 54, 55, 56, 57, 58, 59, 60, 61] (by decide +kernel) (by decide +kernel)
set_option maxRecDepth 20000 in
theorem gX4_strongest_X3_isAboard : GoodIn wsX4_strongest (wsV RX4 98 RX3 yX3_isAboard wsX3_isAboard) := goodIn_app (goodIn_of _ (by decide +kernel)) ggX4_strongest_X3_isAboard
theorem dX4_strongest_0 : decode cX4_strongest 0 = .ok (.iconst (-1), 1) := by decide +kernel
theorem dX4_strongest_1 : decode cX4_strongest 1 = .ok (.istore_n 1, 1) := by decide +kernel
theorem dX4_strongest_2 : decode cX4_strongest 2 = .ok (.bipush (-9), 2) := by decide +kernel
theorem dX4_strongest_4 : decode cX4_strongest 4 = .ok (.istore_n 2, 1) := by decide +kernel
theorem dX4_strongest_5 : decode cX4_strongest 5 = .ok (.iconst 0, 1) := by decide +kernel
theorem dX4_strongest_6 : decode cX4_strongest 6 = .ok (.istore_n 3, 1) := by decide +kernel
theorem dX4_strongest_7 : decode cX4_strongest 7 = .ok (.iload_n 3, 1) := by decide +kernel
theorem dX4_strongest_8 : decode cX4_strongest 8 = .ok (.aload_n 0, 1) := by decide +kernel
theorem dX4_strongest_9 : decode cX4_strongest 9 = .ok (.getfield 10, 3) := by decide +kernel
theorem dX4_strongest_12 : decode cX4_strongest 12 = .ok (.getfield 154, 3) := by decide +kernel
theorem dX4_strongest_15 : decode cX4_strongest 15 = .ok (.if_icmp .ge 44, 3) := by decide +kernel
theorem dX4_strongest_18 : decode cX4_strongest 18 = .ok (.aload_n 0, 1) := by decide +kernel
theorem dX4_strongest_19 : decode cX4_strongest 19 = .ok (.getfield 10, 3) := by decide +kernel
theorem dX4_strongest_22 : decode cX4_strongest 22 = .ok (.iload_n 3, 1) := by decide +kernel
theorem dX4_strongest_23 : decode cX4_strongest 23 = .ok (.invokevirtual 111, 3) := by decide +kernel
theorem dX4_strongest_26 : decode cX4_strongest 26 = .ok (.invokestatic 172, 3) := by decide +kernel
theorem dX4_strongest_29 : decode cX4_strongest 29 = .ok (.istore 4, 2) := by decide +kernel
theorem dX4_strongest_31 : decode cX4_strongest 31 = .ok (.aload_n 0, 1) := by decide +kernel
theorem dX4_strongest_32 : decode cX4_strongest 32 = .ok (.getfield 10, 3) := by decide +kernel
theorem dX4_strongest_35 : decode cX4_strongest 35 = .ok (.iload_n 3, 1) := by decide +kernel
theorem dX4_strongest_36 : decode cX4_strongest 36 = .ok (.invokevirtual 98, 3) := by decide +kernel
theorem dX4_strongest_39 : decode cX4_strongest 39 = .ok (.ifCond .eq 14, 3) := by decide +kernel
theorem dX4_strongest_42 : decode cX4_strongest 42 = .ok (.iload 4, 2) := by decide +kernel
theorem dX4_strongest_44 : decode cX4_strongest 44 = .ok (.iload_n 1, 1) := by decide +kernel
theorem dX4_strongest_45 : decode cX4_strongest 45 = .ok (.if_icmp .le 8, 3) := by decide +kernel
theorem dX4_strongest_48 : decode cX4_strongest 48 = .ok (.iload 4, 2) := by decide +kernel
theorem dX4_strongest_50 : decode cX4_strongest 50 = .ok (.istore_n 1, 1) := by decide +kernel
theorem dX4_strongest_51 : decode cX4_strongest 51 = .ok (.iload_n 3, 1) := by decide +kernel
theorem dX4_strongest_52 : decode cX4_strongest 52 = .ok (.istore_n 2, 1) := by decide +kernel
theorem dX4_strongest_53 : decode cX4_strongest 53 = .ok (.iinc 3 1, 3) := by decide +kernel
theorem dX4_strongest_56 : decode cX4_strongest 56 = .ok (.goto (-49), 3) := by decide +kernel
theorem dX4_strongest_59 : decode cX4_strongest 59 = .ok (.iload_n 2, 1) := by decide +kernel
theorem dX4_strongest_60 : decode cX4_strongest 60 = .ok (.ireturn, 1) := by decide +kernel
set_option maxRecDepth 20000 in
theorem ggX4_missed_X4_noWhat : GoodIn wsX4_missed wsX4_noWhat := goodIn_r _ [5] (by decide +kernel) (by decide +kernel)
set_option maxRecDepth 20000 in
theorem gX4_missed_X4_noWhat : GoodIn wsX4_missed (va_wsS RX4 83 yX4_noWhat wsX4_noWhat) := goodIn_app (goodIn_of _ (by decide +kernel)) ggX4_missed_X4_noWhat
set_option maxRecDepth 20000 in
theorem ggX4_missed_X4_refuseSigned : GoodIn wsX4_missed wsX4_refuseSigned := goodIn_r _ [9, 10, 11, 12, 13, 4, 14, 15, 57, 58, 59, 60, 61, 62, 63, 64, 65, 66, 67] (by decide +kernel) (by decide +kernel)
set_option maxRecDepth 20000 in
theorem gX4_missed_X4_refuseSigned : GoodIn wsX4_missed (wsV RX4 108 RX4 yX4_refuseSigned wsX4_refuseSigned) := goodIn_app (goodIn_of _ (by decide +kernel)) ggX4_missed_X4_refuseSigned
set_option maxRecDepth 20000 in
theorem ggX4_missed_X3_leansTogether : GoodIn wsX4_missed wsX3_leansTogether := goodIn_r _ [20, 21, 22, 23, 24, 25, 19, 26, 27, 28, 29, 30, 31, 32, 33, 34, 35, 36, 37, 38, 4, 39, 40, 41, 42, 43, 44, 45, 46, 47, 48, 49, 50, 51, 52, 53, 54, 55, 56, 68, 69, 70, 71, 72, 73, 74, 75, 76, 77, 78, 79] (by decide +kernel) (by decide +kernel)
set_option maxRecDepth 20000 in
theorem gX4_missed_X3_leansTogether : GoodIn wsX4_missed (wsV RX4 180 RX3 yX3_leansTogether wsX3_leansTogether) := goodIn_app (goodIn_of _ (by decide +kernel)) ggX4_missed_X3_leansTogether
theorem dX4_missed_0 : decode cX4_missed 0 = .ok (.iload_n 1, 1) := by decide +kernel
theorem dX4_missed_1 : decode cX4_missed 1 = .ok (.iconst 2, 1) := by decide +kernel
theorem dX4_missed_2 : decode cX4_missed 2 = .ok (.invokestatic 83, 3) := by decide +kernel
theorem dX4_missed_5 : decode cX4_missed 5 = .ok (.istore_n 2, 1) := by decide +kernel
theorem dX4_missed_6 : decode cX4_missed 6 = .ok (.iload_n 2, 1) := by decide +kernel
theorem dX4_missed_7 : decode cX4_missed 7 = .ok (.ifCond .eq 9, 3) := by decide +kernel
theorem dX4_missed_10 : decode cX4_missed 10 = .ok (.aload_n 0, 1) := by decide +kernel
theorem dX4_missed_11 : decode cX4_missed 11 = .ok (.iload_n 2, 1) := by decide +kernel
theorem dX4_missed_12 : decode cX4_missed 12 = .ok (.invokevirtual 108, 3) := by decide +kernel
theorem dX4_missed_15 : decode cX4_missed 15 = .ok (.ireturn, 1) := by decide +kernel
theorem dX4_missed_16 : decode cX4_missed 16 = .ok (.aload_n 0, 1) := by decide +kernel
theorem dX4_missed_17 : decode cX4_missed 17 = .ok (.getfield 10, 3) := by decide +kernel
theorem dX4_missed_20 : decode cX4_missed 20 = .ok (.getfield 177, 3) := by decide +kernel
theorem dX4_missed_23 : decode cX4_missed 23 = .ok (.ifCond .ne 14, 3) := by decide +kernel
theorem dX4_missed_26 : decode cX4_missed 26 = .ok (.iload_n 1, 1) := by decide +kernel
theorem dX4_missed_27 : decode cX4_missed 27 = .ok (.ifCond .ne 8, 3) := by decide +kernel
theorem dX4_missed_30 : decode cX4_missed 30 = .ok (.bipush (-9), 2) := by decide +kernel
theorem dX4_missed_32 : decode cX4_missed 32 = .ok (.goto 4, 3) := by decide +kernel
theorem dX4_missed_35 : decode cX4_missed 35 = .ok (.iconst 0, 1) := by decide +kernel
theorem dX4_missed_36 : decode cX4_missed 36 = .ok (.ireturn, 1) := by decide +kernel
theorem dX4_missed_37 : decode cX4_missed 37 = .ok (.iconst 0, 1) := by decide +kernel
theorem dX4_missed_38 : decode cX4_missed 38 = .ok (.istore_n 3, 1) := by decide +kernel
theorem dX4_missed_39 : decode cX4_missed 39 = .ok (.aload_n 0, 1) := by decide +kernel
theorem dX4_missed_40 : decode cX4_missed 40 = .ok (.getfield 10, 3) := by decide +kernel
theorem dX4_missed_43 : decode cX4_missed 43 = .ok (.iconst 0, 1) := by decide +kernel
theorem dX4_missed_44 : decode cX4_missed 44 = .ok (.invokevirtual 180, 3) := by decide +kernel
theorem dX4_missed_47 : decode cX4_missed 47 = .ok (.istore 4, 2) := by decide +kernel
theorem dX4_missed_49 : decode cX4_missed 49 = .ok (.iconst 1, 1) := by decide +kernel
theorem dX4_missed_50 : decode cX4_missed 50 = .ok (.istore 5, 2) := by decide +kernel
theorem dX4_missed_52 : decode cX4_missed 52 = .ok (.iload 5, 2) := by decide +kernel
theorem dX4_missed_54 : decode cX4_missed 54 = .ok (.aload_n 0, 1) := by decide +kernel
theorem dX4_missed_55 : decode cX4_missed 55 = .ok (.getfield 10, 3) := by decide +kernel
theorem dX4_missed_58 : decode cX4_missed 58 = .ok (.getfield 177, 3) := by decide +kernel
theorem dX4_missed_61 : decode cX4_missed 61 = .ok (.if_icmp .ge 34, 3) := by decide +kernel
theorem dX4_missed_64 : decode cX4_missed 64 = .ok (.aload_n 0, 1) := by decide +kernel
theorem dX4_missed_65 : decode cX4_missed 65 = .ok (.getfield 10, 3) := by decide +kernel
theorem dX4_missed_68 : decode cX4_missed 68 = .ok (.iload 5, 2) := by decide +kernel
theorem dX4_missed_70 : decode cX4_missed 70 = .ok (.invokevirtual 180, 3) := by decide +kernel
theorem dX4_missed_73 : decode cX4_missed 73 = .ok (.istore 6, 2) := by decide +kernel
theorem dX4_missed_75 : decode cX4_missed 75 = .ok (.iload 6, 2) := by decide +kernel
theorem dX4_missed_77 : decode cX4_missed 77 = .ok (.iload 4, 2) := by decide +kernel
theorem dX4_missed_79 : decode cX4_missed 79 = .ok (.if_icmp .le 10, 3) := by decide +kernel
theorem dX4_missed_82 : decode cX4_missed 82 = .ok (.iload 6, 2) := by decide +kernel
theorem dX4_missed_84 : decode cX4_missed 84 = .ok (.istore 4, 2) := by decide +kernel
theorem dX4_missed_86 : decode cX4_missed 86 = .ok (.iload 5, 2) := by decide +kernel
theorem dX4_missed_88 : decode cX4_missed 88 = .ok (.istore_n 3, 1) := by decide +kernel
theorem dX4_missed_89 : decode cX4_missed 89 = .ok (.iinc 5 1, 3) := by decide +kernel
theorem dX4_missed_92 : decode cX4_missed 92 = .ok (.goto (-40), 3) := by decide +kernel
theorem dX4_missed_95 : decode cX4_missed 95 = .ok (.iload_n 1, 1) := by decide +kernel
theorem dX4_missed_96 : decode cX4_missed 96 = .ok (.ifCond .ne 7, 3) := by decide +kernel
theorem dX4_missed_99 : decode cX4_missed 99 = .ok (.iload_n 3, 1) := by decide +kernel
theorem dX4_missed_100 : decode cX4_missed 100 = .ok (.goto 5, 3) := by decide +kernel
theorem dX4_missed_103 : decode cX4_missed 103 = .ok (.iload 4, 2) := by decide +kernel
theorem dX4_missed_105 : decode cX4_missed 105 = .ok (.ireturn, 1) := by decide +kernel
set_option maxRecDepth 20000 in
theorem ggX4_opposed_X3_isAboard : GoodIn wsX4_opposed wsX3_isAboard := goodIn_r _ [6, 7, 34, 35, 36, 37, 38, 39, 40, 41, 42, 43, 44, 45] (by decide +kernel) (by decide +kernel)
set_option maxRecDepth 20000 in
theorem gX4_opposed_X3_isAboard : GoodIn wsX4_opposed (wsV RX4 98 RX3 yX3_isAboard wsX3_isAboard) := goodIn_app (goodIn_of _ (by decide +kernel)) ggX4_opposed_X3_isAboard
set_option maxRecDepth 20000 in
theorem ggX4_opposed_X3_areOpposed : GoodIn wsX4_opposed wsX3_areOpposed := goodIn_r _ [11, 12, 13, 14, 5, 15, 16, 17, 18, 19, 20, 21, 22, 34, 35, 36, 37, 38, 39, 40, 41, 42, 43, 44, 45] (by decide +kernel) (by decide +kernel)
set_option maxRecDepth 20000 in
theorem gX4_opposed_X3_areOpposed : GoodIn wsX4_opposed (wsV RX4 183 RX3 yX3_areOpposed wsX3_areOpposed) := goodIn_app (goodIn_of _ (by decide +kernel)) ggX4_opposed_X3_areOpposed
theorem dX4_opposed_0 : decode cX4_opposed 0 = .ok (.iconst 0, 1) := by decide +kernel
theorem dX4_opposed_1 : decode cX4_opposed 1 = .ok (.istore_n 1, 1) := by decide +kernel
theorem dX4_opposed_2 : decode cX4_opposed 2 = .ok (.iconst 0, 1) := by decide +kernel
theorem dX4_opposed_3 : decode cX4_opposed 3 = .ok (.istore_n 2, 1) := by decide +kernel
theorem dX4_opposed_4 : decode cX4_opposed 4 = .ok (.iload_n 2, 1) := by decide +kernel
theorem dX4_opposed_5 : decode cX4_opposed 5 = .ok (.aload_n 0, 1) := by decide +kernel
theorem dX4_opposed_6 : decode cX4_opposed 6 = .ok (.getfield 10, 3) := by decide +kernel
theorem dX4_opposed_9 : decode cX4_opposed 9 = .ok (.getfield 154, 3) := by decide +kernel
theorem dX4_opposed_12 : decode cX4_opposed 12 = .ok (.if_icmp .ge 67, 3) := by decide +kernel
theorem dX4_opposed_15 : decode cX4_opposed 15 = .ok (.iload_n 2, 1) := by decide +kernel
theorem dX4_opposed_16 : decode cX4_opposed 16 = .ok (.iconst 1, 1) := by decide +kernel
theorem dX4_opposed_17 : decode cX4_opposed 17 = .ok (.iadd, 1) := by decide +kernel
theorem dX4_opposed_18 : decode cX4_opposed 18 = .ok (.istore_n 3, 1) := by decide +kernel
theorem dX4_opposed_19 : decode cX4_opposed 19 = .ok (.iload_n 3, 1) := by decide +kernel
theorem dX4_opposed_20 : decode cX4_opposed 20 = .ok (.aload_n 0, 1) := by decide +kernel
theorem dX4_opposed_21 : decode cX4_opposed 21 = .ok (.getfield 10, 3) := by decide +kernel
theorem dX4_opposed_24 : decode cX4_opposed 24 = .ok (.getfield 154, 3) := by decide +kernel
theorem dX4_opposed_27 : decode cX4_opposed 27 = .ok (.if_icmp .ge 46, 3) := by decide +kernel
theorem dX4_opposed_30 : decode cX4_opposed 30 = .ok (.aload_n 0, 1) := by decide +kernel
theorem dX4_opposed_31 : decode cX4_opposed 31 = .ok (.getfield 10, 3) := by decide +kernel
theorem dX4_opposed_34 : decode cX4_opposed 34 = .ok (.iload_n 2, 1) := by decide +kernel
theorem dX4_opposed_35 : decode cX4_opposed 35 = .ok (.invokevirtual 98, 3) := by decide +kernel
theorem dX4_opposed_38 : decode cX4_opposed 38 = .ok (.ifCond .eq 29, 3) := by decide +kernel
theorem dX4_opposed_41 : decode cX4_opposed 41 = .ok (.aload_n 0, 1) := by decide +kernel
theorem dX4_opposed_42 : decode cX4_opposed 42 = .ok (.getfield 10, 3) := by decide +kernel
theorem dX4_opposed_45 : decode cX4_opposed 45 = .ok (.iload_n 3, 1) := by decide +kernel
theorem dX4_opposed_46 : decode cX4_opposed 46 = .ok (.invokevirtual 98, 3) := by decide +kernel
theorem dX4_opposed_49 : decode cX4_opposed 49 = .ok (.ifCond .eq 18, 3) := by decide +kernel
theorem dX4_opposed_52 : decode cX4_opposed 52 = .ok (.aload_n 0, 1) := by decide +kernel
theorem dX4_opposed_53 : decode cX4_opposed 53 = .ok (.getfield 10, 3) := by decide +kernel
theorem dX4_opposed_56 : decode cX4_opposed 56 = .ok (.iload_n 2, 1) := by decide +kernel
theorem dX4_opposed_57 : decode cX4_opposed 57 = .ok (.iload_n 3, 1) := by decide +kernel
theorem dX4_opposed_58 : decode cX4_opposed 58 = .ok (.invokevirtual 183, 3) := by decide +kernel
theorem dX4_opposed_61 : decode cX4_opposed 61 = .ok (.ifCond .eq 6, 3) := by decide +kernel
theorem dX4_opposed_64 : decode cX4_opposed 64 = .ok (.iinc 1 1, 3) := by decide +kernel
theorem dX4_opposed_67 : decode cX4_opposed 67 = .ok (.iinc 3 1, 3) := by decide +kernel
theorem dX4_opposed_70 : decode cX4_opposed 70 = .ok (.goto (-51), 3) := by decide +kernel
theorem dX4_opposed_73 : decode cX4_opposed 73 = .ok (.iinc 2 1, 3) := by decide +kernel
theorem dX4_opposed_76 : decode cX4_opposed 76 = .ok (.goto (-72), 3) := by decide +kernel
theorem dX4_opposed_79 : decode cX4_opposed 79 = .ok (.iload_n 1, 1) := by decide +kernel
theorem dX4_opposed_80 : decode cX4_opposed 80 = .ok (.ireturn, 1) := by decide +kernel
set_option maxRecDepth 20000 in
theorem ggX4_home_X4_noHand : GoodIn wsX4_home wsX4_noHand := goodIn_r _ [6, 1, 31, 32, 33, 34, 35, 36, 37, 38, 39, 40, 41, 42, 43, 44, 45, 46, 47, 48, 49, 50, 51, 52, 53] (by decide +kernel) (by decide +kernel)
set_option maxRecDepth 20000 in
theorem gX4_home_X4_noHand : GoodIn wsX4_home (wsV RX4 80 RX4 yX4_noHand wsX4_noHand) := goodIn_app (goodIn_of _ (by decide +kernel)) ggX4_home_X4_noHand
set_option maxRecDepth 20000 in
theorem ggX4_home_X4_refuse : GoodIn wsX4_home wsX4_refuse := goodIn_r _ [10, 11, 31, 32, 33, 34, 35, 36, 37, 38, 39, 40, 41] (by decide +kernel) (by decide +kernel)
set_option maxRecDepth 20000 in
theorem gX4_home_X4_refuse : GoodIn wsX4_home (wsV RX4 65 RX4 yX4_refuse wsX4_refuse) := goodIn_app (goodIn_of _ (by decide +kernel)) ggX4_home_X4_refuse
set_option maxRecDepth 20000 in
theorem ggX4_home_X3_stepsTo : GoodIn wsX4_home wsX3_stepsTo := goodIn_r _ [16, 17, 18, 19, 5, 20, 21, 22, 23, 24, 25, 26, 27, 28, 29, 30, 42, 43, 44, 45, 46, 47, 48, 49, 50, 51, 52, 53] (by decide +kernel) (by decide +kernel)
set_option maxRecDepth 20000 in
theorem gX4_home_X3_stepsTo : GoodIn wsX4_home (wsV RX4 187 RX3 yX3_stepsTo wsX3_stepsTo) := goodIn_app (goodIn_of _ (by decide +kernel)) ggX4_home_X3_stepsTo
theorem dX4_home_0 : decode cX4_home 0 = .ok (.aload_n 0, 1) := by decide +kernel
theorem dX4_home_1 : decode cX4_home 1 = .ok (.iload_n 1, 1) := by decide +kernel
theorem dX4_home_2 : decode cX4_home 2 = .ok (.invokevirtual 80, 3) := by decide +kernel
theorem dX4_home_5 : decode cX4_home 5 = .ok (.istore_n 2, 1) := by decide +kernel
theorem dX4_home_6 : decode cX4_home 6 = .ok (.iload_n 2, 1) := by decide +kernel
theorem dX4_home_7 : decode cX4_home 7 = .ok (.ifCond .eq 11, 3) := by decide +kernel
theorem dX4_home_10 : decode cX4_home 10 = .ok (.aload_n 0, 1) := by decide +kernel
theorem dX4_home_11 : decode cX4_home 11 = .ok (.iload_n 2, 1) := by decide +kernel
theorem dX4_home_12 : decode cX4_home 12 = .ok (.invokevirtual 65, 3) := by decide +kernel
theorem dX4_home_15 : decode cX4_home 15 = .ok (.goto 19, 3) := by decide +kernel
theorem dX4_home_18 : decode cX4_home 18 = .ok (.aload_n 0, 1) := by decide +kernel
theorem dX4_home_19 : decode cX4_home 19 = .ok (.getfield 10, 3) := by decide +kernel
theorem dX4_home_22 : decode cX4_home 22 = .ok (.aload_n 0, 1) := by decide +kernel
theorem dX4_home_23 : decode cX4_home 23 = .ok (.getfield 10, 3) := by decide +kernel
theorem dX4_home_26 : decode cX4_home 26 = .ok (.getfield 92, 3) := by decide +kernel
theorem dX4_home_29 : decode cX4_home 29 = .ok (.iload_n 1, 1) := by decide +kernel
theorem dX4_home_30 : decode cX4_home 30 = .ok (.iaload, 1) := by decide +kernel
theorem dX4_home_31 : decode cX4_home 31 = .ok (.invokevirtual 187, 3) := by decide +kernel
theorem dX4_home_34 : decode cX4_home 34 = .ok (.ireturn, 1) := by decide +kernel
set_option maxRecDepth 20000 in
theorem ggX4_nearest_X3_stepsTo : GoodIn wsX4_nearest wsX3_stepsTo := goodIn_r _ [6, 7, 8, 9, 10, 11, 12, 13, 14, 15, 16, 17, 18, 19, 20, 21, 33, 34, 35, 36, 37, 38, 39, 40, 41, 42, 43, 44] (by decide +kernel) (by decide +kernel)
set_option maxRecDepth 20000 in
theorem gX4_nearest_X3_stepsTo : GoodIn wsX4_nearest (wsV RX4 187 RX3 yX3_stepsTo wsX3_stepsTo) := goodIn_app (goodIn_of _ (by decide +kernel)) ggX4_nearest_X3_stepsTo
theorem dX4_nearest_0 : decode cX4_nearest 0 = .ok (.bipush (-9), 2) := by decide +kernel
theorem dX4_nearest_2 : decode cX4_nearest 2 = .ok (.istore_n 1, 1) := by decide +kernel
theorem dX4_nearest_3 : decode cX4_nearest 3 = .ok (.bipush 64, 2) := by decide +kernel
theorem dX4_nearest_5 : decode cX4_nearest 5 = .ok (.istore_n 2, 1) := by decide +kernel
theorem dX4_nearest_6 : decode cX4_nearest 6 = .ok (.iconst 0, 1) := by decide +kernel
theorem dX4_nearest_7 : decode cX4_nearest 7 = .ok (.istore_n 3, 1) := by decide +kernel
theorem dX4_nearest_8 : decode cX4_nearest 8 = .ok (.iload_n 3, 1) := by decide +kernel
theorem dX4_nearest_9 : decode cX4_nearest 9 = .ok (.aload_n 0, 1) := by decide +kernel
theorem dX4_nearest_10 : decode cX4_nearest 10 = .ok (.getfield 10, 3) := by decide +kernel
theorem dX4_nearest_13 : decode cX4_nearest 13 = .ok (.getfield 177, 3) := by decide +kernel
theorem dX4_nearest_16 : decode cX4_nearest 16 = .ok (.if_icmp .ge 30, 3) := by decide +kernel
theorem dX4_nearest_19 : decode cX4_nearest 19 = .ok (.aload_n 0, 1) := by decide +kernel
theorem dX4_nearest_20 : decode cX4_nearest 20 = .ok (.getfield 10, 3) := by decide +kernel
theorem dX4_nearest_23 : decode cX4_nearest 23 = .ok (.iload_n 3, 1) := by decide +kernel
theorem dX4_nearest_24 : decode cX4_nearest 24 = .ok (.invokevirtual 187, 3) := by decide +kernel
theorem dX4_nearest_27 : decode cX4_nearest 27 = .ok (.istore 4, 2) := by decide +kernel
theorem dX4_nearest_29 : decode cX4_nearest 29 = .ok (.iload 4, 2) := by decide +kernel
theorem dX4_nearest_31 : decode cX4_nearest 31 = .ok (.iload_n 2, 1) := by decide +kernel
theorem dX4_nearest_32 : decode cX4_nearest 32 = .ok (.if_icmp .ge 8, 3) := by decide +kernel
theorem dX4_nearest_35 : decode cX4_nearest 35 = .ok (.iload 4, 2) := by decide +kernel
theorem dX4_nearest_37 : decode cX4_nearest 37 = .ok (.istore_n 2, 1) := by decide +kernel
theorem dX4_nearest_38 : decode cX4_nearest 38 = .ok (.iload_n 3, 1) := by decide +kernel
theorem dX4_nearest_39 : decode cX4_nearest 39 = .ok (.istore_n 1, 1) := by decide +kernel
theorem dX4_nearest_40 : decode cX4_nearest 40 = .ok (.iinc 3 1, 3) := by decide +kernel
theorem dX4_nearest_43 : decode cX4_nearest 43 = .ok (.goto (-35), 3) := by decide +kernel
theorem dX4_nearest_46 : decode cX4_nearest 46 = .ok (.iload_n 1, 1) := by decide +kernel
theorem dX4_nearest_47 : decode cX4_nearest 47 = .ok (.ireturn, 1) := by decide +kernel
set_option maxRecDepth 20000 in
theorem ggX4_way_X4_outside : GoodIn wsX4_way wsX4_outside := goodIn_r _ [5, 6, 7, 4, 8, 9, 10, 11, 12, 13, 14] (by decide +kernel) (by decide +kernel)
set_option maxRecDepth 20000 in
theorem gX4_way_X4_outside : GoodIn wsX4_way (va_wsS RX4 53 yX4_outside wsX4_outside) := goodIn_app (goodIn_of _ (by decide +kernel)) ggX4_way_X4_outside
set_option maxRecDepth 20000 in
theorem ggX4_way_X4_refuse : GoodIn wsX4_way wsX4_refuse := goodIn_r _ [18, 19, 104, 105, 106, 107, 108, 109, 110, 111, 112, 113, 114] (by decide +kernel) (by decide +kernel)
set_option maxRecDepth 20000 in
theorem gX4_way_X4_refuse : GoodIn wsX4_way (wsV RX4 65 RX4 yX4_refuse wsX4_refuse) := goodIn_app (goodIn_of _ (by decide +kernel)) ggX4_way_X4_refuse
set_option maxRecDepth 20000 in
theorem ggX4_way_X4_think : GoodIn wsX4_way wsX4_think := goodIn_r _ [23, 1, 24, 25, 26, 27, 28, 29, 30, 31, 32, 33, 34, 35, 36, 37, 38, 39, 40, 41, 42, 43, 104, 105, 106, 107, 108, 109, 110, 111, 112, 113, 114, 115, 116, 117, 118, 119, 120, 121, 122, 123, 124, 125, 126] (by decide +kernel) (by decide +kernel)
set_option maxRecDepth 20000 in
theorem gX4_way_X4_think : GoodIn wsX4_way (wsV RX4 132 RX4 yX4_think wsX4_think) := goodIn_app (goodIn_of _ (by decide +kernel)) ggX4_way_X4_think
set_option maxRecDepth 20000 in
theorem ggX4_way_X3_goDays : GoodIn wsX4_way wsX3_goDays := goodIn_r _ [47, 48, 49, 50, 28, 51, 33, 52, 53, 54, 55, 56, 57, 31, 58, 59, 60, 61, 62, 63, 64, 65, 32, 66, 67, 68, 69, 35, 42, 70, 71, 72, 73, 74, 75, 76, 77, 43, 40, 41, 78, 79, 80, 81, 82, 83, 84, 85, 86, 87, 88, 89, 90, 4, 91, 92, 93, 94, 95, 96, 97, 34, 98, 99, 100, 101, 102, 103, 115, 116, 117, 118, 119, 120, 121, 122, 123, 124, 125, 126] (by decide +kernel) (by decide +kernel)
set_option maxRecDepth 20000 in
theorem gX4_way_X3_goDays : GoodIn wsX4_way (wsV RX4 126 RX3 yX3_goDays wsX3_goDays) := goodIn_app (goodIn_of _ (by decide +kernel)) ggX4_way_X3_goDays
theorem dX4_way_0 : decode cX4_way 0 = .ok (.iload_n 1, 1) := by decide +kernel
theorem dX4_way_1 : decode cX4_way 1 = .ok (.iconst 1, 1) := by decide +kernel
theorem dX4_way_2 : decode cX4_way 2 = .ok (.bipush 60, 2) := by decide +kernel
theorem dX4_way_4 : decode cX4_way 4 = .ok (.invokestatic 53, 3) := by decide +kernel
theorem dX4_way_7 : decode cX4_way 7 = .ok (.istore_n 2, 1) := by decide +kernel
theorem dX4_way_8 : decode cX4_way 8 = .ok (.iload_n 2, 1) := by decide +kernel
theorem dX4_way_9 : decode cX4_way 9 = .ok (.ifCond .eq 9, 3) := by decide +kernel
theorem dX4_way_12 : decode cX4_way 12 = .ok (.aload_n 0, 1) := by decide +kernel
theorem dX4_way_13 : decode cX4_way 13 = .ok (.iload_n 2, 1) := by decide +kernel
theorem dX4_way_14 : decode cX4_way 14 = .ok (.invokevirtual 65, 3) := by decide +kernel
theorem dX4_way_17 : decode cX4_way 17 = .ok (.ireturn, 1) := by decide +kernel
theorem dX4_way_18 : decode cX4_way 18 = .ok (.aload_n 0, 1) := by decide +kernel
theorem dX4_way_19 : decode cX4_way 19 = .ok (.invokevirtual 132, 3) := by decide +kernel
theorem dX4_way_22 : decode cX4_way 22 = .ok (.aload_n 0, 1) := by decide +kernel
theorem dX4_way_23 : decode cX4_way 23 = .ok (.getfield 16, 3) := by decide +kernel
theorem dX4_way_26 : decode cX4_way 26 = .ok (.iload_n 1, 1) := by decide +kernel
theorem dX4_way_27 : decode cX4_way 27 = .ok (.invokevirtual 126, 3) := by decide +kernel
theorem dX4_way_30 : decode cX4_way 30 = .ok (.ireturn, 1) := by decide +kernel
set_option maxRecDepth 20000 in
theorem ggX4_two_X4_noHand : GoodIn wsX4_two wsX4_noHand := goodIn_r _ [6, 7, 131, 132, 133, 134, 135, 136, 137, 138, 139, 140, 141, 142, 143, 144, 145, 146, 147, 148, 149, 150, 151, 152, 153] (by decide +kernel) (by decide +kernel)
set_option maxRecDepth 20000 in
theorem gX4_two_X4_noHand : GoodIn wsX4_two (wsV RX4 80 RX4 yX4_noHand wsX4_noHand) := goodIn_app (goodIn_of _ (by decide +kernel)) ggX4_two_X4_noHand
set_option maxRecDepth 20000 in
theorem ggX4_two_X4_firstOf : GoodIn wsX4_two wsX4_firstOf := goodIn_r _ [10] (by decide +kernel) (by decide +kernel)
set_option maxRecDepth 20000 in
theorem gX4_two_X4_firstOf : GoodIn wsX4_two (va_wsS RX4 61 yX4_firstOf wsX4_firstOf) := goodIn_app (goodIn_of _ (by decide +kernel)) ggX4_two_X4_firstOf
set_option maxRecDepth 20000 in
theorem ggX4_two_X4_outside : GoodIn wsX4_two wsX4_outside := goodIn_r _ [13, 14, 15, 5, 16, 17, 18, 19, 8, 9, 10] (by decide +kernel) (by decide +kernel)
set_option maxRecDepth 20000 in
theorem gX4_two_X4_outside : GoodIn wsX4_two (va_wsS RX4 53 yX4_outside wsX4_outside) := goodIn_app (goodIn_of _ (by decide +kernel)) ggX4_two_X4_outside
set_option maxRecDepth 20000 in
theorem ggX4_two_X4_refuse : GoodIn wsX4_two wsX4_refuse := goodIn_r _ [23, 24, 131, 132, 133, 134, 135, 136, 137, 138, 139, 140, 141] (by decide +kernel) (by decide +kernel)
set_option maxRecDepth 20000 in
theorem gX4_two_X4_refuse : GoodIn wsX4_two (wsV RX4 65 RX4 yX4_refuse wsX4_refuse) := goodIn_app (goodIn_of _ (by decide +kernel)) ggX4_two_X4_refuse
set_option maxRecDepth 20000 in
theorem ggX4_two_X4_endOfBids : GoodIn wsX4_two wsX4_endOfBids := goodIn_r _ [28, 29, 30, 31, 32, 5, 33, 7, 34, 35, 36, 37, 38, 39, 40, 41, 42, 43, 44, 45, 46, 47, 48, 49, 50, 51, 52, 53, 54, 55, 56, 57, 58, 59, 60, 61, 62, 63, 64, 65, 66, 67, 68, 69, 70, 71, 72, 73, 74, 75, 76, 77, 78, 79, 80, 81, 82, 83, 84, 85, 86, 87, 88, 89, 90, 91, 92, 93, 94, 95, 96, 97, 98, 99, 100, 101, 102, 103, 104, 105, 106, 107, 108, 109, 110, 111, 112, 113, 114, 115, 116, 117, 118, 119, 120, 131, 132, 133, 134, 135, 136, 137, 138, 139, 140, 141, 142, 143, 144, 145, 146, 147, 148, 149, 150, 151, 152, 153] (by decide +kernel) (by decide +kernel)
set_option maxRecDepth 20000 in
theorem gX4_two_X4_endOfBids : GoodIn wsX4_two (wsV RX4 190 RX4 yX4_endOfBids wsX4_endOfBids) := goodIn_app (goodIn_of _ (by decide +kernel)) ggX4_two_X4_endOfBids
set_option maxRecDepth 20000 in
theorem ggX4_two_X4_keepsBid : GoodIn wsX4_two wsX4_keepsBid := goodIn_r _ [124, 7, 1, 125, 126, 5, 127, 128, 76, 77, 78, 129, 107, 108, 130, 109, 110, 131, 132, 133, 134, 135, 136, 137, 138, 139, 140, 141, 142, 143, 144, 145, 146, 147, 148, 149, 150, 151, 152, 153] (by decide +kernel) (by decide +kernel)
set_option maxRecDepth 20000 in
theorem gX4_two_X4_keepsBid : GoodIn wsX4_two (wsV RX4 194 RX4 yX4_keepsBid wsX4_keepsBid) := goodIn_app (goodIn_of _ (by decide +kernel)) ggX4_two_X4_keepsBid
theorem dX4_two_0 : decode cX4_two 0 = .ok (.aload_n 0, 1) := by decide +kernel
theorem dX4_two_1 : decode cX4_two 1 = .ok (.iload_n 1, 1) := by decide +kernel
theorem dX4_two_2 : decode cX4_two 2 = .ok (.invokevirtual 80, 3) := by decide +kernel
theorem dX4_two_5 : decode cX4_two 5 = .ok (.aload_n 0, 1) := by decide +kernel
theorem dX4_two_6 : decode cX4_two 6 = .ok (.iload_n 2, 1) := by decide +kernel
theorem dX4_two_7 : decode cX4_two 7 = .ok (.invokevirtual 80, 3) := by decide +kernel
theorem dX4_two_10 : decode cX4_two 10 = .ok (.invokestatic 61, 3) := by decide +kernel
theorem dX4_two_13 : decode cX4_two 13 = .ok (.istore 4, 2) := by decide +kernel
theorem dX4_two_15 : decode cX4_two 15 = .ok (.iload 4, 2) := by decide +kernel
theorem dX4_two_17 : decode cX4_two 17 = .ok (.iload_n 1, 1) := by decide +kernel
theorem dX4_two_18 : decode cX4_two 18 = .ok (.iload_n 2, 1) := by decide +kernel
theorem dX4_two_19 : decode cX4_two 19 = .ok (.if_icmp .ne 7, 3) := by decide +kernel
theorem dX4_two_22 : decode cX4_two 22 = .ok (.iconst (-1), 1) := by decide +kernel
theorem dX4_two_23 : decode cX4_two 23 = .ok (.goto 4, 3) := by decide +kernel
theorem dX4_two_26 : decode cX4_two 26 = .ok (.iconst 0, 1) := by decide +kernel
theorem dX4_two_27 : decode cX4_two 27 = .ok (.invokestatic 61, 3) := by decide +kernel
theorem dX4_two_30 : decode cX4_two 30 = .ok (.istore 4, 2) := by decide +kernel
theorem dX4_two_32 : decode cX4_two 32 = .ok (.iload 4, 2) := by decide +kernel
theorem dX4_two_34 : decode cX4_two 34 = .ok (.iload_n 3, 1) := by decide +kernel
theorem dX4_two_35 : decode cX4_two 35 = .ok (.iconst 0, 1) := by decide +kernel
theorem dX4_two_36 : decode cX4_two 36 = .ok (.bipush 30, 2) := by decide +kernel
theorem dX4_two_38 : decode cX4_two 38 = .ok (.invokestatic 53, 3) := by decide +kernel
theorem dX4_two_41 : decode cX4_two 41 = .ok (.invokestatic 61, 3) := by decide +kernel
theorem dX4_two_44 : decode cX4_two 44 = .ok (.istore 4, 2) := by decide +kernel
theorem dX4_two_46 : decode cX4_two 46 = .ok (.iload 4, 2) := by decide +kernel
theorem dX4_two_48 : decode cX4_two 48 = .ok (.ifCond .eq 10, 3) := by decide +kernel
theorem dX4_two_51 : decode cX4_two 51 = .ok (.aload_n 0, 1) := by decide +kernel
theorem dX4_two_52 : decode cX4_two 52 = .ok (.iload 4, 2) := by decide +kernel
theorem dX4_two_54 : decode cX4_two 54 = .ok (.invokevirtual 65, 3) := by decide +kernel
theorem dX4_two_57 : decode cX4_two 57 = .ok (.ireturn, 1) := by decide +kernel
theorem dX4_two_58 : decode cX4_two 58 = .ok (.iconst 0, 1) := by decide +kernel
theorem dX4_two_59 : decode cX4_two 59 = .ok (.istore 5, 2) := by decide +kernel
theorem dX4_two_61 : decode cX4_two 61 = .ok (.iload 5, 2) := by decide +kernel
theorem dX4_two_63 : decode cX4_two 63 = .ok (.aload_n 0, 1) := by decide +kernel
theorem dX4_two_64 : decode cX4_two 64 = .ok (.getfield 47, 3) := by decide +kernel
theorem dX4_two_67 : decode cX4_two 67 = .ok (.arraylength, 1) := by decide +kernel
theorem dX4_two_68 : decode cX4_two 68 = .ok (.if_icmp .ge 25, 3) := by decide +kernel
theorem dX4_two_71 : decode cX4_two 71 = .ok (.aload_n 0, 1) := by decide +kernel
theorem dX4_two_72 : decode cX4_two 72 = .ok (.getfield 47, 3) := by decide +kernel
theorem dX4_two_75 : decode cX4_two 75 = .ok (.iload 5, 2) := by decide +kernel
theorem dX4_two_77 : decode cX4_two 77 = .ok (.aload_n 0, 1) := by decide +kernel
theorem dX4_two_78 : decode cX4_two 78 = .ok (.iload_n 1, 1) := by decide +kernel
theorem dX4_two_79 : decode cX4_two 79 = .ok (.iload_n 2, 1) := by decide +kernel
theorem dX4_two_80 : decode cX4_two 80 = .ok (.iload 5, 2) := by decide +kernel
theorem dX4_two_82 : decode cX4_two 82 = .ok (.iload_n 3, 1) := by decide +kernel
theorem dX4_two_83 : decode cX4_two 83 = .ok (.invokevirtual 190, 3) := by decide +kernel
theorem dX4_two_86 : decode cX4_two 86 = .ok (.iastore, 1) := by decide +kernel
theorem dX4_two_87 : decode cX4_two 87 = .ok (.iinc 5 1, 3) := by decide +kernel
theorem dX4_two_90 : decode cX4_two 90 = .ok (.goto (-29), 3) := by decide +kernel
theorem dX4_two_93 : decode cX4_two 93 = .ok (.iconst 0, 1) := by decide +kernel
theorem dX4_two_94 : decode cX4_two 94 = .ok (.istore 5, 2) := by decide +kernel
theorem dX4_two_96 : decode cX4_two 96 = .ok (.iload 5, 2) := by decide +kernel
theorem dX4_two_98 : decode cX4_two 98 = .ok (.aload_n 0, 1) := by decide +kernel
theorem dX4_two_99 : decode cX4_two 99 = .ok (.getfield 47, 3) := by decide +kernel
theorem dX4_two_102 : decode cX4_two 102 = .ok (.arraylength, 1) := by decide +kernel
theorem dX4_two_103 : decode cX4_two 103 = .ok (.if_icmp .ge 44, 3) := by decide +kernel
theorem dX4_two_106 : decode cX4_two 106 = .ok (.aload_n 0, 1) := by decide +kernel
theorem dX4_two_107 : decode cX4_two 107 = .ok (.iload_n 1, 1) := by decide +kernel
theorem dX4_two_108 : decode cX4_two 108 = .ok (.iload 5, 2) := by decide +kernel
theorem dX4_two_110 : decode cX4_two 110 = .ok (.iconst 2, 1) := by decide +kernel
theorem dX4_two_111 : decode cX4_two 111 = .ok (.invokevirtual 194, 3) := by decide +kernel
theorem dX4_two_114 : decode cX4_two 114 = .ok (.ifCond .eq 27, 3) := by decide +kernel
theorem dX4_two_117 : decode cX4_two 117 = .ok (.aload_n 0, 1) := by decide +kernel
theorem dX4_two_118 : decode cX4_two 118 = .ok (.iload_n 2, 1) := by decide +kernel
theorem dX4_two_119 : decode cX4_two 119 = .ok (.iload 5, 2) := by decide +kernel
theorem dX4_two_121 : decode cX4_two 121 = .ok (.iconst 1, 1) := by decide +kernel
theorem dX4_two_122 : decode cX4_two 122 = .ok (.invokevirtual 194, 3) := by decide +kernel
theorem dX4_two_125 : decode cX4_two 125 = .ok (.ifCond .eq 16, 3) := by decide +kernel
theorem dX4_two_128 : decode cX4_two 128 = .ok (.bipush 10, 2) := by decide +kernel
theorem dX4_two_130 : decode cX4_two 130 = .ok (.iload 5, 2) := by decide +kernel
theorem dX4_two_132 : decode cX4_two 132 = .ok (.iconst 1, 1) := by decide +kernel
theorem dX4_two_133 : decode cX4_two 133 = .ok (.ishr, 1) := by decide +kernel
theorem dX4_two_134 : decode cX4_two 134 = .ok (.imul, 1) := by decide +kernel
theorem dX4_two_135 : decode cX4_two 135 = .ok (.iload 5, 2) := by decide +kernel
theorem dX4_two_137 : decode cX4_two 137 = .ok (.iconst 1, 1) := by decide +kernel
theorem dX4_two_138 : decode cX4_two 138 = .ok (.iand, 1) := by decide +kernel
theorem dX4_two_139 : decode cX4_two 139 = .ok (.iadd, 1) := by decide +kernel
theorem dX4_two_140 : decode cX4_two 140 = .ok (.ireturn, 1) := by decide +kernel
theorem dX4_two_141 : decode cX4_two 141 = .ok (.iinc 5 1, 3) := by decide +kernel
theorem dX4_two_144 : decode cX4_two 144 = .ok (.goto (-48), 3) := by decide +kernel
theorem dX4_two_147 : decode cX4_two 147 = .ok (.bipush (-9), 2) := by decide +kernel
theorem dX4_two_149 : decode cX4_two 149 = .ok (.ireturn, 1) := by decide +kernel
set_option maxRecDepth 20000 in
theorem ggX4_storm_X4_noPlace : GoodIn wsX4_storm wsX4_noPlace := goodIn_r _ [8, 3, 129, 130, 131, 132, 133, 134, 135, 136, 137, 138, 139, 143, 144, 145, 146, 147, 148, 149, 150, 151, 152, 153, 154] (by decide +kernel) (by decide +kernel)
set_option maxRecDepth 20000 in
theorem gX4_storm_X4_noPlace : GoodIn wsX4_storm (wsV RX4 102 RX4 yX4_noPlace wsX4_noPlace) := goodIn_app (goodIn_of _ (by decide +kernel)) ggX4_storm_X4_noPlace
set_option maxRecDepth 20000 in
theorem ggX4_storm_X4_below : GoodIn wsX4_storm wsX4_below := goodIn_r _ [11] (by decide +kernel) (by decide +kernel)
set_option maxRecDepth 20000 in
theorem gX4_storm_X4_below : GoodIn wsX4_storm (va_wsS RX4 198 yX4_below wsX4_below) := goodIn_app (goodIn_of _ (by decide +kernel)) ggX4_storm_X4_below
set_option maxRecDepth 20000 in
theorem ggX4_storm_X4_firstOf : GoodIn wsX4_storm wsX4_firstOf := goodIn_r _ [14] (by decide +kernel) (by decide +kernel)
set_option maxRecDepth 20000 in
theorem gX4_storm_X4_firstOf : GoodIn wsX4_storm (va_wsS RX4 61 yX4_firstOf wsX4_firstOf) := goodIn_app (goodIn_of _ (by decide +kernel)) ggX4_storm_X4_firstOf
set_option maxRecDepth 20000 in
theorem ggX4_storm_X4_above : GoodIn wsX4_storm wsX4_above := goodIn_r _ [17] (by decide +kernel) (by decide +kernel)
set_option maxRecDepth 20000 in
theorem gX4_storm_X4_above : GoodIn wsX4_storm (va_wsS RX4 201 yX4_above wsX4_above) := goodIn_app (goodIn_of _ (by decide +kernel)) ggX4_storm_X4_above
set_option maxRecDepth 20000 in
theorem ggX4_storm_X4_noWhat : GoodIn wsX4_storm wsX4_noWhat := goodIn_r _ [20] (by decide +kernel) (by decide +kernel)
set_option maxRecDepth 20000 in
theorem gX4_storm_X4_noWhat : GoodIn wsX4_storm (va_wsS RX4 83 yX4_noWhat wsX4_noWhat) := goodIn_app (goodIn_of _ (by decide +kernel)) ggX4_storm_X4_noWhat
set_option maxRecDepth 20000 in
theorem ggX4_storm_X4_refuseLong : GoodIn wsX4_storm wsX4_refuseLong := goodIn_r _ [24, 25, 26, 27, 28, 7, 29, 30, 129, 130, 131, 132, 133, 134, 135, 136, 137, 138, 139] (by decide +kernel) (by decide +kernel)
set_option maxRecDepth 20000 in
theorem gX4_storm_X4_refuseLong : GoodIn wsX4_storm (wsV RX4 204 RX4 yX4_refuseLong wsX4_refuseLong) := goodIn_app (goodIn_of _ (by decide +kernel)) ggX4_storm_X4_refuseLong
set_option maxRecDepth 20000 in
theorem ggX4_storm_X4_think : GoodIn wsX4_storm wsX4_think := goodIn_r _ [34, 2, 3, 35, 36, 37, 38, 39, 40, 41, 42, 43, 44, 45, 46, 47, 48, 49, 50, 51, 52, 53, 129, 130, 131, 132, 133, 134, 135, 136, 137, 138, 139, 143, 144, 145, 146, 147, 148, 149, 150, 151, 152, 153, 154] (by decide +kernel) (by decide +kernel)
set_option maxRecDepth 20000 in
theorem gX4_storm_X4_think : GoodIn wsX4_storm (wsV RX4 132 RX4 yX4_think wsX4_think) := goodIn_app (goodIn_of _ (by decide +kernel)) ggX4_storm_X4_think
set_option maxRecDepth 20000 in
theorem ggX4_storm_X1_blow : GoodIn wsX4_storm wsX1_blow := goodIn_r _ [58, 59, 60, 61, 62, 63, 57, 64, 65, 66, 47, 48, 49, 67, 68, 69, 38, 70, 71, 72, 73, 74, 75, 76, 41, 77, 78, 79, 80, 81, 82, 83, 84, 42, 85, 86, 87, 88, 45, 52, 43, 89, 90, 91, 92, 93, 94, 95, 96, 53, 50, 51, 97, 98, 99, 100, 101, 102, 103, 104, 105, 106, 107, 108, 109, 7, 110, 111, 112, 113, 114, 115, 116, 44, 117, 118, 119, 120, 121, 122, 140, 141, 142, 143, 144, 145, 146, 147, 148, 149, 150, 151, 152, 153, 154] (by decide +kernel) (by decide +kernel)
set_option maxRecDepth 20000 in
theorem gX4_storm_X1_blow : GoodIn wsX4_storm (wsV RX4 208 RX1 yX1_blow wsX1_blow) := goodIn_app (goodIn_of _ (by decide +kernel)) ggX4_storm_X1_blow
