/-! ===== every word of the law stands in the tables; laid by mkwords.py ===== -/
theorem mem_r {big ws : List Cond} (ps : List Nat) (hp : ws = ps.filterMap (fun i => big[i]?)) : ∀ w ∈ ws, w ∈ big := by
  intro w hw
  rw [hp] at hw
  obtain ⟨i, -, hi⟩ := List.mem_filterMap.mp hw
  exact List.mem_of_getElem? hi
set_option maxRecDepth 20000 in
theorem wi_1 : ∀ w ∈ wsL_law_r1, w ∈ lw_tbl := mem_r [58, 59, 44, 771, 772, 49, 60, 61, 62, 63, 64, 65, 66, 67, 45, 170, 171, 172, 126, 127, 46, 174, 140, 141] (by rfl)
set_option maxRecDepth 20000 in
theorem wi_2 : ∀ w ∈ wsL_law_r2, w ∈ lw_tbl := mem_r [47, 175, 159, 160, 48, 176, 125, 177, 179, 180, 69, 70, 71, 72, 76, 78, 80, 82, 129, 130, 131, 132, 143, 144] (by rfl)
set_option maxRecDepth 20000 in
theorem wi_3 : ∀ w ∈ wsL_law_r3, w ∈ lw_tbl := mem_r [145, 158, 146, 148, 162, 163, 164, 773, 774, 775, 776, 777, 778, 779, 780, 782, 783, 784, 788, 204, 205, 206, 207, 208] (by rfl)
set_option maxRecDepth 20000 in
theorem wi_4 : ∀ w ∈ wsL_law_r4, w ∈ lw_tbl := mem_r [209, 210, 211, 212, 213, 214, 215, 216, 217, 218, 219, 220, 222, 0, 223, 224, 225, 226, 227, 133, 817, 818, 819, 820] (by rfl)
set_option maxRecDepth 20000 in
theorem wi_5 : ∀ w ∈ wsL_law_r5, w ∈ lw_tbl := mem_r [785, 821, 823, 25, 824, 228, 229, 230, 231, 232, 233, 234, 235, 236, 237, 238, 239, 240, 241, 243, 244, 246, 247, 248] (by rfl)
set_option maxRecDepth 20000 in
theorem wi_6 : ∀ w ∈ wsL_law_r6, w ∈ lw_tbl := mem_r [50, 249, 250, 251, 252, 253, 1139, 254, 255, 256, 257, 258, 1138, 260, 261, 262, 263, 264, 265, 266, 267, 268, 269, 51] (by rfl)
set_option maxRecDepth 20000 in
theorem wi_7 : ∀ w ∈ wsL_law_r7, w ∈ lw_tbl := mem_r [270, 274, 275, 52, 276, 277, 278, 279, 271, 272, 273, 280, 281, 282, 283, 284, 53, 285, 286, 287, 288, 289, 290, 291] (by rfl)
set_option maxRecDepth 20000 in
theorem wi_8 : ∀ w ∈ wsL_law_r8, w ∈ lw_tbl := mem_r [292, 293, 294, 295, 296, 297, 298, 299, 300, 301, 303, 304, 54, 305, 306, 307, 308, 309, 310, 311, 312, 314, 316, 318] (by rfl)
set_option maxRecDepth 20000 in
theorem wi_9 : ∀ w ∈ wsL_law_r9, w ∈ lw_tbl := mem_r [319, 320, 321, 322, 55, 323, 324, 325, 326, 327, 328, 329, 330, 331, 332, 334, 1, 335, 336, 338, 2, 339, 340, 341] (by rfl)
set_option maxRecDepth 20000 in
theorem wi_10 : ∀ w ∈ wsL_law_r10, w ∈ lw_tbl := mem_r [342, 343, 74, 85, 88, 90, 94, 344, 346, 345, 56, 347, 349, 3, 350, 351, 352, 353, 354, 355, 356, 357, 358, 359] (by rfl)
set_option maxRecDepth 20000 in
theorem wi_11 : ∀ w ∈ wsL_law_r11, w ∈ lw_tbl := mem_r [360, 361, 362, 363, 364, 365, 366, 367, 368, 369, 370, 371, 372, 373, 374, 376, 4, 377, 378, 379, 380, 381, 382, 383] (by rfl)
set_option maxRecDepth 20000 in
theorem wi_12 : ∀ w ∈ wsL_law_r12, w ∈ lw_tbl := mem_r [384, 385, 386, 387, 388, 389, 390, 391, 392, 393, 96, 98, 406, 407, 408, 394, 395, 396, 397, 398, 400, 5, 401, 402] (by rfl)
set_option maxRecDepth 20000 in
theorem wi_13 : ∀ w ∈ wsL_law_r13, w ∈ lw_tbl := mem_r [404, 6, 405, 409, 411, 7, 412, 413, 414, 57, 415, 416, 418, 8, 419, 420, 421, 422, 423, 425, 426, 428, 429, 430] (by rfl)
set_option maxRecDepth 20000 in
theorem wi_14 : ∀ w ∈ wsL_law_r14, w ∈ lw_tbl := mem_r [431, 432, 433, 434, 435, 436, 438, 9, 439, 440, 441, 442, 443, 444, 445, 446, 447, 448, 450, 10, 451, 452, 453, 454] (by rfl)
set_option maxRecDepth 20000 in
theorem wi_15 : ∀ w ∈ wsL_law_r15, w ∈ lw_tbl := mem_r [455, 825, 826, 827, 828, 787, 829, 831, 26, 832, 833, 835, 27, 836, 837, 839, 28, 840, 841, 842, 843, 844, 846, 29] (by rfl)
set_option maxRecDepth 20000 in
theorem wi_16 : ∀ w ∈ wsL_law_r16, w ∈ lw_tbl := mem_r [847, 848, 849, 850, 851, 852, 853, 854, 856, 30, 857, 858, 859, 860, 861, 863, 31, 864, 865, 866, 867, 868, 869, 870] (by rfl)
set_option maxRecDepth 20000 in
theorem wi_17 : ∀ w ∈ wsL_law_r17, w ∈ lw_tbl := mem_r [871, 873, 32, 874, 875, 876, 877, 878, 879, 880, 881, 882, 883, 884, 885, 886, 887, 888, 889, 890, 891, 892, 893, 894] (by rfl)
set_option maxRecDepth 20000 in
theorem wi_18 : ∀ w ∈ wsL_law_r18, w ∈ lw_tbl := mem_r [895, 896, 897, 898, 899, 900, 901, 902, 903, 904, 905, 906, 907, 908, 909, 910, 911, 912, 913, 914, 915, 916, 457, 458] (by rfl)
set_option maxRecDepth 20000 in
theorem wi_19 : ∀ w ∈ wsL_law_r19, w ∈ lw_tbl := mem_r [459, 460, 461, 463, 11, 464, 465, 466, 467, 468, 917, 918, 919, 920, 469, 470, 471, 472, 473, 475, 12, 476, 921, 922] (by rfl)
set_option maxRecDepth 20000 in
theorem wi_20 : ∀ w ∈ wsL_law_r20, w ∈ lw_tbl := mem_r [923, 924, 477, 478, 479, 480, 481, 483, 13, 484, 485, 486, 487, 488, 489, 490, 491, 492, 493, 495, 496, 498, 497, 499] (by rfl)
set_option maxRecDepth 20000 in
theorem wi_21 : ∀ w ∈ wsL_law_r21, w ∈ lw_tbl := mem_r [925, 926, 927, 928, 929, 931, 33, 932, 933, 500, 501, 502, 503, 934, 935, 936, 937, 504, 505, 506, 507, 938, 939, 940] (by rfl)
set_option maxRecDepth 20000 in
theorem wi_22 : ∀ w ∈ wsL_law_r22, w ∈ lw_tbl := mem_r [941, 508, 509, 510, 511, 942, 943, 944, 945, 512, 513, 514, 515, 946, 947, 948, 949, 516, 517, 518, 519, 950, 951, 952] (by rfl)
set_option maxRecDepth 20000 in
theorem wi_23 : ∀ w ∈ wsL_law_r23, w ∈ lw_tbl := mem_r [953, 954, 955, 956, 520, 521, 522, 523, 957, 958, 959, 960, 524, 525, 526, 527, 528, 529, 530, 531, 961, 962, 963, 964] (by rfl)
set_option maxRecDepth 20000 in
theorem wi_24 : ∀ w ∈ wsL_law_r24, w ∈ lw_tbl := mem_r [532, 533, 534, 535, 965, 966, 967, 968, 969, 971, 34, 972, 536, 537, 538, 539, 973, 974, 975, 976, 540, 541, 542, 543] (by rfl)
set_option maxRecDepth 20000 in
theorem wi_25 : ∀ w ∈ wsL_law_r25, w ∈ lw_tbl := mem_r [977, 978, 979, 980, 544, 545, 546, 547, 548, 549, 550, 551, 981, 982, 983, 984, 985, 987, 35, 988, 989, 991, 36, 992] (by rfl)
set_option maxRecDepth 20000 in
theorem wi_26 : ∀ w ∈ wsL_law_r26, w ∈ lw_tbl := mem_r [552, 553, 554, 555, 556, 557, 558, 559, 560, 561, 562, 563, 564, 565, 566, 567, 568, 569, 570, 571, 572, 993, 994, 995] (by rfl)
set_option maxRecDepth 20000 in
theorem wi_27 : ∀ w ∈ wsL_law_r27, w ∈ lw_tbl := mem_r [996, 997, 998, 999, 573, 574, 575, 576, 577, 579, 14, 580, 581, 582, 583, 584, 585, 586, 587, 589, 15, 590, 591, 592] (by rfl)
set_option maxRecDepth 20000 in
theorem wi_28 : ∀ w ∈ wsL_law_r28, w ∈ lw_tbl := mem_r [593, 594, 595, 1000, 1001, 1002, 1003, 1004, 1006, 37, 1007, 1008, 1009, 1010, 596, 597, 598, 599, 600, 601, 602, 603, 604, 605] (by rfl)
set_option maxRecDepth 20000 in
theorem wi_29 : ∀ w ∈ wsL_law_r29, w ∈ lw_tbl := mem_r [606, 1011, 1012, 1013, 1014, 1015, 1016, 1017, 607, 608, 609, 610, 1018, 1019, 1020, 1021, 1022, 1023, 1024, 619, 620, 621, 622, 1025] (by rfl)
set_option maxRecDepth 20000 in
theorem wi_30 : ∀ w ∈ wsL_law_r30, w ∈ lw_tbl := mem_r [1026, 1027, 1028, 623, 624, 625, 626, 627, 1029, 1030, 1031, 1032, 628, 629, 630, 631, 1033, 1034, 1035, 1036, 632, 633, 634, 635] (by rfl)
set_option maxRecDepth 20000 in
theorem wi_31 : ∀ w ∈ wsL_law_r31, w ∈ lw_tbl := mem_r [636, 637, 638, 639, 640, 1037, 1038, 1039, 1040, 1041, 1043, 38, 1044, 641, 642, 643, 644, 645, 646, 647, 648, 1045, 1046, 1047] (by rfl)
set_option maxRecDepth 20000 in
theorem wi_32 : ∀ w ∈ wsL_law_r32, w ∈ lw_tbl := mem_r [1048, 611, 612, 613, 614, 615, 617, 16, 618, 1049, 1050, 1051, 1052, 649, 650, 651, 652, 653, 1053, 1054, 1055, 1056, 654, 655] (by rfl)
set_option maxRecDepth 20000 in
theorem wi_33 : ∀ w ∈ wsL_law_r33, w ∈ lw_tbl := mem_r [656, 657, 1057, 1058, 1059, 1060, 658, 659, 660, 661, 1061, 1062, 1063, 1064, 662, 663, 664, 665, 666, 668, 17, 669, 670, 672] (by rfl)
set_option maxRecDepth 20000 in
theorem wi_34 : ∀ w ∈ wsL_law_r34, w ∈ lw_tbl := mem_r [18, 673, 674, 1065, 1066, 1067, 1068, 1069, 1071, 39, 1072, 675, 676, 677, 678, 679, 681, 19, 682, 683, 684, 685, 686, 687] (by rfl)
set_option maxRecDepth 20000 in
theorem wi_35 : ∀ w ∈ wsL_law_r35, w ∈ lw_tbl := mem_r [149, 688, 690, 20, 691, 694, 692, 693, 695, 696, 697, 698, 699, 700, 701, 1073, 1074, 1075, 1076, 1077, 1079, 40, 1080, 1081] (by rfl)
set_option maxRecDepth 20000 in
theorem wi_36 : ∀ w ∈ wsL_law_r36, w ∈ lw_tbl := mem_r [1082, 1083, 1084, 1085, 1086, 1087, 702, 703, 704, 705, 1088, 1089, 1090, 1091, 1092, 1094, 41, 1095, 1096, 1097, 1098, 706, 707, 708] (by rfl)
set_option maxRecDepth 20000 in
theorem wi_37 : ∀ w ∈ wsL_law_r37, w ∈ lw_tbl := mem_r [709, 710, 712, 21, 713, 714, 716, 22, 717, 178, 718, 719, 721, 23, 722, 1099, 1100, 1101, 1102, 786, 723, 724, 725, 726] (by rfl)
set_option maxRecDepth 20000 in
theorem wi_38 : ∀ w ∈ wsL_law_r38, w ∈ lw_tbl := mem_r [1103, 1104, 1105, 1106, 727, 728, 729, 730, 731, 733, 24, 734, 1107, 1108, 1109, 1110, 735, 736, 737, 738, 1111, 1112, 1113, 1114] (by rfl)
set_option maxRecDepth 20000 in
theorem wi_39 : ∀ w ∈ wsL_law_r39, w ∈ lw_tbl := mem_r [739, 740, 741, 742, 743, 744, 745, 746, 747, 748, 749, 750, 165, 751, 752, 753, 754, 1115, 1116, 1117, 1118, 789, 1119, 1121] (by rfl)
set_option maxRecDepth 20000 in
theorem wi_40 : ∀ w ∈ wsL_law_r40, w ∈ lw_tbl := mem_r [42, 1122, 1123, 1124, 1125, 755, 756, 757, 758, 173, 1126, 1127, 1128, 1129, 781, 759, 760, 761, 762, 1130, 1131, 1132, 1133, 763] (by rfl)
set_option maxRecDepth 20000 in
theorem wi_41 : ∀ w ∈ wsL_law_r41, w ∈ lw_tbl := mem_r [764, 765, 766, 767, 768, 769, 770, 1134, 1135, 1136, 1137] (by rfl)
set_option maxRecDepth 20000 in
theorem wiX0 : ∀ w ∈ wsX00, w ∈ lw_tbl := by decide +kernel
set_option maxRecDepth 20000 in
theorem wiX1 : ∀ w ∈ wsX10, w ∈ lw_tbl := by decide +kernel
set_option maxRecDepth 20000 in
theorem wiX2 : ∀ w ∈ wsX20, w ∈ lw_tbl := by decide +kernel
set_option maxRecDepth 20000 in
theorem wiX3 : ∀ w ∈ wsX30, w ∈ lw_tbl := by decide +kernel
set_option maxRecDepth 20000 in
theorem wiX4 : ∀ w ∈ wsX40, w ∈ lw_tbl := by decide +kernel
set_option maxRecDepth 20000 in
theorem wiX5 : ∀ w ∈ wsX50, w ∈ lw_tbl := by decide +kernel
theorem wsL_in : ∀ w ∈ wsL_law, w ∈ lw_tbl := List.forall_mem_append.mpr ⟨List.forall_mem_append.mpr ⟨List.forall_mem_append.mpr ⟨List.forall_mem_append.mpr ⟨List.forall_mem_append.mpr ⟨List.forall_mem_append.mpr ⟨List.forall_mem_append.mpr ⟨List.forall_mem_append.mpr ⟨wi_1, List.forall_mem_append.mpr ⟨wi_2, List.forall_mem_append.mpr ⟨wi_3, List.forall_mem_append.mpr ⟨wi_4, List.forall_mem_append.mpr ⟨wi_5, List.forall_mem_append.mpr ⟨wi_6, List.forall_mem_append.mpr ⟨wi_7, List.forall_mem_append.mpr ⟨wi_8, List.forall_mem_append.mpr ⟨wi_9, List.forall_mem_append.mpr ⟨wi_10, List.forall_mem_append.mpr ⟨wi_11, List.forall_mem_append.mpr ⟨wi_12, List.forall_mem_append.mpr ⟨wi_13, List.forall_mem_append.mpr ⟨wi_14, List.forall_mem_append.mpr ⟨wi_15, List.forall_mem_append.mpr ⟨wi_16, List.forall_mem_append.mpr ⟨wi_17, List.forall_mem_append.mpr ⟨wi_18, List.forall_mem_append.mpr ⟨wi_19, List.forall_mem_append.mpr ⟨wi_20, List.forall_mem_append.mpr ⟨wi_21, List.forall_mem_append.mpr ⟨wi_22, List.forall_mem_append.mpr ⟨wi_23, List.forall_mem_append.mpr ⟨wi_24, List.forall_mem_append.mpr ⟨wi_25, List.forall_mem_append.mpr ⟨wi_26, List.forall_mem_append.mpr ⟨wi_27, List.forall_mem_append.mpr ⟨wi_28, List.forall_mem_append.mpr ⟨wi_29, List.forall_mem_append.mpr ⟨wi_30, List.forall_mem_append.mpr ⟨wi_31, List.forall_mem_append.mpr ⟨wi_32, List.forall_mem_append.mpr ⟨wi_33, List.forall_mem_append.mpr ⟨wi_34, List.forall_mem_append.mpr ⟨wi_35, List.forall_mem_append.mpr ⟨wi_36, List.forall_mem_append.mpr ⟨wi_37, List.forall_mem_append.mpr ⟨wi_38, List.forall_mem_append.mpr ⟨wi_39, List.forall_mem_append.mpr ⟨wi_40, wi_41⟩⟩⟩⟩⟩⟩⟩⟩⟩⟩⟩⟩⟩⟩⟩⟩⟩⟩⟩⟩⟩⟩⟩⟩⟩⟩⟩⟩⟩⟩⟩⟩⟩⟩⟩⟩⟩⟩⟩⟩, wiX4⟩, wiX5⟩, wiX3⟩, wiX2⟩, wiX1⟩, wiX0⟩, fun _ h => absurd h List.not_mem_nil⟩
