set_option maxRecDepth 20000 in
theorem ggL_law_X4_init : GoodIn wsL_law wsX4_init := goodIn_r _ [8, 9, 10, 11, 12, 13, 14, 15, 16, 17, 18, 19, 20, 21, 22, 23, 24, 25, 26, 27, 28, 29, 30, 31, 32, 33, 34, 35, 36, 37, 38, 39, 40, 41, 42, 43, 44, 45, 46, 47, 48, 49, 50, 51, 52, 53, 54, 995, 996, 997, 998, 999, 1000, 1001, 1002, 1003, 1004, 1005, 1006, 971, 972, 973, 974, 975, 976, 977, 978, 979, 980, 981, 1007, 1008, 1009, 1010, 1011, 1012] (by decide +kernel) (by decide +kernel)
set_option maxRecDepth 20000 in
theorem gL_law_X4_init : GoodIn wsL_law (wsX4_init) := ggL_law_X4_init
set_option maxRecDepth 20000 in
theorem ggL_law_X5_init : GoodIn wsL_law wsX5_init := goodIn_r _ [57, 58, 10, 11, 30, 59, 60, 61, 62, 63, 64, 65, 66, 982, 983, 984, 985, 986, 987, 988, 989, 990, 991, 992, 993, 994] (by decide +kernel) (by decide +kernel)
set_option maxRecDepth 20000 in
theorem gL_law_X5_init : GoodIn wsL_law (wsX5_init) := ggL_law_X5_init
set_option maxRecDepth 20000 in
theorem ggL_law_X4_letter : GoodIn wsL_law wsX4_letter := goodIn_r _ [70, 21, 71, 72, 2, 73, 74, 75, 76, 77, 78, 79, 80, 81, 82, 83, 84, 85, 86, 33, 87, 88, 89, 20, 90, 91, 45, 971, 972, 973, 974, 975, 976, 977, 978, 979, 980, 981, 1007, 1008] (by decide +kernel) (by decide +kernel)
set_option maxRecDepth 20000 in
theorem gL_law_X4_letter : GoodIn wsL_law (wsV RL 13 RX4 yX4_letter wsX4_letter) := goodIn_app (goodIn_of _ (by decide +kernel)) ggL_law_X4_letter
set_option maxRecDepth 20000 in
theorem ggL_law_X5_letter : GoodIn wsL_law wsX5_letter := goodIn_r _ [95, 96, 63, 97, 98, 99, 5, 100, 65, 982, 983, 984, 985, 986, 987, 988, 989, 990, 991, 992, 993, 994] (by decide +kernel) (by decide +kernel)
set_option maxRecDepth 20000 in
theorem gL_law_X5_letter : GoodIn wsL_law (wsV RL 17 RX5 yX5_letter wsX5_letter) := goodIn_app (goodIn_of _ (by decide +kernel)) ggL_law_X5_letter
set_option maxRecDepth 20000 in
theorem ggL_law_X4_sea : GoodIn wsL_law wsX4_sea := goodIn_r _ [104, 21, 105, 106, 107, 20, 108, 91, 45, 109, 110, 111, 112, 113, 114, 115, 2, 116, 117, 118, 119, 120, 121, 122, 123, 124, 125, 126, 127, 128, 129, 130, 131, 132, 133, 134, 135, 136, 137, 138, 139, 140, 141, 142, 143, 144, 145, 146, 147, 148, 149, 150, 151, 152, 153, 154, 155, 156, 157, 158, 159, 160, 161, 162, 163, 164, 165, 166, 167, 168, 169, 170, 171, 172, 173, 174, 175, 176, 177, 178, 179, 180, 181, 182, 183, 184, 185, 186, 187, 188, 189, 190, 191, 192, 193, 194, 195, 196, 197, 198, 199, 200, 201, 202, 203, 204, 205, 206, 207, 208, 209, 15, 16, 210, 211, 212, 213, 214, 215, 216, 14, 217, 218, 219, 220, 221, 222, 37, 223, 224, 225, 226, 38, 39, 40, 41, 227, 228, 229, 230, 231, 232, 233, 234, 235, 236, 237, 238, 239, 240, 241, 242, 243, 244, 245, 246, 247, 248, 249, 250, 251, 252, 253, 254, 255, 256, 257, 258, 259, 260, 261, 262, 263, 264, 265, 266, 267, 268, 269, 270, 271, 272, 273, 274, 275, 276, 277, 278, 279, 280, 281, 282, 283, 284, 285, 286, 287, 288, 289, 290, 291, 292, 293, 294, 295, 296, 297, 298, 299, 300, 301, 302, 303, 304, 305, 306, 307, 308, 309, 310, 311, 312, 313, 314, 315, 316, 317, 318, 319, 320, 321, 322, 323, 324, 325, 326, 327, 328, 329, 330, 331, 332, 333, 334, 335, 336, 971, 972, 973, 974, 975, 976, 977, 978, 979, 980, 981, 1007, 1008, 995, 996, 997, 998, 999, 1000, 1001, 1002, 1003, 1004, 1005, 1006] (by decide +kernel) (by decide +kernel)
set_option maxRecDepth 20000 in
theorem gL_law_X4_sea : GoodIn wsL_law (wsV RL 18 RX4 yX4_sea wsX4_sea) := goodIn_app (goodIn_of _ (by decide +kernel)) ggL_law_X4_sea
set_option maxRecDepth 20000 in
theorem ggL_law_X5_sea : GoodIn wsL_law wsX5_sea := goodIn_r _ [340, 341, 96, 59, 62, 342, 343, 344, 5, 345, 346, 347, 348, 349, 63, 350, 351, 352, 353, 66, 354, 355, 356, 357, 358, 359, 360, 361, 362, 363, 364, 365, 366, 367, 368, 369, 370, 371, 372, 373, 374, 375, 376, 377, 378, 379, 380, 381, 382, 383, 384, 385, 386, 387, 388, 389, 390, 391, 392, 393, 394, 395, 396, 397, 398, 399, 400, 401, 402, 403, 404, 405, 406, 407, 408, 409, 410, 411, 412, 413, 414, 415, 416, 417, 418, 419, 420, 421, 422, 423, 424, 425, 426, 427, 428, 429, 982, 983, 984, 985, 986, 987, 988, 989, 990, 991, 992, 993, 994] (by decide +kernel) (by decide +kernel)
set_option maxRecDepth 20000 in
theorem gL_law_X5_sea : GoodIn wsL_law (wsV RL 22 RX5 yX5_sea wsX5_sea) := goodIn_app (goodIn_of _ (by decide +kernel)) ggL_law_X5_sea
set_option maxRecDepth 20000 in
theorem ggL_law_X4_hand : GoodIn wsL_law wsX4_hand := goodIn_r _ [433, 15, 434, 435, 436, 2, 437, 438, 439, 440, 80, 81, 82, 83, 84, 85, 86, 33, 441, 280, 281, 14, 282, 220, 971, 972, 973, 974, 975, 976, 977, 978, 979, 980, 981, 995, 996, 997, 998, 999, 1000, 1001, 1002, 1003, 1004, 1005, 1006] (by decide +kernel) (by decide +kernel)
set_option maxRecDepth 20000 in
theorem gL_law_X4_hand : GoodIn wsL_law (wsV RL 23 RX4 yX4_hand wsX4_hand) := goodIn_app (goodIn_of _ (by decide +kernel)) ggL_law_X4_hand
set_option maxRecDepth 20000 in
theorem ggL_law_X5_hand : GoodIn wsL_law wsX5_hand := goodIn_r _ [445, 59, 384, 385, 386, 5, 387, 354, 355, 356, 97, 98, 99, 100, 65, 381, 382, 383, 982, 983, 984, 985, 986, 987, 988, 989, 990, 991, 992, 993, 994] (by decide +kernel) (by decide +kernel)
set_option maxRecDepth 20000 in
theorem gL_law_X5_hand : GoodIn wsL_law (wsV RL 27 RX5 yX5_hand wsX5_hand) := goodIn_app (goodIn_of _ (by decide +kernel)) ggL_law_X5_hand
set_option maxRecDepth 20000 in
theorem ggL_law_X4_place : GoodIn wsL_law wsX4_place := goodIn_r _ [449, 15, 450, 451, 452, 2, 453, 83, 84, 85, 86, 33, 971, 972, 973, 974, 975, 976, 977, 978, 979, 980, 981, 995, 996, 997, 998, 999, 1000, 1001, 1002, 1003, 1004, 1005, 1006] (by decide +kernel) (by decide +kernel)
set_option maxRecDepth 20000 in
theorem gL_law_X4_place : GoodIn wsL_law (wsV RL 28 RX4 yX4_place wsX4_place) := goodIn_app (goodIn_of _ (by decide +kernel)) ggL_law_X4_place
set_option maxRecDepth 20000 in
theorem ggL_law_X5_place : GoodIn wsL_law wsX5_place := goodIn_r _ [457, 59, 374, 375, 376, 5, 377, 354, 355, 356, 97, 98, 99, 100, 65, 982, 983, 984, 985, 986, 987, 988, 989, 990, 991, 992, 993, 994] (by decide +kernel) (by decide +kernel)
set_option maxRecDepth 20000 in
theorem gL_law_X5_place : GoodIn wsL_law (wsV RL 31 RX5 yX5_place wsX5_place) := goodIn_app (goodIn_of _ (by decide +kernel)) ggL_law_X5_place
set_option maxRecDepth 20000 in
theorem ggL_law_X4_leans : GoodIn wsL_law wsX4_leans := goodIn_r _ [461, 15, 434, 435, 436, 2, 437, 462, 463, 464, 465, 466, 83, 84, 85, 86, 33, 467, 468, 469, 14, 470, 40, 471, 472, 473, 474, 221, 37, 475, 476, 477, 277, 147, 278, 478, 307, 308, 479, 309, 310, 291, 292, 293, 294, 41, 38, 39, 971, 972, 973, 974, 975, 976, 977, 978, 979, 980, 981, 995, 996, 997, 998, 999, 1000, 1001, 1002, 1003, 1004, 1005, 1006] (by decide +kernel) (by decide +kernel)
set_option maxRecDepth 20000 in
theorem gL_law_X4_leans : GoodIn wsL_law (wsV RL 32 RX4 yX4_leans wsX4_leans) := goodIn_app (goodIn_of _ (by decide +kernel)) ggL_law_X4_leans
set_option maxRecDepth 20000 in
theorem ggL_law_X5_leans : GoodIn wsL_law wsX5_leans := goodIn_r _ [483, 59, 384, 385, 386, 5, 387, 354, 355, 356, 406, 407, 408, 381, 382, 383, 409, 410, 411, 412, 413, 414, 415, 416, 417, 484, 485, 486, 487, 488, 97, 98, 99, 100, 65, 982, 983, 984, 985, 986, 987, 988, 989, 990, 991, 992, 993, 994] (by decide +kernel) (by decide +kernel)
set_option maxRecDepth 20000 in
theorem gL_law_X5_leans : GoodIn wsL_law (wsV RL 35 RX5 yX5_leans wsX5_leans) := goodIn_app (goodIn_of _ (by decide +kernel)) ggL_law_X5_leans
set_option maxRecDepth 20000 in
theorem ggL_law_X4_drops : GoodIn wsL_law wsX4_drops := goodIn_r _ [492, 15, 434, 435, 436, 2, 437, 83, 84, 85, 86, 33, 321, 322, 323, 14, 324, 41, 971, 972, 973, 974, 975, 976, 977, 978, 979, 980, 981, 995, 996, 997, 998, 999, 1000, 1001, 1002, 1003, 1004, 1005, 1006] (by decide +kernel) (by decide +kernel)
set_option maxRecDepth 20000 in
theorem gL_law_X4_drops : GoodIn wsL_law (wsV RL 36 RX4 yX4_drops wsX4_drops) := goodIn_app (goodIn_of _ (by decide +kernel)) ggL_law_X4_drops
set_option maxRecDepth 20000 in
theorem ggL_law_X5_drops : GoodIn wsL_law wsX5_drops := goodIn_r _ [496, 59, 384, 385, 386, 5, 387, 354, 355, 356, 97, 98, 99, 100, 65, 388, 389, 390, 381, 382, 383, 982, 983, 984, 985, 986, 987, 988, 989, 990, 991, 992, 993, 994] (by decide +kernel) (by decide +kernel)
set_option maxRecDepth 20000 in
theorem gL_law_X5_drops : GoodIn wsL_law (wsV RL 39 RX5 yX5_drops wsX5_drops) := goodIn_app (goodIn_of _ (by decide +kernel)) ggL_law_X5_drops
set_option maxRecDepth 20000 in
theorem ggL_law_X4_boards : GoodIn wsL_law wsX4_boards := goodIn_r _ [500, 15, 434, 435, 436, 2, 437, 83, 84, 85, 86, 33, 325, 326, 327, 14, 328, 220, 441, 280, 281, 282, 971, 972, 973, 974, 975, 976, 977, 978, 979, 980, 981, 995, 996, 997, 998, 999, 1000, 1001, 1002, 1003, 1004, 1005, 1006] (by decide +kernel) (by decide +kernel)
set_option maxRecDepth 20000 in
theorem gL_law_X4_boards : GoodIn wsL_law (wsV RL 40 RX4 yX4_boards wsX4_boards) := goodIn_app (goodIn_of _ (by decide +kernel)) ggL_law_X4_boards
set_option maxRecDepth 20000 in
theorem ggL_law_X5_boards : GoodIn wsL_law wsX5_boards := goodIn_r _ [504, 59, 384, 385, 386, 5, 387, 354, 355, 356, 97, 98, 99, 100, 65, 381, 382, 383, 982, 983, 984, 985, 986, 987, 988, 989, 990, 991, 992, 993, 994] (by decide +kernel) (by decide +kernel)
set_option maxRecDepth 20000 in
theorem gL_law_X5_boards : GoodIn wsL_law (wsV RL 43 RX5 yX5_boards wsX5_boards) := goodIn_app (goodIn_of _ (by decide +kernel)) ggL_law_X5_boards
set_option maxRecDepth 20000 in
theorem ggL_law_X4_sails : GoodIn wsL_law wsX4_sails := goodIn_r _ [508, 15, 83, 84, 85, 2, 86, 33, 971, 972, 973, 974, 975, 976, 977, 978, 979, 980, 981, 995, 996, 997, 998, 999, 1000, 1001, 1002, 1003, 1004, 1005, 1006] (by decide +kernel) (by decide +kernel)
set_option maxRecDepth 20000 in
theorem gL_law_X4_sails : GoodIn wsL_law (wsV RL 44 RX4 yX4_sails wsX4_sails) := goodIn_app (goodIn_of _ (by decide +kernel)) ggL_law_X4_sails
set_option maxRecDepth 20000 in
theorem ggL_law_X5_sails : GoodIn wsL_law wsX5_sails := goodIn_r _ [512, 59, 371, 372, 5, 373, 354, 355, 356, 97, 98, 99, 100, 65, 982, 983, 984, 985, 986, 987, 988, 989, 990, 991, 992, 993, 994] (by decide +kernel) (by decide +kernel)
set_option maxRecDepth 20000 in
theorem gL_law_X5_sails : GoodIn wsL_law (wsV RL 47 RX5 yX5_sails wsX5_sails) := goodIn_app (goodIn_of _ (by decide +kernel)) ggL_law_X5_sails
set_option maxRecDepth 20000 in
theorem ggL_law_X4_misses : GoodIn wsL_law wsX4_misses := goodIn_r _ [516, 15, 434, 435, 436, 2, 437, 450, 451, 452, 453, 80, 81, 82, 83, 84, 85, 86, 33, 971, 972, 973, 974, 975, 976, 977, 978, 979, 980, 981, 995, 996, 997, 998, 999, 1000, 1001, 1002, 1003, 1004, 1005, 1006] (by decide +kernel) (by decide +kernel)
set_option maxRecDepth 20000 in
theorem gL_law_X4_misses : GoodIn wsL_law (wsV RL 48 RX4 yX4_misses wsX4_misses) := goodIn_app (goodIn_of _ (by decide +kernel)) ggL_law_X4_misses
set_option maxRecDepth 20000 in
theorem ggL_law_X5_misses : GoodIn wsL_law wsX5_misses := goodIn_r _ [520, 59, 384, 385, 386, 5, 387, 354, 355, 356, 374, 375, 376, 377, 97, 98, 99, 100, 65, 381, 382, 383, 982, 983, 984, 985, 986, 987, 988, 989, 990, 991, 992, 993, 994] (by decide +kernel) (by decide +kernel)
set_option maxRecDepth 20000 in
theorem gL_law_X5_misses : GoodIn wsL_law (wsV RL 51 RX5 yX5_misses wsX5_misses) := goodIn_app (goodIn_of _ (by decide +kernel)) ggL_law_X5_misses
set_option maxRecDepth 20000 in
theorem ggL_law_X4_turn : GoodIn wsL_law wsX4_turn := goodIn_r _ [524, 15, 434, 435, 436, 2, 437, 438, 439, 440, 80, 81, 82, 71, 72, 73, 74, 75, 76, 77, 78, 79, 83, 84, 85, 86, 33, 971, 972, 973, 974, 975, 976, 977, 978, 979, 980, 981, 995, 996, 997, 998, 999, 1000, 1001, 1002, 1003, 1004, 1005, 1006] (by decide +kernel) (by decide +kernel)
set_option maxRecDepth 20000 in
theorem gL_law_X4_turn : GoodIn wsL_law (wsV RL 52 RX4 yX4_turn wsX4_turn) := goodIn_app (goodIn_of _ (by decide +kernel)) ggL_law_X4_turn
set_option maxRecDepth 20000 in
theorem ggL_law_X5_turn : GoodIn wsL_law wsX5_turn := goodIn_r _ [528, 59, 384, 385, 386, 5, 387, 354, 355, 356, 529, 530, 531, 97, 98, 99, 100, 65, 381, 382, 383, 982, 983, 984, 985, 986, 987, 988, 989, 990, 991, 992, 993, 994] (by decide +kernel) (by decide +kernel)
set_option maxRecDepth 20000 in
theorem gL_law_X5_turn : GoodIn wsL_law (wsV RL 56 RX5 yX5_turn wsX5_turn) := goodIn_app (goodIn_of _ (by decide +kernel)) ggL_law_X5_turn
set_option maxRecDepth 20000 in
theorem ggL_law_X4_days : GoodIn wsL_law wsX4_days := goodIn_r _ [535, 15, 71, 72, 2, 73, 74, 75, 76, 77, 78, 79, 80, 81, 82, 258, 259, 260, 14, 261, 222, 83, 84, 85, 86, 33, 262, 263, 264, 265, 266, 267, 268, 269, 221, 270, 271, 272, 273, 274, 275, 219, 276, 277, 147, 278, 279, 280, 281, 282, 220, 283, 284, 285, 286, 37, 40, 287, 288, 289, 290, 291, 292, 293, 294, 41, 38, 39, 295, 296, 297, 298, 299, 300, 301, 302, 303, 304, 305, 306, 307, 308, 309, 310, 311, 312, 313, 314, 315, 150, 151, 316, 146, 148, 971, 972, 973, 974, 975, 976, 977, 978, 979, 980, 981, 995, 996, 997, 998, 999, 1000, 1001, 1002, 1003, 1004, 1005, 1006] (by decide +kernel) (by decide +kernel)
set_option maxRecDepth 20000 in
theorem gL_law_X4_days : GoodIn wsL_law (wsV RL 57 RX4 yX4_days wsX4_days) := goodIn_app (goodIn_of _ (by decide +kernel)) ggL_law_X4_days
set_option maxRecDepth 20000 in
theorem ggL_law_X5_days : GoodIn wsL_law wsX5_days := goodIn_r _ [539, 59, 97, 98, 99, 5, 100, 65, 391, 392, 393, 394, 395, 396, 397, 398, 399, 400, 401, 402, 403, 404, 405, 381, 382, 383, 406, 407, 408, 409, 410, 411, 412, 413, 414, 415, 416, 417, 418, 419, 420, 421, 422, 423, 424, 425, 426, 427, 428, 429, 982, 983, 984, 985, 986, 987, 988, 989, 990, 991, 992, 993, 994] (by decide +kernel) (by decide +kernel)
set_option maxRecDepth 20000 in
theorem gL_law_X5_days : GoodIn wsL_law (wsV RL 60 RX5 yX5_days wsX5_days) := goodIn_app (goodIn_of _ (by decide +kernel)) ggL_law_X5_days
set_option maxRecDepth 20000 in
theorem ggL_law_X4_needle : GoodIn wsL_law wsX4_needle := goodIn_r _ [543, 15, 544, 545, 546, 14, 547, 270, 271, 272, 273, 274, 275, 219, 276, 277, 147, 278, 279, 280, 281, 282, 220, 283, 284, 285, 286, 37, 40, 221, 287, 288, 289, 290, 291, 292, 293, 294, 41, 38, 39, 295, 296, 297, 298, 299, 300, 301, 302, 971, 972, 973, 974, 975, 976, 977, 978, 979, 980, 981, 995, 996, 997, 998, 999, 1000, 1001, 1002, 1003, 1004, 1005, 1006] (by decide +kernel) (by decide +kernel)
set_option maxRecDepth 20000 in
theorem gL_law_X4_needle : GoodIn wsL_law (wsV RL 61 RX4 yX4_needle wsX4_needle) := goodIn_app (goodIn_of _ (by decide +kernel)) ggL_law_X4_needle
set_option maxRecDepth 20000 in
theorem ggL_law_X5_needle : GoodIn wsL_law wsX5_needle := goodIn_r _ [551, 59, 397, 398, 5, 399, 400, 401, 402, 403, 404, 405, 381, 382, 383, 406, 407, 408, 409, 410, 411, 412, 413, 414, 415, 416, 417, 418, 419, 420, 421, 422, 423, 424, 425, 426, 982, 983, 984, 985, 986, 987, 988, 989, 990, 991, 992, 993, 994] (by decide +kernel) (by decide +kernel)
set_option maxRecDepth 20000 in
theorem gL_law_X5_needle : GoodIn wsL_law (wsV RL 64 RX5 yX5_needle wsX5_needle) := goodIn_app (goodIn_of _ (by decide +kernel)) ggL_law_X5_needle
set_option maxRecDepth 20000 in
theorem ggL_law_X4_shipThen : GoodIn wsL_law wsX4_shipThen := goodIn_r _ [555, 16, 71, 72, 2, 73, 74, 75, 76, 77, 78, 79, 80, 81, 82, 83, 84, 85, 86, 33, 210, 211, 212, 213, 15, 214, 215, 216, 14, 217, 218, 219, 220, 221, 222, 37, 223, 224, 225, 226, 38, 39, 40, 41, 262, 263, 264, 265, 266, 267, 268, 269, 270, 271, 272, 273, 274, 275, 276, 277, 147, 278, 279, 280, 281, 282, 283, 284, 285, 286, 287, 288, 289, 290, 291, 292, 293, 294, 295, 296, 297, 298, 299, 300, 301, 302, 303, 304, 305, 306, 307, 308, 309, 310, 311, 312, 313, 314, 315, 150, 151, 316, 146, 148, 971, 972, 973, 974, 975, 976, 977, 978, 979, 980, 981, 995, 996, 997, 998, 999, 1000, 1001, 1002, 1003, 1004, 1005, 1006] (by decide +kernel) (by decide +kernel)
set_option maxRecDepth 20000 in
theorem gL_law_X4_shipThen : GoodIn wsL_law (wsV RL 65 RX4 yX4_shipThen wsX4_shipThen) := goodIn_app (goodIn_of _ (by decide +kernel)) ggL_law_X4_shipThen
set_option maxRecDepth 20000 in
theorem ggL_law_X5_shipThen : GoodIn wsL_law wsX5_shipThen := goodIn_r _ [559, 60, 529, 530, 5, 531, 97, 98, 99, 100, 65, 560, 561, 562, 563, 59, 364, 365, 366, 391, 392, 393, 394, 395, 396, 397, 398, 399, 400, 401, 402, 403, 404, 405, 381, 382, 383, 406, 407, 408, 409, 410, 411, 412, 413, 414, 415, 416, 417, 418, 419, 420, 421, 422, 423, 424, 425, 426, 427, 428, 429, 982, 983, 984, 985, 986, 987, 988, 989, 990, 991, 992, 993, 994] (by decide +kernel) (by decide +kernel)
set_option maxRecDepth 20000 in
theorem gL_law_X5_shipThen : GoodIn wsL_law (wsV RL 68 RX5 yX5_shipThen wsX5_shipThen) := goodIn_app (goodIn_of _ (by decide +kernel)) ggL_law_X5_shipThen
set_option maxRecDepth 20000 in
theorem ggL_law_X4_needleThen : GoodIn wsL_law wsX4_needleThen := goodIn_r _ [567, 16, 71, 72, 2, 73, 74, 75, 76, 77, 78, 79, 80, 81, 82, 83, 84, 85, 86, 33, 210, 211, 212, 213, 15, 214, 215, 216, 14, 217, 218, 219, 220, 221, 222, 37, 223, 224, 225, 226, 38, 39, 40, 41, 262, 263, 264, 265, 266, 267, 268, 269, 270, 271, 272, 273, 274, 275, 276, 277, 147, 278, 279, 280, 281, 282, 283, 284, 285, 286, 287, 288, 289, 290, 291, 292, 293, 294, 295, 296, 297, 298, 299, 300, 301, 302, 303, 304, 305, 306, 307, 308, 309, 310, 311, 312, 313, 314, 315, 150, 151, 316, 146, 148, 544, 545, 546, 547, 971, 972, 973, 974, 975, 976, 977, 978, 979, 980, 981, 995, 996, 997, 998, 999, 1000, 1001, 1002, 1003, 1004, 1005, 1006] (by decide +kernel) (by decide +kernel)
set_option maxRecDepth 20000 in
theorem gL_law_X4_needleThen : GoodIn wsL_law (wsV RL 69 RX4 yX4_needleThen wsX4_needleThen) := goodIn_app (goodIn_of _ (by decide +kernel)) ggL_law_X4_needleThen
set_option maxRecDepth 20000 in
theorem ggL_law_X5_needleThen : GoodIn wsL_law wsX5_needleThen := goodIn_r _ [571, 60, 529, 530, 5, 531, 97, 98, 99, 100, 65, 560, 561, 562, 563, 59, 364, 365, 366, 391, 392, 393, 394, 395, 396, 397, 398, 399, 400, 401, 402, 403, 404, 405, 381, 382, 383, 406, 407, 408, 409, 410, 411, 412, 413, 414, 415, 416, 417, 418, 419, 420, 421, 422, 423, 424, 425, 426, 427, 428, 429, 982, 983, 984, 985, 986, 987, 988, 989, 990, 991, 992, 993, 994] (by decide +kernel) (by decide +kernel)
set_option maxRecDepth 20000 in
theorem gL_law_X5_needleThen : GoodIn wsL_law (wsV RL 72 RX5 yX5_needleThen wsX5_needleThen) := goodIn_app (goodIn_of _ (by decide +kernel)) ggL_law_X5_needleThen
set_option maxRecDepth 20000 in
theorem ggL_law_X4_seaThen : GoodIn wsL_law wsX4_seaThen := goodIn_r _ [575, 16, 434, 435, 436, 2, 437, 15, 71, 72, 73, 74, 75, 76, 77, 78, 79, 80, 81, 82, 83, 84, 85, 86, 33, 210, 211, 212, 213, 214, 215, 216, 14, 217, 218, 219, 220, 221, 222, 37, 223, 224, 225, 226, 38, 39, 40, 41, 262, 263, 264, 265, 266, 267, 268, 269, 270, 271, 272, 273, 274, 275, 276, 277, 147, 278, 279, 280, 281, 282, 283, 284, 285, 286, 287, 288, 289, 290, 291, 292, 293, 294, 295, 296, 297, 298, 299, 300, 301, 302, 303, 304, 305, 306, 307, 308, 309, 310, 311, 312, 313, 314, 315, 150, 151, 316, 146, 148, 971, 972, 973, 974, 975, 976, 977, 978, 979, 980, 981, 995, 996, 997, 998, 999, 1000, 1001, 1002, 1003, 1004, 1005, 1006] (by decide +kernel) (by decide +kernel)
set_option maxRecDepth 20000 in
theorem gL_law_X4_seaThen : GoodIn wsL_law (wsV RL 73 RX4 yX4_seaThen wsX4_seaThen) := goodIn_app (goodIn_of _ (by decide +kernel)) ggL_law_X4_seaThen
set_option maxRecDepth 20000 in
theorem ggL_law_X5_seaThen : GoodIn wsL_law wsX5_seaThen := goodIn_r _ [579, 60, 384, 385, 386, 5, 387, 59, 354, 355, 356, 529, 530, 531, 97, 98, 99, 100, 65, 560, 561, 562, 563, 364, 365, 366, 391, 392, 393, 394, 395, 396, 397, 398, 399, 400, 401, 402, 403, 404, 405, 381, 382, 383, 406, 407, 408, 409, 410, 411, 412, 413, 414, 415, 416, 417, 418, 419, 420, 421, 422, 423, 424, 425, 426, 427, 428, 429, 982, 983, 984, 985, 986, 987, 988, 989, 990, 991, 992, 993, 994] (by decide +kernel) (by decide +kernel)
set_option maxRecDepth 20000 in
theorem gL_law_X5_seaThen : GoodIn wsL_law (wsV RL 76 RX5 yX5_seaThen wsX5_seaThen) := goodIn_app (goodIn_of _ (by decide +kernel)) ggL_law_X5_seaThen
set_option maxRecDepth 20000 in
theorem ggL_law_X4_comes : GoodIn wsL_law wsX4_comes := goodIn_r _ [583, 16, 450, 451, 452, 2, 453, 15, 83, 84, 85, 86, 33, 210, 211, 212, 213, 214, 215, 216, 14, 217, 218, 219, 220, 221, 222, 37, 223, 224, 225, 226, 38, 39, 40, 41, 584, 585, 586, 587, 266, 267, 268, 269, 270, 271, 272, 273, 274, 275, 276, 277, 147, 278, 279, 280, 281, 282, 283, 284, 285, 286, 287, 288, 289, 290, 291, 292, 293, 294, 295, 296, 297, 298, 299, 300, 301, 302, 303, 304, 305, 306, 307, 308, 309, 310, 311, 312, 313, 314, 315, 150, 151, 316, 146, 148, 971, 972, 973, 974, 975, 976, 977, 978, 979, 980, 981, 995, 996, 997, 998, 999, 1000, 1001, 1002, 1003, 1004, 1005, 1006] (by decide +kernel) (by decide +kernel)
set_option maxRecDepth 20000 in
theorem gL_law_X4_comes : GoodIn wsL_law (wsV RL 77 RX4 yX4_comes wsX4_comes) := goodIn_app (goodIn_of _ (by decide +kernel)) ggL_law_X4_comes
set_option maxRecDepth 20000 in
theorem ggL_law_X5_comes : GoodIn wsL_law wsX5_comes := goodIn_r _ [591, 374, 375, 376, 5, 377, 59, 354, 355, 356, 592, 593, 594, 595, 60, 364, 365, 366, 596, 597, 598, 599, 394, 395, 396, 397, 398, 399, 400, 401, 402, 403, 404, 405, 381, 382, 383, 406, 407, 408, 409, 410, 411, 412, 413, 414, 415, 416, 417, 418, 419, 420, 421, 422, 423, 424, 425, 426, 427, 428, 429, 97, 98, 99, 100, 65, 982, 983, 984, 985, 986, 987, 988, 989, 990, 991, 992, 993, 994] (by decide +kernel) (by decide +kernel)
set_option maxRecDepth 20000 in
theorem gL_law_X5_comes : GoodIn wsL_law (wsV RL 80 RX5 yX5_comes wsX5_comes) := goodIn_app (goodIn_of _ (by decide +kernel)) ggL_law_X5_comes
set_option maxRecDepth 20000 in
theorem ggL_law_X4_door : GoodIn wsL_law wsX4_door := goodIn_r _ [603, 16, 438, 439, 2, 440, 83, 84, 85, 86, 33, 210, 211, 212, 213, 15, 214, 215, 216, 14, 217, 218, 219, 220, 221, 222, 37, 223, 224, 225, 226, 38, 39, 40, 41, 604, 605, 606, 607, 608, 609, 610, 611, 266, 267, 268, 269, 270, 271, 272, 273, 274, 275, 276, 277, 147, 278, 279, 280, 281, 282, 283, 284, 285, 286, 287, 288, 289, 290, 291, 292, 293, 294, 295, 296, 297, 298, 299, 300, 301, 302, 303, 304, 305, 306, 307, 308, 309, 310, 311, 312, 313, 314, 315, 150, 151, 316, 146, 148, 612, 613, 614, 615, 616, 545, 546, 547, 617, 618, 619, 620, 971, 972, 973, 974, 975, 976, 977, 978, 979, 980, 981, 995, 996, 997, 998, 999, 1000, 1001, 1002, 1003, 1004, 1005, 1006] (by decide +kernel) (by decide +kernel)
set_option maxRecDepth 20000 in
theorem gL_law_X4_door : GoodIn wsL_law (wsV RL 81 RX4 yX4_door wsX4_door) := goodIn_app (goodIn_of _ (by decide +kernel)) ggL_law_X4_door
set_option maxRecDepth 20000 in
theorem ggL_law_X5_door : GoodIn wsL_law wsX5_door := goodIn_r _ [624, 59, 60, 354, 355, 5, 356, 97, 98, 99, 100, 65, 364, 365, 366, 397, 398, 399, 400, 401, 402, 403, 404, 405, 381, 382, 383, 406, 407, 408, 409, 410, 411, 412, 413, 414, 415, 416, 417, 418, 419, 420, 421, 422, 423, 424, 425, 426, 625, 626, 627, 427, 428, 429, 394, 395, 396, 982, 983, 984, 985, 986, 987, 988, 989, 990, 991, 992, 993, 994] (by decide +kernel) (by decide +kernel)
set_option maxRecDepth 20000 in
theorem gL_law_X5_door : GoodIn wsL_law (wsV RL 84 RX5 yX5_door wsX5_door) := goodIn_app (goodIn_of _ (by decide +kernel)) ggL_law_X5_door
set_option maxRecDepth 20000 in
theorem ggL_law_X4_crew : GoodIn wsL_law wsX4_crew := goodIn_r _ [631, 450, 451, 452, 2, 453, 15, 71, 72, 73, 74, 75, 76, 77, 78, 79, 80, 81, 82, 83, 84, 85, 86, 33, 632, 633, 634, 635, 636, 637, 297, 638, 639, 640, 641, 642, 643, 644, 645, 16, 210, 211, 212, 213, 214, 215, 216, 14, 217, 218, 219, 220, 221, 222, 37, 223, 224, 225, 226, 38, 39, 40, 41, 646, 647, 648, 649, 650, 322, 323, 324, 584, 585, 586, 587, 266, 267, 268, 269, 270, 271, 272, 273, 274, 275, 276, 277, 147, 278, 279, 280, 281, 282, 283, 284, 285, 286, 287, 288, 289, 290, 291, 292, 293, 294, 295, 296, 298, 299, 300, 301, 302, 303, 304, 305, 306, 307, 308, 309, 310, 311, 312, 313, 314, 315, 150, 151, 316, 146, 148, 971, 972, 973, 974, 975, 976, 977, 978, 979, 980, 981, 995, 996, 997, 998, 999, 1000, 1001, 1002, 1003, 1004, 1005, 1006] (by decide +kernel) (by decide +kernel)
set_option maxRecDepth 20000 in
theorem gL_law_X4_crew : GoodIn wsL_law (wsV RL 85 RX4 yX4_crew wsX4_crew) := goodIn_app (goodIn_of _ (by decide +kernel)) ggL_law_X4_crew
set_option maxRecDepth 20000 in
theorem ggL_law_X5_crew : GoodIn wsL_law wsX5_crew := goodIn_r _ [654, 59, 60, 655, 656, 657, 5, 658, 374, 375, 376, 377, 354, 355, 356, 529, 530, 531, 97, 98, 99, 100, 65, 659, 660, 661, 364, 365, 366, 381, 382, 383, 596, 597, 598, 599, 394, 395, 396, 397, 398, 399, 400, 401, 402, 403, 404, 405, 406, 407, 408, 409, 410, 411, 412, 413, 414, 415, 416, 417, 418, 419, 420, 421, 422, 423, 424, 425, 426, 427, 428, 429, 982, 983, 984, 985, 986, 987, 988, 989, 990, 991, 992, 993, 994] (by decide +kernel) (by decide +kernel)
set_option maxRecDepth 20000 in
theorem gL_law_X5_crew : GoodIn wsL_law (wsV RL 88 RX5 yX5_crew wsX5_crew) := goodIn_app (goodIn_of _ (by decide +kernel)) ggL_law_X5_crew
set_option maxRecDepth 20000 in
theorem ggL_law_X4_ashore : GoodIn wsL_law wsX4_ashore := goodIn_r _ [665, 16, 15, 450, 451, 452, 2, 453, 83, 84, 85, 86, 33, 210, 211, 212, 213, 214, 215, 216, 14, 217, 218, 219, 220, 221, 222, 37, 223, 224, 225, 226, 38, 39, 40, 41, 584, 585, 586, 587, 266, 267, 268, 269, 270, 271, 272, 273, 274, 275, 276, 277, 147, 278, 279, 280, 281, 282, 283, 284, 285, 286, 287, 288, 289, 290, 291, 292, 293, 294, 295, 296, 297, 298, 299, 300, 301, 302, 303, 304, 305, 306, 307, 308, 309, 310, 311, 312, 313, 314, 315, 150, 151, 316, 146, 148, 666, 667, 668, 669, 670, 671, 672, 971, 972, 973, 974, 975, 976, 977, 978, 979, 980, 981, 995, 996, 997, 998, 999, 1000, 1001, 1002, 1003, 1004, 1005, 1006] (by decide +kernel) (by decide +kernel)
set_option maxRecDepth 20000 in
theorem gL_law_X4_ashore : GoodIn wsL_law (wsV RL 89 RX4 yX4_ashore wsX4_ashore) := goodIn_app (goodIn_of _ (by decide +kernel)) ggL_law_X4_ashore
set_option maxRecDepth 20000 in
theorem ggL_law_X5_ashore : GoodIn wsL_law wsX5_ashore := goodIn_r _ [676, 59, 60, 374, 375, 376, 5, 377, 354, 355, 356, 97, 98, 99, 100, 65, 592, 593, 594, 595, 364, 365, 366, 596, 597, 598, 599, 394, 395, 396, 397, 398, 399, 400, 401, 402, 403, 404, 405, 381, 382, 383, 406, 407, 408, 409, 410, 411, 412, 413, 414, 415, 416, 417, 418, 419, 420, 421, 422, 423, 424, 425, 426, 427, 428, 429, 677, 678, 679, 982, 983, 984, 985, 986, 987, 988, 989, 990, 991, 992, 993, 994] (by decide +kernel) (by decide +kernel)
set_option maxRecDepth 20000 in
theorem gL_law_X5_ashore : GoodIn wsL_law (wsV RL 92 RX5 yX5_ashore wsX5_ashore) := goodIn_app (goodIn_of _ (by decide +kernel)) ggL_law_X5_ashore
set_option maxRecDepth 20000 in
theorem ggL_law_X4_letters : GoodIn wsL_law wsX4_letters := goodIn_r _ [683, 450, 451, 452, 2, 453, 15, 71, 72, 73, 74, 75, 76, 77, 78, 79, 80, 81, 82, 83, 84, 85, 86, 33, 632, 633, 634, 635, 636, 637, 297, 638, 639, 640, 641, 642, 643, 644, 645, 16, 210, 211, 212, 213, 214, 215, 216, 14, 217, 218, 219, 220, 221, 222, 37, 223, 224, 225, 226, 38, 39, 40, 41, 646, 647, 648, 649, 650, 322, 323, 324, 584, 585, 586, 587, 266, 267, 268, 269, 270, 271, 272, 273, 274, 275, 276, 277, 147, 278, 279, 280, 281, 282, 283, 284, 285, 286, 287, 288, 289, 290, 291, 292, 293, 294, 295, 296, 298, 299, 300, 301, 302, 303, 304, 305, 306, 307, 308, 309, 310, 311, 312, 313, 314, 315, 150, 151, 316, 146, 148, 971, 972, 973, 974, 975, 976, 977, 978, 979, 980, 981, 995, 996, 997, 998, 999, 1000, 1001, 1002, 1003, 1004, 1005, 1006] (by decide +kernel) (by decide +kernel)
set_option maxRecDepth 20000 in
theorem gL_law_X4_letters : GoodIn wsL_law (wsV RL 93 RX4 yX4_letters wsX4_letters) := goodIn_app (goodIn_of _ (by decide +kernel)) ggL_law_X4_letters
set_option maxRecDepth 20000 in
theorem ggL_law_X5_letters : GoodIn wsL_law wsX5_letters := goodIn_r _ [687, 59, 60, 655, 656, 657, 5, 658, 374, 375, 376, 377, 354, 355, 356, 529, 530, 531, 97, 98, 99, 100, 65, 659, 660, 661, 364, 365, 366, 688, 689, 690, 388, 389, 390, 381, 382, 383, 596, 597, 598, 599, 394, 395, 396, 397, 398, 399, 400, 401, 402, 403, 404, 405, 406, 407, 408, 409, 410, 411, 412, 413, 414, 415, 416, 417, 418, 419, 420, 421, 422, 423, 424, 425, 426, 427, 428, 429, 982, 983, 984, 985, 986, 987, 988, 989, 990, 991, 992, 993, 994] (by decide +kernel) (by decide +kernel)
set_option maxRecDepth 20000 in
theorem gL_law_X5_letters : GoodIn wsL_law (wsV RL 96 RX5 yX5_letters wsX5_letters) := goodIn_app (goodIn_of _ (by decide +kernel)) ggL_law_X5_letters
set_option maxRecDepth 20000 in
theorem ggL_law_X4_turners : GoodIn wsL_law wsX4_turners := goodIn_r _ [694, 15, 16, 544, 545, 546, 14, 547, 270, 271, 272, 273, 274, 275, 219, 276, 277, 147, 278, 279, 280, 281, 282, 220, 283, 284, 285, 286, 37, 40, 221, 287, 288, 289, 290, 291, 292, 293, 294, 41, 38, 39, 295, 296, 297, 298, 299, 300, 301, 302, 441, 210, 211, 212, 2, 213, 214, 215, 216, 217, 218, 222, 223, 224, 225, 226, 669, 670, 671, 672, 971, 972, 973, 974, 975, 976, 977, 978, 979, 980, 981, 995, 996, 997, 998, 999, 1000, 1001, 1002, 1003, 1004, 1005, 1006] (by decide +kernel) (by decide +kernel)
set_option maxRecDepth 20000 in
theorem gL_law_X4_turners : GoodIn wsL_law (wsV RL 97 RX4 yX4_turners wsX4_turners) := goodIn_app (goodIn_of _ (by decide +kernel)) ggL_law_X4_turners
set_option maxRecDepth 20000 in
theorem ggL_law_X5_turners : GoodIn wsL_law wsX5_turners := goodIn_r _ [698, 59, 403, 404, 5, 405, 381, 382, 383, 397, 398, 399, 400, 401, 402, 406, 407, 408, 409, 410, 411, 412, 413, 414, 415, 416, 417, 418, 419, 420, 421, 422, 423, 424, 425, 426, 982, 983, 984, 985, 986, 987, 988, 989, 990, 991, 992, 993, 994] (by decide +kernel) (by decide +kernel)
set_option maxRecDepth 20000 in
theorem gL_law_X5_turners : GoodIn wsL_law (wsV RL 100 RX5 yX5_turners wsX5_turners) := goodIn_app (goodIn_of _ (by decide +kernel)) ggL_law_X5_turners
set_option maxRecDepth 20000 in
theorem ggL_law_X4_pull : GoodIn wsL_law wsX4_pull := goodIn_r _ [702, 15, 438, 439, 2, 440, 462, 463, 464, 465, 466, 83, 84, 85, 86, 33, 703, 271, 272, 14, 273, 274, 275, 219, 276, 277, 147, 278, 279, 280, 281, 282, 220, 283, 284, 285, 286, 37, 40, 221, 287, 288, 289, 290, 291, 292, 293, 294, 41, 38, 39, 295, 296, 297, 298, 971, 972, 973, 974, 975, 976, 977, 978, 979, 980, 981, 995, 996, 997, 998, 999, 1000, 1001, 1002, 1003, 1004, 1005, 1006] (by decide +kernel) (by decide +kernel)
set_option maxRecDepth 20000 in
theorem gL_law_X4_pull : GoodIn wsL_law (wsV RL 101 RX4 yX4_pull wsX4_pull) := goodIn_app (goodIn_of _ (by decide +kernel)) ggL_law_X4_pull
set_option maxRecDepth 20000 in
theorem ggL_law_X5_pull : GoodIn wsL_law wsX5_pull := goodIn_r _ [707, 59, 354, 355, 5, 356, 400, 401, 402, 403, 404, 405, 381, 382, 383, 406, 407, 408, 409, 410, 411, 412, 413, 414, 415, 416, 417, 418, 419, 420, 421, 422, 423, 424, 425, 426, 484, 485, 486, 487, 488, 97, 98, 99, 100, 65, 982, 983, 984, 985, 986, 987, 988, 989, 990, 991, 992, 993, 994] (by decide +kernel) (by decide +kernel)
set_option maxRecDepth 20000 in
theorem gL_law_X5_pull : GoodIn wsL_law (wsV RL 104 RX5 yX5_pull wsX5_pull) := goodIn_app (goodIn_of _ (by decide +kernel)) ggL_law_X5_pull
set_option maxRecDepth 20000 in
theorem ggL_law_X4_strongest : GoodIn wsL_law wsX4_strongest := goodIn_r _ [711, 15, 477, 277, 147, 278, 467, 468, 469, 14, 470, 40, 471, 472, 473, 474, 221, 37, 475, 2, 476, 478, 307, 308, 479, 309, 310, 291, 292, 293, 294, 41, 38, 39, 441, 280, 281, 282, 220, 971, 972, 973, 974, 975, 976, 977, 978, 979, 980, 981, 995, 996, 997, 998, 999, 1000, 1001, 1002, 1003, 1004, 1005, 1006] (by decide +kernel) (by decide +kernel)
set_option maxRecDepth 20000 in
theorem gL_law_X4_strongest : GoodIn wsL_law (wsV RL 105 RX4 yX4_strongest wsX4_strongest) := goodIn_app (goodIn_of _ (by decide +kernel)) ggL_law_X4_strongest
set_option maxRecDepth 20000 in
theorem ggL_law_X5_strongest : GoodIn wsL_law wsX5_strongest := goodIn_r _ [715, 59, 403, 404, 5, 405, 381, 382, 383, 406, 407, 408, 409, 410, 411, 412, 413, 414, 415, 416, 417, 982, 983, 984, 985, 986, 987, 988, 989, 990, 991, 992, 993, 994] (by decide +kernel) (by decide +kernel)
set_option maxRecDepth 20000 in
theorem gL_law_X5_strongest : GoodIn wsL_law (wsV RL 108 RX5 yX5_strongest wsX5_strongest) := goodIn_app (goodIn_of _ (by decide +kernel)) ggL_law_X5_strongest
set_option maxRecDepth 20000 in
theorem ggL_law_X4_missed : GoodIn wsL_law wsX4_missed := goodIn_r _ [719, 15, 438, 439, 2, 440, 462, 463, 464, 465, 466, 83, 84, 85, 86, 33, 720, 721, 722, 14, 723, 219, 40, 279, 280, 281, 282, 220, 724, 468, 469, 470, 471, 472, 473, 474, 221, 37, 475, 476, 477, 277, 147, 278, 478, 307, 308, 479, 309, 310, 291, 292, 293, 294, 41, 38, 39, 971, 972, 973, 974, 975, 976, 977, 978, 979, 980, 981, 995, 996, 997, 998, 999, 1000, 1001, 1002, 1003, 1004, 1005, 1006] (by decide +kernel) (by decide +kernel)
set_option maxRecDepth 20000 in
theorem gL_law_X4_missed : GoodIn wsL_law (wsV RL 109 RX4 yX4_missed wsX4_missed) := goodIn_app (goodIn_of _ (by decide +kernel)) ggL_law_X4_missed
set_option maxRecDepth 20000 in
theorem ggL_law_X5_missed : GoodIn wsL_law wsX5_missed := goodIn_r _ [728, 59, 354, 355, 5, 356, 484, 485, 486, 487, 488, 97, 98, 99, 100, 65, 729, 730, 731, 732, 403, 404, 405, 381, 382, 383, 406, 407, 408, 409, 410, 411, 412, 413, 414, 415, 416, 417, 982, 983, 984, 985, 986, 987, 988, 989, 990, 991, 992, 993, 994] (by decide +kernel) (by decide +kernel)
set_option maxRecDepth 20000 in
theorem gL_law_X5_missed : GoodIn wsL_law (wsV RL 112 RX5 yX5_missed wsX5_missed) := goodIn_app (goodIn_of _ (by decide +kernel)) ggL_law_X5_missed
set_option maxRecDepth 20000 in
theorem ggL_law_X4_opposed : GoodIn wsL_law wsX4_opposed := goodIn_r _ [736, 15, 441, 280, 281, 14, 282, 220, 737, 738, 739, 740, 283, 284, 285, 286, 37, 40, 221, 287, 288, 289, 290, 971, 972, 973, 974, 975, 976, 977, 978, 979, 980, 981, 995, 996, 997, 998, 999, 1000, 1001, 1002, 1003, 1004, 1005, 1006] (by decide +kernel) (by decide +kernel)
set_option maxRecDepth 20000 in
theorem gL_law_X4_opposed : GoodIn wsL_law (wsV RL 113 RX4 yX4_opposed wsX4_opposed) := goodIn_app (goodIn_of _ (by decide +kernel)) ggL_law_X4_opposed
set_option maxRecDepth 20000 in
theorem ggL_law_X5_opposed : GoodIn wsL_law wsX5_opposed := goodIn_r _ [744, 59, 403, 404, 5, 405, 381, 382, 383, 418, 419, 420, 409, 410, 411, 421, 422, 423, 424, 425, 426, 982, 983, 984, 985, 986, 987, 988, 989, 990, 991, 992, 993, 994] (by decide +kernel) (by decide +kernel)
set_option maxRecDepth 20000 in
theorem gL_law_X5_opposed : GoodIn wsL_law (wsV RL 116 RX5 yX5_opposed wsX5_opposed) := goodIn_app (goodIn_of _ (by decide +kernel)) ggL_law_X5_opposed
set_option maxRecDepth 20000 in
theorem ggL_law_X4_sign : GoodIn wsL_law wsX4_sign := goodIn_r _ [748, 450, 451, 452, 2, 453, 15, 438, 439, 440, 80, 81, 82, 83, 84, 85, 86, 33, 666, 667, 668, 749, 750, 751, 752, 16, 210, 211, 212, 213, 214, 215, 216, 14, 217, 218, 219, 220, 221, 222, 37, 223, 224, 225, 226, 38, 39, 40, 41, 250, 251, 252, 253, 584, 585, 586, 587, 266, 267, 268, 269, 270, 271, 272, 273, 274, 275, 276, 277, 147, 278, 279, 280, 281, 282, 283, 284, 285, 286, 287, 288, 289, 290, 291, 292, 293, 294, 295, 296, 297, 298, 299, 300, 301, 302, 303, 304, 305, 306, 307, 308, 309, 310, 311, 312, 313, 314, 315, 150, 151, 316, 146, 148, 971, 972, 973, 974, 975, 976, 977, 978, 979, 980, 981, 995, 996, 997, 998, 999, 1000, 1001, 1002, 1003, 1004, 1005, 1006] (by decide +kernel) (by decide +kernel)
set_option maxRecDepth 20000 in
theorem gL_law_X4_sign : GoodIn wsL_law (wsV RL 117 RX4 yX4_sign wsX4_sign) := goodIn_app (goodIn_of _ (by decide +kernel)) ggL_law_X4_sign
set_option maxRecDepth 20000 in
theorem ggL_law_X5_sign : GoodIn wsL_law wsX5_sign := goodIn_r _ [756, 488, 59, 60, 374, 375, 376, 5, 377, 354, 355, 356, 97, 98, 99, 100, 65, 364, 365, 366, 378, 379, 380, 381, 382, 383, 596, 597, 598, 599, 394, 395, 396, 397, 398, 399, 400, 401, 402, 403, 404, 405, 406, 407, 408, 409, 410, 411, 412, 413, 414, 415, 416, 417, 418, 419, 420, 421, 422, 423, 424, 425, 426, 427, 428, 429, 982, 983, 984, 985, 986, 987, 988, 989, 990, 991, 992, 993, 994] (by decide +kernel) (by decide +kernel)
set_option maxRecDepth 20000 in
theorem gL_law_X5_sign : GoodIn wsL_law (wsV RL 120 RX5 yX5_sign wsX5_sign) := goodIn_app (goodIn_of _ (by decide +kernel)) ggL_law_X5_sign
set_option maxRecDepth 20000 in
theorem ggL_law_X4_home : GoodIn wsL_law wsX4_home := goodIn_r _ [760, 15, 434, 435, 436, 2, 437, 83, 84, 85, 86, 33, 761, 472, 473, 14, 474, 221, 37, 475, 476, 477, 277, 147, 278, 478, 307, 308, 479, 309, 310, 971, 972, 973, 974, 975, 976, 977, 978, 979, 980, 981, 995, 996, 997, 998, 999, 1000, 1001, 1002, 1003, 1004, 1005, 1006] (by decide +kernel) (by decide +kernel)
set_option maxRecDepth 20000 in
theorem gL_law_X4_home : GoodIn wsL_law (wsV RL 121 RX4 yX4_home wsX4_home) := goodIn_app (goodIn_of _ (by decide +kernel)) ggL_law_X4_home
set_option maxRecDepth 20000 in
theorem ggL_law_X5_home : GoodIn wsL_law wsX5_home := goodIn_r _ [765, 59, 384, 385, 386, 5, 387, 354, 355, 356, 409, 410, 411, 381, 382, 383, 412, 413, 414, 415, 416, 417, 97, 98, 99, 100, 65, 982, 983, 984, 985, 986, 987, 988, 989, 990, 991, 992, 993, 994] (by decide +kernel) (by decide +kernel)
set_option maxRecDepth 20000 in
theorem gL_law_X5_home : GoodIn wsL_law (wsV RL 124 RX5 yX5_home wsX5_home) := goodIn_app (goodIn_of _ (by decide +kernel)) ggL_law_X5_home
set_option maxRecDepth 20000 in
theorem ggL_law_X4_nearest : GoodIn wsL_law wsX4_nearest := goodIn_r _ [769, 15, 761, 472, 473, 14, 474, 221, 37, 475, 2, 476, 477, 277, 147, 278, 478, 307, 308, 479, 309, 310, 971, 972, 973, 974, 975, 976, 977, 978, 979, 980, 981, 995, 996, 997, 998, 999, 1000, 1001, 1002, 1003, 1004, 1005, 1006] (by decide +kernel) (by decide +kernel)
set_option maxRecDepth 20000 in
theorem gL_law_X4_nearest : GoodIn wsL_law (wsV RL 125 RX4 yX4_nearest wsX4_nearest) := goodIn_app (goodIn_of _ (by decide +kernel)) ggL_law_X4_nearest
set_option maxRecDepth 20000 in
theorem ggL_law_X5_nearest : GoodIn wsL_law wsX5_nearest := goodIn_r _ [773, 59, 412, 413, 5, 414, 415, 416, 417, 982, 983, 984, 985, 986, 987, 988, 989, 990, 991, 992, 993, 994] (by decide +kernel) (by decide +kernel)
set_option maxRecDepth 20000 in
theorem gL_law_X5_nearest : GoodIn wsL_law (wsV RL 128 RX5 yX5_nearest wsX5_nearest) := goodIn_app (goodIn_of _ (by decide +kernel)) ggL_law_X5_nearest
set_option maxRecDepth 20000 in
theorem ggL_law_X4_way : GoodIn wsL_law wsX4_way := goodIn_r _ [777, 16, 71, 72, 2, 73, 74, 75, 76, 77, 78, 79, 80, 81, 82, 83, 84, 85, 86, 33, 210, 211, 212, 213, 15, 214, 215, 216, 14, 217, 218, 219, 220, 221, 222, 37, 223, 224, 225, 226, 38, 39, 40, 41, 262, 263, 264, 265, 266, 267, 268, 269, 270, 271, 272, 273, 274, 275, 276, 277, 147, 278, 279, 280, 281, 282, 283, 284, 285, 286, 287, 288, 289, 290, 291, 292, 293, 294, 295, 296, 297, 298, 299, 300, 301, 302, 303, 304, 305, 306, 307, 308, 309, 310, 311, 312, 313, 314, 315, 150, 151, 316, 146, 148, 971, 972, 973, 974, 975, 976, 977, 978, 979, 980, 981, 995, 996, 997, 998, 999, 1000, 1001, 1002, 1003, 1004, 1005, 1006] (by decide +kernel) (by decide +kernel)
set_option maxRecDepth 20000 in
theorem gL_law_X4_way : GoodIn wsL_law (wsV RL 129 RX4 yX4_way wsX4_way) := goodIn_app (goodIn_of _ (by decide +kernel)) ggL_law_X4_way
set_option maxRecDepth 20000 in
theorem ggL_law_X5_way : GoodIn wsL_law wsX5_way := goodIn_r _ [781, 59, 60, 529, 530, 5, 531, 97, 98, 99, 100, 65, 364, 365, 366, 394, 395, 396, 397, 398, 399, 400, 401, 402, 403, 404, 405, 381, 382, 383, 406, 407, 408, 409, 410, 411, 412, 413, 414, 415, 416, 417, 418, 419, 420, 421, 422, 423, 424, 425, 426, 427, 428, 429, 982, 983, 984, 985, 986, 987, 988, 989, 990, 991, 992, 993, 994] (by decide +kernel) (by decide +kernel)
set_option maxRecDepth 20000 in
theorem gL_law_X5_way : GoodIn wsL_law (wsV RL 132 RX5 yX5_way wsX5_way) := goodIn_app (goodIn_of _ (by decide +kernel)) ggL_law_X5_way
set_option maxRecDepth 20000 in
theorem ggL_law_X4_two : GoodIn wsL_law wsX4_two := goodIn_r _ [785, 32, 434, 435, 436, 2, 437, 15, 80, 81, 82, 71, 72, 73, 74, 75, 76, 77, 78, 79, 83, 84, 85, 86, 33, 786, 787, 788, 789, 16, 210, 211, 212, 213, 214, 215, 216, 14, 217, 218, 219, 220, 221, 222, 37, 223, 224, 225, 226, 38, 39, 40, 41, 646, 647, 648, 649, 650, 322, 323, 324, 262, 263, 264, 265, 266, 267, 268, 269, 270, 271, 272, 273, 274, 275, 276, 277, 147, 278, 279, 280, 281, 282, 283, 284, 285, 286, 287, 288, 289, 290, 291, 292, 293, 294, 295, 296, 297, 298, 299, 300, 301, 302, 303, 304, 305, 306, 307, 308, 309, 310, 311, 312, 313, 314, 315, 150, 151, 316, 146, 148, 790, 791, 792, 793, 794, 475, 476, 477, 478, 479, 971, 972, 973, 974, 975, 976, 977, 978, 979, 980, 981, 995, 996, 997, 998, 999, 1000, 1001, 1002, 1003, 1004, 1005, 1006] (by decide +kernel) (by decide +kernel)
set_option maxRecDepth 20000 in
theorem gL_law_X4_two : GoodIn wsL_law (wsV RL 133 RX4 yX4_two wsX4_two) := goodIn_app (goodIn_of _ (by decide +kernel)) ggL_law_X4_two
set_option maxRecDepth 20000 in
theorem ggL_law_X5_two : GoodIn wsL_law wsX5_two := goodIn_r _ [798, 384, 385, 386, 5, 387, 59, 354, 355, 356, 529, 530, 531, 97, 98, 99, 100, 65, 799, 800, 801, 802, 60, 364, 365, 366, 388, 389, 390, 381, 382, 383, 391, 392, 393, 394, 395, 396, 397, 398, 399, 400, 401, 402, 403, 404, 405, 406, 407, 408, 409, 410, 411, 412, 413, 414, 415, 416, 417, 418, 419, 420, 421, 422, 423, 424, 425, 426, 427, 428, 429, 982, 983, 984, 985, 986, 987, 988, 989, 990, 991, 992, 993, 994] (by decide +kernel) (by decide +kernel)
set_option maxRecDepth 20000 in
theorem gL_law_X5_two : GoodIn wsL_law (wsV RL 136 RX5 yX5_two wsX5_two) := goodIn_app (goodIn_of _ (by decide +kernel)) ggL_law_X5_two
set_option maxRecDepth 20000 in
theorem ggL_law_X4_storm : GoodIn wsL_law wsX4_storm := goodIn_r _ [806, 25, 16, 15, 450, 451, 452, 2, 453, 74, 75, 76, 80, 81, 82, 77, 78, 79, 438, 439, 440, 807, 808, 809, 810, 811, 83, 84, 85, 86, 33, 210, 211, 212, 213, 214, 215, 216, 14, 217, 218, 219, 220, 221, 222, 37, 223, 224, 225, 226, 38, 39, 40, 41, 812, 813, 814, 24, 815, 50, 816, 817, 818, 819, 820, 51, 821, 822, 545, 546, 547, 270, 271, 272, 273, 274, 275, 276, 277, 147, 278, 279, 280, 281, 282, 283, 284, 285, 286, 287, 288, 289, 290, 291, 292, 293, 294, 295, 296, 297, 298, 299, 300, 301, 302, 823, 304, 305, 306, 307, 308, 309, 310, 824, 312, 313, 314, 315, 150, 151, 316, 146, 148, 825, 826, 827, 828, 829, 830, 971, 972, 973, 974, 975, 976, 977, 978, 979, 980, 981, 1009, 1010, 1011, 995, 996, 997, 998, 999, 1000, 1001, 1002, 1003, 1004, 1005, 1006] (by decide +kernel) (by decide +kernel)
set_option maxRecDepth 20000 in
theorem gL_law_X4_storm : GoodIn wsL_law (wsV RL 137 RX4 yX4_storm wsX4_storm) := goodIn_app (goodIn_of _ (by decide +kernel)) ggL_law_X4_storm
set_option maxRecDepth 20000 in
theorem ggL_law_X5_storm : GoodIn wsL_law wsX5_storm := goodIn_r _ [834, 59, 60, 374, 375, 376, 5, 377, 354, 355, 356, 835, 836, 837, 838, 839, 97, 98, 99, 100, 65, 364, 365, 366, 688, 689, 690, 394, 395, 396, 397, 398, 399, 400, 401, 402, 403, 404, 405, 381, 382, 383, 406, 407, 408, 409, 410, 411, 412, 413, 414, 415, 416, 417, 418, 419, 420, 421, 422, 423, 424, 425, 426, 427, 428, 429, 840, 841, 842, 843, 844, 845, 982, 983, 984, 985, 986, 987, 988, 989, 990, 991, 992, 993, 994] (by decide +kernel) (by decide +kernel)
set_option maxRecDepth 20000 in
theorem gL_law_X5_storm : GoodIn wsL_law (wsV RL 141 RX5 yX5_storm wsX5_storm) := goodIn_app (goodIn_of _ (by decide +kernel)) ggL_law_X5_storm
set_option maxRecDepth 20000 in
theorem ggL_law_X4_mean : GoodIn wsL_law wsX4_mean := goodIn_r _ [849, 15, 438, 439, 2, 440, 807, 808, 809, 810, 811, 83, 84, 85, 86, 33, 441, 280, 281, 14, 282, 220, 825, 826, 827, 828, 829, 830, 971, 972, 973, 974, 975, 976, 977, 978, 979, 980, 981, 995, 996, 997, 998, 999, 1000, 1001, 1002, 1003, 1004, 1005, 1006] (by decide +kernel) (by decide +kernel)
set_option maxRecDepth 20000 in
theorem gL_law_X4_mean : GoodIn wsL_law (wsV RL 142 RX4 yX4_mean wsX4_mean) := goodIn_app (goodIn_of _ (by decide +kernel)) ggL_law_X4_mean
set_option maxRecDepth 20000 in
theorem ggL_law_X5_mean : GoodIn wsL_law wsX5_mean := goodIn_r _ [853, 59, 354, 355, 5, 356, 854, 855, 856, 857, 403, 404, 405, 381, 382, 383, 858, 859, 860, 659, 660, 661, 840, 841, 842, 843, 844, 845, 835, 836, 837, 838, 839, 97, 98, 99, 100, 65, 982, 983, 984, 985, 986, 987, 988, 989, 990, 991, 992, 993, 994] (by decide +kernel) (by decide +kernel)
set_option maxRecDepth 20000 in
theorem gL_law_X5_mean : GoodIn wsL_law (wsV RL 146 RX5 yX5_mean wsX5_mean) := goodIn_app (goodIn_of _ (by decide +kernel)) ggL_law_X5_mean
set_option maxRecDepth 20000 in
theorem ggL_law_X4_log : GoodIn wsL_law wsX4_log := goodIn_r _ [864, 434, 435, 436, 2, 437, 15, 438, 439, 440, 80, 81, 82, 83, 84, 85, 86, 33, 865, 866, 867, 868, 16, 210, 211, 212, 213, 214, 215, 216, 14, 217, 218, 219, 220, 221, 222, 37, 223, 224, 225, 226, 38, 39, 40, 41, 869, 870, 871, 872, 873, 31, 874, 267, 268, 269, 270, 271, 272, 273, 274, 275, 276, 277, 147, 278, 279, 280, 281, 282, 283, 284, 285, 286, 287, 288, 289, 290, 291, 292, 293, 294, 295, 296, 297, 298, 299, 300, 301, 302, 303, 304, 305, 306, 307, 308, 309, 310, 311, 312, 313, 314, 315, 150, 151, 316, 146, 148, 875, 876, 877, 878, 971, 972, 973, 974, 975, 976, 977, 978, 979, 980, 981, 995, 996, 997, 998, 999, 1000, 1001, 1002, 1003, 1004, 1005, 1006] (by decide +kernel) (by decide +kernel)
set_option maxRecDepth 20000 in
theorem gL_law_X4_log : GoodIn wsL_law (wsV RL 147 RX4 yX4_log wsX4_log) := goodIn_app (goodIn_of _ (by decide +kernel)) ggL_law_X4_log
set_option maxRecDepth 20000 in
theorem ggL_law_X5_log : GoodIn wsL_law wsX5_log := goodIn_r _ [882, 59, 60, 883, 64, 384, 385, 386, 5, 387, 354, 355, 356, 97, 98, 99, 100, 65, 364, 365, 366, 381, 382, 383, 394, 395, 396, 397, 398, 399, 400, 401, 402, 403, 404, 405, 406, 407, 408, 409, 410, 411, 412, 413, 414, 415, 416, 417, 418, 419, 420, 421, 422, 423, 424, 425, 426, 427, 428, 429, 982, 983, 984, 985, 986, 987, 988, 989, 990, 991, 992, 993, 994] (by decide +kernel) (by decide +kernel)
set_option maxRecDepth 20000 in
theorem gL_law_X5_log : GoodIn wsL_law (wsV RL 150 RX5 yX5_log wsX5_log) := goodIn_app (goodIn_of _ (by decide +kernel)) ggL_law_X5_log
set_option maxRecDepth 20000 in
theorem ggL_law_X4_row : GoodIn wsL_law wsX4_row := goodIn_r _ [887, 873, 31, 71, 72, 2, 73, 74, 75, 76, 77, 78, 79, 80, 81, 82, 83, 84, 85, 86, 33, 971, 972, 973, 974, 975, 976, 977, 978, 979, 980, 981] (by decide +kernel) (by decide +kernel)
set_option maxRecDepth 20000 in
theorem gL_law_X4_row : GoodIn wsL_law (wsV RL 151 RX4 yX4_row wsX4_row) := goodIn_app (goodIn_of _ (by decide +kernel)) ggL_law_X4_row
set_option maxRecDepth 20000 in
theorem ggL_law_X5_row : GoodIn wsL_law wsX5_row := goodIn_r _ [891, 883, 64, 529, 530, 5, 531, 97, 98, 99, 100, 65, 982, 983, 984, 985, 986, 987, 988, 989, 990, 991, 992, 993, 994] (by decide +kernel) (by decide +kernel)
set_option maxRecDepth 20000 in
theorem gL_law_X5_row : GoodIn wsL_law (wsV RL 154 RX5 yX5_row wsX5_row) := goodIn_app (goodIn_of _ (by decide +kernel)) ggL_law_X5_row
set_option maxRecDepth 20000 in
theorem ggL_law_X4_judge : GoodIn wsL_law wsX4_judge := goodIn_r _ [895, 873, 896, 897, 898, 2, 899, 16, 31, 210, 211, 212, 213, 15, 214, 215, 216, 14, 217, 218, 219, 220, 221, 222, 37, 223, 224, 225, 226, 38, 39, 40, 41, 544, 545, 546, 547, 270, 271, 272, 273, 274, 275, 276, 277, 147, 278, 279, 280, 281, 282, 283, 284, 285, 286, 287, 288, 289, 290, 291, 292, 293, 294, 295, 296, 297, 298, 299, 300, 301, 302, 874, 267, 268, 269, 303, 304, 305, 306, 307, 308, 309, 310, 311, 312, 313, 314, 315, 150, 151, 316, 146, 148, 971, 972, 973, 974, 975, 976, 977, 978, 979, 980, 981, 995, 996, 997, 998, 999, 1000, 1001, 1002, 1003, 1004, 1005, 1006] (by decide +kernel) (by decide +kernel)
set_option maxRecDepth 20000 in
theorem gL_law_X4_judge : GoodIn wsL_law (wsV RL 155 RX4 yX4_judge wsX4_judge) := goodIn_app (goodIn_of _ (by decide +kernel)) ggL_law_X4_judge
set_option maxRecDepth 20000 in
theorem ggL_law_X5_judge : GoodIn wsL_law wsX5_judge := goodIn_r _ [903, 883, 59, 60, 64, 364, 365, 5, 366, 397, 398, 399, 400, 401, 402, 403, 404, 405, 381, 382, 383, 406, 407, 408, 409, 410, 411, 412, 413, 414, 415, 416, 417, 418, 419, 420, 421, 422, 423, 424, 425, 426, 394, 395, 396, 427, 428, 429, 982, 983, 984, 985, 986, 987, 988, 989, 990, 991, 992, 993, 994] (by decide +kernel) (by decide +kernel)
set_option maxRecDepth 20000 in
theorem gL_law_X5_judge : GoodIn wsL_law (wsV RL 158 RX5 yX5_judge wsX5_judge) := goodIn_app (goodIn_of _ (by decide +kernel)) ggL_law_X5_judge
set_option maxRecDepth 20000 in
theorem ggL_law_X4_clear : GoodIn wsL_law wsX4_clear := goodIn_r _ [907, 873, 971, 972, 973, 974, 975, 976, 977, 978, 979, 980, 981] (by decide +kernel) (by decide +kernel)
set_option maxRecDepth 20000 in
theorem gL_law_X4_clear : GoodIn wsL_law (wsV RL 159 RX4 yX4_clear wsX4_clear) := goodIn_app (goodIn_of _ (by decide +kernel)) ggL_law_X4_clear
set_option maxRecDepth 20000 in
theorem ggL_law_X5_clear : GoodIn wsL_law wsX5_clear := goodIn_r _ [911, 883, 982, 983, 984, 985, 986, 987, 988, 989, 990, 991, 992, 993, 994] (by decide +kernel) (by decide +kernel)
set_option maxRecDepth 20000 in
theorem gL_law_X5_clear : GoodIn wsL_law (wsV RL 162 RX5 yX5_clear wsX5_clear) := goodIn_app (goodIn_of _ (by decide +kernel)) ggL_law_X5_clear
set_option maxRecDepth 20000 in
theorem ggL_law_X4_lots : GoodIn wsL_law wsX4_lots := goodIn_r _ [915, 29, 16, 71, 72, 2, 73, 74, 75, 76, 77, 78, 79, 80, 81, 82, 438, 439, 440, 83, 84, 85, 86, 33, 210, 211, 212, 213, 15, 214, 215, 216, 14, 217, 218, 219, 220, 221, 222, 37, 223, 224, 225, 226, 38, 39, 40, 41, 916, 917, 918, 28, 919, 920, 921, 922, 923, 924, 925, 926, 927, 262, 263, 264, 265, 266, 267, 268, 269, 270, 271, 272, 273, 274, 275, 276, 277, 147, 278, 279, 280, 281, 282, 283, 284, 285, 286, 287, 288, 289, 290, 291, 292, 293, 294, 295, 296, 297, 298, 299, 300, 301, 302, 303, 304, 305, 306, 307, 308, 309, 310, 311, 312, 313, 314, 315, 150, 151, 316, 146, 148, 928, 609, 610, 611, 971, 972, 973, 974, 975, 976, 977, 978, 979, 980, 981, 1012, 995, 996, 997, 998, 999, 1000, 1001, 1002, 1003, 1004, 1005, 1006] (by decide +kernel) (by decide +kernel)
set_option maxRecDepth 20000 in
theorem gL_law_X4_lots : GoodIn wsL_law (wsV RL 163 RX4 yX4_lots wsX4_lots) := goodIn_app (goodIn_of _ (by decide +kernel)) ggL_law_X4_lots
set_option maxRecDepth 20000 in
theorem ggL_law_X5_lots : GoodIn wsL_law wsX5_lots := goodIn_r _ [932, 933, 59, 60, 97, 98, 99, 5, 100, 65, 354, 355, 356, 364, 365, 366, 934, 935, 936, 937, 938, 939, 940, 381, 382, 383, 391, 392, 393, 394, 395, 396, 397, 398, 399, 400, 401, 402, 403, 404, 405, 406, 407, 408, 409, 410, 411, 412, 413, 414, 415, 416, 417, 418, 419, 420, 421, 422, 423, 424, 425, 426, 427, 428, 429, 625, 626, 627, 982, 983, 984, 985, 986, 987, 988, 989, 990, 991, 992, 993, 994] (by decide +kernel) (by decide +kernel)
set_option maxRecDepth 20000 in
theorem gL_law_X5_lots : GoodIn wsL_law (wsV RL 166 RX5 yX5_lots wsX5_lots) := goodIn_app (goodIn_of _ (by decide +kernel)) ggL_law_X5_lots
set_option maxRecDepth 20000 in
theorem ggL_law_X4_image : GoodIn wsL_law wsX4_image := goodIn_r _ [944, 17, 15, 945, 214, 215, 216, 14, 217, 218, 219, 220, 221, 222, 37, 223, 224, 225, 226, 38, 39, 40, 41, 971, 972, 973, 974, 975, 976, 977, 978, 979, 980, 981, 995, 996, 997, 998, 999, 1000, 1001, 1002, 1003, 1004, 1005, 1006] (by decide +kernel) (by decide +kernel)
set_option maxRecDepth 20000 in
theorem gL_law_X4_image : GoodIn wsL_law (wsV RL 167 RX4 yX4_image wsX4_image) := goodIn_app (goodIn_of _ (by decide +kernel)) ggL_law_X4_image
set_option maxRecDepth 20000 in
theorem ggL_law_X5_image : GoodIn wsL_law wsX5_image := goodIn_r _ [949, 59, 61, 950, 364, 365, 5, 366, 982, 983, 984, 985, 986, 987, 988, 989, 990, 991, 992, 993, 994] (by decide +kernel) (by decide +kernel)
set_option maxRecDepth 20000 in
theorem gL_law_X5_image : GoodIn wsL_law (wsV RL 170 RX5 yX5_image wsX5_image) := goodIn_app (goodIn_of _ (by decide +kernel)) ggL_law_X5_image
set_option maxRecDepth 20000 in
theorem ggL_law_X4_on : GoodIn wsL_law wsX4_on := goodIn_r _ [954, 945, 15, 17, 83, 84, 85, 2, 86, 33, 214, 215, 216, 14, 217, 218, 219, 220, 221, 222, 37, 223, 224, 225, 226, 38, 39, 40, 41, 971, 972, 973, 974, 975, 976, 977, 978, 979, 980, 981, 995, 996, 997, 998, 999, 1000, 1001, 1002, 1003, 1004, 1005, 1006] (by decide +kernel) (by decide +kernel)
set_option maxRecDepth 20000 in
theorem gL_law_X4_on : GoodIn wsL_law (wsV RL 171 RX4 yX4_on wsX4_on) := goodIn_app (goodIn_of _ (by decide +kernel)) ggL_law_X4_on
set_option maxRecDepth 20000 in
theorem ggL_law_X5_on : GoodIn wsL_law wsX5_on := goodIn_r _ [958, 950, 61, 59, 97, 98, 99, 5, 100, 65, 364, 365, 366, 982, 983, 984, 985, 986, 987, 988, 989, 990, 991, 992, 993, 994] (by decide +kernel) (by decide +kernel)
set_option maxRecDepth 20000 in
theorem gL_law_X5_on : GoodIn wsL_law (wsV RL 174 RX5 yX5_on wsX5_on) := goodIn_app (goodIn_of _ (by decide +kernel)) ggL_law_X5_on
set_option maxRecDepth 20000 in
theorem ggL_law_X4_count : GoodIn wsL_law wsX4_count := goodIn_r _ [962, 33, 15, 873, 21, 963, 964, 965, 14, 966, 219, 41, 971, 972, 973, 974, 975, 976, 977, 978, 979, 980, 981, 995, 996, 997, 998, 999, 1000, 1001, 1002, 1003, 1004, 1005, 1006, 1007, 1008] (by decide +kernel) (by decide +kernel)
set_option maxRecDepth 20000 in
theorem gL_law_X4_count : GoodIn wsL_law (wsV RL 175 RX4 yX4_count wsX4_count) := goodIn_app (goodIn_of _ (by decide +kernel)) ggL_law_X4_count
set_option maxRecDepth 20000 in
theorem ggL_law_X5_count : GoodIn wsL_law wsX5_count := goodIn_r _ [970, 65, 59, 883, 96, 354, 355, 5, 356, 858, 859, 860, 381, 382, 383, 854, 855, 856, 857, 403, 404, 405, 982, 983, 984, 985, 986, 987, 988, 989, 990, 991, 992, 993, 994] (by decide +kernel) (by decide +kernel)
set_option maxRecDepth 20000 in
theorem gL_law_X5_count : GoodIn wsL_law (wsV RL 178 RX5 yX5_count wsX5_count) := goodIn_app (goodIn_of _ (by decide +kernel)) ggL_law_X5_count
