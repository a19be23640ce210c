set_option maxRecDepth 20000 in
theorem ggL_law_X5_init : GoodIn wsL_law wsX5_init := goodIn_r _ [9, 10, 11, 12, 13, 14, 15, 16, 17, 18, 19, 20, 21, 22, 23, 24, 25, 26, 27, 28, 29, 30, 31, 32, 33, 34, 35, 36, 37, 38, 39, 40, 41, 42, 43, 44, 45, 46, 47, 48, 49, 50, 51, 52, 53, 54, 55, 56, 57, 58, 59, 60, 61, 62, 63, 64, 65, 66, 67, 68, 69, 70, 71, 72, 73, 74, 980, 981, 982, 983, 984, 985, 986, 987, 988, 989, 990, 991, 959, 960, 961, 962, 963, 964, 965, 966, 967, 992, 993, 994, 995, 996, 997, 998, 999, 1000, 1001, 1002, 1003, 1004, 1005, 1006] (by decide +kernel) (by decide +kernel)
set_option maxRecDepth 20000 in
theorem gL_law_X5_init : GoodIn wsL_law (wsX5_init) := ggL_law_X5_init
set_option maxRecDepth 20000 in
theorem ggL_law_X6_init : GoodIn wsL_law wsX6_init := goodIn_r _ [77, 78, 11, 12, 45, 79, 35, 80, 81, 82, 83, 84, 85, 86, 87, 88, 89, 90, 968, 969, 970, 971, 972, 973, 974, 975, 976, 977, 978, 979] (by decide +kernel) (by decide +kernel)
set_option maxRecDepth 20000 in
theorem gL_law_X6_init : GoodIn wsL_law (wsX6_init) := ggL_law_X6_init
set_option maxRecDepth 20000 in
theorem ggL_law_X5_told : GoodIn wsL_law wsX5_told := goodIn_r _ [94, 16, 24, 28, 20, 37, 95, 96, 97, 98, 15, 99, 100, 101, 102, 103, 104, 105, 48, 106, 107, 108, 109, 110, 111, 112, 113, 42, 114, 115, 116, 117, 43, 118, 119, 120, 121, 122, 123, 124, 125, 49, 126, 127, 128, 129, 130, 2, 131, 132, 133, 134, 135, 136, 137, 138, 139, 27, 140, 141, 142, 143, 144, 145, 65, 66, 67, 146, 147, 148, 149, 150, 151, 152, 153, 154, 155, 156, 157, 158, 44, 159, 160, 161, 162, 163, 164, 165, 46, 166, 167, 168, 169, 170, 171, 172, 173, 174, 175, 176, 177, 178, 179, 47, 180, 181, 182, 183, 184, 185, 186, 187, 188, 189, 50, 190, 191, 192, 193, 194, 195, 196, 197, 198, 199, 200, 201, 202, 203, 204, 205, 206, 207, 208, 209, 210, 211, 212, 213, 214, 215, 216, 217, 218, 219, 220, 221, 222, 223, 224, 225, 226, 227, 228, 229, 230, 68, 231, 232, 233, 234, 235, 236, 237, 238, 239, 240, 241, 242, 243, 244, 245, 246, 247, 248, 249, 29, 250, 251, 252, 253, 254, 255, 256, 257, 258, 259, 260, 261, 262, 263, 264, 265, 266, 267, 268, 269, 270, 271, 272, 273, 274, 23, 275, 276, 60, 61, 277, 278, 959, 960, 961, 962, 963, 964, 965, 966, 967, 980, 981, 982, 983, 984, 985, 986, 987, 988, 989, 990, 991, 995, 996, 997, 992, 993, 994, 998, 999, 1000, 1001, 1002] (by decide +kernel) (by decide +kernel)
set_option maxRecDepth 20000 in
theorem gL_law_X5_told : GoodIn wsL_law (wsV RL 13 RX5 yX5_told wsX5_told) := goodIn_app (goodIn_of _ (by decide +kernel)) ggL_law_X5_told
set_option maxRecDepth 20000 in
theorem ggL_law_X6_told : GoodIn wsL_law wsX6_told := goodIn_r _ [282, 283, 284, 285, 286, 287, 288, 289, 290, 5, 291, 292, 293, 294, 295, 296, 297, 298, 299, 300, 301, 302, 303, 79, 304, 305, 306, 307, 308, 309, 310, 311, 312, 313, 314, 315, 316, 317, 318, 319, 320, 321, 322, 323, 324, 325, 326, 327, 328, 329, 330, 331, 332, 333, 334, 335, 336, 337, 338, 339, 340, 341, 342, 343, 344, 345, 346, 347, 348, 349, 350, 351, 352, 353, 354, 355, 356, 357, 358, 359, 360, 361, 362, 363, 364, 365, 366, 367, 368, 369, 370, 371, 372, 373, 374, 375, 376, 377, 378, 379, 380, 381, 382, 383, 384, 385, 386, 387, 388, 389, 390, 391, 392, 393, 394, 395, 85, 396, 397, 398, 399, 400, 401, 402, 403, 404, 405, 406, 407, 408, 409, 410, 411, 412, 413, 414, 415, 416, 417, 418, 419, 420, 421, 422, 423, 424, 425, 426, 427, 428, 429, 430, 431, 432, 433, 434, 83, 84, 968, 969, 970, 971, 972, 973, 974, 975, 976, 977, 978, 979] (by decide +kernel) (by decide +kernel)
set_option maxRecDepth 20000 in
theorem gL_law_X6_told : GoodIn wsL_law (wsV RL 17 RX6 yX6_told wsX6_told) := goodIn_app (goodIn_of _ (by decide +kernel)) ggL_law_X6_told
set_option maxRecDepth 20000 in
theorem ggL_law_X5_row : GoodIn wsL_law wsX5_row := goodIn_r _ [438, 439, 95, 16, 440, 441, 2, 442, 443, 444, 445, 446, 111, 112, 15, 113, 42, 447, 107, 108, 109, 110, 448, 115, 116, 117, 43, 959, 960, 961, 962, 963, 964, 965, 966, 967, 980, 981, 982, 983, 984, 985, 986, 987, 988, 989, 990, 991] (by decide +kernel) (by decide +kernel)
set_option maxRecDepth 20000 in
theorem gL_law_X5_row : GoodIn wsL_law (wsV RL 18 RX5 yX5_row wsX5_row) := goodIn_app (goodIn_of _ (by decide +kernel)) ggL_law_X5_row
set_option maxRecDepth 20000 in
theorem ggL_law_X6_row : GoodIn wsL_law wsX6_row := goodIn_r _ [452, 453, 288, 454, 455, 5, 456, 457, 289, 290, 291, 319, 320, 321, 322, 79, 315, 316, 317, 318, 323, 324, 325, 326, 968, 969, 970, 971, 972, 973, 974, 975, 976, 977, 978, 979] (by decide +kernel) (by decide +kernel)
set_option maxRecDepth 20000 in
theorem gL_law_X6_row : GoodIn wsL_law (wsV RL 22 RX6 yX6_row wsX6_row) := goodIn_app (goodIn_of _ (by decide +kernel)) ggL_law_X6_row
set_option maxRecDepth 20000 in
theorem ggL_law_X5_cell : GoodIn wsL_law wsX5_cell := goodIn_r _ [461, 462, 463, 16, 440, 441, 2, 442, 443, 444, 445, 464, 465, 466, 15, 467, 468, 469, 470, 471, 110, 111, 112, 113, 42, 106, 107, 108, 109, 114, 115, 116, 117, 43, 126, 127, 128, 129, 130, 131, 132, 472, 156, 157, 158, 44, 159, 160, 161, 473, 163, 164, 165, 46, 959, 960, 961, 962, 963, 964, 965, 966, 967, 980, 981, 982, 983, 984, 985, 986, 987, 988, 989, 990, 991] (by decide +kernel) (by decide +kernel)
set_option maxRecDepth 20000 in
theorem gL_law_X5_cell : GoodIn wsL_law (wsV RL 23 RX5 yX5_cell wsX5_cell) := goodIn_app (goodIn_of _ (by decide +kernel)) ggL_law_X5_cell
set_option maxRecDepth 20000 in
theorem ggL_law_X6_cell : GoodIn wsL_law wsX6_cell := goodIn_r _ [477, 478, 479, 79, 454, 455, 5, 456, 457, 289, 290, 291, 480, 481, 482, 483, 319, 320, 321, 322, 315, 316, 317, 318, 323, 324, 325, 326, 358, 359, 360, 361, 362, 363, 364, 968, 969, 970, 971, 972, 973, 974, 975, 976, 977, 978, 979] (by decide +kernel) (by decide +kernel)
set_option maxRecDepth 20000 in
theorem gL_law_X6_cell : GoodIn wsL_law (wsV RL 27 RX6 yX6_cell wsX6_cell) := goodIn_app (goodIn_of _ (by decide +kernel)) ggL_law_X6_cell
set_option maxRecDepth 20000 in
theorem ggL_law_X5_hand : GoodIn wsL_law wsX5_hand := goodIn_r _ [487, 16, 463, 959, 960, 961, 962, 963, 964, 965, 966, 967, 980, 981, 982, 983, 984, 985, 986, 987, 988, 989, 990, 991] (by decide +kernel) (by decide +kernel)
set_option maxRecDepth 20000 in
theorem gL_law_X5_hand : GoodIn wsL_law (wsV RL 28 RX5 yX5_hand wsX5_hand) := goodIn_app (goodIn_of _ (by decide +kernel)) ggL_law_X5_hand
set_option maxRecDepth 20000 in
theorem ggL_law_X6_hand : GoodIn wsL_law wsX6_hand := goodIn_r _ [491, 79, 479, 968, 969, 970, 971, 972, 973, 974, 975, 976, 977, 978, 979] (by decide +kernel) (by decide +kernel)
set_option maxRecDepth 20000 in
theorem gL_law_X6_hand : GoodIn wsL_law (wsV RL 32 RX6 yX6_hand wsX6_hand) := goodIn_app (goodIn_of _ (by decide +kernel)) ggL_law_X6_hand
set_option maxRecDepth 20000 in
theorem ggL_law_X5_tag : GoodIn wsL_law wsX5_tag := goodIn_r _ [495, 439, 16, 95, 496, 497, 2, 498, 499, 500, 501, 502, 15, 503, 47, 504, 175, 176, 177, 178, 179, 505, 506, 507, 508, 114, 115, 116, 117, 43, 155, 156, 157, 158, 44, 159, 160, 161, 162, 163, 164, 165, 46, 959, 960, 961, 962, 963, 964, 965, 966, 967, 980, 981, 982, 983, 984, 985, 986, 987, 988, 989, 990, 991] (by decide +kernel) (by decide +kernel)
set_option maxRecDepth 20000 in
theorem gL_law_X5_tag : GoodIn wsL_law (wsV RL 33 RX5 yX5_tag wsX5_tag) := goodIn_app (goodIn_of _ (by decide +kernel)) ggL_law_X5_tag
set_option maxRecDepth 20000 in
theorem ggL_law_X6_tag : GoodIn wsL_law wsX6_tag := goodIn_r _ [512, 513, 453, 79, 288, 289, 290, 5, 291, 379, 380, 381, 382, 383, 283, 514, 515, 516, 517, 315, 316, 317, 318, 319, 320, 321, 322, 323, 324, 325, 326, 358, 359, 360, 361, 362, 363, 364, 968, 969, 970, 971, 972, 973, 974, 975, 976, 977, 978, 979] (by decide +kernel) (by decide +kernel)
set_option maxRecDepth 20000 in
theorem gL_law_X6_tag : GoodIn wsL_law (wsV RL 36 RX6 yX6_tag wsX6_tag) := goodIn_app (goodIn_of _ (by decide +kernel)) ggL_law_X6_tag
set_option maxRecDepth 20000 in
theorem ggL_law_X5_keyAt : GoodIn wsL_law wsX5_keyAt := goodIn_r _ [521, 16, 439, 95, 522, 103, 104, 15, 105, 48, 523, 123, 124, 125, 49, 524, 187, 188, 189, 50, 959, 960, 961, 962, 963, 964, 965, 966, 967, 980, 981, 982, 983, 984, 985, 986, 987, 988, 989, 990, 991] (by decide +kernel) (by decide +kernel)
