set_option maxRecDepth 20000 in
theorem gL_law_X5_lay : GoodIn wsL_law (wsV RL 58 RX5 yX5_lay wsX5_lay) := goodIn_app (goodIn_of _ (by decide +kernel)) ggL_law_X5_lay
set_option maxRecDepth 20000 in
theorem ggL_law_X6_lay : GoodIn wsL_law wsX6_lay := goodIn_r _ [667, 453, 89, 668, 288, 79, 90, 454, 455, 5, 456, 457, 289, 290, 291, 669, 670, 671, 672, 286, 673, 674, 675, 676, 319, 320, 321, 322, 362, 363, 364, 968, 969, 970, 971, 972, 973, 974, 975, 976, 977, 978, 979] (by decide +kernel) (by decide +kernel)
set_option maxRecDepth 20000 in
theorem gL_law_X6_lay : GoodIn wsL_law (wsV RL 61 RX6 yX6_lay wsX6_lay) := goodIn_app (goodIn_of _ (by decide +kernel)) ggL_law_X6_lay
set_option maxRecDepth 20000 in
theorem ggL_law_X5_take : GoodIn wsL_law wsX5_take := goodIn_r _ [680, 95, 439, 16, 20, 443, 444, 2, 445, 496, 497, 498, 499, 640, 641, 642, 19, 643, 644, 56, 55, 14, 15, 645, 646, 142, 143, 144, 647, 648, 649, 650, 651, 39, 40, 41, 11, 12, 35, 42, 43, 44, 45, 46, 47, 48, 49, 50, 51, 652, 653, 654, 655, 656, 657, 658, 659, 101, 100, 598, 681, 184, 185, 682, 683, 684, 685, 959, 960, 961, 962, 963, 964, 965, 966, 967, 980, 981, 982, 983, 984, 985, 986, 987, 988, 989, 990, 991, 992, 993, 994] (by decide +kernel) (by decide +kernel)
set_option maxRecDepth 20000 in
theorem gL_law_X5_take : GoodIn wsL_law (wsV RL 64 RX5 yX5_take wsX5_take) := goodIn_app (goodIn_of _ (by decide +kernel)) ggL_law_X5_take
set_option maxRecDepth 20000 in
theorem ggL_law_X6_take : GoodIn wsL_law wsX6_take := goodIn_r _ [689, 90, 288, 513, 453, 79, 289, 290, 5, 291, 669, 670, 671, 672, 286, 673, 674, 675, 676, 690, 691, 692, 693, 372, 373, 374, 283, 968, 969, 970, 971, 972, 973, 974, 975, 976, 977, 978, 979] (by decide +kernel) (by decide +kernel)
set_option maxRecDepth 20000 in
theorem gL_law_X6_take : GoodIn wsL_law (wsV RL 68 RX6 yX6_take wsX6_take) := goodIn_app (goodIn_of _ (by decide +kernel)) ggL_law_X6_take
set_option maxRecDepth 20000 in
theorem ggL_law_X5_pick : GoodIn wsL_law wsX5_pick := goodIn_r _ [697, 439, 95, 16, 20, 440, 441, 2, 442, 443, 444, 445, 464, 465, 466, 15, 467, 468, 469, 470, 471, 110, 111, 112, 113, 42, 106, 107, 108, 109, 114, 115, 116, 117, 43, 126, 127, 128, 129, 130, 131, 132, 472, 156, 157, 158, 44, 159, 160, 161, 473, 163, 164, 165, 46, 681, 184, 185, 640, 641, 642, 19, 643, 644, 56, 55, 14, 645, 646, 142, 143, 144, 647, 648, 649, 650, 651, 39, 40, 41, 11, 12, 35, 45, 47, 48, 49, 50, 51, 652, 653, 654, 655, 656, 657, 658, 659, 101, 100, 598, 682, 683, 684, 685, 959, 960, 961, 962, 963, 964, 965, 966, 967, 980, 981, 982, 983, 984, 985, 986, 987, 988, 989, 990, 991, 992, 993, 994] (by decide +kernel) (by decide +kernel)
set_option maxRecDepth 20000 in
theorem gL_law_X5_pick : GoodIn wsL_law (wsV RL 69 RX5 yX5_pick wsX5_pick) := goodIn_app (goodIn_of _ (by decide +kernel)) ggL_law_X5_pick
set_option maxRecDepth 20000 in
theorem ggL_law_X6_pick : GoodIn wsL_law wsX6_pick := goodIn_r _ [701, 453, 603, 288, 79, 454, 455, 5, 456, 457, 289, 290, 291, 480, 481, 482, 483, 319, 320, 321, 322, 315, 316, 317, 318, 323, 324, 325, 326, 331, 332, 333, 334, 335, 336, 337, 669, 670, 671, 672, 286, 673, 674, 675, 676, 354, 355, 356, 357, 358, 359, 360, 361, 362, 363, 364, 365, 366, 367, 368, 369, 370, 371, 372, 373, 374, 283, 968, 969, 970, 971, 972, 973, 974, 975, 976, 977, 978, 979] (by decide +kernel) (by decide +kernel)
set_option maxRecDepth 20000 in
theorem gL_law_X6_pick : GoodIn wsL_law (wsV RL 72 RX6 yX6_pick wsX6_pick) := goodIn_app (goodIn_of _ (by decide +kernel)) ggL_law_X6_pick
set_option maxRecDepth 20000 in
theorem ggL_law_X5_put : GoodIn wsL_law wsX5_put := goodIn_r _ [705, 439, 95, 16, 706, 20, 440, 441, 2, 442, 443, 444, 445, 608, 609, 610, 15, 611, 468, 469, 470, 471, 110, 111, 112, 113, 42, 106, 107, 108, 109, 114, 115, 116, 117, 43, 130, 131, 132, 612, 613, 614, 179, 640, 641, 642, 19, 643, 644, 56, 55, 14, 645, 646, 142, 143, 144, 647, 648, 649, 650, 651, 39, 40, 41, 11, 12, 35, 44, 45, 46, 47, 48, 49, 50, 51, 652, 653, 654, 655, 656, 657, 658, 659, 101, 100, 598, 615, 616, 617, 618, 184, 185, 619, 620, 621, 622, 159, 160, 161, 959, 960, 961, 962, 963, 964, 965, 966, 967, 980, 981, 982, 983, 984, 985, 986, 987, 988, 989, 990, 991, 992, 993, 994] (by decide +kernel) (by decide +kernel)
set_option maxRecDepth 20000 in
theorem gL_law_X5_put : GoodIn wsL_law (wsV RL 73 RX5 yX5_put wsX5_put) := goodIn_app (goodIn_of _ (by decide +kernel)) ggL_law_X5_put
set_option maxRecDepth 20000 in
theorem ggL_law_X6_put : GoodIn wsL_law wsX6_put := goodIn_r _ [710, 453, 288, 79, 711, 454, 455, 5, 456, 457, 289, 290, 291, 480, 481, 482, 483, 319, 320, 321, 322, 315, 316, 317, 318, 323, 324, 325, 326, 628, 629, 630, 631, 383, 335, 336, 337, 669, 670, 671, 672, 286, 673, 674, 675, 676, 632, 633, 634, 635, 362, 363, 364, 369, 370, 371, 372, 373, 374, 283, 968, 969, 970, 971, 972, 973, 974, 975, 976, 977, 978, 979] (by decide +kernel) (by decide +kernel)
set_option maxRecDepth 20000 in
theorem gL_law_X6_put : GoodIn wsL_law (wsV RL 76 RX6 yX6_put wsX6_put) := goodIn_app (goodIn_of _ (by decide +kernel)) ggL_law_X6_put
set_option maxRecDepth 20000 in
theorem ggL_law_X5_pour : GoodIn wsL_law wsX5_pour := goodIn_r _ [715, 439, 95, 20, 16, 440, 441, 2, 442, 443, 444, 445, 640, 641, 642, 19, 643, 644, 56, 55, 14, 15, 645, 646, 142, 143, 144, 647, 648, 649, 650, 651, 39, 40, 41, 11, 12, 35, 42, 43, 44, 45, 46, 47, 48, 49, 50, 51, 652, 653, 654, 655, 656, 657, 658, 659, 101, 100, 598, 716, 717, 718, 719, 720, 465, 466, 467, 468, 469, 470, 471, 110, 111, 112, 113, 106, 107, 108, 109, 114, 115, 116, 117, 126, 127, 128, 129, 130, 131, 132, 155, 156, 157, 158, 159, 160, 161, 162, 163, 164, 165, 721, 609, 610, 611, 612, 613, 614, 179, 722, 616, 617, 618, 184, 185, 619, 620, 621, 622, 959, 960, 961, 962, 963, 964, 965, 966, 967, 992, 993, 994, 980, 981, 982, 983, 984, 985, 986, 987, 988, 989, 990, 991] (by decide +kernel) (by decide +kernel)
set_option maxRecDepth 20000 in
theorem gL_law_X5_pour : GoodIn wsL_law (wsV RL 77 RX5 yX5_pour wsX5_pour) := goodIn_app (goodIn_of _ (by decide +kernel)) ggL_law_X5_pour
set_option maxRecDepth 20000 in
theorem ggL_law_X6_pour : GoodIn wsL_law wsX6_pour := goodIn_r _ [726, 453, 668, 288, 79, 454, 455, 5, 456, 457, 289, 290, 291, 669, 670, 671, 672, 286, 673, 674, 675, 676, 480, 481, 482, 483, 319, 320, 321, 322, 315, 316, 317, 318, 323, 324, 325, 326, 358, 359, 360, 361, 362, 363, 364, 628, 629, 630, 631, 383, 335, 336, 337, 632, 633, 634, 635, 369, 370, 371, 372, 373, 374, 283, 968, 969, 970, 971, 972, 973, 974, 975, 976, 977, 978, 979] (by decide +kernel) (by decide +kernel)
set_option maxRecDepth 20000 in
theorem gL_law_X6_pour : GoodIn wsL_law (wsV RL 81 RX6 yX6_pour wsX6_pour) := goodIn_app (goodIn_of _ (by decide +kernel)) ggL_law_X6_pour
set_option maxRecDepth 20000 in
theorem ggL_law_X5_weigh : GoodIn wsL_law wsX5_weigh := goodIn_r _ [730, 439, 95, 16, 20, 496, 497, 2, 498, 499, 443, 444, 445, 500, 501, 502, 15, 503, 47, 640, 641, 642, 19, 643, 644, 56, 55, 14, 645, 646, 142, 143, 144, 647, 648, 649, 650, 651, 39, 40, 41, 11, 12, 35, 42, 43, 44, 45, 46, 48, 49, 50, 51, 652, 653, 654, 655, 656, 657, 658, 659, 101, 100, 598, 731, 732, 733, 734, 959, 960, 961, 962, 963, 964, 965, 966, 967, 980, 981, 982, 983, 984, 985, 986, 987, 988, 989, 990, 991, 992, 993, 994] (by decide +kernel) (by decide +kernel)
set_option maxRecDepth 20000 in
theorem gL_law_X5_weigh : GoodIn wsL_law (wsV RL 82 RX5 yX5_weigh wsX5_weigh) := goodIn_app (goodIn_of _ (by decide +kernel)) ggL_law_X5_weigh
set_option maxRecDepth 20000 in
theorem ggL_law_X6_weigh : GoodIn wsL_law wsX6_weigh := goodIn_r _ [738, 513, 453, 739, 740, 288, 79, 289, 290, 5, 291, 669, 670, 671, 672, 286, 673, 674, 675, 676, 968, 969, 970, 971, 972, 973, 974, 975, 976, 977, 978, 979] (by decide +kernel) (by decide +kernel)
set_option maxRecDepth 20000 in
theorem gL_law_X6_weigh : GoodIn wsL_law (wsV RL 85 RX6 yX6_weigh wsX6_weigh) := goodIn_app (goodIn_of _ (by decide +kernel)) ggL_law_X6_weigh
set_option maxRecDepth 20000 in
theorem ggL_law_X5_key : GoodIn wsL_law wsX5_key := goodIn_r _ [744, 439, 95, 16, 745, 20, 440, 441, 2, 442, 443, 444, 445, 640, 641, 642, 19, 643, 644, 56, 55, 14, 15, 645, 646, 142, 143, 144, 647, 648, 649, 650, 651, 39, 40, 41, 11, 12, 35, 42, 43, 44, 45, 46, 47, 48, 49, 50, 51, 652, 653, 654, 655, 656, 657, 658, 659, 101, 100, 598, 746, 747, 748, 749, 959, 960, 961, 962, 963, 964, 965, 966, 967, 980, 981, 982, 983, 984, 985, 986, 987, 988, 989, 990, 991, 992, 993, 994] (by decide +kernel) (by decide +kernel)
