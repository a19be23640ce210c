set_option maxRecDepth 20000 in
theorem wsL_law_r1_in : ∀ w ∈ wsL_law_r1, w ∈ lw_tbl := fun w h => (goodIn_r wsL_law_r1 [74, 75, 63, 738, 739, 69, 1143, 76, 77, 78, 79, 80, 81, 82, 83, 64, 210, 132, 133, 65, 211, 151, 152, 66] (by decide +kernel) (by decide +kernel) w h).1
set_option maxRecDepth 20000 in
theorem wsL_law_r2_in : ∀ w ∈ wsL_law_r2, w ∈ lw_tbl := fun w h => (goodIn_r wsL_law_r2 [212, 168, 169, 67, 213, 214, 191, 192, 68, 215, 216, 130, 217, 218, 84, 85, 86, 87, 88, 89, 90, 131, 91, 92] (by decide +kernel) (by decide +kernel) w h).1
set_option maxRecDepth 20000 in
theorem wsL_law_r3_in : ∀ w ∈ wsL_law_r3, w ∈ lw_tbl := fun w h => (goodIn_r wsL_law_r3 [93, 94, 95, 101, 135, 136, 137, 138, 140, 154, 155, 156, 157, 158, 171, 172, 173, 174, 175, 176, 177, 194, 195, 196] (by decide +kernel) (by decide +kernel) w h).1
set_option maxRecDepth 20000 in
theorem wsL_law_r4_in : ∀ w ∈ wsL_law_r4, w ∈ lw_tbl := fun w h => (goodIn_r wsL_law_r4 [197, 198, 199, 740, 741, 742, 743, 746, 747, 783, 748, 752, 753, 754, 755, 756, 757, 744, 745, 238, 239, 240, 241, 421] (by decide +kernel) (by decide +kernel) w h).1
set_option maxRecDepth 20000 in
theorem wsL_law_r5_in : ∀ w ∈ wsL_law_r5, w ∈ lw_tbl := fun w h => (goodIn_r wsL_law_r5 [242, 243, 244, 245, 99, 97, 246, 247, 248, 249, 250, 251, 252, 253, 254, 255, 256, 257, 258, 259, 260, 261, 262, 264] (by decide +kernel) (by decide +kernel) w h).1
set_option maxRecDepth 20000 in
theorem wsL_law_r6_in : ∀ w ∈ wsL_law_r6, w ∈ lw_tbl := fun w h => (goodIn_r wsL_law_r6 [0, 265, 266, 267, 268, 269, 270, 271, 272, 273, 275, 276, 277, 279, 281, 1, 282, 283, 284, 285, 286, 288, 289, 70] (by decide +kernel) (by decide +kernel) w h).1
set_option maxRecDepth 20000 in
theorem wsL_law_r7_in : ∀ w ∈ wsL_law_r7, w ∈ lw_tbl := fun w h => (goodIn_r wsL_law_r7 [290, 178, 287, 291, 292, 293, 294, 295, 297, 2, 298, 299, 300, 301, 302, 303, 304, 305, 306, 307, 308, 309, 310, 312] (by decide +kernel) (by decide +kernel) w h).1
set_option maxRecDepth 20000 in
theorem wsL_law_r8_in : ∀ w ∈ wsL_law_r8, w ∈ lw_tbl := fun w h => (goodIn_r wsL_law_r8 [3, 313, 314, 315, 71, 316, 317, 318, 319, 320, 321, 322, 323, 324, 72, 325, 327, 328, 329, 330, 331, 332, 333, 335] (by decide +kernel) (by decide +kernel) w h).1
set_option maxRecDepth 20000 in
theorem wsL_law_r9_in : ∀ w ∈ wsL_law_r9, w ∈ lw_tbl := fun w h => (goodIn_r wsL_law_r9 [4, 336, 337, 338, 339, 340, 341, 342, 343, 344, 345, 346, 347, 348, 349, 350, 351, 352, 353, 354, 355, 356, 357, 358] (by decide +kernel) (by decide +kernel) w h).1
set_option maxRecDepth 20000 in
theorem wsL_law_r10_in : ∀ w ∈ wsL_law_r10, w ∈ lw_tbl := fun w h => (goodIn_r wsL_law_r10 [359, 360, 361, 362, 364, 5, 365, 366, 367, 368, 369, 370, 371, 372, 373, 374, 375, 376, 377, 378, 379, 380, 381, 382] (by decide +kernel) (by decide +kernel) w h).1
set_option maxRecDepth 20000 in
theorem wsL_law_r11_in : ∀ w ∈ wsL_law_r11, w ∈ lw_tbl := fun w h => (goodIn_r wsL_law_r11 [383, 384, 385, 386, 387, 388, 389, 391, 6, 392, 393, 394, 395, 396, 397, 399, 7, 400, 401, 402, 403, 404, 405, 406] (by decide +kernel) (by decide +kernel) w h).1
set_option maxRecDepth 20000 in
theorem wsL_law_r12_in : ∀ w ∈ wsL_law_r12, w ∈ lw_tbl := fun w h => (goodIn_r wsL_law_r12 [407, 408, 409, 410, 411, 413, 8, 414, 415, 416, 417, 418, 159, 419, 420, 784, 785, 786, 787, 788, 789, 751, 749, 750] (by decide +kernel) (by decide +kernel) w h).1
set_option maxRecDepth 20000 in
theorem wsL_law_r13_in : ∀ w ∈ wsL_law_r13, w ∈ lw_tbl := fun w h => (goodIn_r wsL_law_r13 [936, 790, 791, 792, 793, 795, 17, 796, 797, 799, 18, 800, 801, 803, 19, 804, 805, 807, 20, 808, 809, 811, 21, 812] (by decide +kernel) (by decide +kernel) w h).1
set_option maxRecDepth 20000 in
theorem wsL_law_r14_in : ∀ w ∈ wsL_law_r14, w ∈ lw_tbl := fun w h => (goodIn_r wsL_law_r14 [813, 814, 815, 816, 818, 22, 819, 820, 822, 23, 823, 824, 826, 24, 827, 828, 830, 25, 831, 832, 834, 26, 835, 836] (by decide +kernel) (by decide +kernel) w h).1
set_option maxRecDepth 20000 in
theorem wsL_law_r15_in : ∀ w ∈ wsL_law_r15, w ∈ lw_tbl := fun w h => (goodIn_r wsL_law_r15 [837, 838, 839, 841, 27, 842, 843, 845, 28, 846, 847, 849, 29, 850, 851, 853, 30, 854, 855, 857, 31, 858, 859, 861] (by decide +kernel) (by decide +kernel) w h).1
set_option maxRecDepth 20000 in
theorem wsL_law_r16_in : ∀ w ∈ wsL_law_r16, w ∈ lw_tbl := fun w h => (goodIn_r wsL_law_r16 [32, 862, 863, 864, 865, 866, 868, 33, 869, 870, 871, 872, 873, 874, 875, 876, 878, 34, 879, 880, 882, 35, 883, 884] (by decide +kernel) (by decide +kernel) w h).1
set_option maxRecDepth 20000 in
theorem wsL_law_r17_in : ∀ w ∈ wsL_law_r17, w ∈ lw_tbl := fun w h => (goodIn_r wsL_law_r17 [885, 887, 36, 888, 889, 891, 37, 892, 893, 895, 38, 896, 897, 899, 39, 900, 901, 903, 40, 904, 905, 907, 41, 908] (by decide +kernel) (by decide +kernel) w h).1
set_option maxRecDepth 20000 in
theorem wsL_law_r18_in : ∀ w ∈ wsL_law_r18, w ∈ lw_tbl := fun w h => (goodIn_r wsL_law_r18 [909, 911, 42, 912, 913, 915, 43, 916, 917, 919, 44, 920, 921, 922, 923, 924, 926, 45, 927, 928, 930, 46, 931, 932] (by decide +kernel) (by decide +kernel) w h).1
set_option maxRecDepth 20000 in
theorem wsL_law_r19_in : ∀ w ∈ wsL_law_r19, w ∈ lw_tbl := fun w h => (goodIn_r wsL_law_r19 [934, 47, 935, 422, 423, 424, 425, 429, 426, 427, 428, 430, 431, 432, 433, 434, 435, 937, 938, 939, 940, 945, 941, 942] (by decide +kernel) (by decide +kernel) w h).1
set_option maxRecDepth 20000 in
theorem wsL_law_r20_in : ∀ w ∈ wsL_law_r20, w ∈ lw_tbl := fun w h => (goodIn_r wsL_law_r20 [943, 944, 436, 437, 438, 439, 440, 441, 442, 443, 444, 445, 446, 448, 9, 449, 451, 452, 946, 947, 948, 949, 950, 951] (by decide +kernel) (by decide +kernel) w h).1
set_option maxRecDepth 20000 in
theorem wsL_law_r21_in : ∀ w ∈ wsL_law_r21, w ∈ lw_tbl := fun w h => (goodIn_r wsL_law_r21 [952, 954, 48, 955, 453, 454, 455, 456, 956, 957, 958, 959, 457, 458, 459, 460, 461, 462, 463, 464, 465, 466, 467, 468] (by decide +kernel) (by decide +kernel) w h).1
set_option maxRecDepth 20000 in
theorem wsL_law_r22_in : ∀ w ∈ wsL_law_r22, w ∈ lw_tbl := fun w h => (goodIn_r wsL_law_r22 [470, 471, 472, 473, 474, 960, 961, 962, 963, 964, 965, 967, 49, 968, 475, 476, 477, 478, 479, 480, 481, 969, 970, 971] (by decide +kernel) (by decide +kernel) w h).1
set_option maxRecDepth 20000 in
theorem wsL_law_r23_in : ∀ w ∈ wsL_law_r23, w ∈ lw_tbl := fun w h => (goodIn_r wsL_law_r23 [972, 482, 483, 484, 485, 486, 487, 488, 489, 490, 491, 492, 493, 494, 495, 496, 497, 498, 499, 500, 973, 974, 975, 976] (by decide +kernel) (by decide +kernel) w h).1
set_option maxRecDepth 20000 in
theorem wsL_law_r24_in : ∀ w ∈ wsL_law_r24, w ∈ lw_tbl := fun w h => (goodIn_r wsL_law_r24 [977, 979, 50, 980, 981, 983, 51, 984, 985, 987, 52, 988, 989, 991, 53, 992, 993, 995, 54, 996, 501, 502, 503, 504] (by decide +kernel) (by decide +kernel) w h).1
set_option maxRecDepth 20000 in
theorem wsL_law_r25_in : ∀ w ∈ wsL_law_r25, w ∈ lw_tbl := fun w h => (goodIn_r wsL_law_r25 [505, 506, 507, 508, 997, 998, 999, 1000, 509, 510, 511, 512, 513, 514, 515, 516, 517, 518, 519, 521, 10, 522, 103, 1001] (by decide +kernel) (by decide +kernel) w h).1
set_option maxRecDepth 20000 in
theorem wsL_law_r26_in : ∀ w ∈ wsL_law_r26, w ∈ lw_tbl := fun w h => (goodIn_r wsL_law_r26 [1002, 1003, 1004, 1005, 524, 525, 526, 527, 528, 529, 530, 531, 532, 533, 534, 535, 536, 537, 538, 539, 540, 541, 542, 543] (by decide +kernel) (by decide +kernel) w h).1
set_option maxRecDepth 20000 in
theorem wsL_law_r27_in : ∀ w ∈ wsL_law_r27, w ∈ lw_tbl := fun w h => (goodIn_r wsL_law_r27 [1006, 1007, 1008, 1009, 1010, 1012, 55, 1013, 1014, 1016, 56, 1017, 544, 545, 546, 547, 548, 549, 550, 551, 141, 142, 563, 552] (by decide +kernel) (by decide +kernel) w h).1
set_option maxRecDepth 20000 in
theorem wsL_law_r28_in : ∀ w ∈ wsL_law_r28, w ∈ lw_tbl := fun w h => (goodIn_r wsL_law_r28 [553, 70, 554, 555, 556, 557, 558, 559, 560, 562, 561, 73, 564, 565, 566, 567, 1018, 1019, 1020, 1021, 1022, 1023, 1025, 57] (by decide +kernel) (by decide +kernel) w h).1
set_option maxRecDepth 20000 in
theorem wsL_law_r29_in : ∀ w ∈ wsL_law_r29, w ∈ lw_tbl := fun w h => (goodIn_r wsL_law_r29 [1026, 1027, 1029, 58, 1030, 569, 570, 571, 572, 573, 574, 575, 576, 577, 1031, 1032, 1033, 1034, 1035, 1036, 1037, 1038, 578, 579] (by decide +kernel) (by decide +kernel) w h).1
set_option maxRecDepth 20000 in
theorem wsL_law_r30_in : ∀ w ∈ wsL_law_r30, w ∈ lw_tbl := fun w h => (goodIn_r wsL_law_r30 [580, 581, 1039, 1040, 1041, 1042, 582, 583, 584, 585, 586, 1043, 1044, 1045, 1046, 1047, 587, 588, 589, 590, 591, 592, 593, 594] (by decide +kernel) (by decide +kernel) w h).1
set_option maxRecDepth 20000 in
theorem wsL_law_r31_in : ∀ w ∈ wsL_law_r31, w ∈ lw_tbl := fun w h => (goodIn_r wsL_law_r31 [595, 596, 597, 1048, 1049, 1050, 1051, 598, 599, 600, 601, 602, 603, 604, 605, 1052, 1053, 1054, 1055, 1056, 1057, 606, 607, 608] (by decide +kernel) (by decide +kernel) w h).1
set_option maxRecDepth 20000 in
theorem wsL_law_r32_in : ∀ w ∈ wsL_law_r32, w ∈ lw_tbl := fun w h => (goodIn_r wsL_law_r32 [609, 610, 611, 612, 613, 614, 1058, 1059, 1060, 1061, 1062, 615, 616, 617, 618, 1063, 1064, 1065, 1066, 619, 620, 621, 622, 1067] (by decide +kernel) (by decide +kernel) w h).1
set_option maxRecDepth 20000 in
theorem wsL_law_r33_in : ∀ w ∈ wsL_law_r33, w ∈ lw_tbl := fun w h => (goodIn_r wsL_law_r33 [1068, 1069, 1070, 1071, 623, 624, 625, 626, 627, 628, 629, 630, 200, 631, 632, 633, 634, 635, 637, 11, 638, 639, 640, 641] (by decide +kernel) (by decide +kernel) w h).1
set_option maxRecDepth 20000 in
theorem wsL_law_r34_in : ∀ w ∈ wsL_law_r34, w ∈ lw_tbl := fun w h => (goodIn_r wsL_law_r34 [642, 643, 645, 12, 646, 647, 648, 649, 650, 651, 652, 653, 1072, 1073, 1074, 1075, 1076, 1078, 59, 1079, 654, 655, 656, 657] (by decide +kernel) (by decide +kernel) w h).1
set_option maxRecDepth 20000 in
theorem wsL_law_r35_in : ∀ w ∈ wsL_law_r35, w ∈ lw_tbl := fun w h => (goodIn_r wsL_law_r35 [658, 660, 13, 661, 662, 664, 14, 665, 666, 667, 668, 669, 670, 1080, 1081, 1082, 1083, 1084, 1086, 60, 1087, 671, 672, 673] (by decide +kernel) (by decide +kernel) w h).1
set_option maxRecDepth 20000 in
theorem wsL_law_r36_in : ∀ w ∈ wsL_law_r36, w ∈ lw_tbl := fun w h => (goodIn_r wsL_law_r36 [674, 1088, 1089, 1090, 1091, 675, 676, 677, 678, 679, 1092, 1093, 1094, 1095, 680, 681, 682, 683, 684, 1096, 1097, 1098, 1099, 1100] (by decide +kernel) (by decide +kernel) w h).1
set_option maxRecDepth 20000 in
theorem wsL_law_r37_in : ∀ w ∈ wsL_law_r37, w ∈ lw_tbl := fun w h => (goodIn_r wsL_law_r37 [685, 686, 687, 688, 1101, 1102, 1103, 1104, 689, 690, 691, 692, 693, 695, 15, 696, 697, 699, 16, 700, 701, 702, 703, 704] (by decide +kernel) (by decide +kernel) w h).1
set_option maxRecDepth 20000 in
theorem wsL_law_r38_in : ∀ w ∈ wsL_law_r38, w ∈ lw_tbl := fun w h => (goodIn_r wsL_law_r38 [1105, 1106, 1107, 1108, 1117, 1109, 1111, 61, 1112, 1113, 1114, 1115, 1116, 705, 706, 707, 708, 709, 710, 711, 712, 1118, 1119, 1120] (by decide +kernel) (by decide +kernel) w h).1
set_option maxRecDepth 20000 in
theorem wsL_law_r39_in : ∀ w ∈ wsL_law_r39, w ∈ lw_tbl := fun w h => (goodIn_r wsL_law_r39 [1121, 1122, 713, 714, 715, 716, 717, 718, 719, 720, 1123, 1124, 1125, 1126, 721, 722, 723, 724, 1127, 1128, 1129, 1130, 725, 726] (by decide +kernel) (by decide +kernel) w h).1
set_option maxRecDepth 20000 in
theorem wsL_law_r40_in : ∀ w ∈ wsL_law_r40, w ∈ lw_tbl := fun w h => (goodIn_r wsL_law_r40 [727, 728, 1131, 1132, 1133, 1134, 729, 730, 731, 732, 733, 1135, 1136, 1137, 1138, 734, 735, 736, 737, 1139, 1140, 1141, 1142] (by decide +kernel) (by decide +kernel) w h).1
set_option maxRecDepth 20000 in
theorem inX0 : ∀ w ∈ wsX00, w ∈ lw_tbl := by decide +kernel
set_option maxRecDepth 20000 in
theorem inX1 : ∀ w ∈ wsX10, w ∈ lw_tbl := by decide +kernel
set_option maxRecDepth 20000 in
theorem inX2 : ∀ w ∈ wsX20, w ∈ lw_tbl := by decide +kernel
set_option maxRecDepth 20000 in
theorem inX3 : ∀ w ∈ wsX30, w ∈ lw_tbl := by decide +kernel
set_option maxRecDepth 20000 in
theorem inX4 : ∀ w ∈ wsX40, w ∈ lw_tbl := by decide +kernel
set_option maxRecDepth 20000 in
theorem inX5 : ∀ w ∈ wsX50, w ∈ lw_tbl := by decide +kernel
set_option maxRecDepth 20000 in
theorem inX6 : ∀ w ∈ wsX60, w ∈ lw_tbl := by decide +kernel
theorem wsL_law_in : ∀ w ∈ wsL_law, w ∈ lw_tbl := by
  intro w h
  unfold wsL_law at h
  have ap : ∀ {a b : List Cond}, (∀ w ∈ a, w ∈ lw_tbl) → (∀ w ∈ b, w ∈ lw_tbl) → ∀ w ∈ a ++ b, w ∈ lw_tbl := fun ha hb w h => (List.mem_append.mp h).elim (ha w) (hb w)
  exact (ap (ap (ap (ap (ap (ap (ap (ap (ap wsL_law_r1_in (ap wsL_law_r2_in (ap wsL_law_r3_in (ap wsL_law_r4_in (ap wsL_law_r5_in (ap wsL_law_r6_in (ap wsL_law_r7_in (ap wsL_law_r8_in (ap wsL_law_r9_in (ap wsL_law_r10_in (ap wsL_law_r11_in (ap wsL_law_r12_in (ap wsL_law_r13_in (ap wsL_law_r14_in (ap wsL_law_r15_in (ap wsL_law_r16_in (ap wsL_law_r17_in (ap wsL_law_r18_in (ap wsL_law_r19_in (ap wsL_law_r20_in (ap wsL_law_r21_in (ap wsL_law_r22_in (ap wsL_law_r23_in (ap wsL_law_r24_in (ap wsL_law_r25_in (ap wsL_law_r26_in (ap wsL_law_r27_in (ap wsL_law_r28_in (ap wsL_law_r29_in (ap wsL_law_r30_in (ap wsL_law_r31_in (ap wsL_law_r32_in (ap wsL_law_r33_in (ap wsL_law_r34_in (ap wsL_law_r35_in (ap wsL_law_r36_in (ap wsL_law_r37_in (ap wsL_law_r38_in (ap wsL_law_r39_in wsL_law_r40_in))))))))))))))))))))))))))))))))))))))) inX5) inX6) inX0) inX2) inX1) inX4) inX3) (fun w h => absurd h List.not_mem_nil)) w h
theorem inJ6 : ∀ w ∈ wsJ60, w ∈ lw_tbl := by decide +kernel
theorem inJ13 : ∀ w ∈ wsJ130, w ∈ lw_tbl := by decide +kernel
theorem inJ9 : ∀ w ∈ wsJ90, w ∈ lw_tbl := by decide +kernel
theorem inJ10 : ∀ w ∈ wsJ100, w ∈ lw_tbl := by decide +kernel
