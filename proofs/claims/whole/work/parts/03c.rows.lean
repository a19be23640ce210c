set_option maxRecDepth 20000 in
theorem ggX5_init_X0_init : GoodIn wsX5_init wsX0_init := goodIn_r _ [31, 32, 2, 3, 26, 33, 34, 35, 36, 37, 38, 39, 40, 41, 42, 66, 67, 68, 69, 70, 71, 72, 73, 74, 75, 76, 77] (by decide +kernel) (by decide +kernel)
set_option maxRecDepth 20000 in
theorem gX5_init_X0_init : GoodIn wsX5_init (wsX0_init) := ggX5_init_X0_init
set_option maxRecDepth 20000 in
theorem ggX5_init_X2_init : GoodIn wsX5_init wsX2_init := goodIn_r _ [44, 45, 2, 3, 46, 47, 87, 88, 89] (by decide +kernel) (by decide +kernel)
set_option maxRecDepth 20000 in
theorem gX5_init_X2_init_n18 : GoodIn wsX5_init (wsX2_init) := ggX5_init_X2_init
set_option maxRecDepth 20000 in
theorem ggX5_init_X1_init : GoodIn wsX5_init wsX1_init := goodIn_r _ [49, 50, 2, 3, 26, 51, 52, 90, 91, 92] (by decide +kernel) (by decide +kernel)
set_option maxRecDepth 20000 in
theorem gX5_init_X1_init_n25 : GoodIn wsX5_init (wsX1_init) := ggX5_init_X1_init
set_option maxRecDepth 20000 in
theorem ggX5_init_X4_init : GoodIn wsX5_init wsX4_init := goodIn_r _ [54, 55, 2, 3, 26, 56, 57, 58, 59, 93, 94, 95, 96, 97] (by decide +kernel) (by decide +kernel)
set_option maxRecDepth 20000 in
theorem gX5_init_X4_init_n32 : GoodIn wsX5_init (wsX4_init) := ggX5_init_X4_init
set_option maxRecDepth 20000 in
theorem ggX5_init_X3_init : GoodIn wsX5_init wsX3_init := goodIn_r _ [61, 62, 2, 3, 26, 63, 64, 36, 65, 98, 99, 100, 101] (by decide +kernel) (by decide +kernel)
set_option maxRecDepth 20000 in
theorem gX5_init_X3_init_n42 : GoodIn wsX5_init (wsX3_init) := ggX5_init_X3_init
theorem dX5_init_0 : decode cX5_init 0 = .ok (.aload_n 0, 1) := by decide +kernel
theorem dX5_init_1 : decode cX5_init 1 = .ok (.invokespecial 1, 3) := by decide +kernel
theorem dX5_init_4 : decode cX5_init 4 = .ok (.aload_n 0, 1) := by decide +kernel
theorem dX5_init_5 : decode cX5_init 5 = .ok (.new 7, 3) := by decide +kernel
theorem dX5_init_8 : decode cX5_init 8 = .ok (.dup, 1) := by decide +kernel
theorem dX5_init_9 : decode cX5_init 9 = .ok (.invokespecial 9, 3) := by decide +kernel
theorem dX5_init_12 : decode cX5_init 12 = .ok (.putfield 10, 3) := by decide +kernel
theorem dX5_init_15 : decode cX5_init 15 = .ok (.aload_n 0, 1) := by decide +kernel
theorem dX5_init_16 : decode cX5_init 16 = .ok (.new 16, 3) := by decide +kernel
theorem dX5_init_19 : decode cX5_init 19 = .ok (.dup, 1) := by decide +kernel
theorem dX5_init_20 : decode cX5_init 20 = .ok (.invokespecial 18, 3) := by decide +kernel
theorem dX5_init_23 : decode cX5_init 23 = .ok (.putfield 19, 3) := by decide +kernel
theorem dX5_init_26 : decode cX5_init 26 = .ok (.aload_n 0, 1) := by decide +kernel
theorem dX5_init_27 : decode cX5_init 27 = .ok (.new 23, 3) := by decide +kernel
theorem dX5_init_30 : decode cX5_init 30 = .ok (.dup, 1) := by decide +kernel
theorem dX5_init_31 : decode cX5_init 31 = .ok (.invokespecial 25, 3) := by decide +kernel
theorem dX5_init_34 : decode cX5_init 34 = .ok (.putfield 26, 3) := by decide +kernel
theorem dX5_init_37 : decode cX5_init 37 = .ok (.aload_n 0, 1) := by decide +kernel
theorem dX5_init_38 : decode cX5_init 38 = .ok (.new 30, 3) := by decide +kernel
theorem dX5_init_41 : decode cX5_init 41 = .ok (.dup, 1) := by decide +kernel
theorem dX5_init_42 : decode cX5_init 42 = .ok (.invokespecial 32, 3) := by decide +kernel
theorem dX5_init_45 : decode cX5_init 45 = .ok (.putfield 33, 3) := by decide +kernel
theorem dX5_init_48 : decode cX5_init 48 = .ok (.aload_n 0, 1) := by decide +kernel
theorem dX5_init_49 : decode cX5_init 49 = .ok (.new 30, 3) := by decide +kernel
theorem dX5_init_52 : decode cX5_init 52 = .ok (.dup, 1) := by decide +kernel
theorem dX5_init_53 : decode cX5_init 53 = .ok (.invokespecial 32, 3) := by decide +kernel
theorem dX5_init_56 : decode cX5_init 56 = .ok (.putfield 37, 3) := by decide +kernel
theorem dX5_init_59 : decode cX5_init 59 = .ok (.aload_n 0, 1) := by decide +kernel
theorem dX5_init_60 : decode cX5_init 60 = .ok (.new 40, 3) := by decide +kernel
theorem dX5_init_63 : decode cX5_init 63 = .ok (.dup, 1) := by decide +kernel
theorem dX5_init_64 : decode cX5_init 64 = .ok (.invokespecial 42, 3) := by decide +kernel
theorem dX5_init_67 : decode cX5_init 67 = .ok (.putfield 43, 3) := by decide +kernel
theorem dX5_init_70 : decode cX5_init 70 = .ok (.aload_n 0, 1) := by decide +kernel
theorem dX5_init_71 : decode cX5_init 71 = .ok (.iconst 2, 1) := by decide +kernel
theorem dX5_init_72 : decode cX5_init 72 = .ok (.anewarray 7, 3) := by decide +kernel
theorem dX5_init_75 : decode cX5_init 75 = .ok (.putfield 47, 3) := by decide +kernel
theorem dX5_init_78 : decode cX5_init 78 = .ok (.aload_n 0, 1) := by decide +kernel
theorem dX5_init_79 : decode cX5_init 79 = .ok (.iconst 2, 1) := by decide +kernel
theorem dX5_init_80 : decode cX5_init 80 = .ok (.newarray .int, 2) := by decide +kernel
theorem dX5_init_82 : decode cX5_init 82 = .ok (.putfield 51, 3) := by decide +kernel
theorem dX5_init_85 : decode cX5_init 85 = .ok (.aload_n 0, 1) := by decide +kernel
theorem dX5_init_86 : decode cX5_init 86 = .ok (.iconst 0, 1) := by decide +kernel
theorem dX5_init_87 : decode cX5_init 87 = .ok (.putfield 55, 3) := by decide +kernel
theorem dX5_init_90 : decode cX5_init 90 = .ok (.return_, 1) := by decide +kernel
set_option maxRecDepth 20000 in
theorem ggX5_told_X0_length : GoodIn wsX5_told wsX0_length := goodIn_r _ [11, 12, 13, 14, 15, 16, 10, 17, 18, 19, 20, 21, 22, 23, 24, 25, 26, 27, 28, 29, 30, 31, 32, 33, 34, 35, 36, 37, 38, 39, 40, 41, 42, 43, 44, 45, 46, 47, 48, 49, 218, 219, 220, 221, 222, 223, 224, 225, 226, 227, 228, 229] (by decide +kernel) (by decide +kernel)
set_option maxRecDepth 20000 in
theorem gX5_told_X0_length : GoodIn wsX5_told (wsV RX5 65 RX0 yX0_length wsX0_length) := goodIn_app (goodIn_of _ (by decide +kernel)) ggX5_told_X0_length
set_option maxRecDepth 20000 in
theorem ggX5_told_X5_disorder : GoodIn wsX5_told wsX5_disorder := goodIn_r _ [53, 3, 1, 54, 55, 56, 57, 58, 59, 60, 61, 62, 63, 64, 65, 66, 67, 8, 9, 10, 11, 12, 13, 14, 15, 16, 17, 18, 19, 20, 21, 22, 23, 24, 25, 26, 27, 28, 29, 30, 31, 32, 33, 34, 35, 36, 37, 38, 39, 40, 41, 42, 43, 44, 45, 46, 47, 48, 49, 68, 69, 70, 71, 72, 73, 74, 75, 76, 77, 78, 79, 80, 81, 82, 83, 84, 85, 86, 87, 88, 89, 90, 91, 92, 93, 94, 95, 96, 97, 98, 99, 100, 101, 102, 103, 104, 105, 106, 107, 108, 109, 110, 111, 112, 113, 114, 115, 116, 117, 118, 119, 120, 121, 122, 123, 124, 125, 126, 127, 128, 129, 130, 131, 132, 133, 134, 135, 136, 137, 138, 139, 140, 141, 142, 143, 144, 145, 146, 147, 148, 149, 150, 151, 152, 153, 154, 155, 156, 157, 158, 159, 160, 161, 162, 163, 164, 165, 166, 167, 168, 169, 170, 171, 209, 210, 211, 212, 213, 214, 215, 216, 217, 236, 237, 238, 239, 240, 218, 219, 220, 221, 222, 223, 224, 225, 226, 227, 228, 229] (by decide +kernel) (by decide +kernel)
set_option maxRecDepth 20000 in
theorem gX5_told_X5_disorder : GoodIn wsX5_told (wsV RX5 69 RX5 yX5_disorder wsX5_disorder) := goodIn_app (goodIn_of _ (by decide +kernel)) ggX5_told_X5_disorder
set_option maxRecDepth 20000 in
theorem ggX5_told_X5_keysThatMatter : GoodIn wsX5_told wsX5_keysThatMatter := goodIn_r _ [175, 3, 1, 176, 54, 55, 56, 57, 58, 59, 60, 61, 62, 63, 64, 65, 66, 67, 8, 9, 10, 11, 12, 13, 14, 15, 16, 17, 18, 19, 20, 21, 22, 23, 24, 25, 26, 27, 28, 29, 30, 31, 32, 33, 34, 35, 36, 37, 38, 39, 40, 41, 42, 43, 44, 45, 46, 47, 48, 49, 68, 69, 70, 71, 72, 73, 74, 75, 76, 77, 78, 79, 80, 81, 82, 83, 84, 85, 86, 87, 88, 89, 90, 91, 92, 93, 94, 95, 96, 97, 98, 99, 100, 101, 102, 103, 104, 105, 106, 107, 108, 109, 110, 111, 112, 113, 114, 115, 116, 117, 118, 119, 120, 121, 122, 123, 124, 125, 126, 127, 128, 129, 130, 131, 132, 133, 134, 135, 177, 178, 179, 180, 164, 165, 166, 167, 209, 210, 211, 212, 213, 214, 215, 216, 217, 218, 219, 220, 221, 222, 223, 224, 225, 226, 227, 228, 229, 236, 237, 238, 239, 240] (by decide +kernel) (by decide +kernel)
set_option maxRecDepth 20000 in
theorem gX5_told_X5_keysThatMatter : GoodIn wsX5_told (wsV RX5 73 RX5 yX5_keysThatMatter wsX5_keysThatMatter) := goodIn_app (goodIn_of _ (by decide +kernel)) ggX5_told_X5_keysThatMatter
set_option maxRecDepth 20000 in
theorem ggX5_told_X5_fewestKeys : GoodIn wsX5_told wsX5_fewestKeys := goodIn_r _ [184, 3, 1, 176, 54, 55, 56, 57, 58, 59, 60, 61, 62, 63, 64, 65, 66, 67, 8, 9, 10, 11, 12, 13, 14, 15, 16, 17, 18, 19, 20, 21, 22, 23, 24, 25, 26, 27, 28, 29, 30, 31, 32, 33, 34, 35, 36, 37, 38, 39, 40, 41, 42, 43, 44, 45, 46, 47, 48, 49, 68, 69, 70, 71, 72, 73, 74, 75, 76, 77, 78, 79, 80, 81, 82, 83, 84, 85, 86, 87, 88, 89, 90, 91, 92, 93, 94, 95, 96, 97, 98, 99, 100, 101, 102, 103, 104, 105, 106, 107, 108, 109, 110, 111, 112, 113, 114, 115, 116, 117, 118, 119, 120, 121, 122, 123, 124, 125, 126, 127, 128, 129, 130, 131, 132, 133, 134, 135, 185, 186, 187, 188, 189, 190, 177, 178, 179, 180, 164, 165, 166, 167, 209, 210, 211, 212, 213, 214, 215, 216, 217, 218, 219, 220, 221, 222, 223, 224, 225, 226, 227, 228, 229, 236, 237, 238, 239, 240] (by decide +kernel) (by decide +kernel)
set_option maxRecDepth 20000 in
theorem gX5_told_X5_fewestKeys : GoodIn wsX5_told (wsV RX5 76 RX5 yX5_fewestKeys wsX5_fewestKeys) := goodIn_app (goodIn_of _ (by decide +kernel)) ggX5_told_X5_fewestKeys
set_option maxRecDepth 20000 in
theorem ggX5_told_X0_explanation : GoodIn wsX5_told wsX0_explanation := goodIn_r _ [194, 195, 196, 197, 10, 198, 28, 29, 30, 31, 32, 42, 43, 44, 45, 23, 24, 25, 26, 27, 46, 47, 48, 49, 72, 73, 74, 75, 76, 77, 78, 79, 80, 81, 82, 83, 84, 85, 86, 87, 88, 89, 90, 91, 92, 93, 94, 95, 96, 97, 98, 99, 100, 101, 102, 103, 104, 105, 106, 107, 108, 109, 218, 219, 220, 221, 222, 223, 224, 225, 226, 227, 228, 229] (by decide +kernel) (by decide +kernel)
set_option maxRecDepth 20000 in
theorem gX5_told_X0_explanation : GoodIn wsX5_told (wsV RX5 79 RX0 yX0_explanation wsX0_explanation) := goodIn_app (goodIn_of _ (by decide +kernel)) ggX5_told_X0_explanation
set_option maxRecDepth 20000 in
theorem ggX5_told_X4_sortPlaces : GoodIn wsX5_told wsX4_sortPlaces := goodIn_r _ [58, 59, 60, 61, 62, 63, 64, 65, 66, 67, 8, 9, 10, 11, 12, 13, 14, 15, 16, 17, 18, 19, 20, 21, 22, 23, 24, 25, 26, 27, 28, 29, 30, 31, 32, 33, 34, 35, 36, 37, 38, 39, 40, 41, 42, 43, 44, 45, 46, 47, 48, 49, 68, 69, 70, 71, 72, 73, 74, 75, 76, 77, 78, 79, 80, 81, 82, 83, 84, 85, 86, 87, 88, 89, 90, 91, 92, 93, 94, 95, 96, 97, 98, 99, 100, 101, 102, 103, 104, 105, 106, 107, 108, 109, 110, 111, 112, 113, 114, 115, 116, 117, 57, 118, 119, 120, 121, 122, 123, 124, 125, 126, 127, 128, 129, 130, 131, 236, 237, 238, 239, 240, 218, 219, 220, 221, 222, 223, 224, 225, 226, 227, 228, 229] (by decide +kernel) (by decide +kernel)
set_option maxRecDepth 20000 in
theorem gX5_told_X4_sortPlaces : GoodIn wsX5_told (wsV RX5 85 RX4 yX4_sortPlaces wsX4_sortPlaces) := goodIn_app (goodIn_of _ (by decide +kernel)) ggX5_told_X4_sortPlaces
set_option maxRecDepth 20000 in
theorem ggX5_told_X1_firstWrong : GoodIn wsX5_told wsX1_firstWrong := goodIn_r _ [203, 204, 205, 206, 207, 128, 129, 57, 130, 63, 208, 165, 166, 167, 65, 127, 230, 231, 232, 236, 237, 238, 239, 240] (by decide +kernel) (by decide +kernel)
set_option maxRecDepth 20000 in
theorem gX5_told_X1_firstWrong : GoodIn wsX5_told (wsV RX5 89 RX1 yX1_firstWrong wsX1_firstWrong) := goodIn_app (goodIn_of _ (by decide +kernel)) ggX5_told_X1_firstWrong
theorem dX5_told_0 : decode cX5_told 0 = .ok (.iload_n 1, 1) := by decide +kernel
theorem dX5_told_1 : decode cX5_told 1 = .ok (.tableswitch 173 0 15 #[79, 87, 95, 103, 103, 103, 103, 103, 103, 109, 114, 119, 127, 135, 160, 168], 79) := by decide +kernel
theorem dX5_told_80 : decode cX5_told 80 = .ok (.aload_n 0, 1) := by decide +kernel
theorem dX5_told_81 : decode cX5_told 81 = .ok (.getfield 10, 3) := by decide +kernel
theorem dX5_told_84 : decode cX5_told 84 = .ok (.getfield 59, 3) := by decide +kernel
theorem dX5_told_87 : decode cX5_told 87 = .ok (.ireturn, 1) := by decide +kernel
theorem dX5_told_88 : decode cX5_told 88 = .ok (.aload_n 0, 1) := by decide +kernel
theorem dX5_told_89 : decode cX5_told 89 = .ok (.getfield 10, 3) := by decide +kernel
theorem dX5_told_92 : decode cX5_told 92 = .ok (.getfield 62, 3) := by decide +kernel
theorem dX5_told_95 : decode cX5_told 95 = .ok (.ireturn, 1) := by decide +kernel
theorem dX5_told_96 : decode cX5_told 96 = .ok (.aload_n 0, 1) := by decide +kernel
theorem dX5_told_97 : decode cX5_told 97 = .ok (.getfield 10, 3) := by decide +kernel
theorem dX5_told_100 : decode cX5_told 100 = .ok (.invokevirtual 65, 3) := by decide +kernel
theorem dX5_told_103 : decode cX5_told 103 = .ok (.ireturn, 1) := by decide +kernel
theorem dX5_told_104 : decode cX5_told 104 = .ok (.aload_n 0, 1) := by decide +kernel
theorem dX5_told_105 : decode cX5_told 105 = .ok (.iload_n 1, 1) := by decide +kernel
theorem dX5_told_106 : decode cX5_told 106 = .ok (.invokevirtual 69, 3) := by decide +kernel
theorem dX5_told_109 : decode cX5_told 109 = .ok (.ireturn, 1) := by decide +kernel
theorem dX5_told_110 : decode cX5_told 110 = .ok (.aload_n 0, 1) := by decide +kernel
theorem dX5_told_111 : decode cX5_told 111 = .ok (.invokevirtual 73, 3) := by decide +kernel
theorem dX5_told_114 : decode cX5_told 114 = .ok (.ireturn, 1) := by decide +kernel
theorem dX5_told_115 : decode cX5_told 115 = .ok (.aload_n 0, 1) := by decide +kernel
theorem dX5_told_116 : decode cX5_told 116 = .ok (.invokevirtual 76, 3) := by decide +kernel
theorem dX5_told_119 : decode cX5_told 119 = .ok (.ireturn, 1) := by decide +kernel
theorem dX5_told_120 : decode cX5_told 120 = .ok (.aload_n 0, 1) := by decide +kernel
theorem dX5_told_121 : decode cX5_told 121 = .ok (.getfield 10, 3) := by decide +kernel
theorem dX5_told_124 : decode cX5_told 124 = .ok (.invokevirtual 79, 3) := by decide +kernel
theorem dX5_told_127 : decode cX5_told 127 = .ok (.ireturn, 1) := by decide +kernel
theorem dX5_told_128 : decode cX5_told 128 = .ok (.aload_n 0, 1) := by decide +kernel
theorem dX5_told_129 : decode cX5_told 129 = .ok (.getfield 26, 3) := by decide +kernel
theorem dX5_told_132 : decode cX5_told 132 = .ok (.getfield 82, 3) := by decide +kernel
theorem dX5_told_135 : decode cX5_told 135 = .ok (.ireturn, 1) := by decide +kernel
theorem dX5_told_136 : decode cX5_told 136 = .ok (.aload_n 0, 1) := by decide +kernel
theorem dX5_told_137 : decode cX5_told 137 = .ok (.getfield 33, 3) := by decide +kernel
theorem dX5_told_140 : decode cX5_told 140 = .ok (.aload_n 0, 1) := by decide +kernel
theorem dX5_told_141 : decode cX5_told 141 = .ok (.getfield 10, 3) := by decide +kernel
theorem dX5_told_144 : decode cX5_told 144 = .ok (.bipush 15, 2) := by decide +kernel
theorem dX5_told_146 : decode cX5_told 146 = .ok (.invokevirtual 85, 3) := by decide +kernel
theorem dX5_told_149 : decode cX5_told 149 = .ok (.aload_n 0, 1) := by decide +kernel
theorem dX5_told_150 : decode cX5_told 150 = .ok (.getfield 26, 3) := by decide +kernel
theorem dX5_told_153 : decode cX5_told 153 = .ok (.aload_n 0, 1) := by decide +kernel
theorem dX5_told_154 : decode cX5_told 154 = .ok (.getfield 33, 3) := by decide +kernel
theorem dX5_told_157 : decode cX5_told 157 = .ok (.invokevirtual 89, 3) := by decide +kernel
theorem dX5_told_160 : decode cX5_told 160 = .ok (.ireturn, 1) := by decide +kernel
theorem dX5_told_161 : decode cX5_told 161 = .ok (.aload_n 0, 1) := by decide +kernel
theorem dX5_told_162 : decode cX5_told 162 = .ok (.getfield 19, 3) := by decide +kernel
theorem dX5_told_165 : decode cX5_told 165 = .ok (.getfield 93, 3) := by decide +kernel
theorem dX5_told_168 : decode cX5_told 168 = .ok (.ireturn, 1) := by decide +kernel
theorem dX5_told_169 : decode cX5_told 169 = .ok (.aload_n 0, 1) := by decide +kernel
theorem dX5_told_170 : decode cX5_told 170 = .ok (.getfield 55, 3) := by decide +kernel
theorem dX5_told_173 : decode cX5_told 173 = .ok (.ireturn, 1) := by decide +kernel
theorem dX5_told_174 : decode cX5_told 174 = .ok (.ldc 94, 2) := by decide +kernel
theorem dX5_told_176 : decode cX5_told 176 = .ok (.ireturn, 1) := by decide +kernel
set_option maxRecDepth 20000 in
theorem ggX5_row_X5_isSlot : GoodIn wsX5_row wsX5_isSlot := goodIn_r _ [7] (by decide +kernel) (by decide +kernel)
set_option maxRecDepth 20000 in
theorem gX5_row_X5_isSlot : GoodIn wsX5_row (va_wsS RX5 95 yX5_isSlot wsX5_isSlot) := goodIn_app (goodIn_of _ (by decide +kernel)) ggX5_row_X5_isSlot
set_option maxRecDepth 20000 in
theorem ggX5_row_X5_isIn : GoodIn wsX5_row wsX5_isIn := goodIn_r _ [10] (by decide +kernel) (by decide +kernel)
set_option maxRecDepth 20000 in
theorem gX5_row_X5_isIn : GoodIn wsX5_row (va_wsS RX5 100 yX5_isIn wsX5_isIn) := goodIn_app (goodIn_of _ (by decide +kernel)) ggX5_row_X5_isIn
set_option maxRecDepth 20000 in
theorem ggX5_row_X0_kindOf : GoodIn wsX5_row wsX0_kindOf := goodIn_r _ [15, 16, 36, 37, 38, 39, 40, 41, 42, 43, 44, 45, 46, 47] (by decide +kernel) (by decide +kernel)
set_option maxRecDepth 20000 in
theorem gX5_row_X0_kindOf : GoodIn wsX5_row (wsV RX5 104 RX0 yX0_kindOf wsX0_kindOf) := goodIn_app (goodIn_of _ (by decide +kernel)) ggX5_row_X0_kindOf
set_option maxRecDepth 20000 in
theorem ggX5_row_X0_holdsArray : GoodIn wsX5_row wsX0_holdsArray := goodIn_r _ [20, 21, 12, 13, 14, 15, 16, 36, 37, 38, 39, 40, 41, 42, 43, 44, 45, 46, 47] (by decide +kernel) (by decide +kernel)
set_option maxRecDepth 20000 in
theorem gX5_row_X0_holdsArray : GoodIn wsX5_row (wsV RX5 107 RX0 yX0_holdsArray wsX0_holdsArray) := goodIn_app (goodIn_of _ (by decide +kernel)) ggX5_row_X0_holdsArray
set_option maxRecDepth 20000 in
theorem ggX5_row_X0_sizeOf : GoodIn wsX5_row wsX0_sizeOf := goodIn_r _ [25, 26, 36, 37, 38, 39, 40, 41, 42, 43, 44, 45, 46, 47] (by decide +kernel) (by decide +kernel)
set_option maxRecDepth 20000 in
theorem gX5_row_X0_sizeOf : GoodIn wsX5_row (wsV RX5 110 RX0 yX0_sizeOf wsX0_sizeOf) := goodIn_app (goodIn_of _ (by decide +kernel)) ggX5_row_X0_sizeOf
theorem dX5_row_0 : decode cX5_row 0 = .ok (.iload_n 1, 1) := by decide +kernel
theorem dX5_row_1 : decode cX5_row 1 = .ok (.invokestatic 95, 3) := by decide +kernel
theorem dX5_row_4 : decode cX5_row 4 = .ok (.ifCond .ne 6, 3) := by decide +kernel
theorem dX5_row_7 : decode cX5_row 7 = .ok (.ldc 99, 2) := by decide +kernel
theorem dX5_row_9 : decode cX5_row 9 = .ok (.ireturn, 1) := by decide +kernel
theorem dX5_row_10 : decode cX5_row 10 = .ok (.iload_n 2, 1) := by decide +kernel
theorem dX5_row_11 : decode cX5_row 11 = .ok (.iconst 0, 1) := by decide +kernel
theorem dX5_row_12 : decode cX5_row 12 = .ok (.iconst 1, 1) := by decide +kernel
theorem dX5_row_13 : decode cX5_row 13 = .ok (.invokestatic 100, 3) := by decide +kernel
theorem dX5_row_16 : decode cX5_row 16 = .ok (.ifCond .ne 6, 3) := by decide +kernel
theorem dX5_row_19 : decode cX5_row 19 = .ok (.ldc 94, 2) := by decide +kernel
theorem dX5_row_21 : decode cX5_row 21 = .ok (.ireturn, 1) := by decide +kernel
theorem dX5_row_22 : decode cX5_row 22 = .ok (.iload_n 2, 1) := by decide +kernel
theorem dX5_row_23 : decode cX5_row 23 = .ok (.ifCond .ne 12, 3) := by decide +kernel
theorem dX5_row_26 : decode cX5_row 26 = .ok (.aload_n 0, 1) := by decide +kernel
theorem dX5_row_27 : decode cX5_row 27 = .ok (.getfield 10, 3) := by decide +kernel
theorem dX5_row_30 : decode cX5_row 30 = .ok (.iload_n 1, 1) := by decide +kernel
theorem dX5_row_31 : decode cX5_row 31 = .ok (.invokevirtual 104, 3) := by decide +kernel
theorem dX5_row_34 : decode cX5_row 34 = .ok (.ireturn, 1) := by decide +kernel
theorem dX5_row_35 : decode cX5_row 35 = .ok (.aload_n 0, 1) := by decide +kernel
theorem dX5_row_36 : decode cX5_row 36 = .ok (.getfield 10, 3) := by decide +kernel
theorem dX5_row_39 : decode cX5_row 39 = .ok (.iload_n 1, 1) := by decide +kernel
theorem dX5_row_40 : decode cX5_row 40 = .ok (.invokevirtual 107, 3) := by decide +kernel
theorem dX5_row_43 : decode cX5_row 43 = .ok (.ifCond .eq 12, 3) := by decide +kernel
theorem dX5_row_46 : decode cX5_row 46 = .ok (.aload_n 0, 1) := by decide +kernel
theorem dX5_row_47 : decode cX5_row 47 = .ok (.getfield 10, 3) := by decide +kernel
theorem dX5_row_50 : decode cX5_row 50 = .ok (.iload_n 1, 1) := by decide +kernel
theorem dX5_row_51 : decode cX5_row 51 = .ok (.invokevirtual 110, 3) := by decide +kernel
theorem dX5_row_54 : decode cX5_row 54 = .ok (.ireturn, 1) := by decide +kernel
theorem dX5_row_55 : decode cX5_row 55 = .ok (.aload_n 0, 1) := by decide +kernel
theorem dX5_row_56 : decode cX5_row 56 = .ok (.getfield 10, 3) := by decide +kernel
theorem dX5_row_59 : decode cX5_row 59 = .ok (.iload_n 1, 1) := by decide +kernel
theorem dX5_row_60 : decode cX5_row 60 = .ok (.invokevirtual 104, 3) := by decide +kernel
theorem dX5_row_63 : decode cX5_row 63 = .ok (.bipush 14, 2) := by decide +kernel
theorem dX5_row_65 : decode cX5_row 65 = .ok (.if_icmp .ne 7, 3) := by decide +kernel
theorem dX5_row_68 : decode cX5_row 68 = .ok (.iconst (-1), 1) := by decide +kernel
theorem dX5_row_69 : decode cX5_row 69 = .ok (.goto 5, 3) := by decide +kernel
theorem dX5_row_72 : decode cX5_row 72 = .ok (.bipush (-2), 2) := by decide +kernel
theorem dX5_row_74 : decode cX5_row 74 = .ok (.ireturn, 1) := by decide +kernel
set_option maxRecDepth 20000 in
theorem ggX5_cell_X5_isSlot : GoodIn wsX5_cell wsX5_isSlot := goodIn_r _ [7] (by decide +kernel) (by decide +kernel)
set_option maxRecDepth 20000 in
theorem gX5_cell_X5_isSlot : GoodIn wsX5_cell (va_wsS RX5 95 yX5_isSlot wsX5_isSlot) := goodIn_app (goodIn_of _ (by decide +kernel)) ggX5_cell_X5_isSlot
set_option maxRecDepth 20000 in
theorem ggX5_cell_X5_isIn : GoodIn wsX5_cell wsX5_isIn := goodIn_r _ [10] (by decide +kernel) (by decide +kernel)
set_option maxRecDepth 20000 in
theorem gX5_cell_X5_isIn : GoodIn wsX5_cell (va_wsS RX5 100 yX5_isIn wsX5_isIn) := goodIn_app (goodIn_of _ (by decide +kernel)) ggX5_cell_X5_isIn
set_option maxRecDepth 20000 in
theorem ggX5_cell_X0_whyNotRead : GoodIn wsX5_cell wsX0_whyNotRead := goodIn_r _ [15, 16, 17, 18, 14, 19, 20, 21, 22, 23, 24, 25, 26, 27, 28, 29, 30, 31, 32, 33, 9, 6, 10, 34, 35, 36, 37, 38, 39, 40, 63, 64, 65, 66, 67, 68, 69, 70, 71, 72, 73, 74] (by decide +kernel) (by decide +kernel)
set_option maxRecDepth 20000 in
theorem gX5_cell_X0_whyNotRead : GoodIn wsX5_cell (wsV RX5 117 RX0 yX0_whyNotRead wsX0_whyNotRead) := goodIn_app (goodIn_of _ (by decide +kernel)) ggX5_cell_X0_whyNotRead
set_option maxRecDepth 20000 in
theorem ggX5_cell_X0_sortAt : GoodIn wsX5_cell wsX0_sortAt := goodIn_r _ [44, 45, 46, 47, 14, 48, 63, 64, 65, 66, 67, 68, 69, 70, 71, 72, 73, 74] (by decide +kernel) (by decide +kernel)
set_option maxRecDepth 20000 in
theorem gX5_cell_X0_sortAt : GoodIn wsX5_cell (wsV RX5 121 RX0 yX0_sortAt wsX0_sortAt) := goodIn_app (goodIn_of _ (by decide +kernel)) ggX5_cell_X0_sortAt
set_option maxRecDepth 20000 in
theorem ggX5_cell_X0_numberAt : GoodIn wsX5_cell wsX0_numberAt := goodIn_r _ [52, 53, 46, 47, 14, 48, 63, 64, 65, 66, 67, 68, 69, 70, 71, 72, 73, 74] (by decide +kernel) (by decide +kernel)
set_option maxRecDepth 20000 in
theorem gX5_cell_X0_numberAt : GoodIn wsX5_cell (wsV RX5 125 RX0 yX0_numberAt wsX0_numberAt) := goodIn_app (goodIn_of _ (by decide +kernel)) ggX5_cell_X0_numberAt
theorem dX5_cell_0 : decode cX5_cell 0 = .ok (.iload_n 1, 1) := by decide +kernel
theorem dX5_cell_1 : decode cX5_cell 1 = .ok (.invokestatic 95, 3) := by decide +kernel
theorem dX5_cell_4 : decode cX5_cell 4 = .ok (.ifCond .ne 7, 3) := by decide +kernel
theorem dX5_cell_7 : decode cX5_cell 7 = .ok (.ldc2_w 113, 3) := by decide +kernel
theorem dX5_cell_10 : decode cX5_cell 10 = .ok (.lreturn, 1) := by decide +kernel
theorem dX5_cell_11 : decode cX5_cell 11 = .ok (.iload_n 3, 1) := by decide +kernel
theorem dX5_cell_12 : decode cX5_cell 12 = .ok (.iconst 0, 1) := by decide +kernel
theorem dX5_cell_13 : decode cX5_cell 13 = .ok (.iconst 1, 1) := by decide +kernel
theorem dX5_cell_14 : decode cX5_cell 14 = .ok (.invokestatic 100, 3) := by decide +kernel
theorem dX5_cell_17 : decode cX5_cell 17 = .ok (.ifCond .ne 7, 3) := by decide +kernel
theorem dX5_cell_20 : decode cX5_cell 20 = .ok (.ldc2_w 115, 3) := by decide +kernel
theorem dX5_cell_23 : decode cX5_cell 23 = .ok (.lreturn, 1) := by decide +kernel
theorem dX5_cell_24 : decode cX5_cell 24 = .ok (.aload_n 0, 1) := by decide +kernel
theorem dX5_cell_25 : decode cX5_cell 25 = .ok (.getfield 10, 3) := by decide +kernel
theorem dX5_cell_28 : decode cX5_cell 28 = .ok (.iload_n 1, 1) := by decide +kernel
theorem dX5_cell_29 : decode cX5_cell 29 = .ok (.iload_n 2, 1) := by decide +kernel
theorem dX5_cell_30 : decode cX5_cell 30 = .ok (.bipush 8, 2) := by decide +kernel
theorem dX5_cell_32 : decode cX5_cell 32 = .ok (.invokevirtual 117, 3) := by decide +kernel
theorem dX5_cell_35 : decode cX5_cell 35 = .ok (.istore 4, 2) := by decide +kernel
theorem dX5_cell_37 : decode cX5_cell 37 = .ok (.iload 4, 2) := by decide +kernel
theorem dX5_cell_39 : decode cX5_cell 39 = .ok (.ifCond .eq 18, 3) := by decide +kernel
theorem dX5_cell_42 : decode cX5_cell 42 = .ok (.iload_n 3, 1) := by decide +kernel
theorem dX5_cell_43 : decode cX5_cell 43 = .ok (.ifCond .ne 12, 3) := by decide +kernel
theorem dX5_cell_46 : decode cX5_cell 46 = .ok (.bipush (-10), 2) := by decide +kernel
theorem dX5_cell_48 : decode cX5_cell 48 = .ok (.iload 4, 2) := by decide +kernel
theorem dX5_cell_50 : decode cX5_cell 50 = .ok (.isub, 1) := by decide +kernel
theorem dX5_cell_51 : decode cX5_cell 51 = .ok (.i2l, 1) := by decide +kernel
theorem dX5_cell_52 : decode cX5_cell 52 = .ok (.goto 4, 3) := by decide +kernel
theorem dX5_cell_55 : decode cX5_cell 55 = .ok (.lconst 0, 1) := by decide +kernel
theorem dX5_cell_56 : decode cX5_cell 56 = .ok (.lreturn, 1) := by decide +kernel
theorem dX5_cell_57 : decode cX5_cell 57 = .ok (.iload_n 3, 1) := by decide +kernel
theorem dX5_cell_58 : decode cX5_cell 58 = .ok (.ifCond .ne 16, 3) := by decide +kernel
theorem dX5_cell_61 : decode cX5_cell 61 = .ok (.aload_n 0, 1) := by decide +kernel
theorem dX5_cell_62 : decode cX5_cell 62 = .ok (.getfield 10, 3) := by decide +kernel
theorem dX5_cell_65 : decode cX5_cell 65 = .ok (.iload_n 1, 1) := by decide +kernel
theorem dX5_cell_66 : decode cX5_cell 66 = .ok (.iload_n 2, 1) := by decide +kernel
theorem dX5_cell_67 : decode cX5_cell 67 = .ok (.invokevirtual 121, 3) := by decide +kernel
theorem dX5_cell_70 : decode cX5_cell 70 = .ok (.i2l, 1) := by decide +kernel
theorem dX5_cell_71 : decode cX5_cell 71 = .ok (.goto 12, 3) := by decide +kernel
theorem dX5_cell_74 : decode cX5_cell 74 = .ok (.aload_n 0, 1) := by decide +kernel
theorem dX5_cell_75 : decode cX5_cell 75 = .ok (.getfield 10, 3) := by decide +kernel
theorem dX5_cell_78 : decode cX5_cell 78 = .ok (.iload_n 1, 1) := by decide +kernel
theorem dX5_cell_79 : decode cX5_cell 79 = .ok (.iload_n 2, 1) := by decide +kernel
theorem dX5_cell_80 : decode cX5_cell 80 = .ok (.invokevirtual 125, 3) := by decide +kernel
theorem dX5_cell_83 : decode cX5_cell 83 = .ok (.lreturn, 1) := by decide +kernel
theorem dX5_hand_0 : decode cX5_hand 0 = .ok (.iload_n 1, 1) := by decide +kernel
theorem dX5_hand_1 : decode cX5_hand 1 = .ok (.lookupswitch 44 #[(0, 27), (1, 36)], 27) := by decide +kernel
theorem dX5_hand_28 : decode cX5_hand 28 = .ok (.aload_n 0, 1) := by decide +kernel
theorem dX5_hand_29 : decode cX5_hand 29 = .ok (.getfield 10, 3) := by decide +kernel
theorem dX5_hand_32 : decode cX5_hand 32 = .ok (.getfield 129, 3) := by decide +kernel
theorem dX5_hand_35 : decode cX5_hand 35 = .ok (.i2l, 1) := by decide +kernel
theorem dX5_hand_36 : decode cX5_hand 36 = .ok (.lreturn, 1) := by decide +kernel
theorem dX5_hand_37 : decode cX5_hand 37 = .ok (.aload_n 0, 1) := by decide +kernel
theorem dX5_hand_38 : decode cX5_hand 38 = .ok (.getfield 10, 3) := by decide +kernel
theorem dX5_hand_41 : decode cX5_hand 41 = .ok (.getfield 132, 3) := by decide +kernel
theorem dX5_hand_44 : decode cX5_hand 44 = .ok (.lreturn, 1) := by decide +kernel
theorem dX5_hand_45 : decode cX5_hand 45 = .ok (.ldc2_w 115, 3) := by decide +kernel
theorem dX5_hand_48 : decode cX5_hand 48 = .ok (.lreturn, 1) := by decide +kernel
set_option maxRecDepth 20000 in
theorem ggX5_tag_X5_isTag : GoodIn wsX5_tag wsX5_isTag := goodIn_r _ [7, 8] (by decide +kernel) (by decide +kernel)
set_option maxRecDepth 20000 in
theorem gX5_tag_X5_isTag : GoodIn wsX5_tag (va_wsS RX5 136 yX5_isTag wsX5_isTag) := goodIn_app (goodIn_of _ (by decide +kernel)) ggX5_tag_X5_isTag
set_option maxRecDepth 20000 in
theorem ggX5_tag_X0_weightOf : GoodIn wsX5_tag wsX0_weightOf := goodIn_r _ [13, 14, 5, 6, 7, 8, 52, 53, 54, 55, 56, 57, 58, 59, 60, 61, 62, 63] (by decide +kernel) (by decide +kernel)
set_option maxRecDepth 20000 in
theorem gX5_tag_X0_weightOf : GoodIn wsX5_tag (wsV RX5 140 RX0 yX0_weightOf wsX0_weightOf) := goodIn_app (goodIn_of _ (by decide +kernel)) ggX5_tag_X0_weightOf
set_option maxRecDepth 20000 in
theorem ggX5_tag_X0_heft : GoodIn wsX5_tag wsX0_heft := goodIn_r _ [18, 19, 20, 14, 52, 53, 54, 55, 56, 57, 58, 59, 60, 61, 62, 63] (by decide +kernel) (by decide +kernel)
set_option maxRecDepth 20000 in
theorem gX5_tag_X0_heft : GoodIn wsX5_tag (wsV RX5 143 RX0 yX0_heft wsX0_heft) := goodIn_app (goodIn_of _ (by decide +kernel)) ggX5_tag_X0_heft
set_option maxRecDepth 20000 in
theorem ggX5_tag_X0_cellsWithTag : GoodIn wsX5_tag wsX0_cellsWithTag := goodIn_r _ [24, 25, 26, 27, 12, 28, 29, 30, 31, 32, 33, 34, 35, 36, 37, 38, 39, 40, 41, 42, 52, 53, 54, 55, 56, 57, 58, 59, 60, 61, 62, 63] (by decide +kernel) (by decide +kernel)
set_option maxRecDepth 20000 in
theorem gX5_tag_X0_cellsWithTag : GoodIn wsX5_tag (wsV RX5 147 RX0 yX0_cellsWithTag wsX0_cellsWithTag) := goodIn_app (goodIn_of _ (by decide +kernel)) ggX5_tag_X0_cellsWithTag
theorem dX5_tag_0 : decode cX5_tag 0 = .ok (.iload_n 1, 1) := by decide +kernel
theorem dX5_tag_1 : decode cX5_tag 1 = .ok (.i2l, 1) := by decide +kernel
theorem dX5_tag_2 : decode cX5_tag 2 = .ok (.invokestatic 136, 3) := by decide +kernel
theorem dX5_tag_5 : decode cX5_tag 5 = .ok (.ifCond .ne 6, 3) := by decide +kernel
theorem dX5_tag_8 : decode cX5_tag 8 = .ok (.ldc 99, 2) := by decide +kernel
theorem dX5_tag_10 : decode cX5_tag 10 = .ok (.ireturn, 1) := by decide +kernel
theorem dX5_tag_11 : decode cX5_tag 11 = .ok (.iload_n 2, 1) := by decide +kernel
theorem dX5_tag_12 : decode cX5_tag 12 = .ok (.tableswitch 56 0 2 #[28, 37, 47], 28) := by decide +kernel
theorem dX5_tag_40 : decode cX5_tag 40 = .ok (.aload_n 0, 1) := by decide +kernel
theorem dX5_tag_41 : decode cX5_tag 41 = .ok (.getfield 10, 3) := by decide +kernel
theorem dX5_tag_44 : decode cX5_tag 44 = .ok (.iload_n 1, 1) := by decide +kernel
theorem dX5_tag_45 : decode cX5_tag 45 = .ok (.invokevirtual 140, 3) := by decide +kernel
theorem dX5_tag_48 : decode cX5_tag 48 = .ok (.ireturn, 1) := by decide +kernel
theorem dX5_tag_49 : decode cX5_tag 49 = .ok (.aload_n 0, 1) := by decide +kernel
theorem dX5_tag_50 : decode cX5_tag 50 = .ok (.getfield 10, 3) := by decide +kernel
theorem dX5_tag_53 : decode cX5_tag 53 = .ok (.iload_n 1, 1) := by decide +kernel
theorem dX5_tag_54 : decode cX5_tag 54 = .ok (.i2l, 1) := by decide +kernel
theorem dX5_tag_55 : decode cX5_tag 55 = .ok (.invokevirtual 143, 3) := by decide +kernel
theorem dX5_tag_58 : decode cX5_tag 58 = .ok (.ireturn, 1) := by decide +kernel
theorem dX5_tag_59 : decode cX5_tag 59 = .ok (.aload_n 0, 1) := by decide +kernel
theorem dX5_tag_60 : decode cX5_tag 60 = .ok (.getfield 10, 3) := by decide +kernel
theorem dX5_tag_63 : decode cX5_tag 63 = .ok (.iload_n 1, 1) := by decide +kernel
theorem dX5_tag_64 : decode cX5_tag 64 = .ok (.invokevirtual 147, 3) := by decide +kernel
theorem dX5_tag_67 : decode cX5_tag 67 = .ok (.ireturn, 1) := by decide +kernel
theorem dX5_tag_68 : decode cX5_tag 68 = .ok (.ldc 94, 2) := by decide +kernel
theorem dX5_tag_70 : decode cX5_tag 70 = .ok (.ireturn, 1) := by decide +kernel
set_option maxRecDepth 20000 in
theorem ggX5_keyAt_X0_keySlot : GoodIn wsX5_keyAt wsX0_keySlot := goodIn_r _ [8, 9, 29, 30, 31, 32, 33, 34, 35, 36, 37, 38, 39, 40] (by decide +kernel) (by decide +kernel)
set_option maxRecDepth 20000 in
theorem gX5_keyAt_X0_keySlot : GoodIn wsX5_keyAt (wsV RX5 150 RX0 yX0_keySlot wsX0_keySlot) := goodIn_app (goodIn_of _ (by decide +kernel)) ggX5_keyAt_X0_keySlot
set_option maxRecDepth 20000 in
theorem ggX5_keyAt_X0_keyBy : GoodIn wsX5_keyAt wsX0_keyBy := goodIn_r _ [13, 14, 29, 30, 31, 32, 33, 34, 35, 36, 37, 38, 39, 40] (by decide +kernel) (by decide +kernel)
set_option maxRecDepth 20000 in
theorem gX5_keyAt_X0_keyBy : GoodIn wsX5_keyAt (wsV RX5 153 RX0 yX0_keyBy wsX0_keyBy) := goodIn_app (goodIn_of _ (by decide +kernel)) ggX5_keyAt_X0_keyBy
set_option maxRecDepth 20000 in
theorem ggX5_keyAt_X0_keyWay : GoodIn wsX5_keyAt wsX0_keyWay := goodIn_r _ [18, 19, 29, 30, 31, 32, 33, 34, 35, 36, 37, 38, 39, 40] (by decide +kernel) (by decide +kernel)
set_option maxRecDepth 20000 in
theorem gX5_keyAt_X0_keyWay : GoodIn wsX5_keyAt (wsV RX5 156 RX0 yX0_keyWay wsX0_keyWay) := goodIn_app (goodIn_of _ (by decide +kernel)) ggX5_keyAt_X0_keyWay
theorem dX5_keyAt_0 : decode cX5_keyAt 0 = .ok (.iload_n 1, 1) := by decide +kernel
theorem dX5_keyAt_1 : decode cX5_keyAt 1 = .ok (.ifCond .lt 14, 3) := by decide +kernel
theorem dX5_keyAt_4 : decode cX5_keyAt 4 = .ok (.iload_n 1, 1) := by decide +kernel
theorem dX5_keyAt_5 : decode cX5_keyAt 5 = .ok (.aload_n 0, 1) := by decide +kernel
theorem dX5_keyAt_6 : decode cX5_keyAt 6 = .ok (.getfield 10, 3) := by decide +kernel
theorem dX5_keyAt_9 : decode cX5_keyAt 9 = .ok (.getfield 59, 3) := by decide +kernel
theorem dX5_keyAt_12 : decode cX5_keyAt 12 = .ok (.if_icmp .lt 6, 3) := by decide +kernel
theorem dX5_keyAt_15 : decode cX5_keyAt 15 = .ok (.ldc 99, 2) := by decide +kernel
theorem dX5_keyAt_17 : decode cX5_keyAt 17 = .ok (.ireturn, 1) := by decide +kernel
theorem dX5_keyAt_18 : decode cX5_keyAt 18 = .ok (.iload_n 2, 1) := by decide +kernel
theorem dX5_keyAt_19 : decode cX5_keyAt 19 = .ok (.tableswitch 52 0 2 #[25, 34, 43], 25) := by decide +kernel
theorem dX5_keyAt_44 : decode cX5_keyAt 44 = .ok (.aload_n 0, 1) := by decide +kernel
theorem dX5_keyAt_45 : decode cX5_keyAt 45 = .ok (.getfield 10, 3) := by decide +kernel
theorem dX5_keyAt_48 : decode cX5_keyAt 48 = .ok (.iload_n 1, 1) := by decide +kernel
theorem dX5_keyAt_49 : decode cX5_keyAt 49 = .ok (.invokevirtual 150, 3) := by decide +kernel
theorem dX5_keyAt_52 : decode cX5_keyAt 52 = .ok (.ireturn, 1) := by decide +kernel
theorem dX5_keyAt_53 : decode cX5_keyAt 53 = .ok (.aload_n 0, 1) := by decide +kernel
theorem dX5_keyAt_54 : decode cX5_keyAt 54 = .ok (.getfield 10, 3) := by decide +kernel
theorem dX5_keyAt_57 : decode cX5_keyAt 57 = .ok (.iload_n 1, 1) := by decide +kernel
theorem dX5_keyAt_58 : decode cX5_keyAt 58 = .ok (.invokevirtual 153, 3) := by decide +kernel
theorem dX5_keyAt_61 : decode cX5_keyAt 61 = .ok (.ireturn, 1) := by decide +kernel
theorem dX5_keyAt_62 : decode cX5_keyAt 62 = .ok (.aload_n 0, 1) := by decide +kernel
theorem dX5_keyAt_63 : decode cX5_keyAt 63 = .ok (.getfield 10, 3) := by decide +kernel
theorem dX5_keyAt_66 : decode cX5_keyAt 66 = .ok (.iload_n 1, 1) := by decide +kernel
theorem dX5_keyAt_67 : decode cX5_keyAt 67 = .ok (.invokevirtual 156, 3) := by decide +kernel
theorem dX5_keyAt_70 : decode cX5_keyAt 70 = .ok (.ireturn, 1) := by decide +kernel
theorem dX5_keyAt_71 : decode cX5_keyAt 71 = .ok (.ldc 94, 2) := by decide +kernel
theorem dX5_keyAt_73 : decode cX5_keyAt 73 = .ok (.ireturn, 1) := by decide +kernel
set_option maxRecDepth 20000 in
theorem ggX5_rank_X4_sortPlaces : GoodIn wsX5_rank wsX4_sortPlaces := goodIn_r _ [9, 10, 11, 12, 13, 14, 15, 16, 17, 18, 19, 20, 21, 22, 23, 24, 25, 26, 27, 28, 29, 30, 31, 32, 33, 34, 35, 36, 37, 38, 39, 40, 41, 42, 43, 44, 45, 46, 47, 48, 49, 50, 51, 52, 53, 54, 55, 56, 57, 58, 59, 60, 61, 62, 63, 64, 65, 66, 67, 68, 69, 70, 71, 72, 73, 74, 75, 76, 77, 78, 79, 80, 81, 82, 83, 84, 85, 86, 87, 88, 89, 90, 91, 92, 93, 94, 95, 96, 97, 98, 99, 100, 101, 102, 103, 104, 105, 106, 107, 108, 109, 110, 8, 111, 112, 113, 114, 115, 116, 117, 118, 119, 120, 121, 122, 123, 124, 152, 153, 154, 155, 156, 157, 158, 159, 160, 161, 162, 163, 164, 165, 166, 167, 168] (by decide +kernel) (by decide +kernel)
set_option maxRecDepth 20000 in
theorem gX5_rank_X4_sortPlaces : GoodIn wsX5_rank (wsV RX5 85 RX4 yX4_sortPlaces wsX4_sortPlaces) := goodIn_app (goodIn_of _ (by decide +kernel)) ggX5_rank_X4_sortPlaces
set_option maxRecDepth 20000 in
theorem ggX5_rank_X4_isPlace : GoodIn wsX5_rank wsX4_isPlace := goodIn_r _ [123, 14, 152, 153, 154, 155, 156] (by decide +kernel) (by decide +kernel)
set_option maxRecDepth 20000 in
theorem gX5_rank_X4_isPlace : GoodIn wsX5_rank (wsV RX5 159 RX4 yX4_isPlace wsX4_isPlace) := goodIn_app (goodIn_of _ (by decide +kernel)) ggX5_rank_X4_isPlace
set_option maxRecDepth 20000 in
theorem ggX5_rank_X4_lesserThan : GoodIn wsX5_rank wsX4_lesserThan := goodIn_r _ [119, 15, 120, 121, 122, 8, 123, 14, 152, 153, 154, 155, 156] (by decide +kernel) (by decide +kernel)
set_option maxRecDepth 20000 in
theorem gX5_rank_X4_lesserThan : GoodIn wsX5_rank (wsV RX5 162 RX4 yX4_lesserThan wsX4_lesserThan) := goodIn_app (goodIn_of _ (by decide +kernel)) ggX5_rank_X4_lesserThan
set_option maxRecDepth 20000 in
theorem ggX5_rank_X4_classesBelow : GoodIn wsX5_rank wsX4_classesBelow := goodIn_r _ [130, 14, 112, 113, 114, 8, 115, 116, 117, 118, 119, 15, 120, 121, 122, 123, 124, 87, 88, 89, 108, 109, 110, 111, 152, 153, 154, 155, 156] (by decide +kernel) (by decide +kernel)
set_option maxRecDepth 20000 in
theorem gX5_rank_X4_classesBelow : GoodIn wsX5_rank (wsV RX5 165 RX4 yX4_classesBelow wsX4_classesBelow) := goodIn_app (goodIn_of _ (by decide +kernel)) ggX5_rank_X4_classesBelow
set_option maxRecDepth 20000 in
theorem ggX5_rank_X4_positionOf : GoodIn wsX5_rank wsX4_positionOf := goodIn_r _ [134, 16, 120, 121, 122, 8, 123, 14, 152, 153, 154, 155, 156] (by decide +kernel) (by decide +kernel)
set_option maxRecDepth 20000 in
theorem gX5_rank_X4_positionOf : GoodIn wsX5_rank (wsV RX5 168 RX4 yX4_positionOf wsX4_positionOf) := goodIn_app (goodIn_of _ (by decide +kernel)) ggX5_rank_X4_positionOf
set_option maxRecDepth 20000 in
theorem ggX5_rank_X4_alikeTo : GoodIn wsX5_rank wsX4_alikeTo := goodIn_r _ [138, 14, 112, 113, 114, 8, 115, 116, 117, 118, 119, 15, 120, 121, 122, 123, 124, 87, 88, 89, 152, 153, 154, 155, 156] (by decide +kernel) (by decide +kernel)
set_option maxRecDepth 20000 in
theorem gX5_rank_X4_alikeTo : GoodIn wsX5_rank (wsV RX5 171 RX4 yX4_alikeTo wsX4_alikeTo) := goodIn_app (goodIn_of _ (by decide +kernel)) ggX5_rank_X4_alikeTo
set_option maxRecDepth 20000 in
theorem ggX5_rank_X4_placeAt : GoodIn wsX5_rank wsX4_placeAt := goodIn_r _ [142, 17, 120, 121, 122, 8, 123, 14, 152, 153, 154, 155, 156] (by decide +kernel) (by decide +kernel)
set_option maxRecDepth 20000 in
theorem gX5_rank_X4_placeAt : GoodIn wsX5_rank (wsV RX5 174 RX4 yX4_placeAt wsX4_placeAt) := goodIn_app (goodIn_of _ (by decide +kernel)) ggX5_rank_X4_placeAt
theorem dX5_rank_0 : decode cX5_rank 0 = .ok (.aload_n 0, 1) := by decide +kernel
theorem dX5_rank_1 : decode cX5_rank 1 = .ok (.getfield 33, 3) := by decide +kernel
theorem dX5_rank_4 : decode cX5_rank 4 = .ok (.aload_n 0, 1) := by decide +kernel
theorem dX5_rank_5 : decode cX5_rank 5 = .ok (.getfield 10, 3) := by decide +kernel
theorem dX5_rank_8 : decode cX5_rank 8 = .ok (.bipush 15, 2) := by decide +kernel
theorem dX5_rank_10 : decode cX5_rank 10 = .ok (.invokevirtual 85, 3) := by decide +kernel
theorem dX5_rank_13 : decode cX5_rank 13 = .ok (.aload_n 0, 1) := by decide +kernel
theorem dX5_rank_14 : decode cX5_rank 14 = .ok (.getfield 33, 3) := by decide +kernel
theorem dX5_rank_17 : decode cX5_rank 17 = .ok (.iload_n 1, 1) := by decide +kernel
theorem dX5_rank_18 : decode cX5_rank 18 = .ok (.invokevirtual 159, 3) := by decide +kernel
theorem dX5_rank_21 : decode cX5_rank 21 = .ok (.ifCond .ne 6, 3) := by decide +kernel
theorem dX5_rank_24 : decode cX5_rank 24 = .ok (.ldc 99, 2) := by decide +kernel
theorem dX5_rank_26 : decode cX5_rank 26 = .ok (.ireturn, 1) := by decide +kernel
theorem dX5_rank_27 : decode cX5_rank 27 = .ok (.iload_n 2, 1) := by decide +kernel
theorem dX5_rank_28 : decode cX5_rank 28 = .ok (.tableswitch 81 0 4 #[36, 45, 54, 63, 72], 36) := by decide +kernel
theorem dX5_rank_64 : decode cX5_rank 64 = .ok (.aload_n 0, 1) := by decide +kernel
theorem dX5_rank_65 : decode cX5_rank 65 = .ok (.getfield 33, 3) := by decide +kernel
theorem dX5_rank_68 : decode cX5_rank 68 = .ok (.iload_n 1, 1) := by decide +kernel
theorem dX5_rank_69 : decode cX5_rank 69 = .ok (.invokevirtual 162, 3) := by decide +kernel
theorem dX5_rank_72 : decode cX5_rank 72 = .ok (.ireturn, 1) := by decide +kernel
theorem dX5_rank_73 : decode cX5_rank 73 = .ok (.aload_n 0, 1) := by decide +kernel
theorem dX5_rank_74 : decode cX5_rank 74 = .ok (.getfield 33, 3) := by decide +kernel
theorem dX5_rank_77 : decode cX5_rank 77 = .ok (.iload_n 1, 1) := by decide +kernel
theorem dX5_rank_78 : decode cX5_rank 78 = .ok (.invokevirtual 165, 3) := by decide +kernel
theorem dX5_rank_81 : decode cX5_rank 81 = .ok (.ireturn, 1) := by decide +kernel
theorem dX5_rank_82 : decode cX5_rank 82 = .ok (.aload_n 0, 1) := by decide +kernel
theorem dX5_rank_83 : decode cX5_rank 83 = .ok (.getfield 33, 3) := by decide +kernel
theorem dX5_rank_86 : decode cX5_rank 86 = .ok (.iload_n 1, 1) := by decide +kernel
theorem dX5_rank_87 : decode cX5_rank 87 = .ok (.invokevirtual 168, 3) := by decide +kernel
theorem dX5_rank_90 : decode cX5_rank 90 = .ok (.ireturn, 1) := by decide +kernel
theorem dX5_rank_91 : decode cX5_rank 91 = .ok (.aload_n 0, 1) := by decide +kernel
theorem dX5_rank_92 : decode cX5_rank 92 = .ok (.getfield 33, 3) := by decide +kernel
theorem dX5_rank_95 : decode cX5_rank 95 = .ok (.iload_n 1, 1) := by decide +kernel
theorem dX5_rank_96 : decode cX5_rank 96 = .ok (.invokevirtual 171, 3) := by decide +kernel
theorem dX5_rank_99 : decode cX5_rank 99 = .ok (.ireturn, 1) := by decide +kernel
theorem dX5_rank_100 : decode cX5_rank 100 = .ok (.aload_n 0, 1) := by decide +kernel
theorem dX5_rank_101 : decode cX5_rank 101 = .ok (.getfield 33, 3) := by decide +kernel
theorem dX5_rank_104 : decode cX5_rank 104 = .ok (.iload_n 1, 1) := by decide +kernel
theorem dX5_rank_105 : decode cX5_rank 105 = .ok (.invokevirtual 174, 3) := by decide +kernel
theorem dX5_rank_108 : decode cX5_rank 108 = .ok (.ireturn, 1) := by decide +kernel
theorem dX5_rank_109 : decode cX5_rank 109 = .ok (.ldc 94, 2) := by decide +kernel
theorem dX5_rank_111 : decode cX5_rank 111 = .ok (.ireturn, 1) := by decide +kernel
set_option maxRecDepth 20000 in
theorem ggX5_compare_X0_length : GoodIn wsX5_compare wsX0_length := goodIn_r _ [7, 8, 9, 10, 11, 12, 6, 13, 14, 15, 16, 17, 18, 19, 20, 21, 22, 23, 24, 25, 26, 27, 28, 29, 30, 31, 32, 33, 34, 35, 36, 37, 38, 39, 40, 41, 42, 43, 44, 45, 108, 109, 110, 111, 112, 113, 114, 115, 116, 117, 118, 119] (by decide +kernel) (by decide +kernel)
set_option maxRecDepth 20000 in
theorem gX5_compare_X0_length : GoodIn wsX5_compare (wsV RX5 65 RX0 yX0_length wsX0_length) := goodIn_app (goodIn_of _ (by decide +kernel)) ggX5_compare_X0_length
set_option maxRecDepth 20000 in
theorem ggX5_compare_X5_isIn : GoodIn wsX5_compare wsX5_isIn := goodIn_r _ [48] (by decide +kernel) (by decide +kernel)
set_option maxRecDepth 20000 in
theorem gX5_compare_X5_isIn : GoodIn wsX5_compare (va_wsS RX5 100 yX5_isIn wsX5_isIn) := goodIn_app (goodIn_of _ (by decide +kernel)) ggX5_compare_X5_isIn
set_option maxRecDepth 20000 in
theorem ggX5_compare_X0_comparePlaces : GoodIn wsX5_compare wsX0_comparePlaces := goodIn_r _ [52, 9, 10, 11, 12, 6, 13, 14, 33, 34, 35, 36, 37, 53, 54, 55, 56, 57, 58, 59, 60, 61, 62, 63, 64, 65, 66, 67, 68, 69, 70, 71, 72, 73, 74, 75, 76, 77, 78, 79, 80, 81, 82, 83, 84, 85, 86, 87, 88, 89, 43, 90, 91, 92, 93, 94, 95, 108, 109, 110, 111, 112, 113, 114, 115, 116, 117, 118, 119] (by decide +kernel) (by decide +kernel)
set_option maxRecDepth 20000 in
theorem gX5_compare_X0_comparePlaces : GoodIn wsX5_compare (wsV RX5 177 RX0 yX0_comparePlaces wsX0_comparePlaces) := goodIn_app (goodIn_of _ (by decide +kernel)) ggX5_compare_X0_comparePlaces
set_option maxRecDepth 20000 in
theorem ggX5_compare_X5_relation : GoodIn wsX5_compare wsX5_relation := goodIn_r _ [98] (by decide +kernel) (by decide +kernel)
set_option maxRecDepth 20000 in
theorem gX5_compare_X5_relation : GoodIn wsX5_compare (va_wsS RX5 180 yX5_relation wsX5_relation) := goodIn_app (goodIn_of _ (by decide +kernel)) ggX5_compare_X5_relation
theorem dX5_compare_0 : decode cX5_compare 0 = .ok (.aload_n 0, 1) := by decide +kernel
theorem dX5_compare_1 : decode cX5_compare 1 = .ok (.getfield 10, 3) := by decide +kernel
theorem dX5_compare_4 : decode cX5_compare 4 = .ok (.invokevirtual 65, 3) := by decide +kernel
theorem dX5_compare_7 : decode cX5_compare 7 = .ok (.istore_n 3, 1) := by decide +kernel
theorem dX5_compare_8 : decode cX5_compare 8 = .ok (.iload_n 1, 1) := by decide +kernel
theorem dX5_compare_9 : decode cX5_compare 9 = .ok (.iconst 0, 1) := by decide +kernel
theorem dX5_compare_10 : decode cX5_compare 10 = .ok (.iload_n 3, 1) := by decide +kernel
theorem dX5_compare_11 : decode cX5_compare 11 = .ok (.iconst 1, 1) := by decide +kernel
theorem dX5_compare_12 : decode cX5_compare 12 = .ok (.isub, 1) := by decide +kernel
theorem dX5_compare_13 : decode cX5_compare 13 = .ok (.invokestatic 100, 3) := by decide +kernel
theorem dX5_compare_16 : decode cX5_compare 16 = .ok (.ifCond .eq 14, 3) := by decide +kernel
theorem dX5_compare_19 : decode cX5_compare 19 = .ok (.iload_n 2, 1) := by decide +kernel
theorem dX5_compare_20 : decode cX5_compare 20 = .ok (.iconst 0, 1) := by decide +kernel
theorem dX5_compare_21 : decode cX5_compare 21 = .ok (.iload_n 3, 1) := by decide +kernel
theorem dX5_compare_22 : decode cX5_compare 22 = .ok (.iconst 1, 1) := by decide +kernel
theorem dX5_compare_23 : decode cX5_compare 23 = .ok (.isub, 1) := by decide +kernel
theorem dX5_compare_24 : decode cX5_compare 24 = .ok (.invokestatic 100, 3) := by decide +kernel
theorem dX5_compare_27 : decode cX5_compare 27 = .ok (.ifCond .ne 6, 3) := by decide +kernel
theorem dX5_compare_30 : decode cX5_compare 30 = .ok (.ldc 99, 2) := by decide +kernel
theorem dX5_compare_32 : decode cX5_compare 32 = .ok (.ireturn, 1) := by decide +kernel
theorem dX5_compare_33 : decode cX5_compare 33 = .ok (.aload_n 0, 1) := by decide +kernel
theorem dX5_compare_34 : decode cX5_compare 34 = .ok (.getfield 10, 3) := by decide +kernel
theorem dX5_compare_37 : decode cX5_compare 37 = .ok (.iload_n 1, 1) := by decide +kernel
theorem dX5_compare_38 : decode cX5_compare 38 = .ok (.iload_n 2, 1) := by decide +kernel
theorem dX5_compare_39 : decode cX5_compare 39 = .ok (.bipush 15, 2) := by decide +kernel
theorem dX5_compare_41 : decode cX5_compare 41 = .ok (.invokevirtual 177, 3) := by decide +kernel
theorem dX5_compare_44 : decode cX5_compare 44 = .ok (.invokestatic 180, 3) := by decide +kernel
theorem dX5_compare_47 : decode cX5_compare 47 = .ok (.ireturn, 1) := by decide +kernel
set_option maxRecDepth 20000 in
theorem ggX5_below_X5_isSlot : GoodIn wsX5_below wsX5_isSlot := goodIn_r _ [7] (by decide +kernel) (by decide +kernel)
set_option maxRecDepth 20000 in
theorem gX5_below_X5_isSlot : GoodIn wsX5_below (va_wsS RX5 95 yX5_isSlot wsX5_isSlot) := goodIn_app (goodIn_of _ (by decide +kernel)) ggX5_below_X5_isSlot
set_option maxRecDepth 20000 in
theorem ggX5_below_X5_isIn : GoodIn wsX5_below wsX5_isIn := goodIn_r _ [10] (by decide +kernel) (by decide +kernel)
set_option maxRecDepth 20000 in
theorem gX5_below_X5_isIn : GoodIn wsX5_below (va_wsS RX5 100 yX5_isIn wsX5_isIn) := goodIn_app (goodIn_of _ (by decide +kernel)) ggX5_below_X5_isIn
set_option maxRecDepth 20000 in
theorem ggX5_below_X0_holdsArray : GoodIn wsX5_below wsX0_holdsArray := goodIn_r _ [15, 16, 17, 18, 14, 19, 20, 90, 91, 92, 93, 94, 95, 96, 97, 98, 99, 100, 101] (by decide +kernel) (by decide +kernel)
set_option maxRecDepth 20000 in
theorem gX5_below_X0_holdsArray : GoodIn wsX5_below (wsV RX5 107 RX0 yX0_holdsArray wsX0_holdsArray) := goodIn_app (goodIn_of _ (by decide +kernel)) ggX5_below_X0_holdsArray
set_option maxRecDepth 20000 in
theorem ggX5_below_X5_fits : GoodIn wsX5_below wsX5_fits := goodIn_r _ [23, 24] (by decide +kernel) (by decide +kernel)
set_option maxRecDepth 20000 in
theorem gX5_below_X5_fits : GoodIn wsX5_below (va_wsS RX5 183 yX5_fits wsX5_fits) := goodIn_app (goodIn_of _ (by decide +kernel)) ggX5_below_X5_fits
set_option maxRecDepth 20000 in
theorem ggX5_below_X0_sizeOf : GoodIn wsX5_below wsX0_sizeOf := goodIn_r _ [28, 29, 90, 91, 92, 93, 94, 95, 96, 97, 98, 99, 100, 101] (by decide +kernel) (by decide +kernel)
set_option maxRecDepth 20000 in
theorem gX5_below_X0_sizeOf : GoodIn wsX5_below (wsV RX5 110 RX0 yX0_sizeOf wsX0_sizeOf) := goodIn_app (goodIn_of _ (by decide +kernel)) ggX5_below_X0_sizeOf
set_option maxRecDepth 20000 in
theorem ggX5_below_X0_canRead : GoodIn wsX5_below wsX0_canRead := goodIn_r _ [33, 16, 17, 18, 14, 19, 20, 22, 6, 23, 24, 90, 91, 92, 93, 94, 95, 96, 97, 98, 99, 100, 101] (by decide +kernel) (by decide +kernel)
set_option maxRecDepth 20000 in
theorem gX5_below_X0_canRead : GoodIn wsX5_below (wsV RX5 187 RX0 yX0_canRead wsX0_canRead) := goodIn_app (goodIn_of _ (by decide +kernel)) ggX5_below_X0_canRead
set_option maxRecDepth 20000 in
theorem ggX5_below_X0_cellsAgainstHand : GoodIn wsX5_below wsX0_cellsAgainstHand := goodIn_r _ [37, 38, 26, 27, 14, 28, 29, 39, 40, 41, 42, 43, 44, 45, 46, 47, 48, 49, 50, 51, 52, 53, 54, 55, 56, 57, 58, 59, 60, 61, 62, 63, 64, 65, 66, 67, 68, 69, 70, 71, 72, 73, 74, 75, 76, 77, 6, 78, 79, 80, 90, 91, 92, 93, 94, 95, 96, 97, 98, 99, 100, 101] (by decide +kernel) (by decide +kernel)
set_option maxRecDepth 20000 in
theorem gX5_below_X0_cellsAgainstHand : GoodIn wsX5_below (wsV RX5 190 RX0 yX0_cellsAgainstHand wsX0_cellsAgainstHand) := goodIn_app (goodIn_of _ (by decide +kernel)) ggX5_below_X0_cellsAgainstHand
theorem dX5_below_0 : decode cX5_below 0 = .ok (.iload_n 1, 1) := by decide +kernel
theorem dX5_below_1 : decode cX5_below 1 = .ok (.invokestatic 95, 3) := by decide +kernel
theorem dX5_below_4 : decode cX5_below 4 = .ok (.ifCond .ne 6, 3) := by decide +kernel
theorem dX5_below_7 : decode cX5_below 7 = .ok (.ldc 99, 2) := by decide +kernel
theorem dX5_below_9 : decode cX5_below 9 = .ok (.ireturn, 1) := by decide +kernel
theorem dX5_below_10 : decode cX5_below 10 = .ok (.iload_n 2, 1) := by decide +kernel
theorem dX5_below_11 : decode cX5_below 11 = .ok (.iconst 0, 1) := by decide +kernel
theorem dX5_below_12 : decode cX5_below 12 = .ok (.bipush 8, 2) := by decide +kernel
theorem dX5_below_14 : decode cX5_below 14 = .ok (.invokestatic 100, 3) := by decide +kernel
theorem dX5_below_17 : decode cX5_below 17 = .ok (.ifCond .eq 12, 3) := by decide +kernel
theorem dX5_below_20 : decode cX5_below 20 = .ok (.iload_n 3, 1) := by decide +kernel
theorem dX5_below_21 : decode cX5_below 21 = .ok (.iconst 0, 1) := by decide +kernel
theorem dX5_below_22 : decode cX5_below 22 = .ok (.iconst 1, 1) := by decide +kernel
theorem dX5_below_23 : decode cX5_below 23 = .ok (.invokestatic 100, 3) := by decide +kernel
theorem dX5_below_26 : decode cX5_below 26 = .ok (.ifCond .ne 6, 3) := by decide +kernel
theorem dX5_below_29 : decode cX5_below 29 = .ok (.ldc 94, 2) := by decide +kernel
theorem dX5_below_31 : decode cX5_below 31 = .ok (.ireturn, 1) := by decide +kernel
theorem dX5_below_32 : decode cX5_below 32 = .ok (.aload_n 0, 1) := by decide +kernel
theorem dX5_below_33 : decode cX5_below 33 = .ok (.getfield 10, 3) := by decide +kernel
theorem dX5_below_36 : decode cX5_below 36 = .ok (.iload_n 1, 1) := by decide +kernel
theorem dX5_below_37 : decode cX5_below 37 = .ok (.invokevirtual 107, 3) := by decide +kernel
theorem dX5_below_40 : decode cX5_below 40 = .ok (.ifCond .eq 23, 3) := by decide +kernel
theorem dX5_below_43 : decode cX5_below 43 = .ok (.iload_n 2, 1) := by decide +kernel
theorem dX5_below_44 : decode cX5_below 44 = .ok (.bipush 8, 2) := by decide +kernel
theorem dX5_below_46 : decode cX5_below 46 = .ok (.if_icmp .eq 19, 3) := by decide +kernel
theorem dX5_below_49 : decode cX5_below 49 = .ok (.aload_n 0, 1) := by decide +kernel
theorem dX5_below_50 : decode cX5_below 50 = .ok (.getfield 10, 3) := by decide +kernel
theorem dX5_below_53 : decode cX5_below 53 = .ok (.getfield 129, 3) := by decide +kernel
theorem dX5_below_56 : decode cX5_below 56 = .ok (.iload_n 2, 1) := by decide +kernel
theorem dX5_below_57 : decode cX5_below 57 = .ok (.invokestatic 183, 3) := by decide +kernel
theorem dX5_below_60 : decode cX5_below 60 = .ok (.ifCond .ne 5, 3) := by decide +kernel
theorem dX5_below_63 : decode cX5_below 63 = .ok (.iconst (-1), 1) := by decide +kernel
theorem dX5_below_64 : decode cX5_below 64 = .ok (.ireturn, 1) := by decide +kernel
theorem dX5_below_65 : decode cX5_below 65 = .ok (.aload_n 0, 1) := by decide +kernel
theorem dX5_below_66 : decode cX5_below 66 = .ok (.getfield 10, 3) := by decide +kernel
theorem dX5_below_69 : decode cX5_below 69 = .ok (.iload_n 1, 1) := by decide +kernel
theorem dX5_below_70 : decode cX5_below 70 = .ok (.invokevirtual 110, 3) := by decide +kernel
theorem dX5_below_73 : decode cX5_below 73 = .ok (.ifCond .le 17, 3) := by decide +kernel
theorem dX5_below_76 : decode cX5_below 76 = .ok (.aload_n 0, 1) := by decide +kernel
theorem dX5_below_77 : decode cX5_below 77 = .ok (.getfield 10, 3) := by decide +kernel
theorem dX5_below_80 : decode cX5_below 80 = .ok (.iload_n 1, 1) := by decide +kernel
theorem dX5_below_81 : decode cX5_below 81 = .ok (.iload_n 2, 1) := by decide +kernel
theorem dX5_below_82 : decode cX5_below 82 = .ok (.invokevirtual 187, 3) := by decide +kernel
theorem dX5_below_85 : decode cX5_below 85 = .ok (.ifCond .ne 5, 3) := by decide +kernel
theorem dX5_below_88 : decode cX5_below 88 = .ok (.iconst (-1), 1) := by decide +kernel
theorem dX5_below_89 : decode cX5_below 89 = .ok (.ireturn, 1) := by decide +kernel
theorem dX5_below_90 : decode cX5_below 90 = .ok (.aload_n 0, 1) := by decide +kernel
theorem dX5_below_91 : decode cX5_below 91 = .ok (.getfield 10, 3) := by decide +kernel
theorem dX5_below_94 : decode cX5_below 94 = .ok (.iload_n 1, 1) := by decide +kernel
theorem dX5_below_95 : decode cX5_below 95 = .ok (.iload_n 2, 1) := by decide +kernel
theorem dX5_below_96 : decode cX5_below 96 = .ok (.iload_n 3, 1) := by decide +kernel
theorem dX5_below_97 : decode cX5_below 97 = .ok (.ifCond .ne 7, 3) := by decide +kernel
theorem dX5_below_100 : decode cX5_below 100 = .ok (.iconst 0, 1) := by decide +kernel
theorem dX5_below_101 : decode cX5_below 101 = .ok (.goto 4, 3) := by decide +kernel
theorem dX5_below_104 : decode cX5_below 104 = .ok (.iconst 1, 1) := by decide +kernel
theorem dX5_below_105 : decode cX5_below 105 = .ok (.invokevirtual 190, 3) := by decide +kernel
theorem dX5_below_108 : decode cX5_below 108 = .ok (.ireturn, 1) := by decide +kernel
set_option maxRecDepth 20000 in
theorem ggX5_would_X5_isSlot : GoodIn wsX5_would wsX5_isSlot := goodIn_r _ [7] (by decide +kernel) (by decide +kernel)
set_option maxRecDepth 20000 in
theorem gX5_would_X5_isSlot : GoodIn wsX5_would (va_wsS RX5 95 yX5_isSlot wsX5_isSlot) := goodIn_app (goodIn_of _ (by decide +kernel)) ggX5_would_X5_isSlot
set_option maxRecDepth 20000 in
theorem ggX5_would_X0_whyNotPut : GoodIn wsX5_would wsX0_whyNotPut := goodIn_r _ [12, 13, 14, 15, 11, 16, 17, 18, 19, 20, 21, 22, 23, 24, 25, 26, 27, 28, 29, 30, 31, 6, 32, 33, 34, 35, 36, 37, 38, 39, 162, 163, 164, 165, 166, 167, 168, 169, 170, 171, 172, 173] (by decide +kernel) (by decide +kernel)
set_option maxRecDepth 20000 in
theorem gX5_would_X0_whyNotPut : GoodIn wsX5_would (wsV RX5 193 RX0 yX0_whyNotPut wsX0_whyNotPut) := goodIn_app (goodIn_of _ (by decide +kernel)) ggX5_would_X0_whyNotPut
set_option maxRecDepth 20000 in
theorem ggX5_would_X0_sortAt : GoodIn wsX5_would wsX0_sortAt := goodIn_r _ [43, 44, 45, 46, 11, 47, 162, 163, 164, 165, 166, 167, 168, 169, 170, 171, 172, 173] (by decide +kernel) (by decide +kernel)
set_option maxRecDepth 20000 in
theorem gX5_would_X0_sortAt : GoodIn wsX5_would (wsV RX5 121 RX0 yX0_sortAt wsX0_sortAt) := goodIn_app (goodIn_of _ (by decide +kernel)) ggX5_would_X0_sortAt
set_option maxRecDepth 20000 in
theorem ggX5_would_X0_numberAt : GoodIn wsX5_would wsX0_numberAt := goodIn_r _ [51, 52, 45, 46, 11, 47, 162, 163, 164, 165, 166, 167, 168, 169, 170, 171, 172, 173] (by decide +kernel) (by decide +kernel)
set_option maxRecDepth 20000 in
theorem gX5_would_X0_numberAt : GoodIn wsX5_would (wsV RX5 125 RX0 yX0_numberAt wsX0_numberAt) := goodIn_app (goodIn_of _ (by decide +kernel)) ggX5_would_X0_numberAt
set_option maxRecDepth 20000 in
theorem ggX5_would_X0_store : GoodIn wsX5_would wsX0_store := goodIn_r _ [56, 17, 18, 19, 11, 20, 21, 57, 6, 58, 59, 60, 61, 62, 44, 52, 45, 46, 47, 162, 163, 164, 165, 166, 167, 168, 169, 170, 171, 172, 173] (by decide +kernel) (by decide +kernel)
set_option maxRecDepth 20000 in
theorem gX5_would_X0_store : GoodIn wsX5_would (wsV RX5 197 RX0 yX0_store wsX0_store) := goodIn_app (goodIn_of _ (by decide +kernel)) ggX5_would_X0_store
set_option maxRecDepth 20000 in
theorem ggX5_would_X4_sortPlaces : GoodIn wsX5_would wsX4_sortPlaces := goodIn_r _ [67, 68, 69, 70, 71, 72, 73, 74, 75, 76, 77, 78, 11, 79, 80, 81, 82, 83, 84, 85, 86, 22, 23, 24, 25, 17, 18, 19, 20, 21, 26, 27, 28, 29, 30, 87, 88, 89, 90, 91, 92, 93, 94, 95, 96, 97, 98, 99, 33, 6, 34, 35, 100, 101, 102, 103, 104, 105, 106, 107, 108, 41, 42, 43, 44, 45, 46, 47, 109, 49, 50, 51, 52, 110, 111, 112, 113, 114, 115, 116, 117, 118, 119, 120, 121, 122, 39, 123, 124, 125, 126, 127, 57, 58, 128, 129, 130, 131, 132, 133, 134, 135, 66, 136, 137, 138, 139, 140, 141, 142, 143, 144, 145, 146, 147, 148, 149, 174, 175, 176, 177, 178, 162, 163, 164, 165, 166, 167, 168, 169, 170, 171, 172, 173] (by decide +kernel) (by decide +kernel)
set_option maxRecDepth 20000 in
theorem gX5_would_X4_sortPlaces : GoodIn wsX5_would (wsV RX5 85 RX4 yX4_sortPlaces wsX4_sortPlaces) := goodIn_app (goodIn_of _ (by decide +kernel)) ggX5_would_X4_sortPlaces
set_option maxRecDepth 20000 in
theorem ggX5_would_X0_setCell : GoodIn wsX5_would wsX0_setCell := goodIn_r _ [62, 44, 52, 45, 46, 11, 47, 162, 163, 164, 165, 166, 167, 168, 169, 170, 171, 172, 173] (by decide +kernel) (by decide +kernel)
set_option maxRecDepth 20000 in
theorem gX5_would_X0_setCell : GoodIn wsX5_would (wsV RX5 201 RX0 yX0_setCell wsX0_setCell) := goodIn_app (goodIn_of _ (by decide +kernel)) ggX5_would_X0_setCell
set_option maxRecDepth 20000 in
theorem ggX5_would_X4_isPlace : GoodIn wsX5_would wsX4_isPlace := goodIn_r _ [148, 72, 174, 175, 176, 177, 178] (by decide +kernel) (by decide +kernel)
set_option maxRecDepth 20000 in
theorem gX5_would_X4_isPlace : GoodIn wsX5_would (wsV RX5 159 RX4 yX4_isPlace wsX4_isPlace) := goodIn_app (goodIn_of _ (by decide +kernel)) ggX5_would_X4_isPlace
set_option maxRecDepth 20000 in
theorem ggX5_would_X4_lesserThan : GoodIn wsX5_would wsX4_lesserThan := goodIn_r _ [144, 73, 145, 146, 147, 66, 148, 72, 174, 175, 176, 177, 178] (by decide +kernel) (by decide +kernel)
set_option maxRecDepth 20000 in
theorem gX5_would_X4_lesserThan : GoodIn wsX5_would (wsV RX5 162 RX4 yX4_lesserThan wsX4_lesserThan) := goodIn_app (goodIn_of _ (by decide +kernel)) ggX5_would_X4_lesserThan
theorem dX5_would_0 : decode cX5_would 0 = .ok (.iload_n 1, 1) := by decide +kernel
theorem dX5_would_1 : decode cX5_would 1 = .ok (.invokestatic 95, 3) := by decide +kernel
theorem dX5_would_4 : decode cX5_would 4 = .ok (.ifCond .ne 6, 3) := by decide +kernel
theorem dX5_would_7 : decode cX5_would 7 = .ok (.ldc 99, 2) := by decide +kernel
theorem dX5_would_9 : decode cX5_would 9 = .ok (.ireturn, 1) := by decide +kernel
theorem dX5_would_10 : decode cX5_would 10 = .ok (.aload_n 0, 1) := by decide +kernel
theorem dX5_would_11 : decode cX5_would 11 = .ok (.getfield 10, 3) := by decide +kernel
theorem dX5_would_14 : decode cX5_would 14 = .ok (.iload_n 1, 1) := by decide +kernel
theorem dX5_would_15 : decode cX5_would 15 = .ok (.iload_n 2, 1) := by decide +kernel
theorem dX5_would_16 : decode cX5_would 16 = .ok (.aload_n 0, 1) := by decide +kernel
theorem dX5_would_17 : decode cX5_would 17 = .ok (.getfield 10, 3) := by decide +kernel
theorem dX5_would_20 : decode cX5_would 20 = .ok (.getfield 129, 3) := by decide +kernel
theorem dX5_would_23 : decode cX5_would 23 = .ok (.aload_n 0, 1) := by decide +kernel
theorem dX5_would_24 : decode cX5_would 24 = .ok (.getfield 10, 3) := by decide +kernel
theorem dX5_would_27 : decode cX5_would 27 = .ok (.getfield 132, 3) := by decide +kernel
theorem dX5_would_30 : decode cX5_would 30 = .ok (.iconst 0, 1) := by decide +kernel
theorem dX5_would_31 : decode cX5_would 31 = .ok (.invokevirtual 193, 3) := by decide +kernel
theorem dX5_would_34 : decode cX5_would 34 = .ok (.ifCond .eq 5, 3) := by decide +kernel
theorem dX5_would_37 : decode cX5_would 37 = .ok (.iconst (-1), 1) := by decide +kernel
theorem dX5_would_38 : decode cX5_would 38 = .ok (.ireturn, 1) := by decide +kernel
theorem dX5_would_39 : decode cX5_would 39 = .ok (.aload_n 0, 1) := by decide +kernel
theorem dX5_would_40 : decode cX5_would 40 = .ok (.getfield 10, 3) := by decide +kernel
theorem dX5_would_43 : decode cX5_would 43 = .ok (.iload_n 1, 1) := by decide +kernel
theorem dX5_would_44 : decode cX5_would 44 = .ok (.iload_n 2, 1) := by decide +kernel
theorem dX5_would_45 : decode cX5_would 45 = .ok (.invokevirtual 121, 3) := by decide +kernel
theorem dX5_would_48 : decode cX5_would 48 = .ok (.istore_n 3, 1) := by decide +kernel
theorem dX5_would_49 : decode cX5_would 49 = .ok (.aload_n 0, 1) := by decide +kernel
theorem dX5_would_50 : decode cX5_would 50 = .ok (.getfield 10, 3) := by decide +kernel
theorem dX5_would_53 : decode cX5_would 53 = .ok (.iload_n 1, 1) := by decide +kernel
theorem dX5_would_54 : decode cX5_would 54 = .ok (.iload_n 2, 1) := by decide +kernel
theorem dX5_would_55 : decode cX5_would 55 = .ok (.invokevirtual 125, 3) := by decide +kernel
theorem dX5_would_58 : decode cX5_would 58 = .ok (.lstore 4, 2) := by decide +kernel
theorem dX5_would_60 : decode cX5_would 60 = .ok (.aload_n 0, 1) := by decide +kernel
theorem dX5_would_61 : decode cX5_would 61 = .ok (.getfield 10, 3) := by decide +kernel
theorem dX5_would_64 : decode cX5_would 64 = .ok (.iload_n 1, 1) := by decide +kernel
theorem dX5_would_65 : decode cX5_would 65 = .ok (.iload_n 2, 1) := by decide +kernel
theorem dX5_would_66 : decode cX5_would 66 = .ok (.aload_n 0, 1) := by decide +kernel
theorem dX5_would_67 : decode cX5_would 67 = .ok (.getfield 10, 3) := by decide +kernel
theorem dX5_would_70 : decode cX5_would 70 = .ok (.getfield 129, 3) := by decide +kernel
theorem dX5_would_73 : decode cX5_would 73 = .ok (.aload_n 0, 1) := by decide +kernel
theorem dX5_would_74 : decode cX5_would 74 = .ok (.getfield 10, 3) := by decide +kernel
theorem dX5_would_77 : decode cX5_would 77 = .ok (.getfield 132, 3) := by decide +kernel
theorem dX5_would_80 : decode cX5_would 80 = .ok (.invokevirtual 197, 3) := by decide +kernel
theorem dX5_would_83 : decode cX5_would 83 = .ok (.aload_n 0, 1) := by decide +kernel
theorem dX5_would_84 : decode cX5_would 84 = .ok (.getfield 33, 3) := by decide +kernel
theorem dX5_would_87 : decode cX5_would 87 = .ok (.aload_n 0, 1) := by decide +kernel
theorem dX5_would_88 : decode cX5_would 88 = .ok (.getfield 10, 3) := by decide +kernel
theorem dX5_would_91 : decode cX5_would 91 = .ok (.bipush 15, 2) := by decide +kernel
theorem dX5_would_93 : decode cX5_would 93 = .ok (.invokevirtual 85, 3) := by decide +kernel
theorem dX5_would_96 : decode cX5_would 96 = .ok (.aload_n 0, 1) := by decide +kernel
theorem dX5_would_97 : decode cX5_would 97 = .ok (.getfield 10, 3) := by decide +kernel
theorem dX5_would_100 : decode cX5_would 100 = .ok (.iload_n 1, 1) := by decide +kernel
theorem dX5_would_101 : decode cX5_would 101 = .ok (.iload_n 2, 1) := by decide +kernel
theorem dX5_would_102 : decode cX5_would 102 = .ok (.iload_n 3, 1) := by decide +kernel
theorem dX5_would_103 : decode cX5_would 103 = .ok (.lload 4, 2) := by decide +kernel
theorem dX5_would_105 : decode cX5_would 105 = .ok (.invokevirtual 201, 3) := by decide +kernel
theorem dX5_would_108 : decode cX5_would 108 = .ok (.aload_n 0, 1) := by decide +kernel
theorem dX5_would_109 : decode cX5_would 109 = .ok (.getfield 33, 3) := by decide +kernel
theorem dX5_would_112 : decode cX5_would 112 = .ok (.iload_n 2, 1) := by decide +kernel
theorem dX5_would_113 : decode cX5_would 113 = .ok (.invokevirtual 159, 3) := by decide +kernel
theorem dX5_would_116 : decode cX5_would 116 = .ok (.ifCond .eq 14, 3) := by decide +kernel
theorem dX5_would_119 : decode cX5_would 119 = .ok (.aload_n 0, 1) := by decide +kernel
theorem dX5_would_120 : decode cX5_would 120 = .ok (.getfield 33, 3) := by decide +kernel
theorem dX5_would_123 : decode cX5_would 123 = .ok (.iload_n 2, 1) := by decide +kernel
theorem dX5_would_124 : decode cX5_would 124 = .ok (.invokevirtual 162, 3) := by decide +kernel
theorem dX5_would_127 : decode cX5_would 127 = .ok (.goto 4, 3) := by decide +kernel
theorem dX5_would_130 : decode cX5_would 130 = .ok (.iconst (-1), 1) := by decide +kernel
theorem dX5_would_131 : decode cX5_would 131 = .ok (.ireturn, 1) := by decide +kernel
set_option maxRecDepth 20000 in
theorem ggX5_lay_X5_isSlot : GoodIn wsX5_lay wsX5_isSlot := goodIn_r _ [8] (by decide +kernel) (by decide +kernel)
set_option maxRecDepth 20000 in
theorem gX5_lay_X5_isSlot : GoodIn wsX5_lay (va_wsS RX5 95 yX5_isSlot wsX5_isSlot) := goodIn_app (goodIn_of _ (by decide +kernel)) ggX5_lay_X5_isSlot
set_option maxRecDepth 20000 in
theorem ggX5_lay_X5_isIn : GoodIn wsX5_lay wsX5_isIn := goodIn_r _ [11] (by decide +kernel) (by decide +kernel)
set_option maxRecDepth 20000 in
theorem gX5_lay_X5_isIn : GoodIn wsX5_lay (va_wsS RX5 100 yX5_isIn wsX5_isIn) := goodIn_app (goodIn_of _ (by decide +kernel)) ggX5_lay_X5_isIn
set_option maxRecDepth 20000 in
theorem ggX5_lay_X0_kindOf : GoodIn wsX5_lay wsX0_kindOf := goodIn_r _ [16, 17, 83, 84, 85, 86, 87, 88, 89, 90, 91, 92, 93, 94] (by decide +kernel) (by decide +kernel)
set_option maxRecDepth 20000 in
theorem gX5_lay_X0_kindOf : GoodIn wsX5_lay (wsV RX5 104 RX0 yX0_kindOf wsX0_kindOf) := goodIn_app (goodIn_of _ (by decide +kernel)) ggX5_lay_X0_kindOf
set_option maxRecDepth 20000 in
theorem ggX5_lay_X2_remember : GoodIn wsX5_lay wsX2_remember := goodIn_r _ [22, 23, 24, 25, 26, 15, 27, 28, 29, 30, 31, 32, 33, 34, 35, 36, 37, 38, 39, 40, 41, 42, 17, 43, 44, 45, 46, 47, 48, 49, 50, 51, 52, 53, 54, 55, 56, 57, 58, 59, 60, 61, 62, 95, 96, 97, 83, 84, 85, 86, 87, 88, 89, 90, 91, 92, 93, 94] (by decide +kernel) (by decide +kernel)
set_option maxRecDepth 20000 in
theorem gX5_lay_X2_remember : GoodIn wsX5_lay (wsV RX5 204 RX2 yX2_remember wsX2_remember) := goodIn_app (goodIn_of _ (by decide +kernel)) ggX5_lay_X2_remember
set_option maxRecDepth 20000 in
theorem ggX5_lay_X0_renew : GoodIn wsX5_lay wsX0_renew := goodIn_r _ [66, 17, 43, 6, 7, 8, 67, 68, 69, 15, 70, 44, 46, 71, 72, 73, 83, 84, 85, 86, 87, 88, 89, 90, 91, 92, 93, 94] (by decide +kernel) (by decide +kernel)
set_option maxRecDepth 20000 in
theorem gX5_lay_X0_renew : GoodIn wsX5_lay (wsV RX5 208 RX0 yX0_renew wsX0_renew) := goodIn_app (goodIn_of _ (by decide +kernel)) ggX5_lay_X0_renew
theorem dX5_lay_0 : decode cX5_lay 0 = .ok (.iload_n 1, 1) := by decide +kernel
theorem dX5_lay_1 : decode cX5_lay 1 = .ok (.invokestatic 95, 3) := by decide +kernel
theorem dX5_lay_4 : decode cX5_lay 4 = .ok (.ifCond .ne 6, 3) := by decide +kernel
theorem dX5_lay_7 : decode cX5_lay 7 = .ok (.ldc 99, 2) := by decide +kernel
theorem dX5_lay_9 : decode cX5_lay 9 = .ok (.ireturn, 1) := by decide +kernel
theorem dX5_lay_10 : decode cX5_lay 10 = .ok (.iload_n 2, 1) := by decide +kernel
theorem dX5_lay_11 : decode cX5_lay 11 = .ok (.iconst 0, 1) := by decide +kernel
theorem dX5_lay_12 : decode cX5_lay 12 = .ok (.bipush 14, 2) := by decide +kernel
theorem dX5_lay_14 : decode cX5_lay 14 = .ok (.invokestatic 100, 3) := by decide +kernel
theorem dX5_lay_17 : decode cX5_lay 17 = .ok (.ifCond .eq 13, 3) := by decide +kernel
theorem dX5_lay_20 : decode cX5_lay 20 = .ok (.iload_n 3, 1) := by decide +kernel
theorem dX5_lay_21 : decode cX5_lay 21 = .ok (.iconst 0, 1) := by decide +kernel
theorem dX5_lay_22 : decode cX5_lay 22 = .ok (.bipush 12, 2) := by decide +kernel
theorem dX5_lay_24 : decode cX5_lay 24 = .ok (.invokestatic 100, 3) := by decide +kernel
theorem dX5_lay_27 : decode cX5_lay 27 = .ok (.ifCond .ne 6, 3) := by decide +kernel
theorem dX5_lay_30 : decode cX5_lay 30 = .ok (.ldc 94, 2) := by decide +kernel
theorem dX5_lay_32 : decode cX5_lay 32 = .ok (.ireturn, 1) := by decide +kernel
theorem dX5_lay_33 : decode cX5_lay 33 = .ok (.aload_n 0, 1) := by decide +kernel
theorem dX5_lay_34 : decode cX5_lay 34 = .ok (.getfield 10, 3) := by decide +kernel
theorem dX5_lay_37 : decode cX5_lay 37 = .ok (.iload_n 1, 1) := by decide +kernel
theorem dX5_lay_38 : decode cX5_lay 38 = .ok (.invokevirtual 104, 3) := by decide +kernel
theorem dX5_lay_41 : decode cX5_lay 41 = .ok (.istore 4, 2) := by decide +kernel
theorem dX5_lay_43 : decode cX5_lay 43 = .ok (.aload_n 0, 1) := by decide +kernel
theorem dX5_lay_44 : decode cX5_lay 44 = .ok (.getfield 19, 3) := by decide +kernel
theorem dX5_lay_47 : decode cX5_lay 47 = .ok (.aload_n 0, 1) := by decide +kernel
theorem dX5_lay_48 : decode cX5_lay 48 = .ok (.getfield 10, 3) := by decide +kernel
theorem dX5_lay_51 : decode cX5_lay 51 = .ok (.invokevirtual 204, 3) := by decide +kernel
theorem dX5_lay_54 : decode cX5_lay 54 = .ok (.aload_n 0, 1) := by decide +kernel
theorem dX5_lay_55 : decode cX5_lay 55 = .ok (.getfield 10, 3) := by decide +kernel
theorem dX5_lay_58 : decode cX5_lay 58 = .ok (.iload_n 1, 1) := by decide +kernel
theorem dX5_lay_59 : decode cX5_lay 59 = .ok (.iload_n 2, 1) := by decide +kernel
theorem dX5_lay_60 : decode cX5_lay 60 = .ok (.iload_n 3, 1) := by decide +kernel
theorem dX5_lay_61 : decode cX5_lay 61 = .ok (.invokevirtual 208, 3) := by decide +kernel
theorem dX5_lay_64 : decode cX5_lay 64 = .ok (.iload 4, 2) := by decide +kernel
theorem dX5_lay_66 : decode cX5_lay 66 = .ok (.ireturn, 1) := by decide +kernel
set_option maxRecDepth 20000 in
theorem ggX5_take_X5_isIn : GoodIn wsX5_take wsX5_isIn := goodIn_r _ [8] (by decide +kernel) (by decide +kernel)
set_option maxRecDepth 20000 in
theorem gX5_take_X5_isIn : GoodIn wsX5_take (va_wsS RX5 100 yX5_isIn wsX5_isIn) := goodIn_app (goodIn_of _ (by decide +kernel)) ggX5_take_X5_isIn
set_option maxRecDepth 20000 in
theorem ggX5_take_X5_isTag : GoodIn wsX5_take wsX5_isTag := goodIn_r _ [11, 12] (by decide +kernel) (by decide +kernel)
set_option maxRecDepth 20000 in
theorem gX5_take_X5_isTag : GoodIn wsX5_take (va_wsS RX5 136 yX5_isTag wsX5_isTag) := goodIn_app (goodIn_of _ (by decide +kernel)) ggX5_take_X5_isTag
set_option maxRecDepth 20000 in
theorem ggX5_take_X2_remember : GoodIn wsX5_take wsX2_remember := goodIn_r _ [17, 18, 19, 20, 21, 22, 23, 24, 25, 26, 27, 28, 29, 30, 31, 32, 33, 34, 35, 36, 37, 38, 39, 40, 41, 42, 43, 44, 45, 46, 47, 48, 49, 50, 51, 52, 53, 54, 55, 56, 57, 58, 59, 88, 89, 90, 76, 77, 78, 79, 80, 81, 82, 83, 84, 85, 86, 87] (by decide +kernel) (by decide +kernel)
set_option maxRecDepth 20000 in
theorem gX5_take_X2_remember : GoodIn wsX5_take (wsV RX5 204 RX2 yX2_remember wsX2_remember) := goodIn_app (goodIn_of _ (by decide +kernel)) ggX5_take_X2_remember
set_option maxRecDepth 20000 in
theorem ggX5_take_X5_made : GoodIn wsX5_take wsX5_made := goodIn_r _ [62] (by decide +kernel) (by decide +kernel)
set_option maxRecDepth 20000 in
theorem gX5_take_X5_made : GoodIn wsX5_take (va_wsS RX5 212 yX5_made wsX5_made) := goodIn_app (goodIn_of _ (by decide +kernel)) ggX5_take_X5_made
set_option maxRecDepth 20000 in
theorem ggX5_take_X0_setHand : GoodIn wsX5_take wsX0_setHand := goodIn_r _ [66, 48, 59, 76, 77, 78, 79, 80, 81, 82, 83, 84, 85, 86, 87] (by decide +kernel) (by decide +kernel)
set_option maxRecDepth 20000 in
theorem gX5_take_X0_setHand : GoodIn wsX5_take (wsV RX5 216 RX0 yX0_setHand wsX0_setHand) := goodIn_app (goodIn_of _ (by decide +kernel)) ggX5_take_X0_setHand
theorem dX5_take_0 : decode cX5_take 0 = .ok (.iload_n 1, 1) := by decide +kernel
theorem dX5_take_1 : decode cX5_take 1 = .ok (.iconst 0, 1) := by decide +kernel
theorem dX5_take_2 : decode cX5_take 2 = .ok (.bipush 9, 2) := by decide +kernel
theorem dX5_take_4 : decode cX5_take 4 = .ok (.invokestatic 100, 3) := by decide +kernel
theorem dX5_take_7 : decode cX5_take 7 = .ok (.ifCond .ne 6, 3) := by decide +kernel
theorem dX5_take_10 : decode cX5_take 10 = .ok (.ldc 94, 2) := by decide +kernel
theorem dX5_take_12 : decode cX5_take 12 = .ok (.ireturn, 1) := by decide +kernel
theorem dX5_take_13 : decode cX5_take 13 = .ok (.iload_n 1, 1) := by decide +kernel
theorem dX5_take_14 : decode cX5_take 14 = .ok (.bipush 8, 2) := by decide +kernel
theorem dX5_take_16 : decode cX5_take 16 = .ok (.if_icmp .ne 13, 3) := by decide +kernel
theorem dX5_take_19 : decode cX5_take 19 = .ok (.lload_n 2, 1) := by decide +kernel
theorem dX5_take_20 : decode cX5_take 20 = .ok (.invokestatic 136, 3) := by decide +kernel
theorem dX5_take_23 : decode cX5_take 23 = .ok (.ifCond .ne 6, 3) := by decide +kernel
theorem dX5_take_26 : decode cX5_take 26 = .ok (.ldc 99, 2) := by decide +kernel
theorem dX5_take_28 : decode cX5_take 28 = .ok (.ireturn, 1) := by decide +kernel
theorem dX5_take_29 : decode cX5_take 29 = .ok (.aload_n 0, 1) := by decide +kernel
theorem dX5_take_30 : decode cX5_take 30 = .ok (.getfield 10, 3) := by decide +kernel
theorem dX5_take_33 : decode cX5_take 33 = .ok (.getfield 129, 3) := by decide +kernel
theorem dX5_take_36 : decode cX5_take 36 = .ok (.istore 4, 2) := by decide +kernel
theorem dX5_take_38 : decode cX5_take 38 = .ok (.aload_n 0, 1) := by decide +kernel
theorem dX5_take_39 : decode cX5_take 39 = .ok (.getfield 19, 3) := by decide +kernel
theorem dX5_take_42 : decode cX5_take 42 = .ok (.aload_n 0, 1) := by decide +kernel
theorem dX5_take_43 : decode cX5_take 43 = .ok (.getfield 10, 3) := by decide +kernel
theorem dX5_take_46 : decode cX5_take 46 = .ok (.invokevirtual 204, 3) := by decide +kernel
theorem dX5_take_49 : decode cX5_take 49 = .ok (.aload_n 0, 1) := by decide +kernel
theorem dX5_take_50 : decode cX5_take 50 = .ok (.getfield 10, 3) := by decide +kernel
theorem dX5_take_53 : decode cX5_take 53 = .ok (.iload_n 1, 1) := by decide +kernel
theorem dX5_take_54 : decode cX5_take 54 = .ok (.iload_n 1, 1) := by decide +kernel
theorem dX5_take_55 : decode cX5_take 55 = .ok (.lload_n 2, 1) := by decide +kernel
theorem dX5_take_56 : decode cX5_take 56 = .ok (.invokestatic 212, 3) := by decide +kernel
theorem dX5_take_59 : decode cX5_take 59 = .ok (.invokevirtual 216, 3) := by decide +kernel
theorem dX5_take_62 : decode cX5_take 62 = .ok (.iload 4, 2) := by decide +kernel
theorem dX5_take_64 : decode cX5_take 64 = .ok (.ireturn, 1) := by decide +kernel
set_option maxRecDepth 20000 in
theorem ggX5_pick_X5_isSlot : GoodIn wsX5_pick wsX5_isSlot := goodIn_r _ [8] (by decide +kernel) (by decide +kernel)
set_option maxRecDepth 20000 in
theorem gX5_pick_X5_isSlot : GoodIn wsX5_pick (va_wsS RX5 95 yX5_isSlot wsX5_isSlot) := goodIn_app (goodIn_of _ (by decide +kernel)) ggX5_pick_X5_isSlot
set_option maxRecDepth 20000 in
theorem ggX5_pick_X5_isIn : GoodIn wsX5_pick wsX5_isIn := goodIn_r _ [11] (by decide +kernel) (by decide +kernel)
set_option maxRecDepth 20000 in
theorem gX5_pick_X5_isIn : GoodIn wsX5_pick (va_wsS RX5 100 yX5_isIn wsX5_isIn) := goodIn_app (goodIn_of _ (by decide +kernel)) ggX5_pick_X5_isIn
set_option maxRecDepth 20000 in
theorem ggX5_pick_X0_whyNotRead : GoodIn wsX5_pick wsX0_whyNotRead := goodIn_r _ [16, 17, 18, 19, 15, 20, 21, 22, 23, 24, 25, 26, 27, 28, 29, 30, 31, 32, 33, 34, 10, 7, 11, 35, 36, 37, 38, 39, 40, 41, 113, 114, 115, 116, 117, 118, 119, 120, 121, 122, 123, 124] (by decide +kernel) (by decide +kernel)
set_option maxRecDepth 20000 in
theorem gX5_pick_X0_whyNotRead : GoodIn wsX5_pick (wsV RX5 117 RX0 yX0_whyNotRead wsX0_whyNotRead) := goodIn_app (goodIn_of _ (by decide +kernel)) ggX5_pick_X0_whyNotRead
set_option maxRecDepth 20000 in
theorem ggX5_pick_X0_sortAt : GoodIn wsX5_pick wsX0_sortAt := goodIn_r _ [45, 46, 47, 48, 15, 49, 113, 114, 115, 116, 117, 118, 119, 120, 121, 122, 123, 124] (by decide +kernel) (by decide +kernel)
set_option maxRecDepth 20000 in
theorem gX5_pick_X0_sortAt : GoodIn wsX5_pick (wsV RX5 121 RX0 yX0_sortAt wsX0_sortAt) := goodIn_app (goodIn_of _ (by decide +kernel)) ggX5_pick_X0_sortAt
set_option maxRecDepth 20000 in
theorem ggX5_pick_X0_numberAt : GoodIn wsX5_pick wsX0_numberAt := goodIn_r _ [53, 54, 47, 48, 15, 49, 113, 114, 115, 116, 117, 118, 119, 120, 121, 122, 123, 124] (by decide +kernel) (by decide +kernel)
set_option maxRecDepth 20000 in
theorem gX5_pick_X0_numberAt : GoodIn wsX5_pick (wsV RX5 125 RX0 yX0_numberAt wsX0_numberAt) := goodIn_app (goodIn_of _ (by decide +kernel)) ggX5_pick_X0_numberAt
set_option maxRecDepth 20000 in
theorem ggX5_pick_X5_made : GoodIn wsX5_pick wsX5_made := goodIn_r _ [57] (by decide +kernel) (by decide +kernel)
set_option maxRecDepth 20000 in
theorem gX5_pick_X5_made : GoodIn wsX5_pick (va_wsS RX5 212 yX5_made wsX5_made) := goodIn_app (goodIn_of _ (by decide +kernel)) ggX5_pick_X5_made
set_option maxRecDepth 20000 in
theorem ggX5_pick_X2_remember : GoodIn wsX5_pick wsX2_remember := goodIn_r _ [62, 63, 64, 65, 66, 15, 67, 68, 69, 70, 71, 72, 73, 74, 75, 76, 77, 78, 79, 80, 81, 82, 25, 34, 46, 83, 54, 84, 85, 86, 87, 88, 89, 90, 91, 92, 93, 94, 95, 96, 97, 98, 99, 125, 126, 127, 113, 114, 115, 116, 117, 118, 119, 120, 121, 122, 123, 124] (by decide +kernel) (by decide +kernel)
set_option maxRecDepth 20000 in
theorem gX5_pick_X2_remember : GoodIn wsX5_pick (wsV RX5 204 RX2 yX2_remember wsX2_remember) := goodIn_app (goodIn_of _ (by decide +kernel)) ggX5_pick_X2_remember
set_option maxRecDepth 20000 in
theorem ggX5_pick_X0_setHand : GoodIn wsX5_pick wsX0_setHand := goodIn_r _ [103, 88, 99, 113, 114, 115, 116, 117, 118, 119, 120, 121, 122, 123, 124] (by decide +kernel) (by decide +kernel)
set_option maxRecDepth 20000 in
theorem gX5_pick_X0_setHand : GoodIn wsX5_pick (wsV RX5 216 RX0 yX0_setHand wsX0_setHand) := goodIn_app (goodIn_of _ (by decide +kernel)) ggX5_pick_X0_setHand
theorem dX5_pick_0 : decode cX5_pick 0 = .ok (.iload_n 1, 1) := by decide +kernel
theorem dX5_pick_1 : decode cX5_pick 1 = .ok (.invokestatic 95, 3) := by decide +kernel
theorem dX5_pick_4 : decode cX5_pick 4 = .ok (.ifCond .ne 6, 3) := by decide +kernel
theorem dX5_pick_7 : decode cX5_pick 7 = .ok (.ldc 99, 2) := by decide +kernel
theorem dX5_pick_9 : decode cX5_pick 9 = .ok (.ireturn, 1) := by decide +kernel
theorem dX5_pick_10 : decode cX5_pick 10 = .ok (.iload_n 3, 1) := by decide +kernel
theorem dX5_pick_11 : decode cX5_pick 11 = .ok (.iconst 0, 1) := by decide +kernel
theorem dX5_pick_12 : decode cX5_pick 12 = .ok (.bipush 8, 2) := by decide +kernel
theorem dX5_pick_14 : decode cX5_pick 14 = .ok (.invokestatic 100, 3) := by decide +kernel
theorem dX5_pick_17 : decode cX5_pick 17 = .ok (.ifCond .ne 6, 3) := by decide +kernel
theorem dX5_pick_20 : decode cX5_pick 20 = .ok (.ldc 94, 2) := by decide +kernel
theorem dX5_pick_22 : decode cX5_pick 22 = .ok (.ireturn, 1) := by decide +kernel
theorem dX5_pick_23 : decode cX5_pick 23 = .ok (.aload_n 0, 1) := by decide +kernel
theorem dX5_pick_24 : decode cX5_pick 24 = .ok (.getfield 10, 3) := by decide +kernel
theorem dX5_pick_27 : decode cX5_pick 27 = .ok (.iload_n 1, 1) := by decide +kernel
theorem dX5_pick_28 : decode cX5_pick 28 = .ok (.iload_n 2, 1) := by decide +kernel
theorem dX5_pick_29 : decode cX5_pick 29 = .ok (.iload_n 3, 1) := by decide +kernel
theorem dX5_pick_30 : decode cX5_pick 30 = .ok (.invokevirtual 117, 3) := by decide +kernel
theorem dX5_pick_33 : decode cX5_pick 33 = .ok (.istore 4, 2) := by decide +kernel
theorem dX5_pick_35 : decode cX5_pick 35 = .ok (.iload 4, 2) := by decide +kernel
theorem dX5_pick_37 : decode cX5_pick 37 = .ok (.ifCond .eq 6, 3) := by decide +kernel
theorem dX5_pick_40 : decode cX5_pick 40 = .ok (.iload 4, 2) := by decide +kernel
theorem dX5_pick_42 : decode cX5_pick 42 = .ok (.ireturn, 1) := by decide +kernel
theorem dX5_pick_43 : decode cX5_pick 43 = .ok (.iload_n 3, 1) := by decide +kernel
theorem dX5_pick_44 : decode cX5_pick 44 = .ok (.bipush 8, 2) := by decide +kernel
theorem dX5_pick_46 : decode cX5_pick 46 = .ok (.if_icmp .ne 15, 3) := by decide +kernel
theorem dX5_pick_49 : decode cX5_pick 49 = .ok (.aload_n 0, 1) := by decide +kernel
theorem dX5_pick_50 : decode cX5_pick 50 = .ok (.getfield 10, 3) := by decide +kernel
theorem dX5_pick_53 : decode cX5_pick 53 = .ok (.iload_n 1, 1) := by decide +kernel
theorem dX5_pick_54 : decode cX5_pick 54 = .ok (.iload_n 2, 1) := by decide +kernel
theorem dX5_pick_55 : decode cX5_pick 55 = .ok (.invokevirtual 121, 3) := by decide +kernel
theorem dX5_pick_58 : decode cX5_pick 58 = .ok (.goto 4, 3) := by decide +kernel
theorem dX5_pick_61 : decode cX5_pick 61 = .ok (.iload_n 3, 1) := by decide +kernel
theorem dX5_pick_62 : decode cX5_pick 62 = .ok (.istore 5, 2) := by decide +kernel
theorem dX5_pick_64 : decode cX5_pick 64 = .ok (.iload 5, 2) := by decide +kernel
theorem dX5_pick_66 : decode cX5_pick 66 = .ok (.aload_n 0, 1) := by decide +kernel
theorem dX5_pick_67 : decode cX5_pick 67 = .ok (.getfield 10, 3) := by decide +kernel
theorem dX5_pick_70 : decode cX5_pick 70 = .ok (.iload_n 1, 1) := by decide +kernel
theorem dX5_pick_71 : decode cX5_pick 71 = .ok (.iload_n 2, 1) := by decide +kernel
theorem dX5_pick_72 : decode cX5_pick 72 = .ok (.invokevirtual 125, 3) := by decide +kernel
theorem dX5_pick_75 : decode cX5_pick 75 = .ok (.invokestatic 212, 3) := by decide +kernel
theorem dX5_pick_78 : decode cX5_pick 78 = .ok (.lstore 6, 2) := by decide +kernel
theorem dX5_pick_80 : decode cX5_pick 80 = .ok (.aload_n 0, 1) := by decide +kernel
theorem dX5_pick_81 : decode cX5_pick 81 = .ok (.getfield 19, 3) := by decide +kernel
theorem dX5_pick_84 : decode cX5_pick 84 = .ok (.aload_n 0, 1) := by decide +kernel
theorem dX5_pick_85 : decode cX5_pick 85 = .ok (.getfield 10, 3) := by decide +kernel
theorem dX5_pick_88 : decode cX5_pick 88 = .ok (.invokevirtual 204, 3) := by decide +kernel
theorem dX5_pick_91 : decode cX5_pick 91 = .ok (.aload_n 0, 1) := by decide +kernel
theorem dX5_pick_92 : decode cX5_pick 92 = .ok (.getfield 10, 3) := by decide +kernel
theorem dX5_pick_95 : decode cX5_pick 95 = .ok (.iload 5, 2) := by decide +kernel
theorem dX5_pick_97 : decode cX5_pick 97 = .ok (.lload 6, 2) := by decide +kernel
theorem dX5_pick_99 : decode cX5_pick 99 = .ok (.invokevirtual 216, 3) := by decide +kernel
theorem dX5_pick_102 : decode cX5_pick 102 = .ok (.iconst 0, 1) := by decide +kernel
theorem dX5_pick_103 : decode cX5_pick 103 = .ok (.ireturn, 1) := by decide +kernel
set_option maxRecDepth 20000 in
theorem ggX5_put_X5_isSlot : GoodIn wsX5_put wsX5_isSlot := goodIn_r _ [9] (by decide +kernel) (by decide +kernel)
set_option maxRecDepth 20000 in
theorem gX5_put_X5_isSlot : GoodIn wsX5_put (va_wsS RX5 95 yX5_isSlot wsX5_isSlot) := goodIn_app (goodIn_of _ (by decide +kernel)) ggX5_put_X5_isSlot
set_option maxRecDepth 20000 in
theorem ggX5_put_X5_isIn : GoodIn wsX5_put wsX5_isIn := goodIn_r _ [12] (by decide +kernel) (by decide +kernel)
set_option maxRecDepth 20000 in
theorem gX5_put_X5_isIn : GoodIn wsX5_put (va_wsS RX5 100 yX5_isIn wsX5_isIn) := goodIn_app (goodIn_of _ (by decide +kernel)) ggX5_put_X5_isIn
set_option maxRecDepth 20000 in
theorem ggX5_put_X0_whyNotPut : GoodIn wsX5_put wsX0_whyNotPut := goodIn_r _ [17, 18, 19, 20, 16, 21, 22, 23, 24, 25, 26, 27, 28, 29, 30, 31, 32, 33, 34, 35, 11, 8, 12, 36, 37, 38, 39, 40, 41, 42, 109, 110, 111, 112, 113, 114, 115, 116, 117, 118, 119, 120] (by decide +kernel) (by decide +kernel)
set_option maxRecDepth 20000 in
theorem gX5_put_X0_whyNotPut : GoodIn wsX5_put (wsV RX5 193 RX0 yX0_whyNotPut wsX0_whyNotPut) := goodIn_app (goodIn_of _ (by decide +kernel)) ggX5_put_X0_whyNotPut
set_option maxRecDepth 20000 in
theorem ggX5_put_X2_remember : GoodIn wsX5_put wsX2_remember := goodIn_r _ [47, 48, 49, 50, 51, 16, 52, 53, 54, 55, 56, 57, 58, 59, 60, 61, 62, 63, 64, 65, 66, 67, 26, 35, 68, 69, 70, 71, 72, 73, 74, 75, 76, 77, 78, 79, 80, 81, 82, 83, 84, 85, 86, 121, 122, 123, 109, 110, 111, 112, 113, 114, 115, 116, 117, 118, 119, 120] (by decide +kernel) (by decide +kernel)
set_option maxRecDepth 20000 in
theorem gX5_put_X2_remember : GoodIn wsX5_put (wsV RX5 204 RX2 yX2_remember wsX2_remember) := goodIn_app (goodIn_of _ (by decide +kernel)) ggX5_put_X2_remember
set_option maxRecDepth 20000 in
theorem ggX5_put_X0_store : GoodIn wsX5_put wsX0_store := goodIn_r _ [90, 22, 23, 24, 16, 25, 26, 91, 8, 92, 93, 94, 95, 96, 68, 70, 97, 98, 99, 109, 110, 111, 112, 113, 114, 115, 116, 117, 118, 119, 120] (by decide +kernel) (by decide +kernel)
set_option maxRecDepth 20000 in
theorem gX5_put_X0_store : GoodIn wsX5_put (wsV RX5 197 RX0 yX0_store wsX0_store) := goodIn_app (goodIn_of _ (by decide +kernel)) ggX5_put_X0_store
theorem dX5_put_0 : decode cX5_put 0 = .ok (.iload_n 1, 1) := by decide +kernel
theorem dX5_put_1 : decode cX5_put 1 = .ok (.invokestatic 95, 3) := by decide +kernel
theorem dX5_put_4 : decode cX5_put 4 = .ok (.ifCond .ne 6, 3) := by decide +kernel
theorem dX5_put_7 : decode cX5_put 7 = .ok (.ldc 99, 2) := by decide +kernel
theorem dX5_put_9 : decode cX5_put 9 = .ok (.ireturn, 1) := by decide +kernel
theorem dX5_put_10 : decode cX5_put 10 = .ok (.iload_n 3, 1) := by decide +kernel
theorem dX5_put_11 : decode cX5_put 11 = .ok (.iconst 0, 1) := by decide +kernel
theorem dX5_put_12 : decode cX5_put 12 = .ok (.iconst 1, 1) := by decide +kernel
theorem dX5_put_13 : decode cX5_put 13 = .ok (.invokestatic 100, 3) := by decide +kernel
theorem dX5_put_16 : decode cX5_put 16 = .ok (.ifCond .ne 6, 3) := by decide +kernel
theorem dX5_put_19 : decode cX5_put 19 = .ok (.ldc 94, 2) := by decide +kernel
theorem dX5_put_21 : decode cX5_put 21 = .ok (.ireturn, 1) := by decide +kernel
theorem dX5_put_22 : decode cX5_put 22 = .ok (.iload_n 3, 1) := by decide +kernel
theorem dX5_put_23 : decode cX5_put 23 = .ok (.iconst 1, 1) := by decide +kernel
theorem dX5_put_24 : decode cX5_put 24 = .ok (.if_icmp .ne 18, 3) := by decide +kernel
theorem dX5_put_27 : decode cX5_put 27 = .ok (.aload_n 0, 1) := by decide +kernel
theorem dX5_put_28 : decode cX5_put 28 = .ok (.getfield 10, 3) := by decide +kernel
theorem dX5_put_31 : decode cX5_put 31 = .ok (.getfield 129, 3) := by decide +kernel
theorem dX5_put_34 : decode cX5_put 34 = .ok (.bipush 8, 2) := by decide +kernel
theorem dX5_put_36 : decode cX5_put 36 = .ok (.if_icmp .lt 6, 3) := by decide +kernel
theorem dX5_put_39 : decode cX5_put 39 = .ok (.ldc 220, 2) := by decide +kernel
theorem dX5_put_41 : decode cX5_put 41 = .ok (.ireturn, 1) := by decide +kernel
theorem dX5_put_42 : decode cX5_put 42 = .ok (.aload_n 0, 1) := by decide +kernel
theorem dX5_put_43 : decode cX5_put 43 = .ok (.getfield 10, 3) := by decide +kernel
theorem dX5_put_46 : decode cX5_put 46 = .ok (.iload_n 1, 1) := by decide +kernel
theorem dX5_put_47 : decode cX5_put 47 = .ok (.iload_n 2, 1) := by decide +kernel
theorem dX5_put_48 : decode cX5_put 48 = .ok (.aload_n 0, 1) := by decide +kernel
theorem dX5_put_49 : decode cX5_put 49 = .ok (.getfield 10, 3) := by decide +kernel
theorem dX5_put_52 : decode cX5_put 52 = .ok (.getfield 129, 3) := by decide +kernel
theorem dX5_put_55 : decode cX5_put 55 = .ok (.aload_n 0, 1) := by decide +kernel
theorem dX5_put_56 : decode cX5_put 56 = .ok (.getfield 10, 3) := by decide +kernel
theorem dX5_put_59 : decode cX5_put 59 = .ok (.getfield 132, 3) := by decide +kernel
theorem dX5_put_62 : decode cX5_put 62 = .ok (.iload_n 3, 1) := by decide +kernel
theorem dX5_put_63 : decode cX5_put 63 = .ok (.iconst 1, 1) := by decide +kernel
theorem dX5_put_64 : decode cX5_put 64 = .ok (.if_icmp .ne 7, 3) := by decide +kernel
theorem dX5_put_67 : decode cX5_put 67 = .ok (.iconst 1, 1) := by decide +kernel
theorem dX5_put_68 : decode cX5_put 68 = .ok (.goto 4, 3) := by decide +kernel
theorem dX5_put_71 : decode cX5_put 71 = .ok (.iconst 0, 1) := by decide +kernel
theorem dX5_put_72 : decode cX5_put 72 = .ok (.invokevirtual 193, 3) := by decide +kernel
theorem dX5_put_75 : decode cX5_put 75 = .ok (.istore 4, 2) := by decide +kernel
theorem dX5_put_77 : decode cX5_put 77 = .ok (.iload 4, 2) := by decide +kernel
theorem dX5_put_79 : decode cX5_put 79 = .ok (.ifCond .ne 37, 3) := by decide +kernel
theorem dX5_put_82 : decode cX5_put 82 = .ok (.aload_n 0, 1) := by decide +kernel
theorem dX5_put_83 : decode cX5_put 83 = .ok (.getfield 19, 3) := by decide +kernel
theorem dX5_put_86 : decode cX5_put 86 = .ok (.aload_n 0, 1) := by decide +kernel
theorem dX5_put_87 : decode cX5_put 87 = .ok (.getfield 10, 3) := by decide +kernel
theorem dX5_put_90 : decode cX5_put 90 = .ok (.invokevirtual 204, 3) := by decide +kernel
theorem dX5_put_93 : decode cX5_put 93 = .ok (.aload_n 0, 1) := by decide +kernel
theorem dX5_put_94 : decode cX5_put 94 = .ok (.getfield 10, 3) := by decide +kernel
theorem dX5_put_97 : decode cX5_put 97 = .ok (.iload_n 1, 1) := by decide +kernel
theorem dX5_put_98 : decode cX5_put 98 = .ok (.iload_n 2, 1) := by decide +kernel
theorem dX5_put_99 : decode cX5_put 99 = .ok (.aload_n 0, 1) := by decide +kernel
theorem dX5_put_100 : decode cX5_put 100 = .ok (.getfield 10, 3) := by decide +kernel
theorem dX5_put_103 : decode cX5_put 103 = .ok (.getfield 129, 3) := by decide +kernel
theorem dX5_put_106 : decode cX5_put 106 = .ok (.aload_n 0, 1) := by decide +kernel
theorem dX5_put_107 : decode cX5_put 107 = .ok (.getfield 10, 3) := by decide +kernel
theorem dX5_put_110 : decode cX5_put 110 = .ok (.getfield 132, 3) := by decide +kernel
theorem dX5_put_113 : decode cX5_put 113 = .ok (.invokevirtual 197, 3) := by decide +kernel
theorem dX5_put_116 : decode cX5_put 116 = .ok (.iload 4, 2) := by decide +kernel
theorem dX5_put_118 : decode cX5_put 118 = .ok (.ireturn, 1) := by decide +kernel
set_option maxRecDepth 20000 in
theorem ggX5_pour_X5_isSlot : GoodIn wsX5_pour wsX5_isSlot := goodIn_r _ [8] (by decide +kernel) (by decide +kernel)
set_option maxRecDepth 20000 in
theorem gX5_pour_X5_isSlot : GoodIn wsX5_pour (va_wsS RX5 95 yX5_isSlot wsX5_isSlot) := goodIn_app (goodIn_of _ (by decide +kernel)) ggX5_pour_X5_isSlot
set_option maxRecDepth 20000 in
theorem ggX5_pour_X5_isIn : GoodIn wsX5_pour wsX5_isIn := goodIn_r _ [11] (by decide +kernel) (by decide +kernel)
set_option maxRecDepth 20000 in
theorem gX5_pour_X5_isIn : GoodIn wsX5_pour (va_wsS RX5 100 yX5_isIn wsX5_isIn) := goodIn_app (goodIn_of _ (by decide +kernel)) ggX5_pour_X5_isIn
set_option maxRecDepth 20000 in
theorem ggX5_pour_X2_remember : GoodIn wsX5_pour wsX2_remember := goodIn_r _ [16, 17, 18, 19, 20, 21, 22, 23, 24, 25, 26, 27, 28, 29, 30, 31, 32, 33, 34, 35, 36, 37, 38, 39, 40, 41, 42, 43, 44, 45, 46, 47, 48, 49, 50, 51, 52, 53, 54, 55, 56, 57, 58, 128, 129, 130, 131, 132, 133, 134, 135, 136, 137, 138, 139, 140, 141, 142] (by decide +kernel) (by decide +kernel)
set_option maxRecDepth 20000 in
theorem gX5_pour_X2_remember : GoodIn wsX5_pour (wsV RX5 204 RX2 yX2_remember wsX2_remember) := goodIn_app (goodIn_of _ (by decide +kernel)) ggX5_pour_X2_remember
set_option maxRecDepth 20000 in
theorem ggX5_pour_X0_copyCell : GoodIn wsX5_pour wsX0_copyCell := goodIn_r _ [62, 63, 64, 65, 21, 66, 67, 68, 69, 70, 71, 72, 73, 74, 38, 75, 76, 77, 78, 79, 80, 81, 82, 39, 10, 7, 11, 83, 84, 85, 86, 87, 88, 89, 90, 91, 92, 93, 40, 94, 95, 96, 97, 98, 99, 100, 42, 101, 102, 103, 104, 105, 106, 107, 108, 109, 110, 111, 112, 113, 114, 115, 116, 117, 118, 131, 132, 133, 134, 135, 136, 137, 138, 139, 140, 141, 142] (by decide +kernel) (by decide +kernel)
set_option maxRecDepth 20000 in
theorem gX5_pour_X0_copyCell : GoodIn wsX5_pour (wsV RX5 221 RX0 yX0_copyCell wsX0_copyCell) := goodIn_app (goodIn_of _ (by decide +kernel)) ggX5_pour_X0_copyCell
theorem dX5_pour_0 : decode cX5_pour 0 = .ok (.iload_n 1, 1) := by decide +kernel
theorem dX5_pour_1 : decode cX5_pour 1 = .ok (.invokestatic 95, 3) := by decide +kernel
theorem dX5_pour_4 : decode cX5_pour 4 = .ok (.ifCond .eq 10, 3) := by decide +kernel
theorem dX5_pour_7 : decode cX5_pour 7 = .ok (.iload_n 3, 1) := by decide +kernel
theorem dX5_pour_8 : decode cX5_pour 8 = .ok (.invokestatic 95, 3) := by decide +kernel
theorem dX5_pour_11 : decode cX5_pour 11 = .ok (.ifCond .ne 6, 3) := by decide +kernel
theorem dX5_pour_14 : decode cX5_pour 14 = .ok (.ldc 99, 2) := by decide +kernel
theorem dX5_pour_16 : decode cX5_pour 16 = .ok (.ireturn, 1) := by decide +kernel
theorem dX5_pour_17 : decode cX5_pour 17 = .ok (.iload 5, 2) := by decide +kernel
theorem dX5_pour_19 : decode cX5_pour 19 = .ok (.iconst 0, 1) := by decide +kernel
theorem dX5_pour_20 : decode cX5_pour 20 = .ok (.bipush 12, 2) := by decide +kernel
theorem dX5_pour_22 : decode cX5_pour 22 = .ok (.invokestatic 100, 3) := by decide +kernel
theorem dX5_pour_25 : decode cX5_pour 25 = .ok (.ifCond .ne 6, 3) := by decide +kernel
theorem dX5_pour_28 : decode cX5_pour 28 = .ok (.ldc 94, 2) := by decide +kernel
theorem dX5_pour_30 : decode cX5_pour 30 = .ok (.ireturn, 1) := by decide +kernel
theorem dX5_pour_31 : decode cX5_pour 31 = .ok (.aload_n 0, 1) := by decide +kernel
theorem dX5_pour_32 : decode cX5_pour 32 = .ok (.getfield 19, 3) := by decide +kernel
theorem dX5_pour_35 : decode cX5_pour 35 = .ok (.aload_n 0, 1) := by decide +kernel
theorem dX5_pour_36 : decode cX5_pour 36 = .ok (.getfield 10, 3) := by decide +kernel
theorem dX5_pour_39 : decode cX5_pour 39 = .ok (.invokevirtual 204, 3) := by decide +kernel
theorem dX5_pour_42 : decode cX5_pour 42 = .ok (.iconst 0, 1) := by decide +kernel
theorem dX5_pour_43 : decode cX5_pour 43 = .ok (.istore 6, 2) := by decide +kernel
theorem dX5_pour_45 : decode cX5_pour 45 = .ok (.iload 6, 2) := by decide +kernel
theorem dX5_pour_47 : decode cX5_pour 47 = .ok (.iload 5, 2) := by decide +kernel
theorem dX5_pour_49 : decode cX5_pour 49 = .ok (.if_icmp .ge 30, 3) := by decide +kernel
theorem dX5_pour_52 : decode cX5_pour 52 = .ok (.aload_n 0, 1) := by decide +kernel
theorem dX5_pour_53 : decode cX5_pour 53 = .ok (.getfield 10, 3) := by decide +kernel
theorem dX5_pour_56 : decode cX5_pour 56 = .ok (.iload_n 1, 1) := by decide +kernel
theorem dX5_pour_57 : decode cX5_pour 57 = .ok (.iload_n 2, 1) := by decide +kernel
theorem dX5_pour_58 : decode cX5_pour 58 = .ok (.iload 6, 2) := by decide +kernel
theorem dX5_pour_60 : decode cX5_pour 60 = .ok (.iadd, 1) := by decide +kernel
theorem dX5_pour_61 : decode cX5_pour 61 = .ok (.iload_n 3, 1) := by decide +kernel
theorem dX5_pour_62 : decode cX5_pour 62 = .ok (.iload 4, 2) := by decide +kernel
theorem dX5_pour_64 : decode cX5_pour 64 = .ok (.iload 6, 2) := by decide +kernel
theorem dX5_pour_66 : decode cX5_pour 66 = .ok (.iadd, 1) := by decide +kernel
theorem dX5_pour_67 : decode cX5_pour 67 = .ok (.invokevirtual 221, 3) := by decide +kernel
theorem dX5_pour_70 : decode cX5_pour 70 = .ok (.ifCond .eq 9, 3) := by decide +kernel
theorem dX5_pour_73 : decode cX5_pour 73 = .ok (.iinc 6 1, 3) := by decide +kernel
theorem dX5_pour_76 : decode cX5_pour 76 = .ok (.goto (-31), 3) := by decide +kernel
theorem dX5_pour_79 : decode cX5_pour 79 = .ok (.iload 6, 2) := by decide +kernel
theorem dX5_pour_81 : decode cX5_pour 81 = .ok (.ireturn, 1) := by decide +kernel
set_option maxRecDepth 20000 in
theorem ggX5_weigh_X5_isTag : GoodIn wsX5_weigh wsX5_isTag := goodIn_r _ [8, 9] (by decide +kernel) (by decide +kernel)
set_option maxRecDepth 20000 in
theorem gX5_weigh_X5_isTag : GoodIn wsX5_weigh (va_wsS RX5 136 yX5_isTag wsX5_isTag) := goodIn_app (goodIn_of _ (by decide +kernel)) ggX5_weigh_X5_isTag
set_option maxRecDepth 20000 in
theorem ggX5_weigh_X5_isIn : GoodIn wsX5_weigh wsX5_isIn := goodIn_r _ [12] (by decide +kernel) (by decide +kernel)
set_option maxRecDepth 20000 in
theorem gX5_weigh_X5_isIn : GoodIn wsX5_weigh (va_wsS RX5 100 yX5_isIn wsX5_isIn) := goodIn_app (goodIn_of _ (by decide +kernel)) ggX5_weigh_X5_isIn
set_option maxRecDepth 20000 in
theorem ggX5_weigh_X0_weightOf : GoodIn wsX5_weigh wsX0_weightOf := goodIn_r _ [17, 18, 6, 7, 8, 9, 77, 78, 79, 80, 81, 82, 83, 84, 85, 86, 87, 88] (by decide +kernel) (by decide +kernel)
set_option maxRecDepth 20000 in
theorem gX5_weigh_X0_weightOf : GoodIn wsX5_weigh (wsV RX5 140 RX0 yX0_weightOf wsX0_weightOf) := goodIn_app (goodIn_of _ (by decide +kernel)) ggX5_weigh_X0_weightOf
set_option maxRecDepth 20000 in
theorem ggX5_weigh_X2_remember : GoodIn wsX5_weigh wsX2_remember := goodIn_r _ [23, 24, 25, 26, 27, 16, 28, 29, 30, 31, 32, 33, 34, 35, 36, 37, 38, 39, 40, 41, 42, 43, 44, 45, 46, 47, 48, 18, 49, 50, 51, 52, 53, 54, 55, 56, 57, 58, 59, 60, 61, 62, 63, 89, 90, 91, 77, 78, 79, 80, 81, 82, 83, 84, 85, 86, 87, 88] (by decide +kernel) (by decide +kernel)
set_option maxRecDepth 20000 in
theorem gX5_weigh_X2_remember : GoodIn wsX5_weigh (wsV RX5 204 RX2 yX2_remember wsX2_remember) := goodIn_app (goodIn_of _ (by decide +kernel)) ggX5_weigh_X2_remember
set_option maxRecDepth 20000 in
theorem ggX5_weigh_X0_setWeight : GoodIn wsX5_weigh wsX0_setWeight := goodIn_r _ [67, 18, 6, 7, 8, 9, 77, 78, 79, 80, 81, 82, 83, 84, 85, 86, 87, 88] (by decide +kernel) (by decide +kernel)
set_option maxRecDepth 20000 in
theorem gX5_weigh_X0_setWeight : GoodIn wsX5_weigh (wsV RX5 225 RX0 yX0_setWeight wsX0_setWeight) := goodIn_app (goodIn_of _ (by decide +kernel)) ggX5_weigh_X0_setWeight
theorem dX5_weigh_0 : decode cX5_weigh 0 = .ok (.iload_n 1, 1) := by decide +kernel
theorem dX5_weigh_1 : decode cX5_weigh 1 = .ok (.i2l, 1) := by decide +kernel
theorem dX5_weigh_2 : decode cX5_weigh 2 = .ok (.invokestatic 136, 3) := by decide +kernel
theorem dX5_weigh_5 : decode cX5_weigh 5 = .ok (.ifCond .ne 6, 3) := by decide +kernel
theorem dX5_weigh_8 : decode cX5_weigh 8 = .ok (.ldc 99, 2) := by decide +kernel
theorem dX5_weigh_10 : decode cX5_weigh 10 = .ok (.ireturn, 1) := by decide +kernel
theorem dX5_weigh_11 : decode cX5_weigh 11 = .ok (.iload_n 2, 1) := by decide +kernel
theorem dX5_weigh_12 : decode cX5_weigh 12 = .ok (.sipush (-1000), 3) := by decide +kernel
theorem dX5_weigh_15 : decode cX5_weigh 15 = .ok (.sipush 1000, 3) := by decide +kernel
theorem dX5_weigh_18 : decode cX5_weigh 18 = .ok (.invokestatic 100, 3) := by decide +kernel
theorem dX5_weigh_21 : decode cX5_weigh 21 = .ok (.ifCond .ne 6, 3) := by decide +kernel
theorem dX5_weigh_24 : decode cX5_weigh 24 = .ok (.ldc 94, 2) := by decide +kernel
theorem dX5_weigh_26 : decode cX5_weigh 26 = .ok (.ireturn, 1) := by decide +kernel
theorem dX5_weigh_27 : decode cX5_weigh 27 = .ok (.aload_n 0, 1) := by decide +kernel
theorem dX5_weigh_28 : decode cX5_weigh 28 = .ok (.getfield 10, 3) := by decide +kernel
theorem dX5_weigh_31 : decode cX5_weigh 31 = .ok (.iload_n 1, 1) := by decide +kernel
theorem dX5_weigh_32 : decode cX5_weigh 32 = .ok (.invokevirtual 140, 3) := by decide +kernel
theorem dX5_weigh_35 : decode cX5_weigh 35 = .ok (.istore_n 3, 1) := by decide +kernel
theorem dX5_weigh_36 : decode cX5_weigh 36 = .ok (.aload_n 0, 1) := by decide +kernel
theorem dX5_weigh_37 : decode cX5_weigh 37 = .ok (.getfield 19, 3) := by decide +kernel
theorem dX5_weigh_40 : decode cX5_weigh 40 = .ok (.aload_n 0, 1) := by decide +kernel
theorem dX5_weigh_41 : decode cX5_weigh 41 = .ok (.getfield 10, 3) := by decide +kernel
theorem dX5_weigh_44 : decode cX5_weigh 44 = .ok (.invokevirtual 204, 3) := by decide +kernel
theorem dX5_weigh_47 : decode cX5_weigh 47 = .ok (.aload_n 0, 1) := by decide +kernel
theorem dX5_weigh_48 : decode cX5_weigh 48 = .ok (.getfield 10, 3) := by decide +kernel
theorem dX5_weigh_51 : decode cX5_weigh 51 = .ok (.iload_n 1, 1) := by decide +kernel
theorem dX5_weigh_52 : decode cX5_weigh 52 = .ok (.iload_n 2, 1) := by decide +kernel
theorem dX5_weigh_53 : decode cX5_weigh 53 = .ok (.invokevirtual 225, 3) := by decide +kernel
theorem dX5_weigh_56 : decode cX5_weigh 56 = .ok (.iload_n 3, 1) := by decide +kernel
theorem dX5_weigh_57 : decode cX5_weigh 57 = .ok (.ireturn, 1) := by decide +kernel
set_option maxRecDepth 20000 in
theorem ggX5_key_X5_isSlot : GoodIn wsX5_key wsX5_isSlot := goodIn_r _ [9] (by decide +kernel) (by decide +kernel)
set_option maxRecDepth 20000 in
theorem gX5_key_X5_isSlot : GoodIn wsX5_key (va_wsS RX5 95 yX5_isSlot wsX5_isSlot) := goodIn_app (goodIn_of _ (by decide +kernel)) ggX5_key_X5_isSlot
set_option maxRecDepth 20000 in
theorem ggX5_key_X5_isIn : GoodIn wsX5_key wsX5_isIn := goodIn_r _ [12] (by decide +kernel) (by decide +kernel)
set_option maxRecDepth 20000 in
theorem gX5_key_X5_isIn : GoodIn wsX5_key (va_wsS RX5 100 yX5_isIn wsX5_isIn) := goodIn_app (goodIn_of _ (by decide +kernel)) ggX5_key_X5_isIn
set_option maxRecDepth 20000 in
theorem ggX5_key_X2_remember : GoodIn wsX5_key wsX2_remember := goodIn_r _ [17, 18, 19, 20, 21, 22, 23, 24, 25, 26, 27, 28, 29, 30, 31, 32, 33, 34, 35, 36, 37, 38, 39, 40, 41, 42, 43, 44, 45, 46, 47, 48, 49, 50, 51, 52, 53, 54, 55, 56, 57, 58, 59, 85, 86, 87, 73, 74, 75, 76, 77, 78, 79, 80, 81, 82, 83, 84] (by decide +kernel) (by decide +kernel)
set_option maxRecDepth 20000 in
theorem gX5_key_X2_remember : GoodIn wsX5_key (wsV RX5 204 RX2 yX2_remember wsX2_remember) := goodIn_app (goodIn_of _ (by decide +kernel)) ggX5_key_X2_remember
set_option maxRecDepth 20000 in
theorem ggX5_key_X0_addKey : GoodIn wsX5_key wsX0_addKey := goodIn_r _ [63, 57, 45, 46, 47, 73, 74, 75, 76, 77, 78, 79, 80, 81, 82, 83, 84] (by decide +kernel) (by decide +kernel)
set_option maxRecDepth 20000 in
theorem gX5_key_X0_addKey : GoodIn wsX5_key (wsV RX5 230 RX0 yX0_addKey wsX0_addKey) := goodIn_app (goodIn_of _ (by decide +kernel)) ggX5_key_X0_addKey
theorem dX5_key_0 : decode cX5_key 0 = .ok (.iload_n 1, 1) := by decide +kernel
theorem dX5_key_1 : decode cX5_key 1 = .ok (.invokestatic 95, 3) := by decide +kernel
theorem dX5_key_4 : decode cX5_key 4 = .ok (.ifCond .ne 6, 3) := by decide +kernel
theorem dX5_key_7 : decode cX5_key 7 = .ok (.ldc 99, 2) := by decide +kernel
theorem dX5_key_9 : decode cX5_key 9 = .ok (.ireturn, 1) := by decide +kernel
theorem dX5_key_10 : decode cX5_key 10 = .ok (.iload_n 2, 1) := by decide +kernel
theorem dX5_key_11 : decode cX5_key 11 = .ok (.iconst 0, 1) := by decide +kernel
theorem dX5_key_12 : decode cX5_key 12 = .ok (.bipush 8, 2) := by decide +kernel
theorem dX5_key_14 : decode cX5_key 14 = .ok (.invokestatic 100, 3) := by decide +kernel
theorem dX5_key_17 : decode cX5_key 17 = .ok (.ifCond .eq 12, 3) := by decide +kernel
theorem dX5_key_20 : decode cX5_key 20 = .ok (.iload_n 3, 1) := by decide +kernel
theorem dX5_key_21 : decode cX5_key 21 = .ok (.iconst 0, 1) := by decide +kernel
theorem dX5_key_22 : decode cX5_key 22 = .ok (.iconst 1, 1) := by decide +kernel
theorem dX5_key_23 : decode cX5_key 23 = .ok (.invokestatic 100, 3) := by decide +kernel
theorem dX5_key_26 : decode cX5_key 26 = .ok (.ifCond .ne 6, 3) := by decide +kernel
theorem dX5_key_29 : decode cX5_key 29 = .ok (.ldc 94, 2) := by decide +kernel
theorem dX5_key_31 : decode cX5_key 31 = .ok (.ireturn, 1) := by decide +kernel
theorem dX5_key_32 : decode cX5_key 32 = .ok (.aload_n 0, 1) := by decide +kernel
theorem dX5_key_33 : decode cX5_key 33 = .ok (.getfield 10, 3) := by decide +kernel
theorem dX5_key_36 : decode cX5_key 36 = .ok (.getfield 59, 3) := by decide +kernel
theorem dX5_key_39 : decode cX5_key 39 = .ok (.iconst 4, 1) := by decide +kernel
theorem dX5_key_40 : decode cX5_key 40 = .ok (.if_icmp .lt 6, 3) := by decide +kernel
theorem dX5_key_43 : decode cX5_key 43 = .ok (.ldc 229, 2) := by decide +kernel
theorem dX5_key_45 : decode cX5_key 45 = .ok (.ireturn, 1) := by decide +kernel
theorem dX5_key_46 : decode cX5_key 46 = .ok (.aload_n 0, 1) := by decide +kernel
theorem dX5_key_47 : decode cX5_key 47 = .ok (.getfield 19, 3) := by decide +kernel
theorem dX5_key_50 : decode cX5_key 50 = .ok (.aload_n 0, 1) := by decide +kernel
theorem dX5_key_51 : decode cX5_key 51 = .ok (.getfield 10, 3) := by decide +kernel
theorem dX5_key_54 : decode cX5_key 54 = .ok (.invokevirtual 204, 3) := by decide +kernel
theorem dX5_key_57 : decode cX5_key 57 = .ok (.aload_n 0, 1) := by decide +kernel
theorem dX5_key_58 : decode cX5_key 58 = .ok (.getfield 10, 3) := by decide +kernel
theorem dX5_key_61 : decode cX5_key 61 = .ok (.iload_n 1, 1) := by decide +kernel
theorem dX5_key_62 : decode cX5_key 62 = .ok (.iload_n 2, 1) := by decide +kernel
theorem dX5_key_63 : decode cX5_key 63 = .ok (.iload_n 3, 1) := by decide +kernel
theorem dX5_key_64 : decode cX5_key 64 = .ok (.invokevirtual 230, 3) := by decide +kernel
theorem dX5_key_67 : decode cX5_key 67 = .ok (.aload_n 0, 1) := by decide +kernel
theorem dX5_key_68 : decode cX5_key 68 = .ok (.getfield 10, 3) := by decide +kernel
theorem dX5_key_71 : decode cX5_key 71 = .ok (.getfield 59, 3) := by decide +kernel
theorem dX5_key_74 : decode cX5_key 74 = .ok (.ireturn, 1) := by decide +kernel
set_option maxRecDepth 20000 in
theorem ggX5_unkey_X2_remember : GoodIn wsX5_unkey wsX2_remember := goodIn_r _ [8, 9, 10, 11, 12, 13, 14, 15, 16, 17, 18, 19, 20, 21, 22, 23, 24, 25, 26, 27, 28, 29, 30, 31, 32, 33, 34, 35, 36, 37, 38, 39, 40, 41, 42, 43, 44, 45, 46, 47, 48, 49, 50, 72, 73, 74, 60, 61, 62, 63, 64, 65, 66, 67, 68, 69, 70, 71] (by decide +kernel) (by decide +kernel)
set_option maxRecDepth 20000 in
theorem gX5_unkey_X2_remember : GoodIn wsX5_unkey (wsV RX5 204 RX2 yX2_remember wsX2_remember) := goodIn_app (goodIn_of _ (by decide +kernel)) ggX5_unkey_X2_remember
theorem dX5_unkey_0 : decode cX5_unkey 0 = .ok (.aload_n 0, 1) := by decide +kernel
theorem dX5_unkey_1 : decode cX5_unkey 1 = .ok (.getfield 10, 3) := by decide +kernel
theorem dX5_unkey_4 : decode cX5_unkey 4 = .ok (.getfield 59, 3) := by decide +kernel
theorem dX5_unkey_7 : decode cX5_unkey 7 = .ok (.ifCond .gt 6, 3) := by decide +kernel
theorem dX5_unkey_10 : decode cX5_unkey 10 = .ok (.ldc 220, 2) := by decide +kernel
theorem dX5_unkey_12 : decode cX5_unkey 12 = .ok (.ireturn, 1) := by decide +kernel
theorem dX5_unkey_13 : decode cX5_unkey 13 = .ok (.aload_n 0, 1) := by decide +kernel
theorem dX5_unkey_14 : decode cX5_unkey 14 = .ok (.getfield 19, 3) := by decide +kernel
theorem dX5_unkey_17 : decode cX5_unkey 17 = .ok (.aload_n 0, 1) := by decide +kernel
theorem dX5_unkey_18 : decode cX5_unkey 18 = .ok (.getfield 10, 3) := by decide +kernel
theorem dX5_unkey_21 : decode cX5_unkey 21 = .ok (.invokevirtual 204, 3) := by decide +kernel
theorem dX5_unkey_24 : decode cX5_unkey 24 = .ok (.aload_n 0, 1) := by decide +kernel
theorem dX5_unkey_25 : decode cX5_unkey 25 = .ok (.getfield 10, 3) := by decide +kernel
theorem dX5_unkey_28 : decode cX5_unkey 28 = .ok (.dup, 1) := by decide +kernel
theorem dX5_unkey_29 : decode cX5_unkey 29 = .ok (.getfield 59, 3) := by decide +kernel
theorem dX5_unkey_32 : decode cX5_unkey 32 = .ok (.iconst 1, 1) := by decide +kernel
theorem dX5_unkey_33 : decode cX5_unkey 33 = .ok (.isub, 1) := by decide +kernel
theorem dX5_unkey_34 : decode cX5_unkey 34 = .ok (.putfield 59, 3) := by decide +kernel
theorem dX5_unkey_37 : decode cX5_unkey 37 = .ok (.aload_n 0, 1) := by decide +kernel
theorem dX5_unkey_38 : decode cX5_unkey 38 = .ok (.getfield 10, 3) := by decide +kernel
theorem dX5_unkey_41 : decode cX5_unkey 41 = .ok (.getfield 59, 3) := by decide +kernel
theorem dX5_unkey_44 : decode cX5_unkey 44 = .ok (.ireturn, 1) := by decide +kernel
set_option maxRecDepth 20000 in
theorem ggX5_sheet_X5_isIn : GoodIn wsX5_sheet wsX5_isIn := goodIn_r _ [7] (by decide +kernel) (by decide +kernel)
set_option maxRecDepth 20000 in
theorem gX5_sheet_X5_isIn : GoodIn wsX5_sheet (va_wsS RX5 100 yX5_isIn wsX5_isIn) := goodIn_app (goodIn_of _ (by decide +kernel)) ggX5_sheet_X5_isIn
set_option maxRecDepth 20000 in
theorem ggX5_sheet_X2_remember : GoodIn wsX5_sheet wsX2_remember := goodIn_r _ [12, 13, 14, 15, 16, 17, 18, 19, 20, 21, 22, 23, 24, 25, 26, 27, 28, 29, 30, 31, 32, 33, 34, 35, 36, 37, 38, 39, 40, 41, 42, 43, 44, 45, 46, 47, 48, 49, 50, 51, 52, 53, 54, 76, 77, 78, 64, 65, 66, 67, 68, 69, 70, 71, 72, 73, 74, 75] (by decide +kernel) (by decide +kernel)
set_option maxRecDepth 20000 in
theorem gX5_sheet_X2_remember : GoodIn wsX5_sheet (wsV RX5 204 RX2 yX2_remember wsX2_remember) := goodIn_app (goodIn_of _ (by decide +kernel)) ggX5_sheet_X2_remember
theorem dX5_sheet_0 : decode cX5_sheet 0 = .ok (.iload_n 1, 1) := by decide +kernel
theorem dX5_sheet_1 : decode cX5_sheet 1 = .ok (.iconst 0, 1) := by decide +kernel
theorem dX5_sheet_2 : decode cX5_sheet 2 = .ok (.bipush 63, 2) := by decide +kernel
theorem dX5_sheet_4 : decode cX5_sheet 4 = .ok (.invokestatic 100, 3) := by decide +kernel
theorem dX5_sheet_7 : decode cX5_sheet 7 = .ok (.ifCond .ne 6, 3) := by decide +kernel
theorem dX5_sheet_10 : decode cX5_sheet 10 = .ok (.ldc 94, 2) := by decide +kernel
theorem dX5_sheet_12 : decode cX5_sheet 12 = .ok (.ireturn, 1) := by decide +kernel
theorem dX5_sheet_13 : decode cX5_sheet 13 = .ok (.aload_n 0, 1) := by decide +kernel
theorem dX5_sheet_14 : decode cX5_sheet 14 = .ok (.getfield 10, 3) := by decide +kernel
theorem dX5_sheet_17 : decode cX5_sheet 17 = .ok (.getfield 62, 3) := by decide +kernel
theorem dX5_sheet_20 : decode cX5_sheet 20 = .ok (.istore_n 2, 1) := by decide +kernel
theorem dX5_sheet_21 : decode cX5_sheet 21 = .ok (.aload_n 0, 1) := by decide +kernel
theorem dX5_sheet_22 : decode cX5_sheet 22 = .ok (.getfield 19, 3) := by decide +kernel
theorem dX5_sheet_25 : decode cX5_sheet 25 = .ok (.aload_n 0, 1) := by decide +kernel
theorem dX5_sheet_26 : decode cX5_sheet 26 = .ok (.getfield 10, 3) := by decide +kernel
theorem dX5_sheet_29 : decode cX5_sheet 29 = .ok (.invokevirtual 204, 3) := by decide +kernel
theorem dX5_sheet_32 : decode cX5_sheet 32 = .ok (.aload_n 0, 1) := by decide +kernel
theorem dX5_sheet_33 : decode cX5_sheet 33 = .ok (.getfield 10, 3) := by decide +kernel
theorem dX5_sheet_36 : decode cX5_sheet 36 = .ok (.iload_n 1, 1) := by decide +kernel
theorem dX5_sheet_37 : decode cX5_sheet 37 = .ok (.putfield 62, 3) := by decide +kernel
theorem dX5_sheet_40 : decode cX5_sheet 40 = .ok (.iload_n 2, 1) := by decide +kernel
theorem dX5_sheet_41 : decode cX5_sheet 41 = .ok (.ireturn, 1) := by decide +kernel
set_option maxRecDepth 20000 in
theorem ggX5_settle_X4_sortPlaces : GoodIn wsX5_settle wsX4_sortPlaces := goodIn_r _ [9, 10, 11, 12, 13, 14, 15, 16, 17, 18, 19, 20, 21, 22, 23, 24, 25, 26, 27, 28, 29, 30, 31, 32, 33, 34, 35, 36, 37, 38, 39, 40, 41, 42, 43, 44, 45, 46, 47, 48, 49, 50, 51, 52, 53, 54, 55, 56, 57, 58, 59, 60, 61, 62, 63, 64, 65, 66, 67, 68, 69, 70, 71, 72, 73, 74, 75, 76, 77, 78, 79, 80, 81, 82, 83, 84, 85, 86, 87, 88, 89, 90, 91, 92, 93, 94, 95, 96, 97, 98, 99, 100, 101, 102, 103, 104, 105, 106, 107, 108, 109, 110, 8, 111, 112, 113, 114, 115, 116, 117, 118, 119, 120, 121, 122, 123, 124, 211, 212, 213, 214, 215, 216, 217, 218, 219, 220, 221, 222, 223, 224, 225, 226, 227] (by decide +kernel) (by decide +kernel)
set_option maxRecDepth 20000 in
theorem gX5_settle_X4_sortPlaces : GoodIn wsX5_settle (wsV RX5 85 RX4 yX4_sortPlaces wsX4_sortPlaces) := goodIn_app (goodIn_of _ (by decide +kernel)) ggX5_settle_X4_sortPlaces
set_option maxRecDepth 20000 in
theorem ggX5_settle_X4_isFit : GoodIn wsX5_settle wsX4_isFit := goodIn_r _ [128, 14, 211, 212, 213, 214, 215] (by decide +kernel) (by decide +kernel)
set_option maxRecDepth 20000 in
theorem gX5_settle_X4_isFit : GoodIn wsX5_settle (wsV RX5 233 RX4 yX4_isFit wsX4_isFit) := goodIn_app (goodIn_of _ (by decide +kernel)) ggX5_settle_X4_isFit
set_option maxRecDepth 20000 in
theorem ggX5_settle_X3_clear : GoodIn wsX5_settle wsX3_clear := goodIn_r _ [133, 134, 228, 229, 230, 231] (by decide +kernel) (by decide +kernel)
set_option maxRecDepth 20000 in
theorem gX5_settle_X3_clear : GoodIn wsX5_settle (wsV RX5 237 RX3 yX3_clear wsX3_clear) := goodIn_app (goodIn_of _ (by decide +kernel)) ggX5_settle_X3_clear
set_option maxRecDepth 20000 in
theorem ggX5_settle_X4_placeAt : GoodIn wsX5_settle wsX4_placeAt := goodIn_r _ [138, 17, 120, 121, 122, 8, 123, 14, 211, 212, 213, 214, 215] (by decide +kernel) (by decide +kernel)
set_option maxRecDepth 20000 in
theorem gX5_settle_X4_placeAt : GoodIn wsX5_settle (wsV RX5 174 RX4 yX4_placeAt wsX4_placeAt) := goodIn_app (goodIn_of _ (by decide +kernel)) ggX5_settle_X4_placeAt
set_option maxRecDepth 20000 in
theorem ggX5_settle_X3_add : GoodIn wsX5_settle wsX3_add := goodIn_r _ [142, 134, 143, 228, 229, 230, 231] (by decide +kernel) (by decide +kernel)
set_option maxRecDepth 20000 in
theorem gX5_settle_X3_add : GoodIn wsX5_settle (wsV RX5 242 RX3 yX3_add wsX3_add) := goodIn_app (goodIn_of _ (by decide +kernel)) ggX5_settle_X3_add
set_option maxRecDepth 20000 in
theorem ggX5_settle_X5_rearrange : GoodIn wsX5_settle wsX5_rearrange := goodIn_r _ [147, 148, 2, 4, 149, 150, 151, 152, 153, 154, 155, 156, 157, 21, 158, 159, 11, 12, 13, 160, 161, 162, 163, 164, 165, 166, 167, 168, 169, 170, 38, 43, 73, 171, 81, 96, 29, 52, 107, 172, 173, 174, 175, 176, 177, 178, 179, 180, 24, 23, 181, 182, 183, 184, 132, 185, 186, 187, 188, 189, 134, 190, 143, 191, 192, 70, 71, 72, 74, 75, 76, 193, 78, 79, 80, 194, 195, 196, 197, 198, 199, 200, 201, 202, 203, 204, 205, 206, 207, 208, 209, 210, 232, 233, 234, 216, 217, 218, 219, 220, 221, 222, 223, 224, 225, 226, 227, 228, 229, 230, 231] (by decide +kernel) (by decide +kernel)
set_option maxRecDepth 20000 in
theorem gX5_settle_X5_rearrange : GoodIn wsX5_settle (wsV RX5 246 RX5 yX5_rearrange wsX5_rearrange) := goodIn_app (goodIn_of _ (by decide +kernel)) ggX5_settle_X5_rearrange
theorem dX5_settle_0 : decode cX5_settle 0 = .ok (.aload_n 0, 1) := by decide +kernel
theorem dX5_settle_1 : decode cX5_settle 1 = .ok (.getfield 33, 3) := by decide +kernel
theorem dX5_settle_4 : decode cX5_settle 4 = .ok (.aload_n 0, 1) := by decide +kernel
theorem dX5_settle_5 : decode cX5_settle 5 = .ok (.getfield 10, 3) := by decide +kernel
theorem dX5_settle_8 : decode cX5_settle 8 = .ok (.bipush 15, 2) := by decide +kernel
theorem dX5_settle_10 : decode cX5_settle 10 = .ok (.invokevirtual 85, 3) := by decide +kernel
theorem dX5_settle_13 : decode cX5_settle 13 = .ok (.aload_n 0, 1) := by decide +kernel
theorem dX5_settle_14 : decode cX5_settle 14 = .ok (.getfield 33, 3) := by decide +kernel
theorem dX5_settle_17 : decode cX5_settle 17 = .ok (.invokevirtual 233, 3) := by decide +kernel
theorem dX5_settle_20 : decode cX5_settle 20 = .ok (.ifCond .ne 6, 3) := by decide +kernel
theorem dX5_settle_23 : decode cX5_settle 23 = .ok (.ldc 220, 2) := by decide +kernel
theorem dX5_settle_25 : decode cX5_settle 25 = .ok (.ireturn, 1) := by decide +kernel
theorem dX5_settle_26 : decode cX5_settle 26 = .ok (.aload_n 0, 1) := by decide +kernel
theorem dX5_settle_27 : decode cX5_settle 27 = .ok (.getfield 43, 3) := by decide +kernel
theorem dX5_settle_30 : decode cX5_settle 30 = .ok (.invokevirtual 237, 3) := by decide +kernel
theorem dX5_settle_33 : decode cX5_settle 33 = .ok (.iconst 0, 1) := by decide +kernel
theorem dX5_settle_34 : decode cX5_settle 34 = .ok (.istore_n 1, 1) := by decide +kernel
theorem dX5_settle_35 : decode cX5_settle 35 = .ok (.iload_n 1, 1) := by decide +kernel
theorem dX5_settle_36 : decode cX5_settle 36 = .ok (.aload_n 0, 1) := by decide +kernel
theorem dX5_settle_37 : decode cX5_settle 37 = .ok (.getfield 33, 3) := by decide +kernel
theorem dX5_settle_40 : decode cX5_settle 40 = .ok (.getfield 240, 3) := by decide +kernel
theorem dX5_settle_43 : decode cX5_settle 43 = .ok (.if_icmp .ge 24, 3) := by decide +kernel
theorem dX5_settle_46 : decode cX5_settle 46 = .ok (.aload_n 0, 1) := by decide +kernel
theorem dX5_settle_47 : decode cX5_settle 47 = .ok (.getfield 43, 3) := by decide +kernel
theorem dX5_settle_50 : decode cX5_settle 50 = .ok (.aload_n 0, 1) := by decide +kernel
theorem dX5_settle_51 : decode cX5_settle 51 = .ok (.getfield 33, 3) := by decide +kernel
theorem dX5_settle_54 : decode cX5_settle 54 = .ok (.iload_n 1, 1) := by decide +kernel
theorem dX5_settle_55 : decode cX5_settle 55 = .ok (.invokevirtual 174, 3) := by decide +kernel
theorem dX5_settle_58 : decode cX5_settle 58 = .ok (.invokevirtual 242, 3) := by decide +kernel
theorem dX5_settle_61 : decode cX5_settle 61 = .ok (.iinc 1 1, 3) := by decide +kernel
theorem dX5_settle_64 : decode cX5_settle 64 = .ok (.goto (-29), 3) := by decide +kernel
theorem dX5_settle_67 : decode cX5_settle 67 = .ok (.aload_n 0, 1) := by decide +kernel
theorem dX5_settle_68 : decode cX5_settle 68 = .ok (.invokevirtual 246, 3) := by decide +kernel
theorem dX5_settle_71 : decode cX5_settle 71 = .ok (.ireturn, 1) := by decide +kernel
set_option maxRecDepth 20000 in
theorem ggX5_pass_X0_length : GoodIn wsX5_pass wsX0_length := goodIn_r _ [8, 9, 10, 11, 12, 13, 7, 14, 15, 16, 17, 18, 19, 20, 21, 22, 23, 24, 25, 26, 27, 28, 29, 30, 31, 32, 33, 34, 35, 36, 37, 38, 39, 40, 41, 42, 43, 44, 45, 46, 185, 186, 187, 188, 189, 190, 191, 192, 193, 194, 195, 196] (by decide +kernel) (by decide +kernel)
set_option maxRecDepth 20000 in
theorem gX5_pass_X0_length : GoodIn wsX5_pass (wsV RX5 65 RX0 yX0_length wsX0_length) := goodIn_app (goodIn_of _ (by decide +kernel)) ggX5_pass_X0_length
set_option maxRecDepth 20000 in
theorem ggX5_pass_X2_remember : GoodIn wsX5_pass wsX2_remember := goodIn_r _ [51, 52, 53, 54, 55, 7, 56, 57, 58, 59, 60, 61, 62, 63, 64, 65, 66, 67, 68, 69, 70, 71, 24, 29, 72, 73, 74, 75, 15, 38, 76, 77, 78, 79, 80, 81, 82, 83, 84, 85, 10, 9, 86, 197, 198, 199, 185, 186, 187, 188, 189, 190, 191, 192, 193, 194, 195, 196] (by decide +kernel) (by decide +kernel)
set_option maxRecDepth 20000 in
theorem gX5_pass_X2_remember : GoodIn wsX5_pass (wsV RX5 204 RX2 yX2_remember wsX2_remember) := goodIn_app (goodIn_of _ (by decide +kernel)) ggX5_pass_X2_remember
set_option maxRecDepth 20000 in
theorem ggX5_pass_X0_comparePlaces : GoodIn wsX5_pass wsX0_comparePlaces := goodIn_r _ [90, 10, 11, 12, 13, 7, 14, 15, 34, 35, 36, 37, 38, 91, 92, 93, 94, 95, 96, 97, 98, 72, 99, 100, 101, 102, 103, 104, 105, 74, 106, 107, 108, 109, 110, 111, 112, 113, 114, 115, 116, 117, 118, 119, 75, 120, 121, 122, 123, 124, 44, 125, 126, 127, 128, 129, 76, 185, 186, 187, 188, 189, 190, 191, 192, 193, 194, 195, 196] (by decide +kernel) (by decide +kernel)
set_option maxRecDepth 20000 in
theorem gX5_pass_X0_comparePlaces : GoodIn wsX5_pass (wsV RX5 177 RX0 yX0_comparePlaces wsX0_comparePlaces) := goodIn_app (goodIn_of _ (by decide +kernel)) ggX5_pass_X0_comparePlaces
set_option maxRecDepth 20000 in
theorem ggX5_pass_X5_exchangeNow : GoodIn wsX5_pass wsX5_exchangeNow := goodIn_r _ [133, 134, 1, 135, 136, 137, 44, 138, 139, 140, 141, 142, 143, 144, 145, 146, 147, 148, 58, 59, 60, 149, 150, 151, 152, 153, 154, 155, 156, 157, 158, 159, 160, 161, 162, 163, 164, 165, 166, 167, 168, 169, 170, 96, 97, 7, 98, 72, 99, 100, 101, 171, 103, 104, 105, 74, 172, 173, 174, 175, 176, 177, 178, 179, 180, 181, 182, 183, 184, 200, 201, 202, 203, 185, 186, 187, 188, 189, 190, 191, 192, 193, 194, 195, 196] (by decide +kernel) (by decide +kernel)
set_option maxRecDepth 20000 in
theorem gX5_pass_X5_exchangeNow : GoodIn wsX5_pass (wsV RX5 249 RX5 yX5_exchangeNow wsX5_exchangeNow) := goodIn_app (goodIn_of _ (by decide +kernel)) ggX5_pass_X5_exchangeNow
theorem dX5_pass_0 : decode cX5_pass 0 = .ok (.aload_n 0, 1) := by decide +kernel
theorem dX5_pass_1 : decode cX5_pass 1 = .ok (.getfield 10, 3) := by decide +kernel
theorem dX5_pass_4 : decode cX5_pass 4 = .ok (.invokevirtual 65, 3) := by decide +kernel
theorem dX5_pass_7 : decode cX5_pass 7 = .ok (.istore_n 1, 1) := by decide +kernel
theorem dX5_pass_8 : decode cX5_pass 8 = .ok (.iload_n 1, 1) := by decide +kernel
theorem dX5_pass_9 : decode cX5_pass 9 = .ok (.iconst (-1), 1) := by decide +kernel
theorem dX5_pass_10 : decode cX5_pass 10 = .ok (.if_icmp .ne 6, 3) := by decide +kernel
theorem dX5_pass_13 : decode cX5_pass 13 = .ok (.ldc 220, 2) := by decide +kernel
theorem dX5_pass_15 : decode cX5_pass 15 = .ok (.ireturn, 1) := by decide +kernel
theorem dX5_pass_16 : decode cX5_pass 16 = .ok (.aload_n 0, 1) := by decide +kernel
theorem dX5_pass_17 : decode cX5_pass 17 = .ok (.getfield 19, 3) := by decide +kernel
theorem dX5_pass_20 : decode cX5_pass 20 = .ok (.aload_n 0, 1) := by decide +kernel
theorem dX5_pass_21 : decode cX5_pass 21 = .ok (.getfield 10, 3) := by decide +kernel
theorem dX5_pass_24 : decode cX5_pass 24 = .ok (.invokevirtual 204, 3) := by decide +kernel
theorem dX5_pass_27 : decode cX5_pass 27 = .ok (.iconst 0, 1) := by decide +kernel
theorem dX5_pass_28 : decode cX5_pass 28 = .ok (.istore_n 2, 1) := by decide +kernel
theorem dX5_pass_29 : decode cX5_pass 29 = .ok (.iconst 0, 1) := by decide +kernel
theorem dX5_pass_30 : decode cX5_pass 30 = .ok (.istore_n 3, 1) := by decide +kernel
theorem dX5_pass_31 : decode cX5_pass 31 = .ok (.iload_n 3, 1) := by decide +kernel
theorem dX5_pass_32 : decode cX5_pass 32 = .ok (.iload_n 1, 1) := by decide +kernel
theorem dX5_pass_33 : decode cX5_pass 33 = .ok (.iconst 1, 1) := by decide +kernel
theorem dX5_pass_34 : decode cX5_pass 34 = .ok (.isub, 1) := by decide +kernel
theorem dX5_pass_35 : decode cX5_pass 35 = .ok (.if_icmp .ge 37, 3) := by decide +kernel
theorem dX5_pass_38 : decode cX5_pass 38 = .ok (.aload_n 0, 1) := by decide +kernel
theorem dX5_pass_39 : decode cX5_pass 39 = .ok (.getfield 10, 3) := by decide +kernel
theorem dX5_pass_42 : decode cX5_pass 42 = .ok (.iload_n 3, 1) := by decide +kernel
theorem dX5_pass_43 : decode cX5_pass 43 = .ok (.iconst 1, 1) := by decide +kernel
theorem dX5_pass_44 : decode cX5_pass 44 = .ok (.iadd, 1) := by decide +kernel
theorem dX5_pass_45 : decode cX5_pass 45 = .ok (.iload_n 3, 1) := by decide +kernel
theorem dX5_pass_46 : decode cX5_pass 46 = .ok (.bipush 15, 2) := by decide +kernel
theorem dX5_pass_48 : decode cX5_pass 48 = .ok (.invokevirtual 177, 3) := by decide +kernel
theorem dX5_pass_51 : decode cX5_pass 51 = .ok (.ifCond .ge 15, 3) := by decide +kernel
theorem dX5_pass_54 : decode cX5_pass 54 = .ok (.aload_n 0, 1) := by decide +kernel
theorem dX5_pass_55 : decode cX5_pass 55 = .ok (.iload_n 3, 1) := by decide +kernel
theorem dX5_pass_56 : decode cX5_pass 56 = .ok (.iload_n 3, 1) := by decide +kernel
theorem dX5_pass_57 : decode cX5_pass 57 = .ok (.iconst 1, 1) := by decide +kernel
theorem dX5_pass_58 : decode cX5_pass 58 = .ok (.iadd, 1) := by decide +kernel
theorem dX5_pass_59 : decode cX5_pass 59 = .ok (.iload_n 1, 1) := by decide +kernel
theorem dX5_pass_60 : decode cX5_pass 60 = .ok (.invokevirtual 249, 3) := by decide +kernel
theorem dX5_pass_63 : decode cX5_pass 63 = .ok (.iinc 2 1, 3) := by decide +kernel
theorem dX5_pass_66 : decode cX5_pass 66 = .ok (.iinc 3 1, 3) := by decide +kernel
theorem dX5_pass_69 : decode cX5_pass 69 = .ok (.goto (-38), 3) := by decide +kernel
theorem dX5_pass_72 : decode cX5_pass 72 = .ok (.iload_n 2, 1) := by decide +kernel
theorem dX5_pass_73 : decode cX5_pass 73 = .ok (.ireturn, 1) := by decide +kernel
set_option maxRecDepth 20000 in
theorem ggX5_move_X0_length : GoodIn wsX5_move wsX0_length := goodIn_r _ [8, 9, 10, 11, 12, 13, 7, 14, 15, 16, 17, 18, 19, 20, 21, 22, 23, 24, 25, 26, 27, 28, 29, 30, 31, 32, 33, 34, 35, 36, 37, 38, 39, 40, 41, 42, 43, 44, 45, 46, 156, 157, 158, 159, 160, 161, 162, 163, 164, 165, 166, 167] (by decide +kernel) (by decide +kernel)
set_option maxRecDepth 20000 in
theorem gX5_move_X0_length : GoodIn wsX5_move (wsV RX5 65 RX0 yX0_length wsX0_length) := goodIn_app (goodIn_of _ (by decide +kernel)) ggX5_move_X0_length
set_option maxRecDepth 20000 in
theorem ggX5_move_X5_isIn : GoodIn wsX5_move wsX5_isIn := goodIn_r _ [49] (by decide +kernel) (by decide +kernel)
set_option maxRecDepth 20000 in
theorem gX5_move_X5_isIn : GoodIn wsX5_move (va_wsS RX5 100 yX5_isIn wsX5_isIn) := goodIn_app (goodIn_of _ (by decide +kernel)) ggX5_move_X5_isIn
set_option maxRecDepth 20000 in
theorem ggX5_move_X5_planMove : GoodIn wsX5_move wsX5_planMove := goodIn_r _ [53, 54, 55, 56, 57, 58, 59, 60, 61, 62, 44, 63, 64, 65, 66, 67, 68, 69, 70, 47, 48, 49, 71, 72, 73, 74, 75, 147, 148, 149, 150, 151, 152, 153, 154, 155, 168, 169, 170, 171] (by decide +kernel) (by decide +kernel)
set_option maxRecDepth 20000 in
theorem gX5_move_X5_planMove : GoodIn wsX5_move (wsV RX5 252 RX5 yX5_planMove wsX5_planMove) := goodIn_app (goodIn_of _ (by decide +kernel)) ggX5_move_X5_planMove
set_option maxRecDepth 20000 in
theorem ggX5_move_X5_rearrange : GoodIn wsX5_move wsX5_rearrange := goodIn_r _ [79, 80, 1, 54, 81, 82, 83, 84, 85, 86, 87, 88, 89, 7, 90, 91, 65, 66, 67, 92, 93, 94, 95, 96, 97, 98, 99, 100, 101, 102, 24, 29, 103, 104, 105, 106, 15, 38, 107, 108, 109, 110, 111, 112, 113, 114, 115, 116, 10, 9, 117, 118, 119, 120, 58, 121, 122, 123, 124, 125, 60, 126, 75, 127, 128, 129, 130, 131, 132, 133, 134, 135, 136, 137, 138, 139, 140, 141, 142, 143, 144, 145, 146, 147, 148, 149, 150, 151, 152, 153, 154, 155, 172, 173, 174, 156, 157, 158, 159, 160, 161, 162, 163, 164, 165, 166, 167, 168, 169, 170, 171] (by decide +kernel) (by decide +kernel)
set_option maxRecDepth 20000 in
theorem gX5_move_X5_rearrange : GoodIn wsX5_move (wsV RX5 246 RX5 yX5_rearrange wsX5_rearrange) := goodIn_app (goodIn_of _ (by decide +kernel)) ggX5_move_X5_rearrange
theorem dX5_move_0 : decode cX5_move 0 = .ok (.aload_n 0, 1) := by decide +kernel
theorem dX5_move_1 : decode cX5_move 1 = .ok (.getfield 10, 3) := by decide +kernel
theorem dX5_move_4 : decode cX5_move 4 = .ok (.invokevirtual 65, 3) := by decide +kernel
theorem dX5_move_7 : decode cX5_move 7 = .ok (.istore 4, 2) := by decide +kernel
theorem dX5_move_9 : decode cX5_move 9 = .ok (.iload_n 1, 1) := by decide +kernel
theorem dX5_move_10 : decode cX5_move 10 = .ok (.iconst 0, 1) := by decide +kernel
theorem dX5_move_11 : decode cX5_move 11 = .ok (.iload 4, 2) := by decide +kernel
theorem dX5_move_13 : decode cX5_move 13 = .ok (.iconst 1, 1) := by decide +kernel
theorem dX5_move_14 : decode cX5_move 14 = .ok (.isub, 1) := by decide +kernel
theorem dX5_move_15 : decode cX5_move 15 = .ok (.invokestatic 100, 3) := by decide +kernel
theorem dX5_move_18 : decode cX5_move 18 = .ok (.ifCond .eq 15, 3) := by decide +kernel
theorem dX5_move_21 : decode cX5_move 21 = .ok (.iload_n 2, 1) := by decide +kernel
theorem dX5_move_22 : decode cX5_move 22 = .ok (.iconst 0, 1) := by decide +kernel
theorem dX5_move_23 : decode cX5_move 23 = .ok (.iload 4, 2) := by decide +kernel
theorem dX5_move_25 : decode cX5_move 25 = .ok (.iconst 1, 1) := by decide +kernel
theorem dX5_move_26 : decode cX5_move 26 = .ok (.isub, 1) := by decide +kernel
theorem dX5_move_27 : decode cX5_move 27 = .ok (.invokestatic 100, 3) := by decide +kernel
theorem dX5_move_30 : decode cX5_move 30 = .ok (.ifCond .ne 6, 3) := by decide +kernel
theorem dX5_move_33 : decode cX5_move 33 = .ok (.ldc 99, 2) := by decide +kernel
theorem dX5_move_35 : decode cX5_move 35 = .ok (.ireturn, 1) := by decide +kernel
theorem dX5_move_36 : decode cX5_move 36 = .ok (.iload_n 3, 1) := by decide +kernel
theorem dX5_move_37 : decode cX5_move 37 = .ok (.iconst 0, 1) := by decide +kernel
theorem dX5_move_38 : decode cX5_move 38 = .ok (.iconst 2, 1) := by decide +kernel
theorem dX5_move_39 : decode cX5_move 39 = .ok (.invokestatic 100, 3) := by decide +kernel
theorem dX5_move_42 : decode cX5_move 42 = .ok (.ifCond .ne 6, 3) := by decide +kernel
theorem dX5_move_45 : decode cX5_move 45 = .ok (.ldc 94, 2) := by decide +kernel
theorem dX5_move_47 : decode cX5_move 47 = .ok (.ireturn, 1) := by decide +kernel
theorem dX5_move_48 : decode cX5_move 48 = .ok (.aload_n 0, 1) := by decide +kernel
theorem dX5_move_49 : decode cX5_move 49 = .ok (.iload_n 1, 1) := by decide +kernel
theorem dX5_move_50 : decode cX5_move 50 = .ok (.iload_n 2, 1) := by decide +kernel
theorem dX5_move_51 : decode cX5_move 51 = .ok (.iload_n 3, 1) := by decide +kernel
theorem dX5_move_52 : decode cX5_move 52 = .ok (.iload 4, 2) := by decide +kernel
theorem dX5_move_54 : decode cX5_move 54 = .ok (.invokevirtual 252, 3) := by decide +kernel
theorem dX5_move_57 : decode cX5_move 57 = .ok (.aload_n 0, 1) := by decide +kernel
theorem dX5_move_58 : decode cX5_move 58 = .ok (.invokevirtual 246, 3) := by decide +kernel
theorem dX5_move_61 : decode cX5_move 61 = .ok (.pop, 1) := by decide +kernel
theorem dX5_move_62 : decode cX5_move 62 = .ok (.iconst 1, 1) := by decide +kernel
theorem dX5_move_63 : decode cX5_move 63 = .ok (.ireturn, 1) := by decide +kernel
set_option maxRecDepth 20000 in
theorem ggX5_part_X4_sortPlaces : GoodIn wsX5_part wsX4_sortPlaces := goodIn_r _ [9, 10, 11, 12, 13, 14, 15, 16, 17, 18, 19, 20, 21, 22, 23, 24, 25, 26, 27, 28, 29, 30, 31, 32, 33, 34, 35, 36, 37, 38, 39, 40, 41, 42, 43, 44, 45, 46, 47, 48, 49, 50, 51, 52, 53, 54, 55, 56, 57, 58, 59, 60, 61, 62, 63, 64, 65, 66, 67, 68, 69, 70, 71, 72, 73, 74, 75, 76, 77, 78, 79, 80, 81, 82, 83, 84, 85, 86, 87, 88, 89, 90, 91, 92, 93, 94, 95, 96, 97, 98, 99, 100, 101, 102, 103, 104, 105, 106, 107, 108, 109, 110, 8, 111, 112, 113, 114, 115, 116, 117, 118, 119, 120, 121, 122, 123, 124, 213, 214, 215, 216, 217, 218, 219, 220, 221, 222, 223, 224, 225, 226, 227, 228, 229] (by decide +kernel) (by decide +kernel)
set_option maxRecDepth 20000 in
theorem gX5_part_X4_sortPlaces : GoodIn wsX5_part (wsV RX5 85 RX4 yX4_sortPlaces wsX4_sortPlaces) := goodIn_app (goodIn_of _ (by decide +kernel)) ggX5_part_X4_sortPlaces
set_option maxRecDepth 20000 in
theorem ggX5_part_X4_isPlace : GoodIn wsX5_part wsX4_isPlace := goodIn_r _ [123, 14, 213, 214, 215, 216, 217] (by decide +kernel) (by decide +kernel)
set_option maxRecDepth 20000 in
theorem gX5_part_X4_isPlace : GoodIn wsX5_part (wsV RX5 159 RX4 yX4_isPlace wsX4_isPlace) := goodIn_app (goodIn_of _ (by decide +kernel)) ggX5_part_X4_isPlace
set_option maxRecDepth 20000 in
theorem ggX5_part_X3_clear : GoodIn wsX5_part wsX3_clear := goodIn_r _ [130, 131, 230, 231, 232, 233] (by decide +kernel) (by decide +kernel)
set_option maxRecDepth 20000 in
theorem gX5_part_X3_clear : GoodIn wsX5_part (wsV RX5 237 RX3 yX3_clear wsX3_clear) := goodIn_app (goodIn_of _ (by decide +kernel)) ggX5_part_X3_clear
set_option maxRecDepth 20000 in
theorem ggX5_part_X4_compareByRank : GoodIn wsX5_part wsX4_compareByRank := goodIn_r _ [115, 116, 117, 118, 8, 119, 15, 120, 121, 122, 123, 14, 124, 87, 88, 89, 213, 214, 215, 216, 217] (by decide +kernel) (by decide +kernel)
set_option maxRecDepth 20000 in
theorem gX5_part_X4_compareByRank : GoodIn wsX5_part (wsV RX5 256 RX4 yX4_compareByRank wsX4_compareByRank) := goodIn_app (goodIn_of _ (by decide +kernel)) ggX5_part_X4_compareByRank
set_option maxRecDepth 20000 in
theorem ggX5_part_X5_relation : GoodIn wsX5_part wsX5_relation := goodIn_r _ [135] (by decide +kernel) (by decide +kernel)
set_option maxRecDepth 20000 in
theorem gX5_part_X5_relation : GoodIn wsX5_part (va_wsS RX5 180 yX5_relation wsX5_relation) := goodIn_app (goodIn_of _ (by decide +kernel)) ggX5_part_X5_relation
set_option maxRecDepth 20000 in
theorem ggX5_part_X3_add : GoodIn wsX5_part wsX3_add := goodIn_r _ [139, 131, 140, 230, 231, 232, 233] (by decide +kernel) (by decide +kernel)
set_option maxRecDepth 20000 in
theorem gX5_part_X3_add : GoodIn wsX5_part (wsV RX5 242 RX3 yX3_add wsX3_add) := goodIn_app (goodIn_of _ (by decide +kernel)) ggX5_part_X3_add
set_option maxRecDepth 20000 in
theorem ggX5_part_X5_rearrange : GoodIn wsX5_part wsX5_rearrange := goodIn_r _ [144, 145, 2, 4, 146, 147, 148, 149, 150, 151, 152, 153, 154, 21, 155, 156, 11, 12, 13, 157, 158, 159, 160, 161, 162, 163, 164, 165, 166, 167, 38, 43, 73, 168, 81, 96, 29, 52, 107, 169, 170, 171, 172, 173, 174, 175, 176, 177, 24, 23, 178, 179, 180, 181, 129, 182, 183, 184, 185, 186, 131, 187, 140, 188, 189, 70, 71, 72, 74, 75, 76, 190, 78, 79, 80, 191, 192, 193, 194, 195, 196, 197, 198, 204, 205, 206, 207, 208, 209, 210, 211, 212, 234, 235, 236, 218, 219, 220, 221, 222, 223, 224, 225, 226, 227, 228, 229, 230, 231, 232, 233] (by decide +kernel) (by decide +kernel)
set_option maxRecDepth 20000 in
theorem gX5_part_X5_rearrange : GoodIn wsX5_part (wsV RX5 246 RX5 yX5_rearrange wsX5_rearrange) := goodIn_app (goodIn_of _ (by decide +kernel)) ggX5_part_X5_rearrange
set_option maxRecDepth 20000 in
theorem ggX5_part_X4_lesserThan : GoodIn wsX5_part wsX4_lesserThan := goodIn_r _ [119, 15, 120, 121, 122, 8, 123, 14, 213, 214, 215, 216, 217] (by decide +kernel) (by decide +kernel)
set_option maxRecDepth 20000 in
theorem gX5_part_X4_lesserThan : GoodIn wsX5_part (wsV RX5 162 RX4 yX4_lesserThan wsX4_lesserThan) := goodIn_app (goodIn_of _ (by decide +kernel)) ggX5_part_X4_lesserThan
set_option maxRecDepth 20000 in
theorem ggX5_part_X4_alikeTo : GoodIn wsX5_part wsX4_alikeTo := goodIn_r _ [203, 14, 112, 113, 114, 8, 115, 116, 117, 118, 119, 15, 120, 121, 122, 123, 124, 87, 88, 89, 213, 214, 215, 216, 217] (by decide +kernel) (by decide +kernel)
set_option maxRecDepth 20000 in
theorem gX5_part_X4_alikeTo : GoodIn wsX5_part (wsV RX5 171 RX4 yX4_alikeTo wsX4_alikeTo) := goodIn_app (goodIn_of _ (by decide +kernel)) ggX5_part_X4_alikeTo
theorem dX5_part_0 : decode cX5_part 0 = .ok (.aload_n 0, 1) := by decide +kernel
theorem dX5_part_1 : decode cX5_part 1 = .ok (.getfield 33, 3) := by decide +kernel
theorem dX5_part_4 : decode cX5_part 4 = .ok (.aload_n 0, 1) := by decide +kernel
theorem dX5_part_5 : decode cX5_part 5 = .ok (.getfield 10, 3) := by decide +kernel
theorem dX5_part_8 : decode cX5_part 8 = .ok (.bipush 15, 2) := by decide +kernel
theorem dX5_part_10 : decode cX5_part 10 = .ok (.invokevirtual 85, 3) := by decide +kernel
theorem dX5_part_13 : decode cX5_part 13 = .ok (.aload_n 0, 1) := by decide +kernel
theorem dX5_part_14 : decode cX5_part 14 = .ok (.getfield 33, 3) := by decide +kernel
theorem dX5_part_17 : decode cX5_part 17 = .ok (.iload_n 1, 1) := by decide +kernel
theorem dX5_part_18 : decode cX5_part 18 = .ok (.invokevirtual 159, 3) := by decide +kernel
theorem dX5_part_21 : decode cX5_part 21 = .ok (.ifCond .ne 6, 3) := by decide +kernel
theorem dX5_part_24 : decode cX5_part 24 = .ok (.ldc 99, 2) := by decide +kernel
theorem dX5_part_26 : decode cX5_part 26 = .ok (.ireturn, 1) := by decide +kernel
theorem dX5_part_27 : decode cX5_part 27 = .ok (.aload_n 0, 1) := by decide +kernel
theorem dX5_part_28 : decode cX5_part 28 = .ok (.getfield 43, 3) := by decide +kernel
theorem dX5_part_31 : decode cX5_part 31 = .ok (.invokevirtual 237, 3) := by decide +kernel
theorem dX5_part_34 : decode cX5_part 34 = .ok (.iconst 0, 1) := by decide +kernel
theorem dX5_part_35 : decode cX5_part 35 = .ok (.istore_n 2, 1) := by decide +kernel
theorem dX5_part_36 : decode cX5_part 36 = .ok (.iload_n 2, 1) := by decide +kernel
theorem dX5_part_37 : decode cX5_part 37 = .ok (.iconst 2, 1) := by decide +kernel
theorem dX5_part_38 : decode cX5_part 38 = .ok (.if_icmp .gt 52, 3) := by decide +kernel
theorem dX5_part_41 : decode cX5_part 41 = .ok (.iconst 0, 1) := by decide +kernel
theorem dX5_part_42 : decode cX5_part 42 = .ok (.istore_n 3, 1) := by decide +kernel
theorem dX5_part_43 : decode cX5_part 43 = .ok (.iload_n 3, 1) := by decide +kernel
theorem dX5_part_44 : decode cX5_part 44 = .ok (.aload_n 0, 1) := by decide +kernel
theorem dX5_part_45 : decode cX5_part 45 = .ok (.getfield 33, 3) := by decide +kernel
theorem dX5_part_48 : decode cX5_part 48 = .ok (.getfield 240, 3) := by decide +kernel
theorem dX5_part_51 : decode cX5_part 51 = .ok (.if_icmp .ge 33, 3) := by decide +kernel
theorem dX5_part_54 : decode cX5_part 54 = .ok (.aload_n 0, 1) := by decide +kernel
theorem dX5_part_55 : decode cX5_part 55 = .ok (.getfield 33, 3) := by decide +kernel
theorem dX5_part_58 : decode cX5_part 58 = .ok (.iload_n 3, 1) := by decide +kernel
theorem dX5_part_59 : decode cX5_part 59 = .ok (.iload_n 1, 1) := by decide +kernel
theorem dX5_part_60 : decode cX5_part 60 = .ok (.invokevirtual 256, 3) := by decide +kernel
theorem dX5_part_63 : decode cX5_part 63 = .ok (.invokestatic 180, 3) := by decide +kernel
theorem dX5_part_66 : decode cX5_part 66 = .ok (.iload_n 2, 1) := by decide +kernel
theorem dX5_part_67 : decode cX5_part 67 = .ok (.if_icmp .ne 11, 3) := by decide +kernel
theorem dX5_part_70 : decode cX5_part 70 = .ok (.aload_n 0, 1) := by decide +kernel
theorem dX5_part_71 : decode cX5_part 71 = .ok (.getfield 43, 3) := by decide +kernel
theorem dX5_part_74 : decode cX5_part 74 = .ok (.iload_n 3, 1) := by decide +kernel
theorem dX5_part_75 : decode cX5_part 75 = .ok (.invokevirtual 242, 3) := by decide +kernel
theorem dX5_part_78 : decode cX5_part 78 = .ok (.iinc 3 1, 3) := by decide +kernel
theorem dX5_part_81 : decode cX5_part 81 = .ok (.goto (-38), 3) := by decide +kernel
theorem dX5_part_84 : decode cX5_part 84 = .ok (.iinc 2 1, 3) := by decide +kernel
theorem dX5_part_87 : decode cX5_part 87 = .ok (.goto (-51), 3) := by decide +kernel
theorem dX5_part_90 : decode cX5_part 90 = .ok (.aload_n 0, 1) := by decide +kernel
theorem dX5_part_91 : decode cX5_part 91 = .ok (.invokevirtual 246, 3) := by decide +kernel
theorem dX5_part_94 : decode cX5_part 94 = .ok (.pop, 1) := by decide +kernel
theorem dX5_part_95 : decode cX5_part 95 = .ok (.bipush 100, 2) := by decide +kernel
theorem dX5_part_97 : decode cX5_part 97 = .ok (.aload_n 0, 1) := by decide +kernel
theorem dX5_part_98 : decode cX5_part 98 = .ok (.getfield 33, 3) := by decide +kernel
theorem dX5_part_101 : decode cX5_part 101 = .ok (.iload_n 1, 1) := by decide +kernel
theorem dX5_part_102 : decode cX5_part 102 = .ok (.invokevirtual 162, 3) := by decide +kernel
theorem dX5_part_105 : decode cX5_part 105 = .ok (.imul, 1) := by decide +kernel
theorem dX5_part_106 : decode cX5_part 106 = .ok (.aload_n 0, 1) := by decide +kernel
theorem dX5_part_107 : decode cX5_part 107 = .ok (.getfield 33, 3) := by decide +kernel
theorem dX5_part_110 : decode cX5_part 110 = .ok (.iload_n 1, 1) := by decide +kernel
theorem dX5_part_111 : decode cX5_part 111 = .ok (.invokevirtual 171, 3) := by decide +kernel
theorem dX5_part_114 : decode cX5_part 114 = .ok (.iadd, 1) := by decide +kernel
theorem dX5_part_115 : decode cX5_part 115 = .ok (.ireturn, 1) := by decide +kernel
set_option maxRecDepth 20000 in
theorem ggX5_figure_X5_isSlot : GoodIn wsX5_figure wsX5_isSlot := goodIn_r _ [10] (by decide +kernel) (by decide +kernel)
set_option maxRecDepth 20000 in
theorem gX5_figure_X5_isSlot : GoodIn wsX5_figure (va_wsS RX5 95 yX5_isSlot wsX5_isSlot) := goodIn_app (goodIn_of _ (by decide +kernel)) ggX5_figure_X5_isSlot
set_option maxRecDepth 20000 in
theorem ggX5_figure_X5_isIn : GoodIn wsX5_figure wsX5_isIn := goodIn_r _ [13] (by decide +kernel) (by decide +kernel)
set_option maxRecDepth 20000 in
theorem gX5_figure_X5_isIn : GoodIn wsX5_figure (va_wsS RX5 100 yX5_isIn wsX5_isIn) := goodIn_app (goodIn_of _ (by decide +kernel)) ggX5_figure_X5_isIn
set_option maxRecDepth 20000 in
theorem ggX5_figure_X0_length : GoodIn wsX5_figure wsX0_length := goodIn_r _ [18, 19, 20, 21, 22, 23, 17, 24, 25, 26, 27, 28, 29, 30, 31, 32, 33, 34, 35, 36, 37, 38, 39, 40, 41, 42, 43, 44, 45, 46, 47, 48, 49, 50, 51, 52, 53, 9, 54, 55, 154, 155, 156, 157, 158, 159, 160, 161, 162, 163, 164, 165] (by decide +kernel) (by decide +kernel)
set_option maxRecDepth 20000 in
theorem gX5_figure_X0_length : GoodIn wsX5_figure (wsV RX5 65 RX0 yX0_length wsX0_length) := goodIn_app (goodIn_of _ (by decide +kernel)) ggX5_figure_X0_length
set_option maxRecDepth 20000 in
theorem ggX5_figure_X0_holdsArray : GoodIn wsX5_figure wsX0_holdsArray := goodIn_r _ [29, 30, 31, 32, 17, 33, 34, 154, 155, 156, 157, 158, 159, 160, 161, 162, 163, 164, 165] (by decide +kernel) (by decide +kernel)
set_option maxRecDepth 20000 in
theorem gX5_figure_X0_holdsArray : GoodIn wsX5_figure (wsV RX5 107 RX0 yX0_holdsArray wsX0_holdsArray) := goodIn_app (goodIn_of _ (by decide +kernel)) ggX5_figure_X0_holdsArray
set_option maxRecDepth 20000 in
theorem ggX5_figure_X0_sizeOf : GoodIn wsX5_figure wsX0_sizeOf := goodIn_r _ [38, 39, 154, 155, 156, 157, 158, 159, 160, 161, 162, 163, 164, 165] (by decide +kernel) (by decide +kernel)
set_option maxRecDepth 20000 in
theorem gX5_figure_X0_sizeOf : GoodIn wsX5_figure (wsV RX5 110 RX0 yX0_sizeOf wsX0_sizeOf) := goodIn_app (goodIn_of _ (by decide +kernel)) ggX5_figure_X0_sizeOf
set_option maxRecDepth 20000 in
theorem ggX5_figure_X0_canRead : GoodIn wsX5_figure wsX0_canRead := goodIn_r _ [52, 30, 31, 32, 17, 33, 34, 53, 9, 54, 55, 154, 155, 156, 157, 158, 159, 160, 161, 162, 163, 164, 165] (by decide +kernel) (by decide +kernel)
set_option maxRecDepth 20000 in
theorem gX5_figure_X0_canRead : GoodIn wsX5_figure (wsV RX5 187 RX0 yX0_canRead wsX0_canRead) := goodIn_app (goodIn_of _ (by decide +kernel)) ggX5_figure_X0_canRead
set_option maxRecDepth 20000 in
theorem ggX5_figure_X3_clear : GoodIn wsX5_figure wsX3_clear := goodIn_r _ [63, 64, 166, 167, 168, 169] (by decide +kernel) (by decide +kernel)
set_option maxRecDepth 20000 in
theorem gX5_figure_X3_clear : GoodIn wsX5_figure (wsV RX5 237 RX3 yX3_clear wsX3_clear) := goodIn_app (goodIn_of _ (by decide +kernel)) ggX5_figure_X3_clear
set_option maxRecDepth 20000 in
theorem ggX5_figure_X0_numberAt : GoodIn wsX5_figure wsX0_numberAt := goodIn_r _ [68, 69, 70, 71, 17, 72, 154, 155, 156, 157, 158, 159, 160, 161, 162, 163, 164, 165] (by decide +kernel) (by decide +kernel)
set_option maxRecDepth 20000 in
theorem gX5_figure_X0_numberAt : GoodIn wsX5_figure (wsV RX5 125 RX0 yX0_numberAt wsX0_numberAt) := goodIn_app (goodIn_of _ (by decide +kernel)) ggX5_figure_X0_numberAt
set_option maxRecDepth 20000 in
theorem ggX5_figure_X3_add : GoodIn wsX5_figure wsX3_add := goodIn_r _ [76, 64, 77, 166, 167, 168, 169] (by decide +kernel) (by decide +kernel)
set_option maxRecDepth 20000 in
theorem gX5_figure_X3_add : GoodIn wsX5_figure (wsV RX5 242 RX3 yX3_add wsX3_add) := goodIn_app (goodIn_of _ (by decide +kernel)) ggX5_figure_X3_add
set_option maxRecDepth 20000 in
theorem ggX5_figure_X5_rearrange : GoodIn wsX5_figure wsX5_rearrange := goodIn_r _ [81, 82, 3, 5, 83, 84, 85, 86, 87, 88, 89, 90, 91, 17, 92, 93, 94, 95, 96, 97, 98, 99, 100, 101, 102, 103, 104, 105, 106, 107, 34, 39, 108, 109, 69, 110, 25, 48, 111, 112, 113, 114, 115, 116, 117, 118, 119, 120, 20, 19, 121, 122, 123, 124, 62, 125, 126, 127, 128, 129, 64, 130, 77, 131, 132, 133, 134, 135, 70, 71, 72, 136, 66, 67, 68, 137, 138, 139, 140, 141, 142, 143, 144, 145, 146, 147, 148, 149, 150, 151, 152, 153, 170, 171, 172, 154, 155, 156, 157, 158, 159, 160, 161, 162, 163, 164, 165, 166, 167, 168, 169] (by decide +kernel) (by decide +kernel)
set_option maxRecDepth 20000 in
theorem gX5_figure_X5_rearrange : GoodIn wsX5_figure (wsV RX5 246 RX5 yX5_rearrange wsX5_rearrange) := goodIn_app (goodIn_of _ (by decide +kernel)) ggX5_figure_X5_rearrange
theorem dX5_figure_0 : decode cX5_figure 0 = .ok (.iload_n 1, 1) := by decide +kernel
theorem dX5_figure_1 : decode cX5_figure 1 = .ok (.invokestatic 95, 3) := by decide +kernel
theorem dX5_figure_4 : decode cX5_figure 4 = .ok (.ifCond .ne 6, 3) := by decide +kernel
theorem dX5_figure_7 : decode cX5_figure 7 = .ok (.ldc 99, 2) := by decide +kernel
theorem dX5_figure_9 : decode cX5_figure 9 = .ok (.ireturn, 1) := by decide +kernel
theorem dX5_figure_10 : decode cX5_figure 10 = .ok (.iload_n 2, 1) := by decide +kernel
theorem dX5_figure_11 : decode cX5_figure 11 = .ok (.iconst 0, 1) := by decide +kernel
theorem dX5_figure_12 : decode cX5_figure 12 = .ok (.bipush 20, 2) := by decide +kernel
theorem dX5_figure_14 : decode cX5_figure 14 = .ok (.invokestatic 100, 3) := by decide +kernel
theorem dX5_figure_17 : decode cX5_figure 17 = .ok (.ifCond .ne 6, 3) := by decide +kernel
theorem dX5_figure_20 : decode cX5_figure 20 = .ok (.ldc 94, 2) := by decide +kernel
theorem dX5_figure_22 : decode cX5_figure 22 = .ok (.ireturn, 1) := by decide +kernel
theorem dX5_figure_23 : decode cX5_figure 23 = .ok (.aload_n 0, 1) := by decide +kernel
theorem dX5_figure_24 : decode cX5_figure 24 = .ok (.getfield 10, 3) := by decide +kernel
theorem dX5_figure_27 : decode cX5_figure 27 = .ok (.invokevirtual 65, 3) := by decide +kernel
theorem dX5_figure_30 : decode cX5_figure 30 = .ok (.istore_n 3, 1) := by decide +kernel
theorem dX5_figure_31 : decode cX5_figure 31 = .ok (.iload_n 3, 1) := by decide +kernel
theorem dX5_figure_32 : decode cX5_figure 32 = .ok (.iconst (-1), 1) := by decide +kernel
theorem dX5_figure_33 : decode cX5_figure 33 = .ok (.if_icmp .eq 26, 3) := by decide +kernel
theorem dX5_figure_36 : decode cX5_figure 36 = .ok (.aload_n 0, 1) := by decide +kernel
theorem dX5_figure_37 : decode cX5_figure 37 = .ok (.getfield 10, 3) := by decide +kernel
theorem dX5_figure_40 : decode cX5_figure 40 = .ok (.iload_n 1, 1) := by decide +kernel
theorem dX5_figure_41 : decode cX5_figure 41 = .ok (.invokevirtual 107, 3) := by decide +kernel
theorem dX5_figure_44 : decode cX5_figure 44 = .ok (.ifCond .eq 15, 3) := by decide +kernel
theorem dX5_figure_47 : decode cX5_figure 47 = .ok (.aload_n 0, 1) := by decide +kernel
theorem dX5_figure_48 : decode cX5_figure 48 = .ok (.getfield 10, 3) := by decide +kernel
theorem dX5_figure_51 : decode cX5_figure 51 = .ok (.iload_n 1, 1) := by decide +kernel
theorem dX5_figure_52 : decode cX5_figure 52 = .ok (.invokevirtual 110, 3) := by decide +kernel
theorem dX5_figure_55 : decode cX5_figure 55 = .ok (.iload_n 3, 1) := by decide +kernel
theorem dX5_figure_56 : decode cX5_figure 56 = .ok (.if_icmp .eq 6, 3) := by decide +kernel
theorem dX5_figure_59 : decode cX5_figure 59 = .ok (.ldc 220, 2) := by decide +kernel
theorem dX5_figure_61 : decode cX5_figure 61 = .ok (.ireturn, 1) := by decide +kernel
theorem dX5_figure_62 : decode cX5_figure 62 = .ok (.iload_n 3, 1) := by decide +kernel
theorem dX5_figure_63 : decode cX5_figure 63 = .ok (.ifCond .le 18, 3) := by decide +kernel
theorem dX5_figure_66 : decode cX5_figure 66 = .ok (.aload_n 0, 1) := by decide +kernel
theorem dX5_figure_67 : decode cX5_figure 67 = .ok (.getfield 10, 3) := by decide +kernel
theorem dX5_figure_70 : decode cX5_figure 70 = .ok (.iload_n 1, 1) := by decide +kernel
theorem dX5_figure_71 : decode cX5_figure 71 = .ok (.iconst 5, 1) := by decide +kernel
theorem dX5_figure_72 : decode cX5_figure 72 = .ok (.invokevirtual 187, 3) := by decide +kernel
theorem dX5_figure_75 : decode cX5_figure 75 = .ok (.ifCond .ne 6, 3) := by decide +kernel
theorem dX5_figure_78 : decode cX5_figure 78 = .ok (.ldc 220, 2) := by decide +kernel
theorem dX5_figure_80 : decode cX5_figure 80 = .ok (.ireturn, 1) := by decide +kernel
theorem dX5_figure_81 : decode cX5_figure 81 = .ok (.aload_n 0, 1) := by decide +kernel
theorem dX5_figure_82 : decode cX5_figure 82 = .ok (.getfield 43, 3) := by decide +kernel
theorem dX5_figure_85 : decode cX5_figure 85 = .ok (.invokevirtual 237, 3) := by decide +kernel
theorem dX5_figure_88 : decode cX5_figure 88 = .ok (.iconst 0, 1) := by decide +kernel
theorem dX5_figure_89 : decode cX5_figure 89 = .ok (.istore 4, 2) := by decide +kernel
theorem dX5_figure_91 : decode cX5_figure 91 = .ok (.iload 4, 2) := by decide +kernel
theorem dX5_figure_93 : decode cX5_figure 93 = .ok (.bipush 7, 2) := by decide +kernel
theorem dX5_figure_95 : decode cX5_figure 95 = .ok (.if_icmp .gt 58, 3) := by decide +kernel
theorem dX5_figure_98 : decode cX5_figure 98 = .ok (.iconst 0, 1) := by decide +kernel
theorem dX5_figure_99 : decode cX5_figure 99 = .ok (.istore 5, 2) := by decide +kernel
theorem dX5_figure_101 : decode cX5_figure 101 = .ok (.iload 5, 2) := by decide +kernel
theorem dX5_figure_103 : decode cX5_figure 103 = .ok (.iload_n 3, 1) := by decide +kernel
theorem dX5_figure_104 : decode cX5_figure 104 = .ok (.if_icmp .ge 43, 3) := by decide +kernel
theorem dX5_figure_107 : decode cX5_figure 107 = .ok (.aload_n 0, 1) := by decide +kernel
theorem dX5_figure_108 : decode cX5_figure 108 = .ok (.getfield 10, 3) := by decide +kernel
theorem dX5_figure_111 : decode cX5_figure 111 = .ok (.iload_n 1, 1) := by decide +kernel
theorem dX5_figure_112 : decode cX5_figure 112 = .ok (.iload 5, 2) := by decide +kernel
theorem dX5_figure_114 : decode cX5_figure 114 = .ok (.invokevirtual 125, 3) := by decide +kernel
theorem dX5_figure_117 : decode cX5_figure 117 = .ok (.iconst 3, 1) := by decide +kernel
theorem dX5_figure_118 : decode cX5_figure 118 = .ok (.iload_n 2, 1) := by decide +kernel
theorem dX5_figure_119 : decode cX5_figure 119 = .ok (.imul, 1) := by decide +kernel
theorem dX5_figure_120 : decode cX5_figure 120 = .ok (.lushr, 1) := by decide +kernel
theorem dX5_figure_121 : decode cX5_figure 121 = .ok (.ldc2_w 259, 3) := by decide +kernel
theorem dX5_figure_124 : decode cX5_figure 124 = .ok (.land, 1) := by decide +kernel
theorem dX5_figure_125 : decode cX5_figure 125 = .ok (.iload 4, 2) := by decide +kernel
theorem dX5_figure_127 : decode cX5_figure 127 = .ok (.i2l, 1) := by decide +kernel
theorem dX5_figure_128 : decode cX5_figure 128 = .ok (.lcmp, 1) := by decide +kernel
theorem dX5_figure_129 : decode cX5_figure 129 = .ok (.ifCond .ne 12, 3) := by decide +kernel
theorem dX5_figure_132 : decode cX5_figure 132 = .ok (.aload_n 0, 1) := by decide +kernel
theorem dX5_figure_133 : decode cX5_figure 133 = .ok (.getfield 43, 3) := by decide +kernel
theorem dX5_figure_136 : decode cX5_figure 136 = .ok (.iload 5, 2) := by decide +kernel
theorem dX5_figure_138 : decode cX5_figure 138 = .ok (.invokevirtual 242, 3) := by decide +kernel
theorem dX5_figure_141 : decode cX5_figure 141 = .ok (.iinc 5 1, 3) := by decide +kernel
theorem dX5_figure_144 : decode cX5_figure 144 = .ok (.goto (-43), 3) := by decide +kernel
theorem dX5_figure_147 : decode cX5_figure 147 = .ok (.iinc 4 1, 3) := by decide +kernel
theorem dX5_figure_150 : decode cX5_figure 150 = .ok (.goto (-59), 3) := by decide +kernel
theorem dX5_figure_153 : decode cX5_figure 153 = .ok (.aload_n 0, 1) := by decide +kernel
theorem dX5_figure_154 : decode cX5_figure 154 = .ok (.invokevirtual 246, 3) := by decide +kernel
theorem dX5_figure_157 : decode cX5_figure 157 = .ok (.ireturn, 1) := by decide +kernel
set_option maxRecDepth 20000 in
theorem ggX5_deal_X5_isIn : GoodIn wsX5_deal wsX5_isIn := goodIn_r _ [8] (by decide +kernel) (by decide +kernel)
set_option maxRecDepth 20000 in
theorem gX5_deal_X5_isIn : GoodIn wsX5_deal (va_wsS RX5 100 yX5_isIn wsX5_isIn) := goodIn_app (goodIn_of _ (by decide +kernel)) ggX5_deal_X5_isIn
set_option maxRecDepth 20000 in
theorem ggX5_deal_X0_length : GoodIn wsX5_deal wsX0_length := goodIn_r _ [13, 14, 15, 16, 17, 18, 12, 19, 20, 21, 22, 23, 24, 25, 26, 27, 28, 29, 30, 31, 32, 33, 34, 35, 36, 37, 38, 39, 40, 41, 42, 43, 44, 45, 46, 47, 48, 7, 49, 50, 145, 146, 147, 148, 149, 150, 151, 152, 153, 154, 155, 156] (by decide +kernel) (by decide +kernel)
set_option maxRecDepth 20000 in
theorem gX5_deal_X0_length : GoodIn wsX5_deal (wsV RX5 65 RX0 yX0_length wsX0_length) := goodIn_app (goodIn_of _ (by decide +kernel)) ggX5_deal_X0_length
set_option maxRecDepth 20000 in
theorem ggX5_deal_X3_clear : GoodIn wsX5_deal wsX3_clear := goodIn_r _ [55, 56, 157, 158, 159, 160] (by decide +kernel) (by decide +kernel)
set_option maxRecDepth 20000 in
theorem gX5_deal_X3_clear : GoodIn wsX5_deal (wsV RX5 237 RX3 yX3_clear wsX3_clear) := goodIn_app (goodIn_of _ (by decide +kernel)) ggX5_deal_X3_clear
set_option maxRecDepth 20000 in
theorem ggX5_deal_X3_add : GoodIn wsX5_deal wsX3_add := goodIn_r _ [60, 56, 61, 157, 158, 159, 160] (by decide +kernel) (by decide +kernel)
set_option maxRecDepth 20000 in
theorem gX5_deal_X3_add : GoodIn wsX5_deal (wsV RX5 242 RX3 yX3_add wsX3_add) := goodIn_app (goodIn_of _ (by decide +kernel)) ggX5_deal_X3_add
set_option maxRecDepth 20000 in
theorem ggX5_deal_X5_rearrange : GoodIn wsX5_deal wsX5_rearrange := goodIn_r _ [65, 66, 2, 4, 67, 68, 69, 70, 71, 72, 73, 74, 75, 12, 76, 77, 78, 79, 80, 81, 82, 83, 84, 85, 86, 87, 88, 89, 90, 91, 29, 34, 92, 93, 94, 95, 20, 43, 96, 97, 98, 99, 100, 101, 102, 103, 104, 105, 15, 14, 106, 107, 108, 109, 54, 110, 111, 112, 113, 114, 56, 115, 61, 116, 117, 118, 119, 120, 121, 122, 123, 124, 125, 126, 127, 128, 129, 130, 131, 132, 133, 134, 135, 136, 137, 138, 139, 140, 141, 142, 143, 144, 161, 162, 163, 145, 146, 147, 148, 149, 150, 151, 152, 153, 154, 155, 156, 157, 158, 159, 160] (by decide +kernel) (by decide +kernel)
set_option maxRecDepth 20000 in
theorem gX5_deal_X5_rearrange : GoodIn wsX5_deal (wsV RX5 246 RX5 yX5_rearrange wsX5_rearrange) := goodIn_app (goodIn_of _ (by decide +kernel)) ggX5_deal_X5_rearrange
theorem dX5_deal_0 : decode cX5_deal 0 = .ok (.iload_n 1, 1) := by decide +kernel
theorem dX5_deal_1 : decode cX5_deal 1 = .ok (.iconst 1, 1) := by decide +kernel
theorem dX5_deal_2 : decode cX5_deal 2 = .ok (.bipush 12, 2) := by decide +kernel
theorem dX5_deal_4 : decode cX5_deal 4 = .ok (.invokestatic 100, 3) := by decide +kernel
theorem dX5_deal_7 : decode cX5_deal 7 = .ok (.ifCond .ne 6, 3) := by decide +kernel
theorem dX5_deal_10 : decode cX5_deal 10 = .ok (.ldc 94, 2) := by decide +kernel
theorem dX5_deal_12 : decode cX5_deal 12 = .ok (.ireturn, 1) := by decide +kernel
theorem dX5_deal_13 : decode cX5_deal 13 = .ok (.aload_n 0, 1) := by decide +kernel
theorem dX5_deal_14 : decode cX5_deal 14 = .ok (.getfield 10, 3) := by decide +kernel
theorem dX5_deal_17 : decode cX5_deal 17 = .ok (.invokevirtual 65, 3) := by decide +kernel
theorem dX5_deal_20 : decode cX5_deal 20 = .ok (.istore_n 2, 1) := by decide +kernel
theorem dX5_deal_21 : decode cX5_deal 21 = .ok (.iload_n 2, 1) := by decide +kernel
theorem dX5_deal_22 : decode cX5_deal 22 = .ok (.iconst (-1), 1) := by decide +kernel
theorem dX5_deal_23 : decode cX5_deal 23 = .ok (.if_icmp .ne 6, 3) := by decide +kernel
theorem dX5_deal_26 : decode cX5_deal 26 = .ok (.ldc 220, 2) := by decide +kernel
theorem dX5_deal_28 : decode cX5_deal 28 = .ok (.ireturn, 1) := by decide +kernel
theorem dX5_deal_29 : decode cX5_deal 29 = .ok (.aload_n 0, 1) := by decide +kernel
theorem dX5_deal_30 : decode cX5_deal 30 = .ok (.getfield 43, 3) := by decide +kernel
theorem dX5_deal_33 : decode cX5_deal 33 = .ok (.invokevirtual 237, 3) := by decide +kernel
theorem dX5_deal_36 : decode cX5_deal 36 = .ok (.iconst 0, 1) := by decide +kernel
theorem dX5_deal_37 : decode cX5_deal 37 = .ok (.istore_n 3, 1) := by decide +kernel
theorem dX5_deal_38 : decode cX5_deal 38 = .ok (.iload_n 3, 1) := by decide +kernel
theorem dX5_deal_39 : decode cX5_deal 39 = .ok (.iload_n 1, 1) := by decide +kernel
theorem dX5_deal_40 : decode cX5_deal 40 = .ok (.if_icmp .ge 36, 3) := by decide +kernel
theorem dX5_deal_43 : decode cX5_deal 43 = .ok (.iload_n 3, 1) := by decide +kernel
theorem dX5_deal_44 : decode cX5_deal 44 = .ok (.istore 4, 2) := by decide +kernel
theorem dX5_deal_46 : decode cX5_deal 46 = .ok (.iload 4, 2) := by decide +kernel
theorem dX5_deal_48 : decode cX5_deal 48 = .ok (.iload_n 2, 1) := by decide +kernel
theorem dX5_deal_49 : decode cX5_deal 49 = .ok (.if_icmp .ge 21, 3) := by decide +kernel
theorem dX5_deal_52 : decode cX5_deal 52 = .ok (.aload_n 0, 1) := by decide +kernel
theorem dX5_deal_53 : decode cX5_deal 53 = .ok (.getfield 43, 3) := by decide +kernel
theorem dX5_deal_56 : decode cX5_deal 56 = .ok (.iload 4, 2) := by decide +kernel
theorem dX5_deal_58 : decode cX5_deal 58 = .ok (.invokevirtual 242, 3) := by decide +kernel
theorem dX5_deal_61 : decode cX5_deal 61 = .ok (.iload 4, 2) := by decide +kernel
theorem dX5_deal_63 : decode cX5_deal 63 = .ok (.iload_n 1, 1) := by decide +kernel
theorem dX5_deal_64 : decode cX5_deal 64 = .ok (.iadd, 1) := by decide +kernel
theorem dX5_deal_65 : decode cX5_deal 65 = .ok (.istore 4, 2) := by decide +kernel
theorem dX5_deal_67 : decode cX5_deal 67 = .ok (.goto (-21), 3) := by decide +kernel
theorem dX5_deal_70 : decode cX5_deal 70 = .ok (.iinc 3 1, 3) := by decide +kernel
theorem dX5_deal_73 : decode cX5_deal 73 = .ok (.goto (-35), 3) := by decide +kernel
theorem dX5_deal_76 : decode cX5_deal 76 = .ok (.aload_n 0, 1) := by decide +kernel
theorem dX5_deal_77 : decode cX5_deal 77 = .ok (.invokevirtual 246, 3) := by decide +kernel
theorem dX5_deal_80 : decode cX5_deal 80 = .ok (.ireturn, 1) := by decide +kernel
set_option maxRecDepth 20000 in
theorem ggX5_drift_X5_isIn : GoodIn wsX5_drift wsX5_isIn := goodIn_r _ [7] (by decide +kernel) (by decide +kernel)
set_option maxRecDepth 20000 in
theorem gX5_drift_X5_isIn : GoodIn wsX5_drift (va_wsS RX5 100 yX5_isIn wsX5_isIn) := goodIn_app (goodIn_of _ (by decide +kernel)) ggX5_drift_X5_isIn
set_option maxRecDepth 20000 in
theorem ggX5_drift_X2_remember : GoodIn wsX5_drift wsX2_remember := goodIn_r _ [12, 13, 14, 15, 16, 17, 18, 19, 20, 21, 22, 23, 24, 25, 26, 27, 28, 29, 30, 31, 32, 33, 34, 35, 36, 37, 38, 39, 40, 41, 42, 43, 44, 45, 46, 47, 48, 49, 50, 51, 52, 53, 54, 118, 119, 120, 121, 122, 123, 124, 125, 126, 127, 128, 129, 130, 131, 132] (by decide +kernel) (by decide +kernel)
set_option maxRecDepth 20000 in
theorem gX5_drift_X2_remember : GoodIn wsX5_drift (wsV RX5 204 RX2 yX2_remember wsX2_remember) := goodIn_app (goodIn_of _ (by decide +kernel)) ggX5_drift_X2_remember
set_option maxRecDepth 20000 in
theorem ggX5_drift_X5_putByChance : GoodIn wsX5_drift wsX5_putByChance := goodIn_r _ [58, 3, 59, 60, 61, 6, 62, 63, 64, 65, 66, 67, 68, 69, 70, 71, 72, 73, 17, 74, 75, 76, 77, 78, 79, 80, 81, 82, 34, 83, 84, 85, 86, 87, 88, 89, 90, 35, 5, 7, 91, 92, 93, 94, 95, 96, 97, 98, 99, 100, 101, 102, 103, 104, 105, 36, 38, 106, 107, 108, 109, 110, 111, 112, 113, 114, 115, 116, 117, 121, 122, 123, 124, 125, 126, 127, 128, 129, 130, 131, 132] (by decide +kernel) (by decide +kernel)
set_option maxRecDepth 20000 in
theorem gX5_drift_X5_putByChance : GoodIn wsX5_drift (wsV RX5 261 RX5 yX5_putByChance wsX5_putByChance) := goodIn_app (goodIn_of _ (by decide +kernel)) ggX5_drift_X5_putByChance
theorem dX5_drift_0 : decode cX5_drift 0 = .ok (.iload_n 1, 1) := by decide +kernel
theorem dX5_drift_1 : decode cX5_drift 1 = .ok (.iconst 1, 1) := by decide +kernel
theorem dX5_drift_2 : decode cX5_drift 2 = .ok (.bipush 12, 2) := by decide +kernel
theorem dX5_drift_4 : decode cX5_drift 4 = .ok (.invokestatic 100, 3) := by decide +kernel
theorem dX5_drift_7 : decode cX5_drift 7 = .ok (.ifCond .ne 6, 3) := by decide +kernel
theorem dX5_drift_10 : decode cX5_drift 10 = .ok (.ldc 94, 2) := by decide +kernel
theorem dX5_drift_12 : decode cX5_drift 12 = .ok (.ireturn, 1) := by decide +kernel
theorem dX5_drift_13 : decode cX5_drift 13 = .ok (.iconst 0, 1) := by decide +kernel
theorem dX5_drift_14 : decode cX5_drift 14 = .ok (.istore_n 2, 1) := by decide +kernel
theorem dX5_drift_15 : decode cX5_drift 15 = .ok (.iconst 0, 1) := by decide +kernel
theorem dX5_drift_16 : decode cX5_drift 16 = .ok (.istore_n 3, 1) := by decide +kernel
theorem dX5_drift_17 : decode cX5_drift 17 = .ok (.iload_n 3, 1) := by decide +kernel
theorem dX5_drift_18 : decode cX5_drift 18 = .ok (.iload_n 1, 1) := by decide +kernel
theorem dX5_drift_19 : decode cX5_drift 19 = .ok (.if_icmp .ge 30, 3) := by decide +kernel
theorem dX5_drift_22 : decode cX5_drift 22 = .ok (.aload_n 0, 1) := by decide +kernel
theorem dX5_drift_23 : decode cX5_drift 23 = .ok (.getfield 19, 3) := by decide +kernel
theorem dX5_drift_26 : decode cX5_drift 26 = .ok (.aload_n 0, 1) := by decide +kernel
theorem dX5_drift_27 : decode cX5_drift 27 = .ok (.getfield 10, 3) := by decide +kernel
theorem dX5_drift_30 : decode cX5_drift 30 = .ok (.invokevirtual 204, 3) := by decide +kernel
theorem dX5_drift_33 : decode cX5_drift 33 = .ok (.aload_n 0, 1) := by decide +kernel
theorem dX5_drift_34 : decode cX5_drift 34 = .ok (.invokevirtual 261, 3) := by decide +kernel
theorem dX5_drift_37 : decode cX5_drift 37 = .ok (.ifCond .eq 6, 3) := by decide +kernel
theorem dX5_drift_40 : decode cX5_drift 40 = .ok (.iinc 2 1, 3) := by decide +kernel
theorem dX5_drift_43 : decode cX5_drift 43 = .ok (.iinc 3 1, 3) := by decide +kernel
theorem dX5_drift_46 : decode cX5_drift 46 = .ok (.goto (-29), 3) := by decide +kernel
theorem dX5_drift_49 : decode cX5_drift 49 = .ok (.iload_n 2, 1) := by decide +kernel
theorem dX5_drift_50 : decode cX5_drift 50 = .ok (.ireturn, 1) := by decide +kernel
set_option maxRecDepth 20000 in
theorem ggX5_undo_X5_isIn : GoodIn wsX5_undo wsX5_isIn := goodIn_r _ [8] (by decide +kernel) (by decide +kernel)
set_option maxRecDepth 20000 in
theorem gX5_undo_X5_isIn : GoodIn wsX5_undo (va_wsS RX5 100 yX5_isIn wsX5_isIn) := goodIn_app (goodIn_of _ (by decide +kernel)) ggX5_undo_X5_isIn
set_option maxRecDepth 20000 in
theorem ggX5_undo_X2_takeBack : GoodIn wsX5_undo wsX2_takeBack := goodIn_r _ [13, 14, 15, 16, 17, 18, 19, 20, 21, 22, 23, 24, 25, 26, 27, 28, 29, 30, 31, 32, 33, 34, 35, 36, 37, 38, 39, 40, 41, 51, 52, 53, 54, 55, 56, 57, 58, 59, 60, 61, 62, 63, 64, 65] (by decide +kernel) (by decide +kernel)
set_option maxRecDepth 20000 in
theorem gX5_undo_X2_takeBack : GoodIn wsX5_undo (wsV RX5 264 RX2 yX2_takeBack wsX2_takeBack) := goodIn_app (goodIn_of _ (by decide +kernel)) ggX5_undo_X2_takeBack
theorem dX5_undo_0 : decode cX5_undo 0 = .ok (.iload_n 1, 1) := by decide +kernel
theorem dX5_undo_1 : decode cX5_undo 1 = .ok (.iconst 1, 1) := by decide +kernel
theorem dX5_undo_2 : decode cX5_undo 2 = .ok (.bipush 16, 2) := by decide +kernel
theorem dX5_undo_4 : decode cX5_undo 4 = .ok (.invokestatic 100, 3) := by decide +kernel
theorem dX5_undo_7 : decode cX5_undo 7 = .ok (.ifCond .ne 6, 3) := by decide +kernel
theorem dX5_undo_10 : decode cX5_undo 10 = .ok (.ldc 94, 2) := by decide +kernel
theorem dX5_undo_12 : decode cX5_undo 12 = .ok (.ireturn, 1) := by decide +kernel
theorem dX5_undo_13 : decode cX5_undo 13 = .ok (.iload_n 1, 1) := by decide +kernel
theorem dX5_undo_14 : decode cX5_undo 14 = .ok (.aload_n 0, 1) := by decide +kernel
theorem dX5_undo_15 : decode cX5_undo 15 = .ok (.getfield 19, 3) := by decide +kernel
theorem dX5_undo_18 : decode cX5_undo 18 = .ok (.getfield 93, 3) := by decide +kernel
theorem dX5_undo_21 : decode cX5_undo 21 = .ok (.if_icmp .le 6, 3) := by decide +kernel
theorem dX5_undo_24 : decode cX5_undo 24 = .ok (.ldc 220, 2) := by decide +kernel
theorem dX5_undo_26 : decode cX5_undo 26 = .ok (.ireturn, 1) := by decide +kernel
theorem dX5_undo_27 : decode cX5_undo 27 = .ok (.aload_n 0, 1) := by decide +kernel
theorem dX5_undo_28 : decode cX5_undo 28 = .ok (.getfield 19, 3) := by decide +kernel
theorem dX5_undo_31 : decode cX5_undo 31 = .ok (.iload_n 1, 1) := by decide +kernel
theorem dX5_undo_32 : decode cX5_undo 32 = .ok (.aload_n 0, 1) := by decide +kernel
theorem dX5_undo_33 : decode cX5_undo 33 = .ok (.getfield 10, 3) := by decide +kernel
theorem dX5_undo_36 : decode cX5_undo 36 = .ok (.invokevirtual 264, 3) := by decide +kernel
theorem dX5_undo_39 : decode cX5_undo 39 = .ok (.aload_n 0, 1) := by decide +kernel
theorem dX5_undo_40 : decode cX5_undo 40 = .ok (.getfield 19, 3) := by decide +kernel
theorem dX5_undo_43 : decode cX5_undo 43 = .ok (.getfield 93, 3) := by decide +kernel
theorem dX5_undo_46 : decode cX5_undo 46 = .ok (.ireturn, 1) := by decide +kernel
set_option maxRecDepth 20000 in
theorem ggX5_write_X0_length : GoodIn wsX5_write wsX0_length := goodIn_r _ [9, 10, 11, 12, 13, 14, 8, 15, 16, 17, 18, 19, 20, 21, 22, 23, 24, 25, 26, 27, 28, 29, 30, 31, 32, 33, 34, 35, 36, 37, 38, 39, 40, 41, 42, 43, 44, 45, 46, 47, 71, 72, 73, 74, 75, 76, 77, 78, 79, 80, 81, 82] (by decide +kernel) (by decide +kernel)
set_option maxRecDepth 20000 in
theorem gX5_write_X0_length : GoodIn wsX5_write (wsV RX5 65 RX0 yX0_length wsX0_length) := goodIn_app (goodIn_of _ (by decide +kernel)) ggX5_write_X0_length
set_option maxRecDepth 20000 in
theorem ggX5_write_X5_isIn : GoodIn wsX5_write wsX5_isIn := goodIn_r _ [50] (by decide +kernel) (by decide +kernel)
set_option maxRecDepth 20000 in
theorem gX5_write_X5_isIn : GoodIn wsX5_write (va_wsS RX5 100 yX5_isIn wsX5_isIn) := goodIn_app (goodIn_of _ (by decide +kernel)) ggX5_write_X5_isIn
set_option maxRecDepth 20000 in
theorem ggX5_write_X1_add : GoodIn wsX5_write wsX1_add := goodIn_r _ [55, 56, 57, 58, 68, 69, 70] (by decide +kernel) (by decide +kernel)
set_option maxRecDepth 20000 in
theorem gX5_write_X1_add : GoodIn wsX5_write (wsV RX5 268 RX1 yX1_add wsX1_add) := goodIn_app (goodIn_of _ (by decide +kernel)) ggX5_write_X1_add
theorem dX5_write_0 : decode cX5_write 0 = .ok (.iload_n 1, 1) := by decide +kernel
theorem dX5_write_1 : decode cX5_write 1 = .ok (.iconst 0, 1) := by decide +kernel
theorem dX5_write_2 : decode cX5_write 2 = .ok (.aload_n 0, 1) := by decide +kernel
theorem dX5_write_3 : decode cX5_write 3 = .ok (.getfield 10, 3) := by decide +kernel
theorem dX5_write_6 : decode cX5_write 6 = .ok (.invokevirtual 65, 3) := by decide +kernel
theorem dX5_write_9 : decode cX5_write 9 = .ok (.iconst 1, 1) := by decide +kernel
theorem dX5_write_10 : decode cX5_write 10 = .ok (.isub, 1) := by decide +kernel
theorem dX5_write_11 : decode cX5_write 11 = .ok (.invokestatic 100, 3) := by decide +kernel
theorem dX5_write_14 : decode cX5_write 14 = .ok (.ifCond .ne 6, 3) := by decide +kernel
theorem dX5_write_17 : decode cX5_write 17 = .ok (.ldc 99, 2) := by decide +kernel
theorem dX5_write_19 : decode cX5_write 19 = .ok (.ireturn, 1) := by decide +kernel
theorem dX5_write_20 : decode cX5_write 20 = .ok (.aload_n 0, 1) := by decide +kernel
theorem dX5_write_21 : decode cX5_write 21 = .ok (.getfield 26, 3) := by decide +kernel
theorem dX5_write_24 : decode cX5_write 24 = .ok (.getfield 82, 3) := by decide +kernel
theorem dX5_write_27 : decode cX5_write 27 = .ok (.bipush 20, 2) := by decide +kernel
theorem dX5_write_29 : decode cX5_write 29 = .ok (.if_icmp .lt 6, 3) := by decide +kernel
theorem dX5_write_32 : decode cX5_write 32 = .ok (.ldc 229, 2) := by decide +kernel
theorem dX5_write_34 : decode cX5_write 34 = .ok (.ireturn, 1) := by decide +kernel
theorem dX5_write_35 : decode cX5_write 35 = .ok (.aload_n 0, 1) := by decide +kernel
theorem dX5_write_36 : decode cX5_write 36 = .ok (.getfield 26, 3) := by decide +kernel
theorem dX5_write_39 : decode cX5_write 39 = .ok (.iload_n 1, 1) := by decide +kernel
theorem dX5_write_40 : decode cX5_write 40 = .ok (.iload_n 2, 1) := by decide +kernel
theorem dX5_write_41 : decode cX5_write 41 = .ok (.invokevirtual 268, 3) := by decide +kernel
theorem dX5_write_44 : decode cX5_write 44 = .ok (.aload_n 0, 1) := by decide +kernel
theorem dX5_write_45 : decode cX5_write 45 = .ok (.getfield 26, 3) := by decide +kernel
theorem dX5_write_48 : decode cX5_write 48 = .ok (.getfield 82, 3) := by decide +kernel
theorem dX5_write_51 : decode cX5_write 51 = .ok (.ireturn, 1) := by decide +kernel
theorem dX5_tear_0 : decode cX5_tear 0 = .ok (.aload_n 0, 1) := by decide +kernel
theorem dX5_tear_1 : decode cX5_tear 1 = .ok (.getfield 26, 3) := by decide +kernel
theorem dX5_tear_4 : decode cX5_tear 4 = .ok (.getfield 82, 3) := by decide +kernel
theorem dX5_tear_7 : decode cX5_tear 7 = .ok (.istore_n 1, 1) := by decide +kernel
theorem dX5_tear_8 : decode cX5_tear 8 = .ok (.aload_n 0, 1) := by decide +kernel
theorem dX5_tear_9 : decode cX5_tear 9 = .ok (.getfield 26, 3) := by decide +kernel
theorem dX5_tear_12 : decode cX5_tear 12 = .ok (.iconst 0, 1) := by decide +kernel
theorem dX5_tear_13 : decode cX5_tear 13 = .ok (.putfield 82, 3) := by decide +kernel
theorem dX5_tear_16 : decode cX5_tear 16 = .ok (.iload_n 1, 1) := by decide +kernel
theorem dX5_tear_17 : decode cX5_tear 17 = .ok (.ireturn, 1) := by decide +kernel
theorem dX5_seed_0 : decode cX5_seed 0 = .ok (.iload_n 1, 1) := by decide +kernel
theorem dX5_seed_1 : decode cX5_seed 1 = .ok (.ifCond .ge 6, 3) := by decide +kernel
theorem dX5_seed_4 : decode cX5_seed 4 = .ok (.ldc 94, 2) := by decide +kernel
theorem dX5_seed_6 : decode cX5_seed 6 = .ok (.ireturn, 1) := by decide +kernel
theorem dX5_seed_7 : decode cX5_seed 7 = .ok (.aload_n 0, 1) := by decide +kernel
theorem dX5_seed_8 : decode cX5_seed 8 = .ok (.getfield 55, 3) := by decide +kernel
theorem dX5_seed_11 : decode cX5_seed 11 = .ok (.istore_n 2, 1) := by decide +kernel
theorem dX5_seed_12 : decode cX5_seed 12 = .ok (.aload_n 0, 1) := by decide +kernel
theorem dX5_seed_13 : decode cX5_seed 13 = .ok (.iload_n 1, 1) := by decide +kernel
theorem dX5_seed_14 : decode cX5_seed 14 = .ok (.putfield 55, 3) := by decide +kernel
theorem dX5_seed_17 : decode cX5_seed 17 = .ok (.iload_n 2, 1) := by decide +kernel
theorem dX5_seed_18 : decode cX5_seed 18 = .ok (.ireturn, 1) := by decide +kernel
set_option maxRecDepth 20000 in
theorem ggX5_keep_X5_isIn : GoodIn wsX5_keep wsX5_isIn := goodIn_r _ [13] (by decide +kernel) (by decide +kernel)
set_option maxRecDepth 20000 in
theorem gX5_keep_X5_isIn : GoodIn wsX5_keep (va_wsS RX5 100 yX5_isIn wsX5_isIn) := goodIn_app (goodIn_of _ (by decide +kernel)) ggX5_keep_X5_isIn
set_option maxRecDepth 20000 in
theorem ggX5_keep_X0_init : GoodIn wsX5_keep wsX0_init := goodIn_r _ [16, 17, 18, 19, 20, 21, 22, 23, 24, 25, 26, 27, 28, 29, 30, 51, 52, 53, 54, 55, 56, 57, 58, 59, 60, 61, 62] (by decide +kernel) (by decide +kernel)
set_option maxRecDepth 20000 in
theorem gX5_keep_X0_init : GoodIn wsX5_keep (wsX0_init) := ggX5_keep_X0_init
set_option maxRecDepth 20000 in
theorem ggX5_keep_X0_copyFrom : GoodIn wsX5_keep wsX0_copyFrom := goodIn_r _ [34, 21, 35, 36, 37, 38, 22, 23, 25, 26, 27, 28, 29, 39, 40, 30, 41, 51, 52, 53, 54, 55, 56, 57, 58, 59, 60, 61, 62] (by decide +kernel) (by decide +kernel)
set_option maxRecDepth 20000 in
theorem gX5_keep_X0_copyFrom : GoodIn wsX5_keep (wsV RX5 270 RX0 yX0_copyFrom wsX0_copyFrom) := goodIn_app (goodIn_of _ (by decide +kernel)) ggX5_keep_X0_copyFrom
theorem dX5_keep_0 : decode cX5_keep 0 = .ok (.iload_n 1, 1) := by decide +kernel
theorem dX5_keep_1 : decode cX5_keep 1 = .ok (.iconst 0, 1) := by decide +kernel
theorem dX5_keep_2 : decode cX5_keep 2 = .ok (.iconst 1, 1) := by decide +kernel
theorem dX5_keep_3 : decode cX5_keep 3 = .ok (.invokestatic 100, 3) := by decide +kernel
theorem dX5_keep_6 : decode cX5_keep 6 = .ok (.ifCond .ne 6, 3) := by decide +kernel
theorem dX5_keep_9 : decode cX5_keep 9 = .ok (.ldc 99, 2) := by decide +kernel
theorem dX5_keep_11 : decode cX5_keep 11 = .ok (.ireturn, 1) := by decide +kernel
theorem dX5_keep_12 : decode cX5_keep 12 = .ok (.aload_n 0, 1) := by decide +kernel
theorem dX5_keep_13 : decode cX5_keep 13 = .ok (.getfield 47, 3) := by decide +kernel
theorem dX5_keep_16 : decode cX5_keep 16 = .ok (.iload_n 1, 1) := by decide +kernel
theorem dX5_keep_17 : decode cX5_keep 17 = .ok (.aaload, 1) := by decide +kernel
theorem dX5_keep_18 : decode cX5_keep 18 = .ok (.astore_n 2, 1) := by decide +kernel
theorem dX5_keep_19 : decode cX5_keep 19 = .ok (.aload_n 2, 1) := by decide +kernel
theorem dX5_keep_20 : decode cX5_keep 20 = .ok (.ifnonnull 18, 3) := by decide +kernel
theorem dX5_keep_23 : decode cX5_keep 23 = .ok (.new 7, 3) := by decide +kernel
theorem dX5_keep_26 : decode cX5_keep 26 = .ok (.dup, 1) := by decide +kernel
theorem dX5_keep_27 : decode cX5_keep 27 = .ok (.invokespecial 9, 3) := by decide +kernel
theorem dX5_keep_30 : decode cX5_keep 30 = .ok (.astore_n 2, 1) := by decide +kernel
theorem dX5_keep_31 : decode cX5_keep 31 = .ok (.aload_n 0, 1) := by decide +kernel
theorem dX5_keep_32 : decode cX5_keep 32 = .ok (.getfield 47, 3) := by decide +kernel
theorem dX5_keep_35 : decode cX5_keep 35 = .ok (.iload_n 1, 1) := by decide +kernel
theorem dX5_keep_36 : decode cX5_keep 36 = .ok (.aload_n 2, 1) := by decide +kernel
theorem dX5_keep_37 : decode cX5_keep 37 = .ok (.aastore, 1) := by decide +kernel
theorem dX5_keep_38 : decode cX5_keep 38 = .ok (.aload_n 2, 1) := by decide +kernel
theorem dX5_keep_39 : decode cX5_keep 39 = .ok (.aload_n 0, 1) := by decide +kernel
theorem dX5_keep_40 : decode cX5_keep 40 = .ok (.getfield 10, 3) := by decide +kernel
theorem dX5_keep_43 : decode cX5_keep 43 = .ok (.invokevirtual 270, 3) := by decide +kernel
theorem dX5_keep_46 : decode cX5_keep 46 = .ok (.aload_n 0, 1) := by decide +kernel
theorem dX5_keep_47 : decode cX5_keep 47 = .ok (.getfield 51, 3) := by decide +kernel
theorem dX5_keep_50 : decode cX5_keep 50 = .ok (.iload_n 1, 1) := by decide +kernel
theorem dX5_keep_51 : decode cX5_keep 51 = .ok (.aload_n 0, 1) := by decide +kernel
theorem dX5_keep_52 : decode cX5_keep 52 = .ok (.getfield 55, 3) := by decide +kernel
theorem dX5_keep_55 : decode cX5_keep 55 = .ok (.iastore, 1) := by decide +kernel
theorem dX5_keep_56 : decode cX5_keep 56 = .ok (.aload_n 0, 1) := by decide +kernel
theorem dX5_keep_57 : decode cX5_keep 57 = .ok (.getfield 19, 3) := by decide +kernel
theorem dX5_keep_60 : decode cX5_keep 60 = .ok (.iconst 0, 1) := by decide +kernel
theorem dX5_keep_61 : decode cX5_keep 61 = .ok (.putfield 93, 3) := by decide +kernel
theorem dX5_keep_64 : decode cX5_keep 64 = .ok (.iconst 1, 1) := by decide +kernel
theorem dX5_keep_65 : decode cX5_keep 65 = .ok (.ireturn, 1) := by decide +kernel
set_option maxRecDepth 20000 in
theorem ggX5_goBack_X5_isIn : GoodIn wsX5_goBack wsX5_isIn := goodIn_r _ [11] (by decide +kernel) (by decide +kernel)
set_option maxRecDepth 20000 in
theorem gX5_goBack_X5_isIn : GoodIn wsX5_goBack (va_wsS RX5 100 yX5_isIn wsX5_isIn) := goodIn_app (goodIn_of _ (by decide +kernel)) ggX5_goBack_X5_isIn
set_option maxRecDepth 20000 in
theorem ggX5_goBack_X0_copyFrom : GoodIn wsX5_goBack wsX0_copyFrom := goodIn_r _ [16, 17, 18, 19, 20, 21, 22, 23, 24, 25, 26, 27, 28, 29, 30, 31, 32, 45, 46, 47, 48, 49, 50, 51, 52, 53, 54, 55, 56] (by decide +kernel) (by decide +kernel)
set_option maxRecDepth 20000 in
theorem gX5_goBack_X0_copyFrom : GoodIn wsX5_goBack (wsV RX5 270 RX0 yX0_copyFrom wsX0_copyFrom) := goodIn_app (goodIn_of _ (by decide +kernel)) ggX5_goBack_X0_copyFrom
theorem dX5_goBack_0 : decode cX5_goBack 0 = .ok (.iload_n 1, 1) := by decide +kernel
theorem dX5_goBack_1 : decode cX5_goBack 1 = .ok (.iconst 0, 1) := by decide +kernel
theorem dX5_goBack_2 : decode cX5_goBack 2 = .ok (.iconst 1, 1) := by decide +kernel
theorem dX5_goBack_3 : decode cX5_goBack 3 = .ok (.invokestatic 100, 3) := by decide +kernel
theorem dX5_goBack_6 : decode cX5_goBack 6 = .ok (.ifCond .ne 6, 3) := by decide +kernel
theorem dX5_goBack_9 : decode cX5_goBack 9 = .ok (.ldc 99, 2) := by decide +kernel
theorem dX5_goBack_11 : decode cX5_goBack 11 = .ok (.ireturn, 1) := by decide +kernel
theorem dX5_goBack_12 : decode cX5_goBack 12 = .ok (.aload_n 0, 1) := by decide +kernel
theorem dX5_goBack_13 : decode cX5_goBack 13 = .ok (.getfield 47, 3) := by decide +kernel
theorem dX5_goBack_16 : decode cX5_goBack 16 = .ok (.iload_n 1, 1) := by decide +kernel
theorem dX5_goBack_17 : decode cX5_goBack 17 = .ok (.aaload, 1) := by decide +kernel
theorem dX5_goBack_18 : decode cX5_goBack 18 = .ok (.astore_n 2, 1) := by decide +kernel
theorem dX5_goBack_19 : decode cX5_goBack 19 = .ok (.aload_n 2, 1) := by decide +kernel
theorem dX5_goBack_20 : decode cX5_goBack 20 = .ok (.ifnonnull 6, 3) := by decide +kernel
theorem dX5_goBack_23 : decode cX5_goBack 23 = .ok (.ldc 220, 2) := by decide +kernel
theorem dX5_goBack_25 : decode cX5_goBack 25 = .ok (.ireturn, 1) := by decide +kernel
theorem dX5_goBack_26 : decode cX5_goBack 26 = .ok (.aload_n 0, 1) := by decide +kernel
theorem dX5_goBack_27 : decode cX5_goBack 27 = .ok (.getfield 10, 3) := by decide +kernel
theorem dX5_goBack_30 : decode cX5_goBack 30 = .ok (.aload_n 2, 1) := by decide +kernel
theorem dX5_goBack_31 : decode cX5_goBack 31 = .ok (.invokevirtual 270, 3) := by decide +kernel
theorem dX5_goBack_34 : decode cX5_goBack 34 = .ok (.aload_n 0, 1) := by decide +kernel
theorem dX5_goBack_35 : decode cX5_goBack 35 = .ok (.aload_n 0, 1) := by decide +kernel
theorem dX5_goBack_36 : decode cX5_goBack 36 = .ok (.getfield 51, 3) := by decide +kernel
theorem dX5_goBack_39 : decode cX5_goBack 39 = .ok (.iload_n 1, 1) := by decide +kernel
theorem dX5_goBack_40 : decode cX5_goBack 40 = .ok (.iaload, 1) := by decide +kernel
theorem dX5_goBack_41 : decode cX5_goBack 41 = .ok (.putfield 55, 3) := by decide +kernel
theorem dX5_goBack_44 : decode cX5_goBack 44 = .ok (.aload_n 0, 1) := by decide +kernel
theorem dX5_goBack_45 : decode cX5_goBack 45 = .ok (.getfield 19, 3) := by decide +kernel
theorem dX5_goBack_48 : decode cX5_goBack 48 = .ok (.iconst 0, 1) := by decide +kernel
theorem dX5_goBack_49 : decode cX5_goBack 49 = .ok (.putfield 93, 3) := by decide +kernel
theorem dX5_goBack_52 : decode cX5_goBack 52 = .ok (.iconst 1, 1) := by decide +kernel
theorem dX5_goBack_53 : decode cX5_goBack 53 = .ok (.ireturn, 1) := by decide +kernel
theorem dX5_isIn_0 : decode cX5_isIn 0 = .ok (.iload_n 0, 1) := by decide +kernel
theorem dX5_isIn_1 : decode cX5_isIn 1 = .ok (.iload_n 1, 1) := by decide +kernel
theorem dX5_isIn_2 : decode cX5_isIn 2 = .ok (.if_icmp .lt 12, 3) := by decide +kernel
theorem dX5_isIn_5 : decode cX5_isIn 5 = .ok (.iload_n 0, 1) := by decide +kernel
theorem dX5_isIn_6 : decode cX5_isIn 6 = .ok (.iload_n 2, 1) := by decide +kernel
theorem dX5_isIn_7 : decode cX5_isIn 7 = .ok (.if_icmp .gt 7, 3) := by decide +kernel
theorem dX5_isIn_10 : decode cX5_isIn 10 = .ok (.iconst 1, 1) := by decide +kernel
theorem dX5_isIn_11 : decode cX5_isIn 11 = .ok (.goto 4, 3) := by decide +kernel
theorem dX5_isIn_14 : decode cX5_isIn 14 = .ok (.iconst 0, 1) := by decide +kernel
theorem dX5_isIn_15 : decode cX5_isIn 15 = .ok (.ireturn, 1) := by decide +kernel
theorem dX5_isSlot_0 : decode cX5_isSlot 0 = .ok (.iload_n 0, 1) := by decide +kernel
theorem dX5_isSlot_1 : decode cX5_isSlot 1 = .ok (.ifCond .lt 13, 3) := by decide +kernel
theorem dX5_isSlot_4 : decode cX5_isSlot 4 = .ok (.iload_n 0, 1) := by decide +kernel
theorem dX5_isSlot_5 : decode cX5_isSlot 5 = .ok (.bipush 6, 2) := by decide +kernel
theorem dX5_isSlot_7 : decode cX5_isSlot 7 = .ok (.if_icmp .ge 7, 3) := by decide +kernel
theorem dX5_isSlot_10 : decode cX5_isSlot 10 = .ok (.iconst 1, 1) := by decide +kernel
theorem dX5_isSlot_11 : decode cX5_isSlot 11 = .ok (.goto 4, 3) := by decide +kernel
theorem dX5_isSlot_14 : decode cX5_isSlot 14 = .ok (.iconst 0, 1) := by decide +kernel
theorem dX5_isSlot_15 : decode cX5_isSlot 15 = .ok (.ireturn, 1) := by decide +kernel
theorem dX5_isTag_0 : decode cX5_isTag 0 = .ok (.lload_n 0, 1) := by decide +kernel
theorem dX5_isTag_1 : decode cX5_isTag 1 = .ok (.lconst 0, 1) := by decide +kernel
theorem dX5_isTag_2 : decode cX5_isTag 2 = .ok (.lcmp, 1) := by decide +kernel
theorem dX5_isTag_3 : decode cX5_isTag 3 = .ok (.ifCond .lt 15, 3) := by decide +kernel
theorem dX5_isTag_6 : decode cX5_isTag 6 = .ok (.lload_n 0, 1) := by decide +kernel
theorem dX5_isTag_7 : decode cX5_isTag 7 = .ok (.ldc2_w 273, 3) := by decide +kernel
theorem dX5_isTag_10 : decode cX5_isTag 10 = .ok (.lcmp, 1) := by decide +kernel
theorem dX5_isTag_11 : decode cX5_isTag 11 = .ok (.ifCond .ge 7, 3) := by decide +kernel
theorem dX5_isTag_14 : decode cX5_isTag 14 = .ok (.iconst 1, 1) := by decide +kernel
theorem dX5_isTag_15 : decode cX5_isTag 15 = .ok (.goto 4, 3) := by decide +kernel
theorem dX5_isTag_18 : decode cX5_isTag 18 = .ok (.iconst 0, 1) := by decide +kernel
theorem dX5_isTag_19 : decode cX5_isTag 19 = .ok (.ireturn, 1) := by decide +kernel
theorem dX5_relation_0 : decode cX5_relation 0 = .ok (.iload_n 0, 1) := by decide +kernel
theorem dX5_relation_1 : decode cX5_relation 1 = .ok (.ifCond .ne 5, 3) := by decide +kernel
theorem dX5_relation_4 : decode cX5_relation 4 = .ok (.iconst 1, 1) := by decide +kernel
theorem dX5_relation_5 : decode cX5_relation 5 = .ok (.ireturn, 1) := by decide +kernel
theorem dX5_relation_6 : decode cX5_relation 6 = .ok (.iload_n 0, 1) := by decide +kernel
theorem dX5_relation_7 : decode cX5_relation 7 = .ok (.ifCond .ge 7, 3) := by decide +kernel
theorem dX5_relation_10 : decode cX5_relation 10 = .ok (.iconst 0, 1) := by decide +kernel
theorem dX5_relation_11 : decode cX5_relation 11 = .ok (.goto 4, 3) := by decide +kernel
theorem dX5_relation_14 : decode cX5_relation 14 = .ok (.iconst 2, 1) := by decide +kernel
theorem dX5_relation_15 : decode cX5_relation 15 = .ok (.ireturn, 1) := by decide +kernel
theorem dX5_fits_0 : decode cX5_fits 0 = .ok (.iload_n 0, 1) := by decide +kernel
theorem dX5_fits_1 : decode cX5_fits 1 = .ok (.ifCond .lt 21, 3) := by decide +kernel
theorem dX5_fits_4 : decode cX5_fits 4 = .ok (.iload_n 0, 1) := by decide +kernel
theorem dX5_fits_5 : decode cX5_fits 5 = .ok (.getstatic 275, 3) := by decide +kernel
theorem dX5_fits_8 : decode cX5_fits 8 = .ok (.arraylength, 1) := by decide +kernel
theorem dX5_fits_9 : decode cX5_fits 9 = .ok (.if_icmp .ge 13, 3) := by decide +kernel
theorem dX5_fits_12 : decode cX5_fits 12 = .ok (.iload_n 1, 1) := by decide +kernel
theorem dX5_fits_13 : decode cX5_fits 13 = .ok (.ifCond .lt 9, 3) := by decide +kernel
theorem dX5_fits_16 : decode cX5_fits 16 = .ok (.iload_n 1, 1) := by decide +kernel
theorem dX5_fits_17 : decode cX5_fits 17 = .ok (.bipush 7, 2) := by decide +kernel
theorem dX5_fits_19 : decode cX5_fits 19 = .ok (.if_icmp .le 5, 3) := by decide +kernel
theorem dX5_fits_22 : decode cX5_fits 22 = .ok (.iconst 0, 1) := by decide +kernel
theorem dX5_fits_23 : decode cX5_fits 23 = .ok (.ireturn, 1) := by decide +kernel
theorem dX5_fits_24 : decode cX5_fits 24 = .ok (.getstatic 275, 3) := by decide +kernel
theorem dX5_fits_27 : decode cX5_fits 27 = .ok (.iload_n 0, 1) := by decide +kernel
theorem dX5_fits_28 : decode cX5_fits 28 = .ok (.iaload, 1) := by decide +kernel
theorem dX5_fits_29 : decode cX5_fits 29 = .ok (.iload_n 1, 1) := by decide +kernel
theorem dX5_fits_30 : decode cX5_fits 30 = .ok (.ishr, 1) := by decide +kernel
theorem dX5_fits_31 : decode cX5_fits 31 = .ok (.iconst 1, 1) := by decide +kernel
theorem dX5_fits_32 : decode cX5_fits 32 = .ok (.iand, 1) := by decide +kernel
theorem dX5_fits_33 : decode cX5_fits 33 = .ok (.iconst 1, 1) := by decide +kernel
theorem dX5_fits_34 : decode cX5_fits 34 = .ok (.if_icmp .ne 7, 3) := by decide +kernel
theorem dX5_fits_37 : decode cX5_fits 37 = .ok (.iconst 1, 1) := by decide +kernel
theorem dX5_fits_38 : decode cX5_fits 38 = .ok (.goto 4, 3) := by decide +kernel
theorem dX5_fits_41 : decode cX5_fits 41 = .ok (.iconst 0, 1) := by decide +kernel
theorem dX5_fits_42 : decode cX5_fits 42 = .ok (.ireturn, 1) := by decide +kernel
theorem dX5_made_0 : decode cX5_made 0 = .ok (.iload_n 0, 1) := by decide +kernel
theorem dX5_made_1 : decode cX5_made 1 = .ok (.tableswitch 96 0 9 #[55, 67, 72, 77, 82, 96, 86, 90, 96, 94], 55) := by decide +kernel
theorem dX5_made_56 : decode cX5_made 56 = .ok (.lload_n 1, 1) := by decide +kernel
theorem dX5_made_57 : decode cX5_made 57 = .ok (.lconst 0, 1) := by decide +kernel
theorem dX5_made_58 : decode cX5_made 58 = .ok (.lcmp, 1) := by decide +kernel
theorem dX5_made_59 : decode cX5_made 59 = .ok (.ifCond .eq 7, 3) := by decide +kernel
theorem dX5_made_62 : decode cX5_made 62 = .ok (.lconst 1, 1) := by decide +kernel
theorem dX5_made_63 : decode cX5_made 63 = .ok (.goto 4, 3) := by decide +kernel
theorem dX5_made_66 : decode cX5_made 66 = .ok (.lconst 0, 1) := by decide +kernel
theorem dX5_made_67 : decode cX5_made 67 = .ok (.lreturn, 1) := by decide +kernel
theorem dX5_made_68 : decode cX5_made 68 = .ok (.lload_n 1, 1) := by decide +kernel
theorem dX5_made_69 : decode cX5_made 69 = .ok (.l2i, 1) := by decide +kernel
theorem dX5_made_70 : decode cX5_made 70 = .ok (.i2b, 1) := by decide +kernel
theorem dX5_made_71 : decode cX5_made 71 = .ok (.i2l, 1) := by decide +kernel
theorem dX5_made_72 : decode cX5_made 72 = .ok (.lreturn, 1) := by decide +kernel
theorem dX5_made_73 : decode cX5_made 73 = .ok (.lload_n 1, 1) := by decide +kernel
theorem dX5_made_74 : decode cX5_made 74 = .ok (.l2i, 1) := by decide +kernel
theorem dX5_made_75 : decode cX5_made 75 = .ok (.i2c, 1) := by decide +kernel
theorem dX5_made_76 : decode cX5_made 76 = .ok (.i2l, 1) := by decide +kernel
theorem dX5_made_77 : decode cX5_made 77 = .ok (.lreturn, 1) := by decide +kernel
theorem dX5_made_78 : decode cX5_made 78 = .ok (.lload_n 1, 1) := by decide +kernel
theorem dX5_made_79 : decode cX5_made 79 = .ok (.l2i, 1) := by decide +kernel
theorem dX5_made_80 : decode cX5_made 80 = .ok (.i2s, 1) := by decide +kernel
theorem dX5_made_81 : decode cX5_made 81 = .ok (.i2l, 1) := by decide +kernel
theorem dX5_made_82 : decode cX5_made 82 = .ok (.lreturn, 1) := by decide +kernel
theorem dX5_made_83 : decode cX5_made 83 = .ok (.lload_n 1, 1) := by decide +kernel
theorem dX5_made_84 : decode cX5_made 84 = .ok (.l2i, 1) := by decide +kernel
theorem dX5_made_85 : decode cX5_made 85 = .ok (.i2l, 1) := by decide +kernel
theorem dX5_made_86 : decode cX5_made 86 = .ok (.lreturn, 1) := by decide +kernel
theorem dX5_made_87 : decode cX5_made 87 = .ok (.lload_n 1, 1) := by decide +kernel
theorem dX5_made_88 : decode cX5_made 88 = .ok (.l2f, 1) := by decide +kernel
theorem dX5_made_89 : decode cX5_made 89 = .ok (.f2l, 1) := by decide +kernel
theorem dX5_made_90 : decode cX5_made 90 = .ok (.lreturn, 1) := by decide +kernel
theorem dX5_made_91 : decode cX5_made 91 = .ok (.lload_n 1, 1) := by decide +kernel
theorem dX5_made_92 : decode cX5_made 92 = .ok (.l2d, 1) := by decide +kernel
theorem dX5_made_93 : decode cX5_made 93 = .ok (.d2l, 1) := by decide +kernel
theorem dX5_made_94 : decode cX5_made 94 = .ok (.lreturn, 1) := by decide +kernel
theorem dX5_made_95 : decode cX5_made 95 = .ok (.lconst 0, 1) := by decide +kernel
theorem dX5_made_96 : decode cX5_made 96 = .ok (.lreturn, 1) := by decide +kernel
theorem dX5_made_97 : decode cX5_made 97 = .ok (.lload_n 1, 1) := by decide +kernel
theorem dX5_made_98 : decode cX5_made 98 = .ok (.lreturn, 1) := by decide +kernel
set_option maxRecDepth 20000 in
theorem ggX5_disorder_X4_sortPlaces : GoodIn wsX5_disorder wsX4_sortPlaces := goodIn_r _ [7, 8, 9, 10, 11, 12, 13, 14, 15, 16, 17, 18, 19, 20, 21, 22, 23, 24, 25, 26, 27, 28, 29, 30, 31, 32, 33, 34, 35, 36, 37, 38, 39, 40, 41, 42, 43, 44, 45, 46, 47, 48, 49, 50, 51, 52, 53, 54, 55, 56, 57, 58, 59, 60, 61, 62, 63, 64, 65, 66, 67, 68, 69, 70, 71, 72, 73, 74, 75, 76, 77, 78, 79, 80, 81, 82, 83, 84, 85, 86, 87, 88, 89, 90, 91, 92, 93, 94, 95, 96, 97, 98, 99, 100, 101, 102, 103, 104, 105, 106, 107, 108, 6, 109, 110, 111, 112, 113, 114, 115, 116, 117, 118, 119, 120, 121, 122, 172, 173, 174, 175, 176, 177, 178, 179, 180, 181, 182, 183, 184, 185, 186, 187, 188] (by decide +kernel) (by decide +kernel)
set_option maxRecDepth 20000 in
theorem gX5_disorder_X4_sortPlaces : GoodIn wsX5_disorder (wsV RX5 85 RX4 yX4_sortPlaces wsX4_sortPlaces) := goodIn_app (goodIn_of _ (by decide +kernel)) ggX5_disorder_X4_sortPlaces
set_option maxRecDepth 20000 in
theorem ggX5_disorder_X4_isFit : GoodIn wsX5_disorder wsX4_isFit := goodIn_r _ [126, 12, 172, 173, 174, 175, 176] (by decide +kernel) (by decide +kernel)
set_option maxRecDepth 20000 in
theorem gX5_disorder_X4_isFit : GoodIn wsX5_disorder (wsV RX5 233 RX4 yX4_isFit wsX4_isFit) := goodIn_app (goodIn_of _ (by decide +kernel)) ggX5_disorder_X4_isFit
set_option maxRecDepth 20000 in
theorem ggX5_disorder_X4_alikePairs : GoodIn wsX5_disorder wsX4_alikePairs := goodIn_r _ [130, 12, 106, 107, 108, 6, 109, 110, 111, 112, 113, 114, 115, 116, 117, 13, 118, 119, 120, 121, 122, 85, 86, 87, 172, 173, 174, 175, 176] (by decide +kernel) (by decide +kernel)
set_option maxRecDepth 20000 in
theorem gX5_disorder_X4_alikePairs : GoodIn wsX5_disorder (wsV RX5 278 RX4 yX4_alikePairs wsX4_alikePairs) := goodIn_app (goodIn_of _ (by decide +kernel)) ggX5_disorder_X4_alikePairs
set_option maxRecDepth 20000 in
theorem ggX5_disorder_X4_inversions : GoodIn wsX5_disorder wsX4_inversions := goodIn_r _ [134, 12, 135, 136, 137, 6, 138, 110, 111, 112, 113, 114, 115, 116, 117, 13, 118, 119, 120, 121, 122, 85, 86, 87, 172, 173, 174, 175, 176] (by decide +kernel) (by decide +kernel)
set_option maxRecDepth 20000 in
theorem gX5_disorder_X4_inversions : GoodIn wsX5_disorder (wsV RX5 281 RX4 yX4_inversions wsX4_inversions) := goodIn_app (goodIn_of _ (by decide +kernel)) ggX5_disorder_X4_inversions
set_option maxRecDepth 20000 in
theorem ggX5_disorder_X4_sections : GoodIn wsX5_disorder wsX4_sections := goodIn_r _ [142, 12, 110, 111, 112, 6, 113, 114, 115, 116, 117, 13, 118, 119, 120, 121, 122, 85, 86, 87, 172, 173, 174, 175, 176] (by decide +kernel) (by decide +kernel)
set_option maxRecDepth 20000 in
theorem gX5_disorder_X4_sections : GoodIn wsX5_disorder (wsV RX5 284 RX4 yX4_sections wsX4_sections) := goodIn_app (goodIn_of _ (by decide +kernel)) ggX5_disorder_X4_sections
set_option maxRecDepth 20000 in
theorem ggX5_disorder_X4_longestSorted : GoodIn wsX5_disorder wsX4_longestSorted := goodIn_r _ [146, 12, 147, 148, 149, 10, 150, 110, 111, 112, 6, 113, 114, 115, 116, 117, 13, 118, 119, 120, 121, 122, 85, 86, 87, 172, 173, 174, 175, 176] (by decide +kernel) (by decide +kernel)
set_option maxRecDepth 20000 in
theorem gX5_disorder_X4_longestSorted : GoodIn wsX5_disorder (wsV RX5 287 RX4 yX4_longestSorted wsX4_longestSorted) := goodIn_app (goodIn_of _ (by decide +kernel)) ggX5_disorder_X4_longestSorted
set_option maxRecDepth 20000 in
theorem ggX5_disorder_X4_exchanges : GoodIn wsX5_disorder wsX4_exchanges := goodIn_r _ [154, 12, 155, 156, 157, 6, 158, 14, 118, 119, 120, 121, 172, 173, 174, 175, 176] (by decide +kernel) (by decide +kernel)
set_option maxRecDepth 20000 in
theorem gX5_disorder_X4_exchanges : GoodIn wsX5_disorder (wsV RX5 290 RX4 yX4_exchanges wsX4_exchanges) := goodIn_app (goodIn_of _ (by decide +kernel)) ggX5_disorder_X4_exchanges
set_option maxRecDepth 20000 in
theorem ggX5_disorder_X4_bubblePasses : GoodIn wsX5_disorder wsX4_bubblePasses := goodIn_r _ [162, 12, 148, 149, 10, 150, 135, 136, 137, 6, 138, 110, 111, 112, 113, 114, 115, 116, 117, 13, 118, 119, 120, 121, 122, 85, 86, 87, 172, 173, 174, 175, 176] (by decide +kernel) (by decide +kernel)
set_option maxRecDepth 20000 in
theorem gX5_disorder_X4_bubblePasses : GoodIn wsX5_disorder (wsV RX5 293 RX4 yX4_bubblePasses wsX4_bubblePasses) := goodIn_app (goodIn_of _ (by decide +kernel)) ggX5_disorder_X4_bubblePasses
theorem dX5_disorder_0 : decode cX5_disorder 0 = .ok (.aload_n 0, 1) := by decide +kernel
theorem dX5_disorder_1 : decode cX5_disorder 1 = .ok (.getfield 33, 3) := by decide +kernel
theorem dX5_disorder_4 : decode cX5_disorder 4 = .ok (.aload_n 0, 1) := by decide +kernel
theorem dX5_disorder_5 : decode cX5_disorder 5 = .ok (.getfield 10, 3) := by decide +kernel
theorem dX5_disorder_8 : decode cX5_disorder 8 = .ok (.bipush 15, 2) := by decide +kernel
theorem dX5_disorder_10 : decode cX5_disorder 10 = .ok (.invokevirtual 85, 3) := by decide +kernel
theorem dX5_disorder_13 : decode cX5_disorder 13 = .ok (.aload_n 0, 1) := by decide +kernel
theorem dX5_disorder_14 : decode cX5_disorder 14 = .ok (.getfield 33, 3) := by decide +kernel
theorem dX5_disorder_17 : decode cX5_disorder 17 = .ok (.invokevirtual 233, 3) := by decide +kernel
theorem dX5_disorder_20 : decode cX5_disorder 20 = .ok (.ifCond .ne 5, 3) := by decide +kernel
theorem dX5_disorder_23 : decode cX5_disorder 23 = .ok (.iconst (-1), 1) := by decide +kernel
theorem dX5_disorder_24 : decode cX5_disorder 24 = .ok (.ireturn, 1) := by decide +kernel
theorem dX5_disorder_25 : decode cX5_disorder 25 = .ok (.iload_n 1, 1) := by decide +kernel
theorem dX5_disorder_26 : decode cX5_disorder 26 = .ok (.tableswitch 74 3 7 #[34, 42, 50, 58, 66], 34) := by decide +kernel
theorem dX5_disorder_60 : decode cX5_disorder 60 = .ok (.aload_n 0, 1) := by decide +kernel
theorem dX5_disorder_61 : decode cX5_disorder 61 = .ok (.getfield 33, 3) := by decide +kernel
theorem dX5_disorder_64 : decode cX5_disorder 64 = .ok (.invokevirtual 278, 3) := by decide +kernel
theorem dX5_disorder_67 : decode cX5_disorder 67 = .ok (.ireturn, 1) := by decide +kernel
theorem dX5_disorder_68 : decode cX5_disorder 68 = .ok (.aload_n 0, 1) := by decide +kernel
theorem dX5_disorder_69 : decode cX5_disorder 69 = .ok (.getfield 33, 3) := by decide +kernel
theorem dX5_disorder_72 : decode cX5_disorder 72 = .ok (.invokevirtual 281, 3) := by decide +kernel
theorem dX5_disorder_75 : decode cX5_disorder 75 = .ok (.ireturn, 1) := by decide +kernel
theorem dX5_disorder_76 : decode cX5_disorder 76 = .ok (.aload_n 0, 1) := by decide +kernel
theorem dX5_disorder_77 : decode cX5_disorder 77 = .ok (.getfield 33, 3) := by decide +kernel
theorem dX5_disorder_80 : decode cX5_disorder 80 = .ok (.invokevirtual 284, 3) := by decide +kernel
theorem dX5_disorder_83 : decode cX5_disorder 83 = .ok (.ireturn, 1) := by decide +kernel
theorem dX5_disorder_84 : decode cX5_disorder 84 = .ok (.aload_n 0, 1) := by decide +kernel
theorem dX5_disorder_85 : decode cX5_disorder 85 = .ok (.getfield 33, 3) := by decide +kernel
theorem dX5_disorder_88 : decode cX5_disorder 88 = .ok (.invokevirtual 287, 3) := by decide +kernel
theorem dX5_disorder_91 : decode cX5_disorder 91 = .ok (.ireturn, 1) := by decide +kernel
theorem dX5_disorder_92 : decode cX5_disorder 92 = .ok (.aload_n 0, 1) := by decide +kernel
theorem dX5_disorder_93 : decode cX5_disorder 93 = .ok (.getfield 33, 3) := by decide +kernel
theorem dX5_disorder_96 : decode cX5_disorder 96 = .ok (.invokevirtual 290, 3) := by decide +kernel
theorem dX5_disorder_99 : decode cX5_disorder 99 = .ok (.ireturn, 1) := by decide +kernel
theorem dX5_disorder_100 : decode cX5_disorder 100 = .ok (.aload_n 0, 1) := by decide +kernel
theorem dX5_disorder_101 : decode cX5_disorder 101 = .ok (.getfield 33, 3) := by decide +kernel
theorem dX5_disorder_104 : decode cX5_disorder 104 = .ok (.invokevirtual 293, 3) := by decide +kernel
theorem dX5_disorder_107 : decode cX5_disorder 107 = .ok (.ireturn, 1) := by decide +kernel
set_option maxRecDepth 20000 in
theorem ggX5_keysThatMatter_X4_sortPlaces : GoodIn wsX5_keysThatMatter wsX4_sortPlaces := goodIn_r _ [8, 9, 10, 11, 12, 13, 14, 15, 16, 17, 18, 19, 20, 21, 22, 23, 24, 25, 26, 27, 28, 29, 30, 31, 32, 33, 34, 35, 36, 37, 38, 39, 40, 41, 42, 43, 44, 45, 46, 47, 48, 49, 50, 51, 52, 53, 54, 55, 56, 57, 58, 59, 60, 61, 62, 63, 64, 65, 66, 67, 68, 69, 70, 71, 72, 73, 74, 75, 76, 77, 78, 79, 80, 81, 82, 83, 84, 85, 86, 87, 88, 89, 90, 91, 92, 93, 94, 95, 96, 97, 98, 99, 100, 101, 102, 103, 104, 105, 106, 107, 108, 109, 7, 110, 111, 112, 113, 114, 115, 116, 117, 118, 119, 120, 121, 122, 123, 157, 158, 159, 160, 161, 145, 146, 147, 148, 149, 150, 151, 152, 153, 154, 155, 156] (by decide +kernel) (by decide +kernel)
set_option maxRecDepth 20000 in
theorem gX5_keysThatMatter_X4_sortPlaces : GoodIn wsX5_keysThatMatter (wsV RX5 85 RX4 yX4_sortPlaces wsX4_sortPlaces) := goodIn_app (goodIn_of _ (by decide +kernel)) ggX5_keysThatMatter_X4_sortPlaces
set_option maxRecDepth 20000 in
theorem ggX5_keysThatMatter_X4_isFit : GoodIn wsX5_keysThatMatter wsX4_isFit := goodIn_r _ [127, 13, 157, 158, 159, 160, 161] (by decide +kernel) (by decide +kernel)
set_option maxRecDepth 20000 in
theorem gX5_keysThatMatter_X4_isFit : GoodIn wsX5_keysThatMatter (wsV RX5 233 RX4 yX4_isFit wsX4_isFit) := goodIn_app (goodIn_of _ (by decide +kernel)) ggX5_keysThatMatter_X4_isFit
set_option maxRecDepth 20000 in
theorem ggX5_keysThatMatter_X4_hasOrderOf : GoodIn wsX5_keysThatMatter wsX4_hasOrderOf := goodIn_r _ [131, 13, 132, 133, 134, 7, 135, 15, 119, 120, 121, 122, 157, 158, 159, 160, 161] (by decide +kernel) (by decide +kernel)
set_option maxRecDepth 20000 in
theorem gX5_keysThatMatter_X4_hasOrderOf : GoodIn wsX5_keysThatMatter (wsV RX5 296 RX4 yX4_hasOrderOf wsX4_hasOrderOf) := goodIn_app (goodIn_of _ (by decide +kernel)) ggX5_keysThatMatter_X4_hasOrderOf
theorem dX5_keysThatMatter_0 : decode cX5_keysThatMatter 0 = .ok (.aload_n 0, 1) := by decide +kernel
theorem dX5_keysThatMatter_1 : decode cX5_keysThatMatter 1 = .ok (.getfield 33, 3) := by decide +kernel
theorem dX5_keysThatMatter_4 : decode cX5_keysThatMatter 4 = .ok (.aload_n 0, 1) := by decide +kernel
theorem dX5_keysThatMatter_5 : decode cX5_keysThatMatter 5 = .ok (.getfield 10, 3) := by decide +kernel
theorem dX5_keysThatMatter_8 : decode cX5_keysThatMatter 8 = .ok (.bipush 15, 2) := by decide +kernel
theorem dX5_keysThatMatter_10 : decode cX5_keysThatMatter 10 = .ok (.invokevirtual 85, 3) := by decide +kernel
theorem dX5_keysThatMatter_13 : decode cX5_keysThatMatter 13 = .ok (.aload_n 0, 1) := by decide +kernel
theorem dX5_keysThatMatter_14 : decode cX5_keysThatMatter 14 = .ok (.getfield 33, 3) := by decide +kernel
theorem dX5_keysThatMatter_17 : decode cX5_keysThatMatter 17 = .ok (.invokevirtual 233, 3) := by decide +kernel
theorem dX5_keysThatMatter_20 : decode cX5_keysThatMatter 20 = .ok (.ifCond .ne 5, 3) := by decide +kernel
theorem dX5_keysThatMatter_23 : decode cX5_keysThatMatter 23 = .ok (.iconst (-1), 1) := by decide +kernel
theorem dX5_keysThatMatter_24 : decode cX5_keysThatMatter 24 = .ok (.ireturn, 1) := by decide +kernel
theorem dX5_keysThatMatter_25 : decode cX5_keysThatMatter 25 = .ok (.iconst 0, 1) := by decide +kernel
theorem dX5_keysThatMatter_26 : decode cX5_keysThatMatter 26 = .ok (.istore_n 1, 1) := by decide +kernel
theorem dX5_keysThatMatter_27 : decode cX5_keysThatMatter 27 = .ok (.iconst 0, 1) := by decide +kernel
theorem dX5_keysThatMatter_28 : decode cX5_keysThatMatter 28 = .ok (.istore_n 2, 1) := by decide +kernel
theorem dX5_keysThatMatter_29 : decode cX5_keysThatMatter 29 = .ok (.iload_n 2, 1) := by decide +kernel
theorem dX5_keysThatMatter_30 : decode cX5_keysThatMatter 30 = .ok (.aload_n 0, 1) := by decide +kernel
theorem dX5_keysThatMatter_31 : decode cX5_keysThatMatter 31 = .ok (.getfield 10, 3) := by decide +kernel
theorem dX5_keysThatMatter_34 : decode cX5_keysThatMatter 34 = .ok (.getfield 59, 3) := by decide +kernel
theorem dX5_keysThatMatter_37 : decode cX5_keysThatMatter 37 = .ok (.if_icmp .ge 48, 3) := by decide +kernel
theorem dX5_keysThatMatter_40 : decode cX5_keysThatMatter 40 = .ok (.aload_n 0, 1) := by decide +kernel
theorem dX5_keysThatMatter_41 : decode cX5_keysThatMatter 41 = .ok (.getfield 37, 3) := by decide +kernel
theorem dX5_keysThatMatter_44 : decode cX5_keysThatMatter 44 = .ok (.aload_n 0, 1) := by decide +kernel
theorem dX5_keysThatMatter_45 : decode cX5_keysThatMatter 45 = .ok (.getfield 10, 3) := by decide +kernel
theorem dX5_keysThatMatter_48 : decode cX5_keysThatMatter 48 = .ok (.bipush 15, 2) := by decide +kernel
theorem dX5_keysThatMatter_50 : decode cX5_keysThatMatter 50 = .ok (.iconst 1, 1) := by decide +kernel
theorem dX5_keysThatMatter_51 : decode cX5_keysThatMatter 51 = .ok (.iload_n 2, 1) := by decide +kernel
theorem dX5_keysThatMatter_52 : decode cX5_keysThatMatter 52 = .ok (.ishl, 1) := by decide +kernel
theorem dX5_keysThatMatter_53 : decode cX5_keysThatMatter 53 = .ok (.iconst (-1), 1) := by decide +kernel
theorem dX5_keysThatMatter_54 : decode cX5_keysThatMatter 54 = .ok (.ixor, 1) := by decide +kernel
theorem dX5_keysThatMatter_55 : decode cX5_keysThatMatter 55 = .ok (.iand, 1) := by decide +kernel
theorem dX5_keysThatMatter_56 : decode cX5_keysThatMatter 56 = .ok (.invokevirtual 85, 3) := by decide +kernel
theorem dX5_keysThatMatter_59 : decode cX5_keysThatMatter 59 = .ok (.aload_n 0, 1) := by decide +kernel
theorem dX5_keysThatMatter_60 : decode cX5_keysThatMatter 60 = .ok (.getfield 33, 3) := by decide +kernel
theorem dX5_keysThatMatter_63 : decode cX5_keysThatMatter 63 = .ok (.aload_n 0, 1) := by decide +kernel
theorem dX5_keysThatMatter_64 : decode cX5_keysThatMatter 64 = .ok (.getfield 37, 3) := by decide +kernel
theorem dX5_keysThatMatter_67 : decode cX5_keysThatMatter 67 = .ok (.invokevirtual 296, 3) := by decide +kernel
theorem dX5_keysThatMatter_70 : decode cX5_keysThatMatter 70 = .ok (.ifCond .ne 9, 3) := by decide +kernel
theorem dX5_keysThatMatter_73 : decode cX5_keysThatMatter 73 = .ok (.iload_n 1, 1) := by decide +kernel
theorem dX5_keysThatMatter_74 : decode cX5_keysThatMatter 74 = .ok (.iconst 1, 1) := by decide +kernel
theorem dX5_keysThatMatter_75 : decode cX5_keysThatMatter 75 = .ok (.iload_n 2, 1) := by decide +kernel
theorem dX5_keysThatMatter_76 : decode cX5_keysThatMatter 76 = .ok (.ishl, 1) := by decide +kernel
theorem dX5_keysThatMatter_77 : decode cX5_keysThatMatter 77 = .ok (.ior, 1) := by decide +kernel
theorem dX5_keysThatMatter_78 : decode cX5_keysThatMatter 78 = .ok (.istore_n 1, 1) := by decide +kernel
theorem dX5_keysThatMatter_79 : decode cX5_keysThatMatter 79 = .ok (.iinc 2 1, 3) := by decide +kernel
theorem dX5_keysThatMatter_82 : decode cX5_keysThatMatter 82 = .ok (.goto (-53), 3) := by decide +kernel
theorem dX5_keysThatMatter_85 : decode cX5_keysThatMatter 85 = .ok (.iload_n 1, 1) := by decide +kernel
theorem dX5_keysThatMatter_86 : decode cX5_keysThatMatter 86 = .ok (.ireturn, 1) := by decide +kernel
set_option maxRecDepth 20000 in
theorem ggX5_fewestKeys_X4_sortPlaces : GoodIn wsX5_fewestKeys wsX4_sortPlaces := goodIn_r _ [8, 9, 10, 11, 12, 13, 14, 15, 16, 17, 18, 19, 20, 21, 22, 23, 24, 25, 26, 27, 28, 29, 30, 31, 32, 33, 34, 35, 36, 37, 38, 39, 40, 41, 42, 43, 44, 45, 46, 47, 48, 49, 50, 51, 52, 53, 54, 55, 56, 57, 58, 59, 60, 61, 62, 63, 64, 65, 66, 67, 68, 69, 70, 71, 72, 73, 74, 75, 76, 77, 78, 79, 80, 81, 82, 83, 84, 85, 86, 87, 88, 89, 90, 91, 92, 93, 94, 95, 96, 97, 98, 99, 100, 101, 102, 103, 104, 105, 106, 107, 108, 109, 7, 110, 111, 112, 113, 114, 115, 116, 117, 118, 119, 120, 121, 122, 123, 163, 164, 165, 166, 167, 151, 152, 153, 154, 155, 156, 157, 158, 159, 160, 161, 162] (by decide +kernel) (by decide +kernel)
set_option maxRecDepth 20000 in
theorem gX5_fewestKeys_X4_sortPlaces : GoodIn wsX5_fewestKeys (wsV RX5 85 RX4 yX4_sortPlaces wsX4_sortPlaces) := goodIn_app (goodIn_of _ (by decide +kernel)) ggX5_fewestKeys_X4_sortPlaces
set_option maxRecDepth 20000 in
theorem ggX5_fewestKeys_X4_isFit : GoodIn wsX5_fewestKeys wsX4_isFit := goodIn_r _ [127, 13, 163, 164, 165, 166, 167] (by decide +kernel) (by decide +kernel)
set_option maxRecDepth 20000 in
theorem gX5_fewestKeys_X4_isFit : GoodIn wsX5_fewestKeys (wsV RX5 233 RX4 yX4_isFit wsX4_isFit) := goodIn_app (goodIn_of _ (by decide +kernel)) ggX5_fewestKeys_X4_isFit
set_option maxRecDepth 20000 in
theorem ggX5_fewestKeys_J6_bitCount_0f7a4 : GoodIn wsX5_fewestKeys wsJ6_bitCount_0f7a4 := goodIn_r _ [130, 131, 132, 133] (by decide +kernel) (by decide +kernel)
set_option maxRecDepth 20000 in
theorem gX5_fewestKeys_J6_bitCount_0f7a4 : GoodIn wsX5_fewestKeys (va_wsS RX5 300 yJ6_bitCount_0f7a4 wsJ6_bitCount_0f7a4) := goodIn_app (goodIn_of _ (by decide +kernel)) ggX5_fewestKeys_J6_bitCount_0f7a4
set_option maxRecDepth 20000 in
theorem ggX5_fewestKeys_X4_hasOrderOf : GoodIn wsX5_fewestKeys wsX4_hasOrderOf := goodIn_r _ [137, 13, 138, 139, 140, 7, 141, 15, 119, 120, 121, 122, 163, 164, 165, 166, 167] (by decide +kernel) (by decide +kernel)
set_option maxRecDepth 20000 in
theorem gX5_fewestKeys_X4_hasOrderOf : GoodIn wsX5_fewestKeys (wsV RX5 296 RX4 yX4_hasOrderOf wsX4_hasOrderOf) := goodIn_app (goodIn_of _ (by decide +kernel)) ggX5_fewestKeys_X4_hasOrderOf
theorem dX5_fewestKeys_0 : decode cX5_fewestKeys 0 = .ok (.aload_n 0, 1) := by decide +kernel
theorem dX5_fewestKeys_1 : decode cX5_fewestKeys 1 = .ok (.getfield 33, 3) := by decide +kernel
theorem dX5_fewestKeys_4 : decode cX5_fewestKeys 4 = .ok (.aload_n 0, 1) := by decide +kernel
theorem dX5_fewestKeys_5 : decode cX5_fewestKeys 5 = .ok (.getfield 10, 3) := by decide +kernel
theorem dX5_fewestKeys_8 : decode cX5_fewestKeys 8 = .ok (.bipush 15, 2) := by decide +kernel
theorem dX5_fewestKeys_10 : decode cX5_fewestKeys 10 = .ok (.invokevirtual 85, 3) := by decide +kernel
theorem dX5_fewestKeys_13 : decode cX5_fewestKeys 13 = .ok (.aload_n 0, 1) := by decide +kernel
theorem dX5_fewestKeys_14 : decode cX5_fewestKeys 14 = .ok (.getfield 33, 3) := by decide +kernel
theorem dX5_fewestKeys_17 : decode cX5_fewestKeys 17 = .ok (.invokevirtual 233, 3) := by decide +kernel
theorem dX5_fewestKeys_20 : decode cX5_fewestKeys 20 = .ok (.ifCond .ne 5, 3) := by decide +kernel
theorem dX5_fewestKeys_23 : decode cX5_fewestKeys 23 = .ok (.iconst (-1), 1) := by decide +kernel
theorem dX5_fewestKeys_24 : decode cX5_fewestKeys 24 = .ok (.ireturn, 1) := by decide +kernel
theorem dX5_fewestKeys_25 : decode cX5_fewestKeys 25 = .ok (.iconst 1, 1) := by decide +kernel
theorem dX5_fewestKeys_26 : decode cX5_fewestKeys 26 = .ok (.aload_n 0, 1) := by decide +kernel
theorem dX5_fewestKeys_27 : decode cX5_fewestKeys 27 = .ok (.getfield 10, 3) := by decide +kernel
theorem dX5_fewestKeys_30 : decode cX5_fewestKeys 30 = .ok (.getfield 59, 3) := by decide +kernel
theorem dX5_fewestKeys_33 : decode cX5_fewestKeys 33 = .ok (.ishl, 1) := by decide +kernel
theorem dX5_fewestKeys_34 : decode cX5_fewestKeys 34 = .ok (.iconst 1, 1) := by decide +kernel
theorem dX5_fewestKeys_35 : decode cX5_fewestKeys 35 = .ok (.isub, 1) := by decide +kernel
theorem dX5_fewestKeys_36 : decode cX5_fewestKeys 36 = .ok (.istore_n 1, 1) := by decide +kernel
theorem dX5_fewestKeys_37 : decode cX5_fewestKeys 37 = .ok (.iload_n 1, 1) := by decide +kernel
theorem dX5_fewestKeys_38 : decode cX5_fewestKeys 38 = .ok (.istore_n 2, 1) := by decide +kernel
theorem dX5_fewestKeys_39 : decode cX5_fewestKeys 39 = .ok (.iconst 0, 1) := by decide +kernel
theorem dX5_fewestKeys_40 : decode cX5_fewestKeys 40 = .ok (.istore_n 3, 1) := by decide +kernel
theorem dX5_fewestKeys_41 : decode cX5_fewestKeys 41 = .ok (.iload_n 3, 1) := by decide +kernel
theorem dX5_fewestKeys_42 : decode cX5_fewestKeys 42 = .ok (.iload_n 1, 1) := by decide +kernel
theorem dX5_fewestKeys_43 : decode cX5_fewestKeys 43 = .ok (.if_icmp .ge 60, 3) := by decide +kernel
theorem dX5_fewestKeys_46 : decode cX5_fewestKeys 46 = .ok (.aload_n 0, 1) := by decide +kernel
theorem dX5_fewestKeys_47 : decode cX5_fewestKeys 47 = .ok (.getfield 37, 3) := by decide +kernel
theorem dX5_fewestKeys_50 : decode cX5_fewestKeys 50 = .ok (.aload_n 0, 1) := by decide +kernel
theorem dX5_fewestKeys_51 : decode cX5_fewestKeys 51 = .ok (.getfield 10, 3) := by decide +kernel
theorem dX5_fewestKeys_54 : decode cX5_fewestKeys 54 = .ok (.iload_n 3, 1) := by decide +kernel
theorem dX5_fewestKeys_55 : decode cX5_fewestKeys 55 = .ok (.invokevirtual 85, 3) := by decide +kernel
theorem dX5_fewestKeys_58 : decode cX5_fewestKeys 58 = .ok (.iload_n 3, 1) := by decide +kernel
theorem dX5_fewestKeys_59 : decode cX5_fewestKeys 59 = .ok (.invokestatic 300, 3) := by decide +kernel
theorem dX5_fewestKeys_62 : decode cX5_fewestKeys 62 = .ok (.iload_n 2, 1) := by decide +kernel
theorem dX5_fewestKeys_63 : decode cX5_fewestKeys 63 = .ok (.invokestatic 300, 3) := by decide +kernel
theorem dX5_fewestKeys_66 : decode cX5_fewestKeys 66 = .ok (.if_icmp .ge 7, 3) := by decide +kernel
theorem dX5_fewestKeys_69 : decode cX5_fewestKeys 69 = .ok (.iconst 1, 1) := by decide +kernel
theorem dX5_fewestKeys_70 : decode cX5_fewestKeys 70 = .ok (.goto 4, 3) := by decide +kernel
theorem dX5_fewestKeys_73 : decode cX5_fewestKeys 73 = .ok (.iconst 0, 1) := by decide +kernel
theorem dX5_fewestKeys_74 : decode cX5_fewestKeys 74 = .ok (.istore 4, 2) := by decide +kernel
theorem dX5_fewestKeys_76 : decode cX5_fewestKeys 76 = .ok (.iload 4, 2) := by decide +kernel
theorem dX5_fewestKeys_78 : decode cX5_fewestKeys 78 = .ok (.ifCond .eq 19, 3) := by decide +kernel
theorem dX5_fewestKeys_81 : decode cX5_fewestKeys 81 = .ok (.aload_n 0, 1) := by decide +kernel
theorem dX5_fewestKeys_82 : decode cX5_fewestKeys 82 = .ok (.getfield 33, 3) := by decide +kernel
theorem dX5_fewestKeys_85 : decode cX5_fewestKeys 85 = .ok (.aload_n 0, 1) := by decide +kernel
theorem dX5_fewestKeys_86 : decode cX5_fewestKeys 86 = .ok (.getfield 37, 3) := by decide +kernel
theorem dX5_fewestKeys_89 : decode cX5_fewestKeys 89 = .ok (.invokevirtual 296, 3) := by decide +kernel
theorem dX5_fewestKeys_92 : decode cX5_fewestKeys 92 = .ok (.ifCond .eq 5, 3) := by decide +kernel
theorem dX5_fewestKeys_95 : decode cX5_fewestKeys 95 = .ok (.iload_n 3, 1) := by decide +kernel
theorem dX5_fewestKeys_96 : decode cX5_fewestKeys 96 = .ok (.istore_n 2, 1) := by decide +kernel
theorem dX5_fewestKeys_97 : decode cX5_fewestKeys 97 = .ok (.iinc 3 1, 3) := by decide +kernel
theorem dX5_fewestKeys_100 : decode cX5_fewestKeys 100 = .ok (.goto (-59), 3) := by decide +kernel
theorem dX5_fewestKeys_103 : decode cX5_fewestKeys 103 = .ok (.iload_n 2, 1) := by decide +kernel
theorem dX5_fewestKeys_104 : decode cX5_fewestKeys 104 = .ok (.ireturn, 1) := by decide +kernel
set_option maxRecDepth 20000 in
theorem ggX5_rearrange_X2_remember : GoodIn wsX5_rearrange wsX2_remember := goodIn_r _ [8, 9, 10, 11, 12, 13, 14, 15, 16, 17, 18, 19, 20, 21, 22, 23, 24, 25, 26, 27, 28, 29, 30, 31, 32, 33, 34, 35, 36, 37, 38, 39, 40, 41, 42, 43, 44, 45, 46, 47, 48, 49, 50, 92, 93, 94, 95, 96, 97, 98, 99, 100, 101, 102, 103, 104, 105, 106] (by decide +kernel) (by decide +kernel)
set_option maxRecDepth 20000 in
theorem gX5_rearrange_X2_remember : GoodIn wsX5_rearrange (wsV RX5 204 RX2 yX2_remember wsX2_remember) := goodIn_app (goodIn_of _ (by decide +kernel)) ggX5_rearrange_X2_remember
set_option maxRecDepth 20000 in
theorem ggX5_rearrange_X3_applyTo : GoodIn wsX5_rearrange wsX3_applyTo := goodIn_r _ [55, 56, 57, 58, 54, 59, 60, 61, 62, 63, 64, 65, 66, 13, 67, 32, 68, 69, 70, 71, 72, 73, 74, 34, 75, 76, 77, 78, 95, 96, 97, 98, 99, 100, 101, 102, 103, 104, 105, 106, 107, 108, 109, 110] (by decide +kernel) (by decide +kernel)
set_option maxRecDepth 20000 in
theorem gX5_rearrange_X3_applyTo : GoodIn wsX5_rearrange (wsV RX5 305 RX3 yX3_applyTo wsX3_applyTo) := goodIn_app (goodIn_of _ (by decide +kernel)) ggX5_rearrange_X3_applyTo
set_option maxRecDepth 20000 in
theorem ggX5_rearrange_X3_countMoved : GoodIn wsX5_rearrange wsX3_countMoved := goodIn_r _ [82, 60, 62, 107, 108, 109, 110] (by decide +kernel) (by decide +kernel)
set_option maxRecDepth 20000 in
theorem gX5_rearrange_X3_countMoved : GoodIn wsX5_rearrange (wsV RX5 308 RX3 yX3_countMoved wsX3_countMoved) := goodIn_app (goodIn_of _ (by decide +kernel)) ggX5_rearrange_X3_countMoved
theorem dX5_rearrange_0 : decode cX5_rearrange 0 = .ok (.aload_n 0, 1) := by decide +kernel
theorem dX5_rearrange_1 : decode cX5_rearrange 1 = .ok (.getfield 19, 3) := by decide +kernel
theorem dX5_rearrange_4 : decode cX5_rearrange 4 = .ok (.aload_n 0, 1) := by decide +kernel
theorem dX5_rearrange_5 : decode cX5_rearrange 5 = .ok (.getfield 10, 3) := by decide +kernel
theorem dX5_rearrange_8 : decode cX5_rearrange 8 = .ok (.invokevirtual 204, 3) := by decide +kernel
theorem dX5_rearrange_11 : decode cX5_rearrange 11 = .ok (.aload_n 0, 1) := by decide +kernel
theorem dX5_rearrange_12 : decode cX5_rearrange 12 = .ok (.getfield 43, 3) := by decide +kernel
theorem dX5_rearrange_15 : decode cX5_rearrange 15 = .ok (.aload_n 0, 1) := by decide +kernel
theorem dX5_rearrange_16 : decode cX5_rearrange 16 = .ok (.getfield 10, 3) := by decide +kernel
theorem dX5_rearrange_19 : decode cX5_rearrange 19 = .ok (.invokevirtual 305, 3) := by decide +kernel
theorem dX5_rearrange_22 : decode cX5_rearrange 22 = .ok (.aload_n 0, 1) := by decide +kernel
theorem dX5_rearrange_23 : decode cX5_rearrange 23 = .ok (.getfield 43, 3) := by decide +kernel
theorem dX5_rearrange_26 : decode cX5_rearrange 26 = .ok (.invokevirtual 308, 3) := by decide +kernel
theorem dX5_rearrange_29 : decode cX5_rearrange 29 = .ok (.ireturn, 1) := by decide +kernel
set_option maxRecDepth 20000 in
theorem ggX5_planMove_X3_clear : GoodIn wsX5_planMove wsX3_clear := goodIn_r _ [6, 7, 36, 37, 38, 39] (by decide +kernel) (by decide +kernel)
set_option maxRecDepth 20000 in
theorem gX5_planMove_X3_clear : GoodIn wsX5_planMove (wsV RX5 237 RX3 yX3_clear wsX3_clear) := goodIn_app (goodIn_of _ (by decide +kernel)) ggX5_planMove_X3_clear
set_option maxRecDepth 20000 in
theorem ggX5_planMove_X5_sourceOf : GoodIn wsX5_planMove wsX5_sourceOf := goodIn_r _ [11, 12, 13, 14, 15, 16, 17, 18, 19, 20, 10, 21] (by decide +kernel) (by decide +kernel)
set_option maxRecDepth 20000 in
theorem gX5_planMove_X5_sourceOf : GoodIn wsX5_planMove (va_wsS RX5 311 yX5_sourceOf wsX5_sourceOf) := goodIn_app (goodIn_of _ (by decide +kernel)) ggX5_planMove_X5_sourceOf
set_option maxRecDepth 20000 in
theorem ggX5_planMove_X3_add : GoodIn wsX5_planMove wsX3_add := goodIn_r _ [25, 7, 26, 36, 37, 38, 39] (by decide +kernel) (by decide +kernel)
set_option maxRecDepth 20000 in
theorem gX5_planMove_X3_add : GoodIn wsX5_planMove (wsV RX5 242 RX3 yX3_add wsX3_add) := goodIn_app (goodIn_of _ (by decide +kernel)) ggX5_planMove_X3_add
theorem dX5_planMove_0 : decode cX5_planMove 0 = .ok (.aload_n 0, 1) := by decide +kernel
theorem dX5_planMove_1 : decode cX5_planMove 1 = .ok (.getfield 43, 3) := by decide +kernel
theorem dX5_planMove_4 : decode cX5_planMove 4 = .ok (.invokevirtual 237, 3) := by decide +kernel
theorem dX5_planMove_7 : decode cX5_planMove 7 = .ok (.iconst 0, 1) := by decide +kernel
theorem dX5_planMove_8 : decode cX5_planMove 8 = .ok (.istore 5, 2) := by decide +kernel
theorem dX5_planMove_10 : decode cX5_planMove 10 = .ok (.iload 5, 2) := by decide +kernel
theorem dX5_planMove_12 : decode cX5_planMove 12 = .ok (.iload 4, 2) := by decide +kernel
theorem dX5_planMove_14 : decode cX5_planMove 14 = .ok (.if_icmp .ge 24, 3) := by decide +kernel
theorem dX5_planMove_17 : decode cX5_planMove 17 = .ok (.aload_n 0, 1) := by decide +kernel
theorem dX5_planMove_18 : decode cX5_planMove 18 = .ok (.getfield 43, 3) := by decide +kernel
theorem dX5_planMove_21 : decode cX5_planMove 21 = .ok (.iload 5, 2) := by decide +kernel
theorem dX5_planMove_23 : decode cX5_planMove 23 = .ok (.iload_n 1, 1) := by decide +kernel
theorem dX5_planMove_24 : decode cX5_planMove 24 = .ok (.iload_n 2, 1) := by decide +kernel
theorem dX5_planMove_25 : decode cX5_planMove 25 = .ok (.iload_n 3, 1) := by decide +kernel
theorem dX5_planMove_26 : decode cX5_planMove 26 = .ok (.invokestatic 311, 3) := by decide +kernel
theorem dX5_planMove_29 : decode cX5_planMove 29 = .ok (.invokevirtual 242, 3) := by decide +kernel
theorem dX5_planMove_32 : decode cX5_planMove 32 = .ok (.iinc 5 1, 3) := by decide +kernel
theorem dX5_planMove_35 : decode cX5_planMove 35 = .ok (.goto (-25), 3) := by decide +kernel
theorem dX5_planMove_38 : decode cX5_planMove 38 = .ok (.return_, 1) := by decide +kernel
set_option maxRecDepth 20000 in
theorem ggX5_sourceOf_X5_isIn : GoodIn wsX5_sourceOf wsX5_isIn := goodIn_r _ [11] (by decide +kernel) (by decide +kernel)
set_option maxRecDepth 20000 in
theorem gX5_sourceOf_X5_isIn : GoodIn wsX5_sourceOf (va_wsS RX5 100 yX5_isIn wsX5_isIn) := goodIn_app (goodIn_of _ (by decide +kernel)) ggX5_sourceOf_X5_isIn
theorem dX5_sourceOf_0 : decode cX5_sourceOf 0 = .ok (.iload_n 0, 1) := by decide +kernel
theorem dX5_sourceOf_1 : decode cX5_sourceOf 1 = .ok (.iload_n 1, 1) := by decide +kernel
theorem dX5_sourceOf_2 : decode cX5_sourceOf 2 = .ok (.iload_n 2, 1) := by decide +kernel
theorem dX5_sourceOf_3 : decode cX5_sourceOf 3 = .ok (.invokestatic 315, 3) := by decide +kernel
theorem dX5_sourceOf_6 : decode cX5_sourceOf 6 = .ok (.iload_n 1, 1) := by decide +kernel
theorem dX5_sourceOf_7 : decode cX5_sourceOf 7 = .ok (.iload_n 2, 1) := by decide +kernel
theorem dX5_sourceOf_8 : decode cX5_sourceOf 8 = .ok (.invokestatic 320, 3) := by decide +kernel
theorem dX5_sourceOf_11 : decode cX5_sourceOf 11 = .ok (.invokestatic 100, 3) := by decide +kernel
theorem dX5_sourceOf_14 : decode cX5_sourceOf 14 = .ok (.ifCond .ne 5, 3) := by decide +kernel
theorem dX5_sourceOf_17 : decode cX5_sourceOf 17 = .ok (.iload_n 0, 1) := by decide +kernel
theorem dX5_sourceOf_18 : decode cX5_sourceOf 18 = .ok (.ireturn, 1) := by decide +kernel
theorem dX5_sourceOf_19 : decode cX5_sourceOf 19 = .ok (.iload_n 3, 1) := by decide +kernel
theorem dX5_sourceOf_20 : decode cX5_sourceOf 20 = .ok (.iconst 1, 1) := by decide +kernel
theorem dX5_sourceOf_21 : decode cX5_sourceOf 21 = .ok (.if_icmp .ne 9, 3) := by decide +kernel
theorem dX5_sourceOf_24 : decode cX5_sourceOf 24 = .ok (.iload_n 1, 1) := by decide +kernel
theorem dX5_sourceOf_25 : decode cX5_sourceOf 25 = .ok (.iload_n 2, 1) := by decide +kernel
theorem dX5_sourceOf_26 : decode cX5_sourceOf 26 = .ok (.iadd, 1) := by decide +kernel
theorem dX5_sourceOf_27 : decode cX5_sourceOf 27 = .ok (.iload_n 0, 1) := by decide +kernel
theorem dX5_sourceOf_28 : decode cX5_sourceOf 28 = .ok (.isub, 1) := by decide +kernel
theorem dX5_sourceOf_29 : decode cX5_sourceOf 29 = .ok (.ireturn, 1) := by decide +kernel
theorem dX5_sourceOf_30 : decode cX5_sourceOf 30 = .ok (.iload_n 0, 1) := by decide +kernel
theorem dX5_sourceOf_31 : decode cX5_sourceOf 31 = .ok (.iload_n 2, 1) := by decide +kernel
theorem dX5_sourceOf_32 : decode cX5_sourceOf 32 = .ok (.if_icmp .ne 5, 3) := by decide +kernel
theorem dX5_sourceOf_35 : decode cX5_sourceOf 35 = .ok (.iload_n 1, 1) := by decide +kernel
theorem dX5_sourceOf_36 : decode cX5_sourceOf 36 = .ok (.ireturn, 1) := by decide +kernel
theorem dX5_sourceOf_37 : decode cX5_sourceOf 37 = .ok (.iload_n 3, 1) := by decide +kernel
theorem dX5_sourceOf_38 : decode cX5_sourceOf 38 = .ok (.ifCond .ne 14, 3) := by decide +kernel
theorem dX5_sourceOf_41 : decode cX5_sourceOf 41 = .ok (.iload_n 0, 1) := by decide +kernel
theorem dX5_sourceOf_42 : decode cX5_sourceOf 42 = .ok (.iload_n 1, 1) := by decide +kernel
theorem dX5_sourceOf_43 : decode cX5_sourceOf 43 = .ok (.if_icmp .ne 7, 3) := by decide +kernel
theorem dX5_sourceOf_46 : decode cX5_sourceOf 46 = .ok (.iload_n 2, 1) := by decide +kernel
theorem dX5_sourceOf_47 : decode cX5_sourceOf 47 = .ok (.goto 4, 3) := by decide +kernel
theorem dX5_sourceOf_50 : decode cX5_sourceOf 50 = .ok (.iload_n 0, 1) := by decide +kernel
theorem dX5_sourceOf_51 : decode cX5_sourceOf 51 = .ok (.ireturn, 1) := by decide +kernel
theorem dX5_sourceOf_52 : decode cX5_sourceOf 52 = .ok (.iload_n 1, 1) := by decide +kernel
theorem dX5_sourceOf_53 : decode cX5_sourceOf 53 = .ok (.iload_n 2, 1) := by decide +kernel
theorem dX5_sourceOf_54 : decode cX5_sourceOf 54 = .ok (.if_icmp .ge 9, 3) := by decide +kernel
theorem dX5_sourceOf_57 : decode cX5_sourceOf 57 = .ok (.iload_n 0, 1) := by decide +kernel
theorem dX5_sourceOf_58 : decode cX5_sourceOf 58 = .ok (.iconst 1, 1) := by decide +kernel
theorem dX5_sourceOf_59 : decode cX5_sourceOf 59 = .ok (.iadd, 1) := by decide +kernel
theorem dX5_sourceOf_60 : decode cX5_sourceOf 60 = .ok (.goto 6, 3) := by decide +kernel
theorem dX5_sourceOf_63 : decode cX5_sourceOf 63 = .ok (.iload_n 0, 1) := by decide +kernel
theorem dX5_sourceOf_64 : decode cX5_sourceOf 64 = .ok (.iconst 1, 1) := by decide +kernel
theorem dX5_sourceOf_65 : decode cX5_sourceOf 65 = .ok (.isub, 1) := by decide +kernel
theorem dX5_sourceOf_66 : decode cX5_sourceOf 66 = .ok (.ireturn, 1) := by decide +kernel
set_option maxRecDepth 20000 in
theorem ggX5_exchangeNow_X5_planMove : GoodIn wsX5_exchangeNow wsX5_planMove := goodIn_r _ [7, 1, 8, 9, 10, 11, 12, 13, 14, 15, 6, 16, 17, 18, 19, 20, 21, 22, 23, 24, 25, 26, 27, 28, 29, 30, 31, 60, 61, 62, 63, 64, 65, 66, 67, 68, 69, 70, 71, 72] (by decide +kernel) (by decide +kernel)
set_option maxRecDepth 20000 in
theorem gX5_exchangeNow_X5_planMove : GoodIn wsX5_exchangeNow (wsV RX5 252 RX5 yX5_planMove wsX5_planMove) := goodIn_app (goodIn_of _ (by decide +kernel)) ggX5_exchangeNow_X5_planMove
set_option maxRecDepth 20000 in
theorem ggX5_exchangeNow_X3_applyTo : GoodIn wsX5_exchangeNow wsX3_applyTo := goodIn_r _ [35, 36, 37, 38, 11, 39, 13, 40, 31, 41, 42, 43, 44, 45, 46, 47, 48, 49, 50, 51, 52, 53, 54, 55, 56, 57, 58, 59, 73, 74, 75, 76, 77, 78, 79, 80, 81, 82, 83, 84, 69, 70, 71, 72] (by decide +kernel) (by decide +kernel)
set_option maxRecDepth 20000 in
theorem gX5_exchangeNow_X3_applyTo : GoodIn wsX5_exchangeNow (wsV RX5 305 RX3 yX3_applyTo wsX3_applyTo) := goodIn_app (goodIn_of _ (by decide +kernel)) ggX5_exchangeNow_X3_applyTo
theorem dX5_exchangeNow_0 : decode cX5_exchangeNow 0 = .ok (.aload_n 0, 1) := by decide +kernel
theorem dX5_exchangeNow_1 : decode cX5_exchangeNow 1 = .ok (.iload_n 1, 1) := by decide +kernel
theorem dX5_exchangeNow_2 : decode cX5_exchangeNow 2 = .ok (.iload_n 2, 1) := by decide +kernel
theorem dX5_exchangeNow_3 : decode cX5_exchangeNow 3 = .ok (.iconst 0, 1) := by decide +kernel
theorem dX5_exchangeNow_4 : decode cX5_exchangeNow 4 = .ok (.iload_n 3, 1) := by decide +kernel
theorem dX5_exchangeNow_5 : decode cX5_exchangeNow 5 = .ok (.invokevirtual 252, 3) := by decide +kernel
theorem dX5_exchangeNow_8 : decode cX5_exchangeNow 8 = .ok (.aload_n 0, 1) := by decide +kernel
theorem dX5_exchangeNow_9 : decode cX5_exchangeNow 9 = .ok (.getfield 43, 3) := by decide +kernel
theorem dX5_exchangeNow_12 : decode cX5_exchangeNow 12 = .ok (.aload_n 0, 1) := by decide +kernel
theorem dX5_exchangeNow_13 : decode cX5_exchangeNow 13 = .ok (.getfield 10, 3) := by decide +kernel
theorem dX5_exchangeNow_16 : decode cX5_exchangeNow 16 = .ok (.invokevirtual 305, 3) := by decide +kernel
theorem dX5_exchangeNow_19 : decode cX5_exchangeNow 19 = .ok (.return_, 1) := by decide +kernel
theorem dX5_draw_0 : decode cX5_draw 0 = .ok (.aload_n 0, 1) := by decide +kernel
theorem dX5_draw_1 : decode cX5_draw 1 = .ok (.aload_n 0, 1) := by decide +kernel
theorem dX5_draw_2 : decode cX5_draw 2 = .ok (.getfield 55, 3) := by decide +kernel
theorem dX5_draw_5 : decode cX5_draw 5 = .ok (.i2l, 1) := by decide +kernel
theorem dX5_draw_6 : decode cX5_draw 6 = .ok (.ldc2_w 323, 3) := by decide +kernel
theorem dX5_draw_9 : decode cX5_draw 9 = .ok (.lmul, 1) := by decide +kernel
theorem dX5_draw_10 : decode cX5_draw 10 = .ok (.ldc2_w 325, 3) := by decide +kernel
theorem dX5_draw_13 : decode cX5_draw 13 = .ok (.ladd, 1) := by decide +kernel
theorem dX5_draw_14 : decode cX5_draw 14 = .ok (.ldc2_w 327, 3) := by decide +kernel
theorem dX5_draw_17 : decode cX5_draw 17 = .ok (.land, 1) := by decide +kernel
theorem dX5_draw_18 : decode cX5_draw 18 = .ok (.l2i, 1) := by decide +kernel
theorem dX5_draw_19 : decode cX5_draw 19 = .ok (.putfield 55, 3) := by decide +kernel
theorem dX5_draw_22 : decode cX5_draw 22 = .ok (.iload_n 1, 1) := by decide +kernel
theorem dX5_draw_23 : decode cX5_draw 23 = .ok (.ifCond .le 16, 3) := by decide +kernel
theorem dX5_draw_26 : decode cX5_draw 26 = .ok (.aload_n 0, 1) := by decide +kernel
theorem dX5_draw_27 : decode cX5_draw 27 = .ok (.getfield 55, 3) := by decide +kernel
theorem dX5_draw_30 : decode cX5_draw 30 = .ok (.ldc_w 329, 3) := by decide +kernel
theorem dX5_draw_33 : decode cX5_draw 33 = .ok (.idiv, 1) := by decide +kernel
theorem dX5_draw_34 : decode cX5_draw 34 = .ok (.iload_n 1, 1) := by decide +kernel
theorem dX5_draw_35 : decode cX5_draw 35 = .ok (.irem, 1) := by decide +kernel
theorem dX5_draw_36 : decode cX5_draw 36 = .ok (.goto 4, 3) := by decide +kernel
theorem dX5_draw_39 : decode cX5_draw 39 = .ok (.iconst 0, 1) := by decide +kernel
theorem dX5_draw_40 : decode cX5_draw 40 = .ok (.ireturn, 1) := by decide +kernel
set_option maxRecDepth 20000 in
theorem ggX5_putByChance_X5_draw : GoodIn wsX5_putByChance wsX5_draw := goodIn_r _ [6, 7, 8, 9, 10, 11, 60, 61, 62, 63, 64, 65, 66, 67, 68] (by decide +kernel) (by decide +kernel)
set_option maxRecDepth 20000 in
theorem gX5_putByChance_X5_draw : GoodIn wsX5_putByChance (wsV RX5 330 RX5 yX5_draw wsX5_draw) := goodIn_app (goodIn_of _ (by decide +kernel)) ggX5_putByChance_X5_draw
set_option maxRecDepth 20000 in
theorem ggX5_putByChance_X5_made : GoodIn wsX5_putByChance wsX5_made := goodIn_r _ [14] (by decide +kernel) (by decide +kernel)
set_option maxRecDepth 20000 in
theorem gX5_putByChance_X5_made : GoodIn wsX5_putByChance (va_wsS RX5 212 yX5_made wsX5_made) := goodIn_app (goodIn_of _ (by decide +kernel)) ggX5_putByChance_X5_made
set_option maxRecDepth 20000 in
theorem ggX5_putByChance_X0_whyNotPut : GoodIn wsX5_putByChance wsX0_whyNotPut := goodIn_r _ [19, 20, 21, 22, 18, 23, 24, 25, 26, 27, 28, 29, 30, 31, 32, 33, 34, 35, 36, 37, 38, 5, 39, 40, 41, 42, 43, 44, 45, 46, 69, 70, 71, 72, 73, 74, 75, 76, 77, 78, 79, 80] (by decide +kernel) (by decide +kernel)
set_option maxRecDepth 20000 in
theorem gX5_putByChance_X0_whyNotPut : GoodIn wsX5_putByChance (wsV RX5 193 RX0 yX0_whyNotPut wsX0_whyNotPut) := goodIn_app (goodIn_of _ (by decide +kernel)) ggX5_putByChance_X0_whyNotPut
set_option maxRecDepth 20000 in
theorem ggX5_putByChance_X0_store : GoodIn wsX5_putByChance wsX0_store := goodIn_r _ [50, 24, 25, 26, 18, 27, 28, 13, 5, 14, 51, 52, 53, 54, 55, 56, 57, 58, 59, 69, 70, 71, 72, 73, 74, 75, 76, 77, 78, 79, 80] (by decide +kernel) (by decide +kernel)
set_option maxRecDepth 20000 in
theorem gX5_putByChance_X0_store : GoodIn wsX5_putByChance (wsV RX5 197 RX0 yX0_store wsX0_store) := goodIn_app (goodIn_of _ (by decide +kernel)) ggX5_putByChance_X0_store
theorem dX5_putByChance_0 : decode cX5_putByChance 0 = .ok (.aload_n 0, 1) := by decide +kernel
theorem dX5_putByChance_1 : decode cX5_putByChance 1 = .ok (.bipush 6, 2) := by decide +kernel
theorem dX5_putByChance_3 : decode cX5_putByChance 3 = .ok (.invokevirtual 330, 3) := by decide +kernel
theorem dX5_putByChance_6 : decode cX5_putByChance 6 = .ok (.istore_n 1, 1) := by decide +kernel
theorem dX5_putByChance_7 : decode cX5_putByChance 7 = .ok (.aload_n 0, 1) := by decide +kernel
theorem dX5_putByChance_8 : decode cX5_putByChance 8 = .ok (.bipush 12, 2) := by decide +kernel
theorem dX5_putByChance_10 : decode cX5_putByChance 10 = .ok (.invokevirtual 330, 3) := by decide +kernel
theorem dX5_putByChance_13 : decode cX5_putByChance 13 = .ok (.istore_n 2, 1) := by decide +kernel
theorem dX5_putByChance_14 : decode cX5_putByChance 14 = .ok (.aload_n 0, 1) := by decide +kernel
theorem dX5_putByChance_15 : decode cX5_putByChance 15 = .ok (.bipush 10, 2) := by decide +kernel
theorem dX5_putByChance_17 : decode cX5_putByChance 17 = .ok (.invokevirtual 330, 3) := by decide +kernel
theorem dX5_putByChance_20 : decode cX5_putByChance 20 = .ok (.istore_n 3, 1) := by decide +kernel
theorem dX5_putByChance_21 : decode cX5_putByChance 21 = .ok (.aload_n 0, 1) := by decide +kernel
theorem dX5_putByChance_22 : decode cX5_putByChance 22 = .ok (.sipush 256, 3) := by decide +kernel
theorem dX5_putByChance_25 : decode cX5_putByChance 25 = .ok (.invokevirtual 330, 3) := by decide +kernel
theorem dX5_putByChance_28 : decode cX5_putByChance 28 = .ok (.istore 4, 2) := by decide +kernel
theorem dX5_putByChance_30 : decode cX5_putByChance 30 = .ok (.iload_n 3, 1) := by decide +kernel
theorem dX5_putByChance_31 : decode cX5_putByChance 31 = .ok (.bipush 8, 2) := by decide +kernel
theorem dX5_putByChance_33 : decode cX5_putByChance 33 = .ok (.if_icmp .ne 12, 3) := by decide +kernel
theorem dX5_putByChance_36 : decode cX5_putByChance 36 = .ok (.iload 4, 2) := by decide +kernel
theorem dX5_putByChance_38 : decode cX5_putByChance 38 = .ok (.bipush 8, 2) := by decide +kernel
theorem dX5_putByChance_40 : decode cX5_putByChance 40 = .ok (.irem, 1) := by decide +kernel
theorem dX5_putByChance_41 : decode cX5_putByChance 41 = .ok (.i2l, 1) := by decide +kernel
theorem dX5_putByChance_42 : decode cX5_putByChance 42 = .ok (.goto 14, 3) := by decide +kernel
theorem dX5_putByChance_45 : decode cX5_putByChance 45 = .ok (.iload_n 3, 1) := by decide +kernel
theorem dX5_putByChance_46 : decode cX5_putByChance 46 = .ok (.iload 4, 2) := by decide +kernel
theorem dX5_putByChance_48 : decode cX5_putByChance 48 = .ok (.sipush 128, 3) := by decide +kernel
theorem dX5_putByChance_51 : decode cX5_putByChance 51 = .ok (.isub, 1) := by decide +kernel
theorem dX5_putByChance_52 : decode cX5_putByChance 52 = .ok (.i2l, 1) := by decide +kernel
theorem dX5_putByChance_53 : decode cX5_putByChance 53 = .ok (.invokestatic 212, 3) := by decide +kernel
theorem dX5_putByChance_56 : decode cX5_putByChance 56 = .ok (.lstore 5, 2) := by decide +kernel
theorem dX5_putByChance_58 : decode cX5_putByChance 58 = .ok (.aload_n 0, 1) := by decide +kernel
theorem dX5_putByChance_59 : decode cX5_putByChance 59 = .ok (.getfield 10, 3) := by decide +kernel
theorem dX5_putByChance_62 : decode cX5_putByChance 62 = .ok (.iload_n 1, 1) := by decide +kernel
theorem dX5_putByChance_63 : decode cX5_putByChance 63 = .ok (.iload_n 2, 1) := by decide +kernel
theorem dX5_putByChance_64 : decode cX5_putByChance 64 = .ok (.iload_n 3, 1) := by decide +kernel
theorem dX5_putByChance_65 : decode cX5_putByChance 65 = .ok (.lload 5, 2) := by decide +kernel
theorem dX5_putByChance_67 : decode cX5_putByChance 67 = .ok (.iconst 0, 1) := by decide +kernel
theorem dX5_putByChance_68 : decode cX5_putByChance 68 = .ok (.invokevirtual 193, 3) := by decide +kernel
theorem dX5_putByChance_71 : decode cX5_putByChance 71 = .ok (.ifCond .eq 5, 3) := by decide +kernel
theorem dX5_putByChance_74 : decode cX5_putByChance 74 = .ok (.iconst 0, 1) := by decide +kernel
theorem dX5_putByChance_75 : decode cX5_putByChance 75 = .ok (.ireturn, 1) := by decide +kernel
theorem dX5_putByChance_76 : decode cX5_putByChance 76 = .ok (.aload_n 0, 1) := by decide +kernel
theorem dX5_putByChance_77 : decode cX5_putByChance 77 = .ok (.getfield 10, 3) := by decide +kernel
theorem dX5_putByChance_80 : decode cX5_putByChance 80 = .ok (.iload_n 1, 1) := by decide +kernel
theorem dX5_putByChance_81 : decode cX5_putByChance 81 = .ok (.iload_n 2, 1) := by decide +kernel
theorem dX5_putByChance_82 : decode cX5_putByChance 82 = .ok (.iload_n 3, 1) := by decide +kernel
theorem dX5_putByChance_83 : decode cX5_putByChance 83 = .ok (.lload 5, 2) := by decide +kernel
theorem dX5_putByChance_85 : decode cX5_putByChance 85 = .ok (.invokevirtual 197, 3) := by decide +kernel
theorem dX5_putByChance_88 : decode cX5_putByChance 88 = .ok (.iconst 1, 1) := by decide +kernel
theorem dX5_putByChance_89 : decode cX5_putByChance 89 = .ok (.ireturn, 1) := by decide +kernel
